theorem dM_may_0 : decode cM_may 0 = .ok (.iload_n 1, 1) := by decide +kernel
theorem dM_may_1 : decode cM_may 1 = .ok (.ifCond .eq 9, 3) := by decide +kernel
theorem dM_may_4 : decode cM_may 4 = .ok (.iload_n 1, 1) := by decide +kernel
theorem dM_may_5 : decode cM_may 5 = .ok (.bipush 9, 2) := by decide +kernel
theorem dM_may_7 : decode cM_may 7 = .ok (.if_icmp .ne 7, 3) := by decide +kernel
theorem dM_may_10 : decode cM_may 10 = .ok (.iconst 1, 1) := by decide +kernel
theorem dM_may_11 : decode cM_may 11 = .ok (.goto 4, 3) := by decide +kernel
theorem dM_may_14 : decode cM_may 14 = .ok (.iconst 0, 1) := by decide +kernel
theorem dM_may_15 : decode cM_may 15 = .ok (.istore_n 3, 1) := by decide +kernel
theorem dM_may_16 : decode cM_may 16 = .ok (.iload_n 2, 1) := by decide +kernel
theorem dM_may_17 : decode cM_may 17 = .ok (.ifCond .eq 9, 3) := by decide +kernel
theorem dM_may_20 : decode cM_may 20 = .ok (.iload_n 2, 1) := by decide +kernel
theorem dM_may_21 : decode cM_may 21 = .ok (.bipush 9, 2) := by decide +kernel
theorem dM_may_23 : decode cM_may 23 = .ok (.if_icmp .ne 7, 3) := by decide +kernel
theorem dM_may_26 : decode cM_may 26 = .ok (.iconst 1, 1) := by decide +kernel
theorem dM_may_27 : decode cM_may 27 = .ok (.goto 4, 3) := by decide +kernel
theorem dM_may_30 : decode cM_may 30 = .ok (.iconst 0, 1) := by decide +kernel
theorem dM_may_31 : decode cM_may 31 = .ok (.istore 4, 2) := by decide +kernel
theorem dM_may_33 : decode cM_may 33 = .ok (.iload_n 1, 1) := by decide +kernel
theorem dM_may_34 : decode cM_may 34 = .ok (.iconst 2, 1) := by decide +kernel
theorem dM_may_35 : decode cM_may 35 = .ok (.if_icmp .ne 5, 3) := by decide +kernel
theorem dM_may_38 : decode cM_may 38 = .ok (.iconst 1, 1) := by decide +kernel
theorem dM_may_39 : decode cM_may 39 = .ok (.ireturn, 1) := by decide +kernel
theorem dM_may_40 : decode cM_may 40 = .ok (.iload_n 1, 1) := by decide +kernel
theorem dM_may_41 : decode cM_may 41 = .ok (.bipush 7, 2) := by decide +kernel
theorem dM_may_43 : decode cM_may 43 = .ok (.if_icmp .eq 15, 3) := by decide +kernel
theorem dM_may_46 : decode cM_may 46 = .ok (.iload_n 2, 1) := by decide +kernel
theorem dM_may_47 : decode cM_may 47 = .ok (.bipush 7, 2) := by decide +kernel
theorem dM_may_49 : decode cM_may 49 = .ok (.if_icmp .eq 9, 3) := by decide +kernel
theorem dM_may_52 : decode cM_may 52 = .ok (.iload_n 2, 1) := by decide +kernel
theorem dM_may_53 : decode cM_may 53 = .ok (.bipush 8, 2) := by decide +kernel
theorem dM_may_55 : decode cM_may 55 = .ok (.if_icmp .ne 5, 3) := by decide +kernel
theorem dM_may_58 : decode cM_may 58 = .ok (.iconst 0, 1) := by decide +kernel
theorem dM_may_59 : decode cM_may 59 = .ok (.ireturn, 1) := by decide +kernel
theorem dM_may_60 : decode cM_may 60 = .ok (.iload_n 1, 1) := by decide +kernel
theorem dM_may_61 : decode cM_may 61 = .ok (.bipush 8, 2) := by decide +kernel
theorem dM_may_63 : decode cM_may 63 = .ok (.if_icmp .eq 9, 3) := by decide +kernel
theorem dM_may_66 : decode cM_may 66 = .ok (.iload_n 1, 1) := by decide +kernel
theorem dM_may_67 : decode cM_may 67 = .ok (.bipush 12, 2) := by decide +kernel
theorem dM_may_69 : decode cM_may 69 = .ok (.if_icmp .ne 9, 3) := by decide +kernel
theorem dM_may_72 : decode cM_may 72 = .ok (.iload_n 2, 1) := by decide +kernel
theorem dM_may_73 : decode cM_may 73 = .ok (.bipush 9, 2) := by decide +kernel
theorem dM_may_75 : decode cM_may 75 = .ok (.if_icmp .eq 42, 3) := by decide +kernel
theorem dM_may_78 : decode cM_may 78 = .ok (.iload_n 3, 1) := by decide +kernel
theorem dM_may_79 : decode cM_may 79 = .ok (.ifCond .eq 8, 3) := by decide +kernel
theorem dM_may_82 : decode cM_may 82 = .ok (.iload 4, 2) := by decide +kernel
theorem dM_may_84 : decode cM_may 84 = .ok (.ifCond .ne 33, 3) := by decide +kernel
theorem dM_may_87 : decode cM_may 87 = .ok (.iload_n 1, 1) := by decide +kernel
theorem dM_may_88 : decode cM_may 88 = .ok (.bipush 12, 2) := by decide +kernel
theorem dM_may_90 : decode cM_may 90 = .ok (.if_icmp .ne 7, 3) := by decide +kernel
theorem dM_may_93 : decode cM_may 93 = .ok (.iload_n 2, 1) := by decide +kernel
theorem dM_may_94 : decode cM_may 94 = .ok (.ifCond .eq 23, 3) := by decide +kernel
theorem dM_may_97 : decode cM_may 97 = .ok (.iload_n 3, 1) := by decide +kernel
theorem dM_may_98 : decode cM_may 98 = .ok (.ifCond .eq 8, 3) := by decide +kernel
theorem dM_may_101 : decode cM_may 101 = .ok (.iload_n 2, 1) := by decide +kernel
theorem dM_may_102 : decode cM_may 102 = .ok (.iconst 5, 1) := by decide +kernel
theorem dM_may_103 : decode cM_may 103 = .ok (.if_icmp .eq 14, 3) := by decide +kernel
theorem dM_may_106 : decode cM_may 106 = .ok (.iload_n 1, 1) := by decide +kernel
theorem dM_may_107 : decode cM_may 107 = .ok (.bipush 6, 2) := by decide +kernel
theorem dM_may_109 : decode cM_may 109 = .ok (.if_icmp .ne 12, 3) := by decide +kernel
theorem dM_may_112 : decode cM_may 112 = .ok (.iload 4, 2) := by decide +kernel
theorem dM_may_114 : decode cM_may 114 = .ok (.ifCond .eq 7, 3) := by decide +kernel
theorem dM_may_117 : decode cM_may 117 = .ok (.iconst 1, 1) := by decide +kernel
theorem dM_may_118 : decode cM_may 118 = .ok (.goto 4, 3) := by decide +kernel
theorem dM_may_121 : decode cM_may 121 = .ok (.iconst 0, 1) := by decide +kernel
theorem dM_may_122 : decode cM_may 122 = .ok (.istore 5, 2) := by decide +kernel
theorem dM_may_124 : decode cM_may 124 = .ok (.iload 5, 2) := by decide +kernel
theorem dM_may_126 : decode cM_may 126 = .ok (.ifCond .ne 7, 3) := by decide +kernel
theorem dM_may_129 : decode cM_may 129 = .ok (.iconst 1, 1) := by decide +kernel
theorem dM_may_130 : decode cM_may 130 = .ok (.goto 4, 3) := by decide +kernel
theorem dM_may_133 : decode cM_may 133 = .ok (.iconst 0, 1) := by decide +kernel
theorem dM_may_134 : decode cM_may 134 = .ok (.ireturn, 1) := by decide +kernel
theorem dM_line_0 : decode cM_line 0 = .ok (.aload_n 0, 1) := by decide +kernel
theorem dM_line_1 : decode cM_line 1 = .ok (.aload_n 0, 1) := by decide +kernel
theorem dM_line_2 : decode cM_line 2 = .ok (.iload_n 1, 1) := by decide +kernel
theorem dM_line_3 : decode cM_line 3 = .ok (.aload_n 0, 1) := by decide +kernel
theorem dM_line_4 : decode cM_line 4 = .ok (.getfield 77, 3) := by decide +kernel
theorem dM_line_7 : decode cM_line 7 = .ok (.iconst 1, 1) := by decide +kernel
theorem dM_line_8 : decode cM_line 8 = .ok (.iadd, 1) := by decide +kernel
theorem dM_line_9 : decode cM_line 9 = .ok (.invokevirtual 80, 3) := by decide +kernel
theorem dM_line_12 : decode cM_line 12 = .ok (.ifCond .eq 7, 3) := by decide +kernel
theorem dM_line_15 : decode cM_line 15 = .ok (.iconst 1, 1) := by decide +kernel
theorem dM_line_16 : decode cM_line 16 = .ok (.goto 4, 3) := by decide +kernel
theorem dM_line_19 : decode cM_line 19 = .ok (.iconst 0, 1) := by decide +kernel
theorem dM_line_20 : decode cM_line 20 = .ok (.putfield 65, 3) := by decide +kernel
theorem dM_line_23 : decode cM_line 23 = .ok (.aload_n 0, 1) := by decide +kernel
theorem dM_line_24 : decode cM_line 24 = .ok (.getfield 65, 3) := by decide +kernel
theorem dM_line_27 : decode cM_line 27 = .ok (.ifCond .ne 7, 3) := by decide +kernel
theorem dM_line_30 : decode cM_line 30 = .ok (.iload_n 1, 1) := by decide +kernel
theorem dM_line_31 : decode cM_line 31 = .ok (.ifCond .ne 5, 3) := by decide +kernel
theorem dM_line_34 : decode cM_line 34 = .ok (.iconst 0, 1) := by decide +kernel
theorem dM_line_35 : decode cM_line 35 = .ok (.ireturn, 1) := by decide +kernel
theorem dM_line_36 : decode cM_line 36 = .ok (.aload_n 0, 1) := by decide +kernel
theorem dM_line_37 : decode cM_line 37 = .ok (.invokevirtual 147, 3) := by decide +kernel
theorem dM_line_40 : decode cM_line 40 = .ok (.aload_n 0, 1) := by decide +kernel
theorem dM_line_41 : decode cM_line 41 = .ok (.getfield 50, 3) := by decide +kernel
theorem dM_line_44 : decode cM_line 44 = .ok (.iload_n 1, 1) := by decide +kernel
theorem dM_line_45 : decode cM_line 45 = .ok (.iconst 1, 1) := by decide +kernel
theorem dM_line_46 : decode cM_line 46 = .ok (.isub, 1) := by decide +kernel
theorem dM_line_47 : decode cM_line 47 = .ok (.iaload, 1) := by decide +kernel
theorem dM_line_48 : decode cM_line 48 = .ok (.istore_n 2, 1) := by decide +kernel
theorem dM_line_49 : decode cM_line 49 = .ok (.iload_n 1, 1) := by decide +kernel
theorem dM_line_50 : decode cM_line 50 = .ok (.aload_n 0, 1) := by decide +kernel
theorem dM_line_51 : decode cM_line 51 = .ok (.getfield 77, 3) := by decide +kernel
theorem dM_line_54 : decode cM_line 54 = .ok (.if_icmp .eq 8, 3) := by decide +kernel
theorem dM_line_57 : decode cM_line 57 = .ok (.iload_n 2, 1) := by decide +kernel
theorem dM_line_58 : decode cM_line 58 = .ok (.iconst 1, 1) := by decide +kernel
theorem dM_line_59 : decode cM_line 59 = .ok (.if_icmp .ne 5, 3) := by decide +kernel
theorem dM_line_62 : decode cM_line 62 = .ok (.iconst 2, 1) := by decide +kernel
theorem dM_line_63 : decode cM_line 63 = .ok (.ireturn, 1) := by decide +kernel
theorem dM_line_64 : decode cM_line 64 = .ok (.aload_n 0, 1) := by decide +kernel
theorem dM_line_65 : decode cM_line 65 = .ok (.getfield 50, 3) := by decide +kernel
theorem dM_line_68 : decode cM_line 68 = .ok (.iload_n 1, 1) := by decide +kernel
theorem dM_line_69 : decode cM_line 69 = .ok (.iaload, 1) := by decide +kernel
theorem dM_line_70 : decode cM_line 70 = .ok (.istore_n 3, 1) := by decide +kernel
theorem dM_line_71 : decode cM_line 71 = .ok (.aload_n 0, 1) := by decide +kernel
theorem dM_line_72 : decode cM_line 72 = .ok (.iload_n 1, 1) := by decide +kernel
theorem dM_line_73 : decode cM_line 73 = .ok (.iconst 1, 1) := by decide +kernel
theorem dM_line_74 : decode cM_line 74 = .ok (.isub, 1) := by decide +kernel
theorem dM_line_75 : decode cM_line 75 = .ok (.invokevirtual 150, 3) := by decide +kernel
theorem dM_line_78 : decode cM_line 78 = .ok (.istore 4, 2) := by decide +kernel
theorem dM_line_80 : decode cM_line 80 = .ok (.iload_n 3, 1) := by decide +kernel
theorem dM_line_81 : decode cM_line 81 = .ok (.ifCond .le 10, 3) := by decide +kernel
theorem dM_line_84 : decode cM_line 84 = .ok (.iload_n 3, 1) := by decide +kernel
theorem dM_line_85 : decode cM_line 85 = .ok (.iconst 4, 1) := by decide +kernel
theorem dM_line_86 : decode cM_line 86 = .ok (.if_icmp .ge 5, 3) := by decide +kernel
theorem dM_line_89 : decode cM_line 89 = .ok (.iconst 0, 1) := by decide +kernel
theorem dM_line_90 : decode cM_line 90 = .ok (.ireturn, 1) := by decide +kernel
theorem dM_line_91 : decode cM_line 91 = .ok (.iload 4, 2) := by decide +kernel
theorem dM_line_93 : decode cM_line 93 = .ok (.iconst 3, 1) := by decide +kernel
theorem dM_line_94 : decode cM_line 94 = .ok (.if_icmp .ne 5, 3) := by decide +kernel
theorem dM_line_97 : decode cM_line 97 = .ok (.iconst 1, 1) := by decide +kernel
theorem dM_line_98 : decode cM_line 98 = .ok (.ireturn, 1) := by decide +kernel
theorem dM_line_99 : decode cM_line 99 = .ok (.aload_n 0, 1) := by decide +kernel
theorem dM_line_100 : decode cM_line 100 = .ok (.getfield 53, 3) := by decide +kernel
theorem dM_line_103 : decode cM_line 103 = .ok (.iload_n 1, 1) := by decide +kernel
theorem dM_line_104 : decode cM_line 104 = .ok (.baload, 1) := by decide +kernel
theorem dM_line_105 : decode cM_line 105 = .ok (.ifCond .ne 43, 3) := by decide +kernel
theorem dM_line_108 : decode cM_line 108 = .ok (.iload_n 2, 1) := by decide +kernel
theorem dM_line_109 : decode cM_line 109 = .ok (.iconst 4, 1) := by decide +kernel
theorem dM_line_110 : decode cM_line 110 = .ok (.if_icmp .eq 38, 3) := by decide +kernel
theorem dM_line_113 : decode cM_line 113 = .ok (.iload_n 3, 1) := by decide +kernel
theorem dM_line_114 : decode cM_line 114 = .ok (.iconst 4, 1) := by decide +kernel
theorem dM_line_115 : decode cM_line 115 = .ok (.if_icmp .eq 33, 3) := by decide +kernel
theorem dM_line_118 : decode cM_line 118 = .ok (.iload_n 3, 1) := by decide +kernel
theorem dM_line_119 : decode cM_line 119 = .ok (.bipush 6, 2) := by decide +kernel
theorem dM_line_121 : decode cM_line 121 = .ok (.if_icmp .eq 27, 3) := by decide +kernel
theorem dM_line_124 : decode cM_line 124 = .ok (.iload_n 3, 1) := by decide +kernel
theorem dM_line_125 : decode cM_line 125 = .ok (.bipush 12, 2) := by decide +kernel
theorem dM_line_127 : decode cM_line 127 = .ok (.if_icmp .eq 21, 3) := by decide +kernel
theorem dM_line_130 : decode cM_line 130 = .ok (.iload 4, 2) := by decide +kernel
theorem dM_line_132 : decode cM_line 132 = .ok (.iconst 5, 1) := by decide +kernel
theorem dM_line_133 : decode cM_line 133 = .ok (.if_icmp .eq 15, 3) := by decide +kernel
theorem dM_line_136 : decode cM_line 136 = .ok (.iload 4, 2) := by decide +kernel
theorem dM_line_138 : decode cM_line 138 = .ok (.bipush 7, 2) := by decide +kernel
theorem dM_line_140 : decode cM_line 140 = .ok (.if_icmp .ne 12, 3) := by decide +kernel
theorem dM_line_143 : decode cM_line 143 = .ok (.iload_n 3, 1) := by decide +kernel
theorem dM_line_144 : decode cM_line 144 = .ok (.iconst 5, 1) := by decide +kernel
theorem dM_line_145 : decode cM_line 145 = .ok (.if_icmp .ne 7, 3) := by decide +kernel
theorem dM_line_148 : decode cM_line 148 = .ok (.iconst 1, 1) := by decide +kernel
theorem dM_line_149 : decode cM_line 149 = .ok (.goto 4, 3) := by decide +kernel
theorem dM_line_152 : decode cM_line 152 = .ok (.iconst 0, 1) := by decide +kernel
theorem dM_line_153 : decode cM_line 153 = .ok (.istore 5, 2) := by decide +kernel
theorem dM_line_155 : decode cM_line 155 = .ok (.iload 5, 2) := by decide +kernel
theorem dM_line_157 : decode cM_line 157 = .ok (.ifCond .ne 16, 3) := by decide +kernel
theorem dM_line_160 : decode cM_line 160 = .ok (.aload_n 0, 1) := by decide +kernel
theorem dM_line_161 : decode cM_line 161 = .ok (.iload_n 2, 1) := by decide +kernel
theorem dM_line_162 : decode cM_line 162 = .ok (.iload_n 3, 1) := by decide +kernel
theorem dM_line_163 : decode cM_line 163 = .ok (.invokevirtual 153, 3) := by decide +kernel
theorem dM_line_166 : decode cM_line 166 = .ok (.ifCond .eq 7, 3) := by decide +kernel
theorem dM_line_169 : decode cM_line 169 = .ok (.iconst 1, 1) := by decide +kernel
theorem dM_line_170 : decode cM_line 170 = .ok (.goto 4, 3) := by decide +kernel
theorem dM_line_173 : decode cM_line 173 = .ok (.iconst 0, 1) := by decide +kernel
theorem dM_line_174 : decode cM_line 174 = .ok (.ireturn, 1) := by decide +kernel
theorem dM_baseOf_0 : decode cM_baseOf 0 = .ok (.iload_n 1, 1) := by decide +kernel
theorem dM_baseOf_1 : decode cM_baseOf 1 = .ok (.ifCond .eq 8, 3) := by decide +kernel
theorem dM_baseOf_4 : decode cM_baseOf 4 = .ok (.iload_n 1, 1) := by decide +kernel
theorem dM_baseOf_5 : decode cM_baseOf 5 = .ok (.iconst 1, 1) := by decide +kernel
theorem dM_baseOf_6 : decode cM_baseOf 6 = .ok (.if_icmp .ne 5, 3) := by decide +kernel
theorem dM_baseOf_9 : decode cM_baseOf 9 = .ok (.iload_n 1, 1) := by decide +kernel
theorem dM_baseOf_10 : decode cM_baseOf 10 = .ok (.ireturn, 1) := by decide +kernel
theorem dM_baseOf_11 : decode cM_baseOf 11 = .ok (.iconst 0, 1) := by decide +kernel
theorem dM_baseOf_12 : decode cM_baseOf 12 = .ok (.istore_n 2, 1) := by decide +kernel
theorem dM_baseOf_13 : decode cM_baseOf 13 = .ok (.iload_n 2, 1) := by decide +kernel
theorem dM_baseOf_14 : decode cM_baseOf 14 = .ok (.aload_n 0, 1) := by decide +kernel
theorem dM_baseOf_15 : decode cM_baseOf 15 = .ok (.getfield 77, 3) := by decide +kernel
theorem dM_baseOf_18 : decode cM_baseOf 18 = .ok (.if_icmp .ge 35, 3) := by decide +kernel
theorem dM_baseOf_21 : decode cM_baseOf 21 = .ok (.aload_n 0, 1) := by decide +kernel
theorem dM_baseOf_22 : decode cM_baseOf 22 = .ok (.aload_n 0, 1) := by decide +kernel
theorem dM_baseOf_23 : decode cM_baseOf 23 = .ok (.getfield 26, 3) := by decide +kernel
theorem dM_baseOf_26 : decode cM_baseOf 26 = .ok (.iload_n 2, 1) := by decide +kernel
theorem dM_baseOf_27 : decode cM_baseOf 27 = .ok (.iaload, 1) := by decide +kernel
theorem dM_baseOf_28 : decode cM_baseOf 28 = .ok (.invokevirtual 156, 3) := by decide +kernel
theorem dM_baseOf_31 : decode cM_baseOf 31 = .ok (.istore_n 3, 1) := by decide +kernel
theorem dM_baseOf_32 : decode cM_baseOf 32 = .ok (.iload_n 3, 1) := by decide +kernel
theorem dM_baseOf_33 : decode cM_baseOf 33 = .ok (.iconst 3, 1) := by decide +kernel
theorem dM_baseOf_34 : decode cM_baseOf 34 = .ok (.if_icmp .ge 13, 3) := by decide +kernel
theorem dM_baseOf_37 : decode cM_baseOf 37 = .ok (.iload_n 3, 1) := by decide +kernel
theorem dM_baseOf_38 : decode cM_baseOf 38 = .ok (.ifCond .ne 7, 3) := by decide +kernel
theorem dM_baseOf_41 : decode cM_baseOf 41 = .ok (.iconst 0, 1) := by decide +kernel
theorem dM_baseOf_42 : decode cM_baseOf 42 = .ok (.goto 4, 3) := by decide +kernel
theorem dM_baseOf_45 : decode cM_baseOf 45 = .ok (.iconst 1, 1) := by decide +kernel
theorem dM_baseOf_46 : decode cM_baseOf 46 = .ok (.ireturn, 1) := by decide +kernel
theorem dM_baseOf_47 : decode cM_baseOf 47 = .ok (.iinc 2 1, 3) := by decide +kernel
theorem dM_baseOf_50 : decode cM_baseOf 50 = .ok (.goto (-37), 3) := by decide +kernel
theorem dM_baseOf_53 : decode cM_baseOf 53 = .ok (.iconst 0, 1) := by decide +kernel
theorem dM_baseOf_54 : decode cM_baseOf 54 = .ok (.ireturn, 1) := by decide +kernel
theorem dM_nearest_0 : decode cM_nearest 0 = .ok (.iload_n 1, 1) := by decide +kernel
theorem dM_nearest_1 : decode cM_nearest 1 = .ok (.iconst 1, 1) := by decide +kernel
theorem dM_nearest_2 : decode cM_nearest 2 = .ok (.isub, 1) := by decide +kernel
theorem dM_nearest_3 : decode cM_nearest 3 = .ok (.istore_n 2, 1) := by decide +kernel
theorem dM_nearest_4 : decode cM_nearest 4 = .ok (.aload_n 0, 1) := by decide +kernel
theorem dM_nearest_5 : decode cM_nearest 5 = .ok (.getfield 56, 3) := by decide +kernel
theorem dM_nearest_8 : decode cM_nearest 8 = .ok (.iload_n 2, 1) := by decide +kernel
theorem dM_nearest_9 : decode cM_nearest 9 = .ok (.iaload, 1) := by decide +kernel
theorem dM_nearest_10 : decode cM_nearest 10 = .ok (.iconst 2, 1) := by decide +kernel
theorem dM_nearest_11 : decode cM_nearest 11 = .ok (.if_icmp .le 9, 3) := by decide +kernel
theorem dM_nearest_14 : decode cM_nearest 14 = .ok (.iinc 2 (-1), 3) := by decide +kernel
theorem dM_nearest_17 : decode cM_nearest 17 = .ok (.goto (-13), 3) := by decide +kernel
theorem dM_nearest_20 : decode cM_nearest 20 = .ok (.aload_n 0, 1) := by decide +kernel
theorem dM_nearest_21 : decode cM_nearest 21 = .ok (.getfield 56, 3) := by decide +kernel
theorem dM_nearest_24 : decode cM_nearest 24 = .ok (.iload_n 2, 1) := by decide +kernel
theorem dM_nearest_25 : decode cM_nearest 25 = .ok (.iaload, 1) := by decide +kernel
theorem dM_nearest_26 : decode cM_nearest 26 = .ok (.ireturn, 1) := by decide +kernel
theorem dM_weaken_0 : decode cM_weaken 0 = .ok (.iconst 1, 1) := by decide +kernel
theorem dM_weaken_1 : decode cM_weaken 1 = .ok (.istore_n 1, 1) := by decide +kernel
theorem dM_weaken_2 : decode cM_weaken 2 = .ok (.iload_n 1, 1) := by decide +kernel
theorem dM_weaken_3 : decode cM_weaken 3 = .ok (.aload_n 0, 1) := by decide +kernel
theorem dM_weaken_4 : decode cM_weaken 4 = .ok (.getfield 77, 3) := by decide +kernel
theorem dM_weaken_7 : decode cM_weaken 7 = .ok (.if_icmp .gt 43, 3) := by decide +kernel
theorem dM_weaken_10 : decode cM_weaken 10 = .ok (.aload_n 0, 1) := by decide +kernel
theorem dM_weaken_11 : decode cM_weaken 11 = .ok (.getfield 56, 3) := by decide +kernel
theorem dM_weaken_14 : decode cM_weaken 14 = .ok (.iload_n 1, 1) := by decide +kernel
theorem dM_weaken_15 : decode cM_weaken 15 = .ok (.aload_n 0, 1) := by decide +kernel
theorem dM_weaken_16 : decode cM_weaken 16 = .ok (.getfield 56, 3) := by decide +kernel
theorem dM_weaken_19 : decode cM_weaken 19 = .ok (.iload_n 1, 1) := by decide +kernel
theorem dM_weaken_20 : decode cM_weaken 20 = .ok (.iaload, 1) := by decide +kernel
theorem dM_weaken_21 : decode cM_weaken 21 = .ok (.bipush 8, 2) := by decide +kernel
theorem dM_weaken_23 : decode cM_weaken 23 = .ok (.if_icmp .ne 14, 3) := by decide +kernel
theorem dM_weaken_26 : decode cM_weaken 26 = .ok (.aload_n 0, 1) := by decide +kernel
theorem dM_weaken_27 : decode cM_weaken 27 = .ok (.getfield 56, 3) := by decide +kernel
theorem dM_weaken_30 : decode cM_weaken 30 = .ok (.iload_n 1, 1) := by decide +kernel
theorem dM_weaken_31 : decode cM_weaken 31 = .ok (.iconst 1, 1) := by decide +kernel
theorem dM_weaken_32 : decode cM_weaken 32 = .ok (.isub, 1) := by decide +kernel
theorem dM_weaken_33 : decode cM_weaken 33 = .ok (.iaload, 1) := by decide +kernel
theorem dM_weaken_34 : decode cM_weaken 34 = .ok (.goto 9, 3) := by decide +kernel
theorem dM_weaken_37 : decode cM_weaken 37 = .ok (.aload_n 0, 1) := by decide +kernel
theorem dM_weaken_38 : decode cM_weaken 38 = .ok (.getfield 56, 3) := by decide +kernel
theorem dM_weaken_41 : decode cM_weaken 41 = .ok (.iload_n 1, 1) := by decide +kernel
theorem dM_weaken_42 : decode cM_weaken 42 = .ok (.iaload, 1) := by decide +kernel
theorem dM_weaken_43 : decode cM_weaken 43 = .ok (.iastore, 1) := by decide +kernel
theorem dM_weaken_44 : decode cM_weaken 44 = .ok (.iinc 1 1, 3) := by decide +kernel
theorem dM_weaken_47 : decode cM_weaken 47 = .ok (.goto (-45), 3) := by decide +kernel
theorem dM_weaken_50 : decode cM_weaken 50 = .ok (.iconst 1, 1) := by decide +kernel
theorem dM_weaken_51 : decode cM_weaken 51 = .ok (.istore_n 1, 1) := by decide +kernel
theorem dM_weaken_52 : decode cM_weaken 52 = .ok (.iload_n 1, 1) := by decide +kernel
theorem dM_weaken_53 : decode cM_weaken 53 = .ok (.aload_n 0, 1) := by decide +kernel
theorem dM_weaken_54 : decode cM_weaken 54 = .ok (.getfield 77, 3) := by decide +kernel
theorem dM_weaken_57 : decode cM_weaken 57 = .ok (.if_icmp .gt 45, 3) := by decide +kernel
theorem dM_weaken_60 : decode cM_weaken 60 = .ok (.aload_n 0, 1) := by decide +kernel
theorem dM_weaken_61 : decode cM_weaken 61 = .ok (.getfield 56, 3) := by decide +kernel
theorem dM_weaken_64 : decode cM_weaken 64 = .ok (.iload_n 1, 1) := by decide +kernel
theorem dM_weaken_65 : decode cM_weaken 65 = .ok (.aload_n 0, 1) := by decide +kernel
theorem dM_weaken_66 : decode cM_weaken 66 = .ok (.getfield 56, 3) := by decide +kernel
theorem dM_weaken_69 : decode cM_weaken 69 = .ok (.iload_n 1, 1) := by decide +kernel
theorem dM_weaken_70 : decode cM_weaken 70 = .ok (.iaload, 1) := by decide +kernel
theorem dM_weaken_71 : decode cM_weaken 71 = .ok (.iconst 3, 1) := by decide +kernel
theorem dM_weaken_72 : decode cM_weaken 72 = .ok (.if_icmp .ne 17, 3) := by decide +kernel
theorem dM_weaken_75 : decode cM_weaken 75 = .ok (.aload_n 0, 1) := by decide +kernel
theorem dM_weaken_76 : decode cM_weaken 76 = .ok (.iload_n 1, 1) := by decide +kernel
theorem dM_weaken_77 : decode cM_weaken 77 = .ok (.invokevirtual 159, 3) := by decide +kernel
theorem dM_weaken_80 : decode cM_weaken 80 = .ok (.iconst 2, 1) := by decide +kernel
theorem dM_weaken_81 : decode cM_weaken 81 = .ok (.if_icmp .ne 8, 3) := by decide +kernel
theorem dM_weaken_84 : decode cM_weaken 84 = .ok (.bipush 6, 2) := by decide +kernel
theorem dM_weaken_86 : decode cM_weaken 86 = .ok (.goto 9, 3) := by decide +kernel
theorem dM_weaken_89 : decode cM_weaken 89 = .ok (.aload_n 0, 1) := by decide +kernel
theorem dM_weaken_90 : decode cM_weaken 90 = .ok (.getfield 56, 3) := by decide +kernel
theorem dM_weaken_93 : decode cM_weaken 93 = .ok (.iload_n 1, 1) := by decide +kernel
theorem dM_weaken_94 : decode cM_weaken 94 = .ok (.iaload, 1) := by decide +kernel
theorem dM_weaken_95 : decode cM_weaken 95 = .ok (.iastore, 1) := by decide +kernel
theorem dM_weaken_96 : decode cM_weaken 96 = .ok (.iinc 1 1, 3) := by decide +kernel
theorem dM_weaken_99 : decode cM_weaken 99 = .ok (.goto (-47), 3) := by decide +kernel
theorem dM_weaken_102 : decode cM_weaken 102 = .ok (.iconst 1, 1) := by decide +kernel
theorem dM_weaken_103 : decode cM_weaken 103 = .ok (.istore_n 1, 1) := by decide +kernel
theorem dM_weaken_104 : decode cM_weaken 104 = .ok (.iload_n 1, 1) := by decide +kernel
theorem dM_weaken_105 : decode cM_weaken 105 = .ok (.aload_n 0, 1) := by decide +kernel
theorem dM_weaken_106 : decode cM_weaken 106 = .ok (.getfield 77, 3) := by decide +kernel
theorem dM_weaken_109 : decode cM_weaken 109 = .ok (.if_icmp .gt 35, 3) := by decide +kernel
theorem dM_weaken_112 : decode cM_weaken 112 = .ok (.aload_n 0, 1) := by decide +kernel
theorem dM_weaken_113 : decode cM_weaken 113 = .ok (.getfield 56, 3) := by decide +kernel
theorem dM_weaken_116 : decode cM_weaken 116 = .ok (.iload_n 1, 1) := by decide +kernel
theorem dM_weaken_117 : decode cM_weaken 117 = .ok (.aload_n 0, 1) := by decide +kernel
theorem dM_weaken_118 : decode cM_weaken 118 = .ok (.getfield 56, 3) := by decide +kernel
theorem dM_weaken_121 : decode cM_weaken 121 = .ok (.iload_n 1, 1) := by decide +kernel
theorem dM_weaken_122 : decode cM_weaken 122 = .ok (.iaload, 1) := by decide +kernel
theorem dM_weaken_123 : decode cM_weaken 123 = .ok (.iconst 2, 1) := by decide +kernel
theorem dM_weaken_124 : decode cM_weaken 124 = .ok (.if_icmp .ne 7, 3) := by decide +kernel
theorem dM_weaken_127 : decode cM_weaken 127 = .ok (.iconst 1, 1) := by decide +kernel
theorem dM_weaken_128 : decode cM_weaken 128 = .ok (.goto 9, 3) := by decide +kernel
theorem dM_weaken_131 : decode cM_weaken 131 = .ok (.aload_n 0, 1) := by decide +kernel
theorem dM_weaken_132 : decode cM_weaken 132 = .ok (.getfield 56, 3) := by decide +kernel
theorem dM_weaken_135 : decode cM_weaken 135 = .ok (.iload_n 1, 1) := by decide +kernel
theorem dM_weaken_136 : decode cM_weaken 136 = .ok (.iaload, 1) := by decide +kernel
theorem dM_weaken_137 : decode cM_weaken 137 = .ok (.iastore, 1) := by decide +kernel
theorem dM_weaken_138 : decode cM_weaken 138 = .ok (.iinc 1 1, 3) := by decide +kernel
theorem dM_weaken_141 : decode cM_weaken 141 = .ok (.goto (-37), 3) := by decide +kernel
theorem dM_weaken_144 : decode cM_weaken 144 = .ok (.iconst 1, 1) := by decide +kernel
theorem dM_weaken_145 : decode cM_weaken 145 = .ok (.istore_n 1, 1) := by decide +kernel
theorem dM_weaken_146 : decode cM_weaken 146 = .ok (.iload_n 1, 1) := by decide +kernel
theorem dM_weaken_147 : decode cM_weaken 147 = .ok (.aload_n 0, 1) := by decide +kernel
theorem dM_weaken_148 : decode cM_weaken 148 = .ok (.getfield 77, 3) := by decide +kernel
theorem dM_weaken_151 : decode cM_weaken 151 = .ok (.if_icmp .gt 109, 3) := by decide +kernel
theorem dM_weaken_154 : decode cM_weaken 154 = .ok (.aload_n 0, 1) := by decide +kernel
theorem dM_weaken_155 : decode cM_weaken 155 = .ok (.getfield 56, 3) := by decide +kernel
theorem dM_weaken_158 : decode cM_weaken 158 = .ok (.iload_n 1, 1) := by decide +kernel
theorem dM_weaken_159 : decode cM_weaken 159 = .ok (.iconst 1, 1) := by decide +kernel
theorem dM_weaken_160 : decode cM_weaken 160 = .ok (.isub, 1) := by decide +kernel
theorem dM_weaken_161 : decode cM_weaken 161 = .ok (.iaload, 1) := by decide +kernel
theorem dM_weaken_162 : decode cM_weaken 162 = .ok (.istore_n 2, 1) := by decide +kernel
theorem dM_weaken_163 : decode cM_weaken 163 = .ok (.iload_n 2, 1) := by decide +kernel
theorem dM_weaken_164 : decode cM_weaken 164 = .ok (.aload_n 0, 1) := by decide +kernel
theorem dM_weaken_165 : decode cM_weaken 165 = .ok (.getfield 56, 3) := by decide +kernel
theorem dM_weaken_168 : decode cM_weaken 168 = .ok (.iload_n 1, 1) := by decide +kernel
theorem dM_weaken_169 : decode cM_weaken 169 = .ok (.iconst 1, 1) := by decide +kernel
theorem dM_weaken_170 : decode cM_weaken 170 = .ok (.iadd, 1) := by decide +kernel
theorem dM_weaken_171 : decode cM_weaken 171 = .ok (.iaload, 1) := by decide +kernel
theorem dM_weaken_172 : decode cM_weaken 172 = .ok (.if_icmp .ne 7, 3) := by decide +kernel
theorem dM_weaken_175 : decode cM_weaken 175 = .ok (.iconst 1, 1) := by decide +kernel
theorem dM_weaken_176 : decode cM_weaken 176 = .ok (.goto 4, 3) := by decide +kernel
theorem dM_weaken_179 : decode cM_weaken 179 = .ok (.iconst 0, 1) := by decide +kernel
theorem dM_weaken_180 : decode cM_weaken 180 = .ok (.istore_n 3, 1) := by decide +kernel
theorem dM_weaken_181 : decode cM_weaken 181 = .ok (.aload_n 0, 1) := by decide +kernel
theorem dM_weaken_182 : decode cM_weaken 182 = .ok (.getfield 56, 3) := by decide +kernel
theorem dM_weaken_185 : decode cM_weaken 185 = .ok (.iload_n 1, 1) := by decide +kernel
theorem dM_weaken_186 : decode cM_weaken 186 = .ok (.iaload, 1) := by decide +kernel
theorem dM_weaken_187 : decode cM_weaken 187 = .ok (.iconst 4, 1) := by decide +kernel
theorem dM_weaken_188 : decode cM_weaken 188 = .ok (.if_icmp .ne 12, 3) := by decide +kernel
theorem dM_weaken_191 : decode cM_weaken 191 = .ok (.iload_n 3, 1) := by decide +kernel
theorem dM_weaken_192 : decode cM_weaken 192 = .ok (.ifCond .eq 8, 3) := by decide +kernel
theorem dM_weaken_195 : decode cM_weaken 195 = .ok (.iload_n 2, 1) := by decide +kernel
theorem dM_weaken_196 : decode cM_weaken 196 = .ok (.iconst 3, 1) := by decide +kernel
theorem dM_weaken_197 : decode cM_weaken 197 = .ok (.if_icmp .eq 29, 3) := by decide +kernel
theorem dM_weaken_200 : decode cM_weaken 200 = .ok (.aload_n 0, 1) := by decide +kernel
theorem dM_weaken_201 : decode cM_weaken 201 = .ok (.getfield 56, 3) := by decide +kernel
theorem dM_weaken_204 : decode cM_weaken 204 = .ok (.iload_n 1, 1) := by decide +kernel
theorem dM_weaken_205 : decode cM_weaken 205 = .ok (.iaload, 1) := by decide +kernel
theorem dM_weaken_206 : decode cM_weaken 206 = .ok (.bipush 7, 2) := by decide +kernel
theorem dM_weaken_208 : decode cM_weaken 208 = .ok (.if_icmp .ne 22, 3) := by decide +kernel
theorem dM_weaken_211 : decode cM_weaken 211 = .ok (.iload_n 3, 1) := by decide +kernel
theorem dM_weaken_212 : decode cM_weaken 212 = .ok (.ifCond .eq 18, 3) := by decide +kernel
theorem dM_weaken_215 : decode cM_weaken 215 = .ok (.iload_n 2, 1) := by decide +kernel
theorem dM_weaken_216 : decode cM_weaken 216 = .ok (.iconst 3, 1) := by decide +kernel
theorem dM_weaken_217 : decode cM_weaken 217 = .ok (.if_icmp .eq 9, 3) := by decide +kernel
theorem dM_weaken_220 : decode cM_weaken 220 = .ok (.iload_n 2, 1) := by decide +kernel
theorem dM_weaken_221 : decode cM_weaken 221 = .ok (.bipush 6, 2) := by decide +kernel
theorem dM_weaken_223 : decode cM_weaken 223 = .ok (.if_icmp .ne 7, 3) := by decide +kernel
theorem dM_weaken_226 : decode cM_weaken 226 = .ok (.iconst 1, 1) := by decide +kernel
theorem dM_weaken_227 : decode cM_weaken 227 = .ok (.goto 4, 3) := by decide +kernel
theorem dM_weaken_230 : decode cM_weaken 230 = .ok (.iconst 0, 1) := by decide +kernel
theorem dM_weaken_231 : decode cM_weaken 231 = .ok (.istore 4, 2) := by decide +kernel
theorem dM_weaken_233 : decode cM_weaken 233 = .ok (.aload_n 0, 1) := by decide +kernel
theorem dM_weaken_234 : decode cM_weaken 234 = .ok (.getfield 56, 3) := by decide +kernel
theorem dM_weaken_237 : decode cM_weaken 237 = .ok (.iload_n 1, 1) := by decide +kernel
theorem dM_weaken_238 : decode cM_weaken 238 = .ok (.iload 4, 2) := by decide +kernel
theorem dM_weaken_240 : decode cM_weaken 240 = .ok (.ifCond .eq 7, 3) := by decide +kernel
theorem dM_weaken_243 : decode cM_weaken 243 = .ok (.iload_n 2, 1) := by decide +kernel
theorem dM_weaken_244 : decode cM_weaken 244 = .ok (.goto 9, 3) := by decide +kernel
theorem dM_weaken_247 : decode cM_weaken 247 = .ok (.aload_n 0, 1) := by decide +kernel
theorem dM_weaken_248 : decode cM_weaken 248 = .ok (.getfield 56, 3) := by decide +kernel
theorem dM_weaken_251 : decode cM_weaken 251 = .ok (.iload_n 1, 1) := by decide +kernel
theorem dM_weaken_252 : decode cM_weaken 252 = .ok (.iaload, 1) := by decide +kernel
theorem dM_weaken_253 : decode cM_weaken 253 = .ok (.iastore, 1) := by decide +kernel
theorem dM_weaken_254 : decode cM_weaken 254 = .ok (.iinc 1 1, 3) := by decide +kernel
theorem dM_weaken_257 : decode cM_weaken 257 = .ok (.goto (-111), 3) := by decide +kernel
theorem dM_weaken_260 : decode cM_weaken 260 = .ok (.aload_n 0, 1) := by decide +kernel
theorem dM_weaken_261 : decode cM_weaken 261 = .ok (.invokevirtual 162, 3) := by decide +kernel
theorem dM_weaken_264 : decode cM_weaken 264 = .ok (.iconst 1, 1) := by decide +kernel
theorem dM_weaken_265 : decode cM_weaken 265 = .ok (.istore_n 1, 1) := by decide +kernel
theorem dM_weaken_266 : decode cM_weaken 266 = .ok (.iload_n 1, 1) := by decide +kernel
theorem dM_weaken_267 : decode cM_weaken 267 = .ok (.aload_n 0, 1) := by decide +kernel
theorem dM_weaken_268 : decode cM_weaken 268 = .ok (.getfield 77, 3) := by decide +kernel
theorem dM_weaken_271 : decode cM_weaken 271 = .ok (.if_icmp .gt 57, 3) := by decide +kernel
theorem dM_weaken_274 : decode cM_weaken 274 = .ok (.aload_n 0, 1) := by decide +kernel
theorem dM_weaken_275 : decode cM_weaken 275 = .ok (.getfield 56, 3) := by decide +kernel
theorem dM_weaken_278 : decode cM_weaken 278 = .ok (.iload_n 1, 1) := by decide +kernel
theorem dM_weaken_279 : decode cM_weaken 279 = .ok (.aload_n 0, 1) := by decide +kernel
theorem dM_weaken_280 : decode cM_weaken 280 = .ok (.getfield 56, 3) := by decide +kernel
theorem dM_weaken_283 : decode cM_weaken 283 = .ok (.iload_n 1, 1) := by decide +kernel
theorem dM_weaken_284 : decode cM_weaken 284 = .ok (.iaload, 1) := by decide +kernel
theorem dM_weaken_285 : decode cM_weaken 285 = .ok (.iconst 4, 1) := by decide +kernel
theorem dM_weaken_286 : decode cM_weaken 286 = .ok (.if_icmp .eq 24, 3) := by decide +kernel
theorem dM_weaken_289 : decode cM_weaken 289 = .ok (.aload_n 0, 1) := by decide +kernel
theorem dM_weaken_290 : decode cM_weaken 290 = .ok (.getfield 56, 3) := by decide +kernel
theorem dM_weaken_293 : decode cM_weaken 293 = .ok (.iload_n 1, 1) := by decide +kernel
theorem dM_weaken_294 : decode cM_weaken 294 = .ok (.iaload, 1) := by decide +kernel
theorem dM_weaken_295 : decode cM_weaken 295 = .ok (.iconst 5, 1) := by decide +kernel
theorem dM_weaken_296 : decode cM_weaken 296 = .ok (.if_icmp .eq 14, 3) := by decide +kernel
theorem dM_weaken_299 : decode cM_weaken 299 = .ok (.aload_n 0, 1) := by decide +kernel
theorem dM_weaken_300 : decode cM_weaken 300 = .ok (.getfield 56, 3) := by decide +kernel
theorem dM_weaken_303 : decode cM_weaken 303 = .ok (.iload_n 1, 1) := by decide +kernel
theorem dM_weaken_304 : decode cM_weaken 304 = .ok (.iaload, 1) := by decide +kernel
theorem dM_weaken_305 : decode cM_weaken 305 = .ok (.bipush 7, 2) := by decide +kernel
theorem dM_weaken_307 : decode cM_weaken 307 = .ok (.if_icmp .ne 8, 3) := by decide +kernel
theorem dM_weaken_310 : decode cM_weaken 310 = .ok (.bipush 11, 2) := by decide +kernel
theorem dM_weaken_312 : decode cM_weaken 312 = .ok (.goto 9, 3) := by decide +kernel
theorem dM_weaken_315 : decode cM_weaken 315 = .ok (.aload_n 0, 1) := by decide +kernel
theorem dM_weaken_316 : decode cM_weaken 316 = .ok (.getfield 56, 3) := by decide +kernel
theorem dM_weaken_319 : decode cM_weaken 319 = .ok (.iload_n 1, 1) := by decide +kernel
theorem dM_weaken_320 : decode cM_weaken 320 = .ok (.iaload, 1) := by decide +kernel
theorem dM_weaken_321 : decode cM_weaken 321 = .ok (.iastore, 1) := by decide +kernel
theorem dM_weaken_322 : decode cM_weaken 322 = .ok (.iinc 1 1, 3) := by decide +kernel
theorem dM_weaken_325 : decode cM_weaken 325 = .ok (.goto (-59), 3) := by decide +kernel
theorem dM_weaken_328 : decode cM_weaken 328 = .ok (.iconst 1, 1) := by decide +kernel
theorem dM_weaken_329 : decode cM_weaken 329 = .ok (.istore_n 1, 1) := by decide +kernel
theorem dM_weaken_330 : decode cM_weaken 330 = .ok (.iload_n 1, 1) := by decide +kernel
theorem dM_weaken_331 : decode cM_weaken 331 = .ok (.aload_n 0, 1) := by decide +kernel
theorem dM_weaken_332 : decode cM_weaken 332 = .ok (.getfield 77, 3) := by decide +kernel
theorem dM_weaken_335 : decode cM_weaken 335 = .ok (.if_icmp .gt 43, 3) := by decide +kernel
theorem dM_weaken_338 : decode cM_weaken 338 = .ok (.aload_n 0, 1) := by decide +kernel
theorem dM_weaken_339 : decode cM_weaken 339 = .ok (.getfield 56, 3) := by decide +kernel
theorem dM_weaken_342 : decode cM_weaken 342 = .ok (.iload_n 1, 1) := by decide +kernel
theorem dM_weaken_343 : decode cM_weaken 343 = .ok (.aload_n 0, 1) := by decide +kernel
theorem dM_weaken_344 : decode cM_weaken 344 = .ok (.getfield 56, 3) := by decide +kernel
theorem dM_weaken_347 : decode cM_weaken 347 = .ok (.iload_n 1, 1) := by decide +kernel
theorem dM_weaken_348 : decode cM_weaken 348 = .ok (.iaload, 1) := by decide +kernel
theorem dM_weaken_349 : decode cM_weaken 349 = .ok (.iconst 3, 1) := by decide +kernel
theorem dM_weaken_350 : decode cM_weaken 350 = .ok (.if_icmp .ne 15, 3) := by decide +kernel
theorem dM_weaken_353 : decode cM_weaken 353 = .ok (.aload_n 0, 1) := by decide +kernel
theorem dM_weaken_354 : decode cM_weaken 354 = .ok (.iload_n 1, 1) := by decide +kernel
theorem dM_weaken_355 : decode cM_weaken 355 = .ok (.invokevirtual 159, 3) := by decide +kernel
theorem dM_weaken_358 : decode cM_weaken 358 = .ok (.ifCond .ne 7, 3) := by decide +kernel
theorem dM_weaken_361 : decode cM_weaken 361 = .ok (.iconst 0, 1) := by decide +kernel
theorem dM_weaken_362 : decode cM_weaken 362 = .ok (.goto 9, 3) := by decide +kernel
theorem dM_weaken_365 : decode cM_weaken 365 = .ok (.aload_n 0, 1) := by decide +kernel
theorem dM_weaken_366 : decode cM_weaken 366 = .ok (.getfield 56, 3) := by decide +kernel
theorem dM_weaken_369 : decode cM_weaken 369 = .ok (.iload_n 1, 1) := by decide +kernel
theorem dM_weaken_370 : decode cM_weaken 370 = .ok (.iaload, 1) := by decide +kernel
theorem dM_weaken_371 : decode cM_weaken 371 = .ok (.iastore, 1) := by decide +kernel
theorem dM_weaken_372 : decode cM_weaken 372 = .ok (.iinc 1 1, 3) := by decide +kernel
theorem dM_weaken_375 : decode cM_weaken 375 = .ok (.goto (-45), 3) := by decide +kernel
theorem dM_weaken_378 : decode cM_weaken 378 = .ok (.return_, 1) := by decide +kernel
theorem dM_units_0 : decode cM_units 0 = .ok (.iconst 1, 1) := by decide +kernel
theorem dM_units_1 : decode cM_units 1 = .ok (.istore_n 1, 1) := by decide +kernel
theorem dM_units_2 : decode cM_units 2 = .ok (.iload_n 1, 1) := by decide +kernel
theorem dM_units_3 : decode cM_units 3 = .ok (.aload_n 0, 1) := by decide +kernel
theorem dM_units_4 : decode cM_units 4 = .ok (.getfield 77, 3) := by decide +kernel
theorem dM_units_7 : decode cM_units 7 = .ok (.if_icmp .gt 105, 3) := by decide +kernel
theorem dM_units_10 : decode cM_units 10 = .ok (.iload_n 1, 1) := by decide +kernel
theorem dM_units_11 : decode cM_units 11 = .ok (.istore_n 2, 1) := by decide +kernel
theorem dM_units_12 : decode cM_units 12 = .ok (.iload_n 2, 1) := by decide +kernel
theorem dM_units_13 : decode cM_units 13 = .ok (.aload_n 0, 1) := by decide +kernel
theorem dM_units_14 : decode cM_units 14 = .ok (.getfield 77, 3) := by decide +kernel
theorem dM_units_17 : decode cM_units 17 = .ok (.if_icmp .gt 19, 3) := by decide +kernel
theorem dM_units_20 : decode cM_units 20 = .ok (.aload_n 0, 1) := by decide +kernel
theorem dM_units_21 : decode cM_units 21 = .ok (.getfield 56, 3) := by decide +kernel
theorem dM_units_24 : decode cM_units 24 = .ok (.iload_n 2, 1) := by decide +kernel
theorem dM_units_25 : decode cM_units 25 = .ok (.iaload, 1) := by decide +kernel
theorem dM_units_26 : decode cM_units 26 = .ok (.iconst 5, 1) := by decide +kernel
theorem dM_units_27 : decode cM_units 27 = .ok (.if_icmp .ne 9, 3) := by decide +kernel
theorem dM_units_30 : decode cM_units 30 = .ok (.iinc 2 1, 3) := by decide +kernel
theorem dM_units_33 : decode cM_units 33 = .ok (.goto (-21), 3) := by decide +kernel
theorem dM_units_36 : decode cM_units 36 = .ok (.iload_n 2, 1) := by decide +kernel
theorem dM_units_37 : decode cM_units 37 = .ok (.iload_n 1, 1) := by decide +kernel
theorem dM_units_38 : decode cM_units 38 = .ok (.if_icmp .le 29, 3) := by decide +kernel
theorem dM_units_41 : decode cM_units 41 = .ok (.aload_n 0, 1) := by decide +kernel
theorem dM_units_42 : decode cM_units 42 = .ok (.getfield 56, 3) := by decide +kernel
theorem dM_units_45 : decode cM_units 45 = .ok (.iload_n 1, 1) := by decide +kernel
theorem dM_units_46 : decode cM_units 46 = .ok (.iconst 1, 1) := by decide +kernel
theorem dM_units_47 : decode cM_units 47 = .ok (.isub, 1) := by decide +kernel
theorem dM_units_48 : decode cM_units 48 = .ok (.iaload, 1) := by decide +kernel
theorem dM_units_49 : decode cM_units 49 = .ok (.iconst 3, 1) := by decide +kernel
theorem dM_units_50 : decode cM_units 50 = .ok (.if_icmp .eq 13, 3) := by decide +kernel
theorem dM_units_53 : decode cM_units 53 = .ok (.aload_n 0, 1) := by decide +kernel
theorem dM_units_54 : decode cM_units 54 = .ok (.getfield 56, 3) := by decide +kernel
theorem dM_units_57 : decode cM_units 57 = .ok (.iload_n 2, 1) := by decide +kernel
theorem dM_units_58 : decode cM_units 58 = .ok (.iaload, 1) := by decide +kernel
theorem dM_units_59 : decode cM_units 59 = .ok (.iconst 3, 1) := by decide +kernel
theorem dM_units_60 : decode cM_units 60 = .ok (.if_icmp .ne 7, 3) := by decide +kernel
theorem dM_units_63 : decode cM_units 63 = .ok (.iconst 1, 1) := by decide +kernel
theorem dM_units_64 : decode cM_units 64 = .ok (.goto 4, 3) := by decide +kernel
theorem dM_units_67 : decode cM_units 67 = .ok (.iconst 0, 1) := by decide +kernel
theorem dM_units_68 : decode cM_units 68 = .ok (.istore_n 3, 1) := by decide +kernel
theorem dM_units_69 : decode cM_units 69 = .ok (.iload_n 1, 1) := by decide +kernel
theorem dM_units_70 : decode cM_units 70 = .ok (.istore 4, 2) := by decide +kernel
theorem dM_units_72 : decode cM_units 72 = .ok (.iload 4, 2) := by decide +kernel
theorem dM_units_74 : decode cM_units 74 = .ok (.iload_n 2, 1) := by decide +kernel
theorem dM_units_75 : decode cM_units 75 = .ok (.if_icmp .ge 21, 3) := by decide +kernel
theorem dM_units_78 : decode cM_units 78 = .ok (.iload_n 3, 1) := by decide +kernel
theorem dM_units_79 : decode cM_units 79 = .ok (.ifCond .eq 17, 3) := by decide +kernel
theorem dM_units_82 : decode cM_units 82 = .ok (.aload_n 0, 1) := by decide +kernel
theorem dM_units_83 : decode cM_units 83 = .ok (.getfield 56, 3) := by decide +kernel
theorem dM_units_86 : decode cM_units 86 = .ok (.iload 4, 2) := by decide +kernel
theorem dM_units_88 : decode cM_units 88 = .ok (.iconst 3, 1) := by decide +kernel
theorem dM_units_89 : decode cM_units 89 = .ok (.iastore, 1) := by decide +kernel
theorem dM_units_90 : decode cM_units 90 = .ok (.iinc 4 1, 3) := by decide +kernel
theorem dM_units_93 : decode cM_units 93 = .ok (.goto (-21), 3) := by decide +kernel
theorem dM_units_96 : decode cM_units 96 = .ok (.iload_n 2, 1) := by decide +kernel
theorem dM_units_97 : decode cM_units 97 = .ok (.iload_n 1, 1) := by decide +kernel
theorem dM_units_98 : decode cM_units 98 = .ok (.if_icmp .le 7, 3) := by decide +kernel
theorem dM_units_101 : decode cM_units 101 = .ok (.iload_n 2, 1) := by decide +kernel
theorem dM_units_102 : decode cM_units 102 = .ok (.goto 6, 3) := by decide +kernel
theorem dM_units_105 : decode cM_units 105 = .ok (.iload_n 1, 1) := by decide +kernel
theorem dM_units_106 : decode cM_units 106 = .ok (.iconst 1, 1) := by decide +kernel
theorem dM_units_107 : decode cM_units 107 = .ok (.iadd, 1) := by decide +kernel
theorem dM_units_108 : decode cM_units 108 = .ok (.istore_n 1, 1) := by decide +kernel
theorem dM_units_109 : decode cM_units 109 = .ok (.goto (-107), 3) := by decide +kernel
theorem dM_units_112 : decode cM_units 112 = .ok (.return_, 1) := by decide +kernel
theorem dM_neutral_0 : decode cM_neutral 0 = .ok (.iload_n 1, 1) := by decide +kernel
theorem dM_neutral_1 : decode cM_neutral 1 = .ok (.bipush 8, 2) := by decide +kernel
theorem dM_neutral_3 : decode cM_neutral 3 = .ok (.if_icmp .le 7, 3) := by decide +kernel
theorem dM_neutral_6 : decode cM_neutral 6 = .ok (.iconst 1, 1) := by decide +kernel
theorem dM_neutral_7 : decode cM_neutral 7 = .ok (.goto 4, 3) := by decide +kernel
theorem dM_neutral_10 : decode cM_neutral 10 = .ok (.iconst 0, 1) := by decide +kernel
theorem dM_neutral_11 : decode cM_neutral 11 = .ok (.ireturn, 1) := by decide +kernel
theorem dM_neutrals_0 : decode cM_neutrals 0 = .ok (.iconst 1, 1) := by decide +kernel
theorem dM_neutrals_1 : decode cM_neutrals 1 = .ok (.istore_n 2, 1) := by decide +kernel
theorem dM_neutrals_2 : decode cM_neutrals 2 = .ok (.iload_n 2, 1) := by decide +kernel
theorem dM_neutrals_3 : decode cM_neutrals 3 = .ok (.aload_n 0, 1) := by decide +kernel
theorem dM_neutrals_4 : decode cM_neutrals 4 = .ok (.getfield 77, 3) := by decide +kernel
theorem dM_neutrals_7 : decode cM_neutrals 7 = .ok (.if_icmp .gt 143, 3) := by decide +kernel
theorem dM_neutrals_10 : decode cM_neutrals 10 = .ok (.iload_n 2, 1) := by decide +kernel
theorem dM_neutrals_11 : decode cM_neutrals 11 = .ok (.istore_n 3, 1) := by decide +kernel
theorem dM_neutrals_12 : decode cM_neutrals 12 = .ok (.iload_n 3, 1) := by decide +kernel
theorem dM_neutrals_13 : decode cM_neutrals 13 = .ok (.aload_n 0, 1) := by decide +kernel
theorem dM_neutrals_14 : decode cM_neutrals 14 = .ok (.getfield 77, 3) := by decide +kernel
theorem dM_neutrals_17 : decode cM_neutrals 17 = .ok (.if_icmp .gt 22, 3) := by decide +kernel
theorem dM_neutrals_20 : decode cM_neutrals 20 = .ok (.aload_n 0, 1) := by decide +kernel
theorem dM_neutrals_21 : decode cM_neutrals 21 = .ok (.aload_n 0, 1) := by decide +kernel
theorem dM_neutrals_22 : decode cM_neutrals 22 = .ok (.getfield 56, 3) := by decide +kernel
theorem dM_neutrals_25 : decode cM_neutrals 25 = .ok (.iload_n 3, 1) := by decide +kernel
theorem dM_neutrals_26 : decode cM_neutrals 26 = .ok (.iaload, 1) := by decide +kernel
theorem dM_neutrals_27 : decode cM_neutrals 27 = .ok (.invokevirtual 165, 3) := by decide +kernel
theorem dM_neutrals_30 : decode cM_neutrals 30 = .ok (.ifCond .eq 9, 3) := by decide +kernel
theorem dM_neutrals_33 : decode cM_neutrals 33 = .ok (.iinc 3 1, 3) := by decide +kernel
theorem dM_neutrals_36 : decode cM_neutrals 36 = .ok (.goto (-24), 3) := by decide +kernel
theorem dM_neutrals_39 : decode cM_neutrals 39 = .ok (.aload_n 0, 1) := by decide +kernel
theorem dM_neutrals_40 : decode cM_neutrals 40 = .ok (.getfield 56, 3) := by decide +kernel
theorem dM_neutrals_43 : decode cM_neutrals 43 = .ok (.iload_n 2, 1) := by decide +kernel
theorem dM_neutrals_44 : decode cM_neutrals 44 = .ok (.iconst 1, 1) := by decide +kernel
theorem dM_neutrals_45 : decode cM_neutrals 45 = .ok (.isub, 1) := by decide +kernel
theorem dM_neutrals_46 : decode cM_neutrals 46 = .ok (.iaload, 1) := by decide +kernel
theorem dM_neutrals_47 : decode cM_neutrals 47 = .ok (.ifCond .ne 16, 3) := by decide +kernel
theorem dM_neutrals_50 : decode cM_neutrals 50 = .ok (.aload_n 0, 1) := by decide +kernel
theorem dM_neutrals_51 : decode cM_neutrals 51 = .ok (.getfield 56, 3) := by decide +kernel
theorem dM_neutrals_54 : decode cM_neutrals 54 = .ok (.iload_n 3, 1) := by decide +kernel
theorem dM_neutrals_55 : decode cM_neutrals 55 = .ok (.iaload, 1) := by decide +kernel
theorem dM_neutrals_56 : decode cM_neutrals 56 = .ok (.ifCond .ne 7, 3) := by decide +kernel
theorem dM_neutrals_59 : decode cM_neutrals 59 = .ok (.iconst 1, 1) := by decide +kernel
theorem dM_neutrals_60 : decode cM_neutrals 60 = .ok (.goto 4, 3) := by decide +kernel
theorem dM_neutrals_63 : decode cM_neutrals 63 = .ok (.iconst 0, 1) := by decide +kernel
theorem dM_neutrals_64 : decode cM_neutrals 64 = .ok (.istore 4, 2) := by decide +kernel
theorem dM_neutrals_66 : decode cM_neutrals 66 = .ok (.aload_n 0, 1) := by decide +kernel
theorem dM_neutrals_67 : decode cM_neutrals 67 = .ok (.getfield 56, 3) := by decide +kernel
theorem dM_neutrals_70 : decode cM_neutrals 70 = .ok (.iload_n 2, 1) := by decide +kernel
theorem dM_neutrals_71 : decode cM_neutrals 71 = .ok (.iconst 1, 1) := by decide +kernel
theorem dM_neutrals_72 : decode cM_neutrals 72 = .ok (.isub, 1) := by decide +kernel
theorem dM_neutrals_73 : decode cM_neutrals 73 = .ok (.iaload, 1) := by decide +kernel
theorem dM_neutrals_74 : decode cM_neutrals 74 = .ok (.ifCond .le 16, 3) := by decide +kernel
theorem dM_neutrals_77 : decode cM_neutrals 77 = .ok (.aload_n 0, 1) := by decide +kernel
theorem dM_neutrals_78 : decode cM_neutrals 78 = .ok (.getfield 56, 3) := by decide +kernel
theorem dM_neutrals_81 : decode cM_neutrals 81 = .ok (.iload_n 3, 1) := by decide +kernel
theorem dM_neutrals_82 : decode cM_neutrals 82 = .ok (.iaload, 1) := by decide +kernel
theorem dM_neutrals_83 : decode cM_neutrals 83 = .ok (.ifCond .le 7, 3) := by decide +kernel
theorem dM_neutrals_86 : decode cM_neutrals 86 = .ok (.iconst 1, 1) := by decide +kernel
theorem dM_neutrals_87 : decode cM_neutrals 87 = .ok (.goto 4, 3) := by decide +kernel
theorem dM_neutrals_90 : decode cM_neutrals 90 = .ok (.iconst 0, 1) := by decide +kernel
theorem dM_neutrals_91 : decode cM_neutrals 91 = .ok (.istore 5, 2) := by decide +kernel
theorem dM_neutrals_93 : decode cM_neutrals 93 = .ok (.iload_n 2, 1) := by decide +kernel
theorem dM_neutrals_94 : decode cM_neutrals 94 = .ok (.istore 6, 2) := by decide +kernel
theorem dM_neutrals_96 : decode cM_neutrals 96 = .ok (.iload 6, 2) := by decide +kernel
theorem dM_neutrals_98 : decode cM_neutrals 98 = .ok (.iload_n 3, 1) := by decide +kernel
theorem dM_neutrals_99 : decode cM_neutrals 99 = .ok (.if_icmp .ge 35, 3) := by decide +kernel
theorem dM_neutrals_102 : decode cM_neutrals 102 = .ok (.aload_n 0, 1) := by decide +kernel
theorem dM_neutrals_103 : decode cM_neutrals 103 = .ok (.getfield 56, 3) := by decide +kernel
theorem dM_neutrals_106 : decode cM_neutrals 106 = .ok (.iload 6, 2) := by decide +kernel
theorem dM_neutrals_108 : decode cM_neutrals 108 = .ok (.iload 4, 2) := by decide +kernel
theorem dM_neutrals_110 : decode cM_neutrals 110 = .ok (.ifCond .eq 7, 3) := by decide +kernel
theorem dM_neutrals_113 : decode cM_neutrals 113 = .ok (.iconst 0, 1) := by decide +kernel
theorem dM_neutrals_114 : decode cM_neutrals 114 = .ok (.goto 13, 3) := by decide +kernel
theorem dM_neutrals_117 : decode cM_neutrals 117 = .ok (.iload 5, 2) := by decide +kernel
theorem dM_neutrals_119 : decode cM_neutrals 119 = .ok (.ifCond .eq 7, 3) := by decide +kernel
theorem dM_neutrals_122 : decode cM_neutrals 122 = .ok (.iconst 1, 1) := by decide +kernel
theorem dM_neutrals_123 : decode cM_neutrals 123 = .ok (.goto 4, 3) := by decide +kernel
theorem dM_neutrals_126 : decode cM_neutrals 126 = .ok (.iload_n 1, 1) := by decide +kernel
theorem dM_neutrals_127 : decode cM_neutrals 127 = .ok (.iastore, 1) := by decide +kernel
theorem dM_neutrals_128 : decode cM_neutrals 128 = .ok (.iinc 6 1, 3) := by decide +kernel
theorem dM_neutrals_131 : decode cM_neutrals 131 = .ok (.goto (-35), 3) := by decide +kernel
theorem dM_neutrals_134 : decode cM_neutrals 134 = .ok (.iload_n 3, 1) := by decide +kernel
theorem dM_neutrals_135 : decode cM_neutrals 135 = .ok (.iload_n 2, 1) := by decide +kernel
theorem dM_neutrals_136 : decode cM_neutrals 136 = .ok (.if_icmp .le 7, 3) := by decide +kernel
theorem dM_neutrals_139 : decode cM_neutrals 139 = .ok (.iload_n 3, 1) := by decide +kernel
theorem dM_neutrals_140 : decode cM_neutrals 140 = .ok (.goto 6, 3) := by decide +kernel
theorem dM_neutrals_143 : decode cM_neutrals 143 = .ok (.iload_n 2, 1) := by decide +kernel
theorem dM_neutrals_144 : decode cM_neutrals 144 = .ok (.iconst 1, 1) := by decide +kernel
theorem dM_neutrals_145 : decode cM_neutrals 145 = .ok (.iadd, 1) := by decide +kernel
theorem dM_neutrals_146 : decode cM_neutrals 146 = .ok (.istore_n 2, 1) := by decide +kernel
theorem dM_neutrals_147 : decode cM_neutrals 147 = .ok (.goto (-145), 3) := by decide +kernel
theorem dM_neutrals_150 : decode cM_neutrals 150 = .ok (.return_, 1) := by decide +kernel
theorem dM_findLevels_0 : decode cM_findLevels 0 = .ok (.aload_n 0, 1) := by decide +kernel
theorem dM_findLevels_1 : decode cM_findLevels 1 = .ok (.iload_n 1, 1) := by decide +kernel
theorem dM_findLevels_2 : decode cM_findLevels 2 = .ok (.invokevirtual 168, 3) := by decide +kernel
theorem dM_findLevels_5 : decode cM_findLevels 5 = .ok (.istore_n 2, 1) := by decide +kernel
theorem dM_findLevels_6 : decode cM_findLevels 6 = .ok (.aload_n 0, 1) := by decide +kernel
theorem dM_findLevels_7 : decode cM_findLevels 7 = .ok (.getfield 56, 3) := by decide +kernel
theorem dM_findLevels_10 : decode cM_findLevels 10 = .ok (.iconst 0, 1) := by decide +kernel
theorem dM_findLevels_11 : decode cM_findLevels 11 = .ok (.iload_n 2, 1) := by decide +kernel
theorem dM_findLevels_12 : decode cM_findLevels 12 = .ok (.iastore, 1) := by decide +kernel
theorem dM_findLevels_13 : decode cM_findLevels 13 = .ok (.aload_n 0, 1) := by decide +kernel
theorem dM_findLevels_14 : decode cM_findLevels 14 = .ok (.getfield 56, 3) := by decide +kernel
theorem dM_findLevels_17 : decode cM_findLevels 17 = .ok (.aload_n 0, 1) := by decide +kernel
theorem dM_findLevels_18 : decode cM_findLevels 18 = .ok (.getfield 77, 3) := by decide +kernel
theorem dM_findLevels_21 : decode cM_findLevels 21 = .ok (.iconst 1, 1) := by decide +kernel
theorem dM_findLevels_22 : decode cM_findLevels 22 = .ok (.iadd, 1) := by decide +kernel
theorem dM_findLevels_23 : decode cM_findLevels 23 = .ok (.iload_n 2, 1) := by decide +kernel
theorem dM_findLevels_24 : decode cM_findLevels 24 = .ok (.iastore, 1) := by decide +kernel
theorem dM_findLevels_25 : decode cM_findLevels 25 = .ok (.iconst 0, 1) := by decide +kernel
theorem dM_findLevels_26 : decode cM_findLevels 26 = .ok (.istore_n 3, 1) := by decide +kernel
theorem dM_findLevels_27 : decode cM_findLevels 27 = .ok (.iload_n 3, 1) := by decide +kernel
theorem dM_findLevels_28 : decode cM_findLevels 28 = .ok (.aload_n 0, 1) := by decide +kernel
theorem dM_findLevels_29 : decode cM_findLevels 29 = .ok (.getfield 77, 3) := by decide +kernel
theorem dM_findLevels_32 : decode cM_findLevels 32 = .ok (.if_icmp .ge 27, 3) := by decide +kernel
theorem dM_findLevels_35 : decode cM_findLevels 35 = .ok (.aload_n 0, 1) := by decide +kernel
theorem dM_findLevels_36 : decode cM_findLevels 36 = .ok (.getfield 56, 3) := by decide +kernel
theorem dM_findLevels_39 : decode cM_findLevels 39 = .ok (.iload_n 3, 1) := by decide +kernel
theorem dM_findLevels_40 : decode cM_findLevels 40 = .ok (.iconst 1, 1) := by decide +kernel
theorem dM_findLevels_41 : decode cM_findLevels 41 = .ok (.iadd, 1) := by decide +kernel
theorem dM_findLevels_42 : decode cM_findLevels 42 = .ok (.aload_n 0, 1) := by decide +kernel
theorem dM_findLevels_43 : decode cM_findLevels 43 = .ok (.aload_n 0, 1) := by decide +kernel
theorem dM_findLevels_44 : decode cM_findLevels 44 = .ok (.getfield 26, 3) := by decide +kernel
theorem dM_findLevels_47 : decode cM_findLevels 47 = .ok (.iload_n 3, 1) := by decide +kernel
theorem dM_findLevels_48 : decode cM_findLevels 48 = .ok (.iaload, 1) := by decide +kernel
theorem dM_findLevels_49 : decode cM_findLevels 49 = .ok (.invokevirtual 156, 3) := by decide +kernel
theorem dM_findLevels_52 : decode cM_findLevels 52 = .ok (.iastore, 1) := by decide +kernel
theorem dM_findLevels_53 : decode cM_findLevels 53 = .ok (.iinc 3 1, 3) := by decide +kernel
theorem dM_findLevels_56 : decode cM_findLevels 56 = .ok (.goto (-29), 3) := by decide +kernel
theorem dM_findLevels_59 : decode cM_findLevels 59 = .ok (.aload_n 0, 1) := by decide +kernel
theorem dM_findLevels_60 : decode cM_findLevels 60 = .ok (.invokevirtual 171, 3) := by decide +kernel
theorem dM_findLevels_63 : decode cM_findLevels 63 = .ok (.aload_n 0, 1) := by decide +kernel
theorem dM_findLevels_64 : decode cM_findLevels 64 = .ok (.iload_n 2, 1) := by decide +kernel
theorem dM_findLevels_65 : decode cM_findLevels 65 = .ok (.invokevirtual 174, 3) := by decide +kernel
theorem dM_findLevels_68 : decode cM_findLevels 68 = .ok (.iconst 0, 1) := by decide +kernel
theorem dM_findLevels_69 : decode cM_findLevels 69 = .ok (.istore_n 3, 1) := by decide +kernel
theorem dM_findLevels_70 : decode cM_findLevels 70 = .ok (.iload_n 3, 1) := by decide +kernel
theorem dM_findLevels_71 : decode cM_findLevels 71 = .ok (.aload_n 0, 1) := by decide +kernel
theorem dM_findLevels_72 : decode cM_findLevels 72 = .ok (.getfield 77, 3) := by decide +kernel
theorem dM_findLevels_75 : decode cM_findLevels 75 = .ok (.if_icmp .ge 55, 3) := by decide +kernel
theorem dM_findLevels_78 : decode cM_findLevels 78 = .ok (.aload_n 0, 1) := by decide +kernel
theorem dM_findLevels_79 : decode cM_findLevels 79 = .ok (.getfield 56, 3) := by decide +kernel
theorem dM_findLevels_82 : decode cM_findLevels 82 = .ok (.iload_n 3, 1) := by decide +kernel
theorem dM_findLevels_83 : decode cM_findLevels 83 = .ok (.iconst 1, 1) := by decide +kernel
theorem dM_findLevels_84 : decode cM_findLevels 84 = .ok (.iadd, 1) := by decide +kernel
theorem dM_findLevels_85 : decode cM_findLevels 85 = .ok (.iaload, 1) := by decide +kernel
theorem dM_findLevels_86 : decode cM_findLevels 86 = .ok (.istore 4, 2) := by decide +kernel
theorem dM_findLevels_88 : decode cM_findLevels 88 = .ok (.aload_n 0, 1) := by decide +kernel
theorem dM_findLevels_89 : decode cM_findLevels 89 = .ok (.getfield 59, 3) := by decide +kernel
theorem dM_findLevels_92 : decode cM_findLevels 92 = .ok (.iload_n 3, 1) := by decide +kernel
theorem dM_findLevels_93 : decode cM_findLevels 93 = .ok (.iload_n 2, 1) := by decide +kernel
theorem dM_findLevels_94 : decode cM_findLevels 94 = .ok (.ifCond .ne 18, 3) := by decide +kernel
theorem dM_findLevels_97 : decode cM_findLevels 97 = .ok (.iload 4, 2) := by decide +kernel
theorem dM_findLevels_99 : decode cM_findLevels 99 = .ok (.iconst 2, 1) := by decide +kernel
theorem dM_findLevels_100 : decode cM_findLevels 100 = .ok (.if_icmp .ge 8, 3) := by decide +kernel
theorem dM_findLevels_103 : decode cM_findLevels 103 = .ok (.iload 4, 2) := by decide +kernel
theorem dM_findLevels_105 : decode cM_findLevels 105 = .ok (.goto 18, 3) := by decide +kernel
theorem dM_findLevels_108 : decode cM_findLevels 108 = .ok (.iconst 2, 1) := by decide +kernel
theorem dM_findLevels_109 : decode cM_findLevels 109 = .ok (.goto 14, 3) := by decide +kernel
theorem dM_findLevels_112 : decode cM_findLevels 112 = .ok (.iload 4, 2) := by decide +kernel
theorem dM_findLevels_114 : decode cM_findLevels 114 = .ok (.iconst 1, 1) := by decide +kernel
theorem dM_findLevels_115 : decode cM_findLevels 115 = .ok (.if_icmp .ne 7, 3) := by decide +kernel
theorem dM_findLevels_118 : decode cM_findLevels 118 = .ok (.iconst 1, 1) := by decide +kernel
theorem dM_findLevels_119 : decode cM_findLevels 119 = .ok (.goto 4, 3) := by decide +kernel
theorem dM_findLevels_122 : decode cM_findLevels 122 = .ok (.iconst 2, 1) := by decide +kernel
theorem dM_findLevels_123 : decode cM_findLevels 123 = .ok (.iastore, 1) := by decide +kernel
theorem dM_findLevels_124 : decode cM_findLevels 124 = .ok (.iinc 3 1, 3) := by decide +kernel
theorem dM_findLevels_127 : decode cM_findLevels 127 = .ok (.goto (-57), 3) := by decide +kernel
theorem dM_findLevels_130 : decode cM_findLevels 130 = .ok (.iconst 1, 1) := by decide +kernel
theorem dM_findLevels_131 : decode cM_findLevels 131 = .ok (.istore_n 3, 1) := by decide +kernel
theorem dM_findLevels_132 : decode cM_findLevels 132 = .ok (.aload_n 0, 1) := by decide +kernel
theorem dM_findLevels_133 : decode cM_findLevels 133 = .ok (.getfield 77, 3) := by decide +kernel
theorem dM_findLevels_136 : decode cM_findLevels 136 = .ok (.iconst 1, 1) := by decide +kernel
theorem dM_findLevels_137 : decode cM_findLevels 137 = .ok (.isub, 1) := by decide +kernel
theorem dM_findLevels_138 : decode cM_findLevels 138 = .ok (.istore 4, 2) := by decide +kernel
theorem dM_findLevels_140 : decode cM_findLevels 140 = .ok (.iload 4, 2) := by decide +kernel
theorem dM_findLevels_142 : decode cM_findLevels 142 = .ok (.ifCond .lt 68, 3) := by decide +kernel
theorem dM_findLevels_145 : decode cM_findLevels 145 = .ok (.aload_n 0, 1) := by decide +kernel
theorem dM_findLevels_146 : decode cM_findLevels 146 = .ok (.aload_n 0, 1) := by decide +kernel
theorem dM_findLevels_147 : decode cM_findLevels 147 = .ok (.getfield 26, 3) := by decide +kernel
theorem dM_findLevels_150 : decode cM_findLevels 150 = .ok (.iload 4, 2) := by decide +kernel
theorem dM_findLevels_152 : decode cM_findLevels 152 = .ok (.iaload, 1) := by decide +kernel
theorem dM_findLevels_153 : decode cM_findLevels 153 = .ok (.invokevirtual 156, 3) := by decide +kernel
theorem dM_findLevels_156 : decode cM_findLevels 156 = .ok (.istore 5, 2) := by decide +kernel
theorem dM_findLevels_158 : decode cM_findLevels 158 = .ok (.iload 5, 2) := by decide +kernel
theorem dM_findLevels_160 : decode cM_findLevels 160 = .ok (.bipush 10, 2) := by decide +kernel
theorem dM_findLevels_162 : decode cM_findLevels 162 = .ok (.if_icmp .eq 14, 3) := by decide +kernel
theorem dM_findLevels_165 : decode cM_findLevels 165 = .ok (.iload 5, 2) := by decide +kernel
theorem dM_findLevels_167 : decode cM_findLevels 167 = .ok (.bipush 9, 2) := by decide +kernel
theorem dM_findLevels_169 : decode cM_findLevels 169 = .ok (.if_icmp .ne 11, 3) := by decide +kernel
theorem dM_findLevels_172 : decode cM_findLevels 172 = .ok (.iload_n 3, 1) := by decide +kernel
theorem dM_findLevels_173 : decode cM_findLevels 173 = .ok (.ifCond .eq 7, 3) := by decide +kernel
theorem dM_findLevels_176 : decode cM_findLevels 176 = .ok (.iconst 1, 1) := by decide +kernel
theorem dM_findLevels_177 : decode cM_findLevels 177 = .ok (.goto 4, 3) := by decide +kernel
theorem dM_findLevels_180 : decode cM_findLevels 180 = .ok (.iconst 0, 1) := by decide +kernel
theorem dM_findLevels_181 : decode cM_findLevels 181 = .ok (.istore_n 3, 1) := by decide +kernel
theorem dM_findLevels_182 : decode cM_findLevels 182 = .ok (.aload_n 0, 1) := by decide +kernel
theorem dM_findLevels_183 : decode cM_findLevels 183 = .ok (.getfield 59, 3) := by decide +kernel
theorem dM_findLevels_186 : decode cM_findLevels 186 = .ok (.iload 4, 2) := by decide +kernel
theorem dM_findLevels_188 : decode cM_findLevels 188 = .ok (.iload_n 3, 1) := by decide +kernel
theorem dM_findLevels_189 : decode cM_findLevels 189 = .ok (.ifCond .eq 7, 3) := by decide +kernel
theorem dM_findLevels_192 : decode cM_findLevels 192 = .ok (.iload_n 2, 1) := by decide +kernel
theorem dM_findLevels_193 : decode cM_findLevels 193 = .ok (.goto 10, 3) := by decide +kernel
theorem dM_findLevels_196 : decode cM_findLevels 196 = .ok (.aload_n 0, 1) := by decide +kernel
theorem dM_findLevels_197 : decode cM_findLevels 197 = .ok (.getfield 59, 3) := by decide +kernel
theorem dM_findLevels_200 : decode cM_findLevels 200 = .ok (.iload 4, 2) := by decide +kernel
theorem dM_findLevels_202 : decode cM_findLevels 202 = .ok (.iaload, 1) := by decide +kernel
theorem dM_findLevels_203 : decode cM_findLevels 203 = .ok (.iastore, 1) := by decide +kernel
theorem dM_findLevels_204 : decode cM_findLevels 204 = .ok (.iinc 4 (-1), 3) := by decide +kernel
theorem dM_findLevels_207 : decode cM_findLevels 207 = .ok (.goto (-67), 3) := by decide +kernel
theorem dM_findLevels_210 : decode cM_findLevels 210 = .ok (.return_, 1) := by decide +kernel
theorem dM_level_0 : decode cM_level 0 = .ok (.aload_n 0, 1) := by decide +kernel
theorem dM_level_1 : decode cM_level 1 = .ok (.aload_n 0, 1) := by decide +kernel
theorem dM_level_2 : decode cM_level 2 = .ok (.iload_n 1, 1) := by decide +kernel
theorem dM_level_3 : decode cM_level 3 = .ok (.aload_n 0, 1) := by decide +kernel
theorem dM_level_4 : decode cM_level 4 = .ok (.getfield 77, 3) := by decide +kernel
theorem dM_level_7 : decode cM_level 7 = .ok (.invokevirtual 80, 3) := by decide +kernel
theorem dM_level_10 : decode cM_level 10 = .ok (.ifCond .eq 7, 3) := by decide +kernel
theorem dM_level_13 : decode cM_level 13 = .ok (.iconst 1, 1) := by decide +kernel
theorem dM_level_14 : decode cM_level 14 = .ok (.goto 4, 3) := by decide +kernel
theorem dM_level_17 : decode cM_level 17 = .ok (.iconst 0, 1) := by decide +kernel
theorem dM_level_18 : decode cM_level 18 = .ok (.putfield 65, 3) := by decide +kernel
theorem dM_level_21 : decode cM_level 21 = .ok (.aload_n 0, 1) := by decide +kernel
theorem dM_level_22 : decode cM_level 22 = .ok (.getfield 65, 3) := by decide +kernel
theorem dM_level_25 : decode cM_level 25 = .ok (.ifCond .eq 5, 3) := by decide +kernel
theorem dM_level_28 : decode cM_level 28 = .ok (.iconst 0, 1) := by decide +kernel
theorem dM_level_29 : decode cM_level 29 = .ok (.ireturn, 1) := by decide +kernel
theorem dM_level_30 : decode cM_level 30 = .ok (.aload_n 0, 1) := by decide +kernel
theorem dM_level_31 : decode cM_level 31 = .ok (.iload_n 2, 1) := by decide +kernel
theorem dM_level_32 : decode cM_level 32 = .ok (.invokevirtual 177, 3) := by decide +kernel
theorem dM_level_35 : decode cM_level 35 = .ok (.aload_n 0, 1) := by decide +kernel
theorem dM_level_36 : decode cM_level 36 = .ok (.getfield 59, 3) := by decide +kernel
theorem dM_level_39 : decode cM_level 39 = .ok (.iload_n 1, 1) := by decide +kernel
theorem dM_level_40 : decode cM_level 40 = .ok (.iaload, 1) := by decide +kernel
theorem dM_level_41 : decode cM_level 41 = .ok (.ireturn, 1) := by decide +kernel
theorem dM_turnRound_0 : decode cM_turnRound 0 = .ok (.iload_n 1, 1) := by decide +kernel
theorem dM_turnRound_1 : decode cM_turnRound 1 = .ok (.istore_n 3, 1) := by decide +kernel
theorem dM_turnRound_2 : decode cM_turnRound 2 = .ok (.iload_n 2, 1) := by decide +kernel
theorem dM_turnRound_3 : decode cM_turnRound 3 = .ok (.iconst 1, 1) := by decide +kernel
theorem dM_turnRound_4 : decode cM_turnRound 4 = .ok (.isub, 1) := by decide +kernel
theorem dM_turnRound_5 : decode cM_turnRound 5 = .ok (.istore 4, 2) := by decide +kernel
theorem dM_turnRound_7 : decode cM_turnRound 7 = .ok (.iload_n 3, 1) := by decide +kernel
theorem dM_turnRound_8 : decode cM_turnRound 8 = .ok (.iload 4, 2) := by decide +kernel
theorem dM_turnRound_10 : decode cM_turnRound 10 = .ok (.if_icmp .ge 42, 3) := by decide +kernel
theorem dM_turnRound_13 : decode cM_turnRound 13 = .ok (.aload_n 0, 1) := by decide +kernel
theorem dM_turnRound_14 : decode cM_turnRound 14 = .ok (.getfield 62, 3) := by decide +kernel
theorem dM_turnRound_17 : decode cM_turnRound 17 = .ok (.iload_n 3, 1) := by decide +kernel
theorem dM_turnRound_18 : decode cM_turnRound 18 = .ok (.iaload, 1) := by decide +kernel
theorem dM_turnRound_19 : decode cM_turnRound 19 = .ok (.istore 5, 2) := by decide +kernel
theorem dM_turnRound_21 : decode cM_turnRound 21 = .ok (.aload_n 0, 1) := by decide +kernel
theorem dM_turnRound_22 : decode cM_turnRound 22 = .ok (.getfield 62, 3) := by decide +kernel
theorem dM_turnRound_25 : decode cM_turnRound 25 = .ok (.iload_n 3, 1) := by decide +kernel
theorem dM_turnRound_26 : decode cM_turnRound 26 = .ok (.aload_n 0, 1) := by decide +kernel
theorem dM_turnRound_27 : decode cM_turnRound 27 = .ok (.getfield 62, 3) := by decide +kernel
theorem dM_turnRound_30 : decode cM_turnRound 30 = .ok (.iload 4, 2) := by decide +kernel
theorem dM_turnRound_32 : decode cM_turnRound 32 = .ok (.iaload, 1) := by decide +kernel
theorem dM_turnRound_33 : decode cM_turnRound 33 = .ok (.iastore, 1) := by decide +kernel
theorem dM_turnRound_34 : decode cM_turnRound 34 = .ok (.aload_n 0, 1) := by decide +kernel
theorem dM_turnRound_35 : decode cM_turnRound 35 = .ok (.getfield 62, 3) := by decide +kernel
theorem dM_turnRound_38 : decode cM_turnRound 38 = .ok (.iload 4, 2) := by decide +kernel
theorem dM_turnRound_40 : decode cM_turnRound 40 = .ok (.iload 5, 2) := by decide +kernel
theorem dM_turnRound_42 : decode cM_turnRound 42 = .ok (.iastore, 1) := by decide +kernel
theorem dM_turnRound_43 : decode cM_turnRound 43 = .ok (.iinc 3 1, 3) := by decide +kernel
theorem dM_turnRound_46 : decode cM_turnRound 46 = .ok (.iinc 4 (-1), 3) := by decide +kernel
theorem dM_turnRound_49 : decode cM_turnRound 49 = .ok (.goto (-42), 3) := by decide +kernel
theorem dM_turnRound_52 : decode cM_turnRound 52 = .ok (.return_, 1) := by decide +kernel
theorem dM_order_0 : decode cM_order 0 = .ok (.aload_n 0, 1) := by decide +kernel
theorem dM_order_1 : decode cM_order 1 = .ok (.aload_n 0, 1) := by decide +kernel
theorem dM_order_2 : decode cM_order 2 = .ok (.iload_n 1, 1) := by decide +kernel
theorem dM_order_3 : decode cM_order 3 = .ok (.aload_n 0, 1) := by decide +kernel
theorem dM_order_4 : decode cM_order 4 = .ok (.getfield 77, 3) := by decide +kernel
theorem dM_order_7 : decode cM_order 7 = .ok (.invokevirtual 80, 3) := by decide +kernel
theorem dM_order_10 : decode cM_order 10 = .ok (.ifCond .eq 7, 3) := by decide +kernel
theorem dM_order_13 : decode cM_order 13 = .ok (.iconst 1, 1) := by decide +kernel
theorem dM_order_14 : decode cM_order 14 = .ok (.goto 4, 3) := by decide +kernel
theorem dM_order_17 : decode cM_order 17 = .ok (.iconst 0, 1) := by decide +kernel
theorem dM_order_18 : decode cM_order 18 = .ok (.putfield 65, 3) := by decide +kernel
theorem dM_order_21 : decode cM_order 21 = .ok (.aload_n 0, 1) := by decide +kernel
theorem dM_order_22 : decode cM_order 22 = .ok (.getfield 65, 3) := by decide +kernel
theorem dM_order_25 : decode cM_order 25 = .ok (.ifCond .eq 5, 3) := by decide +kernel
theorem dM_order_28 : decode cM_order 28 = .ok (.iconst 0, 1) := by decide +kernel
theorem dM_order_29 : decode cM_order 29 = .ok (.ireturn, 1) := by decide +kernel
theorem dM_order_30 : decode cM_order 30 = .ok (.aload_n 0, 1) := by decide +kernel
theorem dM_order_31 : decode cM_order 31 = .ok (.iload_n 2, 1) := by decide +kernel
theorem dM_order_32 : decode cM_order 32 = .ok (.invokevirtual 177, 3) := by decide +kernel
theorem dM_order_35 : decode cM_order 35 = .ok (.iconst 0, 1) := by decide +kernel
theorem dM_order_36 : decode cM_order 36 = .ok (.istore_n 3, 1) := by decide +kernel
theorem dM_order_37 : decode cM_order 37 = .ok (.iload_n 3, 1) := by decide +kernel
theorem dM_order_38 : decode cM_order 38 = .ok (.aload_n 0, 1) := by decide +kernel
theorem dM_order_39 : decode cM_order 39 = .ok (.getfield 77, 3) := by decide +kernel
theorem dM_order_42 : decode cM_order 42 = .ok (.if_icmp .ge 16, 3) := by decide +kernel
theorem dM_order_45 : decode cM_order 45 = .ok (.aload_n 0, 1) := by decide +kernel
theorem dM_order_46 : decode cM_order 46 = .ok (.getfield 62, 3) := by decide +kernel
theorem dM_order_49 : decode cM_order 49 = .ok (.iload_n 3, 1) := by decide +kernel
theorem dM_order_50 : decode cM_order 50 = .ok (.iload_n 3, 1) := by decide +kernel
theorem dM_order_51 : decode cM_order 51 = .ok (.iastore, 1) := by decide +kernel
theorem dM_order_52 : decode cM_order 52 = .ok (.iinc 3 1, 3) := by decide +kernel
theorem dM_order_55 : decode cM_order 55 = .ok (.goto (-18), 3) := by decide +kernel
theorem dM_order_58 : decode cM_order 58 = .ok (.iconst 2, 1) := by decide +kernel
theorem dM_order_59 : decode cM_order 59 = .ok (.istore_n 3, 1) := by decide +kernel
theorem dM_order_60 : decode cM_order 60 = .ok (.iload_n 3, 1) := by decide +kernel
theorem dM_order_61 : decode cM_order 61 = .ok (.ifCond .le 85, 3) := by decide +kernel
theorem dM_order_64 : decode cM_order 64 = .ok (.iconst 0, 1) := by decide +kernel
theorem dM_order_65 : decode cM_order 65 = .ok (.istore 4, 2) := by decide +kernel
theorem dM_order_67 : decode cM_order 67 = .ok (.iload 4, 2) := by decide +kernel
theorem dM_order_69 : decode cM_order 69 = .ok (.aload_n 0, 1) := by decide +kernel
theorem dM_order_70 : decode cM_order 70 = .ok (.getfield 77, 3) := by decide +kernel
theorem dM_order_73 : decode cM_order 73 = .ok (.if_icmp .ge 67, 3) := by decide +kernel
theorem dM_order_76 : decode cM_order 76 = .ok (.iload 4, 2) := by decide +kernel
theorem dM_order_78 : decode cM_order 78 = .ok (.istore 5, 2) := by decide +kernel
theorem dM_order_80 : decode cM_order 80 = .ok (.iload 5, 2) := by decide +kernel
theorem dM_order_82 : decode cM_order 82 = .ok (.aload_n 0, 1) := by decide +kernel
theorem dM_order_83 : decode cM_order 83 = .ok (.getfield 77, 3) := by decide +kernel
theorem dM_order_86 : decode cM_order 86 = .ok (.if_icmp .ge 25, 3) := by decide +kernel
theorem dM_order_89 : decode cM_order 89 = .ok (.aload_n 0, 1) := by decide +kernel
theorem dM_order_90 : decode cM_order 90 = .ok (.getfield 59, 3) := by decide +kernel
theorem dM_order_93 : decode cM_order 93 = .ok (.aload_n 0, 1) := by decide +kernel
theorem dM_order_94 : decode cM_order 94 = .ok (.getfield 62, 3) := by decide +kernel
theorem dM_order_97 : decode cM_order 97 = .ok (.iload 5, 2) := by decide +kernel
theorem dM_order_99 : decode cM_order 99 = .ok (.iaload, 1) := by decide +kernel
theorem dM_order_100 : decode cM_order 100 = .ok (.iaload, 1) := by decide +kernel
theorem dM_order_101 : decode cM_order 101 = .ok (.iload_n 3, 1) := by decide +kernel
theorem dM_order_102 : decode cM_order 102 = .ok (.if_icmp .lt 9, 3) := by decide +kernel
theorem dM_order_105 : decode cM_order 105 = .ok (.iinc 5 1, 3) := by decide +kernel
theorem dM_order_108 : decode cM_order 108 = .ok (.goto (-28), 3) := by decide +kernel
theorem dM_order_111 : decode cM_order 111 = .ok (.aload_n 0, 1) := by decide +kernel
theorem dM_order_112 : decode cM_order 112 = .ok (.iload 4, 2) := by decide +kernel
theorem dM_order_114 : decode cM_order 114 = .ok (.iload 5, 2) := by decide +kernel
theorem dM_order_116 : decode cM_order 116 = .ok (.invokevirtual 180, 3) := by decide +kernel
theorem dM_order_119 : decode cM_order 119 = .ok (.iload 5, 2) := by decide +kernel
theorem dM_order_121 : decode cM_order 121 = .ok (.iload 4, 2) := by decide +kernel
theorem dM_order_123 : decode cM_order 123 = .ok (.if_icmp .le 8, 3) := by decide +kernel
theorem dM_order_126 : decode cM_order 126 = .ok (.iload 5, 2) := by decide +kernel
theorem dM_order_128 : decode cM_order 128 = .ok (.goto 7, 3) := by decide +kernel
theorem dM_order_131 : decode cM_order 131 = .ok (.iload 4, 2) := by decide +kernel
theorem dM_order_133 : decode cM_order 133 = .ok (.iconst 1, 1) := by decide +kernel
theorem dM_order_134 : decode cM_order 134 = .ok (.iadd, 1) := by decide +kernel
theorem dM_order_135 : decode cM_order 135 = .ok (.istore 4, 2) := by decide +kernel
theorem dM_order_137 : decode cM_order 137 = .ok (.goto (-70), 3) := by decide +kernel
theorem dM_order_140 : decode cM_order 140 = .ok (.iinc 3 (-1), 3) := by decide +kernel
theorem dM_order_143 : decode cM_order 143 = .ok (.goto (-83), 3) := by decide +kernel
theorem dM_order_146 : decode cM_order 146 = .ok (.aload_n 0, 1) := by decide +kernel
theorem dM_order_147 : decode cM_order 147 = .ok (.getfield 62, 3) := by decide +kernel
theorem dM_order_150 : decode cM_order 150 = .ok (.iload_n 1, 1) := by decide +kernel
theorem dM_order_151 : decode cM_order 151 = .ok (.iaload, 1) := by decide +kernel
theorem dM_order_152 : decode cM_order 152 = .ok (.ireturn, 1) := by decide +kernel
theorem dM_findKey_0 : decode cM_findKey 0 = .ok (.aload_n 0, 1) := by decide +kernel
theorem dM_findKey_1 : decode cM_findKey 1 = .ok (.iconst 0, 1) := by decide +kernel
theorem dM_findKey_2 : decode cM_findKey 2 = .ok (.putfield 184, 3) := by decide +kernel
theorem dM_findKey_5 : decode cM_findKey 5 = .ok (.iconst 0, 1) := by decide +kernel
theorem dM_findKey_6 : decode cM_findKey 6 = .ok (.istore_n 1, 1) := by decide +kernel
theorem dM_findKey_7 : decode cM_findKey 7 = .ok (.iload_n 1, 1) := by decide +kernel
theorem dM_findKey_8 : decode cM_findKey 8 = .ok (.iconst 3, 1) := by decide +kernel
theorem dM_findKey_9 : decode cM_findKey 9 = .ok (.if_icmp .ge 85, 3) := by decide +kernel
theorem dM_findKey_12 : decode cM_findKey 12 = .ok (.iload_n 1, 1) := by decide +kernel
theorem dM_findKey_13 : decode cM_findKey 13 = .ok (.ifCond .le 23, 3) := by decide +kernel
theorem dM_findKey_16 : decode cM_findKey 16 = .ok (.aload_n 0, 1) := by decide +kernel
theorem dM_findKey_17 : decode cM_findKey 17 = .ok (.getfield 44, 3) := by decide +kernel
theorem dM_findKey_20 : decode cM_findKey 20 = .ok (.aload_n 0, 1) := by decide +kernel
theorem dM_findKey_21 : decode cM_findKey 21 = .ok (.getfield 184, 3) := by decide +kernel
theorem dM_findKey_24 : decode cM_findKey 24 = .ok (.iconst 0, 1) := by decide +kernel
theorem dM_findKey_25 : decode cM_findKey 25 = .ok (.iastore, 1) := by decide +kernel
theorem dM_findKey_26 : decode cM_findKey 26 = .ok (.aload_n 0, 1) := by decide +kernel
theorem dM_findKey_27 : decode cM_findKey 27 = .ok (.dup, 1) := by decide +kernel
theorem dM_findKey_28 : decode cM_findKey 28 = .ok (.getfield 184, 3) := by decide +kernel
theorem dM_findKey_31 : decode cM_findKey 31 = .ok (.iconst 1, 1) := by decide +kernel
theorem dM_findKey_32 : decode cM_findKey 32 = .ok (.iadd, 1) := by decide +kernel
theorem dM_findKey_33 : decode cM_findKey 33 = .ok (.putfield 184, 3) := by decide +kernel
theorem dM_findKey_36 : decode cM_findKey 36 = .ok (.iconst 0, 1) := by decide +kernel
theorem dM_findKey_37 : decode cM_findKey 37 = .ok (.istore_n 2, 1) := by decide +kernel
theorem dM_findKey_38 : decode cM_findKey 38 = .ok (.iload_n 2, 1) := by decide +kernel
theorem dM_findKey_39 : decode cM_findKey 39 = .ok (.aload_n 0, 1) := by decide +kernel
theorem dM_findKey_40 : decode cM_findKey 40 = .ok (.getfield 84, 3) := by decide +kernel
theorem dM_findKey_43 : decode cM_findKey 43 = .ok (.if_icmp .ge 45, 3) := by decide +kernel
theorem dM_findKey_46 : decode cM_findKey 46 = .ok (.aload_n 0, 1) := by decide +kernel
theorem dM_findKey_47 : decode cM_findKey 47 = .ok (.aload_n 0, 1) := by decide +kernel
theorem dM_findKey_48 : decode cM_findKey 48 = .ok (.getfield 35, 3) := by decide +kernel
theorem dM_findKey_51 : decode cM_findKey 51 = .ok (.iload_n 2, 1) := by decide +kernel
theorem dM_findKey_52 : decode cM_findKey 52 = .ok (.iaload, 1) := by decide +kernel
theorem dM_findKey_53 : decode cM_findKey 53 = .ok (.iload_n 1, 1) := by decide +kernel
theorem dM_findKey_54 : decode cM_findKey 54 = .ok (.invokevirtual 187, 3) := by decide +kernel
theorem dM_findKey_57 : decode cM_findKey 57 = .ok (.istore_n 3, 1) := by decide +kernel
theorem dM_findKey_58 : decode cM_findKey 58 = .ok (.iload_n 3, 1) := by decide +kernel
theorem dM_findKey_59 : decode cM_findKey 59 = .ok (.ifCond .le 23, 3) := by decide +kernel
theorem dM_findKey_62 : decode cM_findKey 62 = .ok (.aload_n 0, 1) := by decide +kernel
theorem dM_findKey_63 : decode cM_findKey 63 = .ok (.getfield 44, 3) := by decide +kernel
theorem dM_findKey_66 : decode cM_findKey 66 = .ok (.aload_n 0, 1) := by decide +kernel
theorem dM_findKey_67 : decode cM_findKey 67 = .ok (.getfield 184, 3) := by decide +kernel
theorem dM_findKey_70 : decode cM_findKey 70 = .ok (.iload_n 3, 1) := by decide +kernel
theorem dM_findKey_71 : decode cM_findKey 71 = .ok (.iastore, 1) := by decide +kernel
theorem dM_findKey_72 : decode cM_findKey 72 = .ok (.aload_n 0, 1) := by decide +kernel
theorem dM_findKey_73 : decode cM_findKey 73 = .ok (.dup, 1) := by decide +kernel
theorem dM_findKey_74 : decode cM_findKey 74 = .ok (.getfield 184, 3) := by decide +kernel
theorem dM_findKey_77 : decode cM_findKey 77 = .ok (.iconst 1, 1) := by decide +kernel
theorem dM_findKey_78 : decode cM_findKey 78 = .ok (.iadd, 1) := by decide +kernel
theorem dM_findKey_79 : decode cM_findKey 79 = .ok (.putfield 184, 3) := by decide +kernel
theorem dM_findKey_82 : decode cM_findKey 82 = .ok (.iinc 2 1, 3) := by decide +kernel
theorem dM_findKey_85 : decode cM_findKey 85 = .ok (.goto (-47), 3) := by decide +kernel
theorem dM_findKey_88 : decode cM_findKey 88 = .ok (.iinc 1 1, 3) := by decide +kernel
theorem dM_findKey_91 : decode cM_findKey 91 = .ok (.goto (-84), 3) := by decide +kernel
theorem dM_findKey_94 : decode cM_findKey 94 = .ok (.return_, 1) := by decide +kernel
theorem dM_key_0 : decode cM_key 0 = .ok (.aload_n 0, 1) := by decide +kernel
theorem dM_key_1 : decode cM_key 1 = .ok (.iconst 0, 1) := by decide +kernel
theorem dM_key_2 : decode cM_key 2 = .ok (.putfield 65, 3) := by decide +kernel
theorem dM_key_5 : decode cM_key 5 = .ok (.aload_n 0, 1) := by decide +kernel
theorem dM_key_6 : decode cM_key 6 = .ok (.invokevirtual 123, 3) := by decide +kernel
theorem dM_key_9 : decode cM_key 9 = .ok (.aload_n 0, 1) := by decide +kernel
theorem dM_key_10 : decode cM_key 10 = .ok (.invokevirtual 190, 3) := by decide +kernel
theorem dM_key_13 : decode cM_key 13 = .ok (.aload_n 0, 1) := by decide +kernel
theorem dM_key_14 : decode cM_key 14 = .ok (.getfield 184, 3) := by decide +kernel
theorem dM_key_17 : decode cM_key 17 = .ok (.ireturn, 1) := by decide +kernel
theorem dM_keyAt_0 : decode cM_keyAt 0 = .ok (.aload_n 0, 1) := by decide +kernel
theorem dM_keyAt_1 : decode cM_keyAt 1 = .ok (.invokevirtual 123, 3) := by decide +kernel
theorem dM_keyAt_4 : decode cM_keyAt 4 = .ok (.aload_n 0, 1) := by decide +kernel
theorem dM_keyAt_5 : decode cM_keyAt 5 = .ok (.invokevirtual 190, 3) := by decide +kernel
theorem dM_keyAt_8 : decode cM_keyAt 8 = .ok (.aload_n 0, 1) := by decide +kernel
theorem dM_keyAt_9 : decode cM_keyAt 9 = .ok (.aload_n 0, 1) := by decide +kernel
theorem dM_keyAt_10 : decode cM_keyAt 10 = .ok (.iload_n 1, 1) := by decide +kernel
theorem dM_keyAt_11 : decode cM_keyAt 11 = .ok (.aload_n 0, 1) := by decide +kernel
theorem dM_keyAt_12 : decode cM_keyAt 12 = .ok (.getfield 184, 3) := by decide +kernel
theorem dM_keyAt_15 : decode cM_keyAt 15 = .ok (.invokevirtual 80, 3) := by decide +kernel
theorem dM_keyAt_18 : decode cM_keyAt 18 = .ok (.ifCond .eq 7, 3) := by decide +kernel
theorem dM_keyAt_21 : decode cM_keyAt 21 = .ok (.iconst 1, 1) := by decide +kernel
theorem dM_keyAt_22 : decode cM_keyAt 22 = .ok (.goto 4, 3) := by decide +kernel
theorem dM_keyAt_25 : decode cM_keyAt 25 = .ok (.iconst 0, 1) := by decide +kernel
theorem dM_keyAt_26 : decode cM_keyAt 26 = .ok (.putfield 65, 3) := by decide +kernel
theorem dM_keyAt_29 : decode cM_keyAt 29 = .ok (.aload_n 0, 1) := by decide +kernel
theorem dM_keyAt_30 : decode cM_keyAt 30 = .ok (.getfield 65, 3) := by decide +kernel
theorem dM_keyAt_33 : decode cM_keyAt 33 = .ok (.ifCond .ne 12, 3) := by decide +kernel
theorem dM_keyAt_36 : decode cM_keyAt 36 = .ok (.aload_n 0, 1) := by decide +kernel
theorem dM_keyAt_37 : decode cM_keyAt 37 = .ok (.getfield 44, 3) := by decide +kernel
theorem dM_keyAt_40 : decode cM_keyAt 40 = .ok (.iload_n 1, 1) := by decide +kernel
theorem dM_keyAt_41 : decode cM_keyAt 41 = .ok (.iaload, 1) := by decide +kernel
theorem dM_keyAt_42 : decode cM_keyAt 42 = .ok (.goto 4, 3) := by decide +kernel
theorem dM_keyAt_45 : decode cM_keyAt 45 = .ok (.iconst 0, 1) := by decide +kernel
theorem dM_keyAt_46 : decode cM_keyAt 46 = .ok (.ireturn, 1) := by decide +kernel
theorem dM_noSlot_0 : decode cM_noSlot 0 = .ok (.iload_n 1, 1) := by decide +kernel
theorem dM_noSlot_1 : decode cM_noSlot 1 = .ok (.ifCond .lt 8, 3) := by decide +kernel
theorem dM_noSlot_4 : decode cM_noSlot 4 = .ok (.iload_n 1, 1) := by decide +kernel
theorem dM_noSlot_5 : decode cM_noSlot 5 = .ok (.iconst 3, 1) := by decide +kernel
theorem dM_noSlot_6 : decode cM_noSlot 6 = .ok (.if_icmp .le 7, 3) := by decide +kernel
theorem dM_noSlot_9 : decode cM_noSlot 9 = .ok (.iconst 1, 1) := by decide +kernel
theorem dM_noSlot_10 : decode cM_noSlot 10 = .ok (.goto 4, 3) := by decide +kernel
theorem dM_noSlot_13 : decode cM_noSlot 13 = .ok (.iconst 0, 1) := by decide +kernel
theorem dM_noSlot_14 : decode cM_noSlot 14 = .ok (.ireturn, 1) := by decide +kernel
theorem dM_keep_0 : decode cM_keep 0 = .ok (.aload_n 0, 1) := by decide +kernel
theorem dM_keep_1 : decode cM_keep 1 = .ok (.aload_n 0, 1) := by decide +kernel
theorem dM_keep_2 : decode cM_keep 2 = .ok (.iload_n 1, 1) := by decide +kernel
theorem dM_keep_3 : decode cM_keep 3 = .ok (.invokevirtual 193, 3) := by decide +kernel
theorem dM_keep_6 : decode cM_keep 6 = .ok (.ifCond .eq 7, 3) := by decide +kernel
theorem dM_keep_9 : decode cM_keep 9 = .ok (.iconst 1, 1) := by decide +kernel
theorem dM_keep_10 : decode cM_keep 10 = .ok (.goto 4, 3) := by decide +kernel
theorem dM_keep_13 : decode cM_keep 13 = .ok (.iconst 0, 1) := by decide +kernel
theorem dM_keep_14 : decode cM_keep 14 = .ok (.putfield 65, 3) := by decide +kernel
theorem dM_keep_17 : decode cM_keep 17 = .ok (.aload_n 0, 1) := by decide +kernel
theorem dM_keep_18 : decode cM_keep 18 = .ok (.getfield 65, 3) := by decide +kernel
theorem dM_keep_21 : decode cM_keep 21 = .ok (.ifCond .ne 46, 3) := by decide +kernel
theorem dM_keep_24 : decode cM_keep 24 = .ok (.aload_n 0, 1) := by decide +kernel
theorem dM_keep_25 : decode cM_keep 25 = .ok (.getfield 29, 3) := by decide +kernel
theorem dM_keep_28 : decode cM_keep 28 = .ok (.iload_n 1, 1) := by decide +kernel
theorem dM_keep_29 : decode cM_keep 29 = .ok (.aload_n 0, 1) := by decide +kernel
theorem dM_keep_30 : decode cM_keep 30 = .ok (.getfield 77, 3) := by decide +kernel
theorem dM_keep_33 : decode cM_keep 33 = .ok (.iastore, 1) := by decide +kernel
theorem dM_keep_34 : decode cM_keep 34 = .ok (.iconst 0, 1) := by decide +kernel
theorem dM_keep_35 : decode cM_keep 35 = .ok (.istore_n 2, 1) := by decide +kernel
theorem dM_keep_36 : decode cM_keep 36 = .ok (.iload_n 2, 1) := by decide +kernel
theorem dM_keep_37 : decode cM_keep 37 = .ok (.aload_n 0, 1) := by decide +kernel
theorem dM_keep_38 : decode cM_keep 38 = .ok (.getfield 77, 3) := by decide +kernel
theorem dM_keep_41 : decode cM_keep 41 = .ok (.if_icmp .ge 26, 3) := by decide +kernel
theorem dM_keep_44 : decode cM_keep 44 = .ok (.aload_n 0, 1) := by decide +kernel
theorem dM_keep_45 : decode cM_keep 45 = .ok (.getfield 32, 3) := by decide +kernel
theorem dM_keep_48 : decode cM_keep 48 = .ok (.bipush 40, 2) := by decide +kernel
theorem dM_keep_50 : decode cM_keep 50 = .ok (.iload_n 1, 1) := by decide +kernel
theorem dM_keep_51 : decode cM_keep 51 = .ok (.imul, 1) := by decide +kernel
theorem dM_keep_52 : decode cM_keep 52 = .ok (.iload_n 2, 1) := by decide +kernel
theorem dM_keep_53 : decode cM_keep 53 = .ok (.iadd, 1) := by decide +kernel
theorem dM_keep_54 : decode cM_keep 54 = .ok (.aload_n 0, 1) := by decide +kernel
theorem dM_keep_55 : decode cM_keep 55 = .ok (.getfield 26, 3) := by decide +kernel
theorem dM_keep_58 : decode cM_keep 58 = .ok (.iload_n 2, 1) := by decide +kernel
theorem dM_keep_59 : decode cM_keep 59 = .ok (.iaload, 1) := by decide +kernel
theorem dM_keep_60 : decode cM_keep 60 = .ok (.iastore, 1) := by decide +kernel
theorem dM_keep_61 : decode cM_keep 61 = .ok (.iinc 2 1, 3) := by decide +kernel
theorem dM_keep_64 : decode cM_keep 64 = .ok (.goto (-28), 3) := by decide +kernel
theorem dM_keep_67 : decode cM_keep 67 = .ok (.return_, 1) := by decide +kernel
theorem dM_compare_0 : decode cM_compare 0 = .ok (.aload_n 0, 1) := by decide +kernel
theorem dM_compare_1 : decode cM_compare 1 = .ok (.aload_n 0, 1) := by decide +kernel
theorem dM_compare_2 : decode cM_compare 2 = .ok (.iload_n 1, 1) := by decide +kernel
theorem dM_compare_3 : decode cM_compare 3 = .ok (.invokevirtual 193, 3) := by decide +kernel
theorem dM_compare_6 : decode cM_compare 6 = .ok (.ifCond .eq 7, 3) := by decide +kernel
theorem dM_compare_9 : decode cM_compare 9 = .ok (.iconst 1, 1) := by decide +kernel
theorem dM_compare_10 : decode cM_compare 10 = .ok (.goto 4, 3) := by decide +kernel
theorem dM_compare_13 : decode cM_compare 13 = .ok (.iconst 0, 1) := by decide +kernel
theorem dM_compare_14 : decode cM_compare 14 = .ok (.putfield 65, 3) := by decide +kernel
theorem dM_compare_17 : decode cM_compare 17 = .ok (.aload_n 0, 1) := by decide +kernel
theorem dM_compare_18 : decode cM_compare 18 = .ok (.getfield 65, 3) := by decide +kernel
theorem dM_compare_21 : decode cM_compare 21 = .ok (.ifCond .eq 5, 3) := by decide +kernel
theorem dM_compare_24 : decode cM_compare 24 = .ok (.iconst 0, 1) := by decide +kernel
theorem dM_compare_25 : decode cM_compare 25 = .ok (.ireturn, 1) := by decide +kernel
theorem dM_compare_26 : decode cM_compare 26 = .ok (.aload_n 0, 1) := by decide +kernel
theorem dM_compare_27 : decode cM_compare 27 = .ok (.iload_n 1, 1) := by decide +kernel
theorem dM_compare_28 : decode cM_compare 28 = .ok (.invokevirtual 196, 3) := by decide +kernel
theorem dM_compare_31 : decode cM_compare 31 = .ok (.aload_n 0, 1) := by decide +kernel
theorem dM_compare_32 : decode cM_compare 32 = .ok (.invokevirtual 190, 3) := by decide +kernel
theorem dM_compare_35 : decode cM_compare 35 = .ok (.aload_n 0, 1) := by decide +kernel
theorem dM_compare_36 : decode cM_compare 36 = .ok (.aload_n 0, 1) := by decide +kernel
theorem dM_compare_37 : decode cM_compare 37 = .ok (.getfield 184, 3) := by decide +kernel
theorem dM_compare_40 : decode cM_compare 40 = .ok (.putfield 199, 3) := by decide +kernel
theorem dM_compare_43 : decode cM_compare 43 = .ok (.iconst 0, 1) := by decide +kernel
theorem dM_compare_44 : decode cM_compare 44 = .ok (.istore_n 2, 1) := by decide +kernel
theorem dM_compare_45 : decode cM_compare 45 = .ok (.iload_n 2, 1) := by decide +kernel
theorem dM_compare_46 : decode cM_compare 46 = .ok (.aload_n 0, 1) := by decide +kernel
theorem dM_compare_47 : decode cM_compare 47 = .ok (.getfield 184, 3) := by decide +kernel
theorem dM_compare_50 : decode cM_compare 50 = .ok (.if_icmp .ge 21, 3) := by decide +kernel
theorem dM_compare_53 : decode cM_compare 53 = .ok (.aload_n 0, 1) := by decide +kernel
theorem dM_compare_54 : decode cM_compare 54 = .ok (.getfield 47, 3) := by decide +kernel
theorem dM_compare_57 : decode cM_compare 57 = .ok (.iload_n 2, 1) := by decide +kernel
theorem dM_compare_58 : decode cM_compare 58 = .ok (.aload_n 0, 1) := by decide +kernel
theorem dM_compare_59 : decode cM_compare 59 = .ok (.getfield 44, 3) := by decide +kernel
theorem dM_compare_62 : decode cM_compare 62 = .ok (.iload_n 2, 1) := by decide +kernel
theorem dM_compare_63 : decode cM_compare 63 = .ok (.iaload, 1) := by decide +kernel
theorem dM_compare_64 : decode cM_compare 64 = .ok (.iastore, 1) := by decide +kernel
theorem dM_compare_65 : decode cM_compare 65 = .ok (.iinc 2 1, 3) := by decide +kernel
theorem dM_compare_68 : decode cM_compare 68 = .ok (.goto (-23), 3) := by decide +kernel
theorem dM_compare_71 : decode cM_compare 71 = .ok (.aload_n 0, 1) := by decide +kernel
theorem dM_compare_72 : decode cM_compare 72 = .ok (.invokevirtual 123, 3) := by decide +kernel
theorem dM_compare_75 : decode cM_compare 75 = .ok (.aload_n 0, 1) := by decide +kernel
theorem dM_compare_76 : decode cM_compare 76 = .ok (.invokevirtual 190, 3) := by decide +kernel
theorem dM_compare_79 : decode cM_compare 79 = .ok (.iconst 0, 1) := by decide +kernel
theorem dM_compare_80 : decode cM_compare 80 = .ok (.istore_n 2, 1) := by decide +kernel
theorem dM_compare_81 : decode cM_compare 81 = .ok (.iload_n 2, 1) := by decide +kernel
theorem dM_compare_82 : decode cM_compare 82 = .ok (.aload_n 0, 1) := by decide +kernel
theorem dM_compare_83 : decode cM_compare 83 = .ok (.getfield 184, 3) := by decide +kernel
theorem dM_compare_86 : decode cM_compare 86 = .ok (.if_icmp .ge 53, 3) := by decide +kernel
theorem dM_compare_89 : decode cM_compare 89 = .ok (.iload_n 2, 1) := by decide +kernel
theorem dM_compare_90 : decode cM_compare 90 = .ok (.aload_n 0, 1) := by decide +kernel
theorem dM_compare_91 : decode cM_compare 91 = .ok (.getfield 199, 3) := by decide +kernel
theorem dM_compare_94 : decode cM_compare 94 = .ok (.if_icmp .ge 45, 3) := by decide +kernel
theorem dM_compare_97 : decode cM_compare 97 = .ok (.aload_n 0, 1) := by decide +kernel
theorem dM_compare_98 : decode cM_compare 98 = .ok (.getfield 44, 3) := by decide +kernel
theorem dM_compare_101 : decode cM_compare 101 = .ok (.iload_n 2, 1) := by decide +kernel
theorem dM_compare_102 : decode cM_compare 102 = .ok (.iaload, 1) := by decide +kernel
theorem dM_compare_103 : decode cM_compare 103 = .ok (.aload_n 0, 1) := by decide +kernel
theorem dM_compare_104 : decode cM_compare 104 = .ok (.getfield 47, 3) := by decide +kernel
theorem dM_compare_107 : decode cM_compare 107 = .ok (.iload_n 2, 1) := by decide +kernel
theorem dM_compare_108 : decode cM_compare 108 = .ok (.iaload, 1) := by decide +kernel
theorem dM_compare_109 : decode cM_compare 109 = .ok (.if_icmp .eq 24, 3) := by decide +kernel
theorem dM_compare_112 : decode cM_compare 112 = .ok (.aload_n 0, 1) := by decide +kernel
theorem dM_compare_113 : decode cM_compare 113 = .ok (.getfield 44, 3) := by decide +kernel
theorem dM_compare_116 : decode cM_compare 116 = .ok (.iload_n 2, 1) := by decide +kernel
theorem dM_compare_117 : decode cM_compare 117 = .ok (.iaload, 1) := by decide +kernel
theorem dM_compare_118 : decode cM_compare 118 = .ok (.aload_n 0, 1) := by decide +kernel
theorem dM_compare_119 : decode cM_compare 119 = .ok (.getfield 47, 3) := by decide +kernel
theorem dM_compare_122 : decode cM_compare 122 = .ok (.iload_n 2, 1) := by decide +kernel
theorem dM_compare_123 : decode cM_compare 123 = .ok (.iaload, 1) := by decide +kernel
theorem dM_compare_124 : decode cM_compare 124 = .ok (.if_icmp .ge 7, 3) := by decide +kernel
theorem dM_compare_127 : decode cM_compare 127 = .ok (.iconst (-1), 1) := by decide +kernel
theorem dM_compare_128 : decode cM_compare 128 = .ok (.goto 4, 3) := by decide +kernel
theorem dM_compare_131 : decode cM_compare 131 = .ok (.iconst 1, 1) := by decide +kernel
theorem dM_compare_132 : decode cM_compare 132 = .ok (.ireturn, 1) := by decide +kernel
theorem dM_compare_133 : decode cM_compare 133 = .ok (.iinc 2 1, 3) := by decide +kernel
theorem dM_compare_136 : decode cM_compare 136 = .ok (.goto (-55), 3) := by decide +kernel
theorem dM_compare_139 : decode cM_compare 139 = .ok (.aload_n 0, 1) := by decide +kernel
theorem dM_compare_140 : decode cM_compare 140 = .ok (.getfield 184, 3) := by decide +kernel
theorem dM_compare_143 : decode cM_compare 143 = .ok (.aload_n 0, 1) := by decide +kernel
theorem dM_compare_144 : decode cM_compare 144 = .ok (.getfield 199, 3) := by decide +kernel
theorem dM_compare_147 : decode cM_compare 147 = .ok (.if_icmp .ge 7, 3) := by decide +kernel
theorem dM_compare_150 : decode cM_compare 150 = .ok (.iconst (-1), 1) := by decide +kernel
theorem dM_compare_151 : decode cM_compare 151 = .ok (.goto 19, 3) := by decide +kernel
theorem dM_compare_154 : decode cM_compare 154 = .ok (.aload_n 0, 1) := by decide +kernel
theorem dM_compare_155 : decode cM_compare 155 = .ok (.getfield 184, 3) := by decide +kernel
theorem dM_compare_158 : decode cM_compare 158 = .ok (.aload_n 0, 1) := by decide +kernel
theorem dM_compare_159 : decode cM_compare 159 = .ok (.getfield 199, 3) := by decide +kernel
theorem dM_compare_162 : decode cM_compare 162 = .ok (.if_icmp .le 7, 3) := by decide +kernel
theorem dM_compare_165 : decode cM_compare 165 = .ok (.iconst 1, 1) := by decide +kernel
theorem dM_compare_166 : decode cM_compare 166 = .ok (.goto 4, 3) := by decide +kernel
theorem dM_compare_169 : decode cM_compare 169 = .ok (.iconst 0, 1) := by decide +kernel
theorem dM_compare_170 : decode cM_compare 170 = .ok (.ireturn, 1) := by decide +kernel
theorem dM_same_0 : decode cM_same 0 = .ok (.aload_n 0, 1) := by decide +kernel
theorem dM_same_1 : decode cM_same 1 = .ok (.aload_n 0, 1) := by decide +kernel
theorem dM_same_2 : decode cM_same 2 = .ok (.iload_n 1, 1) := by decide +kernel
theorem dM_same_3 : decode cM_same 3 = .ok (.invokevirtual 193, 3) := by decide +kernel
theorem dM_same_6 : decode cM_same 6 = .ok (.ifCond .eq 7, 3) := by decide +kernel
theorem dM_same_9 : decode cM_same 9 = .ok (.iconst 1, 1) := by decide +kernel
theorem dM_same_10 : decode cM_same 10 = .ok (.goto 4, 3) := by decide +kernel
theorem dM_same_13 : decode cM_same 13 = .ok (.iconst 0, 1) := by decide +kernel
theorem dM_same_14 : decode cM_same 14 = .ok (.putfield 65, 3) := by decide +kernel
theorem dM_same_17 : decode cM_same 17 = .ok (.aload_n 0, 1) := by decide +kernel
theorem dM_same_18 : decode cM_same 18 = .ok (.getfield 65, 3) := by decide +kernel
theorem dM_same_21 : decode cM_same 21 = .ok (.ifCond .eq 5, 3) := by decide +kernel
theorem dM_same_24 : decode cM_same 24 = .ok (.iconst 0, 1) := by decide +kernel
theorem dM_same_25 : decode cM_same 25 = .ok (.ireturn, 1) := by decide +kernel
theorem dM_same_26 : decode cM_same 26 = .ok (.aload_n 0, 1) := by decide +kernel
theorem dM_same_27 : decode cM_same 27 = .ok (.iload_n 1, 1) := by decide +kernel
theorem dM_same_28 : decode cM_same 28 = .ok (.invokevirtual 196, 3) := by decide +kernel
theorem dM_same_31 : decode cM_same 31 = .ok (.aload_n 0, 1) := by decide +kernel
theorem dM_same_32 : decode cM_same 32 = .ok (.aload_n 0, 1) := by decide +kernel
theorem dM_same_33 : decode cM_same 33 = .ok (.getfield 84, 3) := by decide +kernel
theorem dM_same_36 : decode cM_same 36 = .ok (.putfield 202, 3) := by decide +kernel
theorem dM_same_39 : decode cM_same 39 = .ok (.iconst 0, 1) := by decide +kernel
theorem dM_same_40 : decode cM_same 40 = .ok (.istore_n 2, 1) := by decide +kernel
theorem dM_same_41 : decode cM_same 41 = .ok (.iload_n 2, 1) := by decide +kernel
theorem dM_same_42 : decode cM_same 42 = .ok (.aload_n 0, 1) := by decide +kernel
theorem dM_same_43 : decode cM_same 43 = .ok (.getfield 84, 3) := by decide +kernel
theorem dM_same_46 : decode cM_same 46 = .ok (.if_icmp .ge 21, 3) := by decide +kernel
theorem dM_same_49 : decode cM_same 49 = .ok (.aload_n 0, 1) := by decide +kernel
theorem dM_same_50 : decode cM_same 50 = .ok (.getfield 38, 3) := by decide +kernel
theorem dM_same_53 : decode cM_same 53 = .ok (.iload_n 2, 1) := by decide +kernel
theorem dM_same_54 : decode cM_same 54 = .ok (.aload_n 0, 1) := by decide +kernel
theorem dM_same_55 : decode cM_same 55 = .ok (.getfield 35, 3) := by decide +kernel
theorem dM_same_58 : decode cM_same 58 = .ok (.iload_n 2, 1) := by decide +kernel
theorem dM_same_59 : decode cM_same 59 = .ok (.iaload, 1) := by decide +kernel
theorem dM_same_60 : decode cM_same 60 = .ok (.iastore, 1) := by decide +kernel
theorem dM_same_61 : decode cM_same 61 = .ok (.iinc 2 1, 3) := by decide +kernel
theorem dM_same_64 : decode cM_same 64 = .ok (.goto (-23), 3) := by decide +kernel
theorem dM_same_67 : decode cM_same 67 = .ok (.aload_n 0, 1) := by decide +kernel
theorem dM_same_68 : decode cM_same 68 = .ok (.invokevirtual 123, 3) := by decide +kernel
theorem dM_same_71 : decode cM_same 71 = .ok (.aload_n 0, 1) := by decide +kernel
theorem dM_same_72 : decode cM_same 72 = .ok (.getfield 84, 3) := by decide +kernel
theorem dM_same_75 : decode cM_same 75 = .ok (.aload_n 0, 1) := by decide +kernel
theorem dM_same_76 : decode cM_same 76 = .ok (.getfield 202, 3) := by decide +kernel
theorem dM_same_79 : decode cM_same 79 = .ok (.if_icmp .ne 7, 3) := by decide +kernel
theorem dM_same_82 : decode cM_same 82 = .ok (.iconst 1, 1) := by decide +kernel
theorem dM_same_83 : decode cM_same 83 = .ok (.goto 4, 3) := by decide +kernel
theorem dM_same_86 : decode cM_same 86 = .ok (.iconst 0, 1) := by decide +kernel
theorem dM_same_87 : decode cM_same 87 = .ok (.istore_n 2, 1) := by decide +kernel
theorem dM_same_88 : decode cM_same 88 = .ok (.iconst 0, 1) := by decide +kernel
theorem dM_same_89 : decode cM_same 89 = .ok (.istore_n 3, 1) := by decide +kernel
theorem dM_same_90 : decode cM_same 90 = .ok (.iload_n 3, 1) := by decide +kernel
theorem dM_same_91 : decode cM_same 91 = .ok (.aload_n 0, 1) := by decide +kernel
theorem dM_same_92 : decode cM_same 92 = .ok (.getfield 84, 3) := by decide +kernel
theorem dM_same_95 : decode cM_same 95 = .ok (.if_icmp .ge 34, 3) := by decide +kernel
theorem dM_same_98 : decode cM_same 98 = .ok (.iload_n 2, 1) := by decide +kernel
theorem dM_same_99 : decode cM_same 99 = .ok (.ifCond .eq 30, 3) := by decide +kernel
theorem dM_same_102 : decode cM_same 102 = .ok (.aload_n 0, 1) := by decide +kernel
theorem dM_same_103 : decode cM_same 103 = .ok (.getfield 35, 3) := by decide +kernel
theorem dM_same_106 : decode cM_same 106 = .ok (.iload_n 3, 1) := by decide +kernel
theorem dM_same_107 : decode cM_same 107 = .ok (.iaload, 1) := by decide +kernel
theorem dM_same_108 : decode cM_same 108 = .ok (.aload_n 0, 1) := by decide +kernel
theorem dM_same_109 : decode cM_same 109 = .ok (.getfield 38, 3) := by decide +kernel
theorem dM_same_112 : decode cM_same 112 = .ok (.iload_n 3, 1) := by decide +kernel
theorem dM_same_113 : decode cM_same 113 = .ok (.iaload, 1) := by decide +kernel
theorem dM_same_114 : decode cM_same 114 = .ok (.if_icmp .ne 7, 3) := by decide +kernel
theorem dM_same_117 : decode cM_same 117 = .ok (.iconst 1, 1) := by decide +kernel
theorem dM_same_118 : decode cM_same 118 = .ok (.goto 4, 3) := by decide +kernel
theorem dM_same_121 : decode cM_same 121 = .ok (.iconst 0, 1) := by decide +kernel
theorem dM_same_122 : decode cM_same 122 = .ok (.istore_n 2, 1) := by decide +kernel
theorem dM_same_123 : decode cM_same 123 = .ok (.iinc 3 1, 3) := by decide +kernel
theorem dM_same_126 : decode cM_same 126 = .ok (.goto (-36), 3) := by decide +kernel
theorem dM_same_129 : decode cM_same 129 = .ok (.iload_n 2, 1) := by decide +kernel
theorem dM_same_130 : decode cM_same 130 = .ok (.ireturn, 1) := by decide +kernel
