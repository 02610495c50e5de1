theorem dT_init_0 : decode cT_init 0 = .ok (.aload_n 0, 1) := by decide +kernel
theorem dT_init_1 : decode cT_init 1 = .ok (.invokespecial 1, 3) := by decide +kernel
theorem dT_init_4 : decode cT_init 4 = .ok (.aload_n 0, 1) := by decide +kernel
theorem dT_init_5 : decode cT_init 5 = .ok (.getstatic 7, 3) := by decide +kernel
theorem dT_init_8 : decode cT_init 8 = .ok (.arraylength, 1) := by decide +kernel
theorem dT_init_9 : decode cT_init 9 = .ok (.bipush 75, 2) := by decide +kernel
theorem dT_init_11 : decode cT_init 11 = .ok (.multianewarray 13 2, 4) := by decide +kernel
theorem dT_init_15 : decode cT_init 15 = .ok (.putfield 15, 3) := by decide +kernel
theorem dT_init_18 : decode cT_init 18 = .ok (.aload_n 0, 1) := by decide +kernel
theorem dT_init_19 : decode cT_init 19 = .ok (.bipush 75, 2) := by decide +kernel
theorem dT_init_21 : decode cT_init 21 = .ok (.newarray .int, 2) := by decide +kernel
theorem dT_init_23 : decode cT_init 23 = .ok (.putfield 18, 3) := by decide +kernel
theorem dT_init_26 : decode cT_init 26 = .ok (.aload_n 0, 1) := by decide +kernel
theorem dT_init_27 : decode cT_init 27 = .ok (.bipush 75, 2) := by decide +kernel
theorem dT_init_29 : decode cT_init 29 = .ok (.newarray .int, 2) := by decide +kernel
theorem dT_init_31 : decode cT_init 31 = .ok (.putfield 21, 3) := by decide +kernel
theorem dT_init_34 : decode cT_init 34 = .ok (.aload_n 0, 1) := by decide +kernel
theorem dT_init_35 : decode cT_init 35 = .ok (.bipush 75, 2) := by decide +kernel
theorem dT_init_37 : decode cT_init 37 = .ok (.newarray .boolean, 2) := by decide +kernel
theorem dT_init_39 : decode cT_init 39 = .ok (.putfield 24, 3) := by decide +kernel
theorem dT_init_42 : decode cT_init 42 = .ok (.aload_n 0, 1) := by decide +kernel
theorem dT_init_43 : decode cT_init 43 = .ok (.sipush 300, 3) := by decide +kernel
theorem dT_init_46 : decode cT_init 46 = .ok (.newarray .int, 2) := by decide +kernel
theorem dT_init_48 : decode cT_init 48 = .ok (.putfield 28, 3) := by decide +kernel
theorem dT_init_51 : decode cT_init 51 = .ok (.aload_n 0, 1) := by decide +kernel
theorem dT_init_52 : decode cT_init 52 = .ok (.bipush 75, 2) := by decide +kernel
theorem dT_init_54 : decode cT_init 54 = .ok (.newarray .int, 2) := by decide +kernel
theorem dT_init_56 : decode cT_init 56 = .ok (.putfield 31, 3) := by decide +kernel
theorem dT_init_59 : decode cT_init 59 = .ok (.aload_n 0, 1) := by decide +kernel
theorem dT_init_60 : decode cT_init 60 = .ok (.bipush 75, 2) := by decide +kernel
theorem dT_init_62 : decode cT_init 62 = .ok (.newarray .int, 2) := by decide +kernel
theorem dT_init_64 : decode cT_init 64 = .ok (.putfield 34, 3) := by decide +kernel
theorem dT_init_67 : decode cT_init 67 = .ok (.aload_n 0, 1) := by decide +kernel
theorem dT_init_68 : decode cT_init 68 = .ok (.invokevirtual 37, 3) := by decide +kernel
theorem dT_init_71 : decode cT_init 71 = .ok (.aload_n 0, 1) := by decide +kernel
theorem dT_init_72 : decode cT_init 72 = .ok (.invokevirtual 40, 3) := by decide +kernel
theorem dT_init_75 : decode cT_init 75 = .ok (.aload_n 0, 1) := by decide +kernel
theorem dT_init_76 : decode cT_init 76 = .ok (.invokevirtual 43, 3) := by decide +kernel
theorem dT_init_79 : decode cT_init 79 = .ok (.return_, 1) := by decide +kernel
theorem dT_isSettable_0 : decode cT_isSettable 0 = .ok (.iload_n 0, 1) := by decide +kernel
theorem dT_isSettable_1 : decode cT_isSettable 1 = .ok (.ifCond .lt 13, 3) := by decide +kernel
theorem dT_isSettable_4 : decode cT_isSettable 4 = .ok (.iload_n 0, 1) := by decide +kernel
theorem dT_isSettable_5 : decode cT_isSettable 5 = .ok (.bipush 40, 2) := by decide +kernel
theorem dT_isSettable_7 : decode cT_isSettable 7 = .ok (.if_icmp .ge 7, 3) := by decide +kernel
theorem dT_isSettable_10 : decode cT_isSettable 10 = .ok (.iconst 1, 1) := by decide +kernel
theorem dT_isSettable_11 : decode cT_isSettable 11 = .ok (.goto 4, 3) := by decide +kernel
theorem dT_isSettable_14 : decode cT_isSettable 14 = .ok (.iconst 0, 1) := by decide +kernel
theorem dT_isSettable_15 : decode cT_isSettable 15 = .ok (.ireturn, 1) := by decide +kernel
theorem dT_isInRange_0 : decode cT_isInRange 0 = .ok (.iload_n 0, 1) := by decide +kernel
theorem dT_isInRange_1 : decode cT_isInRange 1 = .ok (.ifCond .lt 28, 3) := by decide +kernel
theorem dT_isInRange_4 : decode cT_isInRange 4 = .ok (.iload_n 0, 1) := by decide +kernel
theorem dT_isInRange_5 : decode cT_isInRange 5 = .ok (.getstatic 7, 3) := by decide +kernel
theorem dT_isInRange_8 : decode cT_isInRange 8 = .ok (.arraylength, 1) := by decide +kernel
theorem dT_isInRange_9 : decode cT_isInRange 9 = .ok (.if_icmp .ge 20, 3) := by decide +kernel
theorem dT_isInRange_12 : decode cT_isInRange 12 = .ok (.iload_n 1, 1) := by decide +kernel
theorem dT_isInRange_13 : decode cT_isInRange 13 = .ok (.ifCond .lt 16, 3) := by decide +kernel
theorem dT_isInRange_16 : decode cT_isInRange 16 = .ok (.iload_n 1, 1) := by decide +kernel
theorem dT_isInRange_17 : decode cT_isInRange 17 = .ok (.getstatic 7, 3) := by decide +kernel
theorem dT_isInRange_20 : decode cT_isInRange 20 = .ok (.iload_n 0, 1) := by decide +kernel
theorem dT_isInRange_21 : decode cT_isInRange 21 = .ok (.iaload, 1) := by decide +kernel
theorem dT_isInRange_22 : decode cT_isInRange 22 = .ok (.if_icmp .gt 7, 3) := by decide +kernel
theorem dT_isInRange_25 : decode cT_isInRange 25 = .ok (.iconst 1, 1) := by decide +kernel
theorem dT_isInRange_26 : decode cT_isInRange 26 = .ok (.goto 4, 3) := by decide +kernel
theorem dT_isInRange_29 : decode cT_isInRange 29 = .ok (.iconst 0, 1) := by decide +kernel
theorem dT_isInRange_30 : decode cT_isInRange 30 = .ok (.ireturn, 1) := by decide +kernel
theorem dT_isParting_0 : decode cT_isParting 0 = .ok (.iload_n 0, 1) := by decide +kernel
theorem dT_isParting_1 : decode cT_isParting 1 = .ok (.invokestatic 46, 3) := by decide +kernel
theorem dT_isParting_4 : decode cT_isParting 4 = .ok (.ifCond .eq 23, 3) := by decide +kernel
theorem dT_isParting_7 : decode cT_isParting 7 = .ok (.iload_n 1, 1) := by decide +kernel
theorem dT_isParting_8 : decode cT_isParting 8 = .ok (.iconst (-1), 1) := by decide +kernel
theorem dT_isParting_9 : decode cT_isParting 9 = .ok (.if_icmp .lt 18, 3) := by decide +kernel
theorem dT_isParting_12 : decode cT_isParting 12 = .ok (.iload_n 1, 1) := by decide +kernel
theorem dT_isParting_13 : decode cT_isParting 13 = .ok (.iload_n 0, 1) := by decide +kernel
theorem dT_isParting_14 : decode cT_isParting 14 = .ok (.if_icmp .ge 13, 3) := by decide +kernel
theorem dT_isParting_17 : decode cT_isParting 17 = .ok (.iload_n 2, 1) := by decide +kernel
theorem dT_isParting_18 : decode cT_isParting 18 = .ok (.iconst (-1), 1) := by decide +kernel
theorem dT_isParting_19 : decode cT_isParting 19 = .ok (.if_icmp .lt 8, 3) := by decide +kernel
theorem dT_isParting_22 : decode cT_isParting 22 = .ok (.iload_n 2, 1) := by decide +kernel
theorem dT_isParting_23 : decode cT_isParting 23 = .ok (.iload_n 0, 1) := by decide +kernel
theorem dT_isParting_24 : decode cT_isParting 24 = .ok (.if_icmp .lt 5, 3) := by decide +kernel
theorem dT_isParting_27 : decode cT_isParting 27 = .ok (.iconst 0, 1) := by decide +kernel
theorem dT_isParting_28 : decode cT_isParting 28 = .ok (.ireturn, 1) := by decide +kernel
theorem dT_isParting_29 : decode cT_isParting 29 = .ok (.iload_n 1, 1) := by decide +kernel
theorem dT_isParting_30 : decode cT_isParting 30 = .ok (.iconst (-1), 1) := by decide +kernel
theorem dT_isParting_31 : decode cT_isParting 31 = .ok (.if_icmp .ne 8, 3) := by decide +kernel
theorem dT_isParting_34 : decode cT_isParting 34 = .ok (.iload_n 2, 1) := by decide +kernel
theorem dT_isParting_35 : decode cT_isParting 35 = .ok (.iconst (-1), 1) := by decide +kernel
theorem dT_isParting_36 : decode cT_isParting 36 = .ok (.if_icmp .ne 7, 3) := by decide +kernel
theorem dT_isParting_39 : decode cT_isParting 39 = .ok (.iconst 1, 1) := by decide +kernel
theorem dT_isParting_40 : decode cT_isParting 40 = .ok (.goto 4, 3) := by decide +kernel
theorem dT_isParting_43 : decode cT_isParting 43 = .ok (.iconst 0, 1) := by decide +kernel
theorem dT_isParting_44 : decode cT_isParting 44 = .ok (.ireturn, 1) := by decide +kernel
theorem dT_isLead_0 : decode cT_isLead 0 = .ok (.iload_n 0, 1) := by decide +kernel
theorem dT_isLead_1 : decode cT_isLead 1 = .ok (.bipush 40, 2) := by decide +kernel
theorem dT_isLead_3 : decode cT_isLead 3 = .ok (.if_icmp .lt 13, 3) := by decide +kernel
theorem dT_isLead_6 : decode cT_isLead 6 = .ok (.iload_n 0, 1) := by decide +kernel
theorem dT_isLead_7 : decode cT_isLead 7 = .ok (.bipush 43, 2) := by decide +kernel
theorem dT_isLead_9 : decode cT_isLead 9 = .ok (.if_icmp .ge 7, 3) := by decide +kernel
theorem dT_isLead_12 : decode cT_isLead 12 = .ok (.iconst 1, 1) := by decide +kernel
theorem dT_isLead_13 : decode cT_isLead 13 = .ok (.goto 4, 3) := by decide +kernel
theorem dT_isLead_16 : decode cT_isLead 16 = .ok (.iconst 0, 1) := by decide +kernel
theorem dT_isLead_17 : decode cT_isLead 17 = .ok (.ireturn, 1) := by decide +kernel
theorem dT_isVowel_0 : decode cT_isVowel 0 = .ok (.iload_n 0, 1) := by decide +kernel
theorem dT_isVowel_1 : decode cT_isVowel 1 = .ok (.bipush 43, 2) := by decide +kernel
theorem dT_isVowel_3 : decode cT_isVowel 3 = .ok (.if_icmp .lt 13, 3) := by decide +kernel
theorem dT_isVowel_6 : decode cT_isVowel 6 = .ok (.iload_n 0, 1) := by decide +kernel
theorem dT_isVowel_7 : decode cT_isVowel 7 = .ok (.bipush 46, 2) := by decide +kernel
theorem dT_isVowel_9 : decode cT_isVowel 9 = .ok (.if_icmp .ge 7, 3) := by decide +kernel
theorem dT_isVowel_12 : decode cT_isVowel 12 = .ok (.iconst 1, 1) := by decide +kernel
theorem dT_isVowel_13 : decode cT_isVowel 13 = .ok (.goto 4, 3) := by decide +kernel
theorem dT_isVowel_16 : decode cT_isVowel 16 = .ok (.iconst 0, 1) := by decide +kernel
theorem dT_isVowel_17 : decode cT_isVowel 17 = .ok (.ireturn, 1) := by decide +kernel
theorem dT_isTail_0 : decode cT_isTail 0 = .ok (.iload_n 0, 1) := by decide +kernel
theorem dT_isTail_1 : decode cT_isTail 1 = .ok (.bipush 46, 2) := by decide +kernel
theorem dT_isTail_3 : decode cT_isTail 3 = .ok (.if_icmp .lt 13, 3) := by decide +kernel
theorem dT_isTail_6 : decode cT_isTail 6 = .ok (.iload_n 0, 1) := by decide +kernel
theorem dT_isTail_7 : decode cT_isTail 7 = .ok (.bipush 48, 2) := by decide +kernel
theorem dT_isTail_9 : decode cT_isTail 9 = .ok (.if_icmp .ge 7, 3) := by decide +kernel
theorem dT_isTail_12 : decode cT_isTail 12 = .ok (.iconst 1, 1) := by decide +kernel
theorem dT_isTail_13 : decode cT_isTail 13 = .ok (.goto 4, 3) := by decide +kernel
theorem dT_isTail_16 : decode cT_isTail 16 = .ok (.iconst 0, 1) := by decide +kernel
theorem dT_isTail_17 : decode cT_isTail 17 = .ok (.ireturn, 1) := by decide +kernel
theorem dT_isSyllable_0 : decode cT_isSyllable 0 = .ok (.iload_n 0, 1) := by decide +kernel
theorem dT_isSyllable_1 : decode cT_isSyllable 1 = .ok (.bipush 48, 2) := by decide +kernel
theorem dT_isSyllable_3 : decode cT_isSyllable 3 = .ok (.if_icmp .lt 7, 3) := by decide +kernel
theorem dT_isSyllable_6 : decode cT_isSyllable 6 = .ok (.iconst 1, 1) := by decide +kernel
theorem dT_isSyllable_7 : decode cT_isSyllable 7 = .ok (.goto 4, 3) := by decide +kernel
theorem dT_isSyllable_10 : decode cT_isSyllable 10 = .ok (.iconst 0, 1) := by decide +kernel
theorem dT_isSyllable_11 : decode cT_isSyllable 11 = .ok (.ireturn, 1) := by decide +kernel
theorem dT_hasTail_0 : decode cT_hasTail 0 = .ok (.iload_n 0, 1) := by decide +kernel
theorem dT_hasTail_1 : decode cT_hasTail 1 = .ok (.invokestatic 50, 3) := by decide +kernel
theorem dT_hasTail_4 : decode cT_hasTail 4 = .ok (.ifCond .eq 16, 3) := by decide +kernel
theorem dT_hasTail_7 : decode cT_hasTail 7 = .ok (.iload_n 0, 1) := by decide +kernel
theorem dT_hasTail_8 : decode cT_hasTail 8 = .ok (.bipush 48, 2) := by decide +kernel
theorem dT_hasTail_10 : decode cT_hasTail 10 = .ok (.isub, 1) := by decide +kernel
theorem dT_hasTail_11 : decode cT_hasTail 11 = .ok (.iconst 3, 1) := by decide +kernel
theorem dT_hasTail_12 : decode cT_hasTail 12 = .ok (.irem, 1) := by decide +kernel
theorem dT_hasTail_13 : decode cT_hasTail 13 = .ok (.ifCond .eq 7, 3) := by decide +kernel
theorem dT_hasTail_16 : decode cT_hasTail 16 = .ok (.iconst 1, 1) := by decide +kernel
theorem dT_hasTail_17 : decode cT_hasTail 17 = .ok (.goto 4, 3) := by decide +kernel
theorem dT_hasTail_20 : decode cT_hasTail 20 = .ok (.iconst 0, 1) := by decide +kernel
theorem dT_hasTail_21 : decode cT_hasTail 21 = .ok (.ireturn, 1) := by decide +kernel
theorem dT_change_0 : decode cT_change 0 = .ok (.aload_n 0, 1) := by decide +kernel
theorem dT_change_1 : decode cT_change 1 = .ok (.getfield 15, 3) := by decide +kernel
theorem dT_change_4 : decode cT_change 4 = .ok (.iload_n 2, 1) := by decide +kernel
theorem dT_change_5 : decode cT_change 5 = .ok (.aaload, 1) := by decide +kernel
theorem dT_change_6 : decode cT_change 6 = .ok (.iload_n 1, 1) := by decide +kernel
theorem dT_change_7 : decode cT_change 7 = .ok (.iload_n 3, 1) := by decide +kernel
theorem dT_change_8 : decode cT_change 8 = .ok (.iastore, 1) := by decide +kernel
theorem dT_change_9 : decode cT_change 9 = .ok (.return_, 1) := by decide +kernel
theorem dT_staysSmall_0 : decode cT_staysSmall 0 = .ok (.iconst 0, 1) := by decide +kernel
theorem dT_staysSmall_1 : decode cT_staysSmall 1 = .ok (.istore 4, 2) := by decide +kernel
theorem dT_staysSmall_3 : decode cT_staysSmall 3 = .ok (.iload 4, 2) := by decide +kernel
theorem dT_staysSmall_5 : decode cT_staysSmall 5 = .ok (.bipush 40, 2) := by decide +kernel
theorem dT_staysSmall_7 : decode cT_staysSmall 7 = .ok (.if_icmp .ge 107, 3) := by decide +kernel
theorem dT_staysSmall_10 : decode cT_staysSmall 10 = .ok (.iload 4, 2) := by decide +kernel
theorem dT_staysSmall_12 : decode cT_staysSmall 12 = .ok (.iload_n 1, 1) := by decide +kernel
theorem dT_staysSmall_13 : decode cT_staysSmall 13 = .ok (.if_icmp .ne 7, 3) := by decide +kernel
theorem dT_staysSmall_16 : decode cT_staysSmall 16 = .ok (.iload_n 2, 1) := by decide +kernel
theorem dT_staysSmall_17 : decode cT_staysSmall 17 = .ok (.goto 10, 3) := by decide +kernel
theorem dT_staysSmall_20 : decode cT_staysSmall 20 = .ok (.aload_n 0, 1) := by decide +kernel
theorem dT_staysSmall_21 : decode cT_staysSmall 21 = .ok (.getfield 18, 3) := by decide +kernel
theorem dT_staysSmall_24 : decode cT_staysSmall 24 = .ok (.iload 4, 2) := by decide +kernel
theorem dT_staysSmall_26 : decode cT_staysSmall 26 = .ok (.iaload, 1) := by decide +kernel
theorem dT_staysSmall_27 : decode cT_staysSmall 27 = .ok (.istore 5, 2) := by decide +kernel
theorem dT_staysSmall_29 : decode cT_staysSmall 29 = .ok (.iload 4, 2) := by decide +kernel
theorem dT_staysSmall_31 : decode cT_staysSmall 31 = .ok (.iload_n 1, 1) := by decide +kernel
theorem dT_staysSmall_32 : decode cT_staysSmall 32 = .ok (.if_icmp .ne 7, 3) := by decide +kernel
theorem dT_staysSmall_35 : decode cT_staysSmall 35 = .ok (.iload_n 3, 1) := by decide +kernel
theorem dT_staysSmall_36 : decode cT_staysSmall 36 = .ok (.goto 10, 3) := by decide +kernel
theorem dT_staysSmall_39 : decode cT_staysSmall 39 = .ok (.aload_n 0, 1) := by decide +kernel
theorem dT_staysSmall_40 : decode cT_staysSmall 40 = .ok (.getfield 21, 3) := by decide +kernel
theorem dT_staysSmall_43 : decode cT_staysSmall 43 = .ok (.iload 4, 2) := by decide +kernel
theorem dT_staysSmall_45 : decode cT_staysSmall 45 = .ok (.iaload, 1) := by decide +kernel
theorem dT_staysSmall_46 : decode cT_staysSmall 46 = .ok (.istore 6, 2) := by decide +kernel
theorem dT_staysSmall_48 : decode cT_staysSmall 48 = .ok (.aload_n 0, 1) := by decide +kernel
theorem dT_staysSmall_49 : decode cT_staysSmall 49 = .ok (.getfield 34, 3) := by decide +kernel
theorem dT_staysSmall_52 : decode cT_staysSmall 52 = .ok (.iload 4, 2) := by decide +kernel
theorem dT_staysSmall_54 : decode cT_staysSmall 54 = .ok (.iload 5, 2) := by decide +kernel
theorem dT_staysSmall_56 : decode cT_staysSmall 56 = .ok (.iconst (-1), 1) := by decide +kernel
theorem dT_staysSmall_57 : decode cT_staysSmall 57 = .ok (.if_icmp .ne 7, 3) := by decide +kernel
theorem dT_staysSmall_60 : decode cT_staysSmall 60 = .ok (.iconst 1, 1) := by decide +kernel
theorem dT_staysSmall_61 : decode cT_staysSmall 61 = .ok (.goto 10, 3) := by decide +kernel
theorem dT_staysSmall_64 : decode cT_staysSmall 64 = .ok (.aload_n 0, 1) := by decide +kernel
theorem dT_staysSmall_65 : decode cT_staysSmall 65 = .ok (.getfield 34, 3) := by decide +kernel
theorem dT_staysSmall_68 : decode cT_staysSmall 68 = .ok (.iload 5, 2) := by decide +kernel
theorem dT_staysSmall_70 : decode cT_staysSmall 70 = .ok (.iaload, 1) := by decide +kernel
theorem dT_staysSmall_71 : decode cT_staysSmall 71 = .ok (.iastore, 1) := by decide +kernel
theorem dT_staysSmall_72 : decode cT_staysSmall 72 = .ok (.iload 6, 2) := by decide +kernel
theorem dT_staysSmall_74 : decode cT_staysSmall 74 = .ok (.iconst (-1), 1) := by decide +kernel
theorem dT_staysSmall_75 : decode cT_staysSmall 75 = .ok (.if_icmp .eq 20, 3) := by decide +kernel
theorem dT_staysSmall_78 : decode cT_staysSmall 78 = .ok (.aload_n 0, 1) := by decide +kernel
theorem dT_staysSmall_79 : decode cT_staysSmall 79 = .ok (.getfield 34, 3) := by decide +kernel
theorem dT_staysSmall_82 : decode cT_staysSmall 82 = .ok (.iload 4, 2) := by decide +kernel
theorem dT_staysSmall_84 : decode cT_staysSmall 84 = .ok (.dup2, 1) := by decide +kernel
theorem dT_staysSmall_85 : decode cT_staysSmall 85 = .ok (.iaload, 1) := by decide +kernel
theorem dT_staysSmall_86 : decode cT_staysSmall 86 = .ok (.aload_n 0, 1) := by decide +kernel
theorem dT_staysSmall_87 : decode cT_staysSmall 87 = .ok (.getfield 34, 3) := by decide +kernel
theorem dT_staysSmall_90 : decode cT_staysSmall 90 = .ok (.iload 6, 2) := by decide +kernel
theorem dT_staysSmall_92 : decode cT_staysSmall 92 = .ok (.iaload, 1) := by decide +kernel
theorem dT_staysSmall_93 : decode cT_staysSmall 93 = .ok (.iadd, 1) := by decide +kernel
theorem dT_staysSmall_94 : decode cT_staysSmall 94 = .ok (.iastore, 1) := by decide +kernel
theorem dT_staysSmall_95 : decode cT_staysSmall 95 = .ok (.aload_n 0, 1) := by decide +kernel
theorem dT_staysSmall_96 : decode cT_staysSmall 96 = .ok (.getfield 34, 3) := by decide +kernel
theorem dT_staysSmall_99 : decode cT_staysSmall 99 = .ok (.iload 4, 2) := by decide +kernel
theorem dT_staysSmall_101 : decode cT_staysSmall 101 = .ok (.iaload, 1) := by decide +kernel
theorem dT_staysSmall_102 : decode cT_staysSmall 102 = .ok (.iconst 4, 1) := by decide +kernel
theorem dT_staysSmall_103 : decode cT_staysSmall 103 = .ok (.if_icmp .le 5, 3) := by decide +kernel
theorem dT_staysSmall_106 : decode cT_staysSmall 106 = .ok (.iconst 0, 1) := by decide +kernel
theorem dT_staysSmall_107 : decode cT_staysSmall 107 = .ok (.ireturn, 1) := by decide +kernel
theorem dT_staysSmall_108 : decode cT_staysSmall 108 = .ok (.iinc 4 1, 3) := by decide +kernel
theorem dT_staysSmall_111 : decode cT_staysSmall 111 = .ok (.goto (-108), 3) := by decide +kernel
theorem dT_staysSmall_114 : decode cT_staysSmall 114 = .ok (.iconst 1, 1) := by decide +kernel
theorem dT_staysSmall_115 : decode cT_staysSmall 115 = .ok (.ireturn, 1) := by decide +kernel
theorem dT_changeParting_0 : decode cT_changeParting 0 = .ok (.aload_n 0, 1) := by decide +kernel
theorem dT_changeParting_1 : decode cT_changeParting 1 = .ok (.getfield 18, 3) := by decide +kernel
theorem dT_changeParting_4 : decode cT_changeParting 4 = .ok (.iload_n 1, 1) := by decide +kernel
theorem dT_changeParting_5 : decode cT_changeParting 5 = .ok (.iload_n 2, 1) := by decide +kernel
theorem dT_changeParting_6 : decode cT_changeParting 6 = .ok (.iastore, 1) := by decide +kernel
theorem dT_changeParting_7 : decode cT_changeParting 7 = .ok (.aload_n 0, 1) := by decide +kernel
theorem dT_changeParting_8 : decode cT_changeParting 8 = .ok (.getfield 21, 3) := by decide +kernel
theorem dT_changeParting_11 : decode cT_changeParting 11 = .ok (.iload_n 1, 1) := by decide +kernel
theorem dT_changeParting_12 : decode cT_changeParting 12 = .ok (.iload_n 3, 1) := by decide +kernel
theorem dT_changeParting_13 : decode cT_changeParting 13 = .ok (.iastore, 1) := by decide +kernel
theorem dT_changeParting_14 : decode cT_changeParting 14 = .ok (.aload_n 0, 1) := by decide +kernel
theorem dT_changeParting_15 : decode cT_changeParting 15 = .ok (.getfield 24, 3) := by decide +kernel
theorem dT_changeParting_18 : decode cT_changeParting 18 = .ok (.iload_n 1, 1) := by decide +kernel
theorem dT_changeParting_19 : decode cT_changeParting 19 = .ok (.iload 4, 2) := by decide +kernel
theorem dT_changeParting_21 : decode cT_changeParting 21 = .ok (.bastore, 1) := by decide +kernel
theorem dT_changeParting_22 : decode cT_changeParting 22 = .ok (.aload_n 0, 1) := by decide +kernel
theorem dT_changeParting_23 : decode cT_changeParting 23 = .ok (.invokevirtual 43, 3) := by decide +kernel
theorem dT_changeParting_26 : decode cT_changeParting 26 = .ok (.return_, 1) := by decide +kernel
theorem dT_rank_0 : decode cT_rank 0 = .ok (.aload_n 0, 1) := by decide +kernel
theorem dT_rank_1 : decode cT_rank 1 = .ok (.getfield 15, 3) := by decide +kernel
theorem dT_rank_4 : decode cT_rank 4 = .ok (.iconst 0, 1) := by decide +kernel
theorem dT_rank_5 : decode cT_rank 5 = .ok (.aaload, 1) := by decide +kernel
theorem dT_rank_6 : decode cT_rank 6 = .ok (.iload_n 1, 1) := by decide +kernel
theorem dT_rank_7 : decode cT_rank 7 = .ok (.iaload, 1) := by decide +kernel
theorem dT_rank_8 : decode cT_rank 8 = .ok (.ireturn, 1) := by decide +kernel
theorem dT_clusterClass_0 : decode cT_clusterClass 0 = .ok (.aload_n 0, 1) := by decide +kernel
theorem dT_clusterClass_1 : decode cT_clusterClass 1 = .ok (.getfield 15, 3) := by decide +kernel
theorem dT_clusterClass_4 : decode cT_clusterClass 4 = .ok (.iconst 1, 1) := by decide +kernel
theorem dT_clusterClass_5 : decode cT_clusterClass 5 = .ok (.aaload, 1) := by decide +kernel
theorem dT_clusterClass_6 : decode cT_clusterClass 6 = .ok (.iload_n 1, 1) := by decide +kernel
theorem dT_clusterClass_7 : decode cT_clusterClass 7 = .ok (.iaload, 1) := by decide +kernel
theorem dT_clusterClass_8 : decode cT_clusterClass 8 = .ok (.ireturn, 1) := by decide +kernel
theorem dT_lineClass_0 : decode cT_lineClass 0 = .ok (.aload_n 0, 1) := by decide +kernel
theorem dT_lineClass_1 : decode cT_lineClass 1 = .ok (.getfield 15, 3) := by decide +kernel
theorem dT_lineClass_4 : decode cT_lineClass 4 = .ok (.iconst 2, 1) := by decide +kernel
theorem dT_lineClass_5 : decode cT_lineClass 5 = .ok (.aaload, 1) := by decide +kernel
theorem dT_lineClass_6 : decode cT_lineClass 6 = .ok (.iload_n 1, 1) := by decide +kernel
theorem dT_lineClass_7 : decode cT_lineClass 7 = .ok (.iaload, 1) := by decide +kernel
theorem dT_lineClass_8 : decode cT_lineClass 8 = .ok (.ireturn, 1) := by decide +kernel
theorem dT_sideClass_0 : decode cT_sideClass 0 = .ok (.aload_n 0, 1) := by decide +kernel
theorem dT_sideClass_1 : decode cT_sideClass 1 = .ok (.getfield 15, 3) := by decide +kernel
theorem dT_sideClass_4 : decode cT_sideClass 4 = .ok (.iconst 3, 1) := by decide +kernel
theorem dT_sideClass_5 : decode cT_sideClass 5 = .ok (.aaload, 1) := by decide +kernel
theorem dT_sideClass_6 : decode cT_sideClass 6 = .ok (.iload_n 1, 1) := by decide +kernel
theorem dT_sideClass_7 : decode cT_sideClass 7 = .ok (.iaload, 1) := by decide +kernel
theorem dT_sideClass_8 : decode cT_sideClass 8 = .ok (.ireturn, 1) := by decide +kernel
theorem dT_weight_0 : decode cT_weight 0 = .ok (.aload_n 0, 1) := by decide +kernel
theorem dT_weight_1 : decode cT_weight 1 = .ok (.getfield 15, 3) := by decide +kernel
theorem dT_weight_4 : decode cT_weight 4 = .ok (.iconst 4, 1) := by decide +kernel
theorem dT_weight_5 : decode cT_weight 5 = .ok (.iload_n 2, 1) := by decide +kernel
theorem dT_weight_6 : decode cT_weight 6 = .ok (.iadd, 1) := by decide +kernel
theorem dT_weight_7 : decode cT_weight 7 = .ok (.aaload, 1) := by decide +kernel
theorem dT_weight_8 : decode cT_weight 8 = .ok (.iload_n 1, 1) := by decide +kernel
theorem dT_weight_9 : decode cT_weight 9 = .ok (.iaload, 1) := by decide +kernel
theorem dT_weight_10 : decode cT_weight 10 = .ok (.ireturn, 1) := by decide +kernel
theorem dT_partsOf_0 : decode cT_partsOf 0 = .ok (.aload_n 0, 1) := by decide +kernel
theorem dT_partsOf_1 : decode cT_partsOf 1 = .ok (.getfield 31, 3) := by decide +kernel
theorem dT_partsOf_4 : decode cT_partsOf 4 = .ok (.iload_n 1, 1) := by decide +kernel
theorem dT_partsOf_5 : decode cT_partsOf 5 = .ok (.iaload, 1) := by decide +kernel
theorem dT_partsOf_6 : decode cT_partsOf 6 = .ok (.ireturn, 1) := by decide +kernel
theorem dT_partOf_0 : decode cT_partOf 0 = .ok (.aload_n 0, 1) := by decide +kernel
theorem dT_partOf_1 : decode cT_partOf 1 = .ok (.getfield 28, 3) := by decide +kernel
theorem dT_partOf_4 : decode cT_partOf 4 = .ok (.iload_n 1, 1) := by decide +kernel
theorem dT_partOf_5 : decode cT_partOf 5 = .ok (.iconst 4, 1) := by decide +kernel
theorem dT_partOf_6 : decode cT_partOf 6 = .ok (.imul, 1) := by decide +kernel
theorem dT_partOf_7 : decode cT_partOf 7 = .ok (.iload_n 2, 1) := by decide +kernel
theorem dT_partOf_8 : decode cT_partOf 8 = .ok (.iadd, 1) := by decide +kernel
theorem dT_partOf_9 : decode cT_partOf 9 = .ok (.iaload, 1) := by decide +kernel
theorem dT_partOf_10 : decode cT_partOf 10 = .ok (.ireturn, 1) := by decide +kernel
theorem dT_joinOf_0 : decode cT_joinOf 0 = .ok (.iconst 0, 1) := by decide +kernel
theorem dT_joinOf_1 : decode cT_joinOf 1 = .ok (.istore_n 3, 1) := by decide +kernel
theorem dT_joinOf_2 : decode cT_joinOf 2 = .ok (.iload_n 3, 1) := by decide +kernel
theorem dT_joinOf_3 : decode cT_joinOf 3 = .ok (.bipush 75, 2) := by decide +kernel
theorem dT_joinOf_5 : decode cT_joinOf 5 = .ok (.if_icmp .ge 63, 3) := by decide +kernel
theorem dT_joinOf_8 : decode cT_joinOf 8 = .ok (.aload_n 0, 1) := by decide +kernel
theorem dT_joinOf_9 : decode cT_joinOf 9 = .ok (.getfield 18, 3) := by decide +kernel
theorem dT_joinOf_12 : decode cT_joinOf 12 = .ok (.iload_n 3, 1) := by decide +kernel
theorem dT_joinOf_13 : decode cT_joinOf 13 = .ok (.iaload, 1) := by decide +kernel
theorem dT_joinOf_14 : decode cT_joinOf 14 = .ok (.iload_n 1, 1) := by decide +kernel
theorem dT_joinOf_15 : decode cT_joinOf 15 = .ok (.if_icmp .ne 17, 3) := by decide +kernel
theorem dT_joinOf_18 : decode cT_joinOf 18 = .ok (.aload_n 0, 1) := by decide +kernel
theorem dT_joinOf_19 : decode cT_joinOf 19 = .ok (.getfield 21, 3) := by decide +kernel
theorem dT_joinOf_22 : decode cT_joinOf 22 = .ok (.iload_n 3, 1) := by decide +kernel
theorem dT_joinOf_23 : decode cT_joinOf 23 = .ok (.iaload, 1) := by decide +kernel
theorem dT_joinOf_24 : decode cT_joinOf 24 = .ok (.iload_n 2, 1) := by decide +kernel
theorem dT_joinOf_25 : decode cT_joinOf 25 = .ok (.if_icmp .ne 7, 3) := by decide +kernel
theorem dT_joinOf_28 : decode cT_joinOf 28 = .ok (.iconst 1, 1) := by decide +kernel
theorem dT_joinOf_29 : decode cT_joinOf 29 = .ok (.goto 4, 3) := by decide +kernel
theorem dT_joinOf_32 : decode cT_joinOf 32 = .ok (.iconst 0, 1) := by decide +kernel
theorem dT_joinOf_33 : decode cT_joinOf 33 = .ok (.istore 4, 2) := by decide +kernel
theorem dT_joinOf_35 : decode cT_joinOf 35 = .ok (.iload 4, 2) := by decide +kernel
theorem dT_joinOf_37 : decode cT_joinOf 37 = .ok (.ifCond .eq 25, 3) := by decide +kernel
theorem dT_joinOf_40 : decode cT_joinOf 40 = .ok (.aload_n 0, 1) := by decide +kernel
theorem dT_joinOf_41 : decode cT_joinOf 41 = .ok (.getfield 15, 3) := by decide +kernel
theorem dT_joinOf_44 : decode cT_joinOf 44 = .ok (.iconst 0, 1) := by decide +kernel
theorem dT_joinOf_45 : decode cT_joinOf 45 = .ok (.aaload, 1) := by decide +kernel
theorem dT_joinOf_46 : decode cT_joinOf 46 = .ok (.iload_n 3, 1) := by decide +kernel
theorem dT_joinOf_47 : decode cT_joinOf 47 = .ok (.iaload, 1) := by decide +kernel
theorem dT_joinOf_48 : decode cT_joinOf 48 = .ok (.ifCond .ne 14, 3) := by decide +kernel
theorem dT_joinOf_51 : decode cT_joinOf 51 = .ok (.aload_n 0, 1) := by decide +kernel
theorem dT_joinOf_52 : decode cT_joinOf 52 = .ok (.getfield 24, 3) := by decide +kernel
theorem dT_joinOf_55 : decode cT_joinOf 55 = .ok (.iload_n 3, 1) := by decide +kernel
theorem dT_joinOf_56 : decode cT_joinOf 56 = .ok (.baload, 1) := by decide +kernel
theorem dT_joinOf_57 : decode cT_joinOf 57 = .ok (.ifCond .ne 5, 3) := by decide +kernel
theorem dT_joinOf_60 : decode cT_joinOf 60 = .ok (.iload_n 3, 1) := by decide +kernel
theorem dT_joinOf_61 : decode cT_joinOf 61 = .ok (.ireturn, 1) := by decide +kernel
theorem dT_joinOf_62 : decode cT_joinOf 62 = .ok (.iinc 3 1, 3) := by decide +kernel
theorem dT_joinOf_65 : decode cT_joinOf 65 = .ok (.goto (-63), 3) := by decide +kernel
theorem dT_joinOf_68 : decode cT_joinOf 68 = .ok (.iconst (-1), 1) := by decide +kernel
theorem dT_joinOf_69 : decode cT_joinOf 69 = .ok (.ireturn, 1) := by decide +kernel
theorem dT_fillFixedProperties_0 : decode cT_fillFixedProperties 0 = .ok (.bipush 40, 2) := by decide +kernel
theorem dT_fillFixedProperties_2 : decode cT_fillFixedProperties 2 = .ok (.istore_n 1, 1) := by decide +kernel
theorem dT_fillFixedProperties_3 : decode cT_fillFixedProperties 3 = .ok (.iload_n 1, 1) := by decide +kernel
theorem dT_fillFixedProperties_4 : decode cT_fillFixedProperties 4 = .ok (.bipush 75, 2) := by decide +kernel
theorem dT_fillFixedProperties_6 : decode cT_fillFixedProperties 6 = .ok (.if_icmp .ge 19, 3) := by decide +kernel
theorem dT_fillFixedProperties_9 : decode cT_fillFixedProperties 9 = .ok (.aload_n 0, 1) := by decide +kernel
theorem dT_fillFixedProperties_10 : decode cT_fillFixedProperties 10 = .ok (.getfield 15, 3) := by decide +kernel
theorem dT_fillFixedProperties_13 : decode cT_fillFixedProperties 13 = .ok (.iconst 2, 1) := by decide +kernel
theorem dT_fillFixedProperties_14 : decode cT_fillFixedProperties 14 = .ok (.aaload, 1) := by decide +kernel
theorem dT_fillFixedProperties_15 : decode cT_fillFixedProperties 15 = .ok (.iload_n 1, 1) := by decide +kernel
theorem dT_fillFixedProperties_16 : decode cT_fillFixedProperties 16 = .ok (.bipush 10, 2) := by decide +kernel
theorem dT_fillFixedProperties_18 : decode cT_fillFixedProperties 18 = .ok (.iastore, 1) := by decide +kernel
theorem dT_fillFixedProperties_19 : decode cT_fillFixedProperties 19 = .ok (.iinc 1 1, 3) := by decide +kernel
theorem dT_fillFixedProperties_22 : decode cT_fillFixedProperties 22 = .ok (.goto (-19), 3) := by decide +kernel
theorem dT_fillFixedProperties_25 : decode cT_fillFixedProperties 25 = .ok (.bipush 40, 2) := by decide +kernel
theorem dT_fillFixedProperties_27 : decode cT_fillFixedProperties 27 = .ok (.istore_n 1, 1) := by decide +kernel
theorem dT_fillFixedProperties_28 : decode cT_fillFixedProperties 28 = .ok (.iload_n 1, 1) := by decide +kernel
theorem dT_fillFixedProperties_29 : decode cT_fillFixedProperties 29 = .ok (.bipush 48, 2) := by decide +kernel
theorem dT_fillFixedProperties_31 : decode cT_fillFixedProperties 31 = .ok (.if_icmp .ge 46, 3) := by decide +kernel
theorem dT_fillFixedProperties_34 : decode cT_fillFixedProperties 34 = .ok (.aload_n 0, 1) := by decide +kernel
theorem dT_fillFixedProperties_35 : decode cT_fillFixedProperties 35 = .ok (.getfield 15, 3) := by decide +kernel
theorem dT_fillFixedProperties_38 : decode cT_fillFixedProperties 38 = .ok (.iconst 4, 1) := by decide +kernel
theorem dT_fillFixedProperties_39 : decode cT_fillFixedProperties 39 = .ok (.aaload, 1) := by decide +kernel
theorem dT_fillFixedProperties_40 : decode cT_fillFixedProperties 40 = .ok (.iload_n 1, 1) := by decide +kernel
theorem dT_fillFixedProperties_41 : decode cT_fillFixedProperties 41 = .ok (.sipush 1000, 3) := by decide +kernel
theorem dT_fillFixedProperties_44 : decode cT_fillFixedProperties 44 = .ok (.iload_n 1, 1) := by decide +kernel
theorem dT_fillFixedProperties_45 : decode cT_fillFixedProperties 45 = .ok (.iadd, 1) := by decide +kernel
theorem dT_fillFixedProperties_46 : decode cT_fillFixedProperties 46 = .ok (.iastore, 1) := by decide +kernel
theorem dT_fillFixedProperties_47 : decode cT_fillFixedProperties 47 = .ok (.iconst 1, 1) := by decide +kernel
theorem dT_fillFixedProperties_48 : decode cT_fillFixedProperties 48 = .ok (.istore_n 2, 1) := by decide +kernel
theorem dT_fillFixedProperties_49 : decode cT_fillFixedProperties 49 = .ok (.iload_n 2, 1) := by decide +kernel
theorem dT_fillFixedProperties_50 : decode cT_fillFixedProperties 50 = .ok (.iconst 3, 1) := by decide +kernel
theorem dT_fillFixedProperties_51 : decode cT_fillFixedProperties 51 = .ok (.if_icmp .ge 20, 3) := by decide +kernel
theorem dT_fillFixedProperties_54 : decode cT_fillFixedProperties 54 = .ok (.aload_n 0, 1) := by decide +kernel
theorem dT_fillFixedProperties_55 : decode cT_fillFixedProperties 55 = .ok (.getfield 15, 3) := by decide +kernel
theorem dT_fillFixedProperties_58 : decode cT_fillFixedProperties 58 = .ok (.iconst 4, 1) := by decide +kernel
theorem dT_fillFixedProperties_59 : decode cT_fillFixedProperties 59 = .ok (.iload_n 2, 1) := by decide +kernel
theorem dT_fillFixedProperties_60 : decode cT_fillFixedProperties 60 = .ok (.iadd, 1) := by decide +kernel
theorem dT_fillFixedProperties_61 : decode cT_fillFixedProperties 61 = .ok (.aaload, 1) := by decide +kernel
theorem dT_fillFixedProperties_62 : decode cT_fillFixedProperties 62 = .ok (.iload_n 1, 1) := by decide +kernel
theorem dT_fillFixedProperties_63 : decode cT_fillFixedProperties 63 = .ok (.iconst 1, 1) := by decide +kernel
theorem dT_fillFixedProperties_64 : decode cT_fillFixedProperties 64 = .ok (.iastore, 1) := by decide +kernel
theorem dT_fillFixedProperties_65 : decode cT_fillFixedProperties 65 = .ok (.iinc 2 1, 3) := by decide +kernel
theorem dT_fillFixedProperties_68 : decode cT_fillFixedProperties 68 = .ok (.goto (-19), 3) := by decide +kernel
theorem dT_fillFixedProperties_71 : decode cT_fillFixedProperties 71 = .ok (.iinc 1 1, 3) := by decide +kernel
theorem dT_fillFixedProperties_74 : decode cT_fillFixedProperties 74 = .ok (.goto (-46), 3) := by decide +kernel
theorem dT_fillFixedProperties_77 : decode cT_fillFixedProperties 77 = .ok (.return_, 1) := by decide +kernel
theorem dT_fillPartings_0 : decode cT_fillPartings 0 = .ok (.iconst 0, 1) := by decide +kernel
theorem dT_fillPartings_1 : decode cT_fillPartings 1 = .ok (.istore_n 1, 1) := by decide +kernel
theorem dT_fillPartings_2 : decode cT_fillPartings 2 = .ok (.iload_n 1, 1) := by decide +kernel
theorem dT_fillPartings_3 : decode cT_fillPartings 3 = .ok (.bipush 48, 2) := by decide +kernel
theorem dT_fillPartings_5 : decode cT_fillPartings 5 = .ok (.if_icmp .ge 23, 3) := by decide +kernel
theorem dT_fillPartings_8 : decode cT_fillPartings 8 = .ok (.aload_n 0, 1) := by decide +kernel
theorem dT_fillPartings_9 : decode cT_fillPartings 9 = .ok (.getfield 18, 3) := by decide +kernel
theorem dT_fillPartings_12 : decode cT_fillPartings 12 = .ok (.iload_n 1, 1) := by decide +kernel
theorem dT_fillPartings_13 : decode cT_fillPartings 13 = .ok (.iconst (-1), 1) := by decide +kernel
theorem dT_fillPartings_14 : decode cT_fillPartings 14 = .ok (.iastore, 1) := by decide +kernel
theorem dT_fillPartings_15 : decode cT_fillPartings 15 = .ok (.aload_n 0, 1) := by decide +kernel
theorem dT_fillPartings_16 : decode cT_fillPartings 16 = .ok (.getfield 21, 3) := by decide +kernel
theorem dT_fillPartings_19 : decode cT_fillPartings 19 = .ok (.iload_n 1, 1) := by decide +kernel
theorem dT_fillPartings_20 : decode cT_fillPartings 20 = .ok (.iconst (-1), 1) := by decide +kernel
theorem dT_fillPartings_21 : decode cT_fillPartings 21 = .ok (.iastore, 1) := by decide +kernel
theorem dT_fillPartings_22 : decode cT_fillPartings 22 = .ok (.iinc 1 1, 3) := by decide +kernel
theorem dT_fillPartings_25 : decode cT_fillPartings 25 = .ok (.goto (-23), 3) := by decide +kernel
theorem dT_fillPartings_28 : decode cT_fillPartings 28 = .ok (.bipush 48, 2) := by decide +kernel
theorem dT_fillPartings_30 : decode cT_fillPartings 30 = .ok (.istore_n 1, 1) := by decide +kernel
theorem dT_fillPartings_31 : decode cT_fillPartings 31 = .ok (.iload_n 1, 1) := by decide +kernel
theorem dT_fillPartings_32 : decode cT_fillPartings 32 = .ok (.bipush 75, 2) := by decide +kernel
theorem dT_fillPartings_34 : decode cT_fillPartings 34 = .ok (.if_icmp .ge 18, 3) := by decide +kernel
theorem dT_fillPartings_37 : decode cT_fillPartings 37 = .ok (.aload_n 0, 1) := by decide +kernel
theorem dT_fillPartings_38 : decode cT_fillPartings 38 = .ok (.iload_n 1, 1) := by decide +kernel
theorem dT_fillPartings_39 : decode cT_fillPartings 39 = .ok (.iload_n 1, 1) := by decide +kernel
theorem dT_fillPartings_40 : decode cT_fillPartings 40 = .ok (.bipush 48, 2) := by decide +kernel
theorem dT_fillPartings_42 : decode cT_fillPartings 42 = .ok (.isub, 1) := by decide +kernel
theorem dT_fillPartings_43 : decode cT_fillPartings 43 = .ok (.invokevirtual 53, 3) := by decide +kernel
theorem dT_fillPartings_46 : decode cT_fillPartings 46 = .ok (.iinc 1 1, 3) := by decide +kernel
theorem dT_fillPartings_49 : decode cT_fillPartings 49 = .ok (.goto (-18), 3) := by decide +kernel
theorem dT_fillPartings_52 : decode cT_fillPartings 52 = .ok (.return_, 1) := by decide +kernel
theorem dT_fillSyllable_0 : decode cT_fillSyllable 0 = .ok (.iload_n 2, 1) := by decide +kernel
theorem dT_fillSyllable_1 : decode cT_fillSyllable 1 = .ok (.iconst 3, 1) := by decide +kernel
theorem dT_fillSyllable_2 : decode cT_fillSyllable 2 = .ok (.irem, 1) := by decide +kernel
theorem dT_fillSyllable_3 : decode cT_fillSyllable 3 = .ok (.istore_n 3, 1) := by decide +kernel
theorem dT_fillSyllable_4 : decode cT_fillSyllable 4 = .ok (.iload_n 3, 1) := by decide +kernel
theorem dT_fillSyllable_5 : decode cT_fillSyllable 5 = .ok (.ifCond .ne 34, 3) := by decide +kernel
theorem dT_fillSyllable_8 : decode cT_fillSyllable 8 = .ok (.aload_n 0, 1) := by decide +kernel
theorem dT_fillSyllable_9 : decode cT_fillSyllable 9 = .ok (.getfield 18, 3) := by decide +kernel
theorem dT_fillSyllable_12 : decode cT_fillSyllable 12 = .ok (.iload_n 1, 1) := by decide +kernel
theorem dT_fillSyllable_13 : decode cT_fillSyllable 13 = .ok (.bipush 40, 2) := by decide +kernel
theorem dT_fillSyllable_15 : decode cT_fillSyllable 15 = .ok (.iload_n 2, 1) := by decide +kernel
theorem dT_fillSyllable_16 : decode cT_fillSyllable 16 = .ok (.bipush 9, 2) := by decide +kernel
theorem dT_fillSyllable_18 : decode cT_fillSyllable 18 = .ok (.idiv, 1) := by decide +kernel
theorem dT_fillSyllable_19 : decode cT_fillSyllable 19 = .ok (.iadd, 1) := by decide +kernel
theorem dT_fillSyllable_20 : decode cT_fillSyllable 20 = .ok (.iastore, 1) := by decide +kernel
theorem dT_fillSyllable_21 : decode cT_fillSyllable 21 = .ok (.aload_n 0, 1) := by decide +kernel
theorem dT_fillSyllable_22 : decode cT_fillSyllable 22 = .ok (.getfield 21, 3) := by decide +kernel
theorem dT_fillSyllable_25 : decode cT_fillSyllable 25 = .ok (.iload_n 1, 1) := by decide +kernel
theorem dT_fillSyllable_26 : decode cT_fillSyllable 26 = .ok (.bipush 43, 2) := by decide +kernel
theorem dT_fillSyllable_28 : decode cT_fillSyllable 28 = .ok (.iload_n 2, 1) := by decide +kernel
theorem dT_fillSyllable_29 : decode cT_fillSyllable 29 = .ok (.bipush 9, 2) := by decide +kernel
theorem dT_fillSyllable_31 : decode cT_fillSyllable 31 = .ok (.irem, 1) := by decide +kernel
theorem dT_fillSyllable_32 : decode cT_fillSyllable 32 = .ok (.iconst 3, 1) := by decide +kernel
theorem dT_fillSyllable_33 : decode cT_fillSyllable 33 = .ok (.idiv, 1) := by decide +kernel
theorem dT_fillSyllable_34 : decode cT_fillSyllable 34 = .ok (.iadd, 1) := by decide +kernel
theorem dT_fillSyllable_35 : decode cT_fillSyllable 35 = .ok (.iastore, 1) := by decide +kernel
theorem dT_fillSyllable_36 : decode cT_fillSyllable 36 = .ok (.goto 24, 3) := by decide +kernel
theorem dT_fillSyllable_39 : decode cT_fillSyllable 39 = .ok (.aload_n 0, 1) := by decide +kernel
theorem dT_fillSyllable_40 : decode cT_fillSyllable 40 = .ok (.getfield 18, 3) := by decide +kernel
theorem dT_fillSyllable_43 : decode cT_fillSyllable 43 = .ok (.iload_n 1, 1) := by decide +kernel
theorem dT_fillSyllable_44 : decode cT_fillSyllable 44 = .ok (.iload_n 1, 1) := by decide +kernel
theorem dT_fillSyllable_45 : decode cT_fillSyllable 45 = .ok (.iload_n 3, 1) := by decide +kernel
theorem dT_fillSyllable_46 : decode cT_fillSyllable 46 = .ok (.isub, 1) := by decide +kernel
theorem dT_fillSyllable_47 : decode cT_fillSyllable 47 = .ok (.iastore, 1) := by decide +kernel
theorem dT_fillSyllable_48 : decode cT_fillSyllable 48 = .ok (.aload_n 0, 1) := by decide +kernel
theorem dT_fillSyllable_49 : decode cT_fillSyllable 49 = .ok (.getfield 21, 3) := by decide +kernel
theorem dT_fillSyllable_52 : decode cT_fillSyllable 52 = .ok (.iload_n 1, 1) := by decide +kernel
theorem dT_fillSyllable_53 : decode cT_fillSyllable 53 = .ok (.bipush 46, 2) := by decide +kernel
theorem dT_fillSyllable_55 : decode cT_fillSyllable 55 = .ok (.iload_n 3, 1) := by decide +kernel
theorem dT_fillSyllable_56 : decode cT_fillSyllable 56 = .ok (.iadd, 1) := by decide +kernel
theorem dT_fillSyllable_57 : decode cT_fillSyllable 57 = .ok (.iconst 1, 1) := by decide +kernel
theorem dT_fillSyllable_58 : decode cT_fillSyllable 58 = .ok (.isub, 1) := by decide +kernel
theorem dT_fillSyllable_59 : decode cT_fillSyllable 59 = .ok (.iastore, 1) := by decide +kernel
theorem dT_fillSyllable_60 : decode cT_fillSyllable 60 = .ok (.return_, 1) := by decide +kernel
theorem dT_partAll_0 : decode cT_partAll 0 = .ok (.iconst 0, 1) := by decide +kernel
theorem dT_partAll_1 : decode cT_partAll 1 = .ok (.istore_n 1, 1) := by decide +kernel
theorem dT_partAll_2 : decode cT_partAll 2 = .ok (.iload_n 1, 1) := by decide +kernel
theorem dT_partAll_3 : decode cT_partAll 3 = .ok (.bipush 75, 2) := by decide +kernel
theorem dT_partAll_5 : decode cT_partAll 5 = .ok (.if_icmp .ge 67, 3) := by decide +kernel
theorem dT_partAll_8 : decode cT_partAll 8 = .ok (.aload_n 0, 1) := by decide +kernel
theorem dT_partAll_9 : decode cT_partAll 9 = .ok (.getfield 31, 3) := by decide +kernel
theorem dT_partAll_12 : decode cT_partAll 12 = .ok (.iload_n 1, 1) := by decide +kernel
theorem dT_partAll_13 : decode cT_partAll 13 = .ok (.iconst 0, 1) := by decide +kernel
theorem dT_partAll_14 : decode cT_partAll 14 = .ok (.iastore, 1) := by decide +kernel
theorem dT_partAll_15 : decode cT_partAll 15 = .ok (.aload_n 0, 1) := by decide +kernel
theorem dT_partAll_16 : decode cT_partAll 16 = .ok (.getfield 18, 3) := by decide +kernel
theorem dT_partAll_19 : decode cT_partAll 19 = .ok (.iload_n 1, 1) := by decide +kernel
theorem dT_partAll_20 : decode cT_partAll 20 = .ok (.iaload, 1) := by decide +kernel
theorem dT_partAll_21 : decode cT_partAll 21 = .ok (.iconst (-1), 1) := by decide +kernel
theorem dT_partAll_22 : decode cT_partAll 22 = .ok (.if_icmp .ne 12, 3) := by decide +kernel
theorem dT_partAll_25 : decode cT_partAll 25 = .ok (.aload_n 0, 1) := by decide +kernel
theorem dT_partAll_26 : decode cT_partAll 26 = .ok (.iload_n 1, 1) := by decide +kernel
theorem dT_partAll_27 : decode cT_partAll 27 = .ok (.iload_n 1, 1) := by decide +kernel
theorem dT_partAll_28 : decode cT_partAll 28 = .ok (.invokevirtual 57, 3) := by decide +kernel
theorem dT_partAll_31 : decode cT_partAll 31 = .ok (.goto 14, 3) := by decide +kernel
theorem dT_partAll_34 : decode cT_partAll 34 = .ok (.aload_n 0, 1) := by decide +kernel
theorem dT_partAll_35 : decode cT_partAll 35 = .ok (.iload_n 1, 1) := by decide +kernel
theorem dT_partAll_36 : decode cT_partAll 36 = .ok (.aload_n 0, 1) := by decide +kernel
theorem dT_partAll_37 : decode cT_partAll 37 = .ok (.getfield 18, 3) := by decide +kernel
theorem dT_partAll_40 : decode cT_partAll 40 = .ok (.iload_n 1, 1) := by decide +kernel
theorem dT_partAll_41 : decode cT_partAll 41 = .ok (.iaload, 1) := by decide +kernel
theorem dT_partAll_42 : decode cT_partAll 42 = .ok (.invokevirtual 60, 3) := by decide +kernel
theorem dT_partAll_45 : decode cT_partAll 45 = .ok (.aload_n 0, 1) := by decide +kernel
theorem dT_partAll_46 : decode cT_partAll 46 = .ok (.getfield 21, 3) := by decide +kernel
theorem dT_partAll_49 : decode cT_partAll 49 = .ok (.iload_n 1, 1) := by decide +kernel
theorem dT_partAll_50 : decode cT_partAll 50 = .ok (.iaload, 1) := by decide +kernel
theorem dT_partAll_51 : decode cT_partAll 51 = .ok (.iconst (-1), 1) := by decide +kernel
theorem dT_partAll_52 : decode cT_partAll 52 = .ok (.if_icmp .eq 14, 3) := by decide +kernel
theorem dT_partAll_55 : decode cT_partAll 55 = .ok (.aload_n 0, 1) := by decide +kernel
theorem dT_partAll_56 : decode cT_partAll 56 = .ok (.iload_n 1, 1) := by decide +kernel
theorem dT_partAll_57 : decode cT_partAll 57 = .ok (.aload_n 0, 1) := by decide +kernel
theorem dT_partAll_58 : decode cT_partAll 58 = .ok (.getfield 21, 3) := by decide +kernel
theorem dT_partAll_61 : decode cT_partAll 61 = .ok (.iload_n 1, 1) := by decide +kernel
theorem dT_partAll_62 : decode cT_partAll 62 = .ok (.iaload, 1) := by decide +kernel
theorem dT_partAll_63 : decode cT_partAll 63 = .ok (.invokevirtual 60, 3) := by decide +kernel
theorem dT_partAll_66 : decode cT_partAll 66 = .ok (.iinc 1 1, 3) := by decide +kernel
theorem dT_partAll_69 : decode cT_partAll 69 = .ok (.goto (-67), 3) := by decide +kernel
theorem dT_partAll_72 : decode cT_partAll 72 = .ok (.return_, 1) := by decide +kernel
theorem dT_addPartsOf_0 : decode cT_addPartsOf 0 = .ok (.iconst 0, 1) := by decide +kernel
theorem dT_addPartsOf_1 : decode cT_addPartsOf 1 = .ok (.istore_n 3, 1) := by decide +kernel
theorem dT_addPartsOf_2 : decode cT_addPartsOf 2 = .ok (.iload_n 3, 1) := by decide +kernel
theorem dT_addPartsOf_3 : decode cT_addPartsOf 3 = .ok (.aload_n 0, 1) := by decide +kernel
theorem dT_addPartsOf_4 : decode cT_addPartsOf 4 = .ok (.getfield 31, 3) := by decide +kernel
theorem dT_addPartsOf_7 : decode cT_addPartsOf 7 = .ok (.iload_n 2, 1) := by decide +kernel
theorem dT_addPartsOf_8 : decode cT_addPartsOf 8 = .ok (.iaload, 1) := by decide +kernel
theorem dT_addPartsOf_9 : decode cT_addPartsOf 9 = .ok (.if_icmp .ge 20, 3) := by decide +kernel
theorem dT_addPartsOf_12 : decode cT_addPartsOf 12 = .ok (.aload_n 0, 1) := by decide +kernel
theorem dT_addPartsOf_13 : decode cT_addPartsOf 13 = .ok (.iload_n 1, 1) := by decide +kernel
theorem dT_addPartsOf_14 : decode cT_addPartsOf 14 = .ok (.aload_n 0, 1) := by decide +kernel
theorem dT_addPartsOf_15 : decode cT_addPartsOf 15 = .ok (.iload_n 2, 1) := by decide +kernel
theorem dT_addPartsOf_16 : decode cT_addPartsOf 16 = .ok (.iload_n 3, 1) := by decide +kernel
theorem dT_addPartsOf_17 : decode cT_addPartsOf 17 = .ok (.invokevirtual 63, 3) := by decide +kernel
theorem dT_addPartsOf_20 : decode cT_addPartsOf 20 = .ok (.invokevirtual 57, 3) := by decide +kernel
theorem dT_addPartsOf_23 : decode cT_addPartsOf 23 = .ok (.iinc 3 1, 3) := by decide +kernel
theorem dT_addPartsOf_26 : decode cT_addPartsOf 26 = .ok (.goto (-24), 3) := by decide +kernel
theorem dT_addPartsOf_29 : decode cT_addPartsOf 29 = .ok (.return_, 1) := by decide +kernel
theorem dT_addPart_0 : decode cT_addPart 0 = .ok (.aload_n 0, 1) := by decide +kernel
theorem dT_addPart_1 : decode cT_addPart 1 = .ok (.getfield 31, 3) := by decide +kernel
theorem dT_addPart_4 : decode cT_addPart 4 = .ok (.iload_n 1, 1) := by decide +kernel
theorem dT_addPart_5 : decode cT_addPart 5 = .ok (.iaload, 1) := by decide +kernel
theorem dT_addPart_6 : decode cT_addPart 6 = .ok (.iconst 4, 1) := by decide +kernel
theorem dT_addPart_7 : decode cT_addPart 7 = .ok (.if_icmp .ge 29, 3) := by decide +kernel
theorem dT_addPart_10 : decode cT_addPart 10 = .ok (.aload_n 0, 1) := by decide +kernel
theorem dT_addPart_11 : decode cT_addPart 11 = .ok (.getfield 28, 3) := by decide +kernel
theorem dT_addPart_14 : decode cT_addPart 14 = .ok (.iload_n 1, 1) := by decide +kernel
theorem dT_addPart_15 : decode cT_addPart 15 = .ok (.iconst 4, 1) := by decide +kernel
theorem dT_addPart_16 : decode cT_addPart 16 = .ok (.imul, 1) := by decide +kernel
theorem dT_addPart_17 : decode cT_addPart 17 = .ok (.aload_n 0, 1) := by decide +kernel
theorem dT_addPart_18 : decode cT_addPart 18 = .ok (.getfield 31, 3) := by decide +kernel
theorem dT_addPart_21 : decode cT_addPart 21 = .ok (.iload_n 1, 1) := by decide +kernel
theorem dT_addPart_22 : decode cT_addPart 22 = .ok (.iaload, 1) := by decide +kernel
theorem dT_addPart_23 : decode cT_addPart 23 = .ok (.iadd, 1) := by decide +kernel
theorem dT_addPart_24 : decode cT_addPart 24 = .ok (.iload_n 2, 1) := by decide +kernel
theorem dT_addPart_25 : decode cT_addPart 25 = .ok (.iastore, 1) := by decide +kernel
theorem dT_addPart_26 : decode cT_addPart 26 = .ok (.aload_n 0, 1) := by decide +kernel
theorem dT_addPart_27 : decode cT_addPart 27 = .ok (.getfield 31, 3) := by decide +kernel
theorem dT_addPart_30 : decode cT_addPart 30 = .ok (.iload_n 1, 1) := by decide +kernel
theorem dT_addPart_31 : decode cT_addPart 31 = .ok (.dup2, 1) := by decide +kernel
theorem dT_addPart_32 : decode cT_addPart 32 = .ok (.iaload, 1) := by decide +kernel
theorem dT_addPart_33 : decode cT_addPart 33 = .ok (.iconst 1, 1) := by decide +kernel
theorem dT_addPart_34 : decode cT_addPart 34 = .ok (.iadd, 1) := by decide +kernel
theorem dT_addPart_35 : decode cT_addPart 35 = .ok (.iastore, 1) := by decide +kernel
theorem dT_addPart_36 : decode cT_addPart 36 = .ok (.return_, 1) := by decide +kernel
theorem dR_init_0 : decode cR_init 0 = .ok (.aload_n 0, 1) := by decide +kernel
theorem dR_init_1 : decode cR_init 1 = .ok (.invokespecial 1, 3) := by decide +kernel
theorem dR_init_4 : decode cR_init 4 = .ok (.aload_n 0, 1) := by decide +kernel
theorem dR_init_5 : decode cR_init 5 = .ok (.iload_n 1, 1) := by decide +kernel
theorem dR_init_6 : decode cR_init 6 = .ok (.newarray .int, 2) := by decide +kernel
theorem dR_init_8 : decode cR_init 8 = .ok (.putfield 7, 3) := by decide +kernel
theorem dR_init_11 : decode cR_init 11 = .ok (.return_, 1) := by decide +kernel
theorem dR_size_0 : decode cR_size 0 = .ok (.aload_n 0, 1) := by decide +kernel
theorem dR_size_1 : decode cR_size 1 = .ok (.getfield 13, 3) := by decide +kernel
theorem dR_size_4 : decode cR_size 4 = .ok (.ireturn, 1) := by decide +kernel
theorem dR_item_0 : decode cR_item 0 = .ok (.aload_n 0, 1) := by decide +kernel
theorem dR_item_1 : decode cR_item 1 = .ok (.getfield 7, 3) := by decide +kernel
theorem dR_item_4 : decode cR_item 4 = .ok (.iload_n 1, 1) := by decide +kernel
theorem dR_item_5 : decode cR_item 5 = .ok (.iaload, 1) := by decide +kernel
theorem dR_item_6 : decode cR_item 6 = .ok (.ireturn, 1) := by decide +kernel
theorem dR_put_0 : decode cR_put 0 = .ok (.aload_n 0, 1) := by decide +kernel
theorem dR_put_1 : decode cR_put 1 = .ok (.getfield 7, 3) := by decide +kernel
theorem dR_put_4 : decode cR_put 4 = .ok (.iload_n 1, 1) := by decide +kernel
theorem dR_put_5 : decode cR_put 5 = .ok (.iload_n 2, 1) := by decide +kernel
theorem dR_put_6 : decode cR_put 6 = .ok (.iastore, 1) := by decide +kernel
theorem dR_put_7 : decode cR_put 7 = .ok (.return_, 1) := by decide +kernel
theorem dR_add_0 : decode cR_add 0 = .ok (.aload_n 0, 1) := by decide +kernel
theorem dR_add_1 : decode cR_add 1 = .ok (.aload_n 0, 1) := by decide +kernel
theorem dR_add_2 : decode cR_add 2 = .ok (.getfield 13, 3) := by decide +kernel
theorem dR_add_5 : decode cR_add 5 = .ok (.iload_n 1, 1) := by decide +kernel
theorem dR_add_6 : decode cR_add 6 = .ok (.invokevirtual 17, 3) := by decide +kernel
theorem dR_add_9 : decode cR_add 9 = .ok (.return_, 1) := by decide +kernel
theorem dR_insert_0 : decode cR_insert 0 = .ok (.aload_n 0, 1) := by decide +kernel
theorem dR_insert_1 : decode cR_insert 1 = .ok (.getfield 13, 3) := by decide +kernel
theorem dR_insert_4 : decode cR_insert 4 = .ok (.aload_n 0, 1) := by decide +kernel
theorem dR_insert_5 : decode cR_insert 5 = .ok (.getfield 7, 3) := by decide +kernel
theorem dR_insert_8 : decode cR_insert 8 = .ok (.arraylength, 1) := by decide +kernel
theorem dR_insert_9 : decode cR_insert 9 = .ok (.if_icmp .ge 15, 3) := by decide +kernel
theorem dR_insert_12 : decode cR_insert 12 = .ok (.iload_n 1, 1) := by decide +kernel
theorem dR_insert_13 : decode cR_insert 13 = .ok (.ifCond .lt 11, 3) := by decide +kernel
theorem dR_insert_16 : decode cR_insert 16 = .ok (.iload_n 1, 1) := by decide +kernel
theorem dR_insert_17 : decode cR_insert 17 = .ok (.aload_n 0, 1) := by decide +kernel
theorem dR_insert_18 : decode cR_insert 18 = .ok (.getfield 13, 3) := by decide +kernel
theorem dR_insert_21 : decode cR_insert 21 = .ok (.if_icmp .le 4, 3) := by decide +kernel
theorem dR_insert_24 : decode cR_insert 24 = .ok (.return_, 1) := by decide +kernel
theorem dR_insert_25 : decode cR_insert 25 = .ok (.aload_n 0, 1) := by decide +kernel
theorem dR_insert_26 : decode cR_insert 26 = .ok (.getfield 13, 3) := by decide +kernel
theorem dR_insert_29 : decode cR_insert 29 = .ok (.istore_n 3, 1) := by decide +kernel
theorem dR_insert_30 : decode cR_insert 30 = .ok (.iload_n 3, 1) := by decide +kernel
theorem dR_insert_31 : decode cR_insert 31 = .ok (.iload_n 1, 1) := by decide +kernel
theorem dR_insert_32 : decode cR_insert 32 = .ok (.if_icmp .le 23, 3) := by decide +kernel
theorem dR_insert_35 : decode cR_insert 35 = .ok (.aload_n 0, 1) := by decide +kernel
theorem dR_insert_36 : decode cR_insert 36 = .ok (.getfield 7, 3) := by decide +kernel
theorem dR_insert_39 : decode cR_insert 39 = .ok (.iload_n 3, 1) := by decide +kernel
theorem dR_insert_40 : decode cR_insert 40 = .ok (.aload_n 0, 1) := by decide +kernel
theorem dR_insert_41 : decode cR_insert 41 = .ok (.getfield 7, 3) := by decide +kernel
theorem dR_insert_44 : decode cR_insert 44 = .ok (.iload_n 3, 1) := by decide +kernel
theorem dR_insert_45 : decode cR_insert 45 = .ok (.iconst 1, 1) := by decide +kernel
theorem dR_insert_46 : decode cR_insert 46 = .ok (.isub, 1) := by decide +kernel
theorem dR_insert_47 : decode cR_insert 47 = .ok (.iaload, 1) := by decide +kernel
theorem dR_insert_48 : decode cR_insert 48 = .ok (.iastore, 1) := by decide +kernel
theorem dR_insert_49 : decode cR_insert 49 = .ok (.iinc 3 (-1), 3) := by decide +kernel
theorem dR_insert_52 : decode cR_insert 52 = .ok (.goto (-22), 3) := by decide +kernel
theorem dR_insert_55 : decode cR_insert 55 = .ok (.aload_n 0, 1) := by decide +kernel
theorem dR_insert_56 : decode cR_insert 56 = .ok (.getfield 7, 3) := by decide +kernel
theorem dR_insert_59 : decode cR_insert 59 = .ok (.iload_n 1, 1) := by decide +kernel
theorem dR_insert_60 : decode cR_insert 60 = .ok (.iload_n 2, 1) := by decide +kernel
theorem dR_insert_61 : decode cR_insert 61 = .ok (.iastore, 1) := by decide +kernel
theorem dR_insert_62 : decode cR_insert 62 = .ok (.aload_n 0, 1) := by decide +kernel
theorem dR_insert_63 : decode cR_insert 63 = .ok (.dup, 1) := by decide +kernel
theorem dR_insert_64 : decode cR_insert 64 = .ok (.getfield 13, 3) := by decide +kernel
theorem dR_insert_67 : decode cR_insert 67 = .ok (.iconst 1, 1) := by decide +kernel
theorem dR_insert_68 : decode cR_insert 68 = .ok (.iadd, 1) := by decide +kernel
theorem dR_insert_69 : decode cR_insert 69 = .ok (.putfield 13, 3) := by decide +kernel
theorem dR_insert_72 : decode cR_insert 72 = .ok (.return_, 1) := by decide +kernel
theorem dR_cutTo_0 : decode cR_cutTo 0 = .ok (.aload_n 0, 1) := by decide +kernel
theorem dR_cutTo_1 : decode cR_cutTo 1 = .ok (.aload_n 0, 1) := by decide +kernel
theorem dR_cutTo_2 : decode cR_cutTo 2 = .ok (.getfield 13, 3) := by decide +kernel
theorem dR_cutTo_5 : decode cR_cutTo 5 = .ok (.iload_n 1, 1) := by decide +kernel
theorem dR_cutTo_6 : decode cR_cutTo 6 = .ok (.iconst 0, 1) := by decide +kernel
theorem dR_cutTo_7 : decode cR_cutTo 7 = .ok (.invokestatic 21, 3) := by decide +kernel
theorem dR_cutTo_10 : decode cR_cutTo 10 = .ok (.invokestatic 27, 3) := by decide +kernel
theorem dR_cutTo_13 : decode cR_cutTo 13 = .ok (.putfield 13, 3) := by decide +kernel
theorem dR_cutTo_16 : decode cR_cutTo 16 = .ok (.return_, 1) := by decide +kernel
theorem dR_copyOf_0 : decode cR_copyOf 0 = .ok (.aload_n 1, 1) := by decide +kernel
theorem dR_copyOf_1 : decode cR_copyOf 1 = .ok (.getfield 13, 3) := by decide +kernel
theorem dR_copyOf_4 : decode cR_copyOf 4 = .ok (.aload_n 0, 1) := by decide +kernel
theorem dR_copyOf_5 : decode cR_copyOf 5 = .ok (.getfield 7, 3) := by decide +kernel
theorem dR_copyOf_8 : decode cR_copyOf 8 = .ok (.arraylength, 1) := by decide +kernel
theorem dR_copyOf_9 : decode cR_copyOf 9 = .ok (.invokestatic 27, 3) := by decide +kernel
theorem dR_copyOf_12 : decode cR_copyOf 12 = .ok (.istore_n 2, 1) := by decide +kernel
theorem dR_copyOf_13 : decode cR_copyOf 13 = .ok (.iconst 0, 1) := by decide +kernel
theorem dR_copyOf_14 : decode cR_copyOf 14 = .ok (.istore_n 3, 1) := by decide +kernel
theorem dR_copyOf_15 : decode cR_copyOf 15 = .ok (.iload_n 3, 1) := by decide +kernel
theorem dR_copyOf_16 : decode cR_copyOf 16 = .ok (.iload_n 2, 1) := by decide +kernel
theorem dR_copyOf_17 : decode cR_copyOf 17 = .ok (.if_icmp .ge 21, 3) := by decide +kernel
theorem dR_copyOf_20 : decode cR_copyOf 20 = .ok (.aload_n 0, 1) := by decide +kernel
theorem dR_copyOf_21 : decode cR_copyOf 21 = .ok (.getfield 7, 3) := by decide +kernel
theorem dR_copyOf_24 : decode cR_copyOf 24 = .ok (.iload_n 3, 1) := by decide +kernel
theorem dR_copyOf_25 : decode cR_copyOf 25 = .ok (.aload_n 1, 1) := by decide +kernel
theorem dR_copyOf_26 : decode cR_copyOf 26 = .ok (.getfield 7, 3) := by decide +kernel
theorem dR_copyOf_29 : decode cR_copyOf 29 = .ok (.iload_n 3, 1) := by decide +kernel
theorem dR_copyOf_30 : decode cR_copyOf 30 = .ok (.iaload, 1) := by decide +kernel
theorem dR_copyOf_31 : decode cR_copyOf 31 = .ok (.iastore, 1) := by decide +kernel
theorem dR_copyOf_32 : decode cR_copyOf 32 = .ok (.iinc 3 1, 3) := by decide +kernel
theorem dR_copyOf_35 : decode cR_copyOf 35 = .ok (.goto (-20), 3) := by decide +kernel
theorem dR_copyOf_38 : decode cR_copyOf 38 = .ok (.aload_n 0, 1) := by decide +kernel
theorem dR_copyOf_39 : decode cR_copyOf 39 = .ok (.iload_n 2, 1) := by decide +kernel
theorem dR_copyOf_40 : decode cR_copyOf 40 = .ok (.putfield 13, 3) := by decide +kernel
theorem dR_copyOf_43 : decode cR_copyOf 43 = .ok (.return_, 1) := by decide +kernel
theorem dR_comparedWith_0 : decode cR_comparedWith 0 = .ok (.aload_n 0, 1) := by decide +kernel
theorem dR_comparedWith_1 : decode cR_comparedWith 1 = .ok (.getfield 13, 3) := by decide +kernel
theorem dR_comparedWith_4 : decode cR_comparedWith 4 = .ok (.aload_n 1, 1) := by decide +kernel
theorem dR_comparedWith_5 : decode cR_comparedWith 5 = .ok (.getfield 13, 3) := by decide +kernel
theorem dR_comparedWith_8 : decode cR_comparedWith 8 = .ok (.invokestatic 27, 3) := by decide +kernel
theorem dR_comparedWith_11 : decode cR_comparedWith 11 = .ok (.istore_n 2, 1) := by decide +kernel
theorem dR_comparedWith_12 : decode cR_comparedWith 12 = .ok (.iconst 0, 1) := by decide +kernel
theorem dR_comparedWith_13 : decode cR_comparedWith 13 = .ok (.istore_n 3, 1) := by decide +kernel
theorem dR_comparedWith_14 : decode cR_comparedWith 14 = .ok (.iload_n 3, 1) := by decide +kernel
theorem dR_comparedWith_15 : decode cR_comparedWith 15 = .ok (.iload_n 2, 1) := by decide +kernel
theorem dR_comparedWith_16 : decode cR_comparedWith 16 = .ok (.if_icmp .ge 45, 3) := by decide +kernel
theorem dR_comparedWith_19 : decode cR_comparedWith 19 = .ok (.aload_n 0, 1) := by decide +kernel
theorem dR_comparedWith_20 : decode cR_comparedWith 20 = .ok (.getfield 7, 3) := by decide +kernel
theorem dR_comparedWith_23 : decode cR_comparedWith 23 = .ok (.iload_n 3, 1) := by decide +kernel
theorem dR_comparedWith_24 : decode cR_comparedWith 24 = .ok (.iaload, 1) := by decide +kernel
theorem dR_comparedWith_25 : decode cR_comparedWith 25 = .ok (.aload_n 1, 1) := by decide +kernel
theorem dR_comparedWith_26 : decode cR_comparedWith 26 = .ok (.getfield 7, 3) := by decide +kernel
theorem dR_comparedWith_29 : decode cR_comparedWith 29 = .ok (.iload_n 3, 1) := by decide +kernel
theorem dR_comparedWith_30 : decode cR_comparedWith 30 = .ok (.iaload, 1) := by decide +kernel
theorem dR_comparedWith_31 : decode cR_comparedWith 31 = .ok (.if_icmp .eq 24, 3) := by decide +kernel
theorem dR_comparedWith_34 : decode cR_comparedWith 34 = .ok (.aload_n 0, 1) := by decide +kernel
theorem dR_comparedWith_35 : decode cR_comparedWith 35 = .ok (.getfield 7, 3) := by decide +kernel
theorem dR_comparedWith_38 : decode cR_comparedWith 38 = .ok (.iload_n 3, 1) := by decide +kernel
theorem dR_comparedWith_39 : decode cR_comparedWith 39 = .ok (.iaload, 1) := by decide +kernel
theorem dR_comparedWith_40 : decode cR_comparedWith 40 = .ok (.aload_n 1, 1) := by decide +kernel
theorem dR_comparedWith_41 : decode cR_comparedWith 41 = .ok (.getfield 7, 3) := by decide +kernel
theorem dR_comparedWith_44 : decode cR_comparedWith 44 = .ok (.iload_n 3, 1) := by decide +kernel
theorem dR_comparedWith_45 : decode cR_comparedWith 45 = .ok (.iaload, 1) := by decide +kernel
theorem dR_comparedWith_46 : decode cR_comparedWith 46 = .ok (.if_icmp .ge 7, 3) := by decide +kernel
theorem dR_comparedWith_49 : decode cR_comparedWith 49 = .ok (.iconst (-1), 1) := by decide +kernel
theorem dR_comparedWith_50 : decode cR_comparedWith 50 = .ok (.goto 4, 3) := by decide +kernel
theorem dR_comparedWith_53 : decode cR_comparedWith 53 = .ok (.iconst 1, 1) := by decide +kernel
theorem dR_comparedWith_54 : decode cR_comparedWith 54 = .ok (.ireturn, 1) := by decide +kernel
theorem dR_comparedWith_55 : decode cR_comparedWith 55 = .ok (.iinc 3 1, 3) := by decide +kernel
theorem dR_comparedWith_58 : decode cR_comparedWith 58 = .ok (.goto (-44), 3) := by decide +kernel
theorem dR_comparedWith_61 : decode cR_comparedWith 61 = .ok (.aload_n 0, 1) := by decide +kernel
theorem dR_comparedWith_62 : decode cR_comparedWith 62 = .ok (.getfield 13, 3) := by decide +kernel
theorem dR_comparedWith_65 : decode cR_comparedWith 65 = .ok (.aload_n 1, 1) := by decide +kernel
theorem dR_comparedWith_66 : decode cR_comparedWith 66 = .ok (.getfield 13, 3) := by decide +kernel
theorem dR_comparedWith_69 : decode cR_comparedWith 69 = .ok (.invokestatic 30, 3) := by decide +kernel
theorem dR_comparedWith_72 : decode cR_comparedWith 72 = .ok (.ireturn, 1) := by decide +kernel
theorem dL_init_0 : decode cL_init 0 = .ok (.aload_n 0, 1) := by decide +kernel
theorem dL_init_1 : decode cL_init 1 = .ok (.invokespecial 3, 3) := by decide +kernel
theorem dL_init_4 : decode cL_init 4 = .ok (.aload_n 0, 1) := by decide +kernel
theorem dL_init_5 : decode cL_init 5 = .ok (.bipush 40, 2) := by decide +kernel
theorem dL_init_7 : decode cL_init 7 = .ok (.newarray .int, 2) := by decide +kernel
theorem dL_init_9 : decode cL_init 9 = .ok (.putfield 9, 3) := by decide +kernel
theorem dL_init_12 : decode cL_init 12 = .ok (.return_, 1) := by decide +kernel
theorem dL_endBefore_0 : decode cL_endBefore 0 = .ok (.iload_n 3, 1) := by decide +kernel
theorem dL_endBefore_1 : decode cL_endBefore 1 = .ok (.ifCond .gt 5, 3) := by decide +kernel
theorem dL_endBefore_4 : decode cL_endBefore 4 = .ok (.iconst 0, 1) := by decide +kernel
theorem dL_endBefore_5 : decode cL_endBefore 5 = .ok (.ireturn, 1) := by decide +kernel
theorem dL_endBefore_6 : decode cL_endBefore 6 = .ok (.iload_n 3, 1) := by decide +kernel
theorem dL_endBefore_7 : decode cL_endBefore 7 = .ok (.aload_n 2, 1) := by decide +kernel
theorem dL_endBefore_8 : decode cL_endBefore 8 = .ok (.invokevirtual 15, 3) := by decide +kernel
theorem dL_endBefore_11 : decode cL_endBefore 11 = .ok (.if_icmp .lt 5, 3) := by decide +kernel
theorem dL_endBefore_14 : decode cL_endBefore 14 = .ok (.iconst 2, 1) := by decide +kernel
theorem dL_endBefore_15 : decode cL_endBefore 15 = .ok (.ireturn, 1) := by decide +kernel
theorem dL_endBefore_16 : decode cL_endBefore 16 = .ok (.aload_n 0, 1) := by decide +kernel
theorem dL_endBefore_17 : decode cL_endBefore 17 = .ok (.aload_n 1, 1) := by decide +kernel
theorem dL_endBefore_18 : decode cL_endBefore 18 = .ok (.aload_n 2, 1) := by decide +kernel
theorem dL_endBefore_19 : decode cL_endBefore 19 = .ok (.invokevirtual 21, 3) := by decide +kernel
theorem dL_endBefore_22 : decode cL_endBefore 22 = .ok (.aload_n 1, 1) := by decide +kernel
theorem dL_endBefore_23 : decode cL_endBefore 23 = .ok (.aload_n 2, 1) := by decide +kernel
theorem dL_endBefore_24 : decode cL_endBefore 24 = .ok (.iload_n 3, 1) := by decide +kernel
theorem dL_endBefore_25 : decode cL_endBefore 25 = .ok (.invokevirtual 25, 3) := by decide +kernel
theorem dL_endBefore_28 : decode cL_endBefore 28 = .ok (.invokevirtual 29, 3) := by decide +kernel
theorem dL_endBefore_31 : decode cL_endBefore 31 = .ok (.bipush 11, 2) := by decide +kernel
theorem dL_endBefore_33 : decode cL_endBefore 33 = .ok (.if_icmp .ne 7, 3) := by decide +kernel
theorem dL_endBefore_36 : decode cL_endBefore 36 = .ok (.iconst 1, 1) := by decide +kernel
theorem dL_endBefore_37 : decode cL_endBefore 37 = .ok (.goto 4, 3) := by decide +kernel
theorem dL_endBefore_40 : decode cL_endBefore 40 = .ok (.iconst 0, 1) := by decide +kernel
theorem dL_endBefore_41 : decode cL_endBefore 41 = .ok (.istore 4, 2) := by decide +kernel
theorem dL_endBefore_43 : decode cL_endBefore 43 = .ok (.aload_n 0, 1) := by decide +kernel
theorem dL_endBefore_44 : decode cL_endBefore 44 = .ok (.getfield 9, 3) := by decide +kernel
theorem dL_endBefore_47 : decode cL_endBefore 47 = .ok (.iload_n 3, 1) := by decide +kernel
theorem dL_endBefore_48 : decode cL_endBefore 48 = .ok (.iconst 1, 1) := by decide +kernel
theorem dL_endBefore_49 : decode cL_endBefore 49 = .ok (.isub, 1) := by decide +kernel
theorem dL_endBefore_50 : decode cL_endBefore 50 = .ok (.iaload, 1) := by decide +kernel
theorem dL_endBefore_51 : decode cL_endBefore 51 = .ok (.aload_n 0, 1) := by decide +kernel
theorem dL_endBefore_52 : decode cL_endBefore 52 = .ok (.getfield 9, 3) := by decide +kernel
theorem dL_endBefore_55 : decode cL_endBefore 55 = .ok (.iload_n 3, 1) := by decide +kernel
theorem dL_endBefore_56 : decode cL_endBefore 56 = .ok (.iaload, 1) := by decide +kernel
theorem dL_endBefore_57 : decode cL_endBefore 57 = .ok (.aload_n 0, 1) := by decide +kernel
theorem dL_endBefore_58 : decode cL_endBefore 58 = .ok (.iload_n 3, 1) := by decide +kernel
theorem dL_endBefore_59 : decode cL_endBefore 59 = .ok (.iconst 1, 1) := by decide +kernel
theorem dL_endBefore_60 : decode cL_endBefore 60 = .ok (.isub, 1) := by decide +kernel
theorem dL_endBefore_61 : decode cL_endBefore 61 = .ok (.invokevirtual 34, 3) := by decide +kernel
theorem dL_endBefore_64 : decode cL_endBefore 64 = .ok (.iload 4, 2) := by decide +kernel
theorem dL_endBefore_66 : decode cL_endBefore 66 = .ok (.invokestatic 37, 3) := by decide +kernel
theorem dL_endBefore_69 : decode cL_endBefore 69 = .ok (.ireturn, 1) := by decide +kernel
theorem dL_findKinds_0 : decode cL_findKinds 0 = .ok (.iconst (-1), 1) := by decide +kernel
theorem dL_findKinds_1 : decode cL_findKinds 1 = .ok (.istore_n 3, 1) := by decide +kernel
theorem dL_findKinds_2 : decode cL_findKinds 2 = .ok (.iconst 0, 1) := by decide +kernel
theorem dL_findKinds_3 : decode cL_findKinds 3 = .ok (.istore 4, 2) := by decide +kernel
theorem dL_findKinds_5 : decode cL_findKinds 5 = .ok (.iload 4, 2) := by decide +kernel
theorem dL_findKinds_7 : decode cL_findKinds 7 = .ok (.aload_n 2, 1) := by decide +kernel
theorem dL_findKinds_8 : decode cL_findKinds 8 = .ok (.invokevirtual 15, 3) := by decide +kernel
theorem dL_findKinds_11 : decode cL_findKinds 11 = .ok (.if_icmp .ge 59, 3) := by decide +kernel
theorem dL_findKinds_14 : decode cL_findKinds 14 = .ok (.aload_n 1, 1) := by decide +kernel
theorem dL_findKinds_15 : decode cL_findKinds 15 = .ok (.aload_n 2, 1) := by decide +kernel
theorem dL_findKinds_16 : decode cL_findKinds 16 = .ok (.iload 4, 2) := by decide +kernel
theorem dL_findKinds_18 : decode cL_findKinds 18 = .ok (.invokevirtual 25, 3) := by decide +kernel
theorem dL_findKinds_21 : decode cL_findKinds 21 = .ok (.invokevirtual 29, 3) := by decide +kernel
theorem dL_findKinds_24 : decode cL_findKinds 24 = .ok (.istore 5, 2) := by decide +kernel
theorem dL_findKinds_26 : decode cL_findKinds 26 = .ok (.iload 5, 2) := by decide +kernel
theorem dL_findKinds_28 : decode cL_findKinds 28 = .ok (.bipush 11, 2) := by decide +kernel
theorem dL_findKinds_30 : decode cL_findKinds 30 = .ok (.if_icmp .ne 22, 3) := by decide +kernel
theorem dL_findKinds_33 : decode cL_findKinds 33 = .ok (.iload_n 3, 1) := by decide +kernel
theorem dL_findKinds_34 : decode cL_findKinds 34 = .ok (.iconst (-1), 1) := by decide +kernel
theorem dL_findKinds_35 : decode cL_findKinds 35 = .ok (.if_icmp .eq 10, 3) := by decide +kernel
theorem dL_findKinds_38 : decode cL_findKinds 38 = .ok (.iload_n 3, 1) := by decide +kernel
theorem dL_findKinds_39 : decode cL_findKinds 39 = .ok (.invokestatic 41, 3) := by decide +kernel
theorem dL_findKinds_42 : decode cL_findKinds 42 = .ok (.ifCond .eq 7, 3) := by decide +kernel
theorem dL_findKinds_45 : decode cL_findKinds 45 = .ok (.iconst 0, 1) := by decide +kernel
theorem dL_findKinds_46 : decode cL_findKinds 46 = .ok (.goto 4, 3) := by decide +kernel
theorem dL_findKinds_49 : decode cL_findKinds 49 = .ok (.iload_n 3, 1) := by decide +kernel
theorem dL_findKinds_50 : decode cL_findKinds 50 = .ok (.istore 5, 2) := by decide +kernel
theorem dL_findKinds_52 : decode cL_findKinds 52 = .ok (.aload_n 0, 1) := by decide +kernel
theorem dL_findKinds_53 : decode cL_findKinds 53 = .ok (.getfield 9, 3) := by decide +kernel
theorem dL_findKinds_56 : decode cL_findKinds 56 = .ok (.iload 4, 2) := by decide +kernel
theorem dL_findKinds_58 : decode cL_findKinds 58 = .ok (.iload 5, 2) := by decide +kernel
theorem dL_findKinds_60 : decode cL_findKinds 60 = .ok (.iastore, 1) := by decide +kernel
theorem dL_findKinds_61 : decode cL_findKinds 61 = .ok (.iload 5, 2) := by decide +kernel
theorem dL_findKinds_63 : decode cL_findKinds 63 = .ok (.istore_n 3, 1) := by decide +kernel
theorem dL_findKinds_64 : decode cL_findKinds 64 = .ok (.iinc 4 1, 3) := by decide +kernel
theorem dL_findKinds_67 : decode cL_findKinds 67 = .ok (.goto (-62), 3) := by decide +kernel
theorem dL_findKinds_70 : decode cL_findKinds 70 = .ok (.return_, 1) := by decide +kernel
theorem dL_kindOverSpaces_0 : decode cL_kindOverSpaces 0 = .ok (.iload_n 1, 1) := by decide +kernel
theorem dL_kindOverSpaces_1 : decode cL_kindOverSpaces 1 = .ok (.istore_n 2, 1) := by decide +kernel
theorem dL_kindOverSpaces_2 : decode cL_kindOverSpaces 2 = .ok (.iload_n 2, 1) := by decide +kernel
theorem dL_kindOverSpaces_3 : decode cL_kindOverSpaces 3 = .ok (.ifCond .lt 19, 3) := by decide +kernel
theorem dL_kindOverSpaces_6 : decode cL_kindOverSpaces 6 = .ok (.aload_n 0, 1) := by decide +kernel
theorem dL_kindOverSpaces_7 : decode cL_kindOverSpaces 7 = .ok (.getfield 9, 3) := by decide +kernel
theorem dL_kindOverSpaces_10 : decode cL_kindOverSpaces 10 = .ok (.iload_n 2, 1) := by decide +kernel
theorem dL_kindOverSpaces_11 : decode cL_kindOverSpaces 11 = .ok (.iaload, 1) := by decide +kernel
theorem dL_kindOverSpaces_12 : decode cL_kindOverSpaces 12 = .ok (.iconst 2, 1) := by decide +kernel
theorem dL_kindOverSpaces_13 : decode cL_kindOverSpaces 13 = .ok (.if_icmp .ne 9, 3) := by decide +kernel
theorem dL_kindOverSpaces_16 : decode cL_kindOverSpaces 16 = .ok (.iinc 2 (-1), 3) := by decide +kernel
theorem dL_kindOverSpaces_19 : decode cL_kindOverSpaces 19 = .ok (.goto (-17), 3) := by decide +kernel
theorem dL_kindOverSpaces_22 : decode cL_kindOverSpaces 22 = .ok (.iload_n 2, 1) := by decide +kernel
theorem dL_kindOverSpaces_23 : decode cL_kindOverSpaces 23 = .ok (.ifCond .ge 7, 3) := by decide +kernel
theorem dL_kindOverSpaces_26 : decode cL_kindOverSpaces 26 = .ok (.iconst (-1), 1) := by decide +kernel
theorem dL_kindOverSpaces_27 : decode cL_kindOverSpaces 27 = .ok (.goto 9, 3) := by decide +kernel
theorem dL_kindOverSpaces_30 : decode cL_kindOverSpaces 30 = .ok (.aload_n 0, 1) := by decide +kernel
theorem dL_kindOverSpaces_31 : decode cL_kindOverSpaces 31 = .ok (.getfield 9, 3) := by decide +kernel
theorem dL_kindOverSpaces_34 : decode cL_kindOverSpaces 34 = .ok (.iload_n 2, 1) := by decide +kernel
theorem dL_kindOverSpaces_35 : decode cL_kindOverSpaces 35 = .ok (.iaload, 1) := by decide +kernel
theorem dL_kindOverSpaces_36 : decode cL_kindOverSpaces 36 = .ok (.ireturn, 1) := by decide +kernel
theorem dL_endBetween_0 : decode cL_endBetween 0 = .ok (.iload_n 0, 1) := by decide +kernel
theorem dL_endBetween_1 : decode cL_endBetween 1 = .ok (.iconst 1, 1) := by decide +kernel
theorem dL_endBetween_2 : decode cL_endBetween 2 = .ok (.if_icmp .ne 5, 3) := by decide +kernel
theorem dL_endBetween_5 : decode cL_endBetween 5 = .ok (.iconst 2, 1) := by decide +kernel
theorem dL_endBetween_6 : decode cL_endBetween 6 = .ok (.ireturn, 1) := by decide +kernel
theorem dL_endBetween_7 : decode cL_endBetween 7 = .ok (.iload_n 1, 1) := by decide +kernel
theorem dL_endBetween_8 : decode cL_endBetween 8 = .ok (.invokestatic 41, 3) := by decide +kernel
theorem dL_endBetween_11 : decode cL_endBetween 11 = .ok (.ifCond .eq 5, 3) := by decide +kernel
theorem dL_endBetween_14 : decode cL_endBetween 14 = .ok (.iconst 0, 1) := by decide +kernel
theorem dL_endBetween_15 : decode cL_endBetween 15 = .ok (.ireturn, 1) := by decide +kernel
theorem dL_endBetween_16 : decode cL_endBetween 16 = .ok (.iload_n 2, 1) := by decide +kernel
theorem dL_endBetween_17 : decode cL_endBetween 17 = .ok (.iconst 3, 1) := by decide +kernel
theorem dL_endBetween_18 : decode cL_endBetween 18 = .ok (.if_icmp .ne 5, 3) := by decide +kernel
theorem dL_endBetween_21 : decode cL_endBetween 21 = .ok (.iconst 1, 1) := by decide +kernel
theorem dL_endBetween_22 : decode cL_endBetween 22 = .ok (.ireturn, 1) := by decide +kernel
theorem dL_endBetween_23 : decode cL_endBetween 23 = .ok (.iload_n 3, 1) := by decide +kernel
theorem dL_endBetween_24 : decode cL_endBetween 24 = .ok (.ifCond .eq 8, 3) := by decide +kernel
theorem dL_endBetween_27 : decode cL_endBetween 27 = .ok (.iload_n 0, 1) := by decide +kernel
theorem dL_endBetween_28 : decode cL_endBetween 28 = .ok (.iload_n 1, 1) := by decide +kernel
theorem dL_endBetween_29 : decode cL_endBetween 29 = .ok (.if_icmp .eq 12, 3) := by decide +kernel
theorem dL_endBetween_32 : decode cL_endBetween 32 = .ok (.iload_n 0, 1) := by decide +kernel
theorem dL_endBetween_33 : decode cL_endBetween 33 = .ok (.iload_n 1, 1) := by decide +kernel
theorem dL_endBetween_34 : decode cL_endBetween 34 = .ok (.iload_n 2, 1) := by decide +kernel
theorem dL_endBetween_35 : decode cL_endBetween 35 = .ok (.invokestatic 45, 3) := by decide +kernel
theorem dL_endBetween_38 : decode cL_endBetween 38 = .ok (.ifCond .eq 5, 3) := by decide +kernel
theorem dL_endBetween_41 : decode cL_endBetween 41 = .ok (.iconst 0, 1) := by decide +kernel
theorem dL_endBetween_42 : decode cL_endBetween 42 = .ok (.ireturn, 1) := by decide +kernel
theorem dL_endBetween_43 : decode cL_endBetween 43 = .ok (.iload_n 0, 1) := by decide +kernel
theorem dL_endBetween_44 : decode cL_endBetween 44 = .ok (.iconst 2, 1) := by decide +kernel
theorem dL_endBetween_45 : decode cL_endBetween 45 = .ok (.if_icmp .eq 11, 3) := by decide +kernel
theorem dL_endBetween_48 : decode cL_endBetween 48 = .ok (.iload_n 0, 1) := by decide +kernel
theorem dL_endBetween_49 : decode cL_endBetween 49 = .ok (.iload_n 1, 1) := by decide +kernel
theorem dL_endBetween_50 : decode cL_endBetween 50 = .ok (.invokestatic 49, 3) := by decide +kernel
theorem dL_endBetween_53 : decode cL_endBetween 53 = .ok (.ifCond .ne 7, 3) := by decide +kernel
theorem dL_endBetween_56 : decode cL_endBetween 56 = .ok (.iconst 1, 1) := by decide +kernel
theorem dL_endBetween_57 : decode cL_endBetween 57 = .ok (.goto 4, 3) := by decide +kernel
theorem dL_endBetween_60 : decode cL_endBetween 60 = .ok (.iconst 0, 1) := by decide +kernel
theorem dL_endBetween_61 : decode cL_endBetween 61 = .ok (.ireturn, 1) := by decide +kernel
theorem dL_isGap_0 : decode cL_isGap 0 = .ok (.iload_n 0, 1) := by decide +kernel
theorem dL_isGap_1 : decode cL_isGap 1 = .ok (.iconst 1, 1) := by decide +kernel
theorem dL_isGap_2 : decode cL_isGap 2 = .ok (.if_icmp .eq 13, 3) := by decide +kernel
theorem dL_isGap_5 : decode cL_isGap 5 = .ok (.iload_n 0, 1) := by decide +kernel
theorem dL_isGap_6 : decode cL_isGap 6 = .ok (.iconst 2, 1) := by decide +kernel
theorem dL_isGap_7 : decode cL_isGap 7 = .ok (.if_icmp .eq 8, 3) := by decide +kernel
theorem dL_isGap_10 : decode cL_isGap 10 = .ok (.iload_n 0, 1) := by decide +kernel
theorem dL_isGap_11 : decode cL_isGap 11 = .ok (.iconst 3, 1) := by decide +kernel
theorem dL_isGap_12 : decode cL_isGap 12 = .ok (.if_icmp .ne 7, 3) := by decide +kernel
theorem dL_isGap_15 : decode cL_isGap 15 = .ok (.iconst 1, 1) := by decide +kernel
theorem dL_isGap_16 : decode cL_isGap 16 = .ok (.goto 4, 3) := by decide +kernel
theorem dL_isGap_19 : decode cL_isGap 19 = .ok (.iconst 0, 1) := by decide +kernel
theorem dL_isGap_20 : decode cL_isGap 20 = .ok (.ireturn, 1) := by decide +kernel
theorem dL_isWord_0 : decode cL_isWord 0 = .ok (.iload_n 0, 1) := by decide +kernel
theorem dL_isWord_1 : decode cL_isWord 1 = .ok (.ifCond .eq 9, 3) := by decide +kernel
theorem dL_isWord_4 : decode cL_isWord 4 = .ok (.iload_n 0, 1) := by decide +kernel
theorem dL_isWord_5 : decode cL_isWord 5 = .ok (.bipush 9, 2) := by decide +kernel
theorem dL_isWord_7 : decode cL_isWord 7 = .ok (.if_icmp .ne 7, 3) := by decide +kernel
theorem dL_isWord_10 : decode cL_isWord 10 = .ok (.iconst 1, 1) := by decide +kernel
theorem dL_isWord_11 : decode cL_isWord 11 = .ok (.goto 4, 3) := by decide +kernel
theorem dL_isWord_14 : decode cL_isWord 14 = .ok (.iconst 0, 1) := by decide +kernel
theorem dL_isWord_15 : decode cL_isWord 15 = .ok (.ireturn, 1) := by decide +kernel
theorem dL_holdsOverSpaces_0 : decode cL_holdsOverSpaces 0 = .ok (.iload_n 0, 1) := by decide +kernel
theorem dL_holdsOverSpaces_1 : decode cL_holdsOverSpaces 1 = .ok (.iconst 4, 1) := by decide +kernel
theorem dL_holdsOverSpaces_2 : decode cL_holdsOverSpaces 2 = .ok (.if_icmp .eq 20, 3) := by decide +kernel
theorem dL_holdsOverSpaces_5 : decode cL_holdsOverSpaces 5 = .ok (.iload_n 1, 1) := by decide +kernel
theorem dL_holdsOverSpaces_6 : decode cL_holdsOverSpaces 6 = .ok (.iconst 4, 1) := by decide +kernel
theorem dL_holdsOverSpaces_7 : decode cL_holdsOverSpaces 7 = .ok (.if_icmp .eq 15, 3) := by decide +kernel
theorem dL_holdsOverSpaces_10 : decode cL_holdsOverSpaces 10 = .ok (.iload_n 1, 1) := by decide +kernel
theorem dL_holdsOverSpaces_11 : decode cL_holdsOverSpaces 11 = .ok (.bipush 6, 2) := by decide +kernel
theorem dL_holdsOverSpaces_13 : decode cL_holdsOverSpaces 13 = .ok (.if_icmp .eq 9, 3) := by decide +kernel
theorem dL_holdsOverSpaces_16 : decode cL_holdsOverSpaces 16 = .ok (.iload_n 1, 1) := by decide +kernel
theorem dL_holdsOverSpaces_17 : decode cL_holdsOverSpaces 17 = .ok (.bipush 12, 2) := by decide +kernel
theorem dL_holdsOverSpaces_19 : decode cL_holdsOverSpaces 19 = .ok (.if_icmp .ne 5, 3) := by decide +kernel
theorem dL_holdsOverSpaces_22 : decode cL_holdsOverSpaces 22 = .ok (.iconst 1, 1) := by decide +kernel
theorem dL_holdsOverSpaces_23 : decode cL_holdsOverSpaces 23 = .ok (.ireturn, 1) := by decide +kernel
theorem dL_holdsOverSpaces_24 : decode cL_holdsOverSpaces 24 = .ok (.iload_n 2, 1) := by decide +kernel
theorem dL_holdsOverSpaces_25 : decode cL_holdsOverSpaces 25 = .ok (.iconst 5, 1) := by decide +kernel
theorem dL_holdsOverSpaces_26 : decode cL_holdsOverSpaces 26 = .ok (.if_icmp .eq 14, 3) := by decide +kernel
theorem dL_holdsOverSpaces_29 : decode cL_holdsOverSpaces 29 = .ok (.iload_n 2, 1) := by decide +kernel
theorem dL_holdsOverSpaces_30 : decode cL_holdsOverSpaces 30 = .ok (.bipush 7, 2) := by decide +kernel
theorem dL_holdsOverSpaces_32 : decode cL_holdsOverSpaces 32 = .ok (.if_icmp .ne 12, 3) := by decide +kernel
theorem dL_holdsOverSpaces_35 : decode cL_holdsOverSpaces 35 = .ok (.iload_n 1, 1) := by decide +kernel
theorem dL_holdsOverSpaces_36 : decode cL_holdsOverSpaces 36 = .ok (.iconst 5, 1) := by decide +kernel
theorem dL_holdsOverSpaces_37 : decode cL_holdsOverSpaces 37 = .ok (.if_icmp .ne 7, 3) := by decide +kernel
theorem dL_holdsOverSpaces_40 : decode cL_holdsOverSpaces 40 = .ok (.iconst 1, 1) := by decide +kernel
theorem dL_holdsOverSpaces_41 : decode cL_holdsOverSpaces 41 = .ok (.goto 4, 3) := by decide +kernel
theorem dL_holdsOverSpaces_44 : decode cL_holdsOverSpaces 44 = .ok (.iconst 0, 1) := by decide +kernel
theorem dL_holdsOverSpaces_45 : decode cL_holdsOverSpaces 45 = .ok (.ireturn, 1) := by decide +kernel
theorem dL_holdsSideBySide_0 : decode cL_holdsSideBySide 0 = .ok (.iload_n 0, 1) := by decide +kernel
theorem dL_holdsSideBySide_1 : decode cL_holdsSideBySide 1 = .ok (.bipush 7, 2) := by decide +kernel
theorem dL_holdsSideBySide_3 : decode cL_holdsSideBySide 3 = .ok (.if_icmp .eq 15, 3) := by decide +kernel
theorem dL_holdsSideBySide_6 : decode cL_holdsSideBySide 6 = .ok (.iload_n 1, 1) := by decide +kernel
theorem dL_holdsSideBySide_7 : decode cL_holdsSideBySide 7 = .ok (.bipush 7, 2) := by decide +kernel
theorem dL_holdsSideBySide_9 : decode cL_holdsSideBySide 9 = .ok (.if_icmp .eq 9, 3) := by decide +kernel
theorem dL_holdsSideBySide_12 : decode cL_holdsSideBySide 12 = .ok (.iload_n 1, 1) := by decide +kernel
theorem dL_holdsSideBySide_13 : decode cL_holdsSideBySide 13 = .ok (.bipush 8, 2) := by decide +kernel
theorem dL_holdsSideBySide_15 : decode cL_holdsSideBySide 15 = .ok (.if_icmp .ne 5, 3) := by decide +kernel
theorem dL_holdsSideBySide_18 : decode cL_holdsSideBySide 18 = .ok (.iconst 1, 1) := by decide +kernel
theorem dL_holdsSideBySide_19 : decode cL_holdsSideBySide 19 = .ok (.ireturn, 1) := by decide +kernel
theorem dL_holdsSideBySide_20 : decode cL_holdsSideBySide 20 = .ok (.iload_n 1, 1) := by decide +kernel
theorem dL_holdsSideBySide_21 : decode cL_holdsSideBySide 21 = .ok (.invokestatic 53, 3) := by decide +kernel
theorem dL_holdsSideBySide_24 : decode cL_holdsSideBySide 24 = .ok (.ifCond .eq 40, 3) := by decide +kernel
theorem dL_holdsSideBySide_27 : decode cL_holdsSideBySide 27 = .ok (.iload_n 0, 1) := by decide +kernel
theorem dL_holdsSideBySide_28 : decode cL_holdsSideBySide 28 = .ok (.invokestatic 53, 3) := by decide +kernel
theorem dL_holdsSideBySide_31 : decode cL_holdsSideBySide 31 = .ok (.ifCond .ne 27, 3) := by decide +kernel
theorem dL_holdsSideBySide_34 : decode cL_holdsSideBySide 34 = .ok (.iload_n 0, 1) := by decide +kernel
theorem dL_holdsSideBySide_35 : decode cL_holdsSideBySide 35 = .ok (.bipush 6, 2) := by decide +kernel
theorem dL_holdsSideBySide_37 : decode cL_holdsSideBySide 37 = .ok (.if_icmp .eq 21, 3) := by decide +kernel
theorem dL_holdsSideBySide_40 : decode cL_holdsSideBySide 40 = .ok (.iload_n 0, 1) := by decide +kernel
theorem dL_holdsSideBySide_41 : decode cL_holdsSideBySide 41 = .ok (.bipush 12, 2) := by decide +kernel
theorem dL_holdsSideBySide_43 : decode cL_holdsSideBySide 43 = .ok (.if_icmp .eq 15, 3) := by decide +kernel
theorem dL_holdsSideBySide_46 : decode cL_holdsSideBySide 46 = .ok (.iload_n 0, 1) := by decide +kernel
theorem dL_holdsSideBySide_47 : decode cL_holdsSideBySide 47 = .ok (.bipush 8, 2) := by decide +kernel
theorem dL_holdsSideBySide_49 : decode cL_holdsSideBySide 49 = .ok (.if_icmp .ne 13, 3) := by decide +kernel
theorem dL_holdsSideBySide_52 : decode cL_holdsSideBySide 52 = .ok (.iload_n 1, 1) := by decide +kernel
theorem dL_holdsSideBySide_53 : decode cL_holdsSideBySide 53 = .ok (.bipush 9, 2) := by decide +kernel
theorem dL_holdsSideBySide_55 : decode cL_holdsSideBySide 55 = .ok (.if_icmp .ne 7, 3) := by decide +kernel
theorem dL_holdsSideBySide_58 : decode cL_holdsSideBySide 58 = .ok (.iconst 1, 1) := by decide +kernel
theorem dL_holdsSideBySide_59 : decode cL_holdsSideBySide 59 = .ok (.goto 4, 3) := by decide +kernel
theorem dL_holdsSideBySide_62 : decode cL_holdsSideBySide 62 = .ok (.iconst 0, 1) := by decide +kernel
theorem dL_holdsSideBySide_63 : decode cL_holdsSideBySide 63 = .ok (.ireturn, 1) := by decide +kernel
theorem dL_holdsSideBySide_64 : decode cL_holdsSideBySide 64 = .ok (.iload_n 0, 1) := by decide +kernel
theorem dL_holdsSideBySide_65 : decode cL_holdsSideBySide 65 = .ok (.invokestatic 53, 3) := by decide +kernel
theorem dL_holdsSideBySide_68 : decode cL_holdsSideBySide 68 = .ok (.ifCond .eq 12, 3) := by decide +kernel
theorem dL_holdsSideBySide_71 : decode cL_holdsSideBySide 71 = .ok (.iload_n 1, 1) := by decide +kernel
theorem dL_holdsSideBySide_72 : decode cL_holdsSideBySide 72 = .ok (.iconst 5, 1) := by decide +kernel
theorem dL_holdsSideBySide_73 : decode cL_holdsSideBySide 73 = .ok (.if_icmp .ne 7, 3) := by decide +kernel
theorem dL_holdsSideBySide_76 : decode cL_holdsSideBySide 76 = .ok (.iconst 1, 1) := by decide +kernel
theorem dL_holdsSideBySide_77 : decode cL_holdsSideBySide 77 = .ok (.goto 4, 3) := by decide +kernel
theorem dL_holdsSideBySide_80 : decode cL_holdsSideBySide 80 = .ok (.iconst 0, 1) := by decide +kernel
theorem dL_holdsSideBySide_81 : decode cL_holdsSideBySide 81 = .ok (.ireturn, 1) := by decide +kernel
theorem dS_init_0 : decode cS_init 0 = .ok (.aload_n 0, 1) := by decide +kernel
theorem dS_init_1 : decode cS_init 1 = .ok (.invokespecial 3, 3) := by decide +kernel
theorem dS_init_4 : decode cS_init 4 = .ok (.aload_n 0, 1) := by decide +kernel
theorem dS_init_5 : decode cS_init 5 = .ok (.bipush 42, 2) := by decide +kernel
theorem dS_init_7 : decode cS_init 7 = .ok (.newarray .int, 2) := by decide +kernel
theorem dS_init_9 : decode cS_init 9 = .ok (.putfield 9, 3) := by decide +kernel
theorem dS_init_12 : decode cS_init 12 = .ok (.aload_n 0, 1) := by decide +kernel
theorem dS_init_13 : decode cS_init 13 = .ok (.bipush 40, 2) := by decide +kernel
theorem dS_init_15 : decode cS_init 15 = .ok (.newarray .int, 2) := by decide +kernel
theorem dS_init_17 : decode cS_init 17 = .ok (.putfield 15, 3) := by decide +kernel
theorem dS_init_20 : decode cS_init 20 = .ok (.aload_n 0, 1) := by decide +kernel
theorem dS_init_21 : decode cS_init 21 = .ok (.bipush 40, 2) := by decide +kernel
theorem dS_init_23 : decode cS_init 23 = .ok (.newarray .int, 2) := by decide +kernel
theorem dS_init_25 : decode cS_init 25 = .ok (.putfield 18, 3) := by decide +kernel
theorem dS_init_28 : decode cS_init 28 = .ok (.return_, 1) := by decide +kernel
theorem dS_levelOf_0 : decode cS_levelOf 0 = .ok (.aload_n 0, 1) := by decide +kernel
theorem dS_levelOf_1 : decode cS_levelOf 1 = .ok (.getfield 15, 3) := by decide +kernel
theorem dS_levelOf_4 : decode cS_levelOf 4 = .ok (.iload_n 1, 1) := by decide +kernel
theorem dS_levelOf_5 : decode cS_levelOf 5 = .ok (.iaload, 1) := by decide +kernel
theorem dS_levelOf_6 : decode cS_levelOf 6 = .ok (.ireturn, 1) := by decide +kernel
theorem dS_readAs_0 : decode cS_readAs 0 = .ok (.aload_n 0, 1) := by decide +kernel
theorem dS_readAs_1 : decode cS_readAs 1 = .ok (.getfield 18, 3) := by decide +kernel
theorem dS_readAs_4 : decode cS_readAs 4 = .ok (.iload_n 1, 1) := by decide +kernel
theorem dS_readAs_5 : decode cS_readAs 5 = .ok (.iaload, 1) := by decide +kernel
theorem dS_readAs_6 : decode cS_readAs 6 = .ok (.ireturn, 1) := by decide +kernel
theorem dS_findLevels_0 : decode cS_findLevels 0 = .ok (.aload_n 2, 1) := by decide +kernel
theorem dS_findLevels_1 : decode cS_findLevels 1 = .ok (.invokevirtual 21, 3) := by decide +kernel
theorem dS_findLevels_4 : decode cS_findLevels 4 = .ok (.istore 4, 2) := by decide +kernel
theorem dS_findLevels_6 : decode cS_findLevels 6 = .ok (.iload_n 3, 1) := by decide +kernel
theorem dS_findLevels_7 : decode cS_findLevels 7 = .ok (.ifCond .eq 8, 3) := by decide +kernel
theorem dS_findLevels_10 : decode cS_findLevels 10 = .ok (.iload_n 3, 1) := by decide +kernel
theorem dS_findLevels_11 : decode cS_findLevels 11 = .ok (.iconst 1, 1) := by decide +kernel
theorem dS_findLevels_12 : decode cS_findLevels 12 = .ok (.if_icmp .ne 7, 3) := by decide +kernel
theorem dS_findLevels_15 : decode cS_findLevels 15 = .ok (.iload_n 3, 1) := by decide +kernel
theorem dS_findLevels_16 : decode cS_findLevels 16 = .ok (.goto 8, 3) := by decide +kernel
theorem dS_findLevels_19 : decode cS_findLevels 19 = .ok (.aload_n 1, 1) := by decide +kernel
theorem dS_findLevels_20 : decode cS_findLevels 20 = .ok (.aload_n 2, 1) := by decide +kernel
theorem dS_findLevels_21 : decode cS_findLevels 21 = .ok (.invokestatic 27, 3) := by decide +kernel
theorem dS_findLevels_24 : decode cS_findLevels 24 = .ok (.istore 5, 2) := by decide +kernel
theorem dS_findLevels_26 : decode cS_findLevels 26 = .ok (.aload_n 0, 1) := by decide +kernel
theorem dS_findLevels_27 : decode cS_findLevels 27 = .ok (.aload_n 1, 1) := by decide +kernel
theorem dS_findLevels_28 : decode cS_findLevels 28 = .ok (.aload_n 2, 1) := by decide +kernel
theorem dS_findLevels_29 : decode cS_findLevels 29 = .ok (.iload 5, 2) := by decide +kernel
theorem dS_findLevels_31 : decode cS_findLevels 31 = .ok (.ifCond .ne 7, 3) := by decide +kernel
theorem dS_findLevels_34 : decode cS_findLevels 34 = .ok (.iconst 0, 1) := by decide +kernel
theorem dS_findLevels_35 : decode cS_findLevels 35 = .ok (.goto 4, 3) := by decide +kernel
theorem dS_findLevels_38 : decode cS_findLevels 38 = .ok (.iconst 1, 1) := by decide +kernel
theorem dS_findLevels_39 : decode cS_findLevels 39 = .ok (.invokevirtual 31, 3) := by decide +kernel
theorem dS_findLevels_42 : decode cS_findLevels 42 = .ok (.aload_n 0, 1) := by decide +kernel
theorem dS_findLevels_43 : decode cS_findLevels 43 = .ok (.iload 4, 2) := by decide +kernel
theorem dS_findLevels_45 : decode cS_findLevels 45 = .ok (.invokevirtual 35, 3) := by decide +kernel
theorem dS_findLevels_48 : decode cS_findLevels 48 = .ok (.aload_n 0, 1) := by decide +kernel
theorem dS_findLevels_49 : decode cS_findLevels 49 = .ok (.iload 4, 2) := by decide +kernel
theorem dS_findLevels_51 : decode cS_findLevels 51 = .ok (.invokevirtual 39, 3) := by decide +kernel
theorem dS_findLevels_54 : decode cS_findLevels 54 = .ok (.aload_n 0, 1) := by decide +kernel
theorem dS_findLevels_55 : decode cS_findLevels 55 = .ok (.iload 4, 2) := by decide +kernel
theorem dS_findLevels_57 : decode cS_findLevels 57 = .ok (.invokevirtual 42, 3) := by decide +kernel
theorem dS_findLevels_60 : decode cS_findLevels 60 = .ok (.aload_n 0, 1) := by decide +kernel
theorem dS_findLevels_61 : decode cS_findLevels 61 = .ok (.iload 4, 2) := by decide +kernel
theorem dS_findLevels_63 : decode cS_findLevels 63 = .ok (.invokevirtual 45, 3) := by decide +kernel
theorem dS_findLevels_66 : decode cS_findLevels 66 = .ok (.aload_n 0, 1) := by decide +kernel
theorem dS_findLevels_67 : decode cS_findLevels 67 = .ok (.iload 4, 2) := by decide +kernel
theorem dS_findLevels_69 : decode cS_findLevels 69 = .ok (.invokevirtual 48, 3) := by decide +kernel
theorem dS_findLevels_72 : decode cS_findLevels 72 = .ok (.aload_n 0, 1) := by decide +kernel
theorem dS_findLevels_73 : decode cS_findLevels 73 = .ok (.iload 4, 2) := by decide +kernel
theorem dS_findLevels_75 : decode cS_findLevels 75 = .ok (.invokevirtual 51, 3) := by decide +kernel
theorem dS_findLevels_78 : decode cS_findLevels 78 = .ok (.iconst 0, 1) := by decide +kernel
theorem dS_findLevels_79 : decode cS_findLevels 79 = .ok (.istore 6, 2) := by decide +kernel
theorem dS_findLevels_81 : decode cS_findLevels 81 = .ok (.iload 6, 2) := by decide +kernel
theorem dS_findLevels_83 : decode cS_findLevels 83 = .ok (.iload 4, 2) := by decide +kernel
theorem dS_findLevels_85 : decode cS_findLevels 85 = .ok (.if_icmp .ge 30, 3) := by decide +kernel
theorem dS_findLevels_88 : decode cS_findLevels 88 = .ok (.aload_n 0, 1) := by decide +kernel
theorem dS_findLevels_89 : decode cS_findLevels 89 = .ok (.getfield 15, 3) := by decide +kernel
theorem dS_findLevels_92 : decode cS_findLevels 92 = .ok (.iload 6, 2) := by decide +kernel
theorem dS_findLevels_94 : decode cS_findLevels 94 = .ok (.aload_n 0, 1) := by decide +kernel
theorem dS_findLevels_95 : decode cS_findLevels 95 = .ok (.getfield 9, 3) := by decide +kernel
theorem dS_findLevels_98 : decode cS_findLevels 98 = .ok (.iload 6, 2) := by decide +kernel
theorem dS_findLevels_100 : decode cS_findLevels 100 = .ok (.iconst 1, 1) := by decide +kernel
theorem dS_findLevels_101 : decode cS_findLevels 101 = .ok (.iadd, 1) := by decide +kernel
theorem dS_findLevels_102 : decode cS_findLevels 102 = .ok (.iaload, 1) := by decide +kernel
theorem dS_findLevels_103 : decode cS_findLevels 103 = .ok (.iload 5, 2) := by decide +kernel
theorem dS_findLevels_105 : decode cS_findLevels 105 = .ok (.invokestatic 54, 3) := by decide +kernel
theorem dS_findLevels_108 : decode cS_findLevels 108 = .ok (.iastore, 1) := by decide +kernel
theorem dS_findLevels_109 : decode cS_findLevels 109 = .ok (.iinc 6 1, 3) := by decide +kernel
theorem dS_findLevels_112 : decode cS_findLevels 112 = .ok (.goto (-31), 3) := by decide +kernel
theorem dS_findLevels_115 : decode cS_findLevels 115 = .ok (.aload_n 0, 1) := by decide +kernel
theorem dS_findLevels_116 : decode cS_findLevels 116 = .ok (.aload_n 1, 1) := by decide +kernel
theorem dS_findLevels_117 : decode cS_findLevels 117 = .ok (.aload_n 2, 1) := by decide +kernel
theorem dS_findLevels_118 : decode cS_findLevels 118 = .ok (.iload 5, 2) := by decide +kernel
theorem dS_findLevels_120 : decode cS_findLevels 120 = .ok (.invokevirtual 58, 3) := by decide +kernel
theorem dS_findLevels_123 : decode cS_findLevels 123 = .ok (.return_, 1) := by decide +kernel
theorem dS_findOrder_0 : decode cS_findOrder 0 = .ok (.iconst 0, 1) := by decide +kernel
theorem dS_findOrder_1 : decode cS_findOrder 1 = .ok (.istore_n 2, 1) := by decide +kernel
theorem dS_findOrder_2 : decode cS_findOrder 2 = .ok (.iload_n 2, 1) := by decide +kernel
theorem dS_findOrder_3 : decode cS_findOrder 3 = .ok (.iload_n 1, 1) := by decide +kernel
theorem dS_findOrder_4 : decode cS_findOrder 4 = .ok (.if_icmp .ge 16, 3) := by decide +kernel
theorem dS_findOrder_7 : decode cS_findOrder 7 = .ok (.aload_n 0, 1) := by decide +kernel
theorem dS_findOrder_8 : decode cS_findOrder 8 = .ok (.getfield 18, 3) := by decide +kernel
theorem dS_findOrder_11 : decode cS_findOrder 11 = .ok (.iload_n 2, 1) := by decide +kernel
theorem dS_findOrder_12 : decode cS_findOrder 12 = .ok (.iload_n 2, 1) := by decide +kernel
theorem dS_findOrder_13 : decode cS_findOrder 13 = .ok (.iastore, 1) := by decide +kernel
theorem dS_findOrder_14 : decode cS_findOrder 14 = .ok (.iinc 2 1, 3) := by decide +kernel
theorem dS_findOrder_17 : decode cS_findOrder 17 = .ok (.goto (-15), 3) := by decide +kernel
theorem dS_findOrder_20 : decode cS_findOrder 20 = .ok (.iconst 2, 1) := by decide +kernel
theorem dS_findOrder_21 : decode cS_findOrder 21 = .ok (.istore_n 2, 1) := by decide +kernel
theorem dS_findOrder_22 : decode cS_findOrder 22 = .ok (.iload_n 2, 1) := by decide +kernel
theorem dS_findOrder_23 : decode cS_findOrder 23 = .ok (.iconst 1, 1) := by decide +kernel
theorem dS_findOrder_24 : decode cS_findOrder 24 = .ok (.if_icmp .lt 15, 3) := by decide +kernel
theorem dS_findOrder_27 : decode cS_findOrder 27 = .ok (.aload_n 0, 1) := by decide +kernel
theorem dS_findOrder_28 : decode cS_findOrder 28 = .ok (.iload_n 1, 1) := by decide +kernel
theorem dS_findOrder_29 : decode cS_findOrder 29 = .ok (.iload_n 2, 1) := by decide +kernel
theorem dS_findOrder_30 : decode cS_findOrder 30 = .ok (.invokevirtual 61, 3) := by decide +kernel
theorem dS_findOrder_33 : decode cS_findOrder 33 = .ok (.iinc 2 (-1), 3) := by decide +kernel
theorem dS_findOrder_36 : decode cS_findOrder 36 = .ok (.goto (-14), 3) := by decide +kernel
theorem dS_findOrder_39 : decode cS_findOrder 39 = .ok (.return_, 1) := by decide +kernel
theorem dS_baseOf_0 : decode cS_baseOf 0 = .ok (.iconst 0, 1) := by decide +kernel
theorem dS_baseOf_1 : decode cS_baseOf 1 = .ok (.istore_n 2, 1) := by decide +kernel
theorem dS_baseOf_2 : decode cS_baseOf 2 = .ok (.iload_n 2, 1) := by decide +kernel
theorem dS_baseOf_3 : decode cS_baseOf 3 = .ok (.aload_n 1, 1) := by decide +kernel
theorem dS_baseOf_4 : decode cS_baseOf 4 = .ok (.invokevirtual 21, 3) := by decide +kernel
theorem dS_baseOf_7 : decode cS_baseOf 7 = .ok (.if_icmp .ge 36, 3) := by decide +kernel
theorem dS_baseOf_10 : decode cS_baseOf 10 = .ok (.aload_n 0, 1) := by decide +kernel
theorem dS_baseOf_11 : decode cS_baseOf 11 = .ok (.aload_n 1, 1) := by decide +kernel
theorem dS_baseOf_12 : decode cS_baseOf 12 = .ok (.iload_n 2, 1) := by decide +kernel
theorem dS_baseOf_13 : decode cS_baseOf 13 = .ok (.invokevirtual 65, 3) := by decide +kernel
theorem dS_baseOf_16 : decode cS_baseOf 16 = .ok (.invokevirtual 69, 3) := by decide +kernel
theorem dS_baseOf_19 : decode cS_baseOf 19 = .ok (.istore_n 3, 1) := by decide +kernel
theorem dS_baseOf_20 : decode cS_baseOf 20 = .ok (.iload_n 3, 1) := by decide +kernel
theorem dS_baseOf_21 : decode cS_baseOf 21 = .ok (.invokestatic 74, 3) := by decide +kernel
theorem dS_baseOf_24 : decode cS_baseOf 24 = .ok (.ifCond .eq 13, 3) := by decide +kernel
theorem dS_baseOf_27 : decode cS_baseOf 27 = .ok (.iload_n 3, 1) := by decide +kernel
theorem dS_baseOf_28 : decode cS_baseOf 28 = .ok (.ifCond .ne 7, 3) := by decide +kernel
theorem dS_baseOf_31 : decode cS_baseOf 31 = .ok (.iconst 0, 1) := by decide +kernel
theorem dS_baseOf_32 : decode cS_baseOf 32 = .ok (.goto 4, 3) := by decide +kernel
theorem dS_baseOf_35 : decode cS_baseOf 35 = .ok (.iconst 1, 1) := by decide +kernel
theorem dS_baseOf_36 : decode cS_baseOf 36 = .ok (.ireturn, 1) := by decide +kernel
theorem dS_baseOf_37 : decode cS_baseOf 37 = .ok (.iinc 2 1, 3) := by decide +kernel
theorem dS_baseOf_40 : decode cS_baseOf 40 = .ok (.goto (-38), 3) := by decide +kernel
theorem dS_baseOf_43 : decode cS_baseOf 43 = .ok (.iconst 0, 1) := by decide +kernel
theorem dS_baseOf_44 : decode cS_baseOf 44 = .ok (.ireturn, 1) := by decide +kernel
theorem dS_isLetter_0 : decode cS_isLetter 0 = .ok (.iload_n 0, 1) := by decide +kernel
theorem dS_isLetter_1 : decode cS_isLetter 1 = .ok (.ifCond .eq 13, 3) := by decide +kernel
theorem dS_isLetter_4 : decode cS_isLetter 4 = .ok (.iload_n 0, 1) := by decide +kernel
theorem dS_isLetter_5 : decode cS_isLetter 5 = .ok (.iconst 1, 1) := by decide +kernel
theorem dS_isLetter_6 : decode cS_isLetter 6 = .ok (.if_icmp .eq 8, 3) := by decide +kernel
theorem dS_isLetter_9 : decode cS_isLetter 9 = .ok (.iload_n 0, 1) := by decide +kernel
theorem dS_isLetter_10 : decode cS_isLetter 10 = .ok (.iconst 2, 1) := by decide +kernel
theorem dS_isLetter_11 : decode cS_isLetter 11 = .ok (.if_icmp .ne 7, 3) := by decide +kernel
theorem dS_isLetter_14 : decode cS_isLetter 14 = .ok (.iconst 1, 1) := by decide +kernel
theorem dS_isLetter_15 : decode cS_isLetter 15 = .ok (.goto 4, 3) := by decide +kernel
theorem dS_isLetter_18 : decode cS_isLetter 18 = .ok (.iconst 0, 1) := by decide +kernel
theorem dS_isLetter_19 : decode cS_isLetter 19 = .ok (.ireturn, 1) := by decide +kernel
theorem dS_isNeutral_0 : decode cS_isNeutral 0 = .ok (.iload_n 0, 1) := by decide +kernel
theorem dS_isNeutral_1 : decode cS_isNeutral 1 = .ok (.bipush 9, 2) := by decide +kernel
theorem dS_isNeutral_3 : decode cS_isNeutral 3 = .ok (.if_icmp .eq 15, 3) := by decide +kernel
theorem dS_isNeutral_6 : decode cS_isNeutral 6 = .ok (.iload_n 0, 1) := by decide +kernel
theorem dS_isNeutral_7 : decode cS_isNeutral 7 = .ok (.bipush 10, 2) := by decide +kernel
theorem dS_isNeutral_9 : decode cS_isNeutral 9 = .ok (.if_icmp .eq 9, 3) := by decide +kernel
theorem dS_isNeutral_12 : decode cS_isNeutral 12 = .ok (.iload_n 0, 1) := by decide +kernel
theorem dS_isNeutral_13 : decode cS_isNeutral 13 = .ok (.bipush 11, 2) := by decide +kernel
theorem dS_isNeutral_15 : decode cS_isNeutral 15 = .ok (.if_icmp .ne 7, 3) := by decide +kernel
theorem dS_isNeutral_18 : decode cS_isNeutral 18 = .ok (.iconst 1, 1) := by decide +kernel
theorem dS_isNeutral_19 : decode cS_isNeutral 19 = .ok (.goto 4, 3) := by decide +kernel
theorem dS_isNeutral_22 : decode cS_isNeutral 22 = .ok (.iconst 0, 1) := by decide +kernel
theorem dS_isNeutral_23 : decode cS_isNeutral 23 = .ok (.ireturn, 1) := by decide +kernel
theorem dS_readsRight_0 : decode cS_readsRight 0 = .ok (.iload_n 0, 1) := by decide +kernel
theorem dS_readsRight_1 : decode cS_readsRight 1 = .ok (.iconst 1, 1) := by decide +kernel
theorem dS_readsRight_2 : decode cS_readsRight 2 = .ok (.if_icmp .eq 14, 3) := by decide +kernel
theorem dS_readsRight_5 : decode cS_readsRight 5 = .ok (.iload_n 0, 1) := by decide +kernel
theorem dS_readsRight_6 : decode cS_readsRight 6 = .ok (.iconst 3, 1) := by decide +kernel
theorem dS_readsRight_7 : decode cS_readsRight 7 = .ok (.if_icmp .eq 9, 3) := by decide +kernel
theorem dS_readsRight_10 : decode cS_readsRight 10 = .ok (.iload_n 0, 1) := by decide +kernel
theorem dS_readsRight_11 : decode cS_readsRight 11 = .ok (.bipush 6, 2) := by decide +kernel
theorem dS_readsRight_13 : decode cS_readsRight 13 = .ok (.if_icmp .ne 7, 3) := by decide +kernel
theorem dS_readsRight_16 : decode cS_readsRight 16 = .ok (.iconst 1, 1) := by decide +kernel
theorem dS_readsRight_17 : decode cS_readsRight 17 = .ok (.goto 4, 3) := by decide +kernel
theorem dS_readsRight_20 : decode cS_readsRight 20 = .ok (.iconst 0, 1) := by decide +kernel
theorem dS_readsRight_21 : decode cS_readsRight 21 = .ok (.ireturn, 1) := by decide +kernel
theorem dS_takeKinds_0 : decode cS_takeKinds 0 = .ok (.aload_n 0, 1) := by decide +kernel
theorem dS_takeKinds_1 : decode cS_takeKinds 1 = .ok (.getfield 9, 3) := by decide +kernel
theorem dS_takeKinds_4 : decode cS_takeKinds 4 = .ok (.iconst 0, 1) := by decide +kernel
theorem dS_takeKinds_5 : decode cS_takeKinds 5 = .ok (.iload_n 3, 1) := by decide +kernel
theorem dS_takeKinds_6 : decode cS_takeKinds 6 = .ok (.iastore, 1) := by decide +kernel
theorem dS_takeKinds_7 : decode cS_takeKinds 7 = .ok (.iconst 0, 1) := by decide +kernel
theorem dS_takeKinds_8 : decode cS_takeKinds 8 = .ok (.istore 4, 2) := by decide +kernel
theorem dS_takeKinds_10 : decode cS_takeKinds 10 = .ok (.iload 4, 2) := by decide +kernel
theorem dS_takeKinds_12 : decode cS_takeKinds 12 = .ok (.aload_n 2, 1) := by decide +kernel
theorem dS_takeKinds_13 : decode cS_takeKinds 13 = .ok (.invokevirtual 21, 3) := by decide +kernel
theorem dS_takeKinds_16 : decode cS_takeKinds 16 = .ok (.if_icmp .ge 28, 3) := by decide +kernel
theorem dS_takeKinds_19 : decode cS_takeKinds 19 = .ok (.aload_n 0, 1) := by decide +kernel
theorem dS_takeKinds_20 : decode cS_takeKinds 20 = .ok (.getfield 9, 3) := by decide +kernel
theorem dS_takeKinds_23 : decode cS_takeKinds 23 = .ok (.iload 4, 2) := by decide +kernel
theorem dS_takeKinds_25 : decode cS_takeKinds 25 = .ok (.iconst 1, 1) := by decide +kernel
theorem dS_takeKinds_26 : decode cS_takeKinds 26 = .ok (.iadd, 1) := by decide +kernel
theorem dS_takeKinds_27 : decode cS_takeKinds 27 = .ok (.aload_n 1, 1) := by decide +kernel
theorem dS_takeKinds_28 : decode cS_takeKinds 28 = .ok (.aload_n 2, 1) := by decide +kernel
theorem dS_takeKinds_29 : decode cS_takeKinds 29 = .ok (.iload 4, 2) := by decide +kernel
theorem dS_takeKinds_31 : decode cS_takeKinds 31 = .ok (.invokevirtual 65, 3) := by decide +kernel
theorem dS_takeKinds_34 : decode cS_takeKinds 34 = .ok (.invokevirtual 69, 3) := by decide +kernel
theorem dS_takeKinds_37 : decode cS_takeKinds 37 = .ok (.iastore, 1) := by decide +kernel
theorem dS_takeKinds_38 : decode cS_takeKinds 38 = .ok (.iinc 4 1, 3) := by decide +kernel
theorem dS_takeKinds_41 : decode cS_takeKinds 41 = .ok (.goto (-31), 3) := by decide +kernel
theorem dS_takeKinds_44 : decode cS_takeKinds 44 = .ok (.aload_n 0, 1) := by decide +kernel
theorem dS_takeKinds_45 : decode cS_takeKinds 45 = .ok (.getfield 9, 3) := by decide +kernel
theorem dS_takeKinds_48 : decode cS_takeKinds 48 = .ok (.aload_n 2, 1) := by decide +kernel
theorem dS_takeKinds_49 : decode cS_takeKinds 49 = .ok (.invokevirtual 21, 3) := by decide +kernel
theorem dS_takeKinds_52 : decode cS_takeKinds 52 = .ok (.iconst 1, 1) := by decide +kernel
theorem dS_takeKinds_53 : decode cS_takeKinds 53 = .ok (.iadd, 1) := by decide +kernel
theorem dS_takeKinds_54 : decode cS_takeKinds 54 = .ok (.iload_n 3, 1) := by decide +kernel
theorem dS_takeKinds_55 : decode cS_takeKinds 55 = .ok (.iastore, 1) := by decide +kernel
theorem dS_takeKinds_56 : decode cS_takeKinds 56 = .ok (.return_, 1) := by decide +kernel
theorem dS_takeFromFront_0 : decode cS_takeFromFront 0 = .ok (.iconst 1, 1) := by decide +kernel
theorem dS_takeFromFront_1 : decode cS_takeFromFront 1 = .ok (.istore_n 2, 1) := by decide +kernel
theorem dS_takeFromFront_2 : decode cS_takeFromFront 2 = .ok (.iload_n 2, 1) := by decide +kernel
theorem dS_takeFromFront_3 : decode cS_takeFromFront 3 = .ok (.iload_n 1, 1) := by decide +kernel
theorem dS_takeFromFront_4 : decode cS_takeFromFront 4 = .ok (.if_icmp .gt 34, 3) := by decide +kernel
theorem dS_takeFromFront_7 : decode cS_takeFromFront 7 = .ok (.aload_n 0, 1) := by decide +kernel
theorem dS_takeFromFront_8 : decode cS_takeFromFront 8 = .ok (.getfield 9, 3) := by decide +kernel
theorem dS_takeFromFront_11 : decode cS_takeFromFront 11 = .ok (.iload_n 2, 1) := by decide +kernel
theorem dS_takeFromFront_12 : decode cS_takeFromFront 12 = .ok (.iaload, 1) := by decide +kernel
theorem dS_takeFromFront_13 : decode cS_takeFromFront 13 = .ok (.bipush 8, 2) := by decide +kernel
theorem dS_takeFromFront_15 : decode cS_takeFromFront 15 = .ok (.if_icmp .ne 17, 3) := by decide +kernel
theorem dS_takeFromFront_18 : decode cS_takeFromFront 18 = .ok (.aload_n 0, 1) := by decide +kernel
theorem dS_takeFromFront_19 : decode cS_takeFromFront 19 = .ok (.getfield 9, 3) := by decide +kernel
theorem dS_takeFromFront_22 : decode cS_takeFromFront 22 = .ok (.iload_n 2, 1) := by decide +kernel
theorem dS_takeFromFront_23 : decode cS_takeFromFront 23 = .ok (.aload_n 0, 1) := by decide +kernel
theorem dS_takeFromFront_24 : decode cS_takeFromFront 24 = .ok (.getfield 9, 3) := by decide +kernel
theorem dS_takeFromFront_27 : decode cS_takeFromFront 27 = .ok (.iload_n 2, 1) := by decide +kernel
theorem dS_takeFromFront_28 : decode cS_takeFromFront 28 = .ok (.iconst 1, 1) := by decide +kernel
theorem dS_takeFromFront_29 : decode cS_takeFromFront 29 = .ok (.isub, 1) := by decide +kernel
theorem dS_takeFromFront_30 : decode cS_takeFromFront 30 = .ok (.iaload, 1) := by decide +kernel
theorem dS_takeFromFront_31 : decode cS_takeFromFront 31 = .ok (.iastore, 1) := by decide +kernel
theorem dS_takeFromFront_32 : decode cS_takeFromFront 32 = .ok (.iinc 2 1, 3) := by decide +kernel
theorem dS_takeFromFront_35 : decode cS_takeFromFront 35 = .ok (.goto (-33), 3) := by decide +kernel
theorem dS_takeFromFront_38 : decode cS_takeFromFront 38 = .ok (.return_, 1) := by decide +kernel
theorem dS_changeArabs_0 : decode cS_changeArabs 0 = .ok (.aload_n 0, 1) := by decide +kernel
theorem dS_changeArabs_1 : decode cS_changeArabs 1 = .ok (.getfield 9, 3) := by decide +kernel
theorem dS_changeArabs_4 : decode cS_changeArabs 4 = .ok (.iconst 0, 1) := by decide +kernel
theorem dS_changeArabs_5 : decode cS_changeArabs 5 = .ok (.iaload, 1) := by decide +kernel
theorem dS_changeArabs_6 : decode cS_changeArabs 6 = .ok (.istore_n 2, 1) := by decide +kernel
theorem dS_changeArabs_7 : decode cS_changeArabs 7 = .ok (.iconst 1, 1) := by decide +kernel
theorem dS_changeArabs_8 : decode cS_changeArabs 8 = .ok (.istore_n 3, 1) := by decide +kernel
theorem dS_changeArabs_9 : decode cS_changeArabs 9 = .ok (.iload_n 3, 1) := by decide +kernel
theorem dS_changeArabs_10 : decode cS_changeArabs 10 = .ok (.iload_n 1, 1) := by decide +kernel
theorem dS_changeArabs_11 : decode cS_changeArabs 11 = .ok (.if_icmp .gt 71, 3) := by decide +kernel
theorem dS_changeArabs_14 : decode cS_changeArabs 14 = .ok (.aload_n 0, 1) := by decide +kernel
theorem dS_changeArabs_15 : decode cS_changeArabs 15 = .ok (.getfield 9, 3) := by decide +kernel
theorem dS_changeArabs_18 : decode cS_changeArabs 18 = .ok (.iload_n 3, 1) := by decide +kernel
theorem dS_changeArabs_19 : decode cS_changeArabs 19 = .ok (.iaload, 1) := by decide +kernel
theorem dS_changeArabs_20 : decode cS_changeArabs 20 = .ok (.invokestatic 74, 3) := by decide +kernel
theorem dS_changeArabs_23 : decode cS_changeArabs 23 = .ok (.ifCond .eq 10, 3) := by decide +kernel
theorem dS_changeArabs_26 : decode cS_changeArabs 26 = .ok (.aload_n 0, 1) := by decide +kernel
theorem dS_changeArabs_27 : decode cS_changeArabs 27 = .ok (.getfield 9, 3) := by decide +kernel
theorem dS_changeArabs_30 : decode cS_changeArabs 30 = .ok (.iload_n 3, 1) := by decide +kernel
theorem dS_changeArabs_31 : decode cS_changeArabs 31 = .ok (.iaload, 1) := by decide +kernel
theorem dS_changeArabs_32 : decode cS_changeArabs 32 = .ok (.istore_n 2, 1) := by decide +kernel
theorem dS_changeArabs_33 : decode cS_changeArabs 33 = .ok (.aload_n 0, 1) := by decide +kernel
theorem dS_changeArabs_34 : decode cS_changeArabs 34 = .ok (.getfield 9, 3) := by decide +kernel
theorem dS_changeArabs_37 : decode cS_changeArabs 37 = .ok (.iload_n 3, 1) := by decide +kernel
theorem dS_changeArabs_38 : decode cS_changeArabs 38 = .ok (.iaload, 1) := by decide +kernel
theorem dS_changeArabs_39 : decode cS_changeArabs 39 = .ok (.iconst 2, 1) := by decide +kernel
theorem dS_changeArabs_40 : decode cS_changeArabs 40 = .ok (.if_icmp .ne 13, 3) := by decide +kernel
theorem dS_changeArabs_43 : decode cS_changeArabs 43 = .ok (.aload_n 0, 1) := by decide +kernel
theorem dS_changeArabs_44 : decode cS_changeArabs 44 = .ok (.getfield 9, 3) := by decide +kernel
theorem dS_changeArabs_47 : decode cS_changeArabs 47 = .ok (.iload_n 3, 1) := by decide +kernel
theorem dS_changeArabs_48 : decode cS_changeArabs 48 = .ok (.iconst 1, 1) := by decide +kernel
theorem dS_changeArabs_49 : decode cS_changeArabs 49 = .ok (.iastore, 1) := by decide +kernel
theorem dS_changeArabs_50 : decode cS_changeArabs 50 = .ok (.goto 26, 3) := by decide +kernel
theorem dS_changeArabs_53 : decode cS_changeArabs 53 = .ok (.aload_n 0, 1) := by decide +kernel
theorem dS_changeArabs_54 : decode cS_changeArabs 54 = .ok (.getfield 9, 3) := by decide +kernel
theorem dS_changeArabs_57 : decode cS_changeArabs 57 = .ok (.iload_n 3, 1) := by decide +kernel
theorem dS_changeArabs_58 : decode cS_changeArabs 58 = .ok (.iaload, 1) := by decide +kernel
theorem dS_changeArabs_59 : decode cS_changeArabs 59 = .ok (.iconst 3, 1) := by decide +kernel
theorem dS_changeArabs_60 : decode cS_changeArabs 60 = .ok (.if_icmp .ne 16, 3) := by decide +kernel
theorem dS_changeArabs_63 : decode cS_changeArabs 63 = .ok (.iload_n 2, 1) := by decide +kernel
theorem dS_changeArabs_64 : decode cS_changeArabs 64 = .ok (.iconst 2, 1) := by decide +kernel
theorem dS_changeArabs_65 : decode cS_changeArabs 65 = .ok (.if_icmp .ne 11, 3) := by decide +kernel
theorem dS_changeArabs_68 : decode cS_changeArabs 68 = .ok (.aload_n 0, 1) := by decide +kernel
theorem dS_changeArabs_69 : decode cS_changeArabs 69 = .ok (.getfield 9, 3) := by decide +kernel
theorem dS_changeArabs_72 : decode cS_changeArabs 72 = .ok (.iload_n 3, 1) := by decide +kernel
theorem dS_changeArabs_73 : decode cS_changeArabs 73 = .ok (.bipush 6, 2) := by decide +kernel
theorem dS_changeArabs_75 : decode cS_changeArabs 75 = .ok (.iastore, 1) := by decide +kernel
theorem dS_changeArabs_76 : decode cS_changeArabs 76 = .ok (.iinc 3 1, 3) := by decide +kernel
theorem dS_changeArabs_79 : decode cS_changeArabs 79 = .ok (.goto (-70), 3) := by decide +kernel
theorem dS_changeArabs_82 : decode cS_changeArabs 82 = .ok (.return_, 1) := by decide +kernel
theorem dS_joinNumbers_0 : decode cS_joinNumbers 0 = .ok (.iconst 1, 1) := by decide +kernel
theorem dS_joinNumbers_1 : decode cS_joinNumbers 1 = .ok (.istore_n 2, 1) := by decide +kernel
theorem dS_joinNumbers_2 : decode cS_joinNumbers 2 = .ok (.iload_n 2, 1) := by decide +kernel
theorem dS_joinNumbers_3 : decode cS_joinNumbers 3 = .ok (.iload_n 1, 1) := by decide +kernel
theorem dS_joinNumbers_4 : decode cS_joinNumbers 4 = .ok (.if_icmp .gt 95, 3) := by decide +kernel
theorem dS_joinNumbers_7 : decode cS_joinNumbers 7 = .ok (.aload_n 0, 1) := by decide +kernel
theorem dS_joinNumbers_8 : decode cS_joinNumbers 8 = .ok (.getfield 9, 3) := by decide +kernel
theorem dS_joinNumbers_11 : decode cS_joinNumbers 11 = .ok (.iload_n 2, 1) := by decide +kernel
theorem dS_joinNumbers_12 : decode cS_joinNumbers 12 = .ok (.iconst 1, 1) := by decide +kernel
theorem dS_joinNumbers_13 : decode cS_joinNumbers 13 = .ok (.isub, 1) := by decide +kernel
theorem dS_joinNumbers_14 : decode cS_joinNumbers 14 = .ok (.iaload, 1) := by decide +kernel
theorem dS_joinNumbers_15 : decode cS_joinNumbers 15 = .ok (.istore_n 3, 1) := by decide +kernel
theorem dS_joinNumbers_16 : decode cS_joinNumbers 16 = .ok (.iload_n 3, 1) := by decide +kernel
theorem dS_joinNumbers_17 : decode cS_joinNumbers 17 = .ok (.aload_n 0, 1) := by decide +kernel
theorem dS_joinNumbers_18 : decode cS_joinNumbers 18 = .ok (.getfield 9, 3) := by decide +kernel
theorem dS_joinNumbers_21 : decode cS_joinNumbers 21 = .ok (.iload_n 2, 1) := by decide +kernel
theorem dS_joinNumbers_22 : decode cS_joinNumbers 22 = .ok (.iconst 1, 1) := by decide +kernel
theorem dS_joinNumbers_23 : decode cS_joinNumbers 23 = .ok (.iadd, 1) := by decide +kernel
theorem dS_joinNumbers_24 : decode cS_joinNumbers 24 = .ok (.iaload, 1) := by decide +kernel
theorem dS_joinNumbers_25 : decode cS_joinNumbers 25 = .ok (.if_icmp .ne 68, 3) := by decide +kernel
theorem dS_joinNumbers_28 : decode cS_joinNumbers 28 = .ok (.aload_n 0, 1) := by decide +kernel
theorem dS_joinNumbers_29 : decode cS_joinNumbers 29 = .ok (.getfield 9, 3) := by decide +kernel
theorem dS_joinNumbers_32 : decode cS_joinNumbers 32 = .ok (.iload_n 2, 1) := by decide +kernel
theorem dS_joinNumbers_33 : decode cS_joinNumbers 33 = .ok (.iaload, 1) := by decide +kernel
theorem dS_joinNumbers_34 : decode cS_joinNumbers 34 = .ok (.iconst 4, 1) := by decide +kernel
theorem dS_joinNumbers_35 : decode cS_joinNumbers 35 = .ok (.if_icmp .ne 8, 3) := by decide +kernel
theorem dS_joinNumbers_38 : decode cS_joinNumbers 38 = .ok (.iload_n 3, 1) := by decide +kernel
theorem dS_joinNumbers_39 : decode cS_joinNumbers 39 = .ok (.iconst 3, 1) := by decide +kernel
theorem dS_joinNumbers_40 : decode cS_joinNumbers 40 = .ok (.if_icmp .eq 25, 3) := by decide +kernel
theorem dS_joinNumbers_43 : decode cS_joinNumbers 43 = .ok (.aload_n 0, 1) := by decide +kernel
theorem dS_joinNumbers_44 : decode cS_joinNumbers 44 = .ok (.getfield 9, 3) := by decide +kernel
theorem dS_joinNumbers_47 : decode cS_joinNumbers 47 = .ok (.iload_n 2, 1) := by decide +kernel
theorem dS_joinNumbers_48 : decode cS_joinNumbers 48 = .ok (.iaload, 1) := by decide +kernel
theorem dS_joinNumbers_49 : decode cS_joinNumbers 49 = .ok (.bipush 7, 2) := by decide +kernel
theorem dS_joinNumbers_51 : decode cS_joinNumbers 51 = .ok (.if_icmp .ne 18, 3) := by decide +kernel
theorem dS_joinNumbers_54 : decode cS_joinNumbers 54 = .ok (.iload_n 3, 1) := by decide +kernel
theorem dS_joinNumbers_55 : decode cS_joinNumbers 55 = .ok (.iconst 3, 1) := by decide +kernel
theorem dS_joinNumbers_56 : decode cS_joinNumbers 56 = .ok (.if_icmp .eq 9, 3) := by decide +kernel
theorem dS_joinNumbers_59 : decode cS_joinNumbers 59 = .ok (.iload_n 3, 1) := by decide +kernel
theorem dS_joinNumbers_60 : decode cS_joinNumbers 60 = .ok (.bipush 6, 2) := by decide +kernel
theorem dS_joinNumbers_62 : decode cS_joinNumbers 62 = .ok (.if_icmp .ne 7, 3) := by decide +kernel
theorem dS_joinNumbers_65 : decode cS_joinNumbers 65 = .ok (.iconst 1, 1) := by decide +kernel
theorem dS_joinNumbers_66 : decode cS_joinNumbers 66 = .ok (.goto 4, 3) := by decide +kernel
theorem dS_joinNumbers_69 : decode cS_joinNumbers 69 = .ok (.iconst 0, 1) := by decide +kernel
theorem dS_joinNumbers_70 : decode cS_joinNumbers 70 = .ok (.istore 4, 2) := by decide +kernel
theorem dS_joinNumbers_72 : decode cS_joinNumbers 72 = .ok (.aload_n 0, 1) := by decide +kernel
theorem dS_joinNumbers_73 : decode cS_joinNumbers 73 = .ok (.getfield 9, 3) := by decide +kernel
theorem dS_joinNumbers_76 : decode cS_joinNumbers 76 = .ok (.iload_n 2, 1) := by decide +kernel
theorem dS_joinNumbers_77 : decode cS_joinNumbers 77 = .ok (.iload 4, 2) := by decide +kernel
theorem dS_joinNumbers_79 : decode cS_joinNumbers 79 = .ok (.ifCond .eq 7, 3) := by decide +kernel
theorem dS_joinNumbers_82 : decode cS_joinNumbers 82 = .ok (.iload_n 3, 1) := by decide +kernel
theorem dS_joinNumbers_83 : decode cS_joinNumbers 83 = .ok (.goto 9, 3) := by decide +kernel
theorem dS_joinNumbers_86 : decode cS_joinNumbers 86 = .ok (.aload_n 0, 1) := by decide +kernel
theorem dS_joinNumbers_87 : decode cS_joinNumbers 87 = .ok (.getfield 9, 3) := by decide +kernel
theorem dS_joinNumbers_90 : decode cS_joinNumbers 90 = .ok (.iload_n 2, 1) := by decide +kernel
theorem dS_joinNumbers_91 : decode cS_joinNumbers 91 = .ok (.iaload, 1) := by decide +kernel
theorem dS_joinNumbers_92 : decode cS_joinNumbers 92 = .ok (.iastore, 1) := by decide +kernel
theorem dS_joinNumbers_93 : decode cS_joinNumbers 93 = .ok (.iinc 2 1, 3) := by decide +kernel
theorem dS_joinNumbers_96 : decode cS_joinNumbers 96 = .ok (.goto (-94), 3) := by decide +kernel
theorem dS_joinNumbers_99 : decode cS_joinNumbers 99 = .ok (.return_, 1) := by decide +kernel
theorem dS_changeUnits_0 : decode cS_changeUnits 0 = .ok (.iconst 1, 1) := by decide +kernel
theorem dS_changeUnits_1 : decode cS_changeUnits 1 = .ok (.istore_n 2, 1) := by decide +kernel
theorem dS_changeUnits_2 : decode cS_changeUnits 2 = .ok (.iload_n 2, 1) := by decide +kernel
theorem dS_changeUnits_3 : decode cS_changeUnits 3 = .ok (.iload_n 1, 1) := by decide +kernel
theorem dS_changeUnits_4 : decode cS_changeUnits 4 = .ok (.if_icmp .gt 120, 3) := by decide +kernel
theorem dS_changeUnits_7 : decode cS_changeUnits 7 = .ok (.aload_n 0, 1) := by decide +kernel
theorem dS_changeUnits_8 : decode cS_changeUnits 8 = .ok (.getfield 9, 3) := by decide +kernel
theorem dS_changeUnits_11 : decode cS_changeUnits 11 = .ok (.iload_n 2, 1) := by decide +kernel
theorem dS_changeUnits_12 : decode cS_changeUnits 12 = .ok (.iaload, 1) := by decide +kernel
theorem dS_changeUnits_13 : decode cS_changeUnits 13 = .ok (.iconst 5, 1) := by decide +kernel
theorem dS_changeUnits_14 : decode cS_changeUnits 14 = .ok (.if_icmp .ne 75, 3) := by decide +kernel
theorem dS_changeUnits_17 : decode cS_changeUnits 17 = .ok (.iload_n 2, 1) := by decide +kernel
theorem dS_changeUnits_18 : decode cS_changeUnits 18 = .ok (.istore_n 3, 1) := by decide +kernel
theorem dS_changeUnits_19 : decode cS_changeUnits 19 = .ok (.iload_n 3, 1) := by decide +kernel
theorem dS_changeUnits_20 : decode cS_changeUnits 20 = .ok (.iload_n 1, 1) := by decide +kernel
theorem dS_changeUnits_21 : decode cS_changeUnits 21 = .ok (.if_icmp .gt 19, 3) := by decide +kernel
theorem dS_changeUnits_24 : decode cS_changeUnits 24 = .ok (.aload_n 0, 1) := by decide +kernel
theorem dS_changeUnits_25 : decode cS_changeUnits 25 = .ok (.getfield 9, 3) := by decide +kernel
theorem dS_changeUnits_28 : decode cS_changeUnits 28 = .ok (.iload_n 3, 1) := by decide +kernel
theorem dS_changeUnits_29 : decode cS_changeUnits 29 = .ok (.iaload, 1) := by decide +kernel
theorem dS_changeUnits_30 : decode cS_changeUnits 30 = .ok (.iconst 5, 1) := by decide +kernel
theorem dS_changeUnits_31 : decode cS_changeUnits 31 = .ok (.if_icmp .ne 9, 3) := by decide +kernel
theorem dS_changeUnits_34 : decode cS_changeUnits 34 = .ok (.iinc 3 1, 3) := by decide +kernel
theorem dS_changeUnits_37 : decode cS_changeUnits 37 = .ok (.goto (-18), 3) := by decide +kernel
theorem dS_changeUnits_40 : decode cS_changeUnits 40 = .ok (.aload_n 0, 1) := by decide +kernel
theorem dS_changeUnits_41 : decode cS_changeUnits 41 = .ok (.getfield 9, 3) := by decide +kernel
theorem dS_changeUnits_44 : decode cS_changeUnits 44 = .ok (.iload_n 2, 1) := by decide +kernel
theorem dS_changeUnits_45 : decode cS_changeUnits 45 = .ok (.iconst 1, 1) := by decide +kernel
theorem dS_changeUnits_46 : decode cS_changeUnits 46 = .ok (.isub, 1) := by decide +kernel
theorem dS_changeUnits_47 : decode cS_changeUnits 47 = .ok (.iaload, 1) := by decide +kernel
theorem dS_changeUnits_48 : decode cS_changeUnits 48 = .ok (.iconst 3, 1) := by decide +kernel
theorem dS_changeUnits_49 : decode cS_changeUnits 49 = .ok (.if_icmp .eq 13, 3) := by decide +kernel
theorem dS_changeUnits_52 : decode cS_changeUnits 52 = .ok (.aload_n 0, 1) := by decide +kernel
theorem dS_changeUnits_53 : decode cS_changeUnits 53 = .ok (.getfield 9, 3) := by decide +kernel
theorem dS_changeUnits_56 : decode cS_changeUnits 56 = .ok (.iload_n 3, 1) := by decide +kernel
theorem dS_changeUnits_57 : decode cS_changeUnits 57 = .ok (.iaload, 1) := by decide +kernel
theorem dS_changeUnits_58 : decode cS_changeUnits 58 = .ok (.iconst 3, 1) := by decide +kernel
theorem dS_changeUnits_59 : decode cS_changeUnits 59 = .ok (.if_icmp .ne 7, 3) := by decide +kernel
theorem dS_changeUnits_62 : decode cS_changeUnits 62 = .ok (.iconst 1, 1) := by decide +kernel
theorem dS_changeUnits_63 : decode cS_changeUnits 63 = .ok (.goto 4, 3) := by decide +kernel
theorem dS_changeUnits_66 : decode cS_changeUnits 66 = .ok (.iconst 0, 1) := by decide +kernel
theorem dS_changeUnits_67 : decode cS_changeUnits 67 = .ok (.istore 4, 2) := by decide +kernel
theorem dS_changeUnits_69 : decode cS_changeUnits 69 = .ok (.aload_n 0, 1) := by decide +kernel
theorem dS_changeUnits_70 : decode cS_changeUnits 70 = .ok (.iload_n 2, 1) := by decide +kernel
theorem dS_changeUnits_71 : decode cS_changeUnits 71 = .ok (.iload_n 3, 1) := by decide +kernel
theorem dS_changeUnits_72 : decode cS_changeUnits 72 = .ok (.iload 4, 2) := by decide +kernel
theorem dS_changeUnits_74 : decode cS_changeUnits 74 = .ok (.ifCond .eq 7, 3) := by decide +kernel
theorem dS_changeUnits_77 : decode cS_changeUnits 77 = .ok (.iconst 3, 1) := by decide +kernel
theorem dS_changeUnits_78 : decode cS_changeUnits 78 = .ok (.goto 5, 3) := by decide +kernel
theorem dS_changeUnits_81 : decode cS_changeUnits 81 = .ok (.bipush 11, 2) := by decide +kernel
theorem dS_changeUnits_83 : decode cS_changeUnits 83 = .ok (.invokevirtual 78, 3) := by decide +kernel
theorem dS_changeUnits_86 : decode cS_changeUnits 86 = .ok (.goto 32, 3) := by decide +kernel
theorem dS_changeUnits_89 : decode cS_changeUnits 89 = .ok (.aload_n 0, 1) := by decide +kernel
theorem dS_changeUnits_90 : decode cS_changeUnits 90 = .ok (.getfield 9, 3) := by decide +kernel
theorem dS_changeUnits_93 : decode cS_changeUnits 93 = .ok (.iload_n 2, 1) := by decide +kernel
theorem dS_changeUnits_94 : decode cS_changeUnits 94 = .ok (.iaload, 1) := by decide +kernel
theorem dS_changeUnits_95 : decode cS_changeUnits 95 = .ok (.iconst 4, 1) := by decide +kernel
theorem dS_changeUnits_96 : decode cS_changeUnits 96 = .ok (.if_icmp .eq 14, 3) := by decide +kernel
theorem dS_changeUnits_99 : decode cS_changeUnits 99 = .ok (.aload_n 0, 1) := by decide +kernel
theorem dS_changeUnits_100 : decode cS_changeUnits 100 = .ok (.getfield 9, 3) := by decide +kernel
theorem dS_changeUnits_103 : decode cS_changeUnits 103 = .ok (.iload_n 2, 1) := by decide +kernel
theorem dS_changeUnits_104 : decode cS_changeUnits 104 = .ok (.iaload, 1) := by decide +kernel
theorem dS_changeUnits_105 : decode cS_changeUnits 105 = .ok (.bipush 7, 2) := by decide +kernel
theorem dS_changeUnits_107 : decode cS_changeUnits 107 = .ok (.if_icmp .ne 11, 3) := by decide +kernel
theorem dS_changeUnits_110 : decode cS_changeUnits 110 = .ok (.aload_n 0, 1) := by decide +kernel
theorem dS_changeUnits_111 : decode cS_changeUnits 111 = .ok (.getfield 9, 3) := by decide +kernel
theorem dS_changeUnits_114 : decode cS_changeUnits 114 = .ok (.iload_n 2, 1) := by decide +kernel
theorem dS_changeUnits_115 : decode cS_changeUnits 115 = .ok (.bipush 11, 2) := by decide +kernel
theorem dS_changeUnits_117 : decode cS_changeUnits 117 = .ok (.iastore, 1) := by decide +kernel
theorem dS_changeUnits_118 : decode cS_changeUnits 118 = .ok (.iinc 2 1, 3) := by decide +kernel
theorem dS_changeUnits_121 : decode cS_changeUnits 121 = .ok (.goto (-119), 3) := by decide +kernel
theorem dS_changeUnits_124 : decode cS_changeUnits 124 = .ok (.return_, 1) := by decide +kernel
theorem dS_changeLeftNumbers_0 : decode cS_changeLeftNumbers 0 = .ok (.aload_n 0, 1) := by decide +kernel
theorem dS_changeLeftNumbers_1 : decode cS_changeLeftNumbers 1 = .ok (.getfield 9, 3) := by decide +kernel
theorem dS_changeLeftNumbers_4 : decode cS_changeLeftNumbers 4 = .ok (.iconst 0, 1) := by decide +kernel
theorem dS_changeLeftNumbers_5 : decode cS_changeLeftNumbers 5 = .ok (.iaload, 1) := by decide +kernel
theorem dS_changeLeftNumbers_6 : decode cS_changeLeftNumbers 6 = .ok (.istore_n 2, 1) := by decide +kernel
theorem dS_changeLeftNumbers_7 : decode cS_changeLeftNumbers 7 = .ok (.iconst 1, 1) := by decide +kernel
theorem dS_changeLeftNumbers_8 : decode cS_changeLeftNumbers 8 = .ok (.istore_n 3, 1) := by decide +kernel
theorem dS_changeLeftNumbers_9 : decode cS_changeLeftNumbers 9 = .ok (.iload_n 3, 1) := by decide +kernel
theorem dS_changeLeftNumbers_10 : decode cS_changeLeftNumbers 10 = .ok (.iload_n 1, 1) := by decide +kernel
theorem dS_changeLeftNumbers_11 : decode cS_changeLeftNumbers 11 = .ok (.if_icmp .gt 59, 3) := by decide +kernel
theorem dS_changeLeftNumbers_14 : decode cS_changeLeftNumbers 14 = .ok (.aload_n 0, 1) := by decide +kernel
theorem dS_changeLeftNumbers_15 : decode cS_changeLeftNumbers 15 = .ok (.getfield 9, 3) := by decide +kernel
theorem dS_changeLeftNumbers_18 : decode cS_changeLeftNumbers 18 = .ok (.iload_n 3, 1) := by decide +kernel
theorem dS_changeLeftNumbers_19 : decode cS_changeLeftNumbers 19 = .ok (.iaload, 1) := by decide +kernel
theorem dS_changeLeftNumbers_20 : decode cS_changeLeftNumbers 20 = .ok (.ifCond .eq 13, 3) := by decide +kernel
theorem dS_changeLeftNumbers_23 : decode cS_changeLeftNumbers 23 = .ok (.aload_n 0, 1) := by decide +kernel
theorem dS_changeLeftNumbers_24 : decode cS_changeLeftNumbers 24 = .ok (.getfield 9, 3) := by decide +kernel
theorem dS_changeLeftNumbers_27 : decode cS_changeLeftNumbers 27 = .ok (.iload_n 3, 1) := by decide +kernel
theorem dS_changeLeftNumbers_28 : decode cS_changeLeftNumbers 28 = .ok (.iaload, 1) := by decide +kernel
theorem dS_changeLeftNumbers_29 : decode cS_changeLeftNumbers 29 = .ok (.iconst 1, 1) := by decide +kernel
theorem dS_changeLeftNumbers_30 : decode cS_changeLeftNumbers 30 = .ok (.if_icmp .ne 13, 3) := by decide +kernel
theorem dS_changeLeftNumbers_33 : decode cS_changeLeftNumbers 33 = .ok (.aload_n 0, 1) := by decide +kernel
theorem dS_changeLeftNumbers_34 : decode cS_changeLeftNumbers 34 = .ok (.getfield 9, 3) := by decide +kernel
theorem dS_changeLeftNumbers_37 : decode cS_changeLeftNumbers 37 = .ok (.iload_n 3, 1) := by decide +kernel
theorem dS_changeLeftNumbers_38 : decode cS_changeLeftNumbers 38 = .ok (.iaload, 1) := by decide +kernel
theorem dS_changeLeftNumbers_39 : decode cS_changeLeftNumbers 39 = .ok (.istore_n 2, 1) := by decide +kernel
theorem dS_changeLeftNumbers_40 : decode cS_changeLeftNumbers 40 = .ok (.goto 24, 3) := by decide +kernel
theorem dS_changeLeftNumbers_43 : decode cS_changeLeftNumbers 43 = .ok (.aload_n 0, 1) := by decide +kernel
theorem dS_changeLeftNumbers_44 : decode cS_changeLeftNumbers 44 = .ok (.getfield 9, 3) := by decide +kernel
theorem dS_changeLeftNumbers_47 : decode cS_changeLeftNumbers 47 = .ok (.iload_n 3, 1) := by decide +kernel
theorem dS_changeLeftNumbers_48 : decode cS_changeLeftNumbers 48 = .ok (.iaload, 1) := by decide +kernel
theorem dS_changeLeftNumbers_49 : decode cS_changeLeftNumbers 49 = .ok (.iconst 3, 1) := by decide +kernel
theorem dS_changeLeftNumbers_50 : decode cS_changeLeftNumbers 50 = .ok (.if_icmp .ne 14, 3) := by decide +kernel
theorem dS_changeLeftNumbers_53 : decode cS_changeLeftNumbers 53 = .ok (.iload_n 2, 1) := by decide +kernel
theorem dS_changeLeftNumbers_54 : decode cS_changeLeftNumbers 54 = .ok (.ifCond .ne 10, 3) := by decide +kernel
theorem dS_changeLeftNumbers_57 : decode cS_changeLeftNumbers 57 = .ok (.aload_n 0, 1) := by decide +kernel
theorem dS_changeLeftNumbers_58 : decode cS_changeLeftNumbers 58 = .ok (.getfield 9, 3) := by decide +kernel
theorem dS_changeLeftNumbers_61 : decode cS_changeLeftNumbers 61 = .ok (.iload_n 3, 1) := by decide +kernel
theorem dS_changeLeftNumbers_62 : decode cS_changeLeftNumbers 62 = .ok (.iconst 0, 1) := by decide +kernel
theorem dS_changeLeftNumbers_63 : decode cS_changeLeftNumbers 63 = .ok (.iastore, 1) := by decide +kernel
theorem dS_changeLeftNumbers_64 : decode cS_changeLeftNumbers 64 = .ok (.iinc 3 1, 3) := by decide +kernel
theorem dS_changeLeftNumbers_67 : decode cS_changeLeftNumbers 67 = .ok (.goto (-58), 3) := by decide +kernel
theorem dS_changeLeftNumbers_70 : decode cS_changeLeftNumbers 70 = .ok (.return_, 1) := by decide +kernel
theorem dS_changeNeutrals_0 : decode cS_changeNeutrals 0 = .ok (.iconst 1, 1) := by decide +kernel
theorem dS_changeNeutrals_1 : decode cS_changeNeutrals 1 = .ok (.istore_n 2, 1) := by decide +kernel
theorem dS_changeNeutrals_2 : decode cS_changeNeutrals 2 = .ok (.iload_n 2, 1) := by decide +kernel
theorem dS_changeNeutrals_3 : decode cS_changeNeutrals 3 = .ok (.iload_n 1, 1) := by decide +kernel
theorem dS_changeNeutrals_4 : decode cS_changeNeutrals 4 = .ok (.if_icmp .gt 70, 3) := by decide +kernel
theorem dS_changeNeutrals_7 : decode cS_changeNeutrals 7 = .ok (.aload_n 0, 1) := by decide +kernel
theorem dS_changeNeutrals_8 : decode cS_changeNeutrals 8 = .ok (.getfield 9, 3) := by decide +kernel
theorem dS_changeNeutrals_11 : decode cS_changeNeutrals 11 = .ok (.iload_n 2, 1) := by decide +kernel
theorem dS_changeNeutrals_12 : decode cS_changeNeutrals 12 = .ok (.iaload, 1) := by decide +kernel
theorem dS_changeNeutrals_13 : decode cS_changeNeutrals 13 = .ok (.invokestatic 82, 3) := by decide +kernel
theorem dS_changeNeutrals_16 : decode cS_changeNeutrals 16 = .ok (.ifCond .eq 52, 3) := by decide +kernel
theorem dS_changeNeutrals_19 : decode cS_changeNeutrals 19 = .ok (.iload_n 2, 1) := by decide +kernel
theorem dS_changeNeutrals_20 : decode cS_changeNeutrals 20 = .ok (.istore_n 3, 1) := by decide +kernel
theorem dS_changeNeutrals_21 : decode cS_changeNeutrals 21 = .ok (.iload_n 3, 1) := by decide +kernel
theorem dS_changeNeutrals_22 : decode cS_changeNeutrals 22 = .ok (.iload_n 1, 1) := by decide +kernel
theorem dS_changeNeutrals_23 : decode cS_changeNeutrals 23 = .ok (.if_icmp .gt 21, 3) := by decide +kernel
theorem dS_changeNeutrals_26 : decode cS_changeNeutrals 26 = .ok (.aload_n 0, 1) := by decide +kernel
theorem dS_changeNeutrals_27 : decode cS_changeNeutrals 27 = .ok (.getfield 9, 3) := by decide +kernel
theorem dS_changeNeutrals_30 : decode cS_changeNeutrals 30 = .ok (.iload_n 3, 1) := by decide +kernel
theorem dS_changeNeutrals_31 : decode cS_changeNeutrals 31 = .ok (.iaload, 1) := by decide +kernel
theorem dS_changeNeutrals_32 : decode cS_changeNeutrals 32 = .ok (.invokestatic 82, 3) := by decide +kernel
theorem dS_changeNeutrals_35 : decode cS_changeNeutrals 35 = .ok (.ifCond .eq 9, 3) := by decide +kernel
theorem dS_changeNeutrals_38 : decode cS_changeNeutrals 38 = .ok (.iinc 3 1, 3) := by decide +kernel
theorem dS_changeNeutrals_41 : decode cS_changeNeutrals 41 = .ok (.goto (-20), 3) := by decide +kernel
theorem dS_changeNeutrals_44 : decode cS_changeNeutrals 44 = .ok (.aload_n 0, 1) := by decide +kernel
theorem dS_changeNeutrals_45 : decode cS_changeNeutrals 45 = .ok (.iload_n 2, 1) := by decide +kernel
theorem dS_changeNeutrals_46 : decode cS_changeNeutrals 46 = .ok (.iload_n 3, 1) := by decide +kernel
theorem dS_changeNeutrals_47 : decode cS_changeNeutrals 47 = .ok (.aload_n 0, 1) := by decide +kernel
theorem dS_changeNeutrals_48 : decode cS_changeNeutrals 48 = .ok (.aload_n 0, 1) := by decide +kernel
theorem dS_changeNeutrals_49 : decode cS_changeNeutrals 49 = .ok (.getfield 9, 3) := by decide +kernel
theorem dS_changeNeutrals_52 : decode cS_changeNeutrals 52 = .ok (.iload_n 2, 1) := by decide +kernel
theorem dS_changeNeutrals_53 : decode cS_changeNeutrals 53 = .ok (.iconst 1, 1) := by decide +kernel
theorem dS_changeNeutrals_54 : decode cS_changeNeutrals 54 = .ok (.isub, 1) := by decide +kernel
theorem dS_changeNeutrals_55 : decode cS_changeNeutrals 55 = .ok (.iaload, 1) := by decide +kernel
theorem dS_changeNeutrals_56 : decode cS_changeNeutrals 56 = .ok (.aload_n 0, 1) := by decide +kernel
theorem dS_changeNeutrals_57 : decode cS_changeNeutrals 57 = .ok (.getfield 9, 3) := by decide +kernel
theorem dS_changeNeutrals_60 : decode cS_changeNeutrals 60 = .ok (.iload_n 3, 1) := by decide +kernel
theorem dS_changeNeutrals_61 : decode cS_changeNeutrals 61 = .ok (.iaload, 1) := by decide +kernel
theorem dS_changeNeutrals_62 : decode cS_changeNeutrals 62 = .ok (.invokevirtual 85, 3) := by decide +kernel
theorem dS_changeNeutrals_65 : decode cS_changeNeutrals 65 = .ok (.invokevirtual 78, 3) := by decide +kernel
theorem dS_changeNeutrals_68 : decode cS_changeNeutrals 68 = .ok (.iinc 2 1, 3) := by decide +kernel
theorem dS_changeNeutrals_71 : decode cS_changeNeutrals 71 = .ok (.goto (-69), 3) := by decide +kernel
theorem dS_changeNeutrals_74 : decode cS_changeNeutrals 74 = .ok (.return_, 1) := by decide +kernel
theorem dS_kindBetween_0 : decode cS_kindBetween 0 = .ok (.iload_n 1, 1) := by decide +kernel
theorem dS_kindBetween_1 : decode cS_kindBetween 1 = .ok (.ifCond .ne 9, 3) := by decide +kernel
theorem dS_kindBetween_4 : decode cS_kindBetween 4 = .ok (.iload_n 2, 1) := by decide +kernel
theorem dS_kindBetween_5 : decode cS_kindBetween 5 = .ok (.ifCond .ne 5, 3) := by decide +kernel
theorem dS_kindBetween_8 : decode cS_kindBetween 8 = .ok (.iconst 0, 1) := by decide +kernel
theorem dS_kindBetween_9 : decode cS_kindBetween 9 = .ok (.ireturn, 1) := by decide +kernel
theorem dS_kindBetween_10 : decode cS_kindBetween 10 = .ok (.iload_n 1, 1) := by decide +kernel
theorem dS_kindBetween_11 : decode cS_kindBetween 11 = .ok (.invokestatic 88, 3) := by decide +kernel
theorem dS_kindBetween_14 : decode cS_kindBetween 14 = .ok (.ifCond .eq 14, 3) := by decide +kernel
theorem dS_kindBetween_17 : decode cS_kindBetween 17 = .ok (.iload_n 2, 1) := by decide +kernel
theorem dS_kindBetween_18 : decode cS_kindBetween 18 = .ok (.invokestatic 88, 3) := by decide +kernel
theorem dS_kindBetween_21 : decode cS_kindBetween 21 = .ok (.ifCond .eq 7, 3) := by decide +kernel
theorem dS_kindBetween_24 : decode cS_kindBetween 24 = .ok (.iconst 1, 1) := by decide +kernel
theorem dS_kindBetween_25 : decode cS_kindBetween 25 = .ok (.goto 9, 3) := by decide +kernel
theorem dS_kindBetween_28 : decode cS_kindBetween 28 = .ok (.aload_n 0, 1) := by decide +kernel
theorem dS_kindBetween_29 : decode cS_kindBetween 29 = .ok (.getfield 9, 3) := by decide +kernel
theorem dS_kindBetween_32 : decode cS_kindBetween 32 = .ok (.iconst 0, 1) := by decide +kernel
theorem dS_kindBetween_33 : decode cS_kindBetween 33 = .ok (.iaload, 1) := by decide +kernel
theorem dS_kindBetween_34 : decode cS_kindBetween 34 = .ok (.ireturn, 1) := by decide +kernel
theorem dS_fillKinds_0 : decode cS_fillKinds 0 = .ok (.iload_n 1, 1) := by decide +kernel
theorem dS_fillKinds_1 : decode cS_fillKinds 1 = .ok (.istore 4, 2) := by decide +kernel
theorem dS_fillKinds_3 : decode cS_fillKinds 3 = .ok (.iload 4, 2) := by decide +kernel
theorem dS_fillKinds_5 : decode cS_fillKinds 5 = .ok (.iload_n 2, 1) := by decide +kernel
theorem dS_fillKinds_6 : decode cS_fillKinds 6 = .ok (.if_icmp .ge 17, 3) := by decide +kernel
theorem dS_fillKinds_9 : decode cS_fillKinds 9 = .ok (.aload_n 0, 1) := by decide +kernel
theorem dS_fillKinds_10 : decode cS_fillKinds 10 = .ok (.getfield 9, 3) := by decide +kernel
theorem dS_fillKinds_13 : decode cS_fillKinds 13 = .ok (.iload 4, 2) := by decide +kernel
theorem dS_fillKinds_15 : decode cS_fillKinds 15 = .ok (.iload_n 3, 1) := by decide +kernel
theorem dS_fillKinds_16 : decode cS_fillKinds 16 = .ok (.iastore, 1) := by decide +kernel
theorem dS_fillKinds_17 : decode cS_fillKinds 17 = .ok (.iinc 4 1, 3) := by decide +kernel
theorem dS_fillKinds_20 : decode cS_fillKinds 20 = .ok (.goto (-17), 3) := by decide +kernel
theorem dS_fillKinds_23 : decode cS_fillKinds 23 = .ok (.return_, 1) := by decide +kernel
theorem dS_levelFor_0 : decode cS_levelFor 0 = .ok (.iload_n 0, 1) := by decide +kernel
theorem dS_levelFor_1 : decode cS_levelFor 1 = .ok (.iconst 1, 1) := by decide +kernel
theorem dS_levelFor_2 : decode cS_levelFor 2 = .ok (.if_icmp .ne 5, 3) := by decide +kernel
theorem dS_levelFor_5 : decode cS_levelFor 5 = .ok (.iconst 1, 1) := by decide +kernel
theorem dS_levelFor_6 : decode cS_levelFor 6 = .ok (.ireturn, 1) := by decide +kernel
theorem dS_levelFor_7 : decode cS_levelFor 7 = .ok (.iload_n 0, 1) := by decide +kernel
theorem dS_levelFor_8 : decode cS_levelFor 8 = .ok (.ifCond .ne 11, 3) := by decide +kernel
theorem dS_levelFor_11 : decode cS_levelFor 11 = .ok (.iload_n 1, 1) := by decide +kernel
theorem dS_levelFor_12 : decode cS_levelFor 12 = .ok (.ifCond .ne 7, 3) := by decide +kernel
theorem dS_levelFor_15 : decode cS_levelFor 15 = .ok (.iconst 0, 1) := by decide +kernel
theorem dS_levelFor_16 : decode cS_levelFor 16 = .ok (.goto 4, 3) := by decide +kernel
theorem dS_levelFor_19 : decode cS_levelFor 19 = .ok (.iconst 2, 1) := by decide +kernel
theorem dS_levelFor_20 : decode cS_levelFor 20 = .ok (.ireturn, 1) := by decide +kernel
theorem dS_resetGaps_0 : decode cS_resetGaps 0 = .ok (.iconst 1, 1) := by decide +kernel
theorem dS_resetGaps_1 : decode cS_resetGaps 1 = .ok (.istore 4, 2) := by decide +kernel
theorem dS_resetGaps_3 : decode cS_resetGaps 3 = .ok (.aload_n 2, 1) := by decide +kernel
theorem dS_resetGaps_4 : decode cS_resetGaps 4 = .ok (.invokevirtual 21, 3) := by decide +kernel
theorem dS_resetGaps_7 : decode cS_resetGaps 7 = .ok (.iconst 1, 1) := by decide +kernel
theorem dS_resetGaps_8 : decode cS_resetGaps 8 = .ok (.isub, 1) := by decide +kernel
theorem dS_resetGaps_9 : decode cS_resetGaps 9 = .ok (.istore 5, 2) := by decide +kernel
theorem dS_resetGaps_11 : decode cS_resetGaps 11 = .ok (.iload 5, 2) := by decide +kernel
theorem dS_resetGaps_13 : decode cS_resetGaps 13 = .ok (.ifCond .lt 60, 3) := by decide +kernel
theorem dS_resetGaps_16 : decode cS_resetGaps 16 = .ok (.aload_n 1, 1) := by decide +kernel
theorem dS_resetGaps_17 : decode cS_resetGaps 17 = .ok (.aload_n 2, 1) := by decide +kernel
theorem dS_resetGaps_18 : decode cS_resetGaps 18 = .ok (.iload 5, 2) := by decide +kernel
theorem dS_resetGaps_20 : decode cS_resetGaps 20 = .ok (.invokevirtual 65, 3) := by decide +kernel
theorem dS_resetGaps_23 : decode cS_resetGaps 23 = .ok (.invokevirtual 69, 3) := by decide +kernel
theorem dS_resetGaps_26 : decode cS_resetGaps 26 = .ok (.istore 6, 2) := by decide +kernel
theorem dS_resetGaps_28 : decode cS_resetGaps 28 = .ok (.iload 6, 2) := by decide +kernel
theorem dS_resetGaps_30 : decode cS_resetGaps 30 = .ok (.bipush 10, 2) := by decide +kernel
theorem dS_resetGaps_32 : decode cS_resetGaps 32 = .ok (.if_icmp .eq 15, 3) := by decide +kernel
theorem dS_resetGaps_35 : decode cS_resetGaps 35 = .ok (.iload 6, 2) := by decide +kernel
theorem dS_resetGaps_37 : decode cS_resetGaps 37 = .ok (.bipush 9, 2) := by decide +kernel
theorem dS_resetGaps_39 : decode cS_resetGaps 39 = .ok (.if_icmp .ne 12, 3) := by decide +kernel
theorem dS_resetGaps_42 : decode cS_resetGaps 42 = .ok (.iload 4, 2) := by decide +kernel
theorem dS_resetGaps_44 : decode cS_resetGaps 44 = .ok (.ifCond .eq 7, 3) := by decide +kernel
theorem dS_resetGaps_47 : decode cS_resetGaps 47 = .ok (.iconst 1, 1) := by decide +kernel
theorem dS_resetGaps_48 : decode cS_resetGaps 48 = .ok (.goto 4, 3) := by decide +kernel
theorem dS_resetGaps_51 : decode cS_resetGaps 51 = .ok (.iconst 0, 1) := by decide +kernel
theorem dS_resetGaps_52 : decode cS_resetGaps 52 = .ok (.istore 4, 2) := by decide +kernel
theorem dS_resetGaps_54 : decode cS_resetGaps 54 = .ok (.iload 4, 2) := by decide +kernel
theorem dS_resetGaps_56 : decode cS_resetGaps 56 = .ok (.ifCond .eq 11, 3) := by decide +kernel
theorem dS_resetGaps_59 : decode cS_resetGaps 59 = .ok (.aload_n 0, 1) := by decide +kernel
theorem dS_resetGaps_60 : decode cS_resetGaps 60 = .ok (.getfield 15, 3) := by decide +kernel
theorem dS_resetGaps_63 : decode cS_resetGaps 63 = .ok (.iload 5, 2) := by decide +kernel
theorem dS_resetGaps_65 : decode cS_resetGaps 65 = .ok (.iload_n 3, 1) := by decide +kernel
theorem dS_resetGaps_66 : decode cS_resetGaps 66 = .ok (.iastore, 1) := by decide +kernel
theorem dS_resetGaps_67 : decode cS_resetGaps 67 = .ok (.iinc 5 (-1), 3) := by decide +kernel
theorem dS_resetGaps_70 : decode cS_resetGaps 70 = .ok (.goto (-59), 3) := by decide +kernel
theorem dS_resetGaps_73 : decode cS_resetGaps 73 = .ok (.return_, 1) := by decide +kernel
theorem dS_turnRows_0 : decode cS_turnRows 0 = .ok (.iconst 0, 1) := by decide +kernel
theorem dS_turnRows_1 : decode cS_turnRows 1 = .ok (.istore_n 3, 1) := by decide +kernel
theorem dS_turnRows_2 : decode cS_turnRows 2 = .ok (.iconst 0, 1) := by decide +kernel
theorem dS_turnRows_3 : decode cS_turnRows 3 = .ok (.istore 4, 2) := by decide +kernel
theorem dS_turnRows_5 : decode cS_turnRows 5 = .ok (.iload 4, 2) := by decide +kernel
theorem dS_turnRows_7 : decode cS_turnRows 7 = .ok (.iload_n 1, 1) := by decide +kernel
theorem dS_turnRows_8 : decode cS_turnRows 8 = .ok (.if_icmp .ge 56, 3) := by decide +kernel
theorem dS_turnRows_11 : decode cS_turnRows 11 = .ok (.aload_n 0, 1) := by decide +kernel
theorem dS_turnRows_12 : decode cS_turnRows 12 = .ok (.getfield 15, 3) := by decide +kernel
theorem dS_turnRows_15 : decode cS_turnRows 15 = .ok (.iload 4, 2) := by decide +kernel
theorem dS_turnRows_17 : decode cS_turnRows 17 = .ok (.iaload, 1) := by decide +kernel
theorem dS_turnRows_18 : decode cS_turnRows 18 = .ok (.iload_n 2, 1) := by decide +kernel
theorem dS_turnRows_19 : decode cS_turnRows 19 = .ok (.if_icmp .ge 11, 3) := by decide +kernel
theorem dS_turnRows_22 : decode cS_turnRows 22 = .ok (.iload 4, 2) := by decide +kernel
theorem dS_turnRows_24 : decode cS_turnRows 24 = .ok (.iconst 1, 1) := by decide +kernel
theorem dS_turnRows_25 : decode cS_turnRows 25 = .ok (.iadd, 1) := by decide +kernel
theorem dS_turnRows_26 : decode cS_turnRows 26 = .ok (.istore_n 3, 1) := by decide +kernel
theorem dS_turnRows_27 : decode cS_turnRows 27 = .ok (.goto 31, 3) := by decide +kernel
theorem dS_turnRows_30 : decode cS_turnRows 30 = .ok (.iload 4, 2) := by decide +kernel
theorem dS_turnRows_32 : decode cS_turnRows 32 = .ok (.iconst 1, 1) := by decide +kernel
theorem dS_turnRows_33 : decode cS_turnRows 33 = .ok (.iadd, 1) := by decide +kernel
theorem dS_turnRows_34 : decode cS_turnRows 34 = .ok (.iload_n 1, 1) := by decide +kernel
theorem dS_turnRows_35 : decode cS_turnRows 35 = .ok (.if_icmp .eq 16, 3) := by decide +kernel
theorem dS_turnRows_38 : decode cS_turnRows 38 = .ok (.aload_n 0, 1) := by decide +kernel
theorem dS_turnRows_39 : decode cS_turnRows 39 = .ok (.getfield 15, 3) := by decide +kernel
theorem dS_turnRows_42 : decode cS_turnRows 42 = .ok (.iload 4, 2) := by decide +kernel
theorem dS_turnRows_44 : decode cS_turnRows 44 = .ok (.iconst 1, 1) := by decide +kernel
theorem dS_turnRows_45 : decode cS_turnRows 45 = .ok (.iadd, 1) := by decide +kernel
theorem dS_turnRows_46 : decode cS_turnRows 46 = .ok (.iaload, 1) := by decide +kernel
theorem dS_turnRows_47 : decode cS_turnRows 47 = .ok (.iload_n 2, 1) := by decide +kernel
theorem dS_turnRows_48 : decode cS_turnRows 48 = .ok (.if_icmp .ge 10, 3) := by decide +kernel
theorem dS_turnRows_51 : decode cS_turnRows 51 = .ok (.aload_n 0, 1) := by decide +kernel
theorem dS_turnRows_52 : decode cS_turnRows 52 = .ok (.iload_n 3, 1) := by decide +kernel
theorem dS_turnRows_53 : decode cS_turnRows 53 = .ok (.iload 4, 2) := by decide +kernel
theorem dS_turnRows_55 : decode cS_turnRows 55 = .ok (.invokevirtual 91, 3) := by decide +kernel
theorem dS_turnRows_58 : decode cS_turnRows 58 = .ok (.iinc 4 1, 3) := by decide +kernel
theorem dS_turnRows_61 : decode cS_turnRows 61 = .ok (.goto (-56), 3) := by decide +kernel
theorem dS_turnRows_64 : decode cS_turnRows 64 = .ok (.return_, 1) := by decide +kernel
theorem dS_turnRound_0 : decode cS_turnRound 0 = .ok (.iload_n 1, 1) := by decide +kernel
theorem dS_turnRound_1 : decode cS_turnRound 1 = .ok (.istore_n 3, 1) := by decide +kernel
theorem dS_turnRound_2 : decode cS_turnRound 2 = .ok (.iload_n 2, 1) := by decide +kernel
theorem dS_turnRound_3 : decode cS_turnRound 3 = .ok (.istore 4, 2) := by decide +kernel
theorem dS_turnRound_5 : decode cS_turnRound 5 = .ok (.iload_n 3, 1) := by decide +kernel
theorem dS_turnRound_6 : decode cS_turnRound 6 = .ok (.iload 4, 2) := by decide +kernel
theorem dS_turnRound_8 : decode cS_turnRound 8 = .ok (.if_icmp .ge 42, 3) := by decide +kernel
theorem dS_turnRound_11 : decode cS_turnRound 11 = .ok (.aload_n 0, 1) := by decide +kernel
theorem dS_turnRound_12 : decode cS_turnRound 12 = .ok (.getfield 18, 3) := by decide +kernel
theorem dS_turnRound_15 : decode cS_turnRound 15 = .ok (.iload_n 3, 1) := by decide +kernel
theorem dS_turnRound_16 : decode cS_turnRound 16 = .ok (.iaload, 1) := by decide +kernel
theorem dS_turnRound_17 : decode cS_turnRound 17 = .ok (.istore 5, 2) := by decide +kernel
theorem dS_turnRound_19 : decode cS_turnRound 19 = .ok (.aload_n 0, 1) := by decide +kernel
theorem dS_turnRound_20 : decode cS_turnRound 20 = .ok (.getfield 18, 3) := by decide +kernel
theorem dS_turnRound_23 : decode cS_turnRound 23 = .ok (.iload_n 3, 1) := by decide +kernel
theorem dS_turnRound_24 : decode cS_turnRound 24 = .ok (.aload_n 0, 1) := by decide +kernel
theorem dS_turnRound_25 : decode cS_turnRound 25 = .ok (.getfield 18, 3) := by decide +kernel
theorem dS_turnRound_28 : decode cS_turnRound 28 = .ok (.iload 4, 2) := by decide +kernel
theorem dS_turnRound_30 : decode cS_turnRound 30 = .ok (.iaload, 1) := by decide +kernel
theorem dS_turnRound_31 : decode cS_turnRound 31 = .ok (.iastore, 1) := by decide +kernel
theorem dS_turnRound_32 : decode cS_turnRound 32 = .ok (.aload_n 0, 1) := by decide +kernel
theorem dS_turnRound_33 : decode cS_turnRound 33 = .ok (.getfield 18, 3) := by decide +kernel
theorem dS_turnRound_36 : decode cS_turnRound 36 = .ok (.iload 4, 2) := by decide +kernel
theorem dS_turnRound_38 : decode cS_turnRound 38 = .ok (.iload 5, 2) := by decide +kernel
theorem dS_turnRound_40 : decode cS_turnRound 40 = .ok (.iastore, 1) := by decide +kernel
theorem dS_turnRound_41 : decode cS_turnRound 41 = .ok (.iinc 3 1, 3) := by decide +kernel
theorem dS_turnRound_44 : decode cS_turnRound 44 = .ok (.iinc 4 (-1), 3) := by decide +kernel
theorem dS_turnRound_47 : decode cS_turnRound 47 = .ok (.goto (-42), 3) := by decide +kernel
theorem dS_turnRound_50 : decode cS_turnRound 50 = .ok (.return_, 1) := by decide +kernel
theorem dC_endsBefore_0 : decode cC_endsBefore 0 = .ok (.iload_n 2, 1) := by decide +kernel
theorem dC_endsBefore_1 : decode cC_endsBefore 1 = .ok (.ifCond .le 11, 3) := by decide +kernel
theorem dC_endsBefore_4 : decode cC_endsBefore 4 = .ok (.iload_n 2, 1) := by decide +kernel
theorem dC_endsBefore_5 : decode cC_endsBefore 5 = .ok (.aload_n 1, 1) := by decide +kernel
theorem dC_endsBefore_6 : decode cC_endsBefore 6 = .ok (.invokevirtual 7, 3) := by decide +kernel
theorem dC_endsBefore_9 : decode cC_endsBefore 9 = .ok (.if_icmp .lt 5, 3) := by decide +kernel
theorem dC_endsBefore_12 : decode cC_endsBefore 12 = .ok (.iconst 1, 1) := by decide +kernel
theorem dC_endsBefore_13 : decode cC_endsBefore 13 = .ok (.ireturn, 1) := by decide +kernel
theorem dC_endsBefore_14 : decode cC_endsBefore 14 = .ok (.aload_n 0, 1) := by decide +kernel
theorem dC_endsBefore_15 : decode cC_endsBefore 15 = .ok (.aload_n 1, 1) := by decide +kernel
theorem dC_endsBefore_16 : decode cC_endsBefore 16 = .ok (.iload_n 2, 1) := by decide +kernel
theorem dC_endsBefore_17 : decode cC_endsBefore 17 = .ok (.iconst 1, 1) := by decide +kernel
theorem dC_endsBefore_18 : decode cC_endsBefore 18 = .ok (.isub, 1) := by decide +kernel
theorem dC_endsBefore_19 : decode cC_endsBefore 19 = .ok (.invokevirtual 13, 3) := by decide +kernel
theorem dC_endsBefore_22 : decode cC_endsBefore 22 = .ok (.invokevirtual 17, 3) := by decide +kernel
theorem dC_endsBefore_25 : decode cC_endsBefore 25 = .ok (.istore_n 3, 1) := by decide +kernel
theorem dC_endsBefore_26 : decode cC_endsBefore 26 = .ok (.aload_n 0, 1) := by decide +kernel
theorem dC_endsBefore_27 : decode cC_endsBefore 27 = .ok (.aload_n 1, 1) := by decide +kernel
theorem dC_endsBefore_28 : decode cC_endsBefore 28 = .ok (.iload_n 2, 1) := by decide +kernel
theorem dC_endsBefore_29 : decode cC_endsBefore 29 = .ok (.invokevirtual 13, 3) := by decide +kernel
theorem dC_endsBefore_32 : decode cC_endsBefore 32 = .ok (.invokevirtual 17, 3) := by decide +kernel
theorem dC_endsBefore_35 : decode cC_endsBefore 35 = .ok (.istore 4, 2) := by decide +kernel
theorem dC_endsBefore_37 : decode cC_endsBefore 37 = .ok (.iload_n 3, 1) := by decide +kernel
theorem dC_endsBefore_38 : decode cC_endsBefore 38 = .ok (.iconst 1, 1) := by decide +kernel
theorem dC_endsBefore_39 : decode cC_endsBefore 39 = .ok (.if_icmp .ne 11, 3) := by decide +kernel
theorem dC_endsBefore_42 : decode cC_endsBefore 42 = .ok (.iload 4, 2) := by decide +kernel
theorem dC_endsBefore_44 : decode cC_endsBefore 44 = .ok (.iconst 2, 1) := by decide +kernel
theorem dC_endsBefore_45 : decode cC_endsBefore 45 = .ok (.if_icmp .ne 5, 3) := by decide +kernel
theorem dC_endsBefore_48 : decode cC_endsBefore 48 = .ok (.iconst 0, 1) := by decide +kernel
theorem dC_endsBefore_49 : decode cC_endsBefore 49 = .ok (.ireturn, 1) := by decide +kernel
theorem dC_endsBefore_50 : decode cC_endsBefore 50 = .ok (.iload_n 3, 1) := by decide +kernel
theorem dC_endsBefore_51 : decode cC_endsBefore 51 = .ok (.invokestatic 24, 3) := by decide +kernel
theorem dC_endsBefore_54 : decode cC_endsBefore 54 = .ok (.ifCond .ne 11, 3) := by decide +kernel
theorem dC_endsBefore_57 : decode cC_endsBefore 57 = .ok (.iload 4, 2) := by decide +kernel
theorem dC_endsBefore_59 : decode cC_endsBefore 59 = .ok (.invokestatic 24, 3) := by decide +kernel
theorem dC_endsBefore_62 : decode cC_endsBefore 62 = .ok (.ifCond .eq 5, 3) := by decide +kernel
theorem dC_endsBefore_65 : decode cC_endsBefore 65 = .ok (.iconst 1, 1) := by decide +kernel
theorem dC_endsBefore_66 : decode cC_endsBefore 66 = .ok (.ireturn, 1) := by decide +kernel
theorem dC_endsBefore_67 : decode cC_endsBefore 67 = .ok (.aload_n 1, 1) := by decide +kernel
theorem dC_endsBefore_68 : decode cC_endsBefore 68 = .ok (.iload_n 2, 1) := by decide +kernel
theorem dC_endsBefore_69 : decode cC_endsBefore 69 = .ok (.iconst 1, 1) := by decide +kernel
theorem dC_endsBefore_70 : decode cC_endsBefore 70 = .ok (.isub, 1) := by decide +kernel
theorem dC_endsBefore_71 : decode cC_endsBefore 71 = .ok (.invokevirtual 13, 3) := by decide +kernel
theorem dC_endsBefore_74 : decode cC_endsBefore 74 = .ok (.aload_n 1, 1) := by decide +kernel
theorem dC_endsBefore_75 : decode cC_endsBefore 75 = .ok (.iload_n 2, 1) := by decide +kernel
theorem dC_endsBefore_76 : decode cC_endsBefore 76 = .ok (.invokevirtual 13, 3) := by decide +kernel
theorem dC_endsBefore_79 : decode cC_endsBefore 79 = .ok (.invokestatic 28, 3) := by decide +kernel
theorem dC_endsBefore_82 : decode cC_endsBefore 82 = .ok (.ifCond .ne 34, 3) := by decide +kernel
theorem dC_endsBefore_85 : decode cC_endsBefore 85 = .ok (.iload_n 3, 1) := by decide +kernel
theorem dC_endsBefore_86 : decode cC_endsBefore 86 = .ok (.iload 4, 2) := by decide +kernel
theorem dC_endsBefore_88 : decode cC_endsBefore 88 = .ok (.invokestatic 32, 3) := by decide +kernel
theorem dC_endsBefore_91 : decode cC_endsBefore 91 = .ok (.ifCond .ne 25, 3) := by decide +kernel
theorem dC_endsBefore_94 : decode cC_endsBefore 94 = .ok (.aload_n 0, 1) := by decide +kernel
theorem dC_endsBefore_95 : decode cC_endsBefore 95 = .ok (.aload_n 1, 1) := by decide +kernel
theorem dC_endsBefore_96 : decode cC_endsBefore 96 = .ok (.iload_n 2, 1) := by decide +kernel
theorem dC_endsBefore_97 : decode cC_endsBefore 97 = .ok (.invokestatic 35, 3) := by decide +kernel
theorem dC_endsBefore_100 : decode cC_endsBefore 100 = .ok (.ifCond .ne 16, 3) := by decide +kernel
theorem dC_endsBefore_103 : decode cC_endsBefore 103 = .ok (.aload_n 0, 1) := by decide +kernel
theorem dC_endsBefore_104 : decode cC_endsBefore 104 = .ok (.aload_n 1, 1) := by decide +kernel
theorem dC_endsBefore_105 : decode cC_endsBefore 105 = .ok (.iload_n 2, 1) := by decide +kernel
theorem dC_endsBefore_106 : decode cC_endsBefore 106 = .ok (.invokestatic 39, 3) := by decide +kernel
theorem dC_endsBefore_109 : decode cC_endsBefore 109 = .ok (.ifCond .ne 7, 3) := by decide +kernel
theorem dC_endsBefore_112 : decode cC_endsBefore 112 = .ok (.iconst 1, 1) := by decide +kernel
theorem dC_endsBefore_113 : decode cC_endsBefore 113 = .ok (.goto 4, 3) := by decide +kernel
theorem dC_endsBefore_116 : decode cC_endsBefore 116 = .ok (.iconst 0, 1) := by decide +kernel
theorem dC_endsBefore_117 : decode cC_endsBefore 117 = .ok (.ireturn, 1) := by decide +kernel
theorem dC_standsAlone_0 : decode cC_standsAlone 0 = .ok (.iload_n 0, 1) := by decide +kernel
theorem dC_standsAlone_1 : decode cC_standsAlone 1 = .ok (.iconst 1, 1) := by decide +kernel
theorem dC_standsAlone_2 : decode cC_standsAlone 2 = .ok (.if_icmp .eq 13, 3) := by decide +kernel
theorem dC_standsAlone_5 : decode cC_standsAlone 5 = .ok (.iload_n 0, 1) := by decide +kernel
theorem dC_standsAlone_6 : decode cC_standsAlone 6 = .ok (.iconst 2, 1) := by decide +kernel
theorem dC_standsAlone_7 : decode cC_standsAlone 7 = .ok (.if_icmp .eq 8, 3) := by decide +kernel
theorem dC_standsAlone_10 : decode cC_standsAlone 10 = .ok (.iload_n 0, 1) := by decide +kernel
theorem dC_standsAlone_11 : decode cC_standsAlone 11 = .ok (.iconst 3, 1) := by decide +kernel
theorem dC_standsAlone_12 : decode cC_standsAlone 12 = .ok (.if_icmp .ne 7, 3) := by decide +kernel
theorem dC_standsAlone_15 : decode cC_standsAlone 15 = .ok (.iconst 1, 1) := by decide +kernel
theorem dC_standsAlone_16 : decode cC_standsAlone 16 = .ok (.goto 4, 3) := by decide +kernel
theorem dC_standsAlone_19 : decode cC_standsAlone 19 = .ok (.iconst 0, 1) := by decide +kernel
theorem dC_standsAlone_20 : decode cC_standsAlone 20 = .ok (.ireturn, 1) := by decide +kernel
theorem dC_staysInSyllable_0 : decode cC_staysInSyllable 0 = .ok (.iload_n 0, 1) := by decide +kernel
theorem dC_staysInSyllable_1 : decode cC_staysInSyllable 1 = .ok (.invokestatic 42, 3) := by decide +kernel
theorem dC_staysInSyllable_4 : decode cC_staysInSyllable 4 = .ok (.ifCond .eq 30, 3) := by decide +kernel
theorem dC_staysInSyllable_7 : decode cC_staysInSyllable 7 = .ok (.iload_n 1, 1) := by decide +kernel
theorem dC_staysInSyllable_8 : decode cC_staysInSyllable 8 = .ok (.invokestatic 42, 3) := by decide +kernel
theorem dC_staysInSyllable_11 : decode cC_staysInSyllable 11 = .ok (.ifCond .ne 17, 3) := by decide +kernel
theorem dC_staysInSyllable_14 : decode cC_staysInSyllable 14 = .ok (.iload_n 1, 1) := by decide +kernel
theorem dC_staysInSyllable_15 : decode cC_staysInSyllable 15 = .ok (.invokestatic 45, 3) := by decide +kernel
theorem dC_staysInSyllable_18 : decode cC_staysInSyllable 18 = .ok (.ifCond .ne 10, 3) := by decide +kernel
theorem dC_staysInSyllable_21 : decode cC_staysInSyllable 21 = .ok (.iload_n 1, 1) := by decide +kernel
theorem dC_staysInSyllable_22 : decode cC_staysInSyllable 22 = .ok (.invokestatic 48, 3) := by decide +kernel
theorem dC_staysInSyllable_25 : decode cC_staysInSyllable 25 = .ok (.ifCond .eq 7, 3) := by decide +kernel
theorem dC_staysInSyllable_28 : decode cC_staysInSyllable 28 = .ok (.iconst 1, 1) := by decide +kernel
theorem dC_staysInSyllable_29 : decode cC_staysInSyllable 29 = .ok (.goto 4, 3) := by decide +kernel
theorem dC_staysInSyllable_32 : decode cC_staysInSyllable 32 = .ok (.iconst 0, 1) := by decide +kernel
theorem dC_staysInSyllable_33 : decode cC_staysInSyllable 33 = .ok (.ireturn, 1) := by decide +kernel
theorem dC_staysInSyllable_34 : decode cC_staysInSyllable 34 = .ok (.iload_n 0, 1) := by decide +kernel
theorem dC_staysInSyllable_35 : decode cC_staysInSyllable 35 = .ok (.invokestatic 45, 3) := by decide +kernel
theorem dC_staysInSyllable_38 : decode cC_staysInSyllable 38 = .ok (.ifCond .ne 17, 3) := by decide +kernel
theorem dC_staysInSyllable_41 : decode cC_staysInSyllable 41 = .ok (.iload_n 0, 1) := by decide +kernel
theorem dC_staysInSyllable_42 : decode cC_staysInSyllable 42 = .ok (.invokestatic 48, 3) := by decide +kernel
theorem dC_staysInSyllable_45 : decode cC_staysInSyllable 45 = .ok (.ifCond .eq 30, 3) := by decide +kernel
theorem dC_staysInSyllable_48 : decode cC_staysInSyllable 48 = .ok (.iload_n 0, 1) := by decide +kernel
theorem dC_staysInSyllable_49 : decode cC_staysInSyllable 49 = .ok (.invokestatic 51, 3) := by decide +kernel
theorem dC_staysInSyllable_52 : decode cC_staysInSyllable 52 = .ok (.ifCond .ne 23, 3) := by decide +kernel
theorem dC_staysInSyllable_55 : decode cC_staysInSyllable 55 = .ok (.iload_n 1, 1) := by decide +kernel
theorem dC_staysInSyllable_56 : decode cC_staysInSyllable 56 = .ok (.invokestatic 45, 3) := by decide +kernel
theorem dC_staysInSyllable_59 : decode cC_staysInSyllable 59 = .ok (.ifCond .ne 10, 3) := by decide +kernel
theorem dC_staysInSyllable_62 : decode cC_staysInSyllable 62 = .ok (.iload_n 1, 1) := by decide +kernel
theorem dC_staysInSyllable_63 : decode cC_staysInSyllable 63 = .ok (.invokestatic 54, 3) := by decide +kernel
theorem dC_staysInSyllable_66 : decode cC_staysInSyllable 66 = .ok (.ifCond .eq 7, 3) := by decide +kernel
theorem dC_staysInSyllable_69 : decode cC_staysInSyllable 69 = .ok (.iconst 1, 1) := by decide +kernel
theorem dC_staysInSyllable_70 : decode cC_staysInSyllable 70 = .ok (.goto 4, 3) := by decide +kernel
theorem dC_staysInSyllable_73 : decode cC_staysInSyllable 73 = .ok (.iconst 0, 1) := by decide +kernel
theorem dC_staysInSyllable_74 : decode cC_staysInSyllable 74 = .ok (.ireturn, 1) := by decide +kernel
theorem dC_staysInSyllable_75 : decode cC_staysInSyllable 75 = .ok (.iload_n 0, 1) := by decide +kernel
theorem dC_staysInSyllable_76 : decode cC_staysInSyllable 76 = .ok (.invokestatic 54, 3) := by decide +kernel
theorem dC_staysInSyllable_79 : decode cC_staysInSyllable 79 = .ok (.ifCond .ne 10, 3) := by decide +kernel
theorem dC_staysInSyllable_82 : decode cC_staysInSyllable 82 = .ok (.iload_n 0, 1) := by decide +kernel
theorem dC_staysInSyllable_83 : decode cC_staysInSyllable 83 = .ok (.invokestatic 51, 3) := by decide +kernel
theorem dC_staysInSyllable_86 : decode cC_staysInSyllable 86 = .ok (.ifCond .eq 14, 3) := by decide +kernel
theorem dC_staysInSyllable_89 : decode cC_staysInSyllable 89 = .ok (.iload_n 1, 1) := by decide +kernel
theorem dC_staysInSyllable_90 : decode cC_staysInSyllable 90 = .ok (.invokestatic 54, 3) := by decide +kernel
theorem dC_staysInSyllable_93 : decode cC_staysInSyllable 93 = .ok (.ifCond .eq 7, 3) := by decide +kernel
theorem dC_staysInSyllable_96 : decode cC_staysInSyllable 96 = .ok (.iconst 1, 1) := by decide +kernel
theorem dC_staysInSyllable_97 : decode cC_staysInSyllable 97 = .ok (.goto 4, 3) := by decide +kernel
theorem dC_staysInSyllable_100 : decode cC_staysInSyllable 100 = .ok (.iconst 0, 1) := by decide +kernel
theorem dC_staysInSyllable_101 : decode cC_staysInSyllable 101 = .ok (.ireturn, 1) := by decide +kernel
theorem dC_isAttached_0 : decode cC_isAttached 0 = .ok (.iload_n 1, 1) := by decide +kernel
theorem dC_isAttached_1 : decode cC_isAttached 1 = .ok (.iconst 4, 1) := by decide +kernel
theorem dC_isAttached_2 : decode cC_isAttached 2 = .ok (.if_icmp .eq 20, 3) := by decide +kernel
theorem dC_isAttached_5 : decode cC_isAttached 5 = .ok (.iload_n 1, 1) := by decide +kernel
theorem dC_isAttached_6 : decode cC_isAttached 6 = .ok (.iconst 5, 1) := by decide +kernel
theorem dC_isAttached_7 : decode cC_isAttached 7 = .ok (.if_icmp .eq 15, 3) := by decide +kernel
theorem dC_isAttached_10 : decode cC_isAttached 10 = .ok (.iload_n 1, 1) := by decide +kernel
theorem dC_isAttached_11 : decode cC_isAttached 11 = .ok (.bipush 8, 2) := by decide +kernel
theorem dC_isAttached_13 : decode cC_isAttached 13 = .ok (.if_icmp .eq 9, 3) := by decide +kernel
theorem dC_isAttached_16 : decode cC_isAttached 16 = .ok (.iload_n 0, 1) := by decide +kernel
theorem dC_isAttached_17 : decode cC_isAttached 17 = .ok (.bipush 7, 2) := by decide +kernel
theorem dC_isAttached_19 : decode cC_isAttached 19 = .ok (.if_icmp .ne 7, 3) := by decide +kernel
theorem dC_isAttached_22 : decode cC_isAttached 22 = .ok (.iconst 1, 1) := by decide +kernel
theorem dC_isAttached_23 : decode cC_isAttached 23 = .ok (.goto 4, 3) := by decide +kernel
theorem dC_isAttached_26 : decode cC_isAttached 26 = .ok (.iconst 0, 1) := by decide +kernel
theorem dC_isAttached_27 : decode cC_isAttached 27 = .ok (.ireturn, 1) := by decide +kernel
theorem dC_isJoinedPicture_0 : decode cC_isJoinedPicture 0 = .ok (.aload_n 0, 1) := by decide +kernel
theorem dC_isJoinedPicture_1 : decode cC_isJoinedPicture 1 = .ok (.aload_n 1, 1) := by decide +kernel
theorem dC_isJoinedPicture_2 : decode cC_isJoinedPicture 2 = .ok (.iload_n 2, 1) := by decide +kernel
theorem dC_isJoinedPicture_3 : decode cC_isJoinedPicture 3 = .ok (.invokevirtual 13, 3) := by decide +kernel
theorem dC_isJoinedPicture_6 : decode cC_isJoinedPicture 6 = .ok (.invokevirtual 17, 3) := by decide +kernel
theorem dC_isJoinedPicture_9 : decode cC_isJoinedPicture 9 = .ok (.bipush 9, 2) := by decide +kernel
theorem dC_isJoinedPicture_11 : decode cC_isJoinedPicture 11 = .ok (.if_icmp .ne 18, 3) := by decide +kernel
theorem dC_isJoinedPicture_14 : decode cC_isJoinedPicture 14 = .ok (.aload_n 0, 1) := by decide +kernel
theorem dC_isJoinedPicture_15 : decode cC_isJoinedPicture 15 = .ok (.aload_n 1, 1) := by decide +kernel
theorem dC_isJoinedPicture_16 : decode cC_isJoinedPicture 16 = .ok (.iload_n 2, 1) := by decide +kernel
theorem dC_isJoinedPicture_17 : decode cC_isJoinedPicture 17 = .ok (.iconst 1, 1) := by decide +kernel
theorem dC_isJoinedPicture_18 : decode cC_isJoinedPicture 18 = .ok (.isub, 1) := by decide +kernel
theorem dC_isJoinedPicture_19 : decode cC_isJoinedPicture 19 = .ok (.invokevirtual 13, 3) := by decide +kernel
theorem dC_isJoinedPicture_22 : decode cC_isJoinedPicture 22 = .ok (.invokevirtual 17, 3) := by decide +kernel
theorem dC_isJoinedPicture_25 : decode cC_isJoinedPicture 25 = .ok (.iconst 5, 1) := by decide +kernel
theorem dC_isJoinedPicture_26 : decode cC_isJoinedPicture 26 = .ok (.if_icmp .eq 5, 3) := by decide +kernel
theorem dC_isJoinedPicture_29 : decode cC_isJoinedPicture 29 = .ok (.iconst 0, 1) := by decide +kernel
theorem dC_isJoinedPicture_30 : decode cC_isJoinedPicture 30 = .ok (.ireturn, 1) := by decide +kernel
theorem dC_isJoinedPicture_31 : decode cC_isJoinedPicture 31 = .ok (.iload_n 2, 1) := by decide +kernel
theorem dC_isJoinedPicture_32 : decode cC_isJoinedPicture 32 = .ok (.iconst 2, 1) := by decide +kernel
theorem dC_isJoinedPicture_33 : decode cC_isJoinedPicture 33 = .ok (.isub, 1) := by decide +kernel
theorem dC_isJoinedPicture_34 : decode cC_isJoinedPicture 34 = .ok (.istore_n 3, 1) := by decide +kernel
theorem dC_isJoinedPicture_35 : decode cC_isJoinedPicture 35 = .ok (.iload_n 3, 1) := by decide +kernel
theorem dC_isJoinedPicture_36 : decode cC_isJoinedPicture 36 = .ok (.ifCond .lt 22, 3) := by decide +kernel
theorem dC_isJoinedPicture_39 : decode cC_isJoinedPicture 39 = .ok (.aload_n 0, 1) := by decide +kernel
theorem dC_isJoinedPicture_40 : decode cC_isJoinedPicture 40 = .ok (.aload_n 1, 1) := by decide +kernel
theorem dC_isJoinedPicture_41 : decode cC_isJoinedPicture 41 = .ok (.iload_n 3, 1) := by decide +kernel
theorem dC_isJoinedPicture_42 : decode cC_isJoinedPicture 42 = .ok (.invokevirtual 13, 3) := by decide +kernel
theorem dC_isJoinedPicture_45 : decode cC_isJoinedPicture 45 = .ok (.invokevirtual 17, 3) := by decide +kernel
theorem dC_isJoinedPicture_48 : decode cC_isJoinedPicture 48 = .ok (.iconst 4, 1) := by decide +kernel
theorem dC_isJoinedPicture_49 : decode cC_isJoinedPicture 49 = .ok (.if_icmp .ne 9, 3) := by decide +kernel
theorem dC_isJoinedPicture_52 : decode cC_isJoinedPicture 52 = .ok (.iinc 3 (-1), 3) := by decide +kernel
theorem dC_isJoinedPicture_55 : decode cC_isJoinedPicture 55 = .ok (.goto (-20), 3) := by decide +kernel
theorem dC_isJoinedPicture_58 : decode cC_isJoinedPicture 58 = .ok (.iload_n 3, 1) := by decide +kernel
theorem dC_isJoinedPicture_59 : decode cC_isJoinedPicture 59 = .ok (.ifCond .lt 21, 3) := by decide +kernel
theorem dC_isJoinedPicture_62 : decode cC_isJoinedPicture 62 = .ok (.aload_n 0, 1) := by decide +kernel
theorem dC_isJoinedPicture_63 : decode cC_isJoinedPicture 63 = .ok (.aload_n 1, 1) := by decide +kernel
theorem dC_isJoinedPicture_64 : decode cC_isJoinedPicture 64 = .ok (.iload_n 3, 1) := by decide +kernel
theorem dC_isJoinedPicture_65 : decode cC_isJoinedPicture 65 = .ok (.invokevirtual 13, 3) := by decide +kernel
theorem dC_isJoinedPicture_68 : decode cC_isJoinedPicture 68 = .ok (.invokevirtual 17, 3) := by decide +kernel
theorem dC_isJoinedPicture_71 : decode cC_isJoinedPicture 71 = .ok (.bipush 9, 2) := by decide +kernel
theorem dC_isJoinedPicture_73 : decode cC_isJoinedPicture 73 = .ok (.if_icmp .ne 7, 3) := by decide +kernel
theorem dC_isJoinedPicture_76 : decode cC_isJoinedPicture 76 = .ok (.iconst 1, 1) := by decide +kernel
theorem dC_isJoinedPicture_77 : decode cC_isJoinedPicture 77 = .ok (.goto 4, 3) := by decide +kernel
theorem dC_isJoinedPicture_80 : decode cC_isJoinedPicture 80 = .ok (.iconst 0, 1) := by decide +kernel
theorem dC_isJoinedPicture_81 : decode cC_isJoinedPicture 81 = .ok (.ireturn, 1) := by decide +kernel
theorem dC_isSecondRegion_0 : decode cC_isSecondRegion 0 = .ok (.aload_n 0, 1) := by decide +kernel
theorem dC_isSecondRegion_1 : decode cC_isSecondRegion 1 = .ok (.aload_n 1, 1) := by decide +kernel
theorem dC_isSecondRegion_2 : decode cC_isSecondRegion 2 = .ok (.iload_n 2, 1) := by decide +kernel
theorem dC_isSecondRegion_3 : decode cC_isSecondRegion 3 = .ok (.invokevirtual 13, 3) := by decide +kernel
theorem dC_isSecondRegion_6 : decode cC_isSecondRegion 6 = .ok (.invokevirtual 17, 3) := by decide +kernel
theorem dC_isSecondRegion_9 : decode cC_isSecondRegion 9 = .ok (.bipush 6, 2) := by decide +kernel
theorem dC_isSecondRegion_11 : decode cC_isSecondRegion 11 = .ok (.if_icmp .eq 5, 3) := by decide +kernel
theorem dC_isSecondRegion_14 : decode cC_isSecondRegion 14 = .ok (.iconst 0, 1) := by decide +kernel
theorem dC_isSecondRegion_15 : decode cC_isSecondRegion 15 = .ok (.ireturn, 1) := by decide +kernel
theorem dC_isSecondRegion_16 : decode cC_isSecondRegion 16 = .ok (.iload_n 2, 1) := by decide +kernel
theorem dC_isSecondRegion_17 : decode cC_isSecondRegion 17 = .ok (.iconst 1, 1) := by decide +kernel
theorem dC_isSecondRegion_18 : decode cC_isSecondRegion 18 = .ok (.isub, 1) := by decide +kernel
theorem dC_isSecondRegion_19 : decode cC_isSecondRegion 19 = .ok (.istore_n 3, 1) := by decide +kernel
theorem dC_isSecondRegion_20 : decode cC_isSecondRegion 20 = .ok (.iload_n 3, 1) := by decide +kernel
theorem dC_isSecondRegion_21 : decode cC_isSecondRegion 21 = .ok (.ifCond .lt 23, 3) := by decide +kernel
theorem dC_isSecondRegion_24 : decode cC_isSecondRegion 24 = .ok (.aload_n 0, 1) := by decide +kernel
theorem dC_isSecondRegion_25 : decode cC_isSecondRegion 25 = .ok (.aload_n 1, 1) := by decide +kernel
theorem dC_isSecondRegion_26 : decode cC_isSecondRegion 26 = .ok (.iload_n 3, 1) := by decide +kernel
theorem dC_isSecondRegion_27 : decode cC_isSecondRegion 27 = .ok (.invokevirtual 13, 3) := by decide +kernel
theorem dC_isSecondRegion_30 : decode cC_isSecondRegion 30 = .ok (.invokevirtual 17, 3) := by decide +kernel
theorem dC_isSecondRegion_33 : decode cC_isSecondRegion 33 = .ok (.bipush 6, 2) := by decide +kernel
theorem dC_isSecondRegion_35 : decode cC_isSecondRegion 35 = .ok (.if_icmp .ne 9, 3) := by decide +kernel
theorem dC_isSecondRegion_38 : decode cC_isSecondRegion 38 = .ok (.iinc 3 (-1), 3) := by decide +kernel
theorem dC_isSecondRegion_41 : decode cC_isSecondRegion 41 = .ok (.goto (-21), 3) := by decide +kernel
theorem dC_isSecondRegion_44 : decode cC_isSecondRegion 44 = .ok (.iload_n 2, 1) := by decide +kernel
theorem dC_isSecondRegion_45 : decode cC_isSecondRegion 45 = .ok (.iconst 1, 1) := by decide +kernel
theorem dC_isSecondRegion_46 : decode cC_isSecondRegion 46 = .ok (.isub, 1) := by decide +kernel
theorem dC_isSecondRegion_47 : decode cC_isSecondRegion 47 = .ok (.iload_n 3, 1) := by decide +kernel
theorem dC_isSecondRegion_48 : decode cC_isSecondRegion 48 = .ok (.isub, 1) := by decide +kernel
theorem dC_isSecondRegion_49 : decode cC_isSecondRegion 49 = .ok (.iconst 2, 1) := by decide +kernel
theorem dC_isSecondRegion_50 : decode cC_isSecondRegion 50 = .ok (.irem, 1) := by decide +kernel
theorem dC_isSecondRegion_51 : decode cC_isSecondRegion 51 = .ok (.iconst 1, 1) := by decide +kernel
theorem dC_isSecondRegion_52 : decode cC_isSecondRegion 52 = .ok (.if_icmp .ne 7, 3) := by decide +kernel
theorem dC_isSecondRegion_55 : decode cC_isSecondRegion 55 = .ok (.iconst 1, 1) := by decide +kernel
theorem dC_isSecondRegion_56 : decode cC_isSecondRegion 56 = .ok (.goto 4, 3) := by decide +kernel
theorem dC_isSecondRegion_59 : decode cC_isSecondRegion 59 = .ok (.iconst 0, 1) := by decide +kernel
theorem dC_isSecondRegion_60 : decode cC_isSecondRegion 60 = .ok (.ireturn, 1) := by decide +kernel
theorem dF_fillParted_0 : decode cF_fillParted 0 = .ok (.aload_n 2, 1) := by decide +kernel
theorem dF_fillParted_1 : decode cF_fillParted 1 = .ok (.iconst 0, 1) := by decide +kernel
theorem dF_fillParted_2 : decode cF_fillParted 2 = .ok (.invokevirtual 11, 3) := by decide +kernel
theorem dF_fillParted_5 : decode cF_fillParted 5 = .ok (.iconst 0, 1) := by decide +kernel
theorem dF_fillParted_6 : decode cF_fillParted 6 = .ok (.istore_n 3, 1) := by decide +kernel
theorem dF_fillParted_7 : decode cF_fillParted 7 = .ok (.iload_n 3, 1) := by decide +kernel
theorem dF_fillParted_8 : decode cF_fillParted 8 = .ok (.aload_n 1, 1) := by decide +kernel
theorem dF_fillParted_9 : decode cF_fillParted 9 = .ok (.invokevirtual 17, 3) := by decide +kernel
theorem dF_fillParted_12 : decode cF_fillParted 12 = .ok (.if_icmp .ge 49, 3) := by decide +kernel
theorem dF_fillParted_15 : decode cF_fillParted 15 = .ok (.aload_n 1, 1) := by decide +kernel
theorem dF_fillParted_16 : decode cF_fillParted 16 = .ok (.iload_n 3, 1) := by decide +kernel
theorem dF_fillParted_17 : decode cF_fillParted 17 = .ok (.invokevirtual 21, 3) := by decide +kernel
theorem dF_fillParted_20 : decode cF_fillParted 20 = .ok (.istore 4, 2) := by decide +kernel
theorem dF_fillParted_22 : decode cF_fillParted 22 = .ok (.iconst 0, 1) := by decide +kernel
theorem dF_fillParted_23 : decode cF_fillParted 23 = .ok (.istore 5, 2) := by decide +kernel
theorem dF_fillParted_25 : decode cF_fillParted 25 = .ok (.iload 5, 2) := by decide +kernel
theorem dF_fillParted_27 : decode cF_fillParted 27 = .ok (.aload_n 0, 1) := by decide +kernel
theorem dF_fillParted_28 : decode cF_fillParted 28 = .ok (.iload 4, 2) := by decide +kernel
theorem dF_fillParted_30 : decode cF_fillParted 30 = .ok (.invokevirtual 25, 3) := by decide +kernel
theorem dF_fillParted_33 : decode cF_fillParted 33 = .ok (.if_icmp .ge 22, 3) := by decide +kernel
theorem dF_fillParted_36 : decode cF_fillParted 36 = .ok (.aload_n 0, 1) := by decide +kernel
theorem dF_fillParted_37 : decode cF_fillParted 37 = .ok (.aload_n 2, 1) := by decide +kernel
theorem dF_fillParted_38 : decode cF_fillParted 38 = .ok (.aload_n 0, 1) := by decide +kernel
theorem dF_fillParted_39 : decode cF_fillParted 39 = .ok (.iload 4, 2) := by decide +kernel
theorem dF_fillParted_41 : decode cF_fillParted 41 = .ok (.iload 5, 2) := by decide +kernel
theorem dF_fillParted_43 : decode cF_fillParted 43 = .ok (.invokevirtual 28, 3) := by decide +kernel
theorem dF_fillParted_46 : decode cF_fillParted 46 = .ok (.invokestatic 32, 3) := by decide +kernel
theorem dF_fillParted_49 : decode cF_fillParted 49 = .ok (.iinc 5 1, 3) := by decide +kernel
theorem dF_fillParted_52 : decode cF_fillParted 52 = .ok (.goto (-27), 3) := by decide +kernel
theorem dF_fillParted_55 : decode cF_fillParted 55 = .ok (.iinc 3 1, 3) := by decide +kernel
theorem dF_fillParted_58 : decode cF_fillParted 58 = .ok (.goto (-51), 3) := by decide +kernel
theorem dF_fillParted_61 : decode cF_fillParted 61 = .ok (.return_, 1) := by decide +kernel
theorem dF_joinAll_0 : decode cF_joinAll 0 = .ok (.iconst 0, 1) := by decide +kernel
theorem dF_joinAll_1 : decode cF_joinAll 1 = .ok (.istore_n 2, 1) := by decide +kernel
theorem dF_joinAll_2 : decode cF_joinAll 2 = .ok (.iconst 0, 1) := by decide +kernel
theorem dF_joinAll_3 : decode cF_joinAll 3 = .ok (.istore_n 3, 1) := by decide +kernel
theorem dF_joinAll_4 : decode cF_joinAll 4 = .ok (.iload_n 3, 1) := by decide +kernel
theorem dF_joinAll_5 : decode cF_joinAll 5 = .ok (.aload_n 1, 1) := by decide +kernel
theorem dF_joinAll_6 : decode cF_joinAll 6 = .ok (.invokevirtual 17, 3) := by decide +kernel
theorem dF_joinAll_9 : decode cF_joinAll 9 = .ok (.if_icmp .ge 80, 3) := by decide +kernel
theorem dF_joinAll_12 : decode cF_joinAll 12 = .ok (.aload_n 1, 1) := by decide +kernel
theorem dF_joinAll_13 : decode cF_joinAll 13 = .ok (.iload_n 3, 1) := by decide +kernel
theorem dF_joinAll_14 : decode cF_joinAll 14 = .ok (.invokevirtual 21, 3) := by decide +kernel
theorem dF_joinAll_17 : decode cF_joinAll 17 = .ok (.istore 4, 2) := by decide +kernel
theorem dF_joinAll_19 : decode cF_joinAll 19 = .ok (.aload_n 0, 1) := by decide +kernel
theorem dF_joinAll_20 : decode cF_joinAll 20 = .ok (.aload_n 1, 1) := by decide +kernel
theorem dF_joinAll_21 : decode cF_joinAll 21 = .ok (.iload_n 2, 1) := by decide +kernel
theorem dF_joinAll_22 : decode cF_joinAll 22 = .ok (.aload_n 0, 1) := by decide +kernel
theorem dF_joinAll_23 : decode cF_joinAll 23 = .ok (.iload 4, 2) := by decide +kernel
theorem dF_joinAll_25 : decode cF_joinAll 25 = .ok (.invokevirtual 38, 3) := by decide +kernel
theorem dF_joinAll_28 : decode cF_joinAll 28 = .ok (.invokestatic 41, 3) := by decide +kernel
theorem dF_joinAll_31 : decode cF_joinAll 31 = .ok (.istore 5, 2) := by decide +kernel
theorem dF_joinAll_33 : decode cF_joinAll 33 = .ok (.iconst (-1), 1) := by decide +kernel
theorem dF_joinAll_34 : decode cF_joinAll 34 = .ok (.istore 6, 2) := by decide +kernel
theorem dF_joinAll_36 : decode cF_joinAll 36 = .ok (.iload 5, 2) := by decide +kernel
theorem dF_joinAll_38 : decode cF_joinAll 38 = .ok (.iconst (-1), 1) := by decide +kernel
theorem dF_joinAll_39 : decode cF_joinAll 39 = .ok (.if_icmp .eq 17, 3) := by decide +kernel
theorem dF_joinAll_42 : decode cF_joinAll 42 = .ok (.aload_n 0, 1) := by decide +kernel
theorem dF_joinAll_43 : decode cF_joinAll 43 = .ok (.aload_n 1, 1) := by decide +kernel
theorem dF_joinAll_44 : decode cF_joinAll 44 = .ok (.iload 5, 2) := by decide +kernel
theorem dF_joinAll_46 : decode cF_joinAll 46 = .ok (.invokevirtual 21, 3) := by decide +kernel
theorem dF_joinAll_49 : decode cF_joinAll 49 = .ok (.iload 4, 2) := by decide +kernel
theorem dF_joinAll_51 : decode cF_joinAll 51 = .ok (.invokevirtual 45, 3) := by decide +kernel
theorem dF_joinAll_54 : decode cF_joinAll 54 = .ok (.istore 6, 2) := by decide +kernel
theorem dF_joinAll_56 : decode cF_joinAll 56 = .ok (.iload 6, 2) := by decide +kernel
theorem dF_joinAll_58 : decode cF_joinAll 58 = .ok (.iconst (-1), 1) := by decide +kernel
theorem dF_joinAll_59 : decode cF_joinAll 59 = .ok (.if_icmp .ne 16, 3) := by decide +kernel
theorem dF_joinAll_62 : decode cF_joinAll 62 = .ok (.aload_n 1, 1) := by decide +kernel
theorem dF_joinAll_63 : decode cF_joinAll 63 = .ok (.iload_n 2, 1) := by decide +kernel
theorem dF_joinAll_64 : decode cF_joinAll 64 = .ok (.iload 4, 2) := by decide +kernel
theorem dF_joinAll_66 : decode cF_joinAll 66 = .ok (.invokevirtual 48, 3) := by decide +kernel
theorem dF_joinAll_69 : decode cF_joinAll 69 = .ok (.iinc 2 1, 3) := by decide +kernel
theorem dF_joinAll_72 : decode cF_joinAll 72 = .ok (.goto 11, 3) := by decide +kernel
theorem dF_joinAll_75 : decode cF_joinAll 75 = .ok (.aload_n 1, 1) := by decide +kernel
theorem dF_joinAll_76 : decode cF_joinAll 76 = .ok (.iload 5, 2) := by decide +kernel
theorem dF_joinAll_78 : decode cF_joinAll 78 = .ok (.iload 6, 2) := by decide +kernel
theorem dF_joinAll_80 : decode cF_joinAll 80 = .ok (.invokevirtual 48, 3) := by decide +kernel
theorem dF_joinAll_83 : decode cF_joinAll 83 = .ok (.iinc 3 1, 3) := by decide +kernel
theorem dF_joinAll_86 : decode cF_joinAll 86 = .ok (.goto (-82), 3) := by decide +kernel
theorem dF_joinAll_89 : decode cF_joinAll 89 = .ok (.aload_n 1, 1) := by decide +kernel
theorem dF_joinAll_90 : decode cF_joinAll 90 = .ok (.iload_n 2, 1) := by decide +kernel
theorem dF_joinAll_91 : decode cF_joinAll 91 = .ok (.invokevirtual 11, 3) := by decide +kernel
theorem dF_joinAll_94 : decode cF_joinAll 94 = .ok (.return_, 1) := by decide +kernel
theorem dF_insertByRank_0 : decode cF_insertByRank 0 = .ok (.aload_n 0, 1) := by decide +kernel
theorem dF_insertByRank_1 : decode cF_insertByRank 1 = .ok (.iload_n 2, 1) := by decide +kernel
theorem dF_insertByRank_2 : decode cF_insertByRank 2 = .ok (.invokevirtual 38, 3) := by decide +kernel
theorem dF_insertByRank_5 : decode cF_insertByRank 5 = .ok (.istore_n 3, 1) := by decide +kernel
theorem dF_insertByRank_6 : decode cF_insertByRank 6 = .ok (.aload_n 1, 1) := by decide +kernel
theorem dF_insertByRank_7 : decode cF_insertByRank 7 = .ok (.invokevirtual 17, 3) := by decide +kernel
theorem dF_insertByRank_10 : decode cF_insertByRank 10 = .ok (.istore 4, 2) := by decide +kernel
theorem dF_insertByRank_12 : decode cF_insertByRank 12 = .ok (.iload_n 3, 1) := by decide +kernel
theorem dF_insertByRank_13 : decode cF_insertByRank 13 = .ok (.ifCond .eq 30, 3) := by decide +kernel
theorem dF_insertByRank_16 : decode cF_insertByRank 16 = .ok (.iload 4, 2) := by decide +kernel
theorem dF_insertByRank_18 : decode cF_insertByRank 18 = .ok (.ifCond .le 25, 3) := by decide +kernel
theorem dF_insertByRank_21 : decode cF_insertByRank 21 = .ok (.aload_n 0, 1) := by decide +kernel
theorem dF_insertByRank_22 : decode cF_insertByRank 22 = .ok (.aload_n 1, 1) := by decide +kernel
theorem dF_insertByRank_23 : decode cF_insertByRank 23 = .ok (.iload 4, 2) := by decide +kernel
theorem dF_insertByRank_25 : decode cF_insertByRank 25 = .ok (.iconst 1, 1) := by decide +kernel
theorem dF_insertByRank_26 : decode cF_insertByRank 26 = .ok (.isub, 1) := by decide +kernel
theorem dF_insertByRank_27 : decode cF_insertByRank 27 = .ok (.invokevirtual 21, 3) := by decide +kernel
theorem dF_insertByRank_30 : decode cF_insertByRank 30 = .ok (.invokevirtual 38, 3) := by decide +kernel
theorem dF_insertByRank_33 : decode cF_insertByRank 33 = .ok (.iload_n 3, 1) := by decide +kernel
theorem dF_insertByRank_34 : decode cF_insertByRank 34 = .ok (.if_icmp .le 9, 3) := by decide +kernel
theorem dF_insertByRank_37 : decode cF_insertByRank 37 = .ok (.iinc 4 (-1), 3) := by decide +kernel
theorem dF_insertByRank_40 : decode cF_insertByRank 40 = .ok (.goto (-28), 3) := by decide +kernel
theorem dF_insertByRank_43 : decode cF_insertByRank 43 = .ok (.aload_n 1, 1) := by decide +kernel
theorem dF_insertByRank_44 : decode cF_insertByRank 44 = .ok (.iload 4, 2) := by decide +kernel
theorem dF_insertByRank_46 : decode cF_insertByRank 46 = .ok (.iload_n 2, 1) := by decide +kernel
theorem dF_insertByRank_47 : decode cF_insertByRank 47 = .ok (.invokevirtual 52, 3) := by decide +kernel
theorem dF_insertByRank_50 : decode cF_insertByRank 50 = .ok (.return_, 1) := by decide +kernel
theorem dF_openStarter_0 : decode cF_openStarter 0 = .ok (.iload_n 2, 1) := by decide +kernel
theorem dF_openStarter_1 : decode cF_openStarter 1 = .ok (.iconst 1, 1) := by decide +kernel
theorem dF_openStarter_2 : decode cF_openStarter 2 = .ok (.isub, 1) := by decide +kernel
theorem dF_openStarter_3 : decode cF_openStarter 3 = .ok (.istore 4, 2) := by decide +kernel
theorem dF_openStarter_5 : decode cF_openStarter 5 = .ok (.iload 4, 2) := by decide +kernel
theorem dF_openStarter_7 : decode cF_openStarter 7 = .ok (.ifCond .lt 37, 3) := by decide +kernel
theorem dF_openStarter_10 : decode cF_openStarter 10 = .ok (.aload_n 0, 1) := by decide +kernel
theorem dF_openStarter_11 : decode cF_openStarter 11 = .ok (.aload_n 1, 1) := by decide +kernel
theorem dF_openStarter_12 : decode cF_openStarter 12 = .ok (.iload 4, 2) := by decide +kernel
theorem dF_openStarter_14 : decode cF_openStarter 14 = .ok (.invokevirtual 21, 3) := by decide +kernel
theorem dF_openStarter_17 : decode cF_openStarter 17 = .ok (.invokevirtual 38, 3) := by decide +kernel
theorem dF_openStarter_20 : decode cF_openStarter 20 = .ok (.istore 5, 2) := by decide +kernel
theorem dF_openStarter_22 : decode cF_openStarter 22 = .ok (.iload 5, 2) := by decide +kernel
theorem dF_openStarter_24 : decode cF_openStarter 24 = .ok (.ifCond .ne 6, 3) := by decide +kernel
theorem dF_openStarter_27 : decode cF_openStarter 27 = .ok (.iload 4, 2) := by decide +kernel
theorem dF_openStarter_29 : decode cF_openStarter 29 = .ok (.ireturn, 1) := by decide +kernel
theorem dF_openStarter_30 : decode cF_openStarter 30 = .ok (.iload 5, 2) := by decide +kernel
theorem dF_openStarter_32 : decode cF_openStarter 32 = .ok (.iload_n 3, 1) := by decide +kernel
theorem dF_openStarter_33 : decode cF_openStarter 33 = .ok (.if_icmp .lt 5, 3) := by decide +kernel
theorem dF_openStarter_36 : decode cF_openStarter 36 = .ok (.iconst (-1), 1) := by decide +kernel
theorem dF_openStarter_37 : decode cF_openStarter 37 = .ok (.ireturn, 1) := by decide +kernel
theorem dF_openStarter_38 : decode cF_openStarter 38 = .ok (.iinc 4 (-1), 3) := by decide +kernel
theorem dF_openStarter_41 : decode cF_openStarter 41 = .ok (.goto (-36), 3) := by decide +kernel
theorem dF_openStarter_44 : decode cF_openStarter 44 = .ok (.iconst (-1), 1) := by decide +kernel
theorem dF_openStarter_45 : decode cF_openStarter 45 = .ok (.ireturn, 1) := by decide +kernel
theorem dK_fill_0 : decode cK_fill 0 = .ok (.aload_n 2, 1) := by decide +kernel
theorem dK_fill_1 : decode cK_fill 1 = .ok (.iconst 0, 1) := by decide +kernel
theorem dK_fill_2 : decode cK_fill 2 = .ok (.invokevirtual 11, 3) := by decide +kernel
theorem dK_fill_5 : decode cK_fill 5 = .ok (.iconst 0, 1) := by decide +kernel
theorem dK_fill_6 : decode cK_fill 6 = .ok (.istore_n 3, 1) := by decide +kernel
theorem dK_fill_7 : decode cK_fill 7 = .ok (.iload_n 3, 1) := by decide +kernel
theorem dK_fill_8 : decode cK_fill 8 = .ok (.iconst 3, 1) := by decide +kernel
theorem dK_fill_9 : decode cK_fill 9 = .ok (.if_icmp .ge 60, 3) := by decide +kernel
theorem dK_fill_12 : decode cK_fill 12 = .ok (.iload_n 3, 1) := by decide +kernel
theorem dK_fill_13 : decode cK_fill 13 = .ok (.ifCond .le 8, 3) := by decide +kernel
theorem dK_fill_16 : decode cK_fill 16 = .ok (.aload_n 2, 1) := by decide +kernel
theorem dK_fill_17 : decode cK_fill 17 = .ok (.iconst 0, 1) := by decide +kernel
theorem dK_fill_18 : decode cK_fill 18 = .ok (.invokevirtual 17, 3) := by decide +kernel
theorem dK_fill_21 : decode cK_fill 21 = .ok (.iconst 0, 1) := by decide +kernel
theorem dK_fill_22 : decode cK_fill 22 = .ok (.istore 4, 2) := by decide +kernel
theorem dK_fill_24 : decode cK_fill 24 = .ok (.iload 4, 2) := by decide +kernel
theorem dK_fill_26 : decode cK_fill 26 = .ok (.aload_n 1, 1) := by decide +kernel
theorem dK_fill_27 : decode cK_fill 27 = .ok (.invokevirtual 20, 3) := by decide +kernel
theorem dK_fill_30 : decode cK_fill 30 = .ok (.if_icmp .ge 33, 3) := by decide +kernel
theorem dK_fill_33 : decode cK_fill 33 = .ok (.aload_n 0, 1) := by decide +kernel
theorem dK_fill_34 : decode cK_fill 34 = .ok (.aload_n 1, 1) := by decide +kernel
theorem dK_fill_35 : decode cK_fill 35 = .ok (.iload 4, 2) := by decide +kernel
theorem dK_fill_37 : decode cK_fill 37 = .ok (.invokevirtual 24, 3) := by decide +kernel
theorem dK_fill_40 : decode cK_fill 40 = .ok (.iload_n 3, 1) := by decide +kernel
theorem dK_fill_41 : decode cK_fill 41 = .ok (.invokevirtual 28, 3) := by decide +kernel
theorem dK_fill_44 : decode cK_fill 44 = .ok (.istore 5, 2) := by decide +kernel
theorem dK_fill_46 : decode cK_fill 46 = .ok (.iload 5, 2) := by decide +kernel
theorem dK_fill_48 : decode cK_fill 48 = .ok (.ifCond .eq 9, 3) := by decide +kernel
theorem dK_fill_51 : decode cK_fill 51 = .ok (.aload_n 2, 1) := by decide +kernel
theorem dK_fill_52 : decode cK_fill 52 = .ok (.iload 5, 2) := by decide +kernel
theorem dK_fill_54 : decode cK_fill 54 = .ok (.invokevirtual 17, 3) := by decide +kernel
theorem dK_fill_57 : decode cK_fill 57 = .ok (.iinc 4 1, 3) := by decide +kernel
theorem dK_fill_60 : decode cK_fill 60 = .ok (.goto (-36), 3) := by decide +kernel
theorem dK_fill_63 : decode cK_fill 63 = .ok (.iinc 3 1, 3) := by decide +kernel
theorem dK_fill_66 : decode cK_fill 66 = .ok (.goto (-59), 3) := by decide +kernel
theorem dK_fill_69 : decode cK_fill 69 = .ok (.return_, 1) := by decide +kernel
