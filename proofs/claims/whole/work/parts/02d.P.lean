theorem dP_init_0 : decode cP_init 0 = .ok (.aload_n 0, 1) := by decide +kernel
theorem dP_init_1 : decode cP_init 1 = .ok (.invokespecial 1, 3) := by decide +kernel
theorem dP_init_4 : decode cP_init 4 = .ok (.aload_n 0, 1) := by decide +kernel
theorem dP_init_5 : decode cP_init 5 = .ok (.new 7, 3) := by decide +kernel
theorem dP_init_8 : decode cP_init 8 = .ok (.dup, 1) := by decide +kernel
theorem dP_init_9 : decode cP_init 9 = .ok (.invokespecial 9, 3) := by decide +kernel
theorem dP_init_12 : decode cP_init 12 = .ok (.putfield 10, 3) := by decide +kernel
theorem dP_init_15 : decode cP_init 15 = .ok (.aload_n 0, 1) := by decide +kernel
theorem dP_init_16 : decode cP_init 16 = .ok (.new 16, 3) := by decide +kernel
theorem dP_init_19 : decode cP_init 19 = .ok (.dup, 1) := by decide +kernel
theorem dP_init_20 : decode cP_init 20 = .ok (.bipush 40, 2) := by decide +kernel
theorem dP_init_22 : decode cP_init 22 = .ok (.invokespecial 18, 3) := by decide +kernel
theorem dP_init_25 : decode cP_init 25 = .ok (.putfield 21, 3) := by decide +kernel
theorem dP_init_28 : decode cP_init 28 = .ok (.aload_n 0, 1) := by decide +kernel
theorem dP_init_29 : decode cP_init 29 = .ok (.iconst 4, 1) := by decide +kernel
theorem dP_init_30 : decode cP_init 30 = .ok (.anewarray 16, 3) := by decide +kernel
theorem dP_init_33 : decode cP_init 33 = .ok (.putfield 25, 3) := by decide +kernel
theorem dP_init_36 : decode cP_init 36 = .ok (.iconst 0, 1) := by decide +kernel
theorem dP_init_37 : decode cP_init 37 = .ok (.istore_n 1, 1) := by decide +kernel
theorem dP_init_38 : decode cP_init 38 = .ok (.iload_n 1, 1) := by decide +kernel
theorem dP_init_39 : decode cP_init 39 = .ok (.iconst 4, 1) := by decide +kernel
theorem dP_init_40 : decode cP_init 40 = .ok (.if_icmp .ge 24, 3) := by decide +kernel
theorem dP_init_43 : decode cP_init 43 = .ok (.aload_n 0, 1) := by decide +kernel
theorem dP_init_44 : decode cP_init 44 = .ok (.getfield 25, 3) := by decide +kernel
theorem dP_init_47 : decode cP_init 47 = .ok (.iload_n 1, 1) := by decide +kernel
theorem dP_init_48 : decode cP_init 48 = .ok (.new 16, 3) := by decide +kernel
theorem dP_init_51 : decode cP_init 51 = .ok (.dup, 1) := by decide +kernel
theorem dP_init_52 : decode cP_init 52 = .ok (.bipush 40, 2) := by decide +kernel
theorem dP_init_54 : decode cP_init 54 = .ok (.invokespecial 18, 3) := by decide +kernel
theorem dP_init_57 : decode cP_init 57 = .ok (.aastore, 1) := by decide +kernel
theorem dP_init_58 : decode cP_init 58 = .ok (.iinc 1 1, 3) := by decide +kernel
theorem dP_init_61 : decode cP_init 61 = .ok (.goto (-23), 3) := by decide +kernel
theorem dP_init_64 : decode cP_init 64 = .ok (.aload_n 0, 1) := by decide +kernel
theorem dP_init_65 : decode cP_init 65 = .ok (.new 16, 3) := by decide +kernel
theorem dP_init_68 : decode cP_init 68 = .ok (.dup, 1) := by decide +kernel
theorem dP_init_69 : decode cP_init 69 = .ok (.sipush 160, 3) := by decide +kernel
theorem dP_init_72 : decode cP_init 72 = .ok (.invokespecial 18, 3) := by decide +kernel
theorem dP_init_75 : decode cP_init 75 = .ok (.putfield 31, 3) := by decide +kernel
theorem dP_init_78 : decode cP_init 78 = .ok (.aload_n 0, 1) := by decide +kernel
theorem dP_init_79 : decode cP_init 79 = .ok (.new 16, 3) := by decide +kernel
theorem dP_init_82 : decode cP_init 82 = .ok (.dup, 1) := by decide +kernel
theorem dP_init_83 : decode cP_init 83 = .ok (.sipush 160, 3) := by decide +kernel
theorem dP_init_86 : decode cP_init 86 = .ok (.invokespecial 18, 3) := by decide +kernel
theorem dP_init_89 : decode cP_init 89 = .ok (.putfield 34, 3) := by decide +kernel
theorem dP_init_92 : decode cP_init 92 = .ok (.aload_n 0, 1) := by decide +kernel
theorem dP_init_93 : decode cP_init 93 = .ok (.new 16, 3) := by decide +kernel
theorem dP_init_96 : decode cP_init 96 = .ok (.dup, 1) := by decide +kernel
theorem dP_init_97 : decode cP_init 97 = .ok (.sipush 482, 3) := by decide +kernel
theorem dP_init_100 : decode cP_init 100 = .ok (.invokespecial 18, 3) := by decide +kernel
theorem dP_init_103 : decode cP_init 103 = .ok (.putfield 39, 3) := by decide +kernel
theorem dP_init_106 : decode cP_init 106 = .ok (.aload_n 0, 1) := by decide +kernel
theorem dP_init_107 : decode cP_init 107 = .ok (.new 16, 3) := by decide +kernel
theorem dP_init_110 : decode cP_init 110 = .ok (.dup, 1) := by decide +kernel
theorem dP_init_111 : decode cP_init 111 = .ok (.sipush 482, 3) := by decide +kernel
theorem dP_init_114 : decode cP_init 114 = .ok (.invokespecial 18, 3) := by decide +kernel
theorem dP_init_117 : decode cP_init 117 = .ok (.putfield 42, 3) := by decide +kernel
theorem dP_init_120 : decode cP_init 120 = .ok (.aload_n 0, 1) := by decide +kernel
theorem dP_init_121 : decode cP_init 121 = .ok (.new 45, 3) := by decide +kernel
theorem dP_init_124 : decode cP_init 124 = .ok (.dup, 1) := by decide +kernel
theorem dP_init_125 : decode cP_init 125 = .ok (.invokespecial 47, 3) := by decide +kernel
theorem dP_init_128 : decode cP_init 128 = .ok (.putfield 48, 3) := by decide +kernel
theorem dP_init_131 : decode cP_init 131 = .ok (.aload_n 0, 1) := by decide +kernel
theorem dP_init_132 : decode cP_init 132 = .ok (.new 52, 3) := by decide +kernel
theorem dP_init_135 : decode cP_init 135 = .ok (.dup, 1) := by decide +kernel
theorem dP_init_136 : decode cP_init 136 = .ok (.invokespecial 54, 3) := by decide +kernel
theorem dP_init_139 : decode cP_init 139 = .ok (.putfield 55, 3) := by decide +kernel
theorem dP_init_142 : decode cP_init 142 = .ok (.return_, 1) := by decide +kernel
theorem dP_set_0 : decode cP_set 0 = .ok (.iload_n 1, 1) := by decide +kernel
theorem dP_set_1 : decode cP_set 1 = .ok (.invokestatic 59, 3) := by decide +kernel
theorem dP_set_4 : decode cP_set 4 = .ok (.ifCond .eq 11, 3) := by decide +kernel
theorem dP_set_7 : decode cP_set 7 = .ok (.iload_n 2, 1) := by decide +kernel
theorem dP_set_8 : decode cP_set 8 = .ok (.iload_n 3, 1) := by decide +kernel
theorem dP_set_9 : decode cP_set 9 = .ok (.invokestatic 63, 3) := by decide +kernel
theorem dP_set_12 : decode cP_set 12 = .ok (.ifCond .ne 13, 3) := by decide +kernel
theorem dP_set_15 : decode cP_set 15 = .ok (.new 67, 3) := by decide +kernel
theorem dP_set_18 : decode cP_set 18 = .ok (.dup, 1) := by decide +kernel
theorem dP_set_19 : decode cP_set 19 = .ok (.ldc 69, 2) := by decide +kernel
theorem dP_set_21 : decode cP_set 21 = .ok (.invokespecial 71, 3) := by decide +kernel
theorem dP_set_24 : decode cP_set 24 = .ok (.athrow, 1) := by decide +kernel
theorem dP_set_25 : decode cP_set 25 = .ok (.aload_n 0, 1) := by decide +kernel
theorem dP_set_26 : decode cP_set 26 = .ok (.getfield 10, 3) := by decide +kernel
theorem dP_set_29 : decode cP_set 29 = .ok (.iload_n 1, 1) := by decide +kernel
theorem dP_set_30 : decode cP_set 30 = .ok (.iload_n 2, 1) := by decide +kernel
theorem dP_set_31 : decode cP_set 31 = .ok (.iload_n 3, 1) := by decide +kernel
theorem dP_set_32 : decode cP_set 32 = .ok (.invokevirtual 74, 3) := by decide +kernel
theorem dP_set_35 : decode cP_set 35 = .ok (.return_, 1) := by decide +kernel
theorem dP_part_0 : decode cP_part 0 = .ok (.iload_n 1, 1) := by decide +kernel
theorem dP_part_1 : decode cP_part 1 = .ok (.iload_n 2, 1) := by decide +kernel
theorem dP_part_2 : decode cP_part 2 = .ok (.iload_n 3, 1) := by decide +kernel
theorem dP_part_3 : decode cP_part 3 = .ok (.invokestatic 78, 3) := by decide +kernel
theorem dP_part_6 : decode cP_part 6 = .ok (.ifCond .ne 13, 3) := by decide +kernel
theorem dP_part_9 : decode cP_part 9 = .ok (.new 67, 3) := by decide +kernel
theorem dP_part_12 : decode cP_part 12 = .ok (.dup, 1) := by decide +kernel
theorem dP_part_13 : decode cP_part 13 = .ok (.ldc 82, 2) := by decide +kernel
theorem dP_part_15 : decode cP_part 15 = .ok (.invokespecial 71, 3) := by decide +kernel
theorem dP_part_18 : decode cP_part 18 = .ok (.athrow, 1) := by decide +kernel
theorem dP_part_19 : decode cP_part 19 = .ok (.aload_n 0, 1) := by decide +kernel
theorem dP_part_20 : decode cP_part 20 = .ok (.getfield 10, 3) := by decide +kernel
theorem dP_part_23 : decode cP_part 23 = .ok (.iload_n 1, 1) := by decide +kernel
theorem dP_part_24 : decode cP_part 24 = .ok (.iload_n 2, 1) := by decide +kernel
theorem dP_part_25 : decode cP_part 25 = .ok (.iload_n 3, 1) := by decide +kernel
theorem dP_part_26 : decode cP_part 26 = .ok (.invokevirtual 84, 3) := by decide +kernel
theorem dP_part_29 : decode cP_part 29 = .ok (.ifCond .ne 13, 3) := by decide +kernel
theorem dP_part_32 : decode cP_part 32 = .ok (.new 87, 3) := by decide +kernel
theorem dP_part_35 : decode cP_part 35 = .ok (.dup, 1) := by decide +kernel
theorem dP_part_36 : decode cP_part 36 = .ok (.ldc 89, 2) := by decide +kernel
theorem dP_part_38 : decode cP_part 38 = .ok (.invokespecial 91, 3) := by decide +kernel
theorem dP_part_41 : decode cP_part 41 = .ok (.athrow, 1) := by decide +kernel
theorem dP_part_42 : decode cP_part 42 = .ok (.aload_n 0, 1) := by decide +kernel
theorem dP_part_43 : decode cP_part 43 = .ok (.getfield 10, 3) := by decide +kernel
theorem dP_part_46 : decode cP_part 46 = .ok (.iload_n 1, 1) := by decide +kernel
theorem dP_part_47 : decode cP_part 47 = .ok (.iload_n 2, 1) := by decide +kernel
theorem dP_part_48 : decode cP_part 48 = .ok (.iload_n 3, 1) := by decide +kernel
theorem dP_part_49 : decode cP_part 49 = .ok (.iload 4, 2) := by decide +kernel
theorem dP_part_51 : decode cP_part 51 = .ok (.invokevirtual 92, 3) := by decide +kernel
theorem dP_part_54 : decode cP_part 54 = .ok (.return_, 1) := by decide +kernel
theorem dP_type_0 : decode cP_type 0 = .ok (.iload_n 1, 1) := by decide +kernel
theorem dP_type_1 : decode cP_type 1 = .ok (.ifCond .lt 9, 3) := by decide +kernel
theorem dP_type_4 : decode cP_type 4 = .ok (.iload_n 1, 1) := by decide +kernel
theorem dP_type_5 : decode cP_type 5 = .ok (.bipush 75, 2) := by decide +kernel
theorem dP_type_7 : decode cP_type 7 = .ok (.if_icmp .lt 13, 3) := by decide +kernel
theorem dP_type_10 : decode cP_type 10 = .ok (.new 67, 3) := by decide +kernel
theorem dP_type_13 : decode cP_type 13 = .ok (.dup, 1) := by decide +kernel
theorem dP_type_14 : decode cP_type 14 = .ok (.ldc 96, 2) := by decide +kernel
theorem dP_type_16 : decode cP_type 16 = .ok (.invokespecial 71, 3) := by decide +kernel
theorem dP_type_19 : decode cP_type 19 = .ok (.athrow, 1) := by decide +kernel
theorem dP_type_20 : decode cP_type 20 = .ok (.aload_n 0, 1) := by decide +kernel
theorem dP_type_21 : decode cP_type 21 = .ok (.getfield 21, 3) := by decide +kernel
theorem dP_type_24 : decode cP_type 24 = .ok (.invokevirtual 98, 3) := by decide +kernel
theorem dP_type_27 : decode cP_type 27 = .ok (.bipush 40, 2) := by decide +kernel
theorem dP_type_29 : decode cP_type 29 = .ok (.if_icmp .lt 13, 3) := by decide +kernel
theorem dP_type_32 : decode cP_type 32 = .ok (.new 87, 3) := by decide +kernel
theorem dP_type_35 : decode cP_type 35 = .ok (.dup, 1) := by decide +kernel
theorem dP_type_36 : decode cP_type 36 = .ok (.ldc 102, 2) := by decide +kernel
theorem dP_type_38 : decode cP_type 38 = .ok (.invokespecial 91, 3) := by decide +kernel
theorem dP_type_41 : decode cP_type 41 = .ok (.athrow, 1) := by decide +kernel
theorem dP_type_42 : decode cP_type 42 = .ok (.aload_n 0, 1) := by decide +kernel
theorem dP_type_43 : decode cP_type 43 = .ok (.getfield 21, 3) := by decide +kernel
theorem dP_type_46 : decode cP_type 46 = .ok (.iload_n 1, 1) := by decide +kernel
theorem dP_type_47 : decode cP_type 47 = .ok (.invokevirtual 104, 3) := by decide +kernel
theorem dP_type_50 : decode cP_type 50 = .ok (.aload_n 0, 1) := by decide +kernel
theorem dP_type_51 : decode cP_type 51 = .ok (.getfield 21, 3) := by decide +kernel
theorem dP_type_54 : decode cP_type 54 = .ok (.invokevirtual 98, 3) := by decide +kernel
theorem dP_type_57 : decode cP_type 57 = .ok (.ireturn, 1) := by decide +kernel
theorem dP_wipe_0 : decode cP_wipe 0 = .ok (.aload_n 0, 1) := by decide +kernel
theorem dP_wipe_1 : decode cP_wipe 1 = .ok (.getfield 21, 3) := by decide +kernel
theorem dP_wipe_4 : decode cP_wipe 4 = .ok (.iconst 0, 1) := by decide +kernel
theorem dP_wipe_5 : decode cP_wipe 5 = .ok (.invokevirtual 107, 3) := by decide +kernel
theorem dP_wipe_8 : decode cP_wipe 8 = .ok (.return_, 1) := by decide +kernel
theorem dP_bring_0 : decode cP_bring 0 = .ok (.aload_n 0, 1) := by decide +kernel
theorem dP_bring_1 : decode cP_bring 1 = .ok (.getfield 10, 3) := by decide +kernel
theorem dP_bring_4 : decode cP_bring 4 = .ok (.aload_n 0, 1) := by decide +kernel
theorem dP_bring_5 : decode cP_bring 5 = .ok (.getfield 21, 3) := by decide +kernel
theorem dP_bring_8 : decode cP_bring 8 = .ok (.aload_n 0, 1) := by decide +kernel
theorem dP_bring_9 : decode cP_bring 9 = .ok (.getfield 31, 3) := by decide +kernel
theorem dP_bring_12 : decode cP_bring 12 = .ok (.invokestatic 110, 3) := by decide +kernel
theorem dP_bring_15 : decode cP_bring 15 = .ok (.iload_n 1, 1) := by decide +kernel
theorem dP_bring_16 : decode cP_bring 16 = .ok (.ifCond .eq 14, 3) := by decide +kernel
theorem dP_bring_19 : decode cP_bring 19 = .ok (.aload_n 0, 1) := by decide +kernel
theorem dP_bring_20 : decode cP_bring 20 = .ok (.getfield 10, 3) := by decide +kernel
theorem dP_bring_23 : decode cP_bring 23 = .ok (.aload_n 0, 1) := by decide +kernel
theorem dP_bring_24 : decode cP_bring 24 = .ok (.getfield 31, 3) := by decide +kernel
theorem dP_bring_27 : decode cP_bring 27 = .ok (.invokestatic 114, 3) := by decide +kernel
theorem dP_bring_30 : decode cP_bring 30 = .ok (.aload_n 0, 1) := by decide +kernel
theorem dP_bring_31 : decode cP_bring 31 = .ok (.getfield 31, 3) := by decide +kernel
theorem dP_bring_34 : decode cP_bring 34 = .ok (.invokevirtual 98, 3) := by decide +kernel
theorem dP_bring_37 : decode cP_bring 37 = .ok (.bipush 40, 2) := by decide +kernel
theorem dP_bring_39 : decode cP_bring 39 = .ok (.if_icmp .le 13, 3) := by decide +kernel
theorem dP_bring_42 : decode cP_bring 42 = .ok (.new 87, 3) := by decide +kernel
theorem dP_bring_45 : decode cP_bring 45 = .ok (.dup, 1) := by decide +kernel
theorem dP_bring_46 : decode cP_bring 46 = .ok (.ldc 118, 2) := by decide +kernel
theorem dP_bring_48 : decode cP_bring 48 = .ok (.invokespecial 91, 3) := by decide +kernel
theorem dP_bring_51 : decode cP_bring 51 = .ok (.athrow, 1) := by decide +kernel
theorem dP_bring_52 : decode cP_bring 52 = .ok (.aload_n 0, 1) := by decide +kernel
theorem dP_bring_53 : decode cP_bring 53 = .ok (.getfield 21, 3) := by decide +kernel
theorem dP_bring_56 : decode cP_bring 56 = .ok (.aload_n 0, 1) := by decide +kernel
theorem dP_bring_57 : decode cP_bring 57 = .ok (.getfield 31, 3) := by decide +kernel
theorem dP_bring_60 : decode cP_bring 60 = .ok (.invokevirtual 120, 3) := by decide +kernel
theorem dP_bring_63 : decode cP_bring 63 = .ok (.aload_n 0, 1) := by decide +kernel
theorem dP_bring_64 : decode cP_bring 64 = .ok (.getfield 21, 3) := by decide +kernel
theorem dP_bring_67 : decode cP_bring 67 = .ok (.invokevirtual 98, 3) := by decide +kernel
theorem dP_bring_70 : decode cP_bring 70 = .ok (.ireturn, 1) := by decide +kernel
theorem dP_at_0 : decode cP_at 0 = .ok (.aload_n 0, 1) := by decide +kernel
theorem dP_at_1 : decode cP_at 1 = .ok (.iload_n 1, 1) := by decide +kernel
theorem dP_at_2 : decode cP_at 2 = .ok (.invokevirtual 124, 3) := by decide +kernel
theorem dP_at_5 : decode cP_at 5 = .ok (.aload_n 0, 1) := by decide +kernel
theorem dP_at_6 : decode cP_at 6 = .ok (.getfield 21, 3) := by decide +kernel
theorem dP_at_9 : decode cP_at 9 = .ok (.iload_n 1, 1) := by decide +kernel
theorem dP_at_10 : decode cP_at 10 = .ok (.invokevirtual 127, 3) := by decide +kernel
theorem dP_at_13 : decode cP_at 13 = .ok (.ireturn, 1) := by decide +kernel
theorem dP_cluster_0 : decode cP_cluster 0 = .ok (.aload_n 0, 1) := by decide +kernel
theorem dP_cluster_1 : decode cP_cluster 1 = .ok (.iload_n 1, 1) := by decide +kernel
theorem dP_cluster_2 : decode cP_cluster 2 = .ok (.invokevirtual 131, 3) := by decide +kernel
theorem dP_cluster_5 : decode cP_cluster 5 = .ok (.aload_n 0, 1) := by decide +kernel
theorem dP_cluster_6 : decode cP_cluster 6 = .ok (.getfield 10, 3) := by decide +kernel
theorem dP_cluster_9 : decode cP_cluster 9 = .ok (.aload_n 0, 1) := by decide +kernel
theorem dP_cluster_10 : decode cP_cluster 10 = .ok (.getfield 21, 3) := by decide +kernel
theorem dP_cluster_13 : decode cP_cluster 13 = .ok (.iload_n 1, 1) := by decide +kernel
theorem dP_cluster_14 : decode cP_cluster 14 = .ok (.invokestatic 134, 3) := by decide +kernel
theorem dP_cluster_17 : decode cP_cluster 17 = .ok (.ireturn, 1) := by decide +kernel
theorem dP_clusters_0 : decode cP_clusters 0 = .ok (.iconst 0, 1) := by decide +kernel
theorem dP_clusters_1 : decode cP_clusters 1 = .ok (.istore_n 1, 1) := by decide +kernel
theorem dP_clusters_2 : decode cP_clusters 2 = .ok (.iconst 1, 1) := by decide +kernel
theorem dP_clusters_3 : decode cP_clusters 3 = .ok (.istore_n 2, 1) := by decide +kernel
theorem dP_clusters_4 : decode cP_clusters 4 = .ok (.iload_n 2, 1) := by decide +kernel
theorem dP_clusters_5 : decode cP_clusters 5 = .ok (.aload_n 0, 1) := by decide +kernel
theorem dP_clusters_6 : decode cP_clusters 6 = .ok (.getfield 21, 3) := by decide +kernel
theorem dP_clusters_9 : decode cP_clusters 9 = .ok (.invokevirtual 98, 3) := by decide +kernel
theorem dP_clusters_12 : decode cP_clusters 12 = .ok (.if_icmp .gt 27, 3) := by decide +kernel
theorem dP_clusters_15 : decode cP_clusters 15 = .ok (.aload_n 0, 1) := by decide +kernel
theorem dP_clusters_16 : decode cP_clusters 16 = .ok (.getfield 10, 3) := by decide +kernel
theorem dP_clusters_19 : decode cP_clusters 19 = .ok (.aload_n 0, 1) := by decide +kernel
theorem dP_clusters_20 : decode cP_clusters 20 = .ok (.getfield 21, 3) := by decide +kernel
theorem dP_clusters_23 : decode cP_clusters 23 = .ok (.iload_n 2, 1) := by decide +kernel
theorem dP_clusters_24 : decode cP_clusters 24 = .ok (.invokestatic 134, 3) := by decide +kernel
theorem dP_clusters_27 : decode cP_clusters 27 = .ok (.ifCond .eq 6, 3) := by decide +kernel
theorem dP_clusters_30 : decode cP_clusters 30 = .ok (.iinc 1 1, 3) := by decide +kernel
theorem dP_clusters_33 : decode cP_clusters 33 = .ok (.iinc 2 1, 3) := by decide +kernel
theorem dP_clusters_36 : decode cP_clusters 36 = .ok (.goto (-32), 3) := by decide +kernel
theorem dP_clusters_39 : decode cP_clusters 39 = .ok (.iload_n 1, 1) := by decide +kernel
theorem dP_clusters_40 : decode cP_clusters 40 = .ok (.ireturn, 1) := by decide +kernel
theorem dP_line_0 : decode cP_line 0 = .ok (.aload_n 0, 1) := by decide +kernel
theorem dP_line_1 : decode cP_line 1 = .ok (.iload_n 1, 1) := by decide +kernel
theorem dP_line_2 : decode cP_line 2 = .ok (.invokevirtual 131, 3) := by decide +kernel
theorem dP_line_5 : decode cP_line 5 = .ok (.aload_n 0, 1) := by decide +kernel
theorem dP_line_6 : decode cP_line 6 = .ok (.getfield 48, 3) := by decide +kernel
theorem dP_line_9 : decode cP_line 9 = .ok (.aload_n 0, 1) := by decide +kernel
theorem dP_line_10 : decode cP_line 10 = .ok (.getfield 10, 3) := by decide +kernel
theorem dP_line_13 : decode cP_line 13 = .ok (.aload_n 0, 1) := by decide +kernel
theorem dP_line_14 : decode cP_line 14 = .ok (.getfield 21, 3) := by decide +kernel
theorem dP_line_17 : decode cP_line 17 = .ok (.iload_n 1, 1) := by decide +kernel
theorem dP_line_18 : decode cP_line 18 = .ok (.invokevirtual 140, 3) := by decide +kernel
theorem dP_line_21 : decode cP_line 21 = .ok (.ireturn, 1) := by decide +kernel
theorem dP_level_0 : decode cP_level 0 = .ok (.aload_n 0, 1) := by decide +kernel
theorem dP_level_1 : decode cP_level 1 = .ok (.iload_n 1, 1) := by decide +kernel
theorem dP_level_2 : decode cP_level 2 = .ok (.invokevirtual 124, 3) := by decide +kernel
theorem dP_level_5 : decode cP_level 5 = .ok (.aload_n 0, 1) := by decide +kernel
theorem dP_level_6 : decode cP_level 6 = .ok (.getfield 55, 3) := by decide +kernel
theorem dP_level_9 : decode cP_level 9 = .ok (.aload_n 0, 1) := by decide +kernel
theorem dP_level_10 : decode cP_level 10 = .ok (.getfield 10, 3) := by decide +kernel
theorem dP_level_13 : decode cP_level 13 = .ok (.aload_n 0, 1) := by decide +kernel
theorem dP_level_14 : decode cP_level 14 = .ok (.getfield 21, 3) := by decide +kernel
theorem dP_level_17 : decode cP_level 17 = .ok (.iload_n 2, 1) := by decide +kernel
theorem dP_level_18 : decode cP_level 18 = .ok (.invokevirtual 144, 3) := by decide +kernel
theorem dP_level_21 : decode cP_level 21 = .ok (.aload_n 0, 1) := by decide +kernel
theorem dP_level_22 : decode cP_level 22 = .ok (.getfield 55, 3) := by decide +kernel
theorem dP_level_25 : decode cP_level 25 = .ok (.iload_n 1, 1) := by decide +kernel
theorem dP_level_26 : decode cP_level 26 = .ok (.invokevirtual 148, 3) := by decide +kernel
theorem dP_level_29 : decode cP_level 29 = .ok (.ireturn, 1) := by decide +kernel
theorem dP_order_0 : decode cP_order 0 = .ok (.aload_n 0, 1) := by decide +kernel
theorem dP_order_1 : decode cP_order 1 = .ok (.iload_n 1, 1) := by decide +kernel
theorem dP_order_2 : decode cP_order 2 = .ok (.invokevirtual 124, 3) := by decide +kernel
theorem dP_order_5 : decode cP_order 5 = .ok (.aload_n 0, 1) := by decide +kernel
theorem dP_order_6 : decode cP_order 6 = .ok (.getfield 55, 3) := by decide +kernel
theorem dP_order_9 : decode cP_order 9 = .ok (.aload_n 0, 1) := by decide +kernel
theorem dP_order_10 : decode cP_order 10 = .ok (.getfield 10, 3) := by decide +kernel
theorem dP_order_13 : decode cP_order 13 = .ok (.aload_n 0, 1) := by decide +kernel
theorem dP_order_14 : decode cP_order 14 = .ok (.getfield 21, 3) := by decide +kernel
theorem dP_order_17 : decode cP_order 17 = .ok (.iload_n 2, 1) := by decide +kernel
theorem dP_order_18 : decode cP_order 18 = .ok (.invokevirtual 144, 3) := by decide +kernel
theorem dP_order_21 : decode cP_order 21 = .ok (.aload_n 0, 1) := by decide +kernel
theorem dP_order_22 : decode cP_order 22 = .ok (.getfield 55, 3) := by decide +kernel
theorem dP_order_25 : decode cP_order 25 = .ok (.aload_n 0, 1) := by decide +kernel
theorem dP_order_26 : decode cP_order 26 = .ok (.getfield 21, 3) := by decide +kernel
theorem dP_order_29 : decode cP_order 29 = .ok (.invokevirtual 98, 3) := by decide +kernel
theorem dP_order_32 : decode cP_order 32 = .ok (.invokevirtual 151, 3) := by decide +kernel
theorem dP_order_35 : decode cP_order 35 = .ok (.aload_n 0, 1) := by decide +kernel
theorem dP_order_36 : decode cP_order 36 = .ok (.getfield 55, 3) := by decide +kernel
theorem dP_order_39 : decode cP_order 39 = .ok (.iload_n 1, 1) := by decide +kernel
theorem dP_order_40 : decode cP_order 40 = .ok (.invokevirtual 154, 3) := by decide +kernel
theorem dP_order_43 : decode cP_order 43 = .ok (.ireturn, 1) := by decide +kernel
theorem dP_key_0 : decode cP_key 0 = .ok (.aload_n 0, 1) := by decide +kernel
theorem dP_key_1 : decode cP_key 1 = .ok (.invokevirtual 157, 3) := by decide +kernel
theorem dP_key_4 : decode cP_key 4 = .ok (.aload_n 0, 1) := by decide +kernel
theorem dP_key_5 : decode cP_key 5 = .ok (.getfield 39, 3) := by decide +kernel
theorem dP_key_8 : decode cP_key 8 = .ok (.invokevirtual 98, 3) := by decide +kernel
theorem dP_key_11 : decode cP_key 11 = .ok (.ireturn, 1) := by decide +kernel
theorem dP_keyAt_0 : decode cP_keyAt 0 = .ok (.aload_n 0, 1) := by decide +kernel
theorem dP_keyAt_1 : decode cP_keyAt 1 = .ok (.invokevirtual 157, 3) := by decide +kernel
theorem dP_keyAt_4 : decode cP_keyAt 4 = .ok (.iload_n 1, 1) := by decide +kernel
theorem dP_keyAt_5 : decode cP_keyAt 5 = .ok (.ifCond .lt 14, 3) := by decide +kernel
theorem dP_keyAt_8 : decode cP_keyAt 8 = .ok (.iload_n 1, 1) := by decide +kernel
theorem dP_keyAt_9 : decode cP_keyAt 9 = .ok (.aload_n 0, 1) := by decide +kernel
theorem dP_keyAt_10 : decode cP_keyAt 10 = .ok (.getfield 39, 3) := by decide +kernel
theorem dP_keyAt_13 : decode cP_keyAt 13 = .ok (.invokevirtual 98, 3) := by decide +kernel
theorem dP_keyAt_16 : decode cP_keyAt 16 = .ok (.if_icmp .lt 13, 3) := by decide +kernel
theorem dP_keyAt_19 : decode cP_keyAt 19 = .ok (.new 160, 3) := by decide +kernel
theorem dP_keyAt_22 : decode cP_keyAt 22 = .ok (.dup, 1) := by decide +kernel
theorem dP_keyAt_23 : decode cP_keyAt 23 = .ok (.ldc 162, 2) := by decide +kernel
theorem dP_keyAt_25 : decode cP_keyAt 25 = .ok (.invokespecial 164, 3) := by decide +kernel
theorem dP_keyAt_28 : decode cP_keyAt 28 = .ok (.athrow, 1) := by decide +kernel
theorem dP_keyAt_29 : decode cP_keyAt 29 = .ok (.aload_n 0, 1) := by decide +kernel
theorem dP_keyAt_30 : decode cP_keyAt 30 = .ok (.getfield 39, 3) := by decide +kernel
theorem dP_keyAt_33 : decode cP_keyAt 33 = .ok (.iload_n 1, 1) := by decide +kernel
theorem dP_keyAt_34 : decode cP_keyAt 34 = .ok (.invokevirtual 127, 3) := by decide +kernel
theorem dP_keyAt_37 : decode cP_keyAt 37 = .ok (.ireturn, 1) := by decide +kernel
theorem dP_keep_0 : decode cP_keep 0 = .ok (.iload_n 1, 1) := by decide +kernel
theorem dP_keep_1 : decode cP_keep 1 = .ok (.invokestatic 165, 3) := by decide +kernel
theorem dP_keep_4 : decode cP_keep 4 = .ok (.aload_n 0, 1) := by decide +kernel
theorem dP_keep_5 : decode cP_keep 5 = .ok (.getfield 25, 3) := by decide +kernel
theorem dP_keep_8 : decode cP_keep 8 = .ok (.iload_n 1, 1) := by decide +kernel
theorem dP_keep_9 : decode cP_keep 9 = .ok (.aaload, 1) := by decide +kernel
theorem dP_keep_10 : decode cP_keep 10 = .ok (.aload_n 0, 1) := by decide +kernel
theorem dP_keep_11 : decode cP_keep 11 = .ok (.getfield 21, 3) := by decide +kernel
theorem dP_keep_14 : decode cP_keep 14 = .ok (.invokevirtual 120, 3) := by decide +kernel
theorem dP_keep_17 : decode cP_keep 17 = .ok (.return_, 1) := by decide +kernel
theorem dP_compare_0 : decode cP_compare 0 = .ok (.iload_n 1, 1) := by decide +kernel
theorem dP_compare_1 : decode cP_compare 1 = .ok (.invokestatic 165, 3) := by decide +kernel
theorem dP_compare_4 : decode cP_compare 4 = .ok (.aload_n 0, 1) := by decide +kernel
theorem dP_compare_5 : decode cP_compare 5 = .ok (.invokevirtual 157, 3) := by decide +kernel
theorem dP_compare_8 : decode cP_compare 8 = .ok (.aload_n 0, 1) := by decide +kernel
theorem dP_compare_9 : decode cP_compare 9 = .ok (.getfield 10, 3) := by decide +kernel
theorem dP_compare_12 : decode cP_compare 12 = .ok (.aload_n 0, 1) := by decide +kernel
theorem dP_compare_13 : decode cP_compare 13 = .ok (.getfield 25, 3) := by decide +kernel
theorem dP_compare_16 : decode cP_compare 16 = .ok (.iload_n 1, 1) := by decide +kernel
theorem dP_compare_17 : decode cP_compare 17 = .ok (.aaload, 1) := by decide +kernel
theorem dP_compare_18 : decode cP_compare 18 = .ok (.aload_n 0, 1) := by decide +kernel
theorem dP_compare_19 : decode cP_compare 19 = .ok (.getfield 34, 3) := by decide +kernel
theorem dP_compare_22 : decode cP_compare 22 = .ok (.invokestatic 110, 3) := by decide +kernel
theorem dP_compare_25 : decode cP_compare 25 = .ok (.aload_n 0, 1) := by decide +kernel
theorem dP_compare_26 : decode cP_compare 26 = .ok (.getfield 10, 3) := by decide +kernel
theorem dP_compare_29 : decode cP_compare 29 = .ok (.aload_n 0, 1) := by decide +kernel
theorem dP_compare_30 : decode cP_compare 30 = .ok (.getfield 34, 3) := by decide +kernel
theorem dP_compare_33 : decode cP_compare 33 = .ok (.aload_n 0, 1) := by decide +kernel
theorem dP_compare_34 : decode cP_compare 34 = .ok (.getfield 42, 3) := by decide +kernel
theorem dP_compare_37 : decode cP_compare 37 = .ok (.invokestatic 168, 3) := by decide +kernel
theorem dP_compare_40 : decode cP_compare 40 = .ok (.aload_n 0, 1) := by decide +kernel
theorem dP_compare_41 : decode cP_compare 41 = .ok (.getfield 39, 3) := by decide +kernel
theorem dP_compare_44 : decode cP_compare 44 = .ok (.aload_n 0, 1) := by decide +kernel
theorem dP_compare_45 : decode cP_compare 45 = .ok (.getfield 42, 3) := by decide +kernel
theorem dP_compare_48 : decode cP_compare 48 = .ok (.invokevirtual 171, 3) := by decide +kernel
theorem dP_compare_51 : decode cP_compare 51 = .ok (.ireturn, 1) := by decide +kernel
theorem dP_same_0 : decode cP_same 0 = .ok (.iload_n 1, 1) := by decide +kernel
theorem dP_same_1 : decode cP_same 1 = .ok (.invokestatic 165, 3) := by decide +kernel
theorem dP_same_4 : decode cP_same 4 = .ok (.aload_n 0, 1) := by decide +kernel
theorem dP_same_5 : decode cP_same 5 = .ok (.getfield 10, 3) := by decide +kernel
theorem dP_same_8 : decode cP_same 8 = .ok (.aload_n 0, 1) := by decide +kernel
theorem dP_same_9 : decode cP_same 9 = .ok (.getfield 21, 3) := by decide +kernel
theorem dP_same_12 : decode cP_same 12 = .ok (.aload_n 0, 1) := by decide +kernel
theorem dP_same_13 : decode cP_same 13 = .ok (.getfield 31, 3) := by decide +kernel
theorem dP_same_16 : decode cP_same 16 = .ok (.invokestatic 110, 3) := by decide +kernel
theorem dP_same_19 : decode cP_same 19 = .ok (.aload_n 0, 1) := by decide +kernel
theorem dP_same_20 : decode cP_same 20 = .ok (.getfield 10, 3) := by decide +kernel
theorem dP_same_23 : decode cP_same 23 = .ok (.aload_n 0, 1) := by decide +kernel
theorem dP_same_24 : decode cP_same 24 = .ok (.getfield 25, 3) := by decide +kernel
theorem dP_same_27 : decode cP_same 27 = .ok (.iload_n 1, 1) := by decide +kernel
theorem dP_same_28 : decode cP_same 28 = .ok (.aaload, 1) := by decide +kernel
theorem dP_same_29 : decode cP_same 29 = .ok (.aload_n 0, 1) := by decide +kernel
theorem dP_same_30 : decode cP_same 30 = .ok (.getfield 34, 3) := by decide +kernel
theorem dP_same_33 : decode cP_same 33 = .ok (.invokestatic 110, 3) := by decide +kernel
theorem dP_same_36 : decode cP_same 36 = .ok (.aload_n 0, 1) := by decide +kernel
theorem dP_same_37 : decode cP_same 37 = .ok (.getfield 31, 3) := by decide +kernel
theorem dP_same_40 : decode cP_same 40 = .ok (.aload_n 0, 1) := by decide +kernel
theorem dP_same_41 : decode cP_same 41 = .ok (.getfield 34, 3) := by decide +kernel
theorem dP_same_44 : decode cP_same 44 = .ok (.invokevirtual 171, 3) := by decide +kernel
theorem dP_same_47 : decode cP_same 47 = .ok (.ifCond .ne 7, 3) := by decide +kernel
theorem dP_same_50 : decode cP_same 50 = .ok (.iconst 1, 1) := by decide +kernel
theorem dP_same_51 : decode cP_same 51 = .ok (.goto 4, 3) := by decide +kernel
theorem dP_same_54 : decode cP_same 54 = .ok (.iconst 0, 1) := by decide +kernel
theorem dP_same_55 : decode cP_same 55 = .ok (.ireturn, 1) := by decide +kernel
theorem dP_fillOwnKey_0 : decode cP_fillOwnKey 0 = .ok (.aload_n 0, 1) := by decide +kernel
theorem dP_fillOwnKey_1 : decode cP_fillOwnKey 1 = .ok (.getfield 10, 3) := by decide +kernel
theorem dP_fillOwnKey_4 : decode cP_fillOwnKey 4 = .ok (.aload_n 0, 1) := by decide +kernel
theorem dP_fillOwnKey_5 : decode cP_fillOwnKey 5 = .ok (.getfield 21, 3) := by decide +kernel
theorem dP_fillOwnKey_8 : decode cP_fillOwnKey 8 = .ok (.aload_n 0, 1) := by decide +kernel
theorem dP_fillOwnKey_9 : decode cP_fillOwnKey 9 = .ok (.getfield 31, 3) := by decide +kernel
theorem dP_fillOwnKey_12 : decode cP_fillOwnKey 12 = .ok (.invokestatic 110, 3) := by decide +kernel
theorem dP_fillOwnKey_15 : decode cP_fillOwnKey 15 = .ok (.aload_n 0, 1) := by decide +kernel
theorem dP_fillOwnKey_16 : decode cP_fillOwnKey 16 = .ok (.getfield 10, 3) := by decide +kernel
theorem dP_fillOwnKey_19 : decode cP_fillOwnKey 19 = .ok (.aload_n 0, 1) := by decide +kernel
theorem dP_fillOwnKey_20 : decode cP_fillOwnKey 20 = .ok (.getfield 31, 3) := by decide +kernel
theorem dP_fillOwnKey_23 : decode cP_fillOwnKey 23 = .ok (.aload_n 0, 1) := by decide +kernel
theorem dP_fillOwnKey_24 : decode cP_fillOwnKey 24 = .ok (.getfield 39, 3) := by decide +kernel
theorem dP_fillOwnKey_27 : decode cP_fillOwnKey 27 = .ok (.invokestatic 168, 3) := by decide +kernel
theorem dP_fillOwnKey_30 : decode cP_fillOwnKey 30 = .ok (.return_, 1) := by decide +kernel
theorem dP_requireCharacter_0 : decode cP_requireCharacter 0 = .ok (.iload_n 1, 1) := by decide +kernel
theorem dP_requireCharacter_1 : decode cP_requireCharacter 1 = .ok (.ifCond .lt 14, 3) := by decide +kernel
theorem dP_requireCharacter_4 : decode cP_requireCharacter 4 = .ok (.iload_n 1, 1) := by decide +kernel
theorem dP_requireCharacter_5 : decode cP_requireCharacter 5 = .ok (.aload_n 0, 1) := by decide +kernel
theorem dP_requireCharacter_6 : decode cP_requireCharacter 6 = .ok (.getfield 21, 3) := by decide +kernel
theorem dP_requireCharacter_9 : decode cP_requireCharacter 9 = .ok (.invokevirtual 98, 3) := by decide +kernel
theorem dP_requireCharacter_12 : decode cP_requireCharacter 12 = .ok (.if_icmp .lt 13, 3) := by decide +kernel
theorem dP_requireCharacter_15 : decode cP_requireCharacter 15 = .ok (.new 160, 3) := by decide +kernel
theorem dP_requireCharacter_18 : decode cP_requireCharacter 18 = .ok (.dup, 1) := by decide +kernel
theorem dP_requireCharacter_19 : decode cP_requireCharacter 19 = .ok (.ldc 175, 2) := by decide +kernel
theorem dP_requireCharacter_21 : decode cP_requireCharacter 21 = .ok (.invokespecial 164, 3) := by decide +kernel
theorem dP_requireCharacter_24 : decode cP_requireCharacter 24 = .ok (.athrow, 1) := by decide +kernel
theorem dP_requireCharacter_25 : decode cP_requireCharacter 25 = .ok (.return_, 1) := by decide +kernel
theorem dP_requirePlace_0 : decode cP_requirePlace 0 = .ok (.iload_n 1, 1) := by decide +kernel
theorem dP_requirePlace_1 : decode cP_requirePlace 1 = .ok (.ifCond .lt 14, 3) := by decide +kernel
theorem dP_requirePlace_4 : decode cP_requirePlace 4 = .ok (.iload_n 1, 1) := by decide +kernel
theorem dP_requirePlace_5 : decode cP_requirePlace 5 = .ok (.aload_n 0, 1) := by decide +kernel
theorem dP_requirePlace_6 : decode cP_requirePlace 6 = .ok (.getfield 21, 3) := by decide +kernel
theorem dP_requirePlace_9 : decode cP_requirePlace 9 = .ok (.invokevirtual 98, 3) := by decide +kernel
theorem dP_requirePlace_12 : decode cP_requirePlace 12 = .ok (.if_icmp .le 13, 3) := by decide +kernel
theorem dP_requirePlace_15 : decode cP_requirePlace 15 = .ok (.new 160, 3) := by decide +kernel
theorem dP_requirePlace_18 : decode cP_requirePlace 18 = .ok (.dup, 1) := by decide +kernel
theorem dP_requirePlace_19 : decode cP_requirePlace 19 = .ok (.ldc 177, 2) := by decide +kernel
theorem dP_requirePlace_21 : decode cP_requirePlace 21 = .ok (.invokespecial 164, 3) := by decide +kernel
theorem dP_requirePlace_24 : decode cP_requirePlace 24 = .ok (.athrow, 1) := by decide +kernel
theorem dP_requirePlace_25 : decode cP_requirePlace 25 = .ok (.return_, 1) := by decide +kernel
theorem dP_requireSlot_0 : decode cP_requireSlot 0 = .ok (.iload_n 0, 1) := by decide +kernel
theorem dP_requireSlot_1 : decode cP_requireSlot 1 = .ok (.ifCond .lt 8, 3) := by decide +kernel
theorem dP_requireSlot_4 : decode cP_requireSlot 4 = .ok (.iload_n 0, 1) := by decide +kernel
theorem dP_requireSlot_5 : decode cP_requireSlot 5 = .ok (.iconst 4, 1) := by decide +kernel
theorem dP_requireSlot_6 : decode cP_requireSlot 6 = .ok (.if_icmp .lt 13, 3) := by decide +kernel
theorem dP_requireSlot_9 : decode cP_requireSlot 9 = .ok (.new 160, 3) := by decide +kernel
theorem dP_requireSlot_12 : decode cP_requireSlot 12 = .ok (.dup, 1) := by decide +kernel
theorem dP_requireSlot_13 : decode cP_requireSlot 13 = .ok (.ldc 179, 2) := by decide +kernel
theorem dP_requireSlot_15 : decode cP_requireSlot 15 = .ok (.invokespecial 164, 3) := by decide +kernel
theorem dP_requireSlot_18 : decode cP_requireSlot 18 = .ok (.athrow, 1) := by decide +kernel
theorem dP_requireSlot_19 : decode cP_requireSlot 19 = .ok (.return_, 1) := by decide +kernel
