theorem dX7_merge_49 : decode cX7_merge 49 = .ok (.iload_n 2, 1) := by decide +kernel
theorem dX7_merge_50 : decode cX7_merge 50 = .ok (.iadd, 1) := by decide +kernel
theorem dX7_merge_51 : decode cX7_merge 51 = .ok (.iaload, 1) := by decide +kernel
theorem dX7_merge_52 : decode cX7_merge 52 = .ok (.aload_n 0, 1) := by decide +kernel
theorem dX7_merge_53 : decode cX7_merge 53 = .ok (.getfield 7, 3) := by decide +kernel
theorem dX7_merge_56 : decode cX7_merge 56 = .ok (.bipush 31, 2) := by decide +kernel
theorem dX7_merge_58 : decode cX7_merge 58 = .ok (.iload_n 3, 1) := by decide +kernel
theorem dX7_merge_59 : decode cX7_merge 59 = .ok (.iadd, 1) := by decide +kernel
theorem dX7_merge_60 : decode cX7_merge 60 = .ok (.iaload, 1) := by decide +kernel
theorem dX7_merge_61 : decode cX7_merge 61 = .ok (.invokevirtual 182, 3) := by decide +kernel
theorem dX7_merge_64 : decode cX7_merge 64 = .ok (.istore 4, 2) := by decide +kernel
theorem dX7_merge_66 : decode cX7_merge 66 = .ok (.iload_n 1, 1) := by decide +kernel
theorem dX7_merge_67 : decode cX7_merge 67 = .ok (.ifCond .ne 8, 3) := by decide +kernel
theorem dX7_merge_70 : decode cX7_merge 70 = .ok (.iload 4, 2) := by decide +kernel
theorem dX7_merge_72 : decode cX7_merge 72 = .ok (.ifCond .eq 7, 3) := by decide +kernel
theorem dX7_merge_75 : decode cX7_merge 75 = .ok (.iconst 1, 1) := by decide +kernel
theorem dX7_merge_76 : decode cX7_merge 76 = .ok (.goto 4, 3) := by decide +kernel
theorem dX7_merge_79 : decode cX7_merge 79 = .ok (.iconst 0, 1) := by decide +kernel
theorem dX7_merge_80 : decode cX7_merge 80 = .ok (.istore_n 1, 1) := by decide +kernel
theorem dX7_merge_81 : decode cX7_merge 81 = .ok (.iinc 3 1, 3) := by decide +kernel
theorem dX7_merge_84 : decode cX7_merge 84 = .ok (.goto (-68), 3) := by decide +kernel
theorem dX7_merge_87 : decode cX7_merge 87 = .ok (.iinc 2 1, 3) := by decide +kernel
theorem dX7_merge_90 : decode cX7_merge 90 = .ok (.goto (-86), 3) := by decide +kernel
theorem dX7_merge_93 : decode cX7_merge 93 = .ok (.iload_n 1, 1) := by decide +kernel
theorem dX7_merge_94 : decode cX7_merge 94 = .ok (.ireturn, 1) := by decide +kernel
theorem dX7_mergeGroups_0 : decode cX7_mergeGroups 0 = .ok (.iconst 0, 1) := by decide +kernel
theorem dX7_mergeGroups_1 : decode cX7_mergeGroups 1 = .ok (.istore_n 3, 1) := by decide +kernel
theorem dX7_mergeGroups_2 : decode cX7_mergeGroups 2 = .ok (.iconst 0, 1) := by decide +kernel
theorem dX7_mergeGroups_3 : decode cX7_mergeGroups 3 = .ok (.istore 4, 2) := by decide +kernel
theorem dX7_mergeGroups_5 : decode cX7_mergeGroups 5 = .ok (.iload 4, 2) := by decide +kernel
theorem dX7_mergeGroups_7 : decode cX7_mergeGroups 7 = .ok (.aload_n 0, 1) := by decide +kernel
theorem dX7_mergeGroups_8 : decode cX7_mergeGroups 8 = .ok (.getfield 7, 3) := by decide +kernel
theorem dX7_mergeGroups_11 : decode cX7_mergeGroups 11 = .ok (.iconst 0, 1) := by decide +kernel
theorem dX7_mergeGroups_12 : decode cX7_mergeGroups 12 = .ok (.iaload, 1) := by decide +kernel
theorem dX7_mergeGroups_13 : decode cX7_mergeGroups 13 = .ok (.if_icmp .ge 144, 3) := by decide +kernel
theorem dX7_mergeGroups_16 : decode cX7_mergeGroups 16 = .ok (.iconst 0, 1) := by decide +kernel
theorem dX7_mergeGroups_17 : decode cX7_mergeGroups 17 = .ok (.istore 5, 2) := by decide +kernel
theorem dX7_mergeGroups_19 : decode cX7_mergeGroups 19 = .ok (.iload 5, 2) := by decide +kernel
theorem dX7_mergeGroups_21 : decode cX7_mergeGroups 21 = .ok (.aload_n 0, 1) := by decide +kernel
theorem dX7_mergeGroups_22 : decode cX7_mergeGroups 22 = .ok (.getfield 7, 3) := by decide +kernel
theorem dX7_mergeGroups_25 : decode cX7_mergeGroups 25 = .ok (.iconst 0, 1) := by decide +kernel
theorem dX7_mergeGroups_26 : decode cX7_mergeGroups 26 = .ok (.iaload, 1) := by decide +kernel
theorem dX7_mergeGroups_27 : decode cX7_mergeGroups 27 = .ok (.if_icmp .ge 124, 3) := by decide +kernel
theorem dX7_mergeGroups_30 : decode cX7_mergeGroups 30 = .ok (.aload_n 0, 1) := by decide +kernel
theorem dX7_mergeGroups_31 : decode cX7_mergeGroups 31 = .ok (.getfield 7, 3) := by decide +kernel
theorem dX7_mergeGroups_34 : decode cX7_mergeGroups 34 = .ok (.bipush 31, 2) := by decide +kernel
theorem dX7_mergeGroups_36 : decode cX7_mergeGroups 36 = .ok (.iload 4, 2) := by decide +kernel
theorem dX7_mergeGroups_38 : decode cX7_mergeGroups 38 = .ok (.iadd, 1) := by decide +kernel
theorem dX7_mergeGroups_39 : decode cX7_mergeGroups 39 = .ok (.iaload, 1) := by decide +kernel
theorem dX7_mergeGroups_40 : decode cX7_mergeGroups 40 = .ok (.iload_n 1, 1) := by decide +kernel
theorem dX7_mergeGroups_41 : decode cX7_mergeGroups 41 = .ok (.if_icmp .ne 51, 3) := by decide +kernel
theorem dX7_mergeGroups_44 : decode cX7_mergeGroups 44 = .ok (.aload_n 0, 1) := by decide +kernel
theorem dX7_mergeGroups_45 : decode cX7_mergeGroups 45 = .ok (.getfield 7, 3) := by decide +kernel
theorem dX7_mergeGroups_48 : decode cX7_mergeGroups 48 = .ok (.bipush 31, 2) := by decide +kernel
theorem dX7_mergeGroups_50 : decode cX7_mergeGroups 50 = .ok (.iload 5, 2) := by decide +kernel
theorem dX7_mergeGroups_52 : decode cX7_mergeGroups 52 = .ok (.iadd, 1) := by decide +kernel
theorem dX7_mergeGroups_53 : decode cX7_mergeGroups 53 = .ok (.iaload, 1) := by decide +kernel
theorem dX7_mergeGroups_54 : decode cX7_mergeGroups 54 = .ok (.iload_n 2, 1) := by decide +kernel
theorem dX7_mergeGroups_55 : decode cX7_mergeGroups 55 = .ok (.if_icmp .ne 37, 3) := by decide +kernel
theorem dX7_mergeGroups_58 : decode cX7_mergeGroups 58 = .ok (.aload_n 0, 1) := by decide +kernel
theorem dX7_mergeGroups_59 : decode cX7_mergeGroups 59 = .ok (.getfield 7, 3) := by decide +kernel
theorem dX7_mergeGroups_62 : decode cX7_mergeGroups 62 = .ok (.iload 4, 2) := by decide +kernel
theorem dX7_mergeGroups_64 : decode cX7_mergeGroups 64 = .ok (.invokestatic 84, 3) := by decide +kernel
theorem dX7_mergeGroups_67 : decode cX7_mergeGroups 67 = .ok (.ifCond .eq 25, 3) := by decide +kernel
theorem dX7_mergeGroups_70 : decode cX7_mergeGroups 70 = .ok (.aload_n 0, 1) := by decide +kernel
theorem dX7_mergeGroups_71 : decode cX7_mergeGroups 71 = .ok (.getfield 22, 3) := by decide +kernel
theorem dX7_mergeGroups_74 : decode cX7_mergeGroups 74 = .ok (.bipush 10, 2) := by decide +kernel
theorem dX7_mergeGroups_76 : decode cX7_mergeGroups 76 = .ok (.iload 4, 2) := by decide +kernel
theorem dX7_mergeGroups_78 : decode cX7_mergeGroups 78 = .ok (.imul, 1) := by decide +kernel
theorem dX7_mergeGroups_79 : decode cX7_mergeGroups 79 = .ok (.iload 5, 2) := by decide +kernel
theorem dX7_mergeGroups_81 : decode cX7_mergeGroups 81 = .ok (.iadd, 1) := by decide +kernel
theorem dX7_mergeGroups_82 : decode cX7_mergeGroups 82 = .ok (.iaload, 1) := by decide +kernel
theorem dX7_mergeGroups_83 : decode cX7_mergeGroups 83 = .ok (.bipush (-9), 2) := by decide +kernel
theorem dX7_mergeGroups_85 : decode cX7_mergeGroups 85 = .ok (.if_icmp .ne 7, 3) := by decide +kernel
theorem dX7_mergeGroups_88 : decode cX7_mergeGroups 88 = .ok (.iconst 1, 1) := by decide +kernel
theorem dX7_mergeGroups_89 : decode cX7_mergeGroups 89 = .ok (.goto 4, 3) := by decide +kernel
theorem dX7_mergeGroups_92 : decode cX7_mergeGroups 92 = .ok (.iconst 0, 1) := by decide +kernel
theorem dX7_mergeGroups_93 : decode cX7_mergeGroups 93 = .ok (.istore 6, 2) := by decide +kernel
theorem dX7_mergeGroups_95 : decode cX7_mergeGroups 95 = .ok (.aload_n 0, 1) := by decide +kernel
theorem dX7_mergeGroups_96 : decode cX7_mergeGroups 96 = .ok (.getfield 22, 3) := by decide +kernel
theorem dX7_mergeGroups_99 : decode cX7_mergeGroups 99 = .ok (.bipush 10, 2) := by decide +kernel
theorem dX7_mergeGroups_101 : decode cX7_mergeGroups 101 = .ok (.iload 4, 2) := by decide +kernel
theorem dX7_mergeGroups_103 : decode cX7_mergeGroups 103 = .ok (.imul, 1) := by decide +kernel
theorem dX7_mergeGroups_104 : decode cX7_mergeGroups 104 = .ok (.iload 5, 2) := by decide +kernel
theorem dX7_mergeGroups_106 : decode cX7_mergeGroups 106 = .ok (.iadd, 1) := by decide +kernel
theorem dX7_mergeGroups_107 : decode cX7_mergeGroups 107 = .ok (.iload 6, 2) := by decide +kernel
theorem dX7_mergeGroups_109 : decode cX7_mergeGroups 109 = .ok (.ifCond .eq 7, 3) := by decide +kernel
theorem dX7_mergeGroups_112 : decode cX7_mergeGroups 112 = .ok (.iconst 0, 1) := by decide +kernel
theorem dX7_mergeGroups_113 : decode cX7_mergeGroups 113 = .ok (.goto 16, 3) := by decide +kernel
theorem dX7_mergeGroups_116 : decode cX7_mergeGroups 116 = .ok (.aload_n 0, 1) := by decide +kernel
theorem dX7_mergeGroups_117 : decode cX7_mergeGroups 117 = .ok (.getfield 22, 3) := by decide +kernel
theorem dX7_mergeGroups_120 : decode cX7_mergeGroups 120 = .ok (.bipush 10, 2) := by decide +kernel
theorem dX7_mergeGroups_122 : decode cX7_mergeGroups 122 = .ok (.iload 4, 2) := by decide +kernel
theorem dX7_mergeGroups_124 : decode cX7_mergeGroups 124 = .ok (.imul, 1) := by decide +kernel
theorem dX7_mergeGroups_125 : decode cX7_mergeGroups 125 = .ok (.iload 5, 2) := by decide +kernel
theorem dX7_mergeGroups_127 : decode cX7_mergeGroups 127 = .ok (.iadd, 1) := by decide +kernel
theorem dX7_mergeGroups_128 : decode cX7_mergeGroups 128 = .ok (.iaload, 1) := by decide +kernel
theorem dX7_mergeGroups_129 : decode cX7_mergeGroups 129 = .ok (.iastore, 1) := by decide +kernel
theorem dX7_mergeGroups_130 : decode cX7_mergeGroups 130 = .ok (.iload_n 3, 1) := by decide +kernel
theorem dX7_mergeGroups_131 : decode cX7_mergeGroups 131 = .ok (.ifCond .ne 8, 3) := by decide +kernel
theorem dX7_mergeGroups_134 : decode cX7_mergeGroups 134 = .ok (.iload 6, 2) := by decide +kernel
theorem dX7_mergeGroups_136 : decode cX7_mergeGroups 136 = .ok (.ifCond .eq 7, 3) := by decide +kernel
theorem dX7_mergeGroups_139 : decode cX7_mergeGroups 139 = .ok (.iconst 1, 1) := by decide +kernel
theorem dX7_mergeGroups_140 : decode cX7_mergeGroups 140 = .ok (.goto 4, 3) := by decide +kernel
theorem dX7_mergeGroups_143 : decode cX7_mergeGroups 143 = .ok (.iconst 0, 1) := by decide +kernel
theorem dX7_mergeGroups_144 : decode cX7_mergeGroups 144 = .ok (.istore_n 3, 1) := by decide +kernel
theorem dX7_mergeGroups_145 : decode cX7_mergeGroups 145 = .ok (.iinc 5 1, 3) := by decide +kernel
theorem dX7_mergeGroups_148 : decode cX7_mergeGroups 148 = .ok (.goto (-129), 3) := by decide +kernel
theorem dX7_mergeGroups_151 : decode cX7_mergeGroups 151 = .ok (.iinc 4 1, 3) := by decide +kernel
theorem dX7_mergeGroups_154 : decode cX7_mergeGroups 154 = .ok (.goto (-149), 3) := by decide +kernel
theorem dX7_mergeGroups_157 : decode cX7_mergeGroups 157 = .ok (.iload_n 3, 1) := by decide +kernel
theorem dX7_mergeGroups_158 : decode cX7_mergeGroups 158 = .ok (.ireturn, 1) := by decide +kernel
theorem dX7_number_0 : decode cX7_number 0 = .ok (.aload_n 0, 1) := by decide +kernel
theorem dX7_number_1 : decode cX7_number 1 = .ok (.aload_n 0, 1) := by decide +kernel
theorem dX7_number_2 : decode cX7_number 2 = .ok (.getfield 53, 3) := by decide +kernel
theorem dX7_number_5 : decode cX7_number 5 = .ok (.iconst 2, 1) := by decide +kernel
theorem dX7_number_6 : decode cX7_number 6 = .ok (.if_icmp .ne 15, 3) := by decide +kernel
theorem dX7_number_9 : decode cX7_number 9 = .ok (.aload_n 0, 1) := by decide +kernel
theorem dX7_number_10 : decode cX7_number 10 = .ok (.getfield 64, 3) := by decide +kernel
theorem dX7_number_13 : decode cX7_number 13 = .ok (.iload_n 1, 1) := by decide +kernel
theorem dX7_number_14 : decode cX7_number 14 = .ok (.if_icmp .gt 7, 3) := by decide +kernel
theorem dX7_number_17 : decode cX7_number 17 = .ok (.iconst 1, 1) := by decide +kernel
theorem dX7_number_18 : decode cX7_number 18 = .ok (.goto 4, 3) := by decide +kernel
theorem dX7_number_21 : decode cX7_number 21 = .ok (.iconst 0, 1) := by decide +kernel
theorem dX7_number_22 : decode cX7_number 22 = .ok (.invokevirtual 77, 3) := by decide +kernel
theorem dX7_number_25 : decode cX7_number 25 = .ok (.ireturn, 1) := by decide +kernel
theorem dX7_objectCount_0 : decode cX7_objectCount 0 = .ok (.aload_n 0, 1) := by decide +kernel
theorem dX7_objectCount_1 : decode cX7_objectCount 1 = .ok (.iconst 0, 1) := by decide +kernel
theorem dX7_objectCount_2 : decode cX7_objectCount 2 = .ok (.putfield 32, 3) := by decide +kernel
theorem dX7_objectCount_5 : decode cX7_objectCount 5 = .ok (.aload_n 0, 1) := by decide +kernel
theorem dX7_objectCount_6 : decode cX7_objectCount 6 = .ok (.getfield 7, 3) := by decide +kernel
theorem dX7_objectCount_9 : decode cX7_objectCount 9 = .ok (.iconst 0, 1) := by decide +kernel
theorem dX7_objectCount_10 : decode cX7_objectCount 10 = .ok (.iaload, 1) := by decide +kernel
theorem dX7_objectCount_11 : decode cX7_objectCount 11 = .ok (.ireturn, 1) := by decide +kernel
theorem dX7_open_0 : decode cX7_open 0 = .ok (.aload_n 0, 1) := by decide +kernel
theorem dX7_open_1 : decode cX7_open 1 = .ok (.iconst 0, 1) := by decide +kernel
theorem dX7_open_2 : decode cX7_open 2 = .ok (.putfield 32, 3) := by decide +kernel
theorem dX7_open_5 : decode cX7_open 5 = .ok (.aload_n 0, 1) := by decide +kernel
theorem dX7_open_6 : decode cX7_open 6 = .ok (.iload_n 1, 1) := by decide +kernel
theorem dX7_open_7 : decode cX7_open 7 = .ok (.iconst 2, 1) := by decide +kernel
theorem dX7_open_8 : decode cX7_open 8 = .ok (.invokevirtual 119, 3) := by decide +kernel
theorem dX7_open_11 : decode cX7_open 11 = .ok (.ifCond .eq 42, 3) := by decide +kernel
theorem dX7_open_14 : decode cX7_open 14 = .ok (.aload_n 0, 1) := by decide +kernel
theorem dX7_open_15 : decode cX7_open 15 = .ok (.iload_n 2, 1) := by decide +kernel
theorem dX7_open_16 : decode cX7_open 16 = .ok (.iconst 1, 1) := by decide +kernel
theorem dX7_open_17 : decode cX7_open 17 = .ok (.invokevirtual 112, 3) := by decide +kernel
theorem dX7_open_20 : decode cX7_open 20 = .ok (.ifCond .eq 33, 3) := by decide +kernel
theorem dX7_open_23 : decode cX7_open 23 = .ok (.aload_n 0, 1) := by decide +kernel
theorem dX7_open_24 : decode cX7_open 24 = .ok (.iload_n 3, 1) := by decide +kernel
theorem dX7_open_25 : decode cX7_open 25 = .ok (.iconst 2, 1) := by decide +kernel
theorem dX7_open_26 : decode cX7_open 26 = .ok (.invokevirtual 112, 3) := by decide +kernel
theorem dX7_open_29 : decode cX7_open 29 = .ok (.ifCond .eq 24, 3) := by decide +kernel
theorem dX7_open_32 : decode cX7_open 32 = .ok (.aload_n 0, 1) := by decide +kernel
theorem dX7_open_33 : decode cX7_open 33 = .ok (.getfield 7, 3) := by decide +kernel
theorem dX7_open_36 : decode cX7_open 36 = .ok (.bipush 11, 2) := by decide +kernel
theorem dX7_open_38 : decode cX7_open 38 = .ok (.iload_n 2, 1) := by decide +kernel
theorem dX7_open_39 : decode cX7_open 39 = .ok (.iadd, 1) := by decide +kernel
theorem dX7_open_40 : decode cX7_open 40 = .ok (.iaload, 1) := by decide +kernel
theorem dX7_open_41 : decode cX7_open 41 = .ok (.aload_n 0, 1) := by decide +kernel
theorem dX7_open_42 : decode cX7_open 42 = .ok (.getfield 7, 3) := by decide +kernel
theorem dX7_open_45 : decode cX7_open 45 = .ok (.bipush 11, 2) := by decide +kernel
theorem dX7_open_47 : decode cX7_open 47 = .ok (.iload_n 3, 1) := by decide +kernel
theorem dX7_open_48 : decode cX7_open 48 = .ok (.iadd, 1) := by decide +kernel
theorem dX7_open_49 : decode cX7_open 49 = .ok (.iaload, 1) := by decide +kernel
theorem dX7_open_50 : decode cX7_open 50 = .ok (.if_icmp .eq 5, 3) := by decide +kernel
theorem dX7_open_53 : decode cX7_open 53 = .ok (.iconst (-1), 1) := by decide +kernel
theorem dX7_open_54 : decode cX7_open 54 = .ok (.ireturn, 1) := by decide +kernel
theorem dX7_open_55 : decode cX7_open 55 = .ok (.aload_n 0, 1) := by decide +kernel
theorem dX7_open_56 : decode cX7_open 56 = .ok (.iload_n 1, 1) := by decide +kernel
theorem dX7_open_57 : decode cX7_open 57 = .ok (.iload_n 2, 1) := by decide +kernel
theorem dX7_open_58 : decode cX7_open 58 = .ok (.invokevirtual 197, 3) := by decide +kernel
theorem dX7_open_61 : decode cX7_open 61 = .ok (.ifCond .eq 29, 3) := by decide +kernel
theorem dX7_open_64 : decode cX7_open 64 = .ok (.aload_n 0, 1) := by decide +kernel
theorem dX7_open_65 : decode cX7_open 65 = .ok (.iload_n 1, 1) := by decide +kernel
theorem dX7_open_66 : decode cX7_open 66 = .ok (.iload_n 3, 1) := by decide +kernel
theorem dX7_open_67 : decode cX7_open 67 = .ok (.invokevirtual 197, 3) := by decide +kernel
theorem dX7_open_70 : decode cX7_open 70 = .ok (.ifCond .eq 20, 3) := by decide +kernel
theorem dX7_open_73 : decode cX7_open 73 = .ok (.aload_n 0, 1) := by decide +kernel
theorem dX7_open_74 : decode cX7_open 74 = .ok (.iload_n 1, 1) := by decide +kernel
theorem dX7_open_75 : decode cX7_open 75 = .ok (.aload_n 0, 1) := by decide +kernel
theorem dX7_open_76 : decode cX7_open 76 = .ok (.getfield 7, 3) := by decide +kernel
theorem dX7_open_79 : decode cX7_open 79 = .ok (.bipush 21, 2) := by decide +kernel
theorem dX7_open_81 : decode cX7_open 81 = .ok (.iload_n 2, 1) := by decide +kernel
theorem dX7_open_82 : decode cX7_open 82 = .ok (.iadd, 1) := by decide +kernel
theorem dX7_open_83 : decode cX7_open 83 = .ok (.iaload, 1) := by decide +kernel
theorem dX7_open_84 : decode cX7_open 84 = .ok (.invokevirtual 200, 3) := by decide +kernel
theorem dX7_open_87 : decode cX7_open 87 = .ok (.goto 5, 3) := by decide +kernel
theorem dX7_open_90 : decode cX7_open 90 = .ok (.bipush (-2), 2) := by decide +kernel
theorem dX7_open_92 : decode cX7_open 92 = .ok (.ireturn, 1) := by decide +kernel
theorem dX7_openedBox_0 : decode cX7_openedBox 0 = .ok (.iconst 0, 1) := by decide +kernel
theorem dX7_openedBox_1 : decode cX7_openedBox 1 = .ok (.istore 4, 2) := by decide +kernel
theorem dX7_openedBox_3 : decode cX7_openedBox 3 = .ok (.iload 4, 2) := by decide +kernel
theorem dX7_openedBox_5 : decode cX7_openedBox 5 = .ok (.aload_n 0, 1) := by decide +kernel
theorem dX7_openedBox_6 : decode cX7_openedBox 6 = .ok (.getfield 7, 3) := by decide +kernel
theorem dX7_openedBox_9 : decode cX7_openedBox 9 = .ok (.iconst 0, 1) := by decide +kernel
theorem dX7_openedBox_10 : decode cX7_openedBox 10 = .ok (.iaload, 1) := by decide +kernel
theorem dX7_openedBox_11 : decode cX7_openedBox 11 = .ok (.if_icmp .ge 77, 3) := by decide +kernel
theorem dX7_openedBox_14 : decode cX7_openedBox 14 = .ok (.aload_n 0, 1) := by decide +kernel
theorem dX7_openedBox_15 : decode cX7_openedBox 15 = .ok (.iload_n 1, 1) := by decide +kernel
theorem dX7_openedBox_16 : decode cX7_openedBox 16 = .ok (.iconst 2, 1) := by decide +kernel
theorem dX7_openedBox_17 : decode cX7_openedBox 17 = .ok (.invokevirtual 119, 3) := by decide +kernel
theorem dX7_openedBox_20 : decode cX7_openedBox 20 = .ok (.ifCond .eq 68, 3) := by decide +kernel
theorem dX7_openedBox_23 : decode cX7_openedBox 23 = .ok (.aload_n 0, 1) := by decide +kernel
theorem dX7_openedBox_24 : decode cX7_openedBox 24 = .ok (.iload 4, 2) := by decide +kernel
theorem dX7_openedBox_26 : decode cX7_openedBox 26 = .ok (.iconst 1, 1) := by decide +kernel
theorem dX7_openedBox_27 : decode cX7_openedBox 27 = .ok (.invokevirtual 112, 3) := by decide +kernel
theorem dX7_openedBox_30 : decode cX7_openedBox 30 = .ok (.ifCond .eq 52, 3) := by decide +kernel
theorem dX7_openedBox_33 : decode cX7_openedBox 33 = .ok (.aload_n 0, 1) := by decide +kernel
theorem dX7_openedBox_34 : decode cX7_openedBox 34 = .ok (.getfield 7, 3) := by decide +kernel
theorem dX7_openedBox_37 : decode cX7_openedBox 37 = .ok (.bipush 21, 2) := by decide +kernel
theorem dX7_openedBox_39 : decode cX7_openedBox 39 = .ok (.iload 4, 2) := by decide +kernel
theorem dX7_openedBox_41 : decode cX7_openedBox 41 = .ok (.iadd, 1) := by decide +kernel
theorem dX7_openedBox_42 : decode cX7_openedBox 42 = .ok (.iaload, 1) := by decide +kernel
theorem dX7_openedBox_43 : decode cX7_openedBox 43 = .ok (.iload_n 2, 1) := by decide +kernel
theorem dX7_openedBox_44 : decode cX7_openedBox 44 = .ok (.if_icmp .ne 38, 3) := by decide +kernel
theorem dX7_openedBox_47 : decode cX7_openedBox 47 = .ok (.aload_n 0, 1) := by decide +kernel
theorem dX7_openedBox_48 : decode cX7_openedBox 48 = .ok (.iload_n 1, 1) := by decide +kernel
theorem dX7_openedBox_49 : decode cX7_openedBox 49 = .ok (.iload 4, 2) := by decide +kernel
theorem dX7_openedBox_51 : decode cX7_openedBox 51 = .ok (.iload_n 3, 1) := by decide +kernel
theorem dX7_openedBox_52 : decode cX7_openedBox 52 = .ok (.invokevirtual 122, 3) := by decide +kernel
theorem dX7_openedBox_55 : decode cX7_openedBox 55 = .ok (.ifCond .eq 27, 3) := by decide +kernel
theorem dX7_openedBox_58 : decode cX7_openedBox 58 = .ok (.aload_n 0, 1) := by decide +kernel
theorem dX7_openedBox_59 : decode cX7_openedBox 59 = .ok (.iload_n 1, 1) := by decide +kernel
theorem dX7_openedBox_60 : decode cX7_openedBox 60 = .ok (.aload_n 0, 1) := by decide +kernel
theorem dX7_openedBox_61 : decode cX7_openedBox 61 = .ok (.getfield 7, 3) := by decide +kernel
theorem dX7_openedBox_64 : decode cX7_openedBox 64 = .ok (.bipush 11, 2) := by decide +kernel
theorem dX7_openedBox_66 : decode cX7_openedBox 66 = .ok (.iload 4, 2) := by decide +kernel
theorem dX7_openedBox_68 : decode cX7_openedBox 68 = .ok (.iadd, 1) := by decide +kernel
theorem dX7_openedBox_69 : decode cX7_openedBox 69 = .ok (.iaload, 1) := by decide +kernel
theorem dX7_openedBox_70 : decode cX7_openedBox 70 = .ok (.iload_n 3, 1) := by decide +kernel
theorem dX7_openedBox_71 : decode cX7_openedBox 71 = .ok (.invokevirtual 125, 3) := by decide +kernel
theorem dX7_openedBox_74 : decode cX7_openedBox 74 = .ok (.bipush (-9), 2) := by decide +kernel
theorem dX7_openedBox_76 : decode cX7_openedBox 76 = .ok (.if_icmp .eq 6, 3) := by decide +kernel
theorem dX7_openedBox_79 : decode cX7_openedBox 79 = .ok (.iload 4, 2) := by decide +kernel
theorem dX7_openedBox_81 : decode cX7_openedBox 81 = .ok (.ireturn, 1) := by decide +kernel
theorem dX7_openedBox_82 : decode cX7_openedBox 82 = .ok (.iinc 4 1, 3) := by decide +kernel
theorem dX7_openedBox_85 : decode cX7_openedBox 85 = .ok (.goto (-82), 3) := by decide +kernel
theorem dX7_openedBox_88 : decode cX7_openedBox 88 = .ok (.bipush (-9), 2) := by decide +kernel
theorem dX7_openedBox_90 : decode cX7_openedBox 90 = .ok (.ireturn, 1) := by decide +kernel
theorem dX7_partner_0 : decode cX7_partner 0 = .ok (.aload_n 0, 1) := by decide +kernel
theorem dX7_partner_1 : decode cX7_partner 1 = .ok (.iconst 0, 1) := by decide +kernel
theorem dX7_partner_2 : decode cX7_partner 2 = .ok (.putfield 32, 3) := by decide +kernel
theorem dX7_partner_5 : decode cX7_partner 5 = .ok (.aload_n 0, 1) := by decide +kernel
theorem dX7_partner_6 : decode cX7_partner 6 = .ok (.iload_n 1, 1) := by decide +kernel
theorem dX7_partner_7 : decode cX7_partner 7 = .ok (.iload_n 2, 1) := by decide +kernel
theorem dX7_partner_8 : decode cX7_partner 8 = .ok (.invokevirtual 166, 3) := by decide +kernel
theorem dX7_partner_11 : decode cX7_partner 11 = .ok (.ifCond .ne 5, 3) := by decide +kernel
theorem dX7_partner_14 : decode cX7_partner 14 = .ok (.iconst (-1), 1) := by decide +kernel
theorem dX7_partner_15 : decode cX7_partner 15 = .ok (.ireturn, 1) := by decide +kernel
theorem dX7_partner_16 : decode cX7_partner 16 = .ok (.aload_n 0, 1) := by decide +kernel
theorem dX7_partner_17 : decode cX7_partner 17 = .ok (.iload_n 1, 1) := by decide +kernel
theorem dX7_partner_18 : decode cX7_partner 18 = .ok (.iload_n 2, 1) := by decide +kernel
theorem dX7_partner_19 : decode cX7_partner 19 = .ok (.invokevirtual 169, 3) := by decide +kernel
theorem dX7_partner_22 : decode cX7_partner 22 = .ok (.istore_n 3, 1) := by decide +kernel
theorem dX7_partner_23 : decode cX7_partner 23 = .ok (.iload_n 3, 1) := by decide +kernel
theorem dX7_partner_24 : decode cX7_partner 24 = .ok (.iconst 1, 1) := by decide +kernel
theorem dX7_partner_25 : decode cX7_partner 25 = .ok (.if_icmp .ge 8, 3) := by decide +kernel
theorem dX7_partner_28 : decode cX7_partner 28 = .ok (.bipush (-9), 2) := by decide +kernel
theorem dX7_partner_30 : decode cX7_partner 30 = .ok (.goto 17, 3) := by decide +kernel
theorem dX7_partner_33 : decode cX7_partner 33 = .ok (.aload_n 0, 1) := by decide +kernel
theorem dX7_partner_34 : decode cX7_partner 34 = .ok (.aload_n 0, 1) := by decide +kernel
theorem dX7_partner_35 : decode cX7_partner 35 = .ok (.iload_n 1, 1) := by decide +kernel
theorem dX7_partner_36 : decode cX7_partner 36 = .ok (.iload_n 2, 1) := by decide +kernel
theorem dX7_partner_37 : decode cX7_partner 37 = .ok (.iload_n 3, 1) := by decide +kernel
theorem dX7_partner_38 : decode cX7_partner 38 = .ok (.invokevirtual 160, 3) := by decide +kernel
theorem dX7_partner_41 : decode cX7_partner 41 = .ok (.iload_n 1, 1) := by decide +kernel
theorem dX7_partner_42 : decode cX7_partner 42 = .ok (.iload_n 2, 1) := by decide +kernel
theorem dX7_partner_43 : decode cX7_partner 43 = .ok (.iload_n 3, 1) := by decide +kernel
theorem dX7_partner_44 : decode cX7_partner 44 = .ok (.invokevirtual 147, 3) := by decide +kernel
theorem dX7_partner_47 : decode cX7_partner 47 = .ok (.ireturn, 1) := by decide +kernel
theorem dX7_partnerBy_0 : decode cX7_partnerBy 0 = .ok (.iload_n 1, 1) := by decide +kernel
theorem dX7_partnerBy_1 : decode cX7_partnerBy 1 = .ok (.iconst 1, 1) := by decide +kernel
theorem dX7_partnerBy_2 : decode cX7_partnerBy 2 = .ok (.if_icmp .ne 14, 3) := by decide +kernel
theorem dX7_partnerBy_5 : decode cX7_partnerBy 5 = .ok (.aload_n 0, 1) := by decide +kernel
theorem dX7_partnerBy_6 : decode cX7_partnerBy 6 = .ok (.iload_n 2, 1) := by decide +kernel
theorem dX7_partnerBy_7 : decode cX7_partnerBy 7 = .ok (.iload_n 3, 1) := by decide +kernel
theorem dX7_partnerBy_8 : decode cX7_partnerBy 8 = .ok (.iload 4, 2) := by decide +kernel
theorem dX7_partnerBy_10 : decode cX7_partnerBy 10 = .ok (.invokevirtual 132, 3) := by decide +kernel
theorem dX7_partnerBy_13 : decode cX7_partnerBy 13 = .ok (.goto 59, 3) := by decide +kernel
theorem dX7_partnerBy_16 : decode cX7_partnerBy 16 = .ok (.iload_n 1, 1) := by decide +kernel
theorem dX7_partnerBy_17 : decode cX7_partnerBy 17 = .ok (.iconst 2, 1) := by decide +kernel
theorem dX7_partnerBy_18 : decode cX7_partnerBy 18 = .ok (.if_icmp .ne 14, 3) := by decide +kernel
theorem dX7_partnerBy_21 : decode cX7_partnerBy 21 = .ok (.aload_n 0, 1) := by decide +kernel
theorem dX7_partnerBy_22 : decode cX7_partnerBy 22 = .ok (.iload_n 2, 1) := by decide +kernel
theorem dX7_partnerBy_23 : decode cX7_partnerBy 23 = .ok (.iload_n 3, 1) := by decide +kernel
theorem dX7_partnerBy_24 : decode cX7_partnerBy 24 = .ok (.iload 4, 2) := by decide +kernel
theorem dX7_partnerBy_26 : decode cX7_partnerBy 26 = .ok (.invokevirtual 135, 3) := by decide +kernel
theorem dX7_partnerBy_29 : decode cX7_partnerBy 29 = .ok (.goto 43, 3) := by decide +kernel
theorem dX7_partnerBy_32 : decode cX7_partnerBy 32 = .ok (.iload_n 1, 1) := by decide +kernel
theorem dX7_partnerBy_33 : decode cX7_partnerBy 33 = .ok (.iconst 3, 1) := by decide +kernel
theorem dX7_partnerBy_34 : decode cX7_partnerBy 34 = .ok (.if_icmp .ne 14, 3) := by decide +kernel
theorem dX7_partnerBy_37 : decode cX7_partnerBy 37 = .ok (.aload_n 0, 1) := by decide +kernel
theorem dX7_partnerBy_38 : decode cX7_partnerBy 38 = .ok (.iload_n 2, 1) := by decide +kernel
theorem dX7_partnerBy_39 : decode cX7_partnerBy 39 = .ok (.iload_n 3, 1) := by decide +kernel
theorem dX7_partnerBy_40 : decode cX7_partnerBy 40 = .ok (.iload 4, 2) := by decide +kernel
theorem dX7_partnerBy_42 : decode cX7_partnerBy 42 = .ok (.invokevirtual 138, 3) := by decide +kernel
theorem dX7_partnerBy_45 : decode cX7_partnerBy 45 = .ok (.goto 27, 3) := by decide +kernel
theorem dX7_partnerBy_48 : decode cX7_partnerBy 48 = .ok (.iload_n 1, 1) := by decide +kernel
theorem dX7_partnerBy_49 : decode cX7_partnerBy 49 = .ok (.iconst 4, 1) := by decide +kernel
theorem dX7_partnerBy_50 : decode cX7_partnerBy 50 = .ok (.if_icmp .ne 14, 3) := by decide +kernel
theorem dX7_partnerBy_53 : decode cX7_partnerBy 53 = .ok (.aload_n 0, 1) := by decide +kernel
theorem dX7_partnerBy_54 : decode cX7_partnerBy 54 = .ok (.iload_n 2, 1) := by decide +kernel
theorem dX7_partnerBy_55 : decode cX7_partnerBy 55 = .ok (.iload_n 3, 1) := by decide +kernel
theorem dX7_partnerBy_56 : decode cX7_partnerBy 56 = .ok (.iload 4, 2) := by decide +kernel
theorem dX7_partnerBy_58 : decode cX7_partnerBy 58 = .ok (.invokevirtual 141, 3) := by decide +kernel
theorem dX7_partnerBy_61 : decode cX7_partnerBy 61 = .ok (.goto 11, 3) := by decide +kernel
theorem dX7_partnerBy_64 : decode cX7_partnerBy 64 = .ok (.aload_n 0, 1) := by decide +kernel
theorem dX7_partnerBy_65 : decode cX7_partnerBy 65 = .ok (.iload_n 2, 1) := by decide +kernel
theorem dX7_partnerBy_66 : decode cX7_partnerBy 66 = .ok (.iload_n 3, 1) := by decide +kernel
theorem dX7_partnerBy_67 : decode cX7_partnerBy 67 = .ok (.iload 4, 2) := by decide +kernel
theorem dX7_partnerBy_69 : decode cX7_partnerBy 69 = .ok (.invokevirtual 144, 3) := by decide +kernel
theorem dX7_partnerBy_72 : decode cX7_partnerBy 72 = .ok (.ireturn, 1) := by decide +kernel
theorem dX7_permit_0 : decode cX7_permit 0 = .ok (.aload_n 0, 1) := by decide +kernel
theorem dX7_permit_1 : decode cX7_permit 1 = .ok (.iconst 0, 1) := by decide +kernel
theorem dX7_permit_2 : decode cX7_permit 2 = .ok (.putfield 32, 3) := by decide +kernel
theorem dX7_permit_5 : decode cX7_permit 5 = .ok (.aload_n 0, 1) := by decide +kernel
theorem dX7_permit_6 : decode cX7_permit 6 = .ok (.iload_n 1, 1) := by decide +kernel
theorem dX7_permit_7 : decode cX7_permit 7 = .ok (.iload_n 2, 1) := by decide +kernel
theorem dX7_permit_8 : decode cX7_permit 8 = .ok (.invokevirtual 166, 3) := by decide +kernel
theorem dX7_permit_11 : decode cX7_permit 11 = .ok (.ifCond .ne 5, 3) := by decide +kernel
theorem dX7_permit_14 : decode cX7_permit 14 = .ok (.iconst (-1), 1) := by decide +kernel
theorem dX7_permit_15 : decode cX7_permit 15 = .ok (.ireturn, 1) := by decide +kernel
theorem dX7_permit_16 : decode cX7_permit 16 = .ok (.aload_n 0, 1) := by decide +kernel
theorem dX7_permit_17 : decode cX7_permit 17 = .ok (.iload_n 1, 1) := by decide +kernel
theorem dX7_permit_18 : decode cX7_permit 18 = .ok (.iload_n 2, 1) := by decide +kernel
theorem dX7_permit_19 : decode cX7_permit 19 = .ok (.invokevirtual 188, 3) := by decide +kernel
theorem dX7_permit_22 : decode cX7_permit 22 = .ok (.istore_n 3, 1) := by decide +kernel
theorem dX7_permit_23 : decode cX7_permit 23 = .ok (.iload_n 3, 1) := by decide +kernel
theorem dX7_permit_24 : decode cX7_permit 24 = .ok (.bipush (-9), 2) := by decide +kernel
theorem dX7_permit_26 : decode cX7_permit 26 = .ok (.if_icmp .ne 6, 3) := by decide +kernel
theorem dX7_permit_29 : decode cX7_permit 29 = .ok (.bipush (-2), 2) := by decide +kernel
theorem dX7_permit_31 : decode cX7_permit 31 = .ok (.ireturn, 1) := by decide +kernel
theorem dX7_permit_32 : decode cX7_permit 32 = .ok (.aload_n 0, 1) := by decide +kernel
theorem dX7_permit_33 : decode cX7_permit 33 = .ok (.invokevirtual 99, 3) := by decide +kernel
theorem dX7_permit_36 : decode cX7_permit 36 = .ok (.bipush 63, 2) := by decide +kernel
theorem dX7_permit_38 : decode cX7_permit 38 = .ok (.iconst 2, 1) := by decide +kernel
theorem dX7_permit_39 : decode cX7_permit 39 = .ok (.iload_n 3, 1) := by decide +kernel
theorem dX7_permit_40 : decode cX7_permit 40 = .ok (.imul, 1) := by decide +kernel
theorem dX7_permit_41 : decode cX7_permit 41 = .ok (.iadd, 1) := by decide +kernel
theorem dX7_permit_42 : decode cX7_permit 42 = .ok (.istore 4, 2) := by decide +kernel
theorem dX7_permit_44 : decode cX7_permit 44 = .ok (.iload 4, 2) := by decide +kernel
theorem dX7_permit_46 : decode cX7_permit 46 = .ok (.iconst 2, 1) := by decide +kernel
theorem dX7_permit_47 : decode cX7_permit 47 = .ok (.iadd, 1) := by decide +kernel
theorem dX7_permit_48 : decode cX7_permit 48 = .ok (.bipush 71, 2) := by decide +kernel
theorem dX7_permit_50 : decode cX7_permit 50 = .ok (.if_icmp .ge 25, 3) := by decide +kernel
theorem dX7_permit_53 : decode cX7_permit 53 = .ok (.aload_n 0, 1) := by decide +kernel
theorem dX7_permit_54 : decode cX7_permit 54 = .ok (.getfield 7, 3) := by decide +kernel
theorem dX7_permit_57 : decode cX7_permit 57 = .ok (.iload 4, 2) := by decide +kernel
theorem dX7_permit_59 : decode cX7_permit 59 = .ok (.aload_n 0, 1) := by decide +kernel
theorem dX7_permit_60 : decode cX7_permit 60 = .ok (.getfield 7, 3) := by decide +kernel
theorem dX7_permit_63 : decode cX7_permit 63 = .ok (.iload 4, 2) := by decide +kernel
theorem dX7_permit_65 : decode cX7_permit 65 = .ok (.iconst 2, 1) := by decide +kernel
theorem dX7_permit_66 : decode cX7_permit 66 = .ok (.iadd, 1) := by decide +kernel
theorem dX7_permit_67 : decode cX7_permit 67 = .ok (.iaload, 1) := by decide +kernel
theorem dX7_permit_68 : decode cX7_permit 68 = .ok (.iastore, 1) := by decide +kernel
theorem dX7_permit_69 : decode cX7_permit 69 = .ok (.iinc 4 1, 3) := by decide +kernel
theorem dX7_permit_72 : decode cX7_permit 72 = .ok (.goto (-28), 3) := by decide +kernel
theorem dX7_permit_75 : decode cX7_permit 75 = .ok (.aload_n 0, 1) := by decide +kernel
theorem dX7_permit_76 : decode cX7_permit 76 = .ok (.getfield 7, 3) := by decide +kernel
theorem dX7_permit_79 : decode cX7_permit 79 = .ok (.bipush 62, 2) := by decide +kernel
theorem dX7_permit_81 : decode cX7_permit 81 = .ok (.dup2, 1) := by decide +kernel
theorem dX7_permit_82 : decode cX7_permit 82 = .ok (.iaload, 1) := by decide +kernel
theorem dX7_permit_83 : decode cX7_permit 83 = .ok (.iconst 1, 1) := by decide +kernel
theorem dX7_permit_84 : decode cX7_permit 84 = .ok (.isub, 1) := by decide +kernel
theorem dX7_permit_85 : decode cX7_permit 85 = .ok (.iastore, 1) := by decide +kernel
theorem dX7_permit_86 : decode cX7_permit 86 = .ok (.aload_n 0, 1) := by decide +kernel
theorem dX7_permit_87 : decode cX7_permit 87 = .ok (.getfield 7, 3) := by decide +kernel
theorem dX7_permit_90 : decode cX7_permit 90 = .ok (.bipush 62, 2) := by decide +kernel
theorem dX7_permit_92 : decode cX7_permit 92 = .ok (.iaload, 1) := by decide +kernel
theorem dX7_permit_93 : decode cX7_permit 93 = .ok (.ireturn, 1) := by decide +kernel
theorem dX7_readHold_0 : decode cX7_readHold 0 = .ok (.aload_n 0, 1) := by decide +kernel
theorem dX7_readHold_1 : decode cX7_readHold 1 = .ok (.aload_n 0, 1) := by decide +kernel
theorem dX7_readHold_2 : decode cX7_readHold 2 = .ok (.getfield 53, 3) := by decide +kernel
theorem dX7_readHold_5 : decode cX7_readHold 5 = .ok (.iconst 2, 1) := by decide +kernel
theorem dX7_readHold_6 : decode cX7_readHold 6 = .ok (.if_icmp .ne 21, 3) := by decide +kernel
theorem dX7_readHold_9 : decode cX7_readHold 9 = .ok (.aload_n 0, 1) := by decide +kernel
theorem dX7_readHold_10 : decode cX7_readHold 10 = .ok (.getfield 13, 3) := by decide +kernel
theorem dX7_readHold_13 : decode cX7_readHold 13 = .ok (.aload_n 0, 1) := by decide +kernel
theorem dX7_readHold_14 : decode cX7_readHold 14 = .ok (.getfield 64, 3) := by decide +kernel
theorem dX7_readHold_17 : decode cX7_readHold 17 = .ok (.invokestatic 84, 3) := by decide +kernel
theorem dX7_readHold_20 : decode cX7_readHold 20 = .ok (.ifCond .eq 7, 3) := by decide +kernel
theorem dX7_readHold_23 : decode cX7_readHold 23 = .ok (.iconst 1, 1) := by decide +kernel
theorem dX7_readHold_24 : decode cX7_readHold 24 = .ok (.goto 4, 3) := by decide +kernel
theorem dX7_readHold_27 : decode cX7_readHold 27 = .ok (.iconst 0, 1) := by decide +kernel
theorem dX7_readHold_28 : decode cX7_readHold 28 = .ok (.invokevirtual 77, 3) := by decide +kernel
theorem dX7_readHold_31 : decode cX7_readHold 31 = .ok (.istore_n 1, 1) := by decide +kernel
theorem dX7_readHold_32 : decode cX7_readHold 32 = .ok (.aload_n 0, 1) := by decide +kernel
theorem dX7_readHold_33 : decode cX7_readHold 33 = .ok (.aload_n 0, 1) := by decide +kernel
theorem dX7_readHold_34 : decode cX7_readHold 34 = .ok (.getfield 53, 3) := by decide +kernel
theorem dX7_readHold_37 : decode cX7_readHold 37 = .ok (.iconst 2, 1) := by decide +kernel
theorem dX7_readHold_38 : decode cX7_readHold 38 = .ok (.if_icmp .ne 44, 3) := by decide +kernel
theorem dX7_readHold_41 : decode cX7_readHold 41 = .ok (.aload_n 0, 1) := by decide +kernel
theorem dX7_readHold_42 : decode cX7_readHold 42 = .ok (.getfield 64, 3) := by decide +kernel
theorem dX7_readHold_45 : decode cX7_readHold 45 = .ok (.aload_n 0, 1) := by decide +kernel
theorem dX7_readHold_46 : decode cX7_readHold 46 = .ok (.getfield 13, 3) := by decide +kernel
theorem dX7_readHold_49 : decode cX7_readHold 49 = .ok (.iconst 0, 1) := by decide +kernel
theorem dX7_readHold_50 : decode cX7_readHold 50 = .ok (.iaload, 1) := by decide +kernel
theorem dX7_readHold_51 : decode cX7_readHold 51 = .ok (.if_icmp .ge 31, 3) := by decide +kernel
theorem dX7_readHold_54 : decode cX7_readHold 54 = .ok (.aload_n 0, 1) := by decide +kernel
theorem dX7_readHold_55 : decode cX7_readHold 55 = .ok (.invokevirtual 70, 3) := by decide +kernel
theorem dX7_readHold_58 : decode cX7_readHold 58 = .ok (.ifCond .eq 20, 3) := by decide +kernel
theorem dX7_readHold_61 : decode cX7_readHold 61 = .ok (.aload_n 0, 1) := by decide +kernel
theorem dX7_readHold_62 : decode cX7_readHold 62 = .ok (.getfield 13, 3) := by decide +kernel
theorem dX7_readHold_65 : decode cX7_readHold 65 = .ok (.iload_n 1, 1) := by decide +kernel
theorem dX7_readHold_66 : decode cX7_readHold 66 = .ok (.aload_n 0, 1) := by decide +kernel
theorem dX7_readHold_67 : decode cX7_readHold 67 = .ok (.getfield 64, 3) := by decide +kernel
theorem dX7_readHold_70 : decode cX7_readHold 70 = .ok (.invokestatic 88, 3) := by decide +kernel
theorem dX7_readHold_73 : decode cX7_readHold 73 = .ok (.bipush (-9), 2) := by decide +kernel
theorem dX7_readHold_75 : decode cX7_readHold 75 = .ok (.if_icmp .ne 7, 3) := by decide +kernel
theorem dX7_readHold_78 : decode cX7_readHold 78 = .ok (.iconst 1, 1) := by decide +kernel
theorem dX7_readHold_79 : decode cX7_readHold 79 = .ok (.goto 4, 3) := by decide +kernel
theorem dX7_readHold_82 : decode cX7_readHold 82 = .ok (.iconst 0, 1) := by decide +kernel
theorem dX7_readHold_83 : decode cX7_readHold 83 = .ok (.invokevirtual 77, 3) := by decide +kernel
theorem dX7_readHold_86 : decode cX7_readHold 86 = .ok (.istore_n 2, 1) := by decide +kernel
theorem dX7_readHold_87 : decode cX7_readHold 87 = .ok (.aload_n 0, 1) := by decide +kernel
theorem dX7_readHold_88 : decode cX7_readHold 88 = .ok (.invokevirtual 70, 3) := by decide +kernel
theorem dX7_readHold_91 : decode cX7_readHold 91 = .ok (.ifCond .eq 52, 3) := by decide +kernel
theorem dX7_readHold_94 : decode cX7_readHold 94 = .ok (.aload_n 0, 1) := by decide +kernel
theorem dX7_readHold_95 : decode cX7_readHold 95 = .ok (.getfield 13, 3) := by decide +kernel
theorem dX7_readHold_98 : decode cX7_readHold 98 = .ok (.bipush 42, 2) := by decide +kernel
theorem dX7_readHold_100 : decode cX7_readHold 100 = .ok (.iconst 2, 1) := by decide +kernel
theorem dX7_readHold_101 : decode cX7_readHold 101 = .ok (.aload_n 0, 1) := by decide +kernel
theorem dX7_readHold_102 : decode cX7_readHold 102 = .ok (.getfield 13, 3) := by decide +kernel
theorem dX7_readHold_105 : decode cX7_readHold 105 = .ok (.bipush 41, 2) := by decide +kernel
theorem dX7_readHold_107 : decode cX7_readHold 107 = .ok (.iaload, 1) := by decide +kernel
theorem dX7_readHold_108 : decode cX7_readHold 108 = .ok (.imul, 1) := by decide +kernel
theorem dX7_readHold_109 : decode cX7_readHold 109 = .ok (.iadd, 1) := by decide +kernel
theorem dX7_readHold_110 : decode cX7_readHold 110 = .ok (.iload_n 1, 1) := by decide +kernel
theorem dX7_readHold_111 : decode cX7_readHold 111 = .ok (.iastore, 1) := by decide +kernel
theorem dX7_readHold_112 : decode cX7_readHold 112 = .ok (.aload_n 0, 1) := by decide +kernel
theorem dX7_readHold_113 : decode cX7_readHold 113 = .ok (.getfield 13, 3) := by decide +kernel
theorem dX7_readHold_116 : decode cX7_readHold 116 = .ok (.bipush 42, 2) := by decide +kernel
theorem dX7_readHold_118 : decode cX7_readHold 118 = .ok (.iconst 2, 1) := by decide +kernel
theorem dX7_readHold_119 : decode cX7_readHold 119 = .ok (.aload_n 0, 1) := by decide +kernel
theorem dX7_readHold_120 : decode cX7_readHold 120 = .ok (.getfield 13, 3) := by decide +kernel
theorem dX7_readHold_123 : decode cX7_readHold 123 = .ok (.bipush 41, 2) := by decide +kernel
theorem dX7_readHold_125 : decode cX7_readHold 125 = .ok (.iaload, 1) := by decide +kernel
theorem dX7_readHold_126 : decode cX7_readHold 126 = .ok (.imul, 1) := by decide +kernel
theorem dX7_readHold_127 : decode cX7_readHold 127 = .ok (.iadd, 1) := by decide +kernel
theorem dX7_readHold_128 : decode cX7_readHold 128 = .ok (.iconst 1, 1) := by decide +kernel
theorem dX7_readHold_129 : decode cX7_readHold 129 = .ok (.iadd, 1) := by decide +kernel
theorem dX7_readHold_130 : decode cX7_readHold 130 = .ok (.iload_n 2, 1) := by decide +kernel
theorem dX7_readHold_131 : decode cX7_readHold 131 = .ok (.iastore, 1) := by decide +kernel
theorem dX7_readHold_132 : decode cX7_readHold 132 = .ok (.aload_n 0, 1) := by decide +kernel
theorem dX7_readHold_133 : decode cX7_readHold 133 = .ok (.getfield 13, 3) := by decide +kernel
theorem dX7_readHold_136 : decode cX7_readHold 136 = .ok (.bipush 41, 2) := by decide +kernel
theorem dX7_readHold_138 : decode cX7_readHold 138 = .ok (.dup2, 1) := by decide +kernel
theorem dX7_readHold_139 : decode cX7_readHold 139 = .ok (.iaload, 1) := by decide +kernel
theorem dX7_readHold_140 : decode cX7_readHold 140 = .ok (.iconst 1, 1) := by decide +kernel
theorem dX7_readHold_141 : decode cX7_readHold 141 = .ok (.iadd, 1) := by decide +kernel
theorem dX7_readHold_142 : decode cX7_readHold 142 = .ok (.iastore, 1) := by decide +kernel
theorem dX7_readHold_143 : decode cX7_readHold 143 = .ok (.return_, 1) := by decide +kernel
theorem dX7_readObject_0 : decode cX7_readObject 0 = .ok (.aload_n 0, 1) := by decide +kernel
theorem dX7_readObject_1 : decode cX7_readObject 1 = .ok (.getfield 13, 3) := by decide +kernel
theorem dX7_readObject_4 : decode cX7_readObject 4 = .ok (.iconst 0, 1) := by decide +kernel
theorem dX7_readObject_5 : decode cX7_readObject 5 = .ok (.iaload, 1) := by decide +kernel
theorem dX7_readObject_6 : decode cX7_readObject 6 = .ok (.istore_n 2, 1) := by decide +kernel
theorem dX7_readObject_7 : decode cX7_readObject 7 = .ok (.iconst 0, 1) := by decide +kernel
theorem dX7_readObject_8 : decode cX7_readObject 8 = .ok (.istore 4, 2) := by decide +kernel
theorem dX7_readObject_10 : decode cX7_readObject 10 = .ok (.iload_n 1, 1) := by decide +kernel
theorem dX7_readObject_11 : decode cX7_readObject 11 = .ok (.iconst 3, 1) := by decide +kernel
theorem dX7_readObject_12 : decode cX7_readObject 12 = .ok (.if_icmp .ne 66, 3) := by decide +kernel
theorem dX7_readObject_15 : decode cX7_readObject 15 = .ok (.aload_n 0, 1) := by decide +kernel
theorem dX7_readObject_16 : decode cX7_readObject 16 = .ok (.aload_n 0, 1) := by decide +kernel
theorem dX7_readObject_17 : decode cX7_readObject 17 = .ok (.getfield 53, 3) := by decide +kernel
theorem dX7_readObject_20 : decode cX7_readObject 20 = .ok (.iconst 2, 1) := by decide +kernel
theorem dX7_readObject_21 : decode cX7_readObject 21 = .ok (.if_icmp .ne 49, 3) := by decide +kernel
theorem dX7_readObject_24 : decode cX7_readObject 24 = .ok (.aload_n 0, 1) := by decide +kernel
theorem dX7_readObject_25 : decode cX7_readObject 25 = .ok (.getfield 64, 3) := by decide +kernel
theorem dX7_readObject_28 : decode cX7_readObject 28 = .ok (.iload_n 2, 1) := by decide +kernel
theorem dX7_readObject_29 : decode cX7_readObject 29 = .ok (.if_icmp .ge 41, 3) := by decide +kernel
theorem dX7_readObject_32 : decode cX7_readObject 32 = .ok (.aload_n 0, 1) := by decide +kernel
theorem dX7_readObject_33 : decode cX7_readObject 33 = .ok (.getfield 13, 3) := by decide +kernel
theorem dX7_readObject_36 : decode cX7_readObject 36 = .ok (.iconst 1, 1) := by decide +kernel
theorem dX7_readObject_37 : decode cX7_readObject 37 = .ok (.aload_n 0, 1) := by decide +kernel
theorem dX7_readObject_38 : decode cX7_readObject 38 = .ok (.getfield 53, 3) := by decide +kernel
theorem dX7_readObject_41 : decode cX7_readObject 41 = .ok (.iconst 2, 1) := by decide +kernel
theorem dX7_readObject_42 : decode cX7_readObject 42 = .ok (.if_icmp .ne 18, 3) := by decide +kernel
theorem dX7_readObject_45 : decode cX7_readObject 45 = .ok (.aload_n 0, 1) := by decide +kernel
theorem dX7_readObject_46 : decode cX7_readObject 46 = .ok (.getfield 64, 3) := by decide +kernel
theorem dX7_readObject_49 : decode cX7_readObject 49 = .ok (.iload_n 2, 1) := by decide +kernel
theorem dX7_readObject_50 : decode cX7_readObject 50 = .ok (.if_icmp .ge 10, 3) := by decide +kernel
theorem dX7_readObject_53 : decode cX7_readObject 53 = .ok (.aload_n 0, 1) := by decide +kernel
theorem dX7_readObject_54 : decode cX7_readObject 54 = .ok (.getfield 64, 3) := by decide +kernel
theorem dX7_readObject_57 : decode cX7_readObject 57 = .ok (.goto 4, 3) := by decide +kernel
theorem dX7_readObject_60 : decode cX7_readObject 60 = .ok (.iconst 0, 1) := by decide +kernel
theorem dX7_readObject_61 : decode cX7_readObject 61 = .ok (.iadd, 1) := by decide +kernel
theorem dX7_readObject_62 : decode cX7_readObject 62 = .ok (.iaload, 1) := by decide +kernel
theorem dX7_readObject_63 : decode cX7_readObject 63 = .ok (.ifCond .ne 7, 3) := by decide +kernel
theorem dX7_readObject_66 : decode cX7_readObject 66 = .ok (.iconst 1, 1) := by decide +kernel
theorem dX7_readObject_67 : decode cX7_readObject 67 = .ok (.goto 4, 3) := by decide +kernel
theorem dX7_readObject_70 : decode cX7_readObject 70 = .ok (.iconst 0, 1) := by decide +kernel
theorem dX7_readObject_71 : decode cX7_readObject 71 = .ok (.invokevirtual 77, 3) := by decide +kernel
theorem dX7_readObject_74 : decode cX7_readObject 74 = .ok (.istore_n 3, 1) := by decide +kernel
theorem dX7_readObject_75 : decode cX7_readObject 75 = .ok (.goto 18, 3) := by decide +kernel
theorem dX7_readObject_78 : decode cX7_readObject 78 = .ok (.aload_n 0, 1) := by decide +kernel
theorem dX7_readObject_79 : decode cX7_readObject 79 = .ok (.iload_n 1, 1) := by decide +kernel
theorem dX7_readObject_80 : decode cX7_readObject 80 = .ok (.ifCond .ne 8, 3) := by decide +kernel
theorem dX7_readObject_83 : decode cX7_readObject 83 = .ok (.bipush 15, 2) := by decide +kernel
theorem dX7_readObject_85 : decode cX7_readObject 85 = .ok (.goto 4, 3) := by decide +kernel
theorem dX7_readObject_88 : decode cX7_readObject 88 = .ok (.iconst 3, 1) := by decide +kernel
theorem dX7_readObject_89 : decode cX7_readObject 89 = .ok (.invokevirtual 81, 3) := by decide +kernel
theorem dX7_readObject_92 : decode cX7_readObject 92 = .ok (.istore_n 3, 1) := by decide +kernel
theorem dX7_readObject_93 : decode cX7_readObject 93 = .ok (.iload_n 1, 1) := by decide +kernel
theorem dX7_readObject_94 : decode cX7_readObject 94 = .ok (.iconst 1, 1) := by decide +kernel
theorem dX7_readObject_95 : decode cX7_readObject 95 = .ok (.if_icmp .ne 12, 3) := by decide +kernel
theorem dX7_readObject_98 : decode cX7_readObject 98 = .ok (.aload_n 0, 1) := by decide +kernel
theorem dX7_readObject_99 : decode cX7_readObject 99 = .ok (.iload_n 2, 1) := by decide +kernel
theorem dX7_readObject_100 : decode cX7_readObject 100 = .ok (.iconst 1, 1) := by decide +kernel
theorem dX7_readObject_101 : decode cX7_readObject 101 = .ok (.isub, 1) := by decide +kernel
theorem dX7_readObject_102 : decode cX7_readObject 102 = .ok (.invokevirtual 81, 3) := by decide +kernel
theorem dX7_readObject_105 : decode cX7_readObject 105 = .ok (.istore 4, 2) := by decide +kernel
theorem dX7_readObject_107 : decode cX7_readObject 107 = .ok (.aload_n 0, 1) := by decide +kernel
theorem dX7_readObject_108 : decode cX7_readObject 108 = .ok (.iconst 5, 1) := by decide +kernel
theorem dX7_readObject_109 : decode cX7_readObject 109 = .ok (.invokevirtual 81, 3) := by decide +kernel
theorem dX7_readObject_112 : decode cX7_readObject 112 = .ok (.istore 5, 2) := by decide +kernel
theorem dX7_readObject_114 : decode cX7_readObject 114 = .ok (.aload_n 0, 1) := by decide +kernel
theorem dX7_readObject_115 : decode cX7_readObject 115 = .ok (.invokevirtual 70, 3) := by decide +kernel
theorem dX7_readObject_118 : decode cX7_readObject 118 = .ok (.ifCond .eq 54, 3) := by decide +kernel
theorem dX7_readObject_121 : decode cX7_readObject 121 = .ok (.aload_n 0, 1) := by decide +kernel
theorem dX7_readObject_122 : decode cX7_readObject 122 = .ok (.getfield 13, 3) := by decide +kernel
theorem dX7_readObject_125 : decode cX7_readObject 125 = .ok (.iconst 1, 1) := by decide +kernel
theorem dX7_readObject_126 : decode cX7_readObject 126 = .ok (.iload_n 2, 1) := by decide +kernel
theorem dX7_readObject_127 : decode cX7_readObject 127 = .ok (.iadd, 1) := by decide +kernel
theorem dX7_readObject_128 : decode cX7_readObject 128 = .ok (.iload_n 1, 1) := by decide +kernel
theorem dX7_readObject_129 : decode cX7_readObject 129 = .ok (.iastore, 1) := by decide +kernel
theorem dX7_readObject_130 : decode cX7_readObject 130 = .ok (.aload_n 0, 1) := by decide +kernel
theorem dX7_readObject_131 : decode cX7_readObject 131 = .ok (.getfield 13, 3) := by decide +kernel
theorem dX7_readObject_134 : decode cX7_readObject 134 = .ok (.bipush 11, 2) := by decide +kernel
theorem dX7_readObject_136 : decode cX7_readObject 136 = .ok (.iload_n 2, 1) := by decide +kernel
theorem dX7_readObject_137 : decode cX7_readObject 137 = .ok (.iadd, 1) := by decide +kernel
theorem dX7_readObject_138 : decode cX7_readObject 138 = .ok (.iload_n 3, 1) := by decide +kernel
theorem dX7_readObject_139 : decode cX7_readObject 139 = .ok (.iastore, 1) := by decide +kernel
theorem dX7_readObject_140 : decode cX7_readObject 140 = .ok (.aload_n 0, 1) := by decide +kernel
theorem dX7_readObject_141 : decode cX7_readObject 141 = .ok (.getfield 13, 3) := by decide +kernel
theorem dX7_readObject_144 : decode cX7_readObject 144 = .ok (.bipush 21, 2) := by decide +kernel
theorem dX7_readObject_146 : decode cX7_readObject 146 = .ok (.iload_n 2, 1) := by decide +kernel
theorem dX7_readObject_147 : decode cX7_readObject 147 = .ok (.iadd, 1) := by decide +kernel
theorem dX7_readObject_148 : decode cX7_readObject 148 = .ok (.iload 4, 2) := by decide +kernel
theorem dX7_readObject_150 : decode cX7_readObject 150 = .ok (.iastore, 1) := by decide +kernel
theorem dX7_readObject_151 : decode cX7_readObject 151 = .ok (.aload_n 0, 1) := by decide +kernel
theorem dX7_readObject_152 : decode cX7_readObject 152 = .ok (.getfield 13, 3) := by decide +kernel
theorem dX7_readObject_155 : decode cX7_readObject 155 = .ok (.bipush 31, 2) := by decide +kernel
theorem dX7_readObject_157 : decode cX7_readObject 157 = .ok (.iload_n 2, 1) := by decide +kernel
theorem dX7_readObject_158 : decode cX7_readObject 158 = .ok (.iadd, 1) := by decide +kernel
theorem dX7_readObject_159 : decode cX7_readObject 159 = .ok (.iload 5, 2) := by decide +kernel
theorem dX7_readObject_161 : decode cX7_readObject 161 = .ok (.iastore, 1) := by decide +kernel
theorem dX7_readObject_162 : decode cX7_readObject 162 = .ok (.aload_n 0, 1) := by decide +kernel
theorem dX7_readObject_163 : decode cX7_readObject 163 = .ok (.getfield 13, 3) := by decide +kernel
theorem dX7_readObject_166 : decode cX7_readObject 166 = .ok (.iconst 0, 1) := by decide +kernel
theorem dX7_readObject_167 : decode cX7_readObject 167 = .ok (.dup2, 1) := by decide +kernel
theorem dX7_readObject_168 : decode cX7_readObject 168 = .ok (.iaload, 1) := by decide +kernel
theorem dX7_readObject_169 : decode cX7_readObject 169 = .ok (.iconst 1, 1) := by decide +kernel
theorem dX7_readObject_170 : decode cX7_readObject 170 = .ok (.iadd, 1) := by decide +kernel
theorem dX7_readObject_171 : decode cX7_readObject 171 = .ok (.iastore, 1) := by decide +kernel
theorem dX7_readObject_172 : decode cX7_readObject 172 = .ok (.return_, 1) := by decide +kernel
theorem dX7_referenceCount_0 : decode cX7_referenceCount 0 = .ok (.aload_n 0, 1) := by decide +kernel
theorem dX7_referenceCount_1 : decode cX7_referenceCount 1 = .ok (.iconst 0, 1) := by decide +kernel
theorem dX7_referenceCount_2 : decode cX7_referenceCount 2 = .ok (.putfield 32, 3) := by decide +kernel
theorem dX7_referenceCount_5 : decode cX7_referenceCount 5 = .ok (.aload_n 0, 1) := by decide +kernel
theorem dX7_referenceCount_6 : decode cX7_referenceCount 6 = .ok (.getfield 7, 3) := by decide +kernel
theorem dX7_referenceCount_9 : decode cX7_referenceCount 9 = .ok (.bipush 41, 2) := by decide +kernel
theorem dX7_referenceCount_11 : decode cX7_referenceCount 11 = .ok (.iaload, 1) := by decide +kernel
theorem dX7_referenceCount_12 : decode cX7_referenceCount 12 = .ok (.ireturn, 1) := by decide +kernel
theorem dX7_removeReference_0 : decode cX7_removeReference 0 = .ok (.aload_n 0, 1) := by decide +kernel
theorem dX7_removeReference_1 : decode cX7_removeReference 1 = .ok (.iconst 0, 1) := by decide +kernel
theorem dX7_removeReference_2 : decode cX7_removeReference 2 = .ok (.putfield 32, 3) := by decide +kernel
theorem dX7_removeReference_5 : decode cX7_removeReference 5 = .ok (.iload_n 1, 1) := by decide +kernel
theorem dX7_removeReference_6 : decode cX7_removeReference 6 = .ok (.iconst 0, 1) := by decide +kernel
theorem dX7_removeReference_7 : decode cX7_removeReference 7 = .ok (.aload_n 0, 1) := by decide +kernel
theorem dX7_removeReference_8 : decode cX7_removeReference 8 = .ok (.getfield 7, 3) := by decide +kernel
theorem dX7_removeReference_11 : decode cX7_removeReference 11 = .ok (.bipush 41, 2) := by decide +kernel
theorem dX7_removeReference_13 : decode cX7_removeReference 13 = .ok (.iaload, 1) := by decide +kernel
theorem dX7_removeReference_14 : decode cX7_removeReference 14 = .ok (.iconst 1, 1) := by decide +kernel
theorem dX7_removeReference_15 : decode cX7_removeReference 15 = .ok (.isub, 1) := by decide +kernel
theorem dX7_removeReference_16 : decode cX7_removeReference 16 = .ok (.invokestatic 56, 3) := by decide +kernel
theorem dX7_removeReference_19 : decode cX7_removeReference 19 = .ok (.ifCond .ne 5, 3) := by decide +kernel
theorem dX7_removeReference_22 : decode cX7_removeReference 22 = .ok (.iconst (-1), 1) := by decide +kernel
theorem dX7_removeReference_23 : decode cX7_removeReference 23 = .ok (.ireturn, 1) := by decide +kernel
theorem dX7_removeReference_24 : decode cX7_removeReference 24 = .ok (.aload_n 0, 1) := by decide +kernel
theorem dX7_removeReference_25 : decode cX7_removeReference 25 = .ok (.invokevirtual 99, 3) := by decide +kernel
theorem dX7_removeReference_28 : decode cX7_removeReference 28 = .ok (.bipush 42, 2) := by decide +kernel
theorem dX7_removeReference_30 : decode cX7_removeReference 30 = .ok (.iconst 2, 1) := by decide +kernel
theorem dX7_removeReference_31 : decode cX7_removeReference 31 = .ok (.iload_n 1, 1) := by decide +kernel
theorem dX7_removeReference_32 : decode cX7_removeReference 32 = .ok (.imul, 1) := by decide +kernel
theorem dX7_removeReference_33 : decode cX7_removeReference 33 = .ok (.iadd, 1) := by decide +kernel
theorem dX7_removeReference_34 : decode cX7_removeReference 34 = .ok (.istore_n 2, 1) := by decide +kernel
theorem dX7_removeReference_35 : decode cX7_removeReference 35 = .ok (.iload_n 2, 1) := by decide +kernel
theorem dX7_removeReference_36 : decode cX7_removeReference 36 = .ok (.iconst 2, 1) := by decide +kernel
theorem dX7_removeReference_37 : decode cX7_removeReference 37 = .ok (.iadd, 1) := by decide +kernel
theorem dX7_removeReference_38 : decode cX7_removeReference 38 = .ok (.bipush 62, 2) := by decide +kernel
theorem dX7_removeReference_40 : decode cX7_removeReference 40 = .ok (.if_icmp .ge 23, 3) := by decide +kernel
theorem dX7_removeReference_43 : decode cX7_removeReference 43 = .ok (.aload_n 0, 1) := by decide +kernel
theorem dX7_removeReference_44 : decode cX7_removeReference 44 = .ok (.getfield 7, 3) := by decide +kernel
theorem dX7_removeReference_47 : decode cX7_removeReference 47 = .ok (.iload_n 2, 1) := by decide +kernel
theorem dX7_removeReference_48 : decode cX7_removeReference 48 = .ok (.aload_n 0, 1) := by decide +kernel
theorem dX7_removeReference_49 : decode cX7_removeReference 49 = .ok (.getfield 7, 3) := by decide +kernel
theorem dX7_removeReference_52 : decode cX7_removeReference 52 = .ok (.iload_n 2, 1) := by decide +kernel
theorem dX7_removeReference_53 : decode cX7_removeReference 53 = .ok (.iconst 2, 1) := by decide +kernel
theorem dX7_removeReference_54 : decode cX7_removeReference 54 = .ok (.iadd, 1) := by decide +kernel
theorem dX7_removeReference_55 : decode cX7_removeReference 55 = .ok (.iaload, 1) := by decide +kernel
theorem dX7_removeReference_56 : decode cX7_removeReference 56 = .ok (.iastore, 1) := by decide +kernel
theorem dX7_removeReference_57 : decode cX7_removeReference 57 = .ok (.iinc 2 1, 3) := by decide +kernel
theorem dX7_removeReference_60 : decode cX7_removeReference 60 = .ok (.goto (-25), 3) := by decide +kernel
theorem dX7_removeReference_63 : decode cX7_removeReference 63 = .ok (.aload_n 0, 1) := by decide +kernel
theorem dX7_removeReference_64 : decode cX7_removeReference 64 = .ok (.getfield 7, 3) := by decide +kernel
theorem dX7_removeReference_67 : decode cX7_removeReference 67 = .ok (.bipush 41, 2) := by decide +kernel
theorem dX7_removeReference_69 : decode cX7_removeReference 69 = .ok (.dup2, 1) := by decide +kernel
theorem dX7_removeReference_70 : decode cX7_removeReference 70 = .ok (.iaload, 1) := by decide +kernel
theorem dX7_removeReference_71 : decode cX7_removeReference 71 = .ok (.iconst 1, 1) := by decide +kernel
theorem dX7_removeReference_72 : decode cX7_removeReference 72 = .ok (.isub, 1) := by decide +kernel
theorem dX7_removeReference_73 : decode cX7_removeReference 73 = .ok (.iastore, 1) := by decide +kernel
theorem dX7_removeReference_74 : decode cX7_removeReference 74 = .ok (.aload_n 0, 1) := by decide +kernel
theorem dX7_removeReference_75 : decode cX7_removeReference 75 = .ok (.invokevirtual 102, 3) := by decide +kernel
theorem dX7_removeReference_78 : decode cX7_removeReference 78 = .ok (.aload_n 0, 1) := by decide +kernel
theorem dX7_removeReference_79 : decode cX7_removeReference 79 = .ok (.getfield 7, 3) := by decide +kernel
theorem dX7_removeReference_82 : decode cX7_removeReference 82 = .ok (.bipush 41, 2) := by decide +kernel
theorem dX7_removeReference_84 : decode cX7_removeReference 84 = .ok (.iaload, 1) := by decide +kernel
theorem dX7_removeReference_85 : decode cX7_removeReference 85 = .ok (.ireturn, 1) := by decide +kernel
theorem dX7_requirementOf_0 : decode cX7_requirementOf 0 = .ok (.iconst 0, 1) := by decide +kernel
theorem dX7_requirementOf_1 : decode cX7_requirementOf 1 = .ok (.istore_n 3, 1) := by decide +kernel
theorem dX7_requirementOf_2 : decode cX7_requirementOf 2 = .ok (.iload_n 3, 1) := by decide +kernel
theorem dX7_requirementOf_3 : decode cX7_requirementOf 3 = .ok (.aload_n 0, 1) := by decide +kernel
theorem dX7_requirementOf_4 : decode cX7_requirementOf 4 = .ok (.getfield 7, 3) := by decide +kernel
theorem dX7_requirementOf_7 : decode cX7_requirementOf 7 = .ok (.bipush 62, 2) := by decide +kernel
theorem dX7_requirementOf_9 : decode cX7_requirementOf 9 = .ok (.iaload, 1) := by decide +kernel
theorem dX7_requirementOf_10 : decode cX7_requirementOf 10 = .ok (.if_icmp .ge 43, 3) := by decide +kernel
theorem dX7_requirementOf_13 : decode cX7_requirementOf 13 = .ok (.aload_n 0, 1) := by decide +kernel
theorem dX7_requirementOf_14 : decode cX7_requirementOf 14 = .ok (.getfield 7, 3) := by decide +kernel
theorem dX7_requirementOf_17 : decode cX7_requirementOf 17 = .ok (.bipush 63, 2) := by decide +kernel
theorem dX7_requirementOf_19 : decode cX7_requirementOf 19 = .ok (.iconst 2, 1) := by decide +kernel
theorem dX7_requirementOf_20 : decode cX7_requirementOf 20 = .ok (.iload_n 3, 1) := by decide +kernel
theorem dX7_requirementOf_21 : decode cX7_requirementOf 21 = .ok (.imul, 1) := by decide +kernel
theorem dX7_requirementOf_22 : decode cX7_requirementOf 22 = .ok (.iadd, 1) := by decide +kernel
theorem dX7_requirementOf_23 : decode cX7_requirementOf 23 = .ok (.iaload, 1) := by decide +kernel
theorem dX7_requirementOf_24 : decode cX7_requirementOf 24 = .ok (.iload_n 1, 1) := by decide +kernel
theorem dX7_requirementOf_25 : decode cX7_requirementOf 25 = .ok (.if_icmp .ne 22, 3) := by decide +kernel
theorem dX7_requirementOf_28 : decode cX7_requirementOf 28 = .ok (.aload_n 0, 1) := by decide +kernel
theorem dX7_requirementOf_29 : decode cX7_requirementOf 29 = .ok (.getfield 7, 3) := by decide +kernel
theorem dX7_requirementOf_32 : decode cX7_requirementOf 32 = .ok (.bipush 63, 2) := by decide +kernel
theorem dX7_requirementOf_34 : decode cX7_requirementOf 34 = .ok (.iconst 2, 1) := by decide +kernel
theorem dX7_requirementOf_35 : decode cX7_requirementOf 35 = .ok (.iload_n 3, 1) := by decide +kernel
theorem dX7_requirementOf_36 : decode cX7_requirementOf 36 = .ok (.imul, 1) := by decide +kernel
theorem dX7_requirementOf_37 : decode cX7_requirementOf 37 = .ok (.iadd, 1) := by decide +kernel
theorem dX7_requirementOf_38 : decode cX7_requirementOf 38 = .ok (.iconst 1, 1) := by decide +kernel
theorem dX7_requirementOf_39 : decode cX7_requirementOf 39 = .ok (.iadd, 1) := by decide +kernel
theorem dX7_requirementOf_40 : decode cX7_requirementOf 40 = .ok (.iaload, 1) := by decide +kernel
theorem dX7_requirementOf_41 : decode cX7_requirementOf 41 = .ok (.iload_n 2, 1) := by decide +kernel
theorem dX7_requirementOf_42 : decode cX7_requirementOf 42 = .ok (.if_icmp .ne 5, 3) := by decide +kernel
theorem dX7_requirementOf_45 : decode cX7_requirementOf 45 = .ok (.iload_n 3, 1) := by decide +kernel
theorem dX7_requirementOf_46 : decode cX7_requirementOf 46 = .ok (.ireturn, 1) := by decide +kernel
theorem dX7_requirementOf_47 : decode cX7_requirementOf 47 = .ok (.iinc 3 1, 3) := by decide +kernel
theorem dX7_requirementOf_50 : decode cX7_requirementOf 50 = .ok (.goto (-48), 3) := by decide +kernel
theorem dX7_requirementOf_53 : decode cX7_requirementOf 53 = .ok (.bipush (-9), 2) := by decide +kernel
theorem dX7_requirementOf_55 : decode cX7_requirementOf 55 = .ok (.ireturn, 1) := by decide +kernel
theorem dX7_restartRun_0 : decode cX7_restartRun 0 = .ok (.aload_n 0, 1) := by decide +kernel
theorem dX7_restartRun_1 : decode cX7_restartRun 1 = .ok (.iconst 0, 1) := by decide +kernel
theorem dX7_restartRun_2 : decode cX7_restartRun 2 = .ok (.putfield 32, 3) := by decide +kernel
theorem dX7_restartRun_5 : decode cX7_restartRun 5 = .ok (.aload_n 0, 1) := by decide +kernel
theorem dX7_restartRun_6 : decode cX7_restartRun 6 = .ok (.invokevirtual 99, 3) := by decide +kernel
theorem dX7_restartRun_9 : decode cX7_restartRun 9 = .ok (.iconst 0, 1) := by decide +kernel
theorem dX7_restartRun_10 : decode cX7_restartRun 10 = .ok (.istore_n 1, 1) := by decide +kernel
theorem dX7_restartRun_11 : decode cX7_restartRun 11 = .ok (.iconst 0, 1) := by decide +kernel
theorem dX7_restartRun_12 : decode cX7_restartRun 12 = .ok (.istore_n 2, 1) := by decide +kernel
theorem dX7_restartRun_13 : decode cX7_restartRun 13 = .ok (.iload_n 2, 1) := by decide +kernel
theorem dX7_restartRun_14 : decode cX7_restartRun 14 = .ok (.bipush 10, 2) := by decide +kernel
theorem dX7_restartRun_16 : decode cX7_restartRun 16 = .ok (.if_icmp .ge 24, 3) := by decide +kernel
theorem dX7_restartRun_19 : decode cX7_restartRun 19 = .ok (.iload_n 1, 1) := by decide +kernel
theorem dX7_restartRun_20 : decode cX7_restartRun 20 = .ok (.aload_n 0, 1) := by decide +kernel
theorem dX7_restartRun_21 : decode cX7_restartRun 21 = .ok (.getfield 7, 3) := by decide +kernel
theorem dX7_restartRun_24 : decode cX7_restartRun 24 = .ok (.bipush 71, 2) := by decide +kernel
theorem dX7_restartRun_26 : decode cX7_restartRun 26 = .ok (.iload_n 2, 1) := by decide +kernel
theorem dX7_restartRun_27 : decode cX7_restartRun 27 = .ok (.iadd, 1) := by decide +kernel
theorem dX7_restartRun_28 : decode cX7_restartRun 28 = .ok (.iaload, 1) := by decide +kernel
theorem dX7_restartRun_29 : decode cX7_restartRun 29 = .ok (.invokestatic 194, 3) := by decide +kernel
theorem dX7_restartRun_32 : decode cX7_restartRun 32 = .ok (.iadd, 1) := by decide +kernel
theorem dX7_restartRun_33 : decode cX7_restartRun 33 = .ok (.istore_n 1, 1) := by decide +kernel
theorem dX7_restartRun_34 : decode cX7_restartRun 34 = .ok (.iinc 2 1, 3) := by decide +kernel
theorem dX7_restartRun_37 : decode cX7_restartRun 37 = .ok (.goto (-24), 3) := by decide +kernel
theorem dX7_restartRun_40 : decode cX7_restartRun 40 = .ok (.aload_n 0, 1) := by decide +kernel
theorem dX7_restartRun_41 : decode cX7_restartRun 41 = .ok (.invokevirtual 102, 3) := by decide +kernel
theorem dX7_restartRun_44 : decode cX7_restartRun 44 = .ok (.iload_n 1, 1) := by decide +kernel
theorem dX7_restartRun_45 : decode cX7_restartRun 45 = .ok (.ireturn, 1) := by decide +kernel
theorem dX7_round_0 : decode cX7_round 0 = .ok (.aload_n 0, 1) := by decide +kernel
theorem dX7_round_1 : decode cX7_round 1 = .ok (.iconst 0, 1) := by decide +kernel
theorem dX7_round_2 : decode cX7_round 2 = .ok (.putfield 32, 3) := by decide +kernel
theorem dX7_round_5 : decode cX7_round 5 = .ok (.aload_n 0, 1) := by decide +kernel
theorem dX7_round_6 : decode cX7_round 6 = .ok (.iload_n 1, 1) := by decide +kernel
theorem dX7_round_7 : decode cX7_round 7 = .ok (.iload_n 2, 1) := by decide +kernel
theorem dX7_round_8 : decode cX7_round 8 = .ok (.invokevirtual 166, 3) := by decide +kernel
theorem dX7_round_11 : decode cX7_round 11 = .ok (.ifCond .eq 12, 3) := by decide +kernel
theorem dX7_round_14 : decode cX7_round 14 = .ok (.aload_n 0, 1) := by decide +kernel
theorem dX7_round_15 : decode cX7_round 15 = .ok (.iload_n 1, 1) := by decide +kernel
theorem dX7_round_16 : decode cX7_round 16 = .ok (.iload_n 2, 1) := by decide +kernel
theorem dX7_round_17 : decode cX7_round 17 = .ok (.invokevirtual 169, 3) := by decide +kernel
theorem dX7_round_20 : decode cX7_round 20 = .ok (.goto 4, 3) := by decide +kernel
theorem dX7_round_23 : decode cX7_round 23 = .ok (.iconst (-1), 1) := by decide +kernel
theorem dX7_round_24 : decode cX7_round 24 = .ok (.ireturn, 1) := by decide +kernel
theorem dX7_roundOf_0 : decode cX7_roundOf 0 = .ok (.aload_n 0, 1) := by decide +kernel
theorem dX7_roundOf_1 : decode cX7_roundOf 1 = .ok (.iconst 0, 1) := by decide +kernel
theorem dX7_roundOf_2 : decode cX7_roundOf 2 = .ok (.invokevirtual 163, 3) := by decide +kernel
theorem dX7_roundOf_5 : decode cX7_roundOf 5 = .ok (.aload_n 0, 1) := by decide +kernel
theorem dX7_roundOf_6 : decode cX7_roundOf 6 = .ok (.getfield 22, 3) := by decide +kernel
theorem dX7_roundOf_9 : decode cX7_roundOf 9 = .ok (.bipush 10, 2) := by decide +kernel
theorem dX7_roundOf_11 : decode cX7_roundOf 11 = .ok (.iload_n 1, 1) := by decide +kernel
theorem dX7_roundOf_12 : decode cX7_roundOf 12 = .ok (.imul, 1) := by decide +kernel
theorem dX7_roundOf_13 : decode cX7_roundOf 13 = .ok (.iload_n 2, 1) := by decide +kernel
theorem dX7_roundOf_14 : decode cX7_roundOf 14 = .ok (.iadd, 1) := by decide +kernel
theorem dX7_roundOf_15 : decode cX7_roundOf 15 = .ok (.iaload, 1) := by decide +kernel
theorem dX7_roundOf_16 : decode cX7_roundOf 16 = .ok (.ireturn, 1) := by decide +kernel
theorem dX7_rule_0 : decode cX7_rule 0 = .ok (.aload_n 0, 1) := by decide +kernel
theorem dX7_rule_1 : decode cX7_rule 1 = .ok (.iconst 0, 1) := by decide +kernel
theorem dX7_rule_2 : decode cX7_rule 2 = .ok (.putfield 32, 3) := by decide +kernel
theorem dX7_rule_5 : decode cX7_rule 5 = .ok (.aload_n 0, 1) := by decide +kernel
theorem dX7_rule_6 : decode cX7_rule 6 = .ok (.iload_n 1, 1) := by decide +kernel
theorem dX7_rule_7 : decode cX7_rule 7 = .ok (.iload_n 2, 1) := by decide +kernel
theorem dX7_rule_8 : decode cX7_rule 8 = .ok (.invokevirtual 166, 3) := by decide +kernel
theorem dX7_rule_11 : decode cX7_rule 11 = .ok (.ifCond .ne 5, 3) := by decide +kernel
theorem dX7_rule_14 : decode cX7_rule 14 = .ok (.iconst (-1), 1) := by decide +kernel
theorem dX7_rule_15 : decode cX7_rule 15 = .ok (.ireturn, 1) := by decide +kernel
theorem dX7_rule_16 : decode cX7_rule 16 = .ok (.aload_n 0, 1) := by decide +kernel
theorem dX7_rule_17 : decode cX7_rule 17 = .ok (.iload_n 1, 1) := by decide +kernel
theorem dX7_rule_18 : decode cX7_rule 18 = .ok (.iload_n 2, 1) := by decide +kernel
theorem dX7_rule_19 : decode cX7_rule 19 = .ok (.invokevirtual 169, 3) := by decide +kernel
theorem dX7_rule_22 : decode cX7_rule 22 = .ok (.istore_n 3, 1) := by decide +kernel
theorem dX7_rule_23 : decode cX7_rule 23 = .ok (.iload_n 3, 1) := by decide +kernel
theorem dX7_rule_24 : decode cX7_rule 24 = .ok (.iconst 1, 1) := by decide +kernel
theorem dX7_rule_25 : decode cX7_rule 25 = .ok (.if_icmp .ge 7, 3) := by decide +kernel
theorem dX7_rule_28 : decode cX7_rule 28 = .ok (.iload_n 3, 1) := by decide +kernel
theorem dX7_rule_29 : decode cX7_rule 29 = .ok (.goto 10, 3) := by decide +kernel
theorem dX7_rule_32 : decode cX7_rule 32 = .ok (.aload_n 0, 1) := by decide +kernel
theorem dX7_rule_33 : decode cX7_rule 33 = .ok (.iload_n 1, 1) := by decide +kernel
theorem dX7_rule_34 : decode cX7_rule 34 = .ok (.iload_n 2, 1) := by decide +kernel
theorem dX7_rule_35 : decode cX7_rule 35 = .ok (.iload_n 3, 1) := by decide +kernel
theorem dX7_rule_36 : decode cX7_rule 36 = .ok (.invokevirtual 160, 3) := by decide +kernel
theorem dX7_rule_39 : decode cX7_rule 39 = .ok (.ireturn, 1) := by decide +kernel
theorem dX7_ruleFor_0 : decode cX7_ruleFor 0 = .ok (.iconst 1, 1) := by decide +kernel
theorem dX7_ruleFor_1 : decode cX7_ruleFor 1 = .ok (.istore 4, 2) := by decide +kernel
theorem dX7_ruleFor_3 : decode cX7_ruleFor 3 = .ok (.iload 4, 2) := by decide +kernel
theorem dX7_ruleFor_5 : decode cX7_ruleFor 5 = .ok (.iconst 5, 1) := by decide +kernel
theorem dX7_ruleFor_6 : decode cX7_ruleFor 6 = .ok (.if_icmp .gt 26, 3) := by decide +kernel
theorem dX7_ruleFor_9 : decode cX7_ruleFor 9 = .ok (.aload_n 0, 1) := by decide +kernel
theorem dX7_ruleFor_10 : decode cX7_ruleFor 10 = .ok (.iload 4, 2) := by decide +kernel
theorem dX7_ruleFor_12 : decode cX7_ruleFor 12 = .ok (.iload_n 1, 1) := by decide +kernel
theorem dX7_ruleFor_13 : decode cX7_ruleFor 13 = .ok (.iload_n 2, 1) := by decide +kernel
theorem dX7_ruleFor_14 : decode cX7_ruleFor 14 = .ok (.iload_n 3, 1) := by decide +kernel
theorem dX7_ruleFor_15 : decode cX7_ruleFor 15 = .ok (.invokevirtual 147, 3) := by decide +kernel
theorem dX7_ruleFor_18 : decode cX7_ruleFor 18 = .ok (.bipush (-9), 2) := by decide +kernel
theorem dX7_ruleFor_20 : decode cX7_ruleFor 20 = .ok (.if_icmp .eq 6, 3) := by decide +kernel
theorem dX7_ruleFor_23 : decode cX7_ruleFor 23 = .ok (.iload 4, 2) := by decide +kernel
theorem dX7_ruleFor_25 : decode cX7_ruleFor 25 = .ok (.ireturn, 1) := by decide +kernel
theorem dX7_ruleFor_26 : decode cX7_ruleFor 26 = .ok (.iinc 4 1, 3) := by decide +kernel
theorem dX7_ruleFor_29 : decode cX7_ruleFor 29 = .ok (.goto (-26), 3) := by decide +kernel
theorem dX7_ruleFor_32 : decode cX7_ruleFor 32 = .ok (.bipush (-9), 2) := by decide +kernel
theorem dX7_ruleFor_34 : decode cX7_ruleFor 34 = .ok (.ireturn, 1) := by decide +kernel
theorem dX7_save_0 : decode cX7_save 0 = .ok (.aload_n 0, 1) := by decide +kernel
theorem dX7_save_1 : decode cX7_save 1 = .ok (.getfield 105, 3) := by decide +kernel
theorem dX7_save_4 : decode cX7_save 4 = .ok (.iconst 5, 1) := by decide +kernel
theorem dX7_save_5 : decode cX7_save 5 = .ok (.if_icmp .ne 43, 3) := by decide +kernel
theorem dX7_save_8 : decode cX7_save 8 = .ok (.iconst 0, 1) := by decide +kernel
theorem dX7_save_9 : decode cX7_save 9 = .ok (.istore_n 1, 1) := by decide +kernel
theorem dX7_save_10 : decode cX7_save 10 = .ok (.iload_n 1, 1) := by decide +kernel
theorem dX7_save_11 : decode cX7_save 11 = .ok (.sipush 324, 3) := by decide +kernel
theorem dX7_save_14 : decode cX7_save 14 = .ok (.if_icmp .ge 24, 3) := by decide +kernel
theorem dX7_save_17 : decode cX7_save 17 = .ok (.aload_n 0, 1) := by decide +kernel
theorem dX7_save_18 : decode cX7_save 18 = .ok (.getfield 16, 3) := by decide +kernel
theorem dX7_save_21 : decode cX7_save 21 = .ok (.iload_n 1, 1) := by decide +kernel
theorem dX7_save_22 : decode cX7_save 22 = .ok (.aload_n 0, 1) := by decide +kernel
theorem dX7_save_23 : decode cX7_save 23 = .ok (.getfield 16, 3) := by decide +kernel
theorem dX7_save_26 : decode cX7_save 26 = .ok (.bipush 81, 2) := by decide +kernel
theorem dX7_save_28 : decode cX7_save 28 = .ok (.iload_n 1, 1) := by decide +kernel
theorem dX7_save_29 : decode cX7_save 29 = .ok (.iadd, 1) := by decide +kernel
theorem dX7_save_30 : decode cX7_save 30 = .ok (.iaload, 1) := by decide +kernel
theorem dX7_save_31 : decode cX7_save 31 = .ok (.iastore, 1) := by decide +kernel
theorem dX7_save_32 : decode cX7_save 32 = .ok (.iinc 1 1, 3) := by decide +kernel
theorem dX7_save_35 : decode cX7_save 35 = .ok (.goto (-25), 3) := by decide +kernel
theorem dX7_save_38 : decode cX7_save 38 = .ok (.aload_n 0, 1) := by decide +kernel
theorem dX7_save_39 : decode cX7_save 39 = .ok (.dup, 1) := by decide +kernel
theorem dX7_save_40 : decode cX7_save 40 = .ok (.getfield 105, 3) := by decide +kernel
theorem dX7_save_43 : decode cX7_save 43 = .ok (.iconst 1, 1) := by decide +kernel
theorem dX7_save_44 : decode cX7_save 44 = .ok (.isub, 1) := by decide +kernel
theorem dX7_save_45 : decode cX7_save 45 = .ok (.putfield 105, 3) := by decide +kernel
theorem dX7_save_48 : decode cX7_save 48 = .ok (.iconst 0, 1) := by decide +kernel
theorem dX7_save_49 : decode cX7_save 49 = .ok (.istore_n 1, 1) := by decide +kernel
theorem dX7_save_50 : decode cX7_save 50 = .ok (.iload_n 1, 1) := by decide +kernel
theorem dX7_save_51 : decode cX7_save 51 = .ok (.bipush 81, 2) := by decide +kernel
theorem dX7_save_53 : decode cX7_save 53 = .ok (.if_icmp .ge 29, 3) := by decide +kernel
theorem dX7_save_56 : decode cX7_save 56 = .ok (.aload_n 0, 1) := by decide +kernel
theorem dX7_save_57 : decode cX7_save 57 = .ok (.getfield 16, 3) := by decide +kernel
theorem dX7_save_60 : decode cX7_save 60 = .ok (.bipush 81, 2) := by decide +kernel
theorem dX7_save_62 : decode cX7_save 62 = .ok (.aload_n 0, 1) := by decide +kernel
theorem dX7_save_63 : decode cX7_save 63 = .ok (.getfield 105, 3) := by decide +kernel
theorem dX7_save_66 : decode cX7_save 66 = .ok (.imul, 1) := by decide +kernel
theorem dX7_save_67 : decode cX7_save 67 = .ok (.iload_n 1, 1) := by decide +kernel
theorem dX7_save_68 : decode cX7_save 68 = .ok (.iadd, 1) := by decide +kernel
theorem dX7_save_69 : decode cX7_save 69 = .ok (.aload_n 0, 1) := by decide +kernel
theorem dX7_save_70 : decode cX7_save 70 = .ok (.getfield 7, 3) := by decide +kernel
theorem dX7_save_73 : decode cX7_save 73 = .ok (.iload_n 1, 1) := by decide +kernel
theorem dX7_save_74 : decode cX7_save 74 = .ok (.iaload, 1) := by decide +kernel
theorem dX7_save_75 : decode cX7_save 75 = .ok (.iastore, 1) := by decide +kernel
theorem dX7_save_76 : decode cX7_save 76 = .ok (.iinc 1 1, 3) := by decide +kernel
theorem dX7_save_79 : decode cX7_save 79 = .ok (.goto (-29), 3) := by decide +kernel
theorem dX7_save_82 : decode cX7_save 82 = .ok (.aload_n 0, 1) := by decide +kernel
theorem dX7_save_83 : decode cX7_save 83 = .ok (.dup, 1) := by decide +kernel
theorem dX7_save_84 : decode cX7_save 84 = .ok (.getfield 105, 3) := by decide +kernel
theorem dX7_save_87 : decode cX7_save 87 = .ok (.iconst 1, 1) := by decide +kernel
theorem dX7_save_88 : decode cX7_save 88 = .ok (.iadd, 1) := by decide +kernel
theorem dX7_save_89 : decode cX7_save 89 = .ok (.putfield 105, 3) := by decide +kernel
theorem dX7_save_92 : decode cX7_save 92 = .ok (.return_, 1) := by decide +kernel
theorem dX7_saveAndHold_0 : decode cX7_saveAndHold 0 = .ok (.aload_n 0, 1) := by decide +kernel
theorem dX7_saveAndHold_1 : decode cX7_saveAndHold 1 = .ok (.iload_n 1, 1) := by decide +kernel
theorem dX7_saveAndHold_2 : decode cX7_saveAndHold 2 = .ok (.iload_n 2, 1) := by decide +kernel
theorem dX7_saveAndHold_3 : decode cX7_saveAndHold 3 = .ok (.invokevirtual 197, 3) := by decide +kernel
theorem dX7_saveAndHold_6 : decode cX7_saveAndHold 6 = .ok (.ifCond .eq 7, 3) := by decide +kernel
theorem dX7_saveAndHold_9 : decode cX7_saveAndHold 9 = .ok (.iconst 0, 1) := by decide +kernel
theorem dX7_saveAndHold_10 : decode cX7_saveAndHold 10 = .ok (.goto 4, 3) := by decide +kernel
theorem dX7_saveAndHold_13 : decode cX7_saveAndHold 13 = .ok (.iconst 1, 1) := by decide +kernel
theorem dX7_saveAndHold_14 : decode cX7_saveAndHold 14 = .ok (.istore_n 3, 1) := by decide +kernel
theorem dX7_saveAndHold_15 : decode cX7_saveAndHold 15 = .ok (.aload_n 0, 1) := by decide +kernel
theorem dX7_saveAndHold_16 : decode cX7_saveAndHold 16 = .ok (.invokevirtual 99, 3) := by decide +kernel
theorem dX7_saveAndHold_19 : decode cX7_saveAndHold 19 = .ok (.aload_n 0, 1) := by decide +kernel
theorem dX7_saveAndHold_20 : decode cX7_saveAndHold 20 = .ok (.getfield 7, 3) := by decide +kernel
theorem dX7_saveAndHold_23 : decode cX7_saveAndHold 23 = .ok (.bipush 71, 2) := by decide +kernel
theorem dX7_saveAndHold_25 : decode cX7_saveAndHold 25 = .ok (.iload_n 1, 1) := by decide +kernel
theorem dX7_saveAndHold_26 : decode cX7_saveAndHold 26 = .ok (.iadd, 1) := by decide +kernel
theorem dX7_saveAndHold_27 : decode cX7_saveAndHold 27 = .ok (.dup2, 1) := by decide +kernel
theorem dX7_saveAndHold_28 : decode cX7_saveAndHold 28 = .ok (.iaload, 1) := by decide +kernel
theorem dX7_saveAndHold_29 : decode cX7_saveAndHold 29 = .ok (.iconst 1, 1) := by decide +kernel
theorem dX7_saveAndHold_30 : decode cX7_saveAndHold 30 = .ok (.iload_n 2, 1) := by decide +kernel
theorem dX7_saveAndHold_31 : decode cX7_saveAndHold 31 = .ok (.ishl, 1) := by decide +kernel
theorem dX7_saveAndHold_32 : decode cX7_saveAndHold 32 = .ok (.ior, 1) := by decide +kernel
theorem dX7_saveAndHold_33 : decode cX7_saveAndHold 33 = .ok (.iastore, 1) := by decide +kernel
theorem dX7_saveAndHold_34 : decode cX7_saveAndHold 34 = .ok (.iload_n 3, 1) := by decide +kernel
theorem dX7_saveAndHold_35 : decode cX7_saveAndHold 35 = .ok (.ireturn, 1) := by decide +kernel
theorem dX7_setBehaviour_0 : decode cX7_setBehaviour 0 = .ok (.aload_n 0, 1) := by decide +kernel
theorem dX7_setBehaviour_1 : decode cX7_setBehaviour 1 = .ok (.iconst 0, 1) := by decide +kernel
theorem dX7_setBehaviour_2 : decode cX7_setBehaviour 2 = .ok (.putfield 32, 3) := by decide +kernel
theorem dX7_setBehaviour_5 : decode cX7_setBehaviour 5 = .ok (.aload_n 0, 1) := by decide +kernel
theorem dX7_setBehaviour_6 : decode cX7_setBehaviour 6 = .ok (.iload_n 1, 1) := by decide +kernel
theorem dX7_setBehaviour_7 : decode cX7_setBehaviour 7 = .ok (.iconst 0, 1) := by decide +kernel
theorem dX7_setBehaviour_8 : decode cX7_setBehaviour 8 = .ok (.invokevirtual 112, 3) := by decide +kernel
theorem dX7_setBehaviour_11 : decode cX7_setBehaviour 11 = .ok (.ifCond .eq 25, 3) := by decide +kernel
theorem dX7_setBehaviour_14 : decode cX7_setBehaviour 14 = .ok (.iload_n 2, 1) := by decide +kernel
theorem dX7_setBehaviour_15 : decode cX7_setBehaviour 15 = .ok (.iconst 0, 1) := by decide +kernel
theorem dX7_setBehaviour_16 : decode cX7_setBehaviour 16 = .ok (.bipush 15, 2) := by decide +kernel
theorem dX7_setBehaviour_18 : decode cX7_setBehaviour 18 = .ok (.invokestatic 56, 3) := by decide +kernel
theorem dX7_setBehaviour_21 : decode cX7_setBehaviour 21 = .ok (.ifCond .eq 15, 3) := by decide +kernel
theorem dX7_setBehaviour_24 : decode cX7_setBehaviour 24 = .ok (.aload_n 0, 1) := by decide +kernel
theorem dX7_setBehaviour_25 : decode cX7_setBehaviour 25 = .ok (.bipush 11, 2) := by decide +kernel
theorem dX7_setBehaviour_27 : decode cX7_setBehaviour 27 = .ok (.iload_n 1, 1) := by decide +kernel
theorem dX7_setBehaviour_28 : decode cX7_setBehaviour 28 = .ok (.iadd, 1) := by decide +kernel
theorem dX7_setBehaviour_29 : decode cX7_setBehaviour 29 = .ok (.iload_n 2, 1) := by decide +kernel
theorem dX7_setBehaviour_30 : decode cX7_setBehaviour 30 = .ok (.invokevirtual 115, 3) := by decide +kernel
theorem dX7_setBehaviour_33 : decode cX7_setBehaviour 33 = .ok (.goto 4, 3) := by decide +kernel
theorem dX7_setBehaviour_36 : decode cX7_setBehaviour 36 = .ok (.iconst (-1), 1) := by decide +kernel
theorem dX7_setBehaviour_37 : decode cX7_setBehaviour 37 = .ok (.ireturn, 1) := by decide +kernel
theorem dX7_setGroup_0 : decode cX7_setGroup 0 = .ok (.aload_n 0, 1) := by decide +kernel
theorem dX7_setGroup_1 : decode cX7_setGroup 1 = .ok (.iconst 0, 1) := by decide +kernel
theorem dX7_setGroup_2 : decode cX7_setGroup 2 = .ok (.putfield 32, 3) := by decide +kernel
theorem dX7_setGroup_5 : decode cX7_setGroup 5 = .ok (.aload_n 0, 1) := by decide +kernel
theorem dX7_setGroup_6 : decode cX7_setGroup 6 = .ok (.iload_n 1, 1) := by decide +kernel
theorem dX7_setGroup_7 : decode cX7_setGroup 7 = .ok (.invokevirtual 108, 3) := by decide +kernel
theorem dX7_setGroup_10 : decode cX7_setGroup 10 = .ok (.ifCond .eq 24, 3) := by decide +kernel
theorem dX7_setGroup_13 : decode cX7_setGroup 13 = .ok (.iload_n 2, 1) := by decide +kernel
theorem dX7_setGroup_14 : decode cX7_setGroup 14 = .ok (.iconst 0, 1) := by decide +kernel
theorem dX7_setGroup_15 : decode cX7_setGroup 15 = .ok (.iconst 5, 1) := by decide +kernel
theorem dX7_setGroup_16 : decode cX7_setGroup 16 = .ok (.invokestatic 56, 3) := by decide +kernel
theorem dX7_setGroup_19 : decode cX7_setGroup 19 = .ok (.ifCond .eq 15, 3) := by decide +kernel
theorem dX7_setGroup_22 : decode cX7_setGroup 22 = .ok (.aload_n 0, 1) := by decide +kernel
theorem dX7_setGroup_23 : decode cX7_setGroup 23 = .ok (.bipush 31, 2) := by decide +kernel
theorem dX7_setGroup_25 : decode cX7_setGroup 25 = .ok (.iload_n 1, 1) := by decide +kernel
theorem dX7_setGroup_26 : decode cX7_setGroup 26 = .ok (.iadd, 1) := by decide +kernel
theorem dX7_setGroup_27 : decode cX7_setGroup 27 = .ok (.iload_n 2, 1) := by decide +kernel
theorem dX7_setGroup_28 : decode cX7_setGroup 28 = .ok (.invokevirtual 115, 3) := by decide +kernel
theorem dX7_setGroup_31 : decode cX7_setGroup 31 = .ok (.goto 4, 3) := by decide +kernel
theorem dX7_setGroup_34 : decode cX7_setGroup 34 = .ok (.iconst (-1), 1) := by decide +kernel
theorem dX7_setGroup_35 : decode cX7_setGroup 35 = .ok (.ireturn, 1) := by decide +kernel
theorem dX7_smallestRepair_0 : decode cX7_smallestRepair 0 = .ok (.aload_n 0, 1) := by decide +kernel
theorem dX7_smallestRepair_1 : decode cX7_smallestRepair 1 = .ok (.iconst 0, 1) := by decide +kernel
theorem dX7_smallestRepair_2 : decode cX7_smallestRepair 2 = .ok (.putfield 32, 3) := by decide +kernel
theorem dX7_smallestRepair_5 : decode cX7_smallestRepair 5 = .ok (.bipush (-9), 2) := by decide +kernel
theorem dX7_smallestRepair_7 : decode cX7_smallestRepair 7 = .ok (.istore_n 1, 1) := by decide +kernel
theorem dX7_smallestRepair_8 : decode cX7_smallestRepair 8 = .ok (.iconst 0, 1) := by decide +kernel
theorem dX7_smallestRepair_9 : decode cX7_smallestRepair 9 = .ok (.istore_n 2, 1) := by decide +kernel
theorem dX7_smallestRepair_10 : decode cX7_smallestRepair 10 = .ok (.iload_n 2, 1) := by decide +kernel
theorem dX7_smallestRepair_11 : decode cX7_smallestRepair 11 = .ok (.aload_n 0, 1) := by decide +kernel
theorem dX7_smallestRepair_12 : decode cX7_smallestRepair 12 = .ok (.getfield 7, 3) := by decide +kernel
theorem dX7_smallestRepair_15 : decode cX7_smallestRepair 15 = .ok (.bipush 41, 2) := by decide +kernel
theorem dX7_smallestRepair_17 : decode cX7_smallestRepair 17 = .ok (.iaload, 1) := by decide +kernel
theorem dX7_smallestRepair_18 : decode cX7_smallestRepair 18 = .ok (.if_icmp .gt 69, 3) := by decide +kernel
theorem dX7_smallestRepair_21 : decode cX7_smallestRepair 21 = .ok (.iload_n 1, 1) := by decide +kernel
theorem dX7_smallestRepair_22 : decode cX7_smallestRepair 22 = .ok (.bipush (-9), 2) := by decide +kernel
theorem dX7_smallestRepair_24 : decode cX7_smallestRepair 24 = .ok (.if_icmp .ne 63, 3) := by decide +kernel
theorem dX7_smallestRepair_27 : decode cX7_smallestRepair 27 = .ok (.iconst 0, 1) := by decide +kernel
theorem dX7_smallestRepair_28 : decode cX7_smallestRepair 28 = .ok (.istore_n 3, 1) := by decide +kernel
theorem dX7_smallestRepair_29 : decode cX7_smallestRepair 29 = .ok (.iload_n 3, 1) := by decide +kernel
theorem dX7_smallestRepair_30 : decode cX7_smallestRepair 30 = .ok (.iconst 1, 1) := by decide +kernel
theorem dX7_smallestRepair_31 : decode cX7_smallestRepair 31 = .ok (.aload_n 0, 1) := by decide +kernel
theorem dX7_smallestRepair_32 : decode cX7_smallestRepair 32 = .ok (.getfield 7, 3) := by decide +kernel
theorem dX7_smallestRepair_35 : decode cX7_smallestRepair 35 = .ok (.bipush 41, 2) := by decide +kernel
theorem dX7_smallestRepair_37 : decode cX7_smallestRepair 37 = .ok (.iaload, 1) := by decide +kernel
theorem dX7_smallestRepair_38 : decode cX7_smallestRepair 38 = .ok (.ishl, 1) := by decide +kernel
theorem dX7_smallestRepair_39 : decode cX7_smallestRepair 39 = .ok (.if_icmp .ge 42, 3) := by decide +kernel
theorem dX7_smallestRepair_42 : decode cX7_smallestRepair 42 = .ok (.iload_n 1, 1) := by decide +kernel
theorem dX7_smallestRepair_43 : decode cX7_smallestRepair 43 = .ok (.bipush (-9), 2) := by decide +kernel
theorem dX7_smallestRepair_45 : decode cX7_smallestRepair 45 = .ok (.if_icmp .ne 36, 3) := by decide +kernel
theorem dX7_smallestRepair_48 : decode cX7_smallestRepair 48 = .ok (.iload_n 3, 1) := by decide +kernel
theorem dX7_smallestRepair_49 : decode cX7_smallestRepair 49 = .ok (.invokestatic 194, 3) := by decide +kernel
theorem dX7_smallestRepair_52 : decode cX7_smallestRepair 52 = .ok (.iload_n 2, 1) := by decide +kernel
theorem dX7_smallestRepair_53 : decode cX7_smallestRepair 53 = .ok (.if_icmp .ne 22, 3) := by decide +kernel
theorem dX7_smallestRepair_56 : decode cX7_smallestRepair 56 = .ok (.aload_n 0, 1) := by decide +kernel
theorem dX7_smallestRepair_57 : decode cX7_smallestRepair 57 = .ok (.iload_n 3, 1) := by decide +kernel
theorem dX7_smallestRepair_58 : decode cX7_smallestRepair 58 = .ok (.invokevirtual 163, 3) := by decide +kernel
theorem dX7_smallestRepair_61 : decode cX7_smallestRepair 61 = .ok (.aload_n 0, 1) := by decide +kernel
theorem dX7_smallestRepair_62 : decode cX7_smallestRepair 62 = .ok (.invokevirtual 191, 3) := by decide +kernel
theorem dX7_smallestRepair_65 : decode cX7_smallestRepair 65 = .ok (.ifCond .ne 7, 3) := by decide +kernel
theorem dX7_smallestRepair_68 : decode cX7_smallestRepair 68 = .ok (.iload_n 3, 1) := by decide +kernel
theorem dX7_smallestRepair_69 : decode cX7_smallestRepair 69 = .ok (.goto 5, 3) := by decide +kernel
theorem dX7_smallestRepair_72 : decode cX7_smallestRepair 72 = .ok (.bipush (-9), 2) := by decide +kernel
theorem dX7_smallestRepair_74 : decode cX7_smallestRepair 74 = .ok (.istore_n 1, 1) := by decide +kernel
theorem dX7_smallestRepair_75 : decode cX7_smallestRepair 75 = .ok (.iinc 3 1, 3) := by decide +kernel
theorem dX7_smallestRepair_78 : decode cX7_smallestRepair 78 = .ok (.goto (-49), 3) := by decide +kernel
theorem dX7_smallestRepair_81 : decode cX7_smallestRepair 81 = .ok (.iinc 2 1, 3) := by decide +kernel
theorem dX7_smallestRepair_84 : decode cX7_smallestRepair 84 = .ok (.goto (-74), 3) := by decide +kernel
theorem dX7_smallestRepair_87 : decode cX7_smallestRepair 87 = .ok (.iload_n 1, 1) := by decide +kernel
theorem dX7_smallestRepair_88 : decode cX7_smallestRepair 88 = .ok (.ireturn, 1) := by decide +kernel
theorem dX7_take_0 : decode cX7_take 0 = .ok (.aload_n 0, 1) := by decide +kernel
theorem dX7_take_1 : decode cX7_take 1 = .ok (.getfield 64, 3) := by decide +kernel
theorem dX7_take_4 : decode cX7_take 4 = .ok (.istore_n 2, 1) := by decide +kernel
theorem dX7_take_5 : decode cX7_take 5 = .ok (.aload_n 0, 1) := by decide +kernel
theorem dX7_take_6 : decode cX7_take 6 = .ok (.invokevirtual 70, 3) := by decide +kernel
theorem dX7_take_9 : decode cX7_take 9 = .ok (.ifCond .eq 22, 3) := by decide +kernel
theorem dX7_take_12 : decode cX7_take 12 = .ok (.iload_n 1, 1) := by decide +kernel
theorem dX7_take_13 : decode cX7_take 13 = .ok (.ifCond .eq 10, 3) := by decide +kernel
theorem dX7_take_16 : decode cX7_take 16 = .ok (.aload_n 0, 1) := by decide +kernel
theorem dX7_take_17 : decode cX7_take 17 = .ok (.invokevirtual 74, 3) := by decide +kernel
theorem dX7_take_20 : decode cX7_take 20 = .ok (.goto 11, 3) := by decide +kernel
theorem dX7_take_23 : decode cX7_take 23 = .ok (.aload_n 0, 1) := by decide +kernel
theorem dX7_take_24 : decode cX7_take 24 = .ok (.aload_n 0, 1) := by decide +kernel
theorem dX7_take_25 : decode cX7_take 25 = .ok (.getfield 39, 3) := by decide +kernel
theorem dX7_take_28 : decode cX7_take 28 = .ok (.putfield 67, 3) := by decide +kernel
theorem dX7_take_31 : decode cX7_take 31 = .ok (.iload_n 2, 1) := by decide +kernel
theorem dX7_take_32 : decode cX7_take 32 = .ok (.ireturn, 1) := by decide +kernel
theorem dX7_take__0 : decode cX7_take_ 0 = .ok (.aload_n 0, 1) := by decide +kernel
theorem dX7_take__1 : decode cX7_take_ 1 = .ok (.iconst 0, 1) := by decide +kernel
theorem dX7_take__2 : decode cX7_take_ 2 = .ok (.putfield 32, 3) := by decide +kernel
theorem dX7_take__5 : decode cX7_take_ 5 = .ok (.aload_n 0, 1) := by decide +kernel
theorem dX7_take__6 : decode cX7_take_ 6 = .ok (.iload_n 1, 1) := by decide +kernel
theorem dX7_take__7 : decode cX7_take_ 7 = .ok (.iconst 2, 1) := by decide +kernel
theorem dX7_take__8 : decode cX7_take_ 8 = .ok (.invokevirtual 119, 3) := by decide +kernel
theorem dX7_take__11 : decode cX7_take_ 11 = .ok (.ifCond .eq 21, 3) := by decide +kernel
theorem dX7_take__14 : decode cX7_take_ 14 = .ok (.aload_n 0, 1) := by decide +kernel
theorem dX7_take__15 : decode cX7_take_ 15 = .ok (.iload_n 2, 1) := by decide +kernel
theorem dX7_take__16 : decode cX7_take_ 16 = .ok (.bipush 8, 2) := by decide +kernel
theorem dX7_take__18 : decode cX7_take_ 18 = .ok (.invokevirtual 119, 3) := by decide +kernel
theorem dX7_take__21 : decode cX7_take_ 21 = .ok (.ifCond .eq 11, 3) := by decide +kernel
theorem dX7_take__24 : decode cX7_take_ 24 = .ok (.aload_n 0, 1) := by decide +kernel
theorem dX7_take__25 : decode cX7_take_ 25 = .ok (.iload_n 3, 1) := by decide +kernel
theorem dX7_take__26 : decode cX7_take_ 26 = .ok (.invokevirtual 108, 3) := by decide +kernel
theorem dX7_take__29 : decode cX7_take_ 29 = .ok (.ifCond .ne 5, 3) := by decide +kernel
theorem dX7_take__32 : decode cX7_take_ 32 = .ok (.iconst (-1), 1) := by decide +kernel
theorem dX7_take__33 : decode cX7_take_ 33 = .ok (.ireturn, 1) := by decide +kernel
theorem dX7_take__34 : decode cX7_take_ 34 = .ok (.aload_n 0, 1) := by decide +kernel
theorem dX7_take__35 : decode cX7_take_ 35 = .ok (.iload_n 1, 1) := by decide +kernel
theorem dX7_take__36 : decode cX7_take_ 36 = .ok (.iload_n 2, 1) := by decide +kernel
theorem dX7_take__37 : decode cX7_take_ 37 = .ok (.invokevirtual 197, 3) := by decide +kernel
theorem dX7_take__40 : decode cX7_take_ 40 = .ok (.ifCond .eq 21, 3) := by decide +kernel
theorem dX7_take__43 : decode cX7_take_ 43 = .ok (.aload_n 0, 1) := by decide +kernel
theorem dX7_take__44 : decode cX7_take_ 44 = .ok (.iload_n 2, 1) := by decide +kernel
theorem dX7_take__45 : decode cX7_take_ 45 = .ok (.iload_n 3, 1) := by decide +kernel
theorem dX7_take__46 : decode cX7_take_ 46 = .ok (.invokevirtual 197, 3) := by decide +kernel
theorem dX7_take__49 : decode cX7_take_ 49 = .ok (.ifCond .eq 12, 3) := by decide +kernel
theorem dX7_take__52 : decode cX7_take_ 52 = .ok (.aload_n 0, 1) := by decide +kernel
theorem dX7_take__53 : decode cX7_take_ 53 = .ok (.iload_n 1, 1) := by decide +kernel
theorem dX7_take__54 : decode cX7_take_ 54 = .ok (.iload_n 3, 1) := by decide +kernel
theorem dX7_take__55 : decode cX7_take_ 55 = .ok (.invokevirtual 200, 3) := by decide +kernel
theorem dX7_take__58 : decode cX7_take_ 58 = .ok (.goto 5, 3) := by decide +kernel
theorem dX7_take__61 : decode cX7_take_ 61 = .ok (.bipush (-2), 2) := by decide +kernel
theorem dX7_take__63 : decode cX7_take_ 63 = .ok (.ireturn, 1) := by decide +kernel
theorem dX7_undo_0 : decode cX7_undo 0 = .ok (.aload_n 0, 1) := by decide +kernel
theorem dX7_undo_1 : decode cX7_undo 1 = .ok (.iconst 0, 1) := by decide +kernel
theorem dX7_undo_2 : decode cX7_undo 2 = .ok (.putfield 32, 3) := by decide +kernel
theorem dX7_undo_5 : decode cX7_undo 5 = .ok (.aload_n 0, 1) := by decide +kernel
theorem dX7_undo_6 : decode cX7_undo 6 = .ok (.getfield 105, 3) := by decide +kernel
theorem dX7_undo_9 : decode cX7_undo 9 = .ok (.ifCond .ne 6, 3) := by decide +kernel
theorem dX7_undo_12 : decode cX7_undo 12 = .ok (.bipush (-2), 2) := by decide +kernel
theorem dX7_undo_14 : decode cX7_undo 14 = .ok (.ireturn, 1) := by decide +kernel
theorem dX7_undo_15 : decode cX7_undo 15 = .ok (.aload_n 0, 1) := by decide +kernel
theorem dX7_undo_16 : decode cX7_undo 16 = .ok (.dup, 1) := by decide +kernel
theorem dX7_undo_17 : decode cX7_undo 17 = .ok (.getfield 105, 3) := by decide +kernel
theorem dX7_undo_20 : decode cX7_undo 20 = .ok (.iconst 1, 1) := by decide +kernel
theorem dX7_undo_21 : decode cX7_undo 21 = .ok (.isub, 1) := by decide +kernel
theorem dX7_undo_22 : decode cX7_undo 22 = .ok (.putfield 105, 3) := by decide +kernel
theorem dX7_undo_25 : decode cX7_undo 25 = .ok (.iconst 0, 1) := by decide +kernel
theorem dX7_undo_26 : decode cX7_undo 26 = .ok (.istore_n 1, 1) := by decide +kernel
theorem dX7_undo_27 : decode cX7_undo 27 = .ok (.iload_n 1, 1) := by decide +kernel
theorem dX7_undo_28 : decode cX7_undo 28 = .ok (.bipush 81, 2) := by decide +kernel
theorem dX7_undo_30 : decode cX7_undo 30 = .ok (.if_icmp .ge 29, 3) := by decide +kernel
theorem dX7_undo_33 : decode cX7_undo 33 = .ok (.aload_n 0, 1) := by decide +kernel
theorem dX7_undo_34 : decode cX7_undo 34 = .ok (.getfield 7, 3) := by decide +kernel
theorem dX7_undo_37 : decode cX7_undo 37 = .ok (.iload_n 1, 1) := by decide +kernel
theorem dX7_undo_38 : decode cX7_undo 38 = .ok (.aload_n 0, 1) := by decide +kernel
theorem dX7_undo_39 : decode cX7_undo 39 = .ok (.getfield 16, 3) := by decide +kernel
theorem dX7_undo_42 : decode cX7_undo 42 = .ok (.bipush 81, 2) := by decide +kernel
theorem dX7_undo_44 : decode cX7_undo 44 = .ok (.aload_n 0, 1) := by decide +kernel
theorem dX7_undo_45 : decode cX7_undo 45 = .ok (.getfield 105, 3) := by decide +kernel
theorem dX7_undo_48 : decode cX7_undo 48 = .ok (.imul, 1) := by decide +kernel
theorem dX7_undo_49 : decode cX7_undo 49 = .ok (.iload_n 1, 1) := by decide +kernel
theorem dX7_undo_50 : decode cX7_undo 50 = .ok (.iadd, 1) := by decide +kernel
theorem dX7_undo_51 : decode cX7_undo 51 = .ok (.iaload, 1) := by decide +kernel
theorem dX7_undo_52 : decode cX7_undo 52 = .ok (.iastore, 1) := by decide +kernel
theorem dX7_undo_53 : decode cX7_undo 53 = .ok (.iinc 1 1, 3) := by decide +kernel
theorem dX7_undo_56 : decode cX7_undo 56 = .ok (.goto (-29), 3) := by decide +kernel
theorem dX7_undo_59 : decode cX7_undo 59 = .ok (.aload_n 0, 1) := by decide +kernel
theorem dX7_undo_60 : decode cX7_undo 60 = .ok (.getfield 105, 3) := by decide +kernel
theorem dX7_undo_63 : decode cX7_undo 63 = .ok (.ireturn, 1) := by decide +kernel
theorem dX7_undoDepth_0 : decode cX7_undoDepth 0 = .ok (.aload_n 0, 1) := by decide +kernel
theorem dX7_undoDepth_1 : decode cX7_undoDepth 1 = .ok (.iconst 0, 1) := by decide +kernel
theorem dX7_undoDepth_2 : decode cX7_undoDepth 2 = .ok (.putfield 32, 3) := by decide +kernel
theorem dX7_undoDepth_5 : decode cX7_undoDepth 5 = .ok (.aload_n 0, 1) := by decide +kernel
theorem dX7_undoDepth_6 : decode cX7_undoDepth 6 = .ok (.getfield 105, 3) := by decide +kernel
theorem dX7_undoDepth_9 : decode cX7_undoDepth 9 = .ok (.ireturn, 1) := by decide +kernel
theorem dX7_userOf_0 : decode cX7_userOf 0 = .ok (.iconst 0, 1) := by decide +kernel
theorem dX7_userOf_1 : decode cX7_userOf 1 = .ok (.istore_n 3, 1) := by decide +kernel
theorem dX7_userOf_2 : decode cX7_userOf 2 = .ok (.iload_n 3, 1) := by decide +kernel
theorem dX7_userOf_3 : decode cX7_userOf 3 = .ok (.aload_n 0, 1) := by decide +kernel
theorem dX7_userOf_4 : decode cX7_userOf 4 = .ok (.getfield 7, 3) := by decide +kernel
theorem dX7_userOf_7 : decode cX7_userOf 7 = .ok (.iconst 0, 1) := by decide +kernel
theorem dX7_userOf_8 : decode cX7_userOf 8 = .ok (.iaload, 1) := by decide +kernel
theorem dX7_userOf_9 : decode cX7_userOf 9 = .ok (.if_icmp .ge 30, 3) := by decide +kernel
theorem dX7_userOf_12 : decode cX7_userOf 12 = .ok (.aload_n 0, 1) := by decide +kernel
theorem dX7_userOf_13 : decode cX7_userOf 13 = .ok (.iload_n 3, 1) := by decide +kernel
theorem dX7_userOf_14 : decode cX7_userOf 14 = .ok (.iconst 2, 1) := by decide +kernel
theorem dX7_userOf_15 : decode cX7_userOf 15 = .ok (.invokevirtual 119, 3) := by decide +kernel
theorem dX7_userOf_18 : decode cX7_userOf 18 = .ok (.ifCond .eq 15, 3) := by decide +kernel
theorem dX7_userOf_21 : decode cX7_userOf 21 = .ok (.aload_n 0, 1) := by decide +kernel
theorem dX7_userOf_22 : decode cX7_userOf 22 = .ok (.iload_n 3, 1) := by decide +kernel
theorem dX7_userOf_23 : decode cX7_userOf 23 = .ok (.iload_n 1, 1) := by decide +kernel
theorem dX7_userOf_24 : decode cX7_userOf 24 = .ok (.iload_n 2, 1) := by decide +kernel
theorem dX7_userOf_25 : decode cX7_userOf 25 = .ok (.invokevirtual 122, 3) := by decide +kernel
theorem dX7_userOf_28 : decode cX7_userOf 28 = .ok (.ifCond .eq 5, 3) := by decide +kernel
theorem dX7_userOf_31 : decode cX7_userOf 31 = .ok (.iload_n 3, 1) := by decide +kernel
theorem dX7_userOf_32 : decode cX7_userOf 32 = .ok (.ireturn, 1) := by decide +kernel
theorem dX7_userOf_33 : decode cX7_userOf 33 = .ok (.iinc 3 1, 3) := by decide +kernel
theorem dX7_userOf_36 : decode cX7_userOf 36 = .ok (.goto (-34), 3) := by decide +kernel
theorem dX7_userOf_39 : decode cX7_userOf 39 = .ok (.bipush (-9), 2) := by decide +kernel
theorem dX7_userOf_41 : decode cX7_userOf 41 = .ok (.ireturn, 1) := by decide +kernel
theorem dX7_violationCount_0 : decode cX7_violationCount 0 = .ok (.aload_n 0, 1) := by decide +kernel
theorem dX7_violationCount_1 : decode cX7_violationCount 1 = .ok (.iconst 0, 1) := by decide +kernel
theorem dX7_violationCount_2 : decode cX7_violationCount 2 = .ok (.putfield 32, 3) := by decide +kernel
theorem dX7_violationCount_5 : decode cX7_violationCount 5 = .ok (.aload_n 0, 1) := by decide +kernel
theorem dX7_violationCount_6 : decode cX7_violationCount 6 = .ok (.iconst 0, 1) := by decide +kernel
theorem dX7_violationCount_7 : decode cX7_violationCount 7 = .ok (.invokevirtual 163, 3) := by decide +kernel
theorem dX7_violationCount_10 : decode cX7_violationCount 10 = .ok (.aload_n 0, 1) := by decide +kernel
theorem dX7_violationCount_11 : decode cX7_violationCount 11 = .ok (.invokevirtual 191, 3) := by decide +kernel
theorem dX7_violationCount_14 : decode cX7_violationCount 14 = .ok (.ireturn, 1) := by decide +kernel
theorem dX7_violations_0 : decode cX7_violations 0 = .ok (.iconst 0, 1) := by decide +kernel
theorem dX7_violations_1 : decode cX7_violations 1 = .ok (.istore_n 1, 1) := by decide +kernel
theorem dX7_violations_2 : decode cX7_violations 2 = .ok (.iconst 0, 1) := by decide +kernel
theorem dX7_violations_3 : decode cX7_violations 3 = .ok (.istore_n 2, 1) := by decide +kernel
theorem dX7_violations_4 : decode cX7_violations 4 = .ok (.iload_n 2, 1) := by decide +kernel
theorem dX7_violations_5 : decode cX7_violations 5 = .ok (.aload_n 0, 1) := by decide +kernel
theorem dX7_violations_6 : decode cX7_violations 6 = .ok (.getfield 7, 3) := by decide +kernel
theorem dX7_violations_9 : decode cX7_violations 9 = .ok (.bipush 62, 2) := by decide +kernel
theorem dX7_violations_11 : decode cX7_violations 11 = .ok (.iaload, 1) := by decide +kernel
theorem dX7_violations_12 : decode cX7_violations 12 = .ok (.if_icmp .ge 55, 3) := by decide +kernel
theorem dX7_violations_15 : decode cX7_violations 15 = .ok (.iload_n 1, 1) := by decide +kernel
theorem dX7_violations_16 : decode cX7_violations 16 = .ok (.aload_n 0, 1) := by decide +kernel
theorem dX7_violations_17 : decode cX7_violations 17 = .ok (.getfield 22, 3) := by decide +kernel
theorem dX7_violations_20 : decode cX7_violations 20 = .ok (.bipush 10, 2) := by decide +kernel
theorem dX7_violations_22 : decode cX7_violations 22 = .ok (.aload_n 0, 1) := by decide +kernel
theorem dX7_violations_23 : decode cX7_violations 23 = .ok (.getfield 7, 3) := by decide +kernel
theorem dX7_violations_26 : decode cX7_violations 26 = .ok (.bipush 63, 2) := by decide +kernel
theorem dX7_violations_28 : decode cX7_violations 28 = .ok (.iconst 2, 1) := by decide +kernel
theorem dX7_violations_29 : decode cX7_violations 29 = .ok (.iload_n 2, 1) := by decide +kernel
theorem dX7_violations_30 : decode cX7_violations 30 = .ok (.imul, 1) := by decide +kernel
theorem dX7_violations_31 : decode cX7_violations 31 = .ok (.iadd, 1) := by decide +kernel
theorem dX7_violations_32 : decode cX7_violations 32 = .ok (.iaload, 1) := by decide +kernel
theorem dX7_violations_33 : decode cX7_violations 33 = .ok (.imul, 1) := by decide +kernel
theorem dX7_violations_34 : decode cX7_violations 34 = .ok (.aload_n 0, 1) := by decide +kernel
theorem dX7_violations_35 : decode cX7_violations 35 = .ok (.getfield 7, 3) := by decide +kernel
theorem dX7_violations_38 : decode cX7_violations 38 = .ok (.bipush 63, 2) := by decide +kernel
theorem dX7_violations_40 : decode cX7_violations 40 = .ok (.iconst 2, 1) := by decide +kernel
theorem dX7_violations_41 : decode cX7_violations 41 = .ok (.iload_n 2, 1) := by decide +kernel
theorem dX7_violations_42 : decode cX7_violations 42 = .ok (.imul, 1) := by decide +kernel
theorem dX7_violations_43 : decode cX7_violations 43 = .ok (.iadd, 1) := by decide +kernel
theorem dX7_violations_44 : decode cX7_violations 44 = .ok (.iconst 1, 1) := by decide +kernel
theorem dX7_violations_45 : decode cX7_violations 45 = .ok (.iadd, 1) := by decide +kernel
theorem dX7_violations_46 : decode cX7_violations 46 = .ok (.iaload, 1) := by decide +kernel
theorem dX7_violations_47 : decode cX7_violations 47 = .ok (.iadd, 1) := by decide +kernel
theorem dX7_violations_48 : decode cX7_violations 48 = .ok (.iaload, 1) := by decide +kernel
theorem dX7_violations_49 : decode cX7_violations 49 = .ok (.bipush (-9), 2) := by decide +kernel
theorem dX7_violations_51 : decode cX7_violations 51 = .ok (.if_icmp .ne 7, 3) := by decide +kernel
theorem dX7_violations_54 : decode cX7_violations 54 = .ok (.iconst 0, 1) := by decide +kernel
theorem dX7_violations_55 : decode cX7_violations 55 = .ok (.goto 4, 3) := by decide +kernel
theorem dX7_violations_58 : decode cX7_violations 58 = .ok (.iconst 1, 1) := by decide +kernel
theorem dX7_violations_59 : decode cX7_violations 59 = .ok (.iadd, 1) := by decide +kernel
theorem dX7_violations_60 : decode cX7_violations 60 = .ok (.istore_n 1, 1) := by decide +kernel
theorem dX7_violations_61 : decode cX7_violations 61 = .ok (.iinc 2 1, 3) := by decide +kernel
theorem dX7_violations_64 : decode cX7_violations 64 = .ok (.goto (-60), 3) := by decide +kernel
theorem dX7_violations_67 : decode cX7_violations 67 = .ok (.iload_n 1, 1) := by decide +kernel
theorem dX7_violations_68 : decode cX7_violations 68 = .ok (.ireturn, 1) := by decide +kernel
theorem dJ0_charAt_5068e_0 : decode cJ0_charAt_5068e 0 = .ok (.aload_n 0, 1) := by decide +kernel
theorem dJ0_charAt_5068e_1 : decode cJ0_charAt_5068e 1 = .ok (.invokevirtual 492, 3) := by decide +kernel
theorem dJ0_charAt_5068e_4 : decode cJ0_charAt_5068e 4 = .ok (.ifCond .eq 12, 3) := by decide +kernel
theorem dJ0_charAt_5068e_7 : decode cJ0_charAt_5068e 7 = .ok (.aload_n 0, 1) := by decide +kernel
theorem dJ0_charAt_5068e_8 : decode cJ0_charAt_5068e 8 = .ok (.getfield 9, 3) := by decide +kernel
theorem dJ0_charAt_5068e_11 : decode cJ0_charAt_5068e 11 = .ok (.iload_n 1, 1) := by decide +kernel
theorem dJ0_charAt_5068e_12 : decode cJ0_charAt_5068e 12 = .ok (.invokestatic 495, 3) := by decide +kernel
theorem dJ0_charAt_5068e_15 : decode cJ0_charAt_5068e 15 = .ok (.ireturn, 1) := by decide +kernel
theorem dJ0_charAt_5068e_16 : decode cJ0_charAt_5068e 16 = .ok (.aload_n 0, 1) := by decide +kernel
theorem dJ0_charAt_5068e_17 : decode cJ0_charAt_5068e 17 = .ok (.getfield 9, 3) := by decide +kernel
theorem dJ0_charAt_5068e_20 : decode cJ0_charAt_5068e 20 = .ok (.iload_n 1, 1) := by decide +kernel
theorem dJ0_charAt_5068e_21 : decode cJ0_charAt_5068e 21 = .ok (.invokestatic 498, 3) := by decide +kernel
theorem dJ0_charAt_5068e_24 : decode cJ0_charAt_5068e 24 = .ok (.ireturn, 1) := by decide +kernel
theorem dJ0_checkIndex_df160_0 : decode cJ0_checkIndex_df160 0 = .ok (.iload_n 0, 1) := by decide +kernel
theorem dJ0_checkIndex_df160_1 : decode cJ0_checkIndex_df160 1 = .ok (.iload_n 1, 1) := by decide +kernel
theorem dJ0_checkIndex_df160_2 : decode cJ0_checkIndex_df160 2 = .ok (.getstatic 1053, 3) := by decide +kernel
theorem dJ0_checkIndex_df160_5 : decode cJ0_checkIndex_df160 5 = .ok (.invokestatic 1059, 3) := by decide +kernel
theorem dJ0_checkIndex_df160_8 : decode cJ0_checkIndex_df160 8 = .ok (.pop, 1) := by decide +kernel
theorem dJ0_checkIndex_df160_9 : decode cJ0_checkIndex_df160 9 = .ok (.return_, 1) := by decide +kernel
theorem dJ0_coder_7d493_0 : decode cJ0_coder_7d493 0 = .ok (.getstatic 38, 3) := by decide +kernel
theorem dJ0_coder_7d493_3 : decode cJ0_coder_7d493 3 = .ok (.ifCond .eq 10, 3) := by decide +kernel
theorem dJ0_coder_7d493_6 : decode cJ0_coder_7d493 6 = .ok (.aload_n 0, 1) := by decide +kernel
theorem dJ0_coder_7d493_7 : decode cJ0_coder_7d493 7 = .ok (.getfield 15, 3) := by decide +kernel
theorem dJ0_coder_7d493_10 : decode cJ0_coder_7d493 10 = .ok (.goto 4, 3) := by decide +kernel
theorem dJ0_coder_7d493_13 : decode cJ0_coder_7d493 13 = .ok (.iconst 1, 1) := by decide +kernel
theorem dJ0_coder_7d493_14 : decode cJ0_coder_7d493 14 = .ok (.ireturn, 1) := by decide +kernel
theorem dJ0_isLatin1_aae02_0 : decode cJ0_isLatin1_aae02 0 = .ok (.getstatic 38, 3) := by decide +kernel
theorem dJ0_isLatin1_aae02_3 : decode cJ0_isLatin1_aae02 3 = .ok (.ifCond .eq 14, 3) := by decide +kernel
theorem dJ0_isLatin1_aae02_6 : decode cJ0_isLatin1_aae02 6 = .ok (.aload_n 0, 1) := by decide +kernel
theorem dJ0_isLatin1_aae02_7 : decode cJ0_isLatin1_aae02 7 = .ok (.getfield 15, 3) := by decide +kernel
theorem dJ0_isLatin1_aae02_10 : decode cJ0_isLatin1_aae02 10 = .ok (.ifCond .ne 7, 3) := by decide +kernel
theorem dJ0_isLatin1_aae02_13 : decode cJ0_isLatin1_aae02 13 = .ok (.iconst 1, 1) := by decide +kernel
theorem dJ0_isLatin1_aae02_14 : decode cJ0_isLatin1_aae02 14 = .ok (.goto 4, 3) := by decide +kernel
theorem dJ0_isLatin1_aae02_17 : decode cJ0_isLatin1_aae02 17 = .ok (.iconst 0, 1) := by decide +kernel
theorem dJ0_isLatin1_aae02_18 : decode cJ0_isLatin1_aae02 18 = .ok (.ireturn, 1) := by decide +kernel
theorem dJ0_length_8abf5_0 : decode cJ0_length_8abf5 0 = .ok (.aload_n 0, 1) := by decide +kernel
theorem dJ0_length_8abf5_1 : decode cJ0_length_8abf5 1 = .ok (.getfield 9, 3) := by decide +kernel
theorem dJ0_length_8abf5_4 : decode cJ0_length_8abf5 4 = .ok (.arraylength, 1) := by decide +kernel
theorem dJ0_length_8abf5_5 : decode cJ0_length_8abf5 5 = .ok (.aload_n 0, 1) := by decide +kernel
theorem dJ0_length_8abf5_6 : decode cJ0_length_8abf5 6 = .ok (.invokevirtual 335, 3) := by decide +kernel
theorem dJ0_length_8abf5_9 : decode cJ0_length_8abf5 9 = .ok (.ishr, 1) := by decide +kernel
theorem dJ0_length_8abf5_10 : decode cJ0_length_8abf5 10 = .ok (.ireturn, 1) := by decide +kernel
theorem dJ1_charAt_3b067_0 : decode cJ1_charAt_3b067 0 = .ok (.iload_n 1, 1) := by decide +kernel
theorem dJ1_charAt_3b067_1 : decode cJ1_charAt_3b067 1 = .ok (.aload_n 0, 1) := by decide +kernel
theorem dJ1_charAt_3b067_2 : decode cJ1_charAt_3b067 2 = .ok (.arraylength, 1) := by decide +kernel
theorem dJ1_charAt_3b067_3 : decode cJ1_charAt_3b067 3 = .ok (.invokestatic 9, 3) := by decide +kernel
theorem dJ1_charAt_3b067_6 : decode cJ1_charAt_3b067 6 = .ok (.aload_n 0, 1) := by decide +kernel
theorem dJ1_charAt_3b067_7 : decode cJ1_charAt_3b067 7 = .ok (.iload_n 1, 1) := by decide +kernel
theorem dJ1_charAt_3b067_8 : decode cJ1_charAt_3b067 8 = .ok (.baload, 1) := by decide +kernel
theorem dJ1_charAt_3b067_9 : decode cJ1_charAt_3b067 9 = .ok (.sipush 255, 3) := by decide +kernel
theorem dJ1_charAt_3b067_12 : decode cJ1_charAt_3b067 12 = .ok (.iand, 1) := by decide +kernel
theorem dJ1_charAt_3b067_13 : decode cJ1_charAt_3b067 13 = .ok (.i2c, 1) := by decide +kernel
theorem dJ1_charAt_3b067_14 : decode cJ1_charAt_3b067 14 = .ok (.ireturn, 1) := by decide +kernel
theorem dJ2_charAt_3b067_0 : decode cJ2_charAt_3b067 0 = .ok (.iload_n 1, 1) := by decide +kernel
theorem dJ2_charAt_3b067_1 : decode cJ2_charAt_3b067 1 = .ok (.aload_n 0, 1) := by decide +kernel
theorem dJ2_charAt_3b067_2 : decode cJ2_charAt_3b067 2 = .ok (.invokestatic 67, 3) := by decide +kernel
theorem dJ2_charAt_3b067_5 : decode cJ2_charAt_3b067 5 = .ok (.aload_n 0, 1) := by decide +kernel
theorem dJ2_charAt_3b067_6 : decode cJ2_charAt_3b067 6 = .ok (.iload_n 1, 1) := by decide +kernel
theorem dJ2_charAt_3b067_7 : decode cJ2_charAt_3b067 7 = .ok (.invokestatic 71, 3) := by decide +kernel
theorem dJ2_charAt_3b067_10 : decode cJ2_charAt_3b067 10 = .ok (.ireturn, 1) := by decide +kernel
theorem dJ2_checkIndex_2214a_0 : decode cJ2_checkIndex_2214a 0 = .ok (.iload_n 0, 1) := by decide +kernel
theorem dJ2_checkIndex_2214a_1 : decode cJ2_checkIndex_2214a 1 = .ok (.aload_n 1, 1) := by decide +kernel
theorem dJ2_checkIndex_2214a_2 : decode cJ2_checkIndex_2214a 2 = .ok (.invokestatic 48, 3) := by decide +kernel
theorem dJ2_checkIndex_2214a_5 : decode cJ2_checkIndex_2214a 5 = .ok (.invokestatic 414, 3) := by decide +kernel
theorem dJ2_checkIndex_2214a_8 : decode cJ2_checkIndex_2214a 8 = .ok (.return_, 1) := by decide +kernel
theorem dJ2_getChar_3b067_0 : decode cJ2_getChar_3b067 0 = .ok (.getstatic 44, 3) := by decide +kernel
theorem dJ2_getChar_3b067_3 : decode cJ2_getChar_3b067 3 = .ok (.ifCond .ne 25, 3) := by decide +kernel
theorem dJ2_getChar_3b067_6 : decode cJ2_getChar_3b067 6 = .ok (.iload_n 1, 1) := by decide +kernel
theorem dJ2_getChar_3b067_7 : decode cJ2_getChar_3b067 7 = .ok (.ifCond .lt 11, 3) := by decide +kernel
theorem dJ2_getChar_3b067_10 : decode cJ2_getChar_3b067 10 = .ok (.iload_n 1, 1) := by decide +kernel
theorem dJ2_getChar_3b067_11 : decode cJ2_getChar_3b067 11 = .ok (.aload_n 0, 1) := by decide +kernel
theorem dJ2_getChar_3b067_12 : decode cJ2_getChar_3b067 12 = .ok (.invokestatic 48, 3) := by decide +kernel
theorem dJ2_getChar_3b067_15 : decode cJ2_getChar_3b067 15 = .ok (.if_icmp .lt 13, 3) := by decide +kernel
theorem dJ2_getChar_3b067_18 : decode cJ2_getChar_3b067 18 = .ok (.new 52, 3) := by decide +kernel
theorem dJ2_getChar_3b067_21 : decode cJ2_getChar_3b067 21 = .ok (.dup, 1) := by decide +kernel
theorem dJ2_getChar_3b067_22 : decode cJ2_getChar_3b067 22 = .ok (.ldc 54, 2) := by decide +kernel
theorem dJ2_getChar_3b067_24 : decode cJ2_getChar_3b067 24 = .ok (.invokespecial 56, 3) := by decide +kernel
theorem dJ2_getChar_3b067_27 : decode cJ2_getChar_3b067 27 = .ok (.athrow, 1) := by decide +kernel
theorem dJ2_getChar_3b067_28 : decode cJ2_getChar_3b067 28 = .ok (.iload_n 1, 1) := by decide +kernel
theorem dJ2_getChar_3b067_29 : decode cJ2_getChar_3b067 29 = .ok (.iconst 1, 1) := by decide +kernel
theorem dJ2_getChar_3b067_30 : decode cJ2_getChar_3b067 30 = .ok (.ishl, 1) := by decide +kernel
theorem dJ2_getChar_3b067_31 : decode cJ2_getChar_3b067 31 = .ok (.istore_n 1, 1) := by decide +kernel
theorem dJ2_getChar_3b067_32 : decode cJ2_getChar_3b067 32 = .ok (.aload_n 0, 1) := by decide +kernel
theorem dJ2_getChar_3b067_33 : decode cJ2_getChar_3b067 33 = .ok (.iload_n 1, 1) := by decide +kernel
theorem dJ2_getChar_3b067_34 : decode cJ2_getChar_3b067 34 = .ok (.iinc 1 1, 3) := by decide +kernel
theorem dJ2_getChar_3b067_37 : decode cJ2_getChar_3b067 37 = .ok (.baload, 1) := by decide +kernel
theorem dJ2_getChar_3b067_38 : decode cJ2_getChar_3b067 38 = .ok (.sipush 255, 3) := by decide +kernel
theorem dJ2_getChar_3b067_41 : decode cJ2_getChar_3b067 41 = .ok (.iand, 1) := by decide +kernel
theorem dJ2_getChar_3b067_42 : decode cJ2_getChar_3b067 42 = .ok (.getstatic 59, 3) := by decide +kernel
theorem dJ2_getChar_3b067_45 : decode cJ2_getChar_3b067 45 = .ok (.ishl, 1) := by decide +kernel
theorem dJ2_getChar_3b067_46 : decode cJ2_getChar_3b067 46 = .ok (.aload_n 0, 1) := by decide +kernel
theorem dJ2_getChar_3b067_47 : decode cJ2_getChar_3b067 47 = .ok (.iload_n 1, 1) := by decide +kernel
theorem dJ2_getChar_3b067_48 : decode cJ2_getChar_3b067 48 = .ok (.baload, 1) := by decide +kernel
theorem dJ2_getChar_3b067_49 : decode cJ2_getChar_3b067 49 = .ok (.sipush 255, 3) := by decide +kernel
theorem dJ2_getChar_3b067_52 : decode cJ2_getChar_3b067 52 = .ok (.iand, 1) := by decide +kernel
theorem dJ2_getChar_3b067_53 : decode cJ2_getChar_3b067 53 = .ok (.getstatic 63, 3) := by decide +kernel
theorem dJ2_getChar_3b067_56 : decode cJ2_getChar_3b067 56 = .ok (.ishl, 1) := by decide +kernel
theorem dJ2_getChar_3b067_57 : decode cJ2_getChar_3b067 57 = .ok (.ior, 1) := by decide +kernel
theorem dJ2_getChar_3b067_58 : decode cJ2_getChar_3b067 58 = .ok (.i2c, 1) := by decide +kernel
theorem dJ2_getChar_3b067_59 : decode cJ2_getChar_3b067 59 = .ok (.ireturn, 1) := by decide +kernel
theorem dJ2_length_9d52b_0 : decode cJ2_length_9d52b 0 = .ok (.aload_n 0, 1) := by decide +kernel
theorem dJ2_length_9d52b_1 : decode cJ2_length_9d52b 1 = .ok (.arraylength, 1) := by decide +kernel
theorem dJ2_length_9d52b_2 : decode cJ2_length_9d52b 2 = .ok (.iconst 1, 1) := by decide +kernel
theorem dJ2_length_9d52b_3 : decode cJ2_length_9d52b 3 = .ok (.ishr, 1) := by decide +kernel
theorem dJ2_length_9d52b_4 : decode cJ2_length_9d52b 4 = .ok (.ireturn, 1) := by decide +kernel
theorem dJ3_checkIndex_8e157_0 : decode cJ3_checkIndex_8e157 0 = .ok (.iload_n 0, 1) := by decide +kernel
theorem dJ3_checkIndex_8e157_1 : decode cJ3_checkIndex_8e157 1 = .ok (.ifCond .lt 8, 3) := by decide +kernel
theorem dJ3_checkIndex_8e157_4 : decode cJ3_checkIndex_8e157 4 = .ok (.iload_n 0, 1) := by decide +kernel
theorem dJ3_checkIndex_8e157_5 : decode cJ3_checkIndex_8e157 5 = .ok (.iload_n 1, 1) := by decide +kernel
theorem dJ3_checkIndex_8e157_6 : decode cJ3_checkIndex_8e157 6 = .ok (.if_icmp .lt 10, 3) := by decide +kernel
theorem dJ3_checkIndex_8e157_9 : decode cJ3_checkIndex_8e157 9 = .ok (.aload_n 2, 1) := by decide +kernel
theorem dJ3_checkIndex_8e157_10 : decode cJ3_checkIndex_8e157 10 = .ok (.iload_n 0, 1) := by decide +kernel
theorem dJ3_checkIndex_8e157_11 : decode cJ3_checkIndex_8e157 11 = .ok (.iload_n 1, 1) := by decide +kernel
theorem dJ3_checkIndex_8e157_12 : decode cJ3_checkIndex_8e157 12 = .ok (.invokestatic 95, 3) := by decide +kernel
theorem dJ3_checkIndex_8e157_15 : decode cJ3_checkIndex_8e157 15 = .ok (.athrow, 1) := by decide +kernel
theorem dJ3_checkIndex_8e157_16 : decode cJ3_checkIndex_8e157 16 = .ok (.iload_n 0, 1) := by decide +kernel
theorem dJ3_checkIndex_8e157_17 : decode cJ3_checkIndex_8e157 17 = .ok (.ireturn, 1) := by decide +kernel
theorem dJ6_bitCount_0f7a4_0 : decode cJ6_bitCount_0f7a4 0 = .ok (.iload_n 0, 1) := by decide +kernel
theorem dJ6_bitCount_0f7a4_1 : decode cJ6_bitCount_0f7a4 1 = .ok (.iload_n 0, 1) := by decide +kernel
theorem dJ6_bitCount_0f7a4_2 : decode cJ6_bitCount_0f7a4 2 = .ok (.iconst 1, 1) := by decide +kernel
theorem dJ6_bitCount_0f7a4_3 : decode cJ6_bitCount_0f7a4 3 = .ok (.iushr, 1) := by decide +kernel
theorem dJ6_bitCount_0f7a4_4 : decode cJ6_bitCount_0f7a4 4 = .ok (.ldc_w 265, 3) := by decide +kernel
theorem dJ6_bitCount_0f7a4_7 : decode cJ6_bitCount_0f7a4 7 = .ok (.iand, 1) := by decide +kernel
theorem dJ6_bitCount_0f7a4_8 : decode cJ6_bitCount_0f7a4 8 = .ok (.isub, 1) := by decide +kernel
theorem dJ6_bitCount_0f7a4_9 : decode cJ6_bitCount_0f7a4 9 = .ok (.istore_n 0, 1) := by decide +kernel
theorem dJ6_bitCount_0f7a4_10 : decode cJ6_bitCount_0f7a4 10 = .ok (.iload_n 0, 1) := by decide +kernel
theorem dJ6_bitCount_0f7a4_11 : decode cJ6_bitCount_0f7a4 11 = .ok (.ldc_w 266, 3) := by decide +kernel
theorem dJ6_bitCount_0f7a4_14 : decode cJ6_bitCount_0f7a4 14 = .ok (.iand, 1) := by decide +kernel
theorem dJ6_bitCount_0f7a4_15 : decode cJ6_bitCount_0f7a4 15 = .ok (.iload_n 0, 1) := by decide +kernel
theorem dJ6_bitCount_0f7a4_16 : decode cJ6_bitCount_0f7a4 16 = .ok (.iconst 2, 1) := by decide +kernel
theorem dJ6_bitCount_0f7a4_17 : decode cJ6_bitCount_0f7a4 17 = .ok (.iushr, 1) := by decide +kernel
theorem dJ6_bitCount_0f7a4_18 : decode cJ6_bitCount_0f7a4 18 = .ok (.ldc_w 266, 3) := by decide +kernel
theorem dJ6_bitCount_0f7a4_21 : decode cJ6_bitCount_0f7a4 21 = .ok (.iand, 1) := by decide +kernel
theorem dJ6_bitCount_0f7a4_22 : decode cJ6_bitCount_0f7a4 22 = .ok (.iadd, 1) := by decide +kernel
theorem dJ6_bitCount_0f7a4_23 : decode cJ6_bitCount_0f7a4 23 = .ok (.istore_n 0, 1) := by decide +kernel
theorem dJ6_bitCount_0f7a4_24 : decode cJ6_bitCount_0f7a4 24 = .ok (.iload_n 0, 1) := by decide +kernel
theorem dJ6_bitCount_0f7a4_25 : decode cJ6_bitCount_0f7a4 25 = .ok (.iload_n 0, 1) := by decide +kernel
theorem dJ6_bitCount_0f7a4_26 : decode cJ6_bitCount_0f7a4 26 = .ok (.iconst 4, 1) := by decide +kernel
theorem dJ6_bitCount_0f7a4_27 : decode cJ6_bitCount_0f7a4 27 = .ok (.iushr, 1) := by decide +kernel
theorem dJ6_bitCount_0f7a4_28 : decode cJ6_bitCount_0f7a4 28 = .ok (.iadd, 1) := by decide +kernel
theorem dJ6_bitCount_0f7a4_29 : decode cJ6_bitCount_0f7a4 29 = .ok (.ldc_w 267, 3) := by decide +kernel
theorem dJ6_bitCount_0f7a4_32 : decode cJ6_bitCount_0f7a4 32 = .ok (.iand, 1) := by decide +kernel
theorem dJ6_bitCount_0f7a4_33 : decode cJ6_bitCount_0f7a4 33 = .ok (.istore_n 0, 1) := by decide +kernel
theorem dJ6_bitCount_0f7a4_34 : decode cJ6_bitCount_0f7a4 34 = .ok (.iload_n 0, 1) := by decide +kernel
theorem dJ6_bitCount_0f7a4_35 : decode cJ6_bitCount_0f7a4 35 = .ok (.iload_n 0, 1) := by decide +kernel
theorem dJ6_bitCount_0f7a4_36 : decode cJ6_bitCount_0f7a4 36 = .ok (.bipush 8, 2) := by decide +kernel
theorem dJ6_bitCount_0f7a4_38 : decode cJ6_bitCount_0f7a4 38 = .ok (.iushr, 1) := by decide +kernel
theorem dJ6_bitCount_0f7a4_39 : decode cJ6_bitCount_0f7a4 39 = .ok (.iadd, 1) := by decide +kernel
theorem dJ6_bitCount_0f7a4_40 : decode cJ6_bitCount_0f7a4 40 = .ok (.istore_n 0, 1) := by decide +kernel
theorem dJ6_bitCount_0f7a4_41 : decode cJ6_bitCount_0f7a4 41 = .ok (.iload_n 0, 1) := by decide +kernel
theorem dJ6_bitCount_0f7a4_42 : decode cJ6_bitCount_0f7a4 42 = .ok (.iload_n 0, 1) := by decide +kernel
theorem dJ6_bitCount_0f7a4_43 : decode cJ6_bitCount_0f7a4 43 = .ok (.bipush 16, 2) := by decide +kernel
theorem dJ6_bitCount_0f7a4_45 : decode cJ6_bitCount_0f7a4 45 = .ok (.iushr, 1) := by decide +kernel
theorem dJ6_bitCount_0f7a4_46 : decode cJ6_bitCount_0f7a4 46 = .ok (.iadd, 1) := by decide +kernel
theorem dJ6_bitCount_0f7a4_47 : decode cJ6_bitCount_0f7a4 47 = .ok (.istore_n 0, 1) := by decide +kernel
theorem dJ6_bitCount_0f7a4_48 : decode cJ6_bitCount_0f7a4 48 = .ok (.iload_n 0, 1) := by decide +kernel
theorem dJ6_bitCount_0f7a4_49 : decode cJ6_bitCount_0f7a4 49 = .ok (.bipush 63, 2) := by decide +kernel
theorem dJ6_bitCount_0f7a4_51 : decode cJ6_bitCount_0f7a4 51 = .ok (.iand, 1) := by decide +kernel
theorem dJ6_bitCount_0f7a4_52 : decode cJ6_bitCount_0f7a4 52 = .ok (.ireturn, 1) := by decide +kernel
theorem dJ7_fill_53178_0 : decode cJ7_fill_53178 0 = .ok (.iconst 0, 1) := by decide +kernel
theorem dJ7_fill_53178_1 : decode cJ7_fill_53178 1 = .ok (.istore_n 2, 1) := by decide +kernel
theorem dJ7_fill_53178_2 : decode cJ7_fill_53178 2 = .ok (.aload_n 0, 1) := by decide +kernel
theorem dJ7_fill_53178_3 : decode cJ7_fill_53178 3 = .ok (.arraylength, 1) := by decide +kernel
theorem dJ7_fill_53178_4 : decode cJ7_fill_53178 4 = .ok (.istore_n 3, 1) := by decide +kernel
theorem dJ7_fill_53178_5 : decode cJ7_fill_53178 5 = .ok (.iload_n 2, 1) := by decide +kernel
theorem dJ7_fill_53178_6 : decode cJ7_fill_53178 6 = .ok (.iload_n 3, 1) := by decide +kernel
theorem dJ7_fill_53178_7 : decode cJ7_fill_53178 7 = .ok (.if_icmp .ge 13, 3) := by decide +kernel
theorem dJ7_fill_53178_10 : decode cJ7_fill_53178 10 = .ok (.aload_n 0, 1) := by decide +kernel
theorem dJ7_fill_53178_11 : decode cJ7_fill_53178 11 = .ok (.iload_n 2, 1) := by decide +kernel
theorem dJ7_fill_53178_12 : decode cJ7_fill_53178 12 = .ok (.iload_n 1, 1) := by decide +kernel
theorem dJ7_fill_53178_13 : decode cJ7_fill_53178 13 = .ok (.iastore, 1) := by decide +kernel
theorem dJ7_fill_53178_14 : decode cJ7_fill_53178 14 = .ok (.iinc 2 1, 3) := by decide +kernel
theorem dJ7_fill_53178_17 : decode cJ7_fill_53178 17 = .ok (.goto (-12), 3) := by decide +kernel
theorem dJ7_fill_53178_20 : decode cJ7_fill_53178 20 = .ok (.return_, 1) := by decide +kernel
theorem dJ9_min_7cf53_0 : decode cJ9_min_7cf53 0 = .ok (.iload_n 0, 1) := by decide +kernel
theorem dJ9_min_7cf53_1 : decode cJ9_min_7cf53 1 = .ok (.iload_n 1, 1) := by decide +kernel
theorem dJ9_min_7cf53_2 : decode cJ9_min_7cf53 2 = .ok (.if_icmp .gt 7, 3) := by decide +kernel
theorem dJ9_min_7cf53_5 : decode cJ9_min_7cf53 5 = .ok (.iload_n 0, 1) := by decide +kernel
theorem dJ9_min_7cf53_6 : decode cJ9_min_7cf53 6 = .ok (.goto 4, 3) := by decide +kernel
theorem dJ9_min_7cf53_9 : decode cJ9_min_7cf53 9 = .ok (.iload_n 1, 1) := by decide +kernel
theorem dJ9_min_7cf53_10 : decode cJ9_min_7cf53 10 = .ok (.ireturn, 1) := by decide +kernel
