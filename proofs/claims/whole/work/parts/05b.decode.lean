theorem dX4_listsReference_21 : decode cX4_listsReference 21 = .ok (.getfield 34, 3) := by decide +kernel
theorem dX4_listsReference_24 : decode cX4_listsReference 24 = .ok (.iload_n 3, 1) := by decide +kernel
theorem dX4_listsReference_25 : decode cX4_listsReference 25 = .ok (.iaload, 1) := by decide +kernel
theorem dX4_listsReference_26 : decode cX4_listsReference 26 = .ok (.iload_n 2, 1) := by decide +kernel
theorem dX4_listsReference_27 : decode cX4_listsReference 27 = .ok (.if_icmp .ne 5, 3) := by decide +kernel
theorem dX4_listsReference_30 : decode cX4_listsReference 30 = .ok (.iconst 1, 1) := by decide +kernel
theorem dX4_listsReference_31 : decode cX4_listsReference 31 = .ok (.ireturn, 1) := by decide +kernel
theorem dX4_listsReference_32 : decode cX4_listsReference 32 = .ok (.iinc 3 1, 3) := by decide +kernel
theorem dX4_listsReference_35 : decode cX4_listsReference 35 = .ok (.goto (-33), 3) := by decide +kernel
theorem dX4_listsReference_38 : decode cX4_listsReference 38 = .ok (.iconst 0, 1) := by decide +kernel
theorem dX4_listsReference_39 : decode cX4_listsReference 39 = .ok (.ireturn, 1) := by decide +kernel
theorem dX4_reset_0 : decode cX4_reset 0 = .ok (.aload_n 0, 1) := by decide +kernel
theorem dX4_reset_1 : decode cX4_reset 1 = .ok (.iconst 0, 1) := by decide +kernel
theorem dX4_reset_2 : decode cX4_reset 2 = .ok (.putfield 9, 3) := by decide +kernel
theorem dX4_reset_5 : decode cX4_reset 5 = .ok (.aload_n 0, 1) := by decide +kernel
theorem dX4_reset_6 : decode cX4_reset 6 = .ok (.iconst 0, 1) := by decide +kernel
theorem dX4_reset_7 : decode cX4_reset 7 = .ok (.putfield 28, 3) := by decide +kernel
theorem dX4_reset_10 : decode cX4_reset 10 = .ok (.aload_n 0, 1) := by decide +kernel
theorem dX4_reset_11 : decode cX4_reset 11 = .ok (.iconst 0, 1) := by decide +kernel
theorem dX4_reset_12 : decode cX4_reset 12 = .ok (.putfield 37, 3) := by decide +kernel
theorem dX4_reset_15 : decode cX4_reset 15 = .ok (.aload_n 0, 1) := by decide +kernel
theorem dX4_reset_16 : decode cX4_reset 16 = .ok (.getfield 46, 3) := by decide +kernel
theorem dX4_reset_19 : decode cX4_reset 19 = .ok (.iconst 0, 1) := by decide +kernel
theorem dX4_reset_20 : decode cX4_reset 20 = .ok (.invokestatic 49, 3) := by decide +kernel
theorem dX4_reset_23 : decode cX4_reset 23 = .ok (.return_, 1) := by decide +kernel
theorem dX4_runHolds_0 : decode cX4_runHolds 0 = .ok (.aload_n 0, 1) := by decide +kernel
theorem dX4_runHolds_1 : decode cX4_runHolds 1 = .ok (.getfield 46, 3) := by decide +kernel
theorem dX4_runHolds_4 : decode cX4_runHolds 4 = .ok (.iload_n 1, 1) := by decide +kernel
theorem dX4_runHolds_5 : decode cX4_runHolds 5 = .ok (.iaload, 1) := by decide +kernel
theorem dX4_runHolds_6 : decode cX4_runHolds 6 = .ok (.iload_n 2, 1) := by decide +kernel
theorem dX4_runHolds_7 : decode cX4_runHolds 7 = .ok (.invokestatic 72, 3) := by decide +kernel
theorem dX4_runHolds_10 : decode cX4_runHolds 10 = .ok (.ireturn, 1) := by decide +kernel
theorem dX4_startRun_0 : decode cX4_startRun 0 = .ok (.aload_n 0, 1) := by decide +kernel
theorem dX4_startRun_1 : decode cX4_startRun 1 = .ok (.aload_n 0, 1) := by decide +kernel
theorem dX4_startRun_2 : decode cX4_startRun 2 = .ok (.getfield 46, 3) := by decide +kernel
theorem dX4_startRun_5 : decode cX4_startRun 5 = .ok (.iconst 0, 1) := by decide +kernel
theorem dX4_startRun_6 : decode cX4_startRun 6 = .ok (.invokevirtual 79, 3) := by decide +kernel
theorem dX4_startRun_9 : decode cX4_startRun 9 = .ok (.return_, 1) := by decide +kernel
theorem dX4_unlistReference_0 : decode cX4_unlistReference 0 = .ok (.iload_n 1, 1) := by decide +kernel
theorem dX4_unlistReference_1 : decode cX4_unlistReference 1 = .ok (.istore_n 2, 1) := by decide +kernel
theorem dX4_unlistReference_2 : decode cX4_unlistReference 2 = .ok (.iload_n 2, 1) := by decide +kernel
theorem dX4_unlistReference_3 : decode cX4_unlistReference 3 = .ok (.iconst 1, 1) := by decide +kernel
theorem dX4_unlistReference_4 : decode cX4_unlistReference 4 = .ok (.iadd, 1) := by decide +kernel
theorem dX4_unlistReference_5 : decode cX4_unlistReference 5 = .ok (.aload_n 0, 1) := by decide +kernel
theorem dX4_unlistReference_6 : decode cX4_unlistReference 6 = .ok (.getfield 28, 3) := by decide +kernel
theorem dX4_unlistReference_9 : decode cX4_unlistReference 9 = .ok (.if_icmp .ge 37, 3) := by decide +kernel
theorem dX4_unlistReference_12 : decode cX4_unlistReference 12 = .ok (.aload_n 0, 1) := by decide +kernel
theorem dX4_unlistReference_13 : decode cX4_unlistReference 13 = .ok (.getfield 31, 3) := by decide +kernel
theorem dX4_unlistReference_16 : decode cX4_unlistReference 16 = .ok (.iload_n 2, 1) := by decide +kernel
theorem dX4_unlistReference_17 : decode cX4_unlistReference 17 = .ok (.aload_n 0, 1) := by decide +kernel
theorem dX4_unlistReference_18 : decode cX4_unlistReference 18 = .ok (.getfield 31, 3) := by decide +kernel
theorem dX4_unlistReference_21 : decode cX4_unlistReference 21 = .ok (.iload_n 2, 1) := by decide +kernel
theorem dX4_unlistReference_22 : decode cX4_unlistReference 22 = .ok (.iconst 1, 1) := by decide +kernel
theorem dX4_unlistReference_23 : decode cX4_unlistReference 23 = .ok (.iadd, 1) := by decide +kernel
theorem dX4_unlistReference_24 : decode cX4_unlistReference 24 = .ok (.iaload, 1) := by decide +kernel
theorem dX4_unlistReference_25 : decode cX4_unlistReference 25 = .ok (.iastore, 1) := by decide +kernel
theorem dX4_unlistReference_26 : decode cX4_unlistReference 26 = .ok (.aload_n 0, 1) := by decide +kernel
theorem dX4_unlistReference_27 : decode cX4_unlistReference 27 = .ok (.getfield 34, 3) := by decide +kernel
theorem dX4_unlistReference_30 : decode cX4_unlistReference 30 = .ok (.iload_n 2, 1) := by decide +kernel
theorem dX4_unlistReference_31 : decode cX4_unlistReference 31 = .ok (.aload_n 0, 1) := by decide +kernel
theorem dX4_unlistReference_32 : decode cX4_unlistReference 32 = .ok (.getfield 34, 3) := by decide +kernel
theorem dX4_unlistReference_35 : decode cX4_unlistReference 35 = .ok (.iload_n 2, 1) := by decide +kernel
theorem dX4_unlistReference_36 : decode cX4_unlistReference 36 = .ok (.iconst 1, 1) := by decide +kernel
theorem dX4_unlistReference_37 : decode cX4_unlistReference 37 = .ok (.iadd, 1) := by decide +kernel
theorem dX4_unlistReference_38 : decode cX4_unlistReference 38 = .ok (.iaload, 1) := by decide +kernel
theorem dX4_unlistReference_39 : decode cX4_unlistReference 39 = .ok (.iastore, 1) := by decide +kernel
theorem dX4_unlistReference_40 : decode cX4_unlistReference 40 = .ok (.iinc 2 1, 3) := by decide +kernel
theorem dX4_unlistReference_43 : decode cX4_unlistReference 43 = .ok (.goto (-41), 3) := by decide +kernel
theorem dX4_unlistReference_46 : decode cX4_unlistReference 46 = .ok (.aload_n 0, 1) := by decide +kernel
theorem dX4_unlistReference_47 : decode cX4_unlistReference 47 = .ok (.dup, 1) := by decide +kernel
theorem dX4_unlistReference_48 : decode cX4_unlistReference 48 = .ok (.getfield 28, 3) := by decide +kernel
theorem dX4_unlistReference_51 : decode cX4_unlistReference 51 = .ok (.iconst 1, 1) := by decide +kernel
theorem dX4_unlistReference_52 : decode cX4_unlistReference 52 = .ok (.isub, 1) := by decide +kernel
theorem dX4_unlistReference_53 : decode cX4_unlistReference 53 = .ok (.putfield 28, 3) := by decide +kernel
theorem dX4_unlistReference_56 : decode cX4_unlistReference 56 = .ok (.return_, 1) := by decide +kernel
theorem dX5_accepts_0 : decode cX5_accepts 0 = .ok (.iload_n 2, 1) := by decide +kernel
theorem dX5_accepts_1 : decode cX5_accepts 1 = .ok (.tableswitch 212 0 4 #[35, 67, 112, 143, 169], 35) := by decide +kernel
theorem dX5_accepts_36 : decode cX5_accepts 36 = .ok (.iload_n 3, 1) := by decide +kernel
theorem dX5_accepts_37 : decode cX5_accepts 37 = .ok (.ifCond .ne 18, 3) := by decide +kernel
theorem dX5_accepts_40 : decode cX5_accepts 40 = .ok (.iload 4, 2) := by decide +kernel
theorem dX5_accepts_42 : decode cX5_accepts 42 = .ok (.bipush 16, 2) := by decide +kernel
theorem dX5_accepts_44 : decode cX5_accepts 44 = .ok (.if_icmp .ge 7, 3) := by decide +kernel
theorem dX5_accepts_47 : decode cX5_accepts 47 = .ok (.iconst 1, 1) := by decide +kernel
theorem dX5_accepts_48 : decode cX5_accepts 48 = .ok (.goto 19, 3) := by decide +kernel
theorem dX5_accepts_51 : decode cX5_accepts 51 = .ok (.iconst 0, 1) := by decide +kernel
theorem dX5_accepts_52 : decode cX5_accepts 52 = .ok (.goto 15, 3) := by decide +kernel
theorem dX5_accepts_55 : decode cX5_accepts 55 = .ok (.iload 4, 2) := by decide +kernel
theorem dX5_accepts_57 : decode cX5_accepts 57 = .ok (.bipush 6, 2) := by decide +kernel
theorem dX5_accepts_59 : decode cX5_accepts 59 = .ok (.if_icmp .ge 7, 3) := by decide +kernel
theorem dX5_accepts_62 : decode cX5_accepts 62 = .ok (.iconst 1, 1) := by decide +kernel
theorem dX5_accepts_63 : decode cX5_accepts 63 = .ok (.goto 4, 3) := by decide +kernel
theorem dX5_accepts_66 : decode cX5_accepts 66 = .ok (.iconst 0, 1) := by decide +kernel
theorem dX5_accepts_67 : decode cX5_accepts 67 = .ok (.ireturn, 1) := by decide +kernel
theorem dX5_accepts_68 : decode cX5_accepts 68 = .ok (.iload_n 3, 1) := by decide +kernel
theorem dX5_accepts_69 : decode cX5_accepts 69 = .ok (.ifCond .ne 17, 3) := by decide +kernel
theorem dX5_accepts_72 : decode cX5_accepts 72 = .ok (.iload 4, 2) := by decide +kernel
theorem dX5_accepts_74 : decode cX5_accepts 74 = .ok (.iconst 4, 1) := by decide +kernel
theorem dX5_accepts_75 : decode cX5_accepts 75 = .ok (.if_icmp .ge 7, 3) := by decide +kernel
theorem dX5_accepts_78 : decode cX5_accepts 78 = .ok (.iconst 1, 1) := by decide +kernel
theorem dX5_accepts_79 : decode cX5_accepts 79 = .ok (.goto 33, 3) := by decide +kernel
theorem dX5_accepts_82 : decode cX5_accepts 82 = .ok (.iconst 0, 1) := by decide +kernel
theorem dX5_accepts_83 : decode cX5_accepts 83 = .ok (.goto 29, 3) := by decide +kernel
theorem dX5_accepts_86 : decode cX5_accepts 86 = .ok (.iload_n 3, 1) := by decide +kernel
theorem dX5_accepts_87 : decode cX5_accepts 87 = .ok (.iconst 1, 1) := by decide +kernel
theorem dX5_accepts_88 : decode cX5_accepts 88 = .ok (.if_icmp .ne 12, 3) := by decide +kernel
theorem dX5_accepts_91 : decode cX5_accepts 91 = .ok (.aload_n 1, 1) := by decide +kernel
theorem dX5_accepts_92 : decode cX5_accepts 92 = .ok (.iload 4, 2) := by decide +kernel
theorem dX5_accepts_94 : decode cX5_accepts 94 = .ok (.invokevirtual 68, 3) := by decide +kernel
theorem dX5_accepts_97 : decode cX5_accepts 97 = .ok (.goto 15, 3) := by decide +kernel
theorem dX5_accepts_100 : decode cX5_accepts 100 = .ok (.iload 4, 2) := by decide +kernel
theorem dX5_accepts_102 : decode cX5_accepts 102 = .ok (.bipush 6, 2) := by decide +kernel
theorem dX5_accepts_104 : decode cX5_accepts 104 = .ok (.if_icmp .ge 7, 3) := by decide +kernel
theorem dX5_accepts_107 : decode cX5_accepts 107 = .ok (.iconst 1, 1) := by decide +kernel
theorem dX5_accepts_108 : decode cX5_accepts 108 = .ok (.goto 4, 3) := by decide +kernel
theorem dX5_accepts_111 : decode cX5_accepts 111 = .ok (.iconst 0, 1) := by decide +kernel
theorem dX5_accepts_112 : decode cX5_accepts 112 = .ok (.ireturn, 1) := by decide +kernel
theorem dX5_accepts_113 : decode cX5_accepts 113 = .ok (.iload_n 3, 1) := by decide +kernel
theorem dX5_accepts_114 : decode cX5_accepts 114 = .ok (.ifCond .ne 17, 3) := by decide +kernel
theorem dX5_accepts_117 : decode cX5_accepts 117 = .ok (.iload 4, 2) := by decide +kernel
theorem dX5_accepts_119 : decode cX5_accepts 119 = .ok (.iconst 4, 1) := by decide +kernel
theorem dX5_accepts_120 : decode cX5_accepts 120 = .ok (.if_icmp .ge 7, 3) := by decide +kernel
theorem dX5_accepts_123 : decode cX5_accepts 123 = .ok (.iconst 1, 1) := by decide +kernel
theorem dX5_accepts_124 : decode cX5_accepts 124 = .ok (.goto 19, 3) := by decide +kernel
theorem dX5_accepts_127 : decode cX5_accepts 127 = .ok (.iconst 0, 1) := by decide +kernel
theorem dX5_accepts_128 : decode cX5_accepts 128 = .ok (.goto 15, 3) := by decide +kernel
theorem dX5_accepts_131 : decode cX5_accepts 131 = .ok (.iload 4, 2) := by decide +kernel
theorem dX5_accepts_133 : decode cX5_accepts 133 = .ok (.bipush 6, 2) := by decide +kernel
theorem dX5_accepts_135 : decode cX5_accepts 135 = .ok (.if_icmp .ge 7, 3) := by decide +kernel
theorem dX5_accepts_138 : decode cX5_accepts 138 = .ok (.iconst 1, 1) := by decide +kernel
theorem dX5_accepts_139 : decode cX5_accepts 139 = .ok (.goto 4, 3) := by decide +kernel
theorem dX5_accepts_142 : decode cX5_accepts 142 = .ok (.iconst 0, 1) := by decide +kernel
theorem dX5_accepts_143 : decode cX5_accepts 143 = .ok (.ireturn, 1) := by decide +kernel
theorem dX5_accepts_144 : decode cX5_accepts 144 = .ok (.iload_n 3, 1) := by decide +kernel
theorem dX5_accepts_145 : decode cX5_accepts 145 = .ok (.ifCond .ne 12, 3) := by decide +kernel
theorem dX5_accepts_148 : decode cX5_accepts 148 = .ok (.aload_n 1, 1) := by decide +kernel
theorem dX5_accepts_149 : decode cX5_accepts 149 = .ok (.iload 4, 2) := by decide +kernel
theorem dX5_accepts_151 : decode cX5_accepts 151 = .ok (.invokevirtual 72, 3) := by decide +kernel
theorem dX5_accepts_154 : decode cX5_accepts 154 = .ok (.goto 15, 3) := by decide +kernel
theorem dX5_accepts_157 : decode cX5_accepts 157 = .ok (.iload 4, 2) := by decide +kernel
theorem dX5_accepts_159 : decode cX5_accepts 159 = .ok (.bipush 6, 2) := by decide +kernel
theorem dX5_accepts_161 : decode cX5_accepts 161 = .ok (.if_icmp .ge 7, 3) := by decide +kernel
theorem dX5_accepts_164 : decode cX5_accepts 164 = .ok (.iconst 1, 1) := by decide +kernel
theorem dX5_accepts_165 : decode cX5_accepts 165 = .ok (.goto 4, 3) := by decide +kernel
theorem dX5_accepts_168 : decode cX5_accepts 168 = .ok (.iconst 0, 1) := by decide +kernel
theorem dX5_accepts_169 : decode cX5_accepts 169 = .ok (.ireturn, 1) := by decide +kernel
theorem dX5_accepts_170 : decode cX5_accepts 170 = .ok (.iload_n 3, 1) := by decide +kernel
theorem dX5_accepts_171 : decode cX5_accepts 171 = .ok (.ifCond .ne 12, 3) := by decide +kernel
theorem dX5_accepts_174 : decode cX5_accepts 174 = .ok (.aload_n 1, 1) := by decide +kernel
theorem dX5_accepts_175 : decode cX5_accepts 175 = .ok (.iload 4, 2) := by decide +kernel
theorem dX5_accepts_177 : decode cX5_accepts 177 = .ok (.invokevirtual 75, 3) := by decide +kernel
theorem dX5_accepts_180 : decode cX5_accepts 180 = .ok (.goto 32, 3) := by decide +kernel
theorem dX5_accepts_183 : decode cX5_accepts 183 = .ok (.aload_n 1, 1) := by decide +kernel
theorem dX5_accepts_184 : decode cX5_accepts 184 = .ok (.iload 4, 2) := by decide +kernel
theorem dX5_accepts_186 : decode cX5_accepts 186 = .ok (.invokevirtual 68, 3) := by decide +kernel
theorem dX5_accepts_189 : decode cX5_accepts 189 = .ok (.ifCond .eq 22, 3) := by decide +kernel
theorem dX5_accepts_192 : decode cX5_accepts 192 = .ok (.aload_n 1, 1) := by decide +kernel
theorem dX5_accepts_193 : decode cX5_accepts 193 = .ok (.aload_n 0, 1) := by decide +kernel
theorem dX5_accepts_194 : decode cX5_accepts 194 = .ok (.getfield 28, 3) := by decide +kernel
theorem dX5_accepts_197 : decode cX5_accepts 197 = .ok (.iconst 0, 1) := by decide +kernel
theorem dX5_accepts_198 : decode cX5_accepts 198 = .ok (.iaload, 1) := by decide +kernel
theorem dX5_accepts_199 : decode cX5_accepts 199 = .ok (.iload 4, 2) := by decide +kernel
theorem dX5_accepts_201 : decode cX5_accepts 201 = .ok (.invokevirtual 78, 3) := by decide +kernel
theorem dX5_accepts_204 : decode cX5_accepts 204 = .ok (.ifCond .ne 7, 3) := by decide +kernel
theorem dX5_accepts_207 : decode cX5_accepts 207 = .ok (.iconst 1, 1) := by decide +kernel
theorem dX5_accepts_208 : decode cX5_accepts 208 = .ok (.goto 4, 3) := by decide +kernel
theorem dX5_accepts_211 : decode cX5_accepts 211 = .ok (.iconst 0, 1) := by decide +kernel
theorem dX5_accepts_212 : decode cX5_accepts 212 = .ok (.ireturn, 1) := by decide +kernel
theorem dX5_accepts_213 : decode cX5_accepts 213 = .ok (.iconst 0, 1) := by decide +kernel
theorem dX5_accepts_214 : decode cX5_accepts 214 = .ok (.ireturn, 1) := by decide +kernel
theorem dX5_advance_0 : decode cX5_advance 0 = .ok (.aload_n 0, 1) := by decide +kernel
theorem dX5_advance_1 : decode cX5_advance 1 = .ok (.aload_n 0, 1) := by decide +kernel
theorem dX5_advance_2 : decode cX5_advance 2 = .ok (.getfield 25, 3) := by decide +kernel
theorem dX5_advance_5 : decode cX5_advance 5 = .ok (.putfield 22, 3) := by decide +kernel
theorem dX5_advance_8 : decode cX5_advance 8 = .ok (.aload_n 0, 1) := by decide +kernel
theorem dX5_advance_9 : decode cX5_advance 9 = .ok (.getfield 22, 3) := by decide +kernel
theorem dX5_advance_12 : decode cX5_advance 12 = .ok (.aload_n 0, 1) := by decide +kernel
theorem dX5_advance_13 : decode cX5_advance 13 = .ok (.getfield 15, 3) := by decide +kernel
theorem dX5_advance_16 : decode cX5_advance 16 = .ok (.if_icmp .ge 30, 3) := by decide +kernel
theorem dX5_advance_19 : decode cX5_advance 19 = .ok (.aload_n 0, 1) := by decide +kernel
theorem dX5_advance_20 : decode cX5_advance 20 = .ok (.getfield 9, 3) := by decide +kernel
theorem dX5_advance_23 : decode cX5_advance 23 = .ok (.aload_n 0, 1) := by decide +kernel
theorem dX5_advance_24 : decode cX5_advance 24 = .ok (.getfield 22, 3) := by decide +kernel
theorem dX5_advance_27 : decode cX5_advance 27 = .ok (.iaload, 1) := by decide +kernel
theorem dX5_advance_28 : decode cX5_advance 28 = .ok (.bipush 32, 2) := by decide +kernel
theorem dX5_advance_30 : decode cX5_advance 30 = .ok (.if_icmp .ne 16, 3) := by decide +kernel
theorem dX5_advance_33 : decode cX5_advance 33 = .ok (.aload_n 0, 1) := by decide +kernel
theorem dX5_advance_34 : decode cX5_advance 34 = .ok (.dup, 1) := by decide +kernel
theorem dX5_advance_35 : decode cX5_advance 35 = .ok (.getfield 22, 3) := by decide +kernel
theorem dX5_advance_38 : decode cX5_advance 38 = .ok (.iconst 1, 1) := by decide +kernel
theorem dX5_advance_39 : decode cX5_advance 39 = .ok (.iadd, 1) := by decide +kernel
theorem dX5_advance_40 : decode cX5_advance 40 = .ok (.putfield 22, 3) := by decide +kernel
theorem dX5_advance_43 : decode cX5_advance 43 = .ok (.goto (-35), 3) := by decide +kernel
theorem dX5_advance_46 : decode cX5_advance 46 = .ok (.aload_n 0, 1) := by decide +kernel
theorem dX5_advance_47 : decode cX5_advance 47 = .ok (.aload_n 0, 1) := by decide +kernel
theorem dX5_advance_48 : decode cX5_advance 48 = .ok (.getfield 22, 3) := by decide +kernel
theorem dX5_advance_51 : decode cX5_advance 51 = .ok (.putfield 25, 3) := by decide +kernel
theorem dX5_advance_54 : decode cX5_advance 54 = .ok (.aload_n 0, 1) := by decide +kernel
theorem dX5_advance_55 : decode cX5_advance 55 = .ok (.getfield 22, 3) := by decide +kernel
theorem dX5_advance_58 : decode cX5_advance 58 = .ok (.aload_n 0, 1) := by decide +kernel
theorem dX5_advance_59 : decode cX5_advance 59 = .ok (.getfield 15, 3) := by decide +kernel
theorem dX5_advance_62 : decode cX5_advance 62 = .ok (.if_icmp .lt 9, 3) := by decide +kernel
theorem dX5_advance_65 : decode cX5_advance 65 = .ok (.aload_n 0, 1) := by decide +kernel
theorem dX5_advance_66 : decode cX5_advance 66 = .ok (.iconst 0, 1) := by decide +kernel
theorem dX5_advance_67 : decode cX5_advance 67 = .ok (.putfield 19, 3) := by decide +kernel
theorem dX5_advance_70 : decode cX5_advance 70 = .ok (.return_, 1) := by decide +kernel
theorem dX5_advance_71 : decode cX5_advance 71 = .ok (.aload_n 0, 1) := by decide +kernel
theorem dX5_advance_72 : decode cX5_advance 72 = .ok (.aload_n 0, 1) := by decide +kernel
theorem dX5_advance_73 : decode cX5_advance 73 = .ok (.getfield 9, 3) := by decide +kernel
theorem dX5_advance_76 : decode cX5_advance 76 = .ok (.aload_n 0, 1) := by decide +kernel
theorem dX5_advance_77 : decode cX5_advance 77 = .ok (.getfield 22, 3) := by decide +kernel
theorem dX5_advance_80 : decode cX5_advance 80 = .ok (.iaload, 1) := by decide +kernel
theorem dX5_advance_81 : decode cX5_advance 81 = .ok (.invokestatic 112, 3) := by decide +kernel
theorem dX5_advance_84 : decode cX5_advance 84 = .ok (.putfield 19, 3) := by decide +kernel
theorem dX5_advance_87 : decode cX5_advance 87 = .ok (.aload_n 0, 1) := by decide +kernel
theorem dX5_advance_88 : decode cX5_advance 88 = .ok (.dup, 1) := by decide +kernel
theorem dX5_advance_89 : decode cX5_advance 89 = .ok (.getfield 25, 3) := by decide +kernel
theorem dX5_advance_92 : decode cX5_advance 92 = .ok (.iconst 1, 1) := by decide +kernel
theorem dX5_advance_93 : decode cX5_advance 93 = .ok (.iadd, 1) := by decide +kernel
theorem dX5_advance_94 : decode cX5_advance 94 = .ok (.putfield 25, 3) := by decide +kernel
theorem dX5_advance_97 : decode cX5_advance 97 = .ok (.aload_n 0, 1) := by decide +kernel
theorem dX5_advance_98 : decode cX5_advance 98 = .ok (.getfield 19, 3) := by decide +kernel
theorem dX5_advance_101 : decode cX5_advance 101 = .ok (.iconst 1, 1) := by decide +kernel
theorem dX5_advance_102 : decode cX5_advance 102 = .ok (.if_icmp .eq 12, 3) := by decide +kernel
theorem dX5_advance_105 : decode cX5_advance 105 = .ok (.aload_n 0, 1) := by decide +kernel
theorem dX5_advance_106 : decode cX5_advance 106 = .ok (.getfield 19, 3) := by decide +kernel
theorem dX5_advance_109 : decode cX5_advance 109 = .ok (.iconst 2, 1) := by decide +kernel
theorem dX5_advance_110 : decode cX5_advance 110 = .ok (.if_icmp .eq 4, 3) := by decide +kernel
theorem dX5_advance_113 : decode cX5_advance 113 = .ok (.return_, 1) := by decide +kernel
theorem dX5_advance_114 : decode cX5_advance 114 = .ok (.aload_n 0, 1) := by decide +kernel
theorem dX5_advance_115 : decode cX5_advance 115 = .ok (.getfield 25, 3) := by decide +kernel
theorem dX5_advance_118 : decode cX5_advance 118 = .ok (.aload_n 0, 1) := by decide +kernel
theorem dX5_advance_119 : decode cX5_advance 119 = .ok (.getfield 15, 3) := by decide +kernel
theorem dX5_advance_122 : decode cX5_advance 122 = .ok (.if_icmp .ge 35, 3) := by decide +kernel
theorem dX5_advance_125 : decode cX5_advance 125 = .ok (.aload_n 0, 1) := by decide +kernel
theorem dX5_advance_126 : decode cX5_advance 126 = .ok (.getfield 9, 3) := by decide +kernel
theorem dX5_advance_129 : decode cX5_advance 129 = .ok (.aload_n 0, 1) := by decide +kernel
theorem dX5_advance_130 : decode cX5_advance 130 = .ok (.getfield 25, 3) := by decide +kernel
theorem dX5_advance_133 : decode cX5_advance 133 = .ok (.iaload, 1) := by decide +kernel
theorem dX5_advance_134 : decode cX5_advance 134 = .ok (.invokestatic 112, 3) := by decide +kernel
theorem dX5_advance_137 : decode cX5_advance 137 = .ok (.aload_n 0, 1) := by decide +kernel
theorem dX5_advance_138 : decode cX5_advance 138 = .ok (.getfield 19, 3) := by decide +kernel
theorem dX5_advance_141 : decode cX5_advance 141 = .ok (.if_icmp .ne 16, 3) := by decide +kernel
theorem dX5_advance_144 : decode cX5_advance 144 = .ok (.aload_n 0, 1) := by decide +kernel
theorem dX5_advance_145 : decode cX5_advance 145 = .ok (.dup, 1) := by decide +kernel
theorem dX5_advance_146 : decode cX5_advance 146 = .ok (.getfield 25, 3) := by decide +kernel
theorem dX5_advance_149 : decode cX5_advance 149 = .ok (.iconst 1, 1) := by decide +kernel
theorem dX5_advance_150 : decode cX5_advance 150 = .ok (.iadd, 1) := by decide +kernel
theorem dX5_advance_151 : decode cX5_advance 151 = .ok (.putfield 25, 3) := by decide +kernel
theorem dX5_advance_154 : decode cX5_advance 154 = .ok (.goto (-40), 3) := by decide +kernel
theorem dX5_advance_157 : decode cX5_advance 157 = .ok (.return_, 1) := by decide +kernel
theorem dX5_findStatement_0 : decode cX5_findStatement 0 = .ok (.aload_n 0, 1) := by decide +kernel
theorem dX5_findStatement_1 : decode cX5_findStatement 1 = .ok (.getfield 19, 3) := by decide +kernel
theorem dX5_findStatement_4 : decode cX5_findStatement 4 = .ok (.iconst 1, 1) := by decide +kernel
theorem dX5_findStatement_5 : decode cX5_findStatement 5 = .ok (.if_icmp .eq 5, 3) := by decide +kernel
theorem dX5_findStatement_8 : decode cX5_findStatement 8 = .ok (.iconst (-1), 1) := by decide +kernel
theorem dX5_findStatement_9 : decode cX5_findStatement 9 = .ok (.ireturn, 1) := by decide +kernel
theorem dX5_findStatement_10 : decode cX5_findStatement 10 = .ok (.aload_n 0, 1) := by decide +kernel
theorem dX5_findStatement_11 : decode cX5_findStatement 11 = .ok (.ldc 90, 2) := by decide +kernel
theorem dX5_findStatement_13 : decode cX5_findStatement 13 = .ok (.invokevirtual 92, 3) := by decide +kernel
theorem dX5_findStatement_16 : decode cX5_findStatement 16 = .ok (.ifCond .eq 5, 3) := by decide +kernel
theorem dX5_findStatement_19 : decode cX5_findStatement 19 = .ok (.iconst 0, 1) := by decide +kernel
theorem dX5_findStatement_20 : decode cX5_findStatement 20 = .ok (.ireturn, 1) := by decide +kernel
theorem dX5_findStatement_21 : decode cX5_findStatement 21 = .ok (.aload_n 0, 1) := by decide +kernel
theorem dX5_findStatement_22 : decode cX5_findStatement 22 = .ok (.ldc 96, 2) := by decide +kernel
theorem dX5_findStatement_24 : decode cX5_findStatement 24 = .ok (.invokevirtual 92, 3) := by decide +kernel
theorem dX5_findStatement_27 : decode cX5_findStatement 27 = .ok (.ifCond .eq 5, 3) := by decide +kernel
theorem dX5_findStatement_30 : decode cX5_findStatement 30 = .ok (.iconst 1, 1) := by decide +kernel
theorem dX5_findStatement_31 : decode cX5_findStatement 31 = .ok (.ireturn, 1) := by decide +kernel
theorem dX5_findStatement_32 : decode cX5_findStatement 32 = .ok (.aload_n 0, 1) := by decide +kernel
theorem dX5_findStatement_33 : decode cX5_findStatement 33 = .ok (.ldc 98, 2) := by decide +kernel
theorem dX5_findStatement_35 : decode cX5_findStatement 35 = .ok (.invokevirtual 92, 3) := by decide +kernel
theorem dX5_findStatement_38 : decode cX5_findStatement 38 = .ok (.ifCond .eq 5, 3) := by decide +kernel
theorem dX5_findStatement_41 : decode cX5_findStatement 41 = .ok (.iconst 2, 1) := by decide +kernel
theorem dX5_findStatement_42 : decode cX5_findStatement 42 = .ok (.ireturn, 1) := by decide +kernel
theorem dX5_findStatement_43 : decode cX5_findStatement 43 = .ok (.aload_n 0, 1) := by decide +kernel
theorem dX5_findStatement_44 : decode cX5_findStatement 44 = .ok (.ldc 100, 2) := by decide +kernel
theorem dX5_findStatement_46 : decode cX5_findStatement 46 = .ok (.invokevirtual 92, 3) := by decide +kernel
theorem dX5_findStatement_49 : decode cX5_findStatement 49 = .ok (.ifCond .eq 5, 3) := by decide +kernel
theorem dX5_findStatement_52 : decode cX5_findStatement 52 = .ok (.iconst 3, 1) := by decide +kernel
theorem dX5_findStatement_53 : decode cX5_findStatement 53 = .ok (.ireturn, 1) := by decide +kernel
theorem dX5_findStatement_54 : decode cX5_findStatement 54 = .ok (.aload_n 0, 1) := by decide +kernel
theorem dX5_findStatement_55 : decode cX5_findStatement 55 = .ok (.ldc 102, 2) := by decide +kernel
theorem dX5_findStatement_57 : decode cX5_findStatement 57 = .ok (.invokevirtual 92, 3) := by decide +kernel
theorem dX5_findStatement_60 : decode cX5_findStatement 60 = .ok (.ifCond .eq 7, 3) := by decide +kernel
theorem dX5_findStatement_63 : decode cX5_findStatement 63 = .ok (.iconst 4, 1) := by decide +kernel
theorem dX5_findStatement_64 : decode cX5_findStatement 64 = .ok (.goto 4, 3) := by decide +kernel
theorem dX5_findStatement_67 : decode cX5_findStatement 67 = .ok (.iconst (-1), 1) := by decide +kernel
theorem dX5_findStatement_68 : decode cX5_findStatement 68 = .ok (.ireturn, 1) := by decide +kernel
theorem dX5_init_0 : decode cX5_init 0 = .ok (.aload_n 0, 1) := by decide +kernel
theorem dX5_init_1 : decode cX5_init 1 = .ok (.invokespecial 3, 3) := by decide +kernel
theorem dX5_init_4 : decode cX5_init 4 = .ok (.aload_n 0, 1) := by decide +kernel
theorem dX5_init_5 : decode cX5_init 5 = .ok (.sipush 160, 3) := by decide +kernel
theorem dX5_init_8 : decode cX5_init 8 = .ok (.newarray .int, 2) := by decide +kernel
theorem dX5_init_10 : decode cX5_init 10 = .ok (.putfield 9, 3) := by decide +kernel
theorem dX5_init_13 : decode cX5_init 13 = .ok (.aload_n 0, 1) := by decide +kernel
theorem dX5_init_14 : decode cX5_init 14 = .ok (.iconst 0, 1) := by decide +kernel
theorem dX5_init_15 : decode cX5_init 15 = .ok (.putfield 15, 3) := by decide +kernel
theorem dX5_init_18 : decode cX5_init 18 = .ok (.aload_n 0, 1) := by decide +kernel
theorem dX5_init_19 : decode cX5_init 19 = .ok (.iconst 0, 1) := by decide +kernel
theorem dX5_init_20 : decode cX5_init 20 = .ok (.putfield 19, 3) := by decide +kernel
theorem dX5_init_23 : decode cX5_init 23 = .ok (.aload_n 0, 1) := by decide +kernel
theorem dX5_init_24 : decode cX5_init 24 = .ok (.iconst 0, 1) := by decide +kernel
theorem dX5_init_25 : decode cX5_init 25 = .ok (.putfield 22, 3) := by decide +kernel
theorem dX5_init_28 : decode cX5_init 28 = .ok (.aload_n 0, 1) := by decide +kernel
theorem dX5_init_29 : decode cX5_init 29 = .ok (.iconst 0, 1) := by decide +kernel
theorem dX5_init_30 : decode cX5_init 30 = .ok (.putfield 25, 3) := by decide +kernel
theorem dX5_init_33 : decode cX5_init 33 = .ok (.aload_n 0, 1) := by decide +kernel
theorem dX5_init_34 : decode cX5_init 34 = .ok (.iconst 3, 1) := by decide +kernel
theorem dX5_init_35 : decode cX5_init 35 = .ok (.newarray .int, 2) := by decide +kernel
theorem dX5_init_37 : decode cX5_init 37 = .ok (.putfield 28, 3) := by decide +kernel
theorem dX5_init_40 : decode cX5_init 40 = .ok (.return_, 1) := by decide +kernel
theorem dX5_isFull_0 : decode cX5_isFull 0 = .ok (.iload_n 2, 1) := by decide +kernel
theorem dX5_isFull_1 : decode cX5_isFull 1 = .ok (.iconst 4, 1) := by decide +kernel
theorem dX5_isFull_2 : decode cX5_isFull 2 = .ok (.if_icmp .ne 18, 3) := by decide +kernel
theorem dX5_isFull_5 : decode cX5_isFull 5 = .ok (.aload_n 1, 1) := by decide +kernel
theorem dX5_isFull_6 : decode cX5_isFull 6 = .ok (.getfield 62, 3) := by decide +kernel
theorem dX5_isFull_9 : decode cX5_isFull 9 = .ok (.bipush 10, 2) := by decide +kernel
theorem dX5_isFull_11 : decode cX5_isFull 11 = .ok (.if_icmp .lt 7, 3) := by decide +kernel
theorem dX5_isFull_14 : decode cX5_isFull 14 = .ok (.iconst 1, 1) := by decide +kernel
theorem dX5_isFull_15 : decode cX5_isFull 15 = .ok (.goto 4, 3) := by decide +kernel
theorem dX5_isFull_18 : decode cX5_isFull 18 = .ok (.iconst 0, 1) := by decide +kernel
theorem dX5_isFull_19 : decode cX5_isFull 19 = .ok (.ireturn, 1) := by decide +kernel
theorem dX5_isFull_20 : decode cX5_isFull 20 = .ok (.aload_n 1, 1) := by decide +kernel
theorem dX5_isFull_21 : decode cX5_isFull 21 = .ok (.getfield 65, 3) := by decide +kernel
theorem dX5_isFull_24 : decode cX5_isFull 24 = .ok (.bipush 10, 2) := by decide +kernel
theorem dX5_isFull_26 : decode cX5_isFull 26 = .ok (.if_icmp .lt 7, 3) := by decide +kernel
theorem dX5_isFull_29 : decode cX5_isFull 29 = .ok (.iconst 1, 1) := by decide +kernel
theorem dX5_isFull_30 : decode cX5_isFull 30 = .ok (.goto 4, 3) := by decide +kernel
theorem dX5_isFull_33 : decode cX5_isFull 33 = .ok (.iconst 0, 1) := by decide +kernel
theorem dX5_isFull_34 : decode cX5_isFull 34 = .ok (.ireturn, 1) := by decide +kernel
theorem dX5_numberValue_0 : decode cX5_numberValue 0 = .ok (.aload_n 0, 1) := by decide +kernel
theorem dX5_numberValue_1 : decode cX5_numberValue 1 = .ok (.getfield 19, 3) := by decide +kernel
theorem dX5_numberValue_4 : decode cX5_numberValue 4 = .ok (.iconst 2, 1) := by decide +kernel
theorem dX5_numberValue_5 : decode cX5_numberValue 5 = .ok (.if_icmp .eq 5, 3) := by decide +kernel
theorem dX5_numberValue_8 : decode cX5_numberValue 8 = .ok (.iconst (-1), 1) := by decide +kernel
theorem dX5_numberValue_9 : decode cX5_numberValue 9 = .ok (.ireturn, 1) := by decide +kernel
theorem dX5_numberValue_10 : decode cX5_numberValue 10 = .ok (.aload_n 0, 1) := by decide +kernel
theorem dX5_numberValue_11 : decode cX5_numberValue 11 = .ok (.getfield 9, 3) := by decide +kernel
theorem dX5_numberValue_14 : decode cX5_numberValue 14 = .ok (.aload_n 0, 1) := by decide +kernel
theorem dX5_numberValue_15 : decode cX5_numberValue 15 = .ok (.getfield 22, 3) := by decide +kernel
theorem dX5_numberValue_18 : decode cX5_numberValue 18 = .ok (.iaload, 1) := by decide +kernel
theorem dX5_numberValue_19 : decode cX5_numberValue 19 = .ok (.bipush 48, 2) := by decide +kernel
theorem dX5_numberValue_21 : decode cX5_numberValue 21 = .ok (.isub, 1) := by decide +kernel
theorem dX5_numberValue_22 : decode cX5_numberValue 22 = .ok (.istore_n 1, 1) := by decide +kernel
theorem dX5_numberValue_23 : decode cX5_numberValue 23 = .ok (.aload_n 0, 1) := by decide +kernel
theorem dX5_numberValue_24 : decode cX5_numberValue 24 = .ok (.getfield 25, 3) := by decide +kernel
theorem dX5_numberValue_27 : decode cX5_numberValue 27 = .ok (.aload_n 0, 1) := by decide +kernel
theorem dX5_numberValue_28 : decode cX5_numberValue 28 = .ok (.getfield 22, 3) := by decide +kernel
theorem dX5_numberValue_31 : decode cX5_numberValue 31 = .ok (.isub, 1) := by decide +kernel
theorem dX5_numberValue_32 : decode cX5_numberValue 32 = .ok (.iconst 1, 1) := by decide +kernel
theorem dX5_numberValue_33 : decode cX5_numberValue 33 = .ok (.if_icmp .ne 5, 3) := by decide +kernel
theorem dX5_numberValue_36 : decode cX5_numberValue 36 = .ok (.iload_n 1, 1) := by decide +kernel
theorem dX5_numberValue_37 : decode cX5_numberValue 37 = .ok (.ireturn, 1) := by decide +kernel
theorem dX5_numberValue_38 : decode cX5_numberValue 38 = .ok (.aload_n 0, 1) := by decide +kernel
theorem dX5_numberValue_39 : decode cX5_numberValue 39 = .ok (.getfield 25, 3) := by decide +kernel
theorem dX5_numberValue_42 : decode cX5_numberValue 42 = .ok (.aload_n 0, 1) := by decide +kernel
theorem dX5_numberValue_43 : decode cX5_numberValue 43 = .ok (.getfield 22, 3) := by decide +kernel
theorem dX5_numberValue_46 : decode cX5_numberValue 46 = .ok (.isub, 1) := by decide +kernel
theorem dX5_numberValue_47 : decode cX5_numberValue 47 = .ok (.iconst 2, 1) := by decide +kernel
theorem dX5_numberValue_48 : decode cX5_numberValue 48 = .ok (.if_icmp .gt 7, 3) := by decide +kernel
theorem dX5_numberValue_51 : decode cX5_numberValue 51 = .ok (.iload_n 1, 1) := by decide +kernel
theorem dX5_numberValue_52 : decode cX5_numberValue 52 = .ok (.ifCond .ne 5, 3) := by decide +kernel
theorem dX5_numberValue_55 : decode cX5_numberValue 55 = .ok (.iconst (-1), 1) := by decide +kernel
theorem dX5_numberValue_56 : decode cX5_numberValue 56 = .ok (.ireturn, 1) := by decide +kernel
theorem dX5_numberValue_57 : decode cX5_numberValue 57 = .ok (.iload_n 1, 1) := by decide +kernel
theorem dX5_numberValue_58 : decode cX5_numberValue 58 = .ok (.bipush 10, 2) := by decide +kernel
theorem dX5_numberValue_60 : decode cX5_numberValue 60 = .ok (.imul, 1) := by decide +kernel
theorem dX5_numberValue_61 : decode cX5_numberValue 61 = .ok (.aload_n 0, 1) := by decide +kernel
theorem dX5_numberValue_62 : decode cX5_numberValue 62 = .ok (.getfield 9, 3) := by decide +kernel
theorem dX5_numberValue_65 : decode cX5_numberValue 65 = .ok (.aload_n 0, 1) := by decide +kernel
theorem dX5_numberValue_66 : decode cX5_numberValue 66 = .ok (.getfield 22, 3) := by decide +kernel
theorem dX5_numberValue_69 : decode cX5_numberValue 69 = .ok (.iconst 1, 1) := by decide +kernel
theorem dX5_numberValue_70 : decode cX5_numberValue 70 = .ok (.iadd, 1) := by decide +kernel
theorem dX5_numberValue_71 : decode cX5_numberValue 71 = .ok (.iaload, 1) := by decide +kernel
theorem dX5_numberValue_72 : decode cX5_numberValue 72 = .ok (.iadd, 1) := by decide +kernel
theorem dX5_numberValue_73 : decode cX5_numberValue 73 = .ok (.bipush 48, 2) := by decide +kernel
theorem dX5_numberValue_75 : decode cX5_numberValue 75 = .ok (.isub, 1) := by decide +kernel
theorem dX5_numberValue_76 : decode cX5_numberValue 76 = .ok (.ireturn, 1) := by decide +kernel
theorem dX5_perform_0 : decode cX5_perform 0 = .ok (.iload_n 2, 1) := by decide +kernel
theorem dX5_perform_1 : decode cX5_perform 1 = .ok (.tableswitch 122 0 4 #[35, 56, 35, 82, 103], 35) := by decide +kernel
theorem dX5_perform_36 : decode cX5_perform 36 = .ok (.aload_n 1, 1) := by decide +kernel
theorem dX5_perform_37 : decode cX5_perform 37 = .ok (.iload_n 2, 1) := by decide +kernel
theorem dX5_perform_38 : decode cX5_perform 38 = .ok (.aload_n 0, 1) := by decide +kernel
theorem dX5_perform_39 : decode cX5_perform 39 = .ok (.getfield 28, 3) := by decide +kernel
theorem dX5_perform_42 : decode cX5_perform 42 = .ok (.iconst 0, 1) := by decide +kernel
theorem dX5_perform_43 : decode cX5_perform 43 = .ok (.iaload, 1) := by decide +kernel
theorem dX5_perform_44 : decode cX5_perform 44 = .ok (.iconst 0, 1) := by decide +kernel
theorem dX5_perform_45 : decode cX5_perform 45 = .ok (.aload_n 0, 1) := by decide +kernel
theorem dX5_perform_46 : decode cX5_perform 46 = .ok (.getfield 28, 3) := by decide +kernel
theorem dX5_perform_49 : decode cX5_perform 49 = .ok (.iconst 1, 1) := by decide +kernel
theorem dX5_perform_50 : decode cX5_perform 50 = .ok (.iaload, 1) := by decide +kernel
theorem dX5_perform_51 : decode cX5_perform 51 = .ok (.invokevirtual 82, 3) := by decide +kernel
theorem dX5_perform_54 : decode cX5_perform 54 = .ok (.goto 69, 3) := by decide +kernel
theorem dX5_perform_57 : decode cX5_perform 57 = .ok (.aload_n 1, 1) := by decide +kernel
theorem dX5_perform_58 : decode cX5_perform 58 = .ok (.iconst 1, 1) := by decide +kernel
theorem dX5_perform_59 : decode cX5_perform 59 = .ok (.aload_n 0, 1) := by decide +kernel
theorem dX5_perform_60 : decode cX5_perform 60 = .ok (.getfield 28, 3) := by decide +kernel
theorem dX5_perform_63 : decode cX5_perform 63 = .ok (.iconst 0, 1) := by decide +kernel
theorem dX5_perform_64 : decode cX5_perform 64 = .ok (.iaload, 1) := by decide +kernel
theorem dX5_perform_65 : decode cX5_perform 65 = .ok (.aload_n 0, 1) := by decide +kernel
theorem dX5_perform_66 : decode cX5_perform 66 = .ok (.getfield 28, 3) := by decide +kernel
theorem dX5_perform_69 : decode cX5_perform 69 = .ok (.iconst 1, 1) := by decide +kernel
theorem dX5_perform_70 : decode cX5_perform 70 = .ok (.iaload, 1) := by decide +kernel
theorem dX5_perform_71 : decode cX5_perform 71 = .ok (.aload_n 0, 1) := by decide +kernel
theorem dX5_perform_72 : decode cX5_perform 72 = .ok (.getfield 28, 3) := by decide +kernel
theorem dX5_perform_75 : decode cX5_perform 75 = .ok (.iconst 2, 1) := by decide +kernel
theorem dX5_perform_76 : decode cX5_perform 76 = .ok (.iaload, 1) := by decide +kernel
theorem dX5_perform_77 : decode cX5_perform 77 = .ok (.invokevirtual 82, 3) := by decide +kernel
theorem dX5_perform_80 : decode cX5_perform 80 = .ok (.goto 43, 3) := by decide +kernel
theorem dX5_perform_83 : decode cX5_perform 83 = .ok (.aload_n 1, 1) := by decide +kernel
theorem dX5_perform_84 : decode cX5_perform 84 = .ok (.iconst 3, 1) := by decide +kernel
theorem dX5_perform_85 : decode cX5_perform 85 = .ok (.iconst 0, 1) := by decide +kernel
theorem dX5_perform_86 : decode cX5_perform 86 = .ok (.aload_n 0, 1) := by decide +kernel
theorem dX5_perform_87 : decode cX5_perform 87 = .ok (.getfield 28, 3) := by decide +kernel
theorem dX5_perform_90 : decode cX5_perform 90 = .ok (.iconst 0, 1) := by decide +kernel
theorem dX5_perform_91 : decode cX5_perform 91 = .ok (.iaload, 1) := by decide +kernel
theorem dX5_perform_92 : decode cX5_perform 92 = .ok (.aload_n 0, 1) := by decide +kernel
theorem dX5_perform_93 : decode cX5_perform 93 = .ok (.getfield 28, 3) := by decide +kernel
theorem dX5_perform_96 : decode cX5_perform 96 = .ok (.iconst 1, 1) := by decide +kernel
theorem dX5_perform_97 : decode cX5_perform 97 = .ok (.iaload, 1) := by decide +kernel
theorem dX5_perform_98 : decode cX5_perform 98 = .ok (.invokevirtual 82, 3) := by decide +kernel
theorem dX5_perform_101 : decode cX5_perform 101 = .ok (.goto 22, 3) := by decide +kernel
theorem dX5_perform_104 : decode cX5_perform 104 = .ok (.aload_n 1, 1) := by decide +kernel
theorem dX5_perform_105 : decode cX5_perform 105 = .ok (.aload_n 0, 1) := by decide +kernel
theorem dX5_perform_106 : decode cX5_perform 106 = .ok (.getfield 28, 3) := by decide +kernel
theorem dX5_perform_109 : decode cX5_perform 109 = .ok (.iconst 0, 1) := by decide +kernel
theorem dX5_perform_110 : decode cX5_perform 110 = .ok (.iaload, 1) := by decide +kernel
theorem dX5_perform_111 : decode cX5_perform 111 = .ok (.aload_n 0, 1) := by decide +kernel
theorem dX5_perform_112 : decode cX5_perform 112 = .ok (.getfield 28, 3) := by decide +kernel
theorem dX5_perform_115 : decode cX5_perform 115 = .ok (.iconst 1, 1) := by decide +kernel
theorem dX5_perform_116 : decode cX5_perform 116 = .ok (.iaload, 1) := by decide +kernel
theorem dX5_perform_117 : decode cX5_perform 117 = .ok (.invokevirtual 86, 3) := by decide +kernel
theorem dX5_perform_120 : decode cX5_perform 120 = .ok (.goto 3, 3) := by decide +kernel
theorem dX5_perform_123 : decode cX5_perform 123 = .ok (.return_, 1) := by decide +kernel
theorem dX5_readInto_0 : decode cX5_readInto 0 = .ok (.aload_n 1, 1) := by decide +kernel
theorem dX5_readInto_1 : decode cX5_readInto 1 = .ok (.invokevirtual 31, 3) := by decide +kernel
theorem dX5_readInto_4 : decode cX5_readInto 4 = .ok (.aload_n 0, 1) := by decide +kernel
theorem dX5_readInto_5 : decode cX5_readInto 5 = .ok (.iconst 0, 1) := by decide +kernel
theorem dX5_readInto_6 : decode cX5_readInto 6 = .ok (.putfield 25, 3) := by decide +kernel
theorem dX5_readInto_9 : decode cX5_readInto 9 = .ok (.aload_n 0, 1) := by decide +kernel
theorem dX5_readInto_10 : decode cX5_readInto 10 = .ok (.invokevirtual 36, 3) := by decide +kernel
theorem dX5_readInto_13 : decode cX5_readInto 13 = .ok (.iconst 0, 1) := by decide +kernel
theorem dX5_readInto_14 : decode cX5_readInto 14 = .ok (.istore_n 2, 1) := by decide +kernel
theorem dX5_readInto_15 : decode cX5_readInto 15 = .ok (.iload_n 2, 1) := by decide +kernel
theorem dX5_readInto_16 : decode cX5_readInto 16 = .ok (.sipush 160, 3) := by decide +kernel
theorem dX5_readInto_19 : decode cX5_readInto 19 = .ok (.if_icmp .ge 29, 3) := by decide +kernel
theorem dX5_readInto_22 : decode cX5_readInto 22 = .ok (.aload_n 0, 1) := by decide +kernel
theorem dX5_readInto_23 : decode cX5_readInto 23 = .ok (.getfield 19, 3) := by decide +kernel
theorem dX5_readInto_26 : decode cX5_readInto 26 = .ok (.ifCond .eq 22, 3) := by decide +kernel
theorem dX5_readInto_29 : decode cX5_readInto 29 = .ok (.aload_n 0, 1) := by decide +kernel
theorem dX5_readInto_30 : decode cX5_readInto 30 = .ok (.aload_n 1, 1) := by decide +kernel
theorem dX5_readInto_31 : decode cX5_readInto 31 = .ok (.invokevirtual 39, 3) := by decide +kernel
theorem dX5_readInto_34 : decode cX5_readInto 34 = .ok (.ifCond .ne 8, 3) := by decide +kernel
theorem dX5_readInto_37 : decode cX5_readInto 37 = .ok (.aload_n 0, 1) := by decide +kernel
theorem dX5_readInto_38 : decode cX5_readInto 38 = .ok (.getfield 22, 3) := by decide +kernel
theorem dX5_readInto_41 : decode cX5_readInto 41 = .ok (.ireturn, 1) := by decide +kernel
theorem dX5_readInto_42 : decode cX5_readInto 42 = .ok (.iinc 2 1, 3) := by decide +kernel
theorem dX5_readInto_45 : decode cX5_readInto 45 = .ok (.goto (-30), 3) := by decide +kernel
theorem dX5_readInto_48 : decode cX5_readInto 48 = .ok (.iconst (-1), 1) := by decide +kernel
theorem dX5_readInto_49 : decode cX5_readInto 49 = .ok (.ireturn, 1) := by decide +kernel
theorem dX5_readStatement_0 : decode cX5_readStatement 0 = .ok (.aload_n 0, 1) := by decide +kernel
theorem dX5_readStatement_1 : decode cX5_readStatement 1 = .ok (.invokevirtual 43, 3) := by decide +kernel
theorem dX5_readStatement_4 : decode cX5_readStatement 4 = .ok (.istore_n 2, 1) := by decide +kernel
theorem dX5_readStatement_5 : decode cX5_readStatement 5 = .ok (.iload_n 2, 1) := by decide +kernel
theorem dX5_readStatement_6 : decode cX5_readStatement 6 = .ok (.iconst (-1), 1) := by decide +kernel
theorem dX5_readStatement_7 : decode cX5_readStatement 7 = .ok (.if_icmp .eq 12, 3) := by decide +kernel
theorem dX5_readStatement_10 : decode cX5_readStatement 10 = .ok (.aload_n 0, 1) := by decide +kernel
theorem dX5_readStatement_11 : decode cX5_readStatement 11 = .ok (.aload_n 1, 1) := by decide +kernel
theorem dX5_readStatement_12 : decode cX5_readStatement 12 = .ok (.iload_n 2, 1) := by decide +kernel
theorem dX5_readStatement_13 : decode cX5_readStatement 13 = .ok (.invokevirtual 47, 3) := by decide +kernel
theorem dX5_readStatement_16 : decode cX5_readStatement 16 = .ok (.ifCond .eq 5, 3) := by decide +kernel
theorem dX5_readStatement_19 : decode cX5_readStatement 19 = .ok (.iconst 0, 1) := by decide +kernel
theorem dX5_readStatement_20 : decode cX5_readStatement 20 = .ok (.ireturn, 1) := by decide +kernel
theorem dX5_readStatement_21 : decode cX5_readStatement 21 = .ok (.aload_n 0, 1) := by decide +kernel
theorem dX5_readStatement_22 : decode cX5_readStatement 22 = .ok (.invokevirtual 36, 3) := by decide +kernel
theorem dX5_readStatement_25 : decode cX5_readStatement 25 = .ok (.iload_n 2, 1) := by decide +kernel
theorem dX5_readStatement_26 : decode cX5_readStatement 26 = .ok (.iconst 1, 1) := by decide +kernel
theorem dX5_readStatement_27 : decode cX5_readStatement 27 = .ok (.if_icmp .ne 7, 3) := by decide +kernel
theorem dX5_readStatement_30 : decode cX5_readStatement 30 = .ok (.iconst 3, 1) := by decide +kernel
theorem dX5_readStatement_31 : decode cX5_readStatement 31 = .ok (.goto 4, 3) := by decide +kernel
theorem dX5_readStatement_34 : decode cX5_readStatement 34 = .ok (.iconst 2, 1) := by decide +kernel
theorem dX5_readStatement_35 : decode cX5_readStatement 35 = .ok (.istore_n 3, 1) := by decide +kernel
theorem dX5_readStatement_36 : decode cX5_readStatement 36 = .ok (.iconst 0, 1) := by decide +kernel
theorem dX5_readStatement_37 : decode cX5_readStatement 37 = .ok (.istore 4, 2) := by decide +kernel
theorem dX5_readStatement_39 : decode cX5_readStatement 39 = .ok (.iload 4, 2) := by decide +kernel
theorem dX5_readStatement_41 : decode cX5_readStatement 41 = .ok (.iload_n 3, 1) := by decide +kernel
theorem dX5_readStatement_42 : decode cX5_readStatement 42 = .ok (.if_icmp .ge 49, 3) := by decide +kernel
theorem dX5_readStatement_45 : decode cX5_readStatement 45 = .ok (.aload_n 0, 1) := by decide +kernel
theorem dX5_readStatement_46 : decode cX5_readStatement 46 = .ok (.invokevirtual 51, 3) := by decide +kernel
theorem dX5_readStatement_49 : decode cX5_readStatement 49 = .ok (.istore 5, 2) := by decide +kernel
theorem dX5_readStatement_51 : decode cX5_readStatement 51 = .ok (.iload 5, 2) := by decide +kernel
theorem dX5_readStatement_53 : decode cX5_readStatement 53 = .ok (.iconst (-1), 1) := by decide +kernel
theorem dX5_readStatement_54 : decode cX5_readStatement 54 = .ok (.if_icmp .eq 16, 3) := by decide +kernel
theorem dX5_readStatement_57 : decode cX5_readStatement 57 = .ok (.aload_n 0, 1) := by decide +kernel
theorem dX5_readStatement_58 : decode cX5_readStatement 58 = .ok (.aload_n 1, 1) := by decide +kernel
theorem dX5_readStatement_59 : decode cX5_readStatement 59 = .ok (.iload_n 2, 1) := by decide +kernel
theorem dX5_readStatement_60 : decode cX5_readStatement 60 = .ok (.iload 4, 2) := by decide +kernel
theorem dX5_readStatement_62 : decode cX5_readStatement 62 = .ok (.iload 5, 2) := by decide +kernel
theorem dX5_readStatement_64 : decode cX5_readStatement 64 = .ok (.invokevirtual 54, 3) := by decide +kernel
theorem dX5_readStatement_67 : decode cX5_readStatement 67 = .ok (.ifCond .ne 5, 3) := by decide +kernel
theorem dX5_readStatement_70 : decode cX5_readStatement 70 = .ok (.iconst 0, 1) := by decide +kernel
theorem dX5_readStatement_71 : decode cX5_readStatement 71 = .ok (.ireturn, 1) := by decide +kernel
theorem dX5_readStatement_72 : decode cX5_readStatement 72 = .ok (.aload_n 0, 1) := by decide +kernel
theorem dX5_readStatement_73 : decode cX5_readStatement 73 = .ok (.getfield 28, 3) := by decide +kernel
theorem dX5_readStatement_76 : decode cX5_readStatement 76 = .ok (.iload 4, 2) := by decide +kernel
theorem dX5_readStatement_78 : decode cX5_readStatement 78 = .ok (.iload 5, 2) := by decide +kernel
theorem dX5_readStatement_80 : decode cX5_readStatement 80 = .ok (.iastore, 1) := by decide +kernel
theorem dX5_readStatement_81 : decode cX5_readStatement 81 = .ok (.aload_n 0, 1) := by decide +kernel
theorem dX5_readStatement_82 : decode cX5_readStatement 82 = .ok (.invokevirtual 36, 3) := by decide +kernel
theorem dX5_readStatement_85 : decode cX5_readStatement 85 = .ok (.iinc 4 1, 3) := by decide +kernel
theorem dX5_readStatement_88 : decode cX5_readStatement 88 = .ok (.goto (-49), 3) := by decide +kernel
theorem dX5_readStatement_91 : decode cX5_readStatement 91 = .ok (.aload_n 0, 1) := by decide +kernel
theorem dX5_readStatement_92 : decode cX5_readStatement 92 = .ok (.getfield 19, 3) := by decide +kernel
theorem dX5_readStatement_95 : decode cX5_readStatement 95 = .ok (.iconst 3, 1) := by decide +kernel
theorem dX5_readStatement_96 : decode cX5_readStatement 96 = .ok (.if_icmp .eq 5, 3) := by decide +kernel
theorem dX5_readStatement_99 : decode cX5_readStatement 99 = .ok (.iconst 0, 1) := by decide +kernel
theorem dX5_readStatement_100 : decode cX5_readStatement 100 = .ok (.ireturn, 1) := by decide +kernel
theorem dX5_readStatement_101 : decode cX5_readStatement 101 = .ok (.aload_n 0, 1) := by decide +kernel
theorem dX5_readStatement_102 : decode cX5_readStatement 102 = .ok (.invokevirtual 36, 3) := by decide +kernel
theorem dX5_readStatement_105 : decode cX5_readStatement 105 = .ok (.aload_n 0, 1) := by decide +kernel
theorem dX5_readStatement_106 : decode cX5_readStatement 106 = .ok (.aload_n 1, 1) := by decide +kernel
theorem dX5_readStatement_107 : decode cX5_readStatement 107 = .ok (.iload_n 2, 1) := by decide +kernel
theorem dX5_readStatement_108 : decode cX5_readStatement 108 = .ok (.invokevirtual 58, 3) := by decide +kernel
theorem dX5_readStatement_111 : decode cX5_readStatement 111 = .ok (.iconst 1, 1) := by decide +kernel
theorem dX5_readStatement_112 : decode cX5_readStatement 112 = .ok (.ireturn, 1) := by decide +kernel
theorem dX5_tokenIs_0 : decode cX5_tokenIs 0 = .ok (.aload_n 0, 1) := by decide +kernel
theorem dX5_tokenIs_1 : decode cX5_tokenIs 1 = .ok (.getfield 25, 3) := by decide +kernel
theorem dX5_tokenIs_4 : decode cX5_tokenIs 4 = .ok (.aload_n 0, 1) := by decide +kernel
theorem dX5_tokenIs_5 : decode cX5_tokenIs 5 = .ok (.getfield 22, 3) := by decide +kernel
theorem dX5_tokenIs_8 : decode cX5_tokenIs 8 = .ok (.isub, 1) := by decide +kernel
theorem dX5_tokenIs_9 : decode cX5_tokenIs 9 = .ok (.aload_n 1, 1) := by decide +kernel
theorem dX5_tokenIs_10 : decode cX5_tokenIs 10 = .ok (.invokevirtual 104, 3) := by decide +kernel
theorem dX5_tokenIs_13 : decode cX5_tokenIs 13 = .ok (.if_icmp .eq 5, 3) := by decide +kernel
theorem dX5_tokenIs_16 : decode cX5_tokenIs 16 = .ok (.iconst 0, 1) := by decide +kernel
theorem dX5_tokenIs_17 : decode cX5_tokenIs 17 = .ok (.ireturn, 1) := by decide +kernel
theorem dX5_tokenIs_18 : decode cX5_tokenIs 18 = .ok (.iconst 0, 1) := by decide +kernel
theorem dX5_tokenIs_19 : decode cX5_tokenIs 19 = .ok (.istore_n 2, 1) := by decide +kernel
theorem dX5_tokenIs_20 : decode cX5_tokenIs 20 = .ok (.iload_n 2, 1) := by decide +kernel
theorem dX5_tokenIs_21 : decode cX5_tokenIs 21 = .ok (.aload_n 1, 1) := by decide +kernel
theorem dX5_tokenIs_22 : decode cX5_tokenIs 22 = .ok (.invokevirtual 104, 3) := by decide +kernel
theorem dX5_tokenIs_25 : decode cX5_tokenIs 25 = .ok (.if_icmp .ge 30, 3) := by decide +kernel
theorem dX5_tokenIs_28 : decode cX5_tokenIs 28 = .ok (.aload_n 0, 1) := by decide +kernel
theorem dX5_tokenIs_29 : decode cX5_tokenIs 29 = .ok (.getfield 9, 3) := by decide +kernel
theorem dX5_tokenIs_32 : decode cX5_tokenIs 32 = .ok (.aload_n 0, 1) := by decide +kernel
theorem dX5_tokenIs_33 : decode cX5_tokenIs 33 = .ok (.getfield 22, 3) := by decide +kernel
theorem dX5_tokenIs_36 : decode cX5_tokenIs 36 = .ok (.iload_n 2, 1) := by decide +kernel
theorem dX5_tokenIs_37 : decode cX5_tokenIs 37 = .ok (.iadd, 1) := by decide +kernel
theorem dX5_tokenIs_38 : decode cX5_tokenIs 38 = .ok (.iaload, 1) := by decide +kernel
theorem dX5_tokenIs_39 : decode cX5_tokenIs 39 = .ok (.aload_n 1, 1) := by decide +kernel
theorem dX5_tokenIs_40 : decode cX5_tokenIs 40 = .ok (.iload_n 2, 1) := by decide +kernel
theorem dX5_tokenIs_41 : decode cX5_tokenIs 41 = .ok (.invokevirtual 108, 3) := by decide +kernel
theorem dX5_tokenIs_44 : decode cX5_tokenIs 44 = .ok (.if_icmp .eq 5, 3) := by decide +kernel
theorem dX5_tokenIs_47 : decode cX5_tokenIs 47 = .ok (.iconst 0, 1) := by decide +kernel
theorem dX5_tokenIs_48 : decode cX5_tokenIs 48 = .ok (.ireturn, 1) := by decide +kernel
theorem dX5_tokenIs_49 : decode cX5_tokenIs 49 = .ok (.iinc 2 1, 3) := by decide +kernel
theorem dX5_tokenIs_52 : decode cX5_tokenIs 52 = .ok (.goto (-32), 3) := by decide +kernel
theorem dX5_tokenIs_55 : decode cX5_tokenIs 55 = .ok (.iconst 1, 1) := by decide +kernel
theorem dX5_tokenIs_56 : decode cX5_tokenIs 56 = .ok (.ireturn, 1) := by decide +kernel
theorem dX5_typeOf_0 : decode cX5_typeOf 0 = .ok (.iload_n 0, 1) := by decide +kernel
theorem dX5_typeOf_1 : decode cX5_typeOf 1 = .ok (.bipush 97, 2) := by decide +kernel
theorem dX5_typeOf_3 : decode cX5_typeOf 3 = .ok (.if_icmp .lt 11, 3) := by decide +kernel
theorem dX5_typeOf_6 : decode cX5_typeOf 6 = .ok (.iload_n 0, 1) := by decide +kernel
theorem dX5_typeOf_7 : decode cX5_typeOf 7 = .ok (.bipush 122, 2) := by decide +kernel
theorem dX5_typeOf_9 : decode cX5_typeOf 9 = .ok (.if_icmp .gt 5, 3) := by decide +kernel
theorem dX5_typeOf_12 : decode cX5_typeOf 12 = .ok (.iconst 1, 1) := by decide +kernel
theorem dX5_typeOf_13 : decode cX5_typeOf 13 = .ok (.ireturn, 1) := by decide +kernel
theorem dX5_typeOf_14 : decode cX5_typeOf 14 = .ok (.iload_n 0, 1) := by decide +kernel
theorem dX5_typeOf_15 : decode cX5_typeOf 15 = .ok (.bipush 48, 2) := by decide +kernel
theorem dX5_typeOf_17 : decode cX5_typeOf 17 = .ok (.if_icmp .lt 11, 3) := by decide +kernel
theorem dX5_typeOf_20 : decode cX5_typeOf 20 = .ok (.iload_n 0, 1) := by decide +kernel
theorem dX5_typeOf_21 : decode cX5_typeOf 21 = .ok (.bipush 57, 2) := by decide +kernel
theorem dX5_typeOf_23 : decode cX5_typeOf 23 = .ok (.if_icmp .gt 5, 3) := by decide +kernel
theorem dX5_typeOf_26 : decode cX5_typeOf 26 = .ok (.iconst 2, 1) := by decide +kernel
theorem dX5_typeOf_27 : decode cX5_typeOf 27 = .ok (.ireturn, 1) := by decide +kernel
theorem dX5_typeOf_28 : decode cX5_typeOf 28 = .ok (.iload_n 0, 1) := by decide +kernel
theorem dX5_typeOf_29 : decode cX5_typeOf 29 = .ok (.bipush 59, 2) := by decide +kernel
theorem dX5_typeOf_31 : decode cX5_typeOf 31 = .ok (.if_icmp .ne 7, 3) := by decide +kernel
theorem dX5_typeOf_34 : decode cX5_typeOf 34 = .ok (.iconst 3, 1) := by decide +kernel
theorem dX5_typeOf_35 : decode cX5_typeOf 35 = .ok (.goto 4, 3) := by decide +kernel
theorem dX5_typeOf_38 : decode cX5_typeOf 38 = .ok (.iconst 4, 1) := by decide +kernel
theorem dX5_typeOf_39 : decode cX5_typeOf 39 = .ok (.ireturn, 1) := by decide +kernel
theorem dX6_addReference_0 : decode cX6_addReference 0 = .ok (.aload_n 0, 1) := by decide +kernel
theorem dX6_addReference_1 : decode cX6_addReference 1 = .ok (.getfield 19, 3) := by decide +kernel
theorem dX6_addReference_4 : decode cX6_addReference 4 = .ok (.iload_n 1, 1) := by decide +kernel
theorem dX6_addReference_5 : decode cX6_addReference 5 = .ok (.invokevirtual 102, 3) := by decide +kernel
theorem dX6_addReference_8 : decode cX6_addReference 8 = .ok (.ifCond .eq 14, 3) := by decide +kernel
theorem dX6_addReference_11 : decode cX6_addReference 11 = .ok (.aload_n 0, 1) := by decide +kernel
theorem dX6_addReference_12 : decode cX6_addReference 12 = .ok (.getfield 19, 3) := by decide +kernel
theorem dX6_addReference_15 : decode cX6_addReference 15 = .ok (.iload_n 2, 1) := by decide +kernel
theorem dX6_addReference_16 : decode cX6_addReference 16 = .ok (.invokevirtual 86, 3) := by decide +kernel
theorem dX6_addReference_19 : decode cX6_addReference 19 = .ok (.ifCond .ne 5, 3) := by decide +kernel
theorem dX6_addReference_22 : decode cX6_addReference 22 = .ok (.iconst (-1), 1) := by decide +kernel
theorem dX6_addReference_23 : decode cX6_addReference 23 = .ok (.ireturn, 1) := by decide +kernel
theorem dX6_addReference_24 : decode cX6_addReference 24 = .ok (.aload_n 0, 1) := by decide +kernel
theorem dX6_addReference_25 : decode cX6_addReference 25 = .ok (.getfield 19, 3) := by decide +kernel
theorem dX6_addReference_28 : decode cX6_addReference 28 = .ok (.iload_n 1, 1) := by decide +kernel
theorem dX6_addReference_29 : decode cX6_addReference 29 = .ok (.iload_n 2, 1) := by decide +kernel
theorem dX6_addReference_30 : decode cX6_addReference 30 = .ok (.invokevirtual 105, 3) := by decide +kernel
theorem dX6_addReference_33 : decode cX6_addReference 33 = .ok (.ifCond .eq 6, 3) := by decide +kernel
theorem dX6_addReference_36 : decode cX6_addReference 36 = .ok (.bipush (-2), 2) := by decide +kernel
theorem dX6_addReference_38 : decode cX6_addReference 38 = .ok (.ireturn, 1) := by decide +kernel
theorem dX6_addReference_39 : decode cX6_addReference 39 = .ok (.aload_n 0, 1) := by decide +kernel
theorem dX6_addReference_40 : decode cX6_addReference 40 = .ok (.getfield 19, 3) := by decide +kernel
theorem dX6_addReference_43 : decode cX6_addReference 43 = .ok (.getfield 109, 3) := by decide +kernel
theorem dX6_addReference_46 : decode cX6_addReference 46 = .ok (.bipush 10, 2) := by decide +kernel
theorem dX6_addReference_48 : decode cX6_addReference 48 = .ok (.if_icmp .lt 6, 3) := by decide +kernel
theorem dX6_addReference_51 : decode cX6_addReference 51 = .ok (.bipush (-3), 2) := by decide +kernel
theorem dX6_addReference_53 : decode cX6_addReference 53 = .ok (.ireturn, 1) := by decide +kernel
theorem dX6_addReference_54 : decode cX6_addReference 54 = .ok (.aload_n 0, 1) := by decide +kernel
theorem dX6_addReference_55 : decode cX6_addReference 55 = .ok (.invokevirtual 73, 3) := by decide +kernel
theorem dX6_addReference_58 : decode cX6_addReference 58 = .ok (.aload_n 0, 1) := by decide +kernel
theorem dX6_addReference_59 : decode cX6_addReference 59 = .ok (.getfield 19, 3) := by decide +kernel
theorem dX6_addReference_62 : decode cX6_addReference 62 = .ok (.iload_n 1, 1) := by decide +kernel
theorem dX6_addReference_63 : decode cX6_addReference 63 = .ok (.iload_n 2, 1) := by decide +kernel
theorem dX6_addReference_64 : decode cX6_addReference 64 = .ok (.invokevirtual 112, 3) := by decide +kernel
theorem dX6_addReference_67 : decode cX6_addReference 67 = .ok (.aload_n 0, 1) := by decide +kernel
theorem dX6_addReference_68 : decode cX6_addReference 68 = .ok (.getfield 19, 3) := by decide +kernel
theorem dX6_addReference_71 : decode cX6_addReference 71 = .ok (.invokevirtual 80, 3) := by decide +kernel
theorem dX6_addReference_74 : decode cX6_addReference 74 = .ok (.aload_n 0, 1) := by decide +kernel
theorem dX6_addReference_75 : decode cX6_addReference 75 = .ok (.getfield 19, 3) := by decide +kernel
theorem dX6_addReference_78 : decode cX6_addReference 78 = .ok (.getfield 109, 3) := by decide +kernel
theorem dX6_addReference_81 : decode cX6_addReference 81 = .ok (.ireturn, 1) := by decide +kernel
theorem dX6_append_0 : decode cX6_append 0 = .ok (.iload_n 1, 1) := by decide +kernel
theorem dX6_append_1 : decode cX6_append 1 = .ok (.ifCond .lt 10, 3) := by decide +kernel
theorem dX6_append_4 : decode cX6_append 4 = .ok (.iload_n 1, 1) := by decide +kernel
theorem dX6_append_5 : decode cX6_append 5 = .ok (.sipush 255, 3) := by decide +kernel
theorem dX6_append_8 : decode cX6_append 8 = .ok (.if_icmp .le 5, 3) := by decide +kernel
theorem dX6_append_11 : decode cX6_append 11 = .ok (.iconst (-1), 1) := by decide +kernel
theorem dX6_append_12 : decode cX6_append 12 = .ok (.ireturn, 1) := by decide +kernel
theorem dX6_append_13 : decode cX6_append 13 = .ok (.aload_n 0, 1) := by decide +kernel
theorem dX6_append_14 : decode cX6_append 14 = .ok (.getfield 12, 3) := by decide +kernel
theorem dX6_append_17 : decode cX6_append 17 = .ok (.getfield 61, 3) := by decide +kernel
theorem dX6_append_20 : decode cX6_append 20 = .ok (.sipush 160, 3) := by decide +kernel
theorem dX6_append_23 : decode cX6_append 23 = .ok (.if_icmp .lt 6, 3) := by decide +kernel
theorem dX6_append_26 : decode cX6_append 26 = .ok (.bipush (-3), 2) := by decide +kernel
theorem dX6_append_28 : decode cX6_append 28 = .ok (.ireturn, 1) := by decide +kernel
theorem dX6_append_29 : decode cX6_append 29 = .ok (.aload_n 0, 1) := by decide +kernel
theorem dX6_append_30 : decode cX6_append 30 = .ok (.getfield 12, 3) := by decide +kernel
theorem dX6_append_33 : decode cX6_append 33 = .ok (.getfield 65, 3) := by decide +kernel
theorem dX6_append_36 : decode cX6_append 36 = .ok (.aload_n 0, 1) := by decide +kernel
theorem dX6_append_37 : decode cX6_append 37 = .ok (.getfield 12, 3) := by decide +kernel
theorem dX6_append_40 : decode cX6_append 40 = .ok (.getfield 61, 3) := by decide +kernel
theorem dX6_append_43 : decode cX6_append 43 = .ok (.iload_n 1, 1) := by decide +kernel
theorem dX6_append_44 : decode cX6_append 44 = .ok (.iastore, 1) := by decide +kernel
theorem dX6_append_45 : decode cX6_append 45 = .ok (.aload_n 0, 1) := by decide +kernel
theorem dX6_append_46 : decode cX6_append 46 = .ok (.getfield 12, 3) := by decide +kernel
theorem dX6_append_49 : decode cX6_append 49 = .ok (.dup, 1) := by decide +kernel
theorem dX6_append_50 : decode cX6_append 50 = .ok (.getfield 61, 3) := by decide +kernel
theorem dX6_append_53 : decode cX6_append 53 = .ok (.iconst 1, 1) := by decide +kernel
theorem dX6_append_54 : decode cX6_append 54 = .ok (.iadd, 1) := by decide +kernel
theorem dX6_append_55 : decode cX6_append 55 = .ok (.putfield 61, 3) := by decide +kernel
theorem dX6_append_58 : decode cX6_append 58 = .ok (.aload_n 0, 1) := by decide +kernel
theorem dX6_append_59 : decode cX6_append 59 = .ok (.getfield 12, 3) := by decide +kernel
theorem dX6_append_62 : decode cX6_append 62 = .ok (.getfield 61, 3) := by decide +kernel
theorem dX6_append_65 : decode cX6_append 65 = .ok (.ireturn, 1) := by decide +kernel
theorem dX6_behaviour_0 : decode cX6_behaviour 0 = .ok (.aload_n 0, 1) := by decide +kernel
theorem dX6_behaviour_1 : decode cX6_behaviour 1 = .ok (.getfield 19, 3) := by decide +kernel
theorem dX6_behaviour_4 : decode cX6_behaviour 4 = .ok (.iload_n 1, 1) := by decide +kernel
theorem dX6_behaviour_5 : decode cX6_behaviour 5 = .ok (.invokevirtual 93, 3) := by decide +kernel
theorem dX6_behaviour_8 : decode cX6_behaviour 8 = .ok (.ifCond .eq 15, 3) := by decide +kernel
theorem dX6_behaviour_11 : decode cX6_behaviour 11 = .ok (.aload_n 0, 1) := by decide +kernel
theorem dX6_behaviour_12 : decode cX6_behaviour 12 = .ok (.getfield 19, 3) := by decide +kernel
theorem dX6_behaviour_15 : decode cX6_behaviour 15 = .ok (.getfield 96, 3) := by decide +kernel
theorem dX6_behaviour_18 : decode cX6_behaviour 18 = .ok (.iload_n 1, 1) := by decide +kernel
theorem dX6_behaviour_19 : decode cX6_behaviour 19 = .ok (.iaload, 1) := by decide +kernel
theorem dX6_behaviour_20 : decode cX6_behaviour 20 = .ok (.goto 4, 3) := by decide +kernel
theorem dX6_behaviour_23 : decode cX6_behaviour 23 = .ok (.iconst (-1), 1) := by decide +kernel
theorem dX6_behaviour_24 : decode cX6_behaviour 24 = .ok (.ireturn, 1) := by decide +kernel
theorem dX6_bit_0 : decode cX6_bit 0 = .ok (.iconst 1, 1) := by decide +kernel
theorem dX6_bit_1 : decode cX6_bit 1 = .ok (.iload_n 0, 1) := by decide +kernel
theorem dX6_bit_2 : decode cX6_bit 2 = .ok (.ishl, 1) := by decide +kernel
theorem dX6_bit_3 : decode cX6_bit 3 = .ok (.ireturn, 1) := by decide +kernel
theorem dX6_clearText_0 : decode cX6_clearText 0 = .ok (.aload_n 0, 1) := by decide +kernel
theorem dX6_clearText_1 : decode cX6_clearText 1 = .ok (.getfield 12, 3) := by decide +kernel
theorem dX6_clearText_4 : decode cX6_clearText 4 = .ok (.getfield 61, 3) := by decide +kernel
theorem dX6_clearText_7 : decode cX6_clearText 7 = .ok (.istore_n 1, 1) := by decide +kernel
theorem dX6_clearText_8 : decode cX6_clearText 8 = .ok (.aload_n 0, 1) := by decide +kernel
theorem dX6_clearText_9 : decode cX6_clearText 9 = .ok (.getfield 12, 3) := by decide +kernel
theorem dX6_clearText_12 : decode cX6_clearText 12 = .ok (.iconst 0, 1) := by decide +kernel
theorem dX6_clearText_13 : decode cX6_clearText 13 = .ok (.putfield 61, 3) := by decide +kernel
theorem dX6_clearText_16 : decode cX6_clearText 16 = .ok (.iload_n 1, 1) := by decide +kernel
theorem dX6_clearText_17 : decode cX6_clearText 17 = .ok (.ireturn, 1) := by decide +kernel
theorem dX6_coarselyMayHold_0 : decode cX6_coarselyMayHold 0 = .ok (.aload_n 0, 1) := by decide +kernel
theorem dX6_coarselyMayHold_1 : decode cX6_coarselyMayHold 1 = .ok (.getfield 19, 3) := by decide +kernel
theorem dX6_coarselyMayHold_4 : decode cX6_coarselyMayHold 4 = .ok (.iload_n 1, 1) := by decide +kernel
theorem dX6_coarselyMayHold_5 : decode cX6_coarselyMayHold 5 = .ok (.iload_n 2, 1) := by decide +kernel
theorem dX6_coarselyMayHold_6 : decode cX6_coarselyMayHold 6 = .ok (.invokevirtual 120, 3) := by decide +kernel
theorem dX6_coarselyMayHold_9 : decode cX6_coarselyMayHold 9 = .ok (.ifCond .ne 5, 3) := by decide +kernel
theorem dX6_coarselyMayHold_12 : decode cX6_coarselyMayHold 12 = .ok (.iconst (-1), 1) := by decide +kernel
theorem dX6_coarselyMayHold_13 : decode cX6_coarselyMayHold 13 = .ok (.ireturn, 1) := by decide +kernel
theorem dX6_coarselyMayHold_14 : decode cX6_coarselyMayHold 14 = .ok (.aload_n 0, 1) := by decide +kernel
theorem dX6_coarselyMayHold_15 : decode cX6_coarselyMayHold 15 = .ok (.invokevirtual 123, 3) := by decide +kernel
theorem dX6_coarselyMayHold_18 : decode cX6_coarselyMayHold 18 = .ok (.aload_n 0, 1) := by decide +kernel
theorem dX6_coarselyMayHold_19 : decode cX6_coarselyMayHold 19 = .ok (.getfield 50, 3) := by decide +kernel
theorem dX6_coarselyMayHold_22 : decode cX6_coarselyMayHold 22 = .ok (.getfield 152, 3) := by decide +kernel
theorem dX6_coarselyMayHold_25 : decode cX6_coarselyMayHold 25 = .ok (.iload_n 1, 1) := by decide +kernel
theorem dX6_coarselyMayHold_26 : decode cX6_coarselyMayHold 26 = .ok (.iaload, 1) := by decide +kernel
theorem dX6_coarselyMayHold_27 : decode cX6_coarselyMayHold 27 = .ok (.iload_n 2, 1) := by decide +kernel
theorem dX6_coarselyMayHold_28 : decode cX6_coarselyMayHold 28 = .ok (.invokestatic 129, 3) := by decide +kernel
theorem dX6_coarselyMayHold_31 : decode cX6_coarselyMayHold 31 = .ok (.ifCond .eq 7, 3) := by decide +kernel
theorem dX6_coarselyMayHold_34 : decode cX6_coarselyMayHold 34 = .ok (.iconst 1, 1) := by decide +kernel
theorem dX6_coarselyMayHold_35 : decode cX6_coarselyMayHold 35 = .ok (.goto 4, 3) := by decide +kernel
theorem dX6_coarselyMayHold_38 : decode cX6_coarselyMayHold 38 = .ok (.iconst 0, 1) := by decide +kernel
theorem dX6_coarselyMayHold_39 : decode cX6_coarselyMayHold 39 = .ok (.ireturn, 1) := by decide +kernel
theorem dX6_contains_0 : decode cX6_contains 0 = .ok (.iload_n 0, 1) := by decide +kernel
theorem dX6_contains_1 : decode cX6_contains 1 = .ok (.iload_n 1, 1) := by decide +kernel
theorem dX6_contains_2 : decode cX6_contains 2 = .ok (.ishr, 1) := by decide +kernel
theorem dX6_contains_3 : decode cX6_contains 3 = .ok (.iconst 1, 1) := by decide +kernel
theorem dX6_contains_4 : decode cX6_contains 4 = .ok (.iand, 1) := by decide +kernel
theorem dX6_contains_5 : decode cX6_contains 5 = .ok (.ifCond .eq 7, 3) := by decide +kernel
theorem dX6_contains_8 : decode cX6_contains 8 = .ok (.iconst 1, 1) := by decide +kernel
theorem dX6_contains_9 : decode cX6_contains 9 = .ok (.goto 4, 3) := by decide +kernel
theorem dX6_contains_12 : decode cX6_contains 12 = .ok (.iconst 0, 1) := by decide +kernel
theorem dX6_contains_13 : decode cX6_contains 13 = .ok (.ireturn, 1) := by decide +kernel
theorem dX6_create_0 : decode cX6_create 0 = .ok (.aload_n 0, 1) := by decide +kernel
theorem dX6_create_1 : decode cX6_create 1 = .ok (.getfield 19, 3) := by decide +kernel
theorem dX6_create_4 : decode cX6_create 4 = .ok (.iload_n 1, 1) := by decide +kernel
theorem dX6_create_5 : decode cX6_create 5 = .ok (.iconst 2, 1) := by decide +kernel
theorem dX6_create_6 : decode cX6_create 6 = .ok (.invokevirtual 180, 3) := by decide +kernel
theorem dX6_create_9 : decode cX6_create 9 = .ok (.ifCond .eq 15, 3) := by decide +kernel
theorem dX6_create_12 : decode cX6_create 12 = .ok (.aload_n 0, 1) := by decide +kernel
theorem dX6_create_13 : decode cX6_create 13 = .ok (.getfield 19, 3) := by decide +kernel
theorem dX6_create_16 : decode cX6_create 16 = .ok (.iload_n 2, 1) := by decide +kernel
theorem dX6_create_17 : decode cX6_create 17 = .ok (.iconst 3, 1) := by decide +kernel
theorem dX6_create_18 : decode cX6_create 18 = .ok (.invokevirtual 198, 3) := by decide +kernel
theorem dX6_create_21 : decode cX6_create 21 = .ok (.ifCond .ne 5, 3) := by decide +kernel
theorem dX6_create_24 : decode cX6_create 24 = .ok (.iconst (-1), 1) := by decide +kernel
theorem dX6_create_25 : decode cX6_create 25 = .ok (.ireturn, 1) := by decide +kernel
theorem dX6_create_26 : decode cX6_create 26 = .ok (.aload_n 0, 1) := by decide +kernel
theorem dX6_create_27 : decode cX6_create 27 = .ok (.getfield 19, 3) := by decide +kernel
theorem dX6_create_30 : decode cX6_create 30 = .ok (.iload_n 1, 1) := by decide +kernel
theorem dX6_create_31 : decode cX6_create 31 = .ok (.iload_n 2, 1) := by decide +kernel
theorem dX6_create_32 : decode cX6_create 32 = .ok (.invokevirtual 183, 3) := by decide +kernel
theorem dX6_create_35 : decode cX6_create 35 = .ok (.ifCond .ne 6, 3) := by decide +kernel
theorem dX6_create_38 : decode cX6_create 38 = .ok (.bipush (-2), 2) := by decide +kernel
theorem dX6_create_40 : decode cX6_create 40 = .ok (.ireturn, 1) := by decide +kernel
theorem dX6_create_41 : decode cX6_create 41 = .ok (.aload_n 0, 1) := by decide +kernel
theorem dX6_create_42 : decode cX6_create 42 = .ok (.invokevirtual 73, 3) := by decide +kernel
theorem dX6_create_45 : decode cX6_create 45 = .ok (.aload_n 0, 1) := by decide +kernel
theorem dX6_create_46 : decode cX6_create 46 = .ok (.getfield 19, 3) := by decide +kernel
theorem dX6_create_49 : decode cX6_create 49 = .ok (.getfield 195, 3) := by decide +kernel
theorem dX6_create_52 : decode cX6_create 52 = .ok (.iload_n 2, 1) := by decide +kernel
theorem dX6_create_53 : decode cX6_create 53 = .ok (.iaload, 1) := by decide +kernel
theorem dX6_create_54 : decode cX6_create 54 = .ok (.istore_n 3, 1) := by decide +kernel
theorem dX6_create_55 : decode cX6_create 55 = .ok (.aload_n 0, 1) := by decide +kernel
theorem dX6_create_56 : decode cX6_create 56 = .ok (.getfield 19, 3) := by decide +kernel
theorem dX6_create_59 : decode cX6_create 59 = .ok (.iload_n 1, 1) := by decide +kernel
theorem dX6_create_60 : decode cX6_create 60 = .ok (.iload_n 3, 1) := by decide +kernel
theorem dX6_create_61 : decode cX6_create 61 = .ok (.invokestatic 186, 3) := by decide +kernel
theorem dX6_create_64 : decode cX6_create 64 = .ok (.invokevirtual 189, 3) := by decide +kernel
theorem dX6_create_67 : decode cX6_create 67 = .ok (.istore 4, 2) := by decide +kernel
theorem dX6_create_69 : decode cX6_create 69 = .ok (.aload_n 0, 1) := by decide +kernel
theorem dX6_create_70 : decode cX6_create 70 = .ok (.getfield 19, 3) := by decide +kernel
theorem dX6_create_73 : decode cX6_create 73 = .ok (.iload_n 3, 1) := by decide +kernel
theorem dX6_create_74 : decode cX6_create 74 = .ok (.aload_n 0, 1) := by decide +kernel
theorem dX6_create_75 : decode cX6_create 75 = .ok (.getfield 19, 3) := by decide +kernel
theorem dX6_create_78 : decode cX6_create 78 = .ok (.getfield 201, 3) := by decide +kernel
theorem dX6_create_81 : decode cX6_create 81 = .ok (.iload_n 2, 1) := by decide +kernel
theorem dX6_create_82 : decode cX6_create 82 = .ok (.iaload, 1) := by decide +kernel
theorem dX6_create_83 : decode cX6_create 83 = .ok (.invokevirtual 189, 3) := by decide +kernel
theorem dX6_create_86 : decode cX6_create 86 = .ok (.istore 5, 2) := by decide +kernel
theorem dX6_create_88 : decode cX6_create 88 = .ok (.iload 4, 2) := by decide +kernel
theorem dX6_create_90 : decode cX6_create 90 = .ok (.iload 5, 2) := by decide +kernel
theorem dX6_create_92 : decode cX6_create 92 = .ok (.iadd, 1) := by decide +kernel
theorem dX6_create_93 : decode cX6_create 93 = .ok (.ireturn, 1) := by decide +kernel
theorem dX6_derivationSize_0 : decode cX6_derivationSize 0 = .ok (.aload_n 0, 1) := by decide +kernel
theorem dX6_derivationSize_1 : decode cX6_derivationSize 1 = .ok (.getfield 19, 3) := by decide +kernel
theorem dX6_derivationSize_4 : decode cX6_derivationSize 4 = .ok (.iload_n 1, 1) := by decide +kernel
theorem dX6_derivationSize_5 : decode cX6_derivationSize 5 = .ok (.iload_n 2, 1) := by decide +kernel
theorem dX6_derivationSize_6 : decode cX6_derivationSize 6 = .ok (.invokevirtual 120, 3) := by decide +kernel
theorem dX6_derivationSize_9 : decode cX6_derivationSize 9 = .ok (.ifCond .ne 5, 3) := by decide +kernel
theorem dX6_derivationSize_12 : decode cX6_derivationSize 12 = .ok (.iconst (-1), 1) := by decide +kernel
theorem dX6_derivationSize_13 : decode cX6_derivationSize 13 = .ok (.ireturn, 1) := by decide +kernel
theorem dX6_derivationSize_14 : decode cX6_derivationSize 14 = .ok (.aload_n 0, 1) := by decide +kernel
theorem dX6_derivationSize_15 : decode cX6_derivationSize 15 = .ok (.invokevirtual 123, 3) := by decide +kernel
theorem dX6_derivationSize_18 : decode cX6_derivationSize 18 = .ok (.aload_n 0, 1) := by decide +kernel
theorem dX6_derivationSize_19 : decode cX6_derivationSize 19 = .ok (.getfield 43, 3) := by decide +kernel
theorem dX6_derivationSize_22 : decode cX6_derivationSize 22 = .ok (.getfield 126, 3) := by decide +kernel
theorem dX6_derivationSize_25 : decode cX6_derivationSize 25 = .ok (.iload_n 1, 1) := by decide +kernel
theorem dX6_derivationSize_26 : decode cX6_derivationSize 26 = .ok (.iaload, 1) := by decide +kernel
theorem dX6_derivationSize_27 : decode cX6_derivationSize 27 = .ok (.iload_n 2, 1) := by decide +kernel
theorem dX6_derivationSize_28 : decode cX6_derivationSize 28 = .ok (.invokestatic 129, 3) := by decide +kernel
theorem dX6_derivationSize_31 : decode cX6_derivationSize 31 = .ok (.ifCond .ne 6, 3) := by decide +kernel
theorem dX6_derivationSize_34 : decode cX6_derivationSize 34 = .ok (.bipush (-9), 2) := by decide +kernel
theorem dX6_derivationSize_36 : decode cX6_derivationSize 36 = .ok (.ireturn, 1) := by decide +kernel
theorem dX6_derivationSize_37 : decode cX6_derivationSize 37 = .ok (.aload_n 0, 1) := by decide +kernel
theorem dX6_derivationSize_38 : decode cX6_derivationSize 38 = .ok (.getfield 43, 3) := by decide +kernel
theorem dX6_derivationSize_41 : decode cX6_derivationSize 41 = .ok (.iload_n 1, 1) := by decide +kernel
theorem dX6_derivationSize_42 : decode cX6_derivationSize 42 = .ok (.iload_n 2, 1) := by decide +kernel
theorem dX6_derivationSize_43 : decode cX6_derivationSize 43 = .ok (.invokestatic 135, 3) := by decide +kernel
theorem dX6_derivationSize_46 : decode cX6_derivationSize 46 = .ok (.invokevirtual 145, 3) := by decide +kernel
theorem dX6_derivationSize_49 : decode cX6_derivationSize 49 = .ok (.ireturn, 1) := by decide +kernel
theorem dX6_findNeeded_0 : decode cX6_findNeeded 0 = .ok (.iconst 0, 1) := by decide +kernel
theorem dX6_findNeeded_1 : decode cX6_findNeeded 1 = .ok (.istore_n 2, 1) := by decide +kernel
theorem dX6_findNeeded_2 : decode cX6_findNeeded 2 = .ok (.iconst 0, 1) := by decide +kernel
theorem dX6_findNeeded_3 : decode cX6_findNeeded 3 = .ok (.istore_n 3, 1) := by decide +kernel
theorem dX6_findNeeded_4 : decode cX6_findNeeded 4 = .ok (.iload_n 3, 1) := by decide +kernel
theorem dX6_findNeeded_5 : decode cX6_findNeeded 5 = .ok (.aload_n 0, 1) := by decide +kernel
theorem dX6_findNeeded_6 : decode cX6_findNeeded 6 = .ok (.getfield 19, 3) := by decide +kernel
theorem dX6_findNeeded_9 : decode cX6_findNeeded 9 = .ok (.getfield 109, 3) := by decide +kernel
theorem dX6_findNeeded_12 : decode cX6_findNeeded 12 = .ok (.if_icmp .ge 31, 3) := by decide +kernel
theorem dX6_findNeeded_15 : decode cX6_findNeeded 15 = .ok (.aload_n 0, 1) := by decide +kernel
theorem dX6_findNeeded_16 : decode cX6_findNeeded 16 = .ok (.iload_n 1, 1) := by decide +kernel
theorem dX6_findNeeded_17 : decode cX6_findNeeded 17 = .ok (.iload_n 3, 1) := by decide +kernel
theorem dX6_findNeeded_18 : decode cX6_findNeeded 18 = .ok (.invokestatic 186, 3) := by decide +kernel
theorem dX6_findNeeded_21 : decode cX6_findNeeded 21 = .ok (.iconst (-1), 1) := by decide +kernel
theorem dX6_findNeeded_22 : decode cX6_findNeeded 22 = .ok (.ixor, 1) := by decide +kernel
theorem dX6_findNeeded_23 : decode cX6_findNeeded 23 = .ok (.iand, 1) := by decide +kernel
theorem dX6_findNeeded_24 : decode cX6_findNeeded 24 = .ok (.invokevirtual 177, 3) := by decide +kernel
theorem dX6_findNeeded_27 : decode cX6_findNeeded 27 = .ok (.ifCond .ne 10, 3) := by decide +kernel
theorem dX6_findNeeded_30 : decode cX6_findNeeded 30 = .ok (.iload_n 2, 1) := by decide +kernel
theorem dX6_findNeeded_31 : decode cX6_findNeeded 31 = .ok (.iload_n 3, 1) := by decide +kernel
theorem dX6_findNeeded_32 : decode cX6_findNeeded 32 = .ok (.invokestatic 186, 3) := by decide +kernel
theorem dX6_findNeeded_35 : decode cX6_findNeeded 35 = .ok (.ior, 1) := by decide +kernel
theorem dX6_findNeeded_36 : decode cX6_findNeeded 36 = .ok (.istore_n 2, 1) := by decide +kernel
theorem dX6_findNeeded_37 : decode cX6_findNeeded 37 = .ok (.iinc 3 1, 3) := by decide +kernel
theorem dX6_findNeeded_40 : decode cX6_findNeeded 40 = .ok (.goto (-36), 3) := by decide +kernel
theorem dX6_findNeeded_43 : decode cX6_findNeeded 43 = .ok (.iload_n 2, 1) := by decide +kernel
theorem dX6_findNeeded_44 : decode cX6_findNeeded 44 = .ok (.ireturn, 1) := by decide +kernel
theorem dX6_forbid_0 : decode cX6_forbid 0 = .ok (.aload_n 0, 1) := by decide +kernel
theorem dX6_forbid_1 : decode cX6_forbid 1 = .ok (.getfield 19, 3) := by decide +kernel
theorem dX6_forbid_4 : decode cX6_forbid 4 = .ok (.iload_n 1, 1) := by decide +kernel
theorem dX6_forbid_5 : decode cX6_forbid 5 = .ok (.iload_n 2, 1) := by decide +kernel
theorem dX6_forbid_6 : decode cX6_forbid 6 = .ok (.invokevirtual 120, 3) := by decide +kernel
theorem dX6_forbid_9 : decode cX6_forbid 9 = .ok (.ifCond .ne 5, 3) := by decide +kernel
theorem dX6_forbid_12 : decode cX6_forbid 12 = .ok (.iconst (-1), 1) := by decide +kernel
theorem dX6_forbid_13 : decode cX6_forbid 13 = .ok (.ireturn, 1) := by decide +kernel
theorem dX6_forbid_14 : decode cX6_forbid 14 = .ok (.aload_n 0, 1) := by decide +kernel
theorem dX6_forbid_15 : decode cX6_forbid 15 = .ok (.getfield 19, 3) := by decide +kernel
theorem dX6_forbid_18 : decode cX6_forbid 18 = .ok (.iload_n 1, 1) := by decide +kernel
theorem dX6_forbid_19 : decode cX6_forbid 19 = .ok (.iload_n 2, 1) := by decide +kernel
theorem dX6_forbid_20 : decode cX6_forbid 20 = .ok (.invokevirtual 153, 3) := by decide +kernel
theorem dX6_forbid_23 : decode cX6_forbid 23 = .ok (.iconst (-1), 1) := by decide +kernel
theorem dX6_forbid_24 : decode cX6_forbid 24 = .ok (.if_icmp .eq 6, 3) := by decide +kernel
theorem dX6_forbid_27 : decode cX6_forbid 27 = .ok (.bipush (-2), 2) := by decide +kernel
theorem dX6_forbid_29 : decode cX6_forbid 29 = .ok (.ireturn, 1) := by decide +kernel
theorem dX6_forbid_30 : decode cX6_forbid 30 = .ok (.aload_n 0, 1) := by decide +kernel
theorem dX6_forbid_31 : decode cX6_forbid 31 = .ok (.getfield 19, 3) := by decide +kernel
theorem dX6_forbid_34 : decode cX6_forbid 34 = .ok (.getfield 156, 3) := by decide +kernel
theorem dX6_forbid_37 : decode cX6_forbid 37 = .ok (.iconst 4, 1) := by decide +kernel
theorem dX6_forbid_38 : decode cX6_forbid 38 = .ok (.if_icmp .lt 6, 3) := by decide +kernel
theorem dX6_forbid_41 : decode cX6_forbid 41 = .ok (.bipush (-3), 2) := by decide +kernel
theorem dX6_forbid_43 : decode cX6_forbid 43 = .ok (.ireturn, 1) := by decide +kernel
theorem dX6_forbid_44 : decode cX6_forbid 44 = .ok (.aload_n 0, 1) := by decide +kernel
theorem dX6_forbid_45 : decode cX6_forbid 45 = .ok (.invokevirtual 73, 3) := by decide +kernel
theorem dX6_forbid_48 : decode cX6_forbid 48 = .ok (.aload_n 0, 1) := by decide +kernel
theorem dX6_forbid_49 : decode cX6_forbid 49 = .ok (.getfield 19, 3) := by decide +kernel
theorem dX6_forbid_52 : decode cX6_forbid 52 = .ok (.iload_n 1, 1) := by decide +kernel
theorem dX6_forbid_53 : decode cX6_forbid 53 = .ok (.iload_n 2, 1) := by decide +kernel
theorem dX6_forbid_54 : decode cX6_forbid 54 = .ok (.invokevirtual 159, 3) := by decide +kernel
theorem dX6_forbid_57 : decode cX6_forbid 57 = .ok (.aload_n 0, 1) := by decide +kernel
theorem dX6_forbid_58 : decode cX6_forbid 58 = .ok (.getfield 19, 3) := by decide +kernel
theorem dX6_forbid_61 : decode cX6_forbid 61 = .ok (.getfield 156, 3) := by decide +kernel
theorem dX6_forbid_64 : decode cX6_forbid 64 = .ok (.ireturn, 1) := by decide +kernel
theorem dX6_give_0 : decode cX6_give 0 = .ok (.aload_n 0, 1) := by decide +kernel
theorem dX6_give_1 : decode cX6_give 1 = .ok (.getfield 19, 3) := by decide +kernel
theorem dX6_give_4 : decode cX6_give 4 = .ok (.iload_n 1, 1) := by decide +kernel
theorem dX6_give_5 : decode cX6_give 5 = .ok (.iconst 1, 1) := by decide +kernel
theorem dX6_give_6 : decode cX6_give 6 = .ok (.invokevirtual 180, 3) := by decide +kernel
theorem dX6_give_9 : decode cX6_give 9 = .ok (.ifCond .eq 26, 3) := by decide +kernel
theorem dX6_give_12 : decode cX6_give 12 = .ok (.aload_n 0, 1) := by decide +kernel
theorem dX6_give_13 : decode cX6_give 13 = .ok (.getfield 19, 3) := by decide +kernel
theorem dX6_give_16 : decode cX6_give 16 = .ok (.iload_n 2, 1) := by decide +kernel
theorem dX6_give_17 : decode cX6_give 17 = .ok (.iconst 4, 1) := by decide +kernel
theorem dX6_give_18 : decode cX6_give 18 = .ok (.invokevirtual 180, 3) := by decide +kernel
theorem dX6_give_21 : decode cX6_give 21 = .ok (.ifCond .eq 14, 3) := by decide +kernel
theorem dX6_give_24 : decode cX6_give 24 = .ok (.aload_n 0, 1) := by decide +kernel
theorem dX6_give_25 : decode cX6_give 25 = .ok (.getfield 19, 3) := by decide +kernel
theorem dX6_give_28 : decode cX6_give 28 = .ok (.iload_n 3, 1) := by decide +kernel
theorem dX6_give_29 : decode cX6_give 29 = .ok (.invokevirtual 86, 3) := by decide +kernel
theorem dX6_give_32 : decode cX6_give 32 = .ok (.ifCond .ne 5, 3) := by decide +kernel
theorem dX6_give_35 : decode cX6_give 35 = .ok (.iconst (-1), 1) := by decide +kernel
theorem dX6_give_36 : decode cX6_give 36 = .ok (.ireturn, 1) := by decide +kernel
theorem dX6_give_37 : decode cX6_give 37 = .ok (.aload_n 0, 1) := by decide +kernel
theorem dX6_give_38 : decode cX6_give 38 = .ok (.getfield 19, 3) := by decide +kernel
theorem dX6_give_41 : decode cX6_give 41 = .ok (.iload_n 1, 1) := by decide +kernel
theorem dX6_give_42 : decode cX6_give 42 = .ok (.iload_n 2, 1) := by decide +kernel
theorem dX6_give_43 : decode cX6_give 43 = .ok (.invokevirtual 183, 3) := by decide +kernel
theorem dX6_give_46 : decode cX6_give 46 = .ok (.ifCond .eq 20, 3) := by decide +kernel
theorem dX6_give_49 : decode cX6_give 49 = .ok (.iload_n 3, 1) := by decide +kernel
theorem dX6_give_50 : decode cX6_give 50 = .ok (.iload_n 1, 1) := by decide +kernel
theorem dX6_give_51 : decode cX6_give 51 = .ok (.if_icmp .eq 18, 3) := by decide +kernel
theorem dX6_give_54 : decode cX6_give 54 = .ok (.aload_n 0, 1) := by decide +kernel
theorem dX6_give_55 : decode cX6_give 55 = .ok (.getfield 19, 3) := by decide +kernel
theorem dX6_give_58 : decode cX6_give 58 = .ok (.iload_n 1, 1) := by decide +kernel
theorem dX6_give_59 : decode cX6_give 59 = .ok (.iload_n 3, 1) := by decide +kernel
theorem dX6_give_60 : decode cX6_give 60 = .ok (.invokevirtual 183, 3) := by decide +kernel
theorem dX6_give_63 : decode cX6_give 63 = .ok (.ifCond .ne 6, 3) := by decide +kernel
theorem dX6_give_66 : decode cX6_give 66 = .ok (.bipush (-2), 2) := by decide +kernel
theorem dX6_give_68 : decode cX6_give 68 = .ok (.ireturn, 1) := by decide +kernel
theorem dX6_give_69 : decode cX6_give 69 = .ok (.aload_n 0, 1) := by decide +kernel
theorem dX6_give_70 : decode cX6_give 70 = .ok (.invokevirtual 73, 3) := by decide +kernel
theorem dX6_give_73 : decode cX6_give 73 = .ok (.aload_n 0, 1) := by decide +kernel
theorem dX6_give_74 : decode cX6_give 74 = .ok (.getfield 19, 3) := by decide +kernel
theorem dX6_give_77 : decode cX6_give 77 = .ok (.iload_n 2, 1) := by decide +kernel
theorem dX6_give_78 : decode cX6_give 78 = .ok (.iload_n 3, 1) := by decide +kernel
theorem dX6_give_79 : decode cX6_give 79 = .ok (.invokestatic 186, 3) := by decide +kernel
theorem dX6_give_82 : decode cX6_give 82 = .ok (.invokevirtual 189, 3) := by decide +kernel
theorem dX6_give_85 : decode cX6_give 85 = .ok (.ireturn, 1) := by decide +kernel
theorem dX6_holdsInRun_0 : decode cX6_holdsInRun 0 = .ok (.aload_n 0, 1) := by decide +kernel
theorem dX6_holdsInRun_1 : decode cX6_holdsInRun 1 = .ok (.getfield 19, 3) := by decide +kernel
theorem dX6_holdsInRun_4 : decode cX6_holdsInRun 4 = .ok (.iload_n 1, 1) := by decide +kernel
theorem dX6_holdsInRun_5 : decode cX6_holdsInRun 5 = .ok (.iload_n 2, 1) := by decide +kernel
theorem dX6_holdsInRun_6 : decode cX6_holdsInRun 6 = .ok (.invokevirtual 120, 3) := by decide +kernel
theorem dX6_holdsInRun_9 : decode cX6_holdsInRun 9 = .ok (.ifCond .ne 5, 3) := by decide +kernel
theorem dX6_holdsInRun_12 : decode cX6_holdsInRun 12 = .ok (.iconst (-1), 1) := by decide +kernel
theorem dX6_holdsInRun_13 : decode cX6_holdsInRun 13 = .ok (.ireturn, 1) := by decide +kernel
theorem dX6_holdsInRun_14 : decode cX6_holdsInRun 14 = .ok (.aload_n 0, 1) := by decide +kernel
theorem dX6_holdsInRun_15 : decode cX6_holdsInRun 15 = .ok (.getfield 19, 3) := by decide +kernel
theorem dX6_holdsInRun_18 : decode cX6_holdsInRun 18 = .ok (.iload_n 1, 1) := by decide +kernel
theorem dX6_holdsInRun_19 : decode cX6_holdsInRun 19 = .ok (.iload_n 2, 1) := by decide +kernel
theorem dX6_holdsInRun_20 : decode cX6_holdsInRun 20 = .ok (.invokevirtual 183, 3) := by decide +kernel
theorem dX6_holdsInRun_23 : decode cX6_holdsInRun 23 = .ok (.ifCond .eq 7, 3) := by decide +kernel
theorem dX6_holdsInRun_26 : decode cX6_holdsInRun 26 = .ok (.iconst 1, 1) := by decide +kernel
theorem dX6_holdsInRun_27 : decode cX6_holdsInRun 27 = .ok (.goto 4, 3) := by decide +kernel
theorem dX6_holdsInRun_30 : decode cX6_holdsInRun 30 = .ok (.iconst 0, 1) := by decide +kernel
theorem dX6_holdsInRun_31 : decode cX6_holdsInRun 31 = .ok (.ireturn, 1) := by decide +kernel
theorem dX6_init_0 : decode cX6_init 0 = .ok (.aload_n 0, 1) := by decide +kernel
theorem dX6_init_1 : decode cX6_init 1 = .ok (.invokespecial 3, 3) := by decide +kernel
theorem dX6_init_4 : decode cX6_init 4 = .ok (.aload_n 0, 1) := by decide +kernel
theorem dX6_init_5 : decode cX6_init 5 = .ok (.new 9, 3) := by decide +kernel
theorem dX6_init_8 : decode cX6_init 8 = .ok (.dup, 1) := by decide +kernel
theorem dX6_init_9 : decode cX6_init 9 = .ok (.invokespecial 11, 3) := by decide +kernel
theorem dX6_init_12 : decode cX6_init 12 = .ok (.putfield 12, 3) := by decide +kernel
theorem dX6_init_15 : decode cX6_init 15 = .ok (.aload_n 0, 1) := by decide +kernel
theorem dX6_init_16 : decode cX6_init 16 = .ok (.new 16, 3) := by decide +kernel
theorem dX6_init_19 : decode cX6_init 19 = .ok (.dup, 1) := by decide +kernel
theorem dX6_init_20 : decode cX6_init 20 = .ok (.invokespecial 18, 3) := by decide +kernel
theorem dX6_init_23 : decode cX6_init 23 = .ok (.putfield 19, 3) := by decide +kernel
theorem dX6_init_26 : decode cX6_init 26 = .ok (.aload_n 0, 1) := by decide +kernel
theorem dX6_init_27 : decode cX6_init 27 = .ok (.new 16, 3) := by decide +kernel
theorem dX6_init_30 : decode cX6_init 30 = .ok (.dup, 1) := by decide +kernel
theorem dX6_init_31 : decode cX6_init 31 = .ok (.invokespecial 18, 3) := by decide +kernel
theorem dX6_init_34 : decode cX6_init 34 = .ok (.putfield 23, 3) := by decide +kernel
theorem dX6_init_37 : decode cX6_init 37 = .ok (.aload_n 0, 1) := by decide +kernel
theorem dX6_init_38 : decode cX6_init 38 = .ok (.new 26, 3) := by decide +kernel
theorem dX6_init_41 : decode cX6_init 41 = .ok (.dup, 1) := by decide +kernel
theorem dX6_init_42 : decode cX6_init 42 = .ok (.invokespecial 28, 3) := by decide +kernel
theorem dX6_init_45 : decode cX6_init 45 = .ok (.putfield 29, 3) := by decide +kernel
theorem dX6_init_48 : decode cX6_init 48 = .ok (.aload_n 0, 1) := by decide +kernel
theorem dX6_init_49 : decode cX6_init 49 = .ok (.new 33, 3) := by decide +kernel
theorem dX6_init_52 : decode cX6_init 52 = .ok (.dup, 1) := by decide +kernel
theorem dX6_init_53 : decode cX6_init 53 = .ok (.invokespecial 35, 3) := by decide +kernel
theorem dX6_init_56 : decode cX6_init 56 = .ok (.putfield 36, 3) := by decide +kernel
theorem dX6_init_59 : decode cX6_init 59 = .ok (.aload_n 0, 1) := by decide +kernel
theorem dX6_init_60 : decode cX6_init 60 = .ok (.new 40, 3) := by decide +kernel
theorem dX6_init_63 : decode cX6_init 63 = .ok (.dup, 1) := by decide +kernel
theorem dX6_init_64 : decode cX6_init 64 = .ok (.invokespecial 42, 3) := by decide +kernel
theorem dX6_init_67 : decode cX6_init 67 = .ok (.putfield 43, 3) := by decide +kernel
theorem dX6_init_70 : decode cX6_init 70 = .ok (.aload_n 0, 1) := by decide +kernel
theorem dX6_init_71 : decode cX6_init 71 = .ok (.new 47, 3) := by decide +kernel
theorem dX6_init_74 : decode cX6_init 74 = .ok (.dup, 1) := by decide +kernel
theorem dX6_init_75 : decode cX6_init 75 = .ok (.invokespecial 49, 3) := by decide +kernel
theorem dX6_init_78 : decode cX6_init 78 = .ok (.putfield 50, 3) := by decide +kernel
theorem dX6_init_81 : decode cX6_init 81 = .ok (.aload_n 0, 1) := by decide +kernel
theorem dX6_init_82 : decode cX6_init 82 = .ok (.new 47, 3) := by decide +kernel
theorem dX6_init_85 : decode cX6_init 85 = .ok (.dup, 1) := by decide +kernel
theorem dX6_init_86 : decode cX6_init 86 = .ok (.invokespecial 49, 3) := by decide +kernel
theorem dX6_init_89 : decode cX6_init 89 = .ok (.putfield 54, 3) := by decide +kernel
theorem dX6_init_92 : decode cX6_init 92 = .ok (.aload_n 0, 1) := by decide +kernel
theorem dX6_init_93 : decode cX6_init 93 = .ok (.iconst 0, 1) := by decide +kernel
theorem dX6_init_94 : decode cX6_init 94 = .ok (.putfield 57, 3) := by decide +kernel
theorem dX6_init_97 : decode cX6_init 97 = .ok (.return_, 1) := by decide +kernel
theorem dX6_isRepair_0 : decode cX6_isRepair 0 = .ok (.aload_n 0, 1) := by decide +kernel
theorem dX6_isRepair_1 : decode cX6_isRepair 1 = .ok (.getfield 54, 3) := by decide +kernel
theorem dX6_isRepair_4 : decode cX6_isRepair 4 = .ok (.aload_n 0, 1) := by decide +kernel
theorem dX6_isRepair_5 : decode cX6_isRepair 5 = .ok (.getfield 19, 3) := by decide +kernel
theorem dX6_isRepair_8 : decode cX6_isRepair 8 = .ok (.iload_n 1, 1) := by decide +kernel
theorem dX6_isRepair_9 : decode cX6_isRepair 9 = .ok (.invokevirtual 224, 3) := by decide +kernel
theorem dX6_isRepair_12 : decode cX6_isRepair 12 = .ok (.aload_n 0, 1) := by decide +kernel
theorem dX6_isRepair_13 : decode cX6_isRepair 13 = .ok (.getfield 54, 3) := by decide +kernel
theorem dX6_isRepair_16 : decode cX6_isRepair 16 = .ok (.aload_n 0, 1) := by decide +kernel
theorem dX6_isRepair_17 : decode cX6_isRepair 17 = .ok (.getfield 36, 3) := by decide +kernel
theorem dX6_isRepair_20 : decode cX6_isRepair 20 = .ok (.iconst 0, 1) := by decide +kernel
theorem dX6_isRepair_21 : decode cX6_isRepair 21 = .ok (.invokevirtual 228, 3) := by decide +kernel
theorem dX6_isRepair_24 : decode cX6_isRepair 24 = .ok (.aload_n 0, 1) := by decide +kernel
theorem dX6_isRepair_25 : decode cX6_isRepair 25 = .ok (.getfield 19, 3) := by decide +kernel
theorem dX6_isRepair_28 : decode cX6_isRepair 28 = .ok (.aload_n 0, 1) := by decide +kernel
theorem dX6_isRepair_29 : decode cX6_isRepair 29 = .ok (.getfield 54, 3) := by decide +kernel
theorem dX6_isRepair_32 : decode cX6_isRepair 32 = .ok (.getfield 152, 3) := by decide +kernel
theorem dX6_isRepair_35 : decode cX6_isRepair 35 = .ok (.invokevirtual 165, 3) := by decide +kernel
theorem dX6_isRepair_38 : decode cX6_isRepair 38 = .ok (.ifCond .ne 7, 3) := by decide +kernel
theorem dX6_isRepair_41 : decode cX6_isRepair 41 = .ok (.iconst 1, 1) := by decide +kernel
theorem dX6_isRepair_42 : decode cX6_isRepair 42 = .ok (.goto 4, 3) := by decide +kernel
theorem dX6_isRepair_45 : decode cX6_isRepair 45 = .ok (.iconst 0, 1) := by decide +kernel
theorem dX6_isRepair_46 : decode cX6_isRepair 46 = .ok (.ireturn, 1) := by decide +kernel
theorem dX6_kind_0 : decode cX6_kind 0 = .ok (.aload_n 0, 1) := by decide +kernel
theorem dX6_kind_1 : decode cX6_kind 1 = .ok (.getfield 19, 3) := by decide +kernel
theorem dX6_kind_4 : decode cX6_kind 4 = .ok (.iload_n 1, 1) := by decide +kernel
theorem dX6_kind_5 : decode cX6_kind 5 = .ok (.invokevirtual 86, 3) := by decide +kernel
theorem dX6_kind_8 : decode cX6_kind 8 = .ok (.ifCond .eq 15, 3) := by decide +kernel
theorem dX6_kind_11 : decode cX6_kind 11 = .ok (.aload_n 0, 1) := by decide +kernel
theorem dX6_kind_12 : decode cX6_kind 12 = .ok (.getfield 19, 3) := by decide +kernel
theorem dX6_kind_15 : decode cX6_kind 15 = .ok (.getfield 90, 3) := by decide +kernel
theorem dX6_kind_18 : decode cX6_kind 18 = .ok (.iload_n 1, 1) := by decide +kernel
theorem dX6_kind_19 : decode cX6_kind 19 = .ok (.iaload, 1) := by decide +kernel
theorem dX6_kind_20 : decode cX6_kind 20 = .ok (.goto 4, 3) := by decide +kernel
theorem dX6_kind_23 : decode cX6_kind 23 = .ok (.iconst (-1), 1) := by decide +kernel
theorem dX6_kind_24 : decode cX6_kind 24 = .ok (.ireturn, 1) := by decide +kernel
theorem dX6_lastRound_0 : decode cX6_lastRound 0 = .ok (.aload_n 0, 1) := by decide +kernel
theorem dX6_lastRound_1 : decode cX6_lastRound 1 = .ok (.invokevirtual 123, 3) := by decide +kernel
theorem dX6_lastRound_4 : decode cX6_lastRound 4 = .ok (.aload_n 0, 1) := by decide +kernel
theorem dX6_lastRound_5 : decode cX6_lastRound 5 = .ok (.getfield 43, 3) := by decide +kernel
theorem dX6_lastRound_8 : decode cX6_lastRound 8 = .ok (.getfield 149, 3) := by decide +kernel
theorem dX6_lastRound_11 : decode cX6_lastRound 11 = .ok (.ireturn, 1) := by decide +kernel
theorem dX6_load_0 : decode cX6_load 0 = .ok (.aload_n 0, 1) := by decide +kernel
theorem dX6_load_1 : decode cX6_load 1 = .ok (.getfield 12, 3) := by decide +kernel
theorem dX6_load_4 : decode cX6_load 4 = .ok (.aload_n 0, 1) := by decide +kernel
theorem dX6_load_5 : decode cX6_load 5 = .ok (.getfield 23, 3) := by decide +kernel
theorem dX6_load_8 : decode cX6_load 8 = .ok (.invokevirtual 69, 3) := by decide +kernel
theorem dX6_load_11 : decode cX6_load 11 = .ok (.istore_n 1, 1) := by decide +kernel
theorem dX6_load_12 : decode cX6_load 12 = .ok (.iload_n 1, 1) := by decide +kernel
theorem dX6_load_13 : decode cX6_load 13 = .ok (.iconst (-1), 1) := by decide +kernel
theorem dX6_load_14 : decode cX6_load 14 = .ok (.if_icmp .eq 8, 3) := by decide +kernel
theorem dX6_load_17 : decode cX6_load 17 = .ok (.bipush (-10), 2) := by decide +kernel
theorem dX6_load_19 : decode cX6_load 19 = .ok (.iload_n 1, 1) := by decide +kernel
theorem dX6_load_20 : decode cX6_load 20 = .ok (.isub, 1) := by decide +kernel
theorem dX6_load_21 : decode cX6_load 21 = .ok (.ireturn, 1) := by decide +kernel
theorem dX6_load_22 : decode cX6_load 22 = .ok (.aload_n 0, 1) := by decide +kernel
theorem dX6_load_23 : decode cX6_load 23 = .ok (.invokevirtual 73, 3) := by decide +kernel
theorem dX6_load_26 : decode cX6_load 26 = .ok (.aload_n 0, 1) := by decide +kernel
theorem dX6_load_27 : decode cX6_load 27 = .ok (.getfield 19, 3) := by decide +kernel
theorem dX6_load_30 : decode cX6_load 30 = .ok (.aload_n 0, 1) := by decide +kernel
theorem dX6_load_31 : decode cX6_load 31 = .ok (.getfield 23, 3) := by decide +kernel
theorem dX6_load_34 : decode cX6_load 34 = .ok (.invokevirtual 76, 3) := by decide +kernel
theorem dX6_load_37 : decode cX6_load 37 = .ok (.aload_n 0, 1) := by decide +kernel
theorem dX6_load_38 : decode cX6_load 38 = .ok (.getfield 19, 3) := by decide +kernel
theorem dX6_load_41 : decode cX6_load 41 = .ok (.invokevirtual 80, 3) := by decide +kernel
theorem dX6_load_44 : decode cX6_load 44 = .ok (.aload_n 0, 1) := by decide +kernel
theorem dX6_load_45 : decode cX6_load 45 = .ok (.getfield 12, 3) := by decide +kernel
theorem dX6_load_48 : decode cX6_load 48 = .ok (.iconst 0, 1) := by decide +kernel
theorem dX6_load_49 : decode cX6_load 49 = .ok (.putfield 61, 3) := by decide +kernel
theorem dX6_load_52 : decode cX6_load 52 = .ok (.aload_n 0, 1) := by decide +kernel
theorem dX6_load_53 : decode cX6_load 53 = .ok (.getfield 19, 3) := by decide +kernel
theorem dX6_load_56 : decode cX6_load 56 = .ok (.getfield 83, 3) := by decide +kernel
theorem dX6_load_59 : decode cX6_load 59 = .ok (.ireturn, 1) := by decide +kernel
theorem dX6_lowest_0 : decode cX6_lowest 0 = .ok (.iconst 0, 1) := by decide +kernel
theorem dX6_lowest_1 : decode cX6_lowest 1 = .ok (.istore_n 1, 1) := by decide +kernel
theorem dX6_lowest_2 : decode cX6_lowest 2 = .ok (.iload_n 1, 1) := by decide +kernel
theorem dX6_lowest_3 : decode cX6_lowest 3 = .ok (.bipush 10, 2) := by decide +kernel
theorem dX6_lowest_5 : decode cX6_lowest 5 = .ok (.if_icmp .ge 19, 3) := by decide +kernel
theorem dX6_lowest_8 : decode cX6_lowest 8 = .ok (.iload_n 0, 1) := by decide +kernel
theorem dX6_lowest_9 : decode cX6_lowest 9 = .ok (.iload_n 1, 1) := by decide +kernel
theorem dX6_lowest_10 : decode cX6_lowest 10 = .ok (.invokestatic 129, 3) := by decide +kernel
theorem dX6_lowest_13 : decode cX6_lowest 13 = .ok (.ifCond .eq 5, 3) := by decide +kernel
theorem dX6_lowest_16 : decode cX6_lowest 16 = .ok (.iload_n 1, 1) := by decide +kernel
theorem dX6_lowest_17 : decode cX6_lowest 17 = .ok (.ireturn, 1) := by decide +kernel
theorem dX6_lowest_18 : decode cX6_lowest 18 = .ok (.iinc 1 1, 3) := by decide +kernel
theorem dX6_lowest_21 : decode cX6_lowest 21 = .ok (.goto (-19), 3) := by decide +kernel
theorem dX6_lowest_24 : decode cX6_lowest 24 = .ok (.iconst (-1), 1) := by decide +kernel
theorem dX6_lowest_25 : decode cX6_lowest 25 = .ok (.ireturn, 1) := by decide +kernel
theorem dX6_mayHold_0 : decode cX6_mayHold 0 = .ok (.aload_n 0, 1) := by decide +kernel
theorem dX6_mayHold_1 : decode cX6_mayHold 1 = .ok (.getfield 19, 3) := by decide +kernel
theorem dX6_mayHold_4 : decode cX6_mayHold 4 = .ok (.iload_n 1, 1) := by decide +kernel
theorem dX6_mayHold_5 : decode cX6_mayHold 5 = .ok (.iload_n 2, 1) := by decide +kernel
theorem dX6_mayHold_6 : decode cX6_mayHold 6 = .ok (.invokevirtual 120, 3) := by decide +kernel
theorem dX6_mayHold_9 : decode cX6_mayHold 9 = .ok (.ifCond .ne 5, 3) := by decide +kernel
theorem dX6_mayHold_12 : decode cX6_mayHold 12 = .ok (.iconst (-1), 1) := by decide +kernel
theorem dX6_mayHold_13 : decode cX6_mayHold 13 = .ok (.ireturn, 1) := by decide +kernel
theorem dX6_mayHold_14 : decode cX6_mayHold 14 = .ok (.aload_n 0, 1) := by decide +kernel
theorem dX6_mayHold_15 : decode cX6_mayHold 15 = .ok (.invokevirtual 123, 3) := by decide +kernel
theorem dX6_mayHold_18 : decode cX6_mayHold 18 = .ok (.aload_n 0, 1) := by decide +kernel
theorem dX6_mayHold_19 : decode cX6_mayHold 19 = .ok (.getfield 43, 3) := by decide +kernel
theorem dX6_mayHold_22 : decode cX6_mayHold 22 = .ok (.getfield 126, 3) := by decide +kernel
theorem dX6_mayHold_25 : decode cX6_mayHold 25 = .ok (.iload_n 1, 1) := by decide +kernel
theorem dX6_mayHold_26 : decode cX6_mayHold 26 = .ok (.iaload, 1) := by decide +kernel
theorem dX6_mayHold_27 : decode cX6_mayHold 27 = .ok (.iload_n 2, 1) := by decide +kernel
theorem dX6_mayHold_28 : decode cX6_mayHold 28 = .ok (.invokestatic 129, 3) := by decide +kernel
theorem dX6_mayHold_31 : decode cX6_mayHold 31 = .ok (.ifCond .eq 7, 3) := by decide +kernel
theorem dX6_mayHold_34 : decode cX6_mayHold 34 = .ok (.iconst 1, 1) := by decide +kernel
theorem dX6_mayHold_35 : decode cX6_mayHold 35 = .ok (.goto 4, 3) := by decide +kernel
theorem dX6_mayHold_38 : decode cX6_mayHold 38 = .ok (.iconst 0, 1) := by decide +kernel
theorem dX6_mayHold_39 : decode cX6_mayHold 39 = .ok (.ireturn, 1) := by decide +kernel
theorem dX6_objectCount_0 : decode cX6_objectCount 0 = .ok (.aload_n 0, 1) := by decide +kernel
theorem dX6_objectCount_1 : decode cX6_objectCount 1 = .ok (.getfield 19, 3) := by decide +kernel
theorem dX6_objectCount_4 : decode cX6_objectCount 4 = .ok (.getfield 83, 3) := by decide +kernel
theorem dX6_objectCount_7 : decode cX6_objectCount 7 = .ok (.ireturn, 1) := by decide +kernel
theorem dX6_open_0 : decode cX6_open 0 = .ok (.aload_n 0, 1) := by decide +kernel
theorem dX6_open_1 : decode cX6_open 1 = .ok (.getfield 19, 3) := by decide +kernel
theorem dX6_open_4 : decode cX6_open 4 = .ok (.iload_n 1, 1) := by decide +kernel
theorem dX6_open_5 : decode cX6_open 5 = .ok (.iconst 2, 1) := by decide +kernel
theorem dX6_open_6 : decode cX6_open 6 = .ok (.invokevirtual 180, 3) := by decide +kernel
theorem dX6_open_9 : decode cX6_open 9 = .ok (.ifCond .eq 15, 3) := by decide +kernel
theorem dX6_open_12 : decode cX6_open 12 = .ok (.aload_n 0, 1) := by decide +kernel
theorem dX6_open_13 : decode cX6_open 13 = .ok (.getfield 19, 3) := by decide +kernel
theorem dX6_open_16 : decode cX6_open 16 = .ok (.iload_n 3, 1) := by decide +kernel
theorem dX6_open_17 : decode cX6_open 17 = .ok (.iload_n 2, 1) := by decide +kernel
theorem dX6_open_18 : decode cX6_open 18 = .ok (.invokevirtual 192, 3) := by decide +kernel
theorem dX6_open_21 : decode cX6_open 21 = .ok (.ifCond .ne 5, 3) := by decide +kernel
theorem dX6_open_24 : decode cX6_open 24 = .ok (.iconst (-1), 1) := by decide +kernel
theorem dX6_open_25 : decode cX6_open 25 = .ok (.ireturn, 1) := by decide +kernel
theorem dX6_open_26 : decode cX6_open 26 = .ok (.aload_n 0, 1) := by decide +kernel
theorem dX6_open_27 : decode cX6_open 27 = .ok (.getfield 19, 3) := by decide +kernel
theorem dX6_open_30 : decode cX6_open 30 = .ok (.iload_n 1, 1) := by decide +kernel
theorem dX6_open_31 : decode cX6_open 31 = .ok (.iload_n 2, 1) := by decide +kernel
theorem dX6_open_32 : decode cX6_open 32 = .ok (.invokevirtual 183, 3) := by decide +kernel
theorem dX6_open_35 : decode cX6_open 35 = .ok (.ifCond .eq 15, 3) := by decide +kernel
theorem dX6_open_38 : decode cX6_open 38 = .ok (.aload_n 0, 1) := by decide +kernel
theorem dX6_open_39 : decode cX6_open 39 = .ok (.getfield 19, 3) := by decide +kernel
theorem dX6_open_42 : decode cX6_open 42 = .ok (.iload_n 1, 1) := by decide +kernel
theorem dX6_open_43 : decode cX6_open 43 = .ok (.iload_n 3, 1) := by decide +kernel
theorem dX6_open_44 : decode cX6_open 44 = .ok (.invokevirtual 183, 3) := by decide +kernel
theorem dX6_open_47 : decode cX6_open 47 = .ok (.ifCond .ne 6, 3) := by decide +kernel
theorem dX6_open_50 : decode cX6_open 50 = .ok (.bipush (-2), 2) := by decide +kernel
theorem dX6_open_52 : decode cX6_open 52 = .ok (.ireturn, 1) := by decide +kernel
theorem dX6_open_53 : decode cX6_open 53 = .ok (.aload_n 0, 1) := by decide +kernel
theorem dX6_open_54 : decode cX6_open 54 = .ok (.invokevirtual 73, 3) := by decide +kernel
theorem dX6_open_57 : decode cX6_open 57 = .ok (.aload_n 0, 1) := by decide +kernel
theorem dX6_open_58 : decode cX6_open 58 = .ok (.getfield 19, 3) := by decide +kernel
theorem dX6_open_61 : decode cX6_open 61 = .ok (.iload_n 1, 1) := by decide +kernel
theorem dX6_open_62 : decode cX6_open 62 = .ok (.aload_n 0, 1) := by decide +kernel
theorem dX6_open_63 : decode cX6_open 63 = .ok (.getfield 19, 3) := by decide +kernel
theorem dX6_open_66 : decode cX6_open 66 = .ok (.getfield 195, 3) := by decide +kernel
theorem dX6_open_69 : decode cX6_open 69 = .ok (.iload_n 2, 1) := by decide +kernel
theorem dX6_open_70 : decode cX6_open 70 = .ok (.iaload, 1) := by decide +kernel
theorem dX6_open_71 : decode cX6_open 71 = .ok (.invokestatic 186, 3) := by decide +kernel
theorem dX6_open_74 : decode cX6_open 74 = .ok (.invokevirtual 189, 3) := by decide +kernel
theorem dX6_open_77 : decode cX6_open 77 = .ok (.ireturn, 1) := by decide +kernel
theorem dX6_pair_0 : decode cX6_pair 0 = .ok (.iload_n 0, 1) := by decide +kernel
theorem dX6_pair_1 : decode cX6_pair 1 = .ok (.bipush 10, 2) := by decide +kernel
theorem dX6_pair_3 : decode cX6_pair 3 = .ok (.imul, 1) := by decide +kernel
theorem dX6_pair_4 : decode cX6_pair 4 = .ok (.iload_n 1, 1) := by decide +kernel
theorem dX6_pair_5 : decode cX6_pair 5 = .ok (.iadd, 1) := by decide +kernel
theorem dX6_pair_6 : decode cX6_pair 6 = .ok (.ireturn, 1) := by decide +kernel
theorem dX6_partner_0 : decode cX6_partner 0 = .ok (.aload_n 0, 1) := by decide +kernel
theorem dX6_partner_1 : decode cX6_partner 1 = .ok (.getfield 19, 3) := by decide +kernel
theorem dX6_partner_4 : decode cX6_partner 4 = .ok (.iload_n 1, 1) := by decide +kernel
theorem dX6_partner_5 : decode cX6_partner 5 = .ok (.iload_n 2, 1) := by decide +kernel
theorem dX6_partner_6 : decode cX6_partner 6 = .ok (.invokevirtual 120, 3) := by decide +kernel
theorem dX6_partner_9 : decode cX6_partner 9 = .ok (.ifCond .ne 5, 3) := by decide +kernel
theorem dX6_partner_12 : decode cX6_partner 12 = .ok (.iconst (-1), 1) := by decide +kernel
theorem dX6_partner_13 : decode cX6_partner 13 = .ok (.ireturn, 1) := by decide +kernel
theorem dX6_partner_14 : decode cX6_partner 14 = .ok (.aload_n 0, 1) := by decide +kernel
theorem dX6_partner_15 : decode cX6_partner 15 = .ok (.invokevirtual 123, 3) := by decide +kernel
theorem dX6_partner_18 : decode cX6_partner 18 = .ok (.aload_n 0, 1) := by decide +kernel
theorem dX6_partner_19 : decode cX6_partner 19 = .ok (.getfield 43, 3) := by decide +kernel
theorem dX6_partner_22 : decode cX6_partner 22 = .ok (.getfield 142, 3) := by decide +kernel
theorem dX6_partner_25 : decode cX6_partner 25 = .ok (.iload_n 1, 1) := by decide +kernel
theorem dX6_partner_26 : decode cX6_partner 26 = .ok (.iload_n 2, 1) := by decide +kernel
theorem dX6_partner_27 : decode cX6_partner 27 = .ok (.invokestatic 135, 3) := by decide +kernel
theorem dX6_partner_30 : decode cX6_partner 30 = .ok (.iaload, 1) := by decide +kernel
theorem dX6_partner_31 : decode cX6_partner 31 = .ok (.ireturn, 1) := by decide +kernel
theorem dX6_permit_0 : decode cX6_permit 0 = .ok (.aload_n 0, 1) := by decide +kernel
theorem dX6_permit_1 : decode cX6_permit 1 = .ok (.getfield 19, 3) := by decide +kernel
theorem dX6_permit_4 : decode cX6_permit 4 = .ok (.iload_n 1, 1) := by decide +kernel
theorem dX6_permit_5 : decode cX6_permit 5 = .ok (.iload_n 2, 1) := by decide +kernel
theorem dX6_permit_6 : decode cX6_permit 6 = .ok (.invokevirtual 120, 3) := by decide +kernel
theorem dX6_permit_9 : decode cX6_permit 9 = .ok (.ifCond .ne 5, 3) := by decide +kernel
theorem dX6_permit_12 : decode cX6_permit 12 = .ok (.iconst (-1), 1) := by decide +kernel
theorem dX6_permit_13 : decode cX6_permit 13 = .ok (.ireturn, 1) := by decide +kernel
theorem dX6_permit_14 : decode cX6_permit 14 = .ok (.aload_n 0, 1) := by decide +kernel
theorem dX6_permit_15 : decode cX6_permit 15 = .ok (.getfield 19, 3) := by decide +kernel
theorem dX6_permit_18 : decode cX6_permit 18 = .ok (.iload_n 1, 1) := by decide +kernel
theorem dX6_permit_19 : decode cX6_permit 19 = .ok (.iload_n 2, 1) := by decide +kernel
theorem dX6_permit_20 : decode cX6_permit 20 = .ok (.invokevirtual 153, 3) := by decide +kernel
theorem dX6_permit_23 : decode cX6_permit 23 = .ok (.istore_n 3, 1) := by decide +kernel
theorem dX6_permit_24 : decode cX6_permit 24 = .ok (.iload_n 3, 1) := by decide +kernel
theorem dX6_permit_25 : decode cX6_permit 25 = .ok (.iconst (-1), 1) := by decide +kernel
theorem dX6_permit_26 : decode cX6_permit 26 = .ok (.if_icmp .ne 6, 3) := by decide +kernel
theorem dX6_permit_29 : decode cX6_permit 29 = .ok (.bipush (-2), 2) := by decide +kernel
theorem dX6_permit_31 : decode cX6_permit 31 = .ok (.ireturn, 1) := by decide +kernel
theorem dX6_permit_32 : decode cX6_permit 32 = .ok (.aload_n 0, 1) := by decide +kernel
theorem dX6_permit_33 : decode cX6_permit 33 = .ok (.invokevirtual 73, 3) := by decide +kernel
theorem dX6_permit_36 : decode cX6_permit 36 = .ok (.aload_n 0, 1) := by decide +kernel
theorem dX6_permit_37 : decode cX6_permit 37 = .ok (.getfield 19, 3) := by decide +kernel
theorem dX6_permit_40 : decode cX6_permit 40 = .ok (.iload_n 3, 1) := by decide +kernel
theorem dX6_permit_41 : decode cX6_permit 41 = .ok (.invokevirtual 162, 3) := by decide +kernel
theorem dX6_permit_44 : decode cX6_permit 44 = .ok (.aload_n 0, 1) := by decide +kernel
theorem dX6_permit_45 : decode cX6_permit 45 = .ok (.getfield 19, 3) := by decide +kernel
theorem dX6_permit_48 : decode cX6_permit 48 = .ok (.getfield 156, 3) := by decide +kernel
theorem dX6_permit_51 : decode cX6_permit 51 = .ok (.ireturn, 1) := by decide +kernel
theorem dX6_referenceCount_0 : decode cX6_referenceCount 0 = .ok (.aload_n 0, 1) := by decide +kernel
theorem dX6_referenceCount_1 : decode cX6_referenceCount 1 = .ok (.getfield 19, 3) := by decide +kernel
theorem dX6_referenceCount_4 : decode cX6_referenceCount 4 = .ok (.getfield 109, 3) := by decide +kernel
theorem dX6_referenceCount_7 : decode cX6_referenceCount 7 = .ok (.ireturn, 1) := by decide +kernel
theorem dX6_refreshAnalysis_0 : decode cX6_refreshAnalysis 0 = .ok (.aload_n 0, 1) := by decide +kernel
theorem dX6_refreshAnalysis_1 : decode cX6_refreshAnalysis 1 = .ok (.getfield 57, 3) := by decide +kernel
theorem dX6_refreshAnalysis_4 : decode cX6_refreshAnalysis 4 = .ok (.ifCond .eq 4, 3) := by decide +kernel
theorem dX6_refreshAnalysis_7 : decode cX6_refreshAnalysis 7 = .ok (.return_, 1) := by decide +kernel
theorem dX6_refreshAnalysis_8 : decode cX6_refreshAnalysis 8 = .ok (.aload_n 0, 1) := by decide +kernel
theorem dX6_refreshAnalysis_9 : decode cX6_refreshAnalysis 9 = .ok (.getfield 36, 3) := by decide +kernel
theorem dX6_refreshAnalysis_12 : decode cX6_refreshAnalysis 12 = .ok (.aload_n 0, 1) := by decide +kernel
theorem dX6_refreshAnalysis_13 : decode cX6_refreshAnalysis 13 = .ok (.getfield 19, 3) := by decide +kernel
theorem dX6_refreshAnalysis_16 : decode cX6_refreshAnalysis 16 = .ok (.invokevirtual 217, 3) := by decide +kernel
theorem dX6_refreshAnalysis_19 : decode cX6_refreshAnalysis 19 = .ok (.aload_n 0, 1) := by decide +kernel
theorem dX6_refreshAnalysis_20 : decode cX6_refreshAnalysis 20 = .ok (.getfield 43, 3) := by decide +kernel
theorem dX6_refreshAnalysis_23 : decode cX6_refreshAnalysis 23 = .ok (.aload_n 0, 1) := by decide +kernel
theorem dX6_refreshAnalysis_24 : decode cX6_refreshAnalysis 24 = .ok (.getfield 36, 3) := by decide +kernel
theorem dX6_refreshAnalysis_27 : decode cX6_refreshAnalysis 27 = .ok (.aload_n 0, 1) := by decide +kernel
theorem dX6_refreshAnalysis_28 : decode cX6_refreshAnalysis 28 = .ok (.getfield 19, 3) := by decide +kernel
theorem dX6_refreshAnalysis_31 : decode cX6_refreshAnalysis 31 = .ok (.invokevirtual 220, 3) := by decide +kernel
theorem dX6_refreshAnalysis_34 : decode cX6_refreshAnalysis 34 = .ok (.aload_n 0, 1) := by decide +kernel
theorem dX6_refreshAnalysis_35 : decode cX6_refreshAnalysis 35 = .ok (.getfield 50, 3) := by decide +kernel
theorem dX6_refreshAnalysis_38 : decode cX6_refreshAnalysis 38 = .ok (.aload_n 0, 1) := by decide +kernel
theorem dX6_refreshAnalysis_39 : decode cX6_refreshAnalysis 39 = .ok (.getfield 19, 3) := by decide +kernel
theorem dX6_refreshAnalysis_42 : decode cX6_refreshAnalysis 42 = .ok (.iconst 0, 1) := by decide +kernel
theorem dX6_refreshAnalysis_43 : decode cX6_refreshAnalysis 43 = .ok (.invokevirtual 224, 3) := by decide +kernel
theorem dX6_refreshAnalysis_46 : decode cX6_refreshAnalysis 46 = .ok (.aload_n 0, 1) := by decide +kernel
theorem dX6_refreshAnalysis_47 : decode cX6_refreshAnalysis 47 = .ok (.getfield 50, 3) := by decide +kernel
theorem dX6_refreshAnalysis_50 : decode cX6_refreshAnalysis 50 = .ok (.aload_n 0, 1) := by decide +kernel
theorem dX6_refreshAnalysis_51 : decode cX6_refreshAnalysis 51 = .ok (.getfield 36, 3) := by decide +kernel
theorem dX6_refreshAnalysis_54 : decode cX6_refreshAnalysis 54 = .ok (.iconst 1, 1) := by decide +kernel
theorem dX6_refreshAnalysis_55 : decode cX6_refreshAnalysis 55 = .ok (.invokevirtual 228, 3) := by decide +kernel
theorem dX6_refreshAnalysis_58 : decode cX6_refreshAnalysis 58 = .ok (.aload_n 0, 1) := by decide +kernel
theorem dX6_refreshAnalysis_59 : decode cX6_refreshAnalysis 59 = .ok (.iconst 1, 1) := by decide +kernel
theorem dX6_refreshAnalysis_60 : decode cX6_refreshAnalysis 60 = .ok (.putfield 57, 3) := by decide +kernel
theorem dX6_refreshAnalysis_63 : decode cX6_refreshAnalysis 63 = .ok (.return_, 1) := by decide +kernel
theorem dX6_removeReference_0 : decode cX6_removeReference 0 = .ok (.iload_n 1, 1) := by decide +kernel
theorem dX6_removeReference_1 : decode cX6_removeReference 1 = .ok (.ifCond .lt 14, 3) := by decide +kernel
theorem dX6_removeReference_4 : decode cX6_removeReference 4 = .ok (.iload_n 1, 1) := by decide +kernel
theorem dX6_removeReference_5 : decode cX6_removeReference 5 = .ok (.aload_n 0, 1) := by decide +kernel
theorem dX6_removeReference_6 : decode cX6_removeReference 6 = .ok (.getfield 19, 3) := by decide +kernel
theorem dX6_removeReference_9 : decode cX6_removeReference 9 = .ok (.getfield 109, 3) := by decide +kernel
theorem dX6_removeReference_12 : decode cX6_removeReference 12 = .ok (.if_icmp .lt 5, 3) := by decide +kernel
theorem dX6_removeReference_15 : decode cX6_removeReference 15 = .ok (.iconst (-1), 1) := by decide +kernel
theorem dX6_removeReference_16 : decode cX6_removeReference 16 = .ok (.ireturn, 1) := by decide +kernel
theorem dX6_removeReference_17 : decode cX6_removeReference 17 = .ok (.aload_n 0, 1) := by decide +kernel
theorem dX6_removeReference_18 : decode cX6_removeReference 18 = .ok (.invokevirtual 73, 3) := by decide +kernel
theorem dX6_removeReference_21 : decode cX6_removeReference 21 = .ok (.aload_n 0, 1) := by decide +kernel
theorem dX6_removeReference_22 : decode cX6_removeReference 22 = .ok (.getfield 19, 3) := by decide +kernel
theorem dX6_removeReference_25 : decode cX6_removeReference 25 = .ok (.iload_n 1, 1) := by decide +kernel
theorem dX6_removeReference_26 : decode cX6_removeReference 26 = .ok (.invokevirtual 116, 3) := by decide +kernel
theorem dX6_removeReference_29 : decode cX6_removeReference 29 = .ok (.aload_n 0, 1) := by decide +kernel
theorem dX6_removeReference_30 : decode cX6_removeReference 30 = .ok (.getfield 19, 3) := by decide +kernel
theorem dX6_removeReference_33 : decode cX6_removeReference 33 = .ok (.invokevirtual 80, 3) := by decide +kernel
theorem dX6_removeReference_36 : decode cX6_removeReference 36 = .ok (.aload_n 0, 1) := by decide +kernel
theorem dX6_removeReference_37 : decode cX6_removeReference 37 = .ok (.getfield 19, 3) := by decide +kernel
theorem dX6_removeReference_40 : decode cX6_removeReference 40 = .ok (.getfield 109, 3) := by decide +kernel
theorem dX6_removeReference_43 : decode cX6_removeReference 43 = .ok (.ireturn, 1) := by decide +kernel
theorem dX6_restartRun_0 : decode cX6_restartRun 0 = .ok (.aload_n 0, 1) := by decide +kernel
theorem dX6_restartRun_1 : decode cX6_restartRun 1 = .ok (.getfield 19, 3) := by decide +kernel
theorem dX6_restartRun_4 : decode cX6_restartRun 4 = .ok (.invokevirtual 204, 3) := by decide +kernel
theorem dX6_restartRun_7 : decode cX6_restartRun 7 = .ok (.istore_n 1, 1) := by decide +kernel
theorem dX6_restartRun_8 : decode cX6_restartRun 8 = .ok (.aload_n 0, 1) := by decide +kernel
theorem dX6_restartRun_9 : decode cX6_restartRun 9 = .ok (.invokevirtual 73, 3) := by decide +kernel
theorem dX6_restartRun_12 : decode cX6_restartRun 12 = .ok (.aload_n 0, 1) := by decide +kernel
theorem dX6_restartRun_13 : decode cX6_restartRun 13 = .ok (.getfield 19, 3) := by decide +kernel
theorem dX6_restartRun_16 : decode cX6_restartRun 16 = .ok (.invokevirtual 80, 3) := by decide +kernel
theorem dX6_restartRun_19 : decode cX6_restartRun 19 = .ok (.iload_n 1, 1) := by decide +kernel
theorem dX6_restartRun_20 : decode cX6_restartRun 20 = .ok (.ireturn, 1) := by decide +kernel
theorem dX6_round_0 : decode cX6_round 0 = .ok (.aload_n 0, 1) := by decide +kernel
theorem dX6_round_1 : decode cX6_round 1 = .ok (.getfield 19, 3) := by decide +kernel
theorem dX6_round_4 : decode cX6_round 4 = .ok (.iload_n 1, 1) := by decide +kernel
theorem dX6_round_5 : decode cX6_round 5 = .ok (.iload_n 2, 1) := by decide +kernel
theorem dX6_round_6 : decode cX6_round 6 = .ok (.invokevirtual 120, 3) := by decide +kernel
theorem dX6_round_9 : decode cX6_round 9 = .ok (.ifCond .ne 5, 3) := by decide +kernel
theorem dX6_round_12 : decode cX6_round 12 = .ok (.iconst (-1), 1) := by decide +kernel
theorem dX6_round_13 : decode cX6_round 13 = .ok (.ireturn, 1) := by decide +kernel
theorem dX6_round_14 : decode cX6_round 14 = .ok (.aload_n 0, 1) := by decide +kernel
theorem dX6_round_15 : decode cX6_round 15 = .ok (.invokevirtual 123, 3) := by decide +kernel
theorem dX6_round_18 : decode cX6_round 18 = .ok (.aload_n 0, 1) := by decide +kernel
theorem dX6_round_19 : decode cX6_round 19 = .ok (.getfield 43, 3) := by decide +kernel
theorem dX6_round_22 : decode cX6_round 22 = .ok (.getfield 132, 3) := by decide +kernel
theorem dX6_round_25 : decode cX6_round 25 = .ok (.iload_n 1, 1) := by decide +kernel
theorem dX6_round_26 : decode cX6_round 26 = .ok (.iload_n 2, 1) := by decide +kernel
theorem dX6_round_27 : decode cX6_round 27 = .ok (.invokestatic 135, 3) := by decide +kernel
theorem dX6_round_30 : decode cX6_round 30 = .ok (.iaload, 1) := by decide +kernel
theorem dX6_round_31 : decode cX6_round 31 = .ok (.ireturn, 1) := by decide +kernel
theorem dX6_rule_0 : decode cX6_rule 0 = .ok (.aload_n 0, 1) := by decide +kernel
theorem dX6_rule_1 : decode cX6_rule 1 = .ok (.getfield 19, 3) := by decide +kernel
theorem dX6_rule_4 : decode cX6_rule 4 = .ok (.iload_n 1, 1) := by decide +kernel
theorem dX6_rule_5 : decode cX6_rule 5 = .ok (.iload_n 2, 1) := by decide +kernel
theorem dX6_rule_6 : decode cX6_rule 6 = .ok (.invokevirtual 120, 3) := by decide +kernel
theorem dX6_rule_9 : decode cX6_rule 9 = .ok (.ifCond .ne 5, 3) := by decide +kernel
theorem dX6_rule_12 : decode cX6_rule 12 = .ok (.iconst (-1), 1) := by decide +kernel
theorem dX6_rule_13 : decode cX6_rule 13 = .ok (.ireturn, 1) := by decide +kernel
theorem dX6_rule_14 : decode cX6_rule 14 = .ok (.aload_n 0, 1) := by decide +kernel
theorem dX6_rule_15 : decode cX6_rule 15 = .ok (.invokevirtual 123, 3) := by decide +kernel
theorem dX6_rule_18 : decode cX6_rule 18 = .ok (.aload_n 0, 1) := by decide +kernel
theorem dX6_rule_19 : decode cX6_rule 19 = .ok (.getfield 43, 3) := by decide +kernel
theorem dX6_rule_22 : decode cX6_rule 22 = .ok (.getfield 139, 3) := by decide +kernel
theorem dX6_rule_25 : decode cX6_rule 25 = .ok (.iload_n 1, 1) := by decide +kernel
theorem dX6_rule_26 : decode cX6_rule 26 = .ok (.iload_n 2, 1) := by decide +kernel
theorem dX6_rule_27 : decode cX6_rule 27 = .ok (.invokestatic 135, 3) := by decide +kernel
theorem dX6_rule_30 : decode cX6_rule 30 = .ok (.iaload, 1) := by decide +kernel
theorem dX6_rule_31 : decode cX6_rule 31 = .ok (.ireturn, 1) := by decide +kernel
theorem dX6_saveState_0 : decode cX6_saveState 0 = .ok (.aload_n 0, 1) := by decide +kernel
theorem dX6_saveState_1 : decode cX6_saveState 1 = .ok (.getfield 29, 3) := by decide +kernel
theorem dX6_saveState_4 : decode cX6_saveState 4 = .ok (.aload_n 0, 1) := by decide +kernel
theorem dX6_saveState_5 : decode cX6_saveState 5 = .ok (.getfield 19, 3) := by decide +kernel
theorem dX6_saveState_8 : decode cX6_saveState 8 = .ok (.invokevirtual 214, 3) := by decide +kernel
theorem dX6_saveState_11 : decode cX6_saveState 11 = .ok (.aload_n 0, 1) := by decide +kernel
theorem dX6_saveState_12 : decode cX6_saveState 12 = .ok (.iconst 0, 1) := by decide +kernel
theorem dX6_saveState_13 : decode cX6_saveState 13 = .ok (.putfield 57, 3) := by decide +kernel
theorem dX6_saveState_16 : decode cX6_saveState 16 = .ok (.return_, 1) := by decide +kernel
theorem dX6_setBehaviour_0 : decode cX6_setBehaviour 0 = .ok (.aload_n 0, 1) := by decide +kernel
theorem dX6_setBehaviour_1 : decode cX6_setBehaviour 1 = .ok (.getfield 19, 3) := by decide +kernel
theorem dX6_setBehaviour_4 : decode cX6_setBehaviour 4 = .ok (.iload_n 1, 1) := by decide +kernel
theorem dX6_setBehaviour_5 : decode cX6_setBehaviour 5 = .ok (.invokevirtual 93, 3) := by decide +kernel
theorem dX6_setBehaviour_8 : decode cX6_setBehaviour 8 = .ok (.ifCond .eq 13, 3) := by decide +kernel
theorem dX6_setBehaviour_11 : decode cX6_setBehaviour 11 = .ok (.iload_n 2, 1) := by decide +kernel
theorem dX6_setBehaviour_12 : decode cX6_setBehaviour 12 = .ok (.ifCond .lt 9, 3) := by decide +kernel
theorem dX6_setBehaviour_15 : decode cX6_setBehaviour 15 = .ok (.iload_n 2, 1) := by decide +kernel
theorem dX6_setBehaviour_16 : decode cX6_setBehaviour 16 = .ok (.bipush 16, 2) := by decide +kernel
theorem dX6_setBehaviour_18 : decode cX6_setBehaviour 18 = .ok (.if_icmp .lt 5, 3) := by decide +kernel
theorem dX6_setBehaviour_21 : decode cX6_setBehaviour 21 = .ok (.iconst (-1), 1) := by decide +kernel
theorem dX6_setBehaviour_22 : decode cX6_setBehaviour 22 = .ok (.ireturn, 1) := by decide +kernel
theorem dX6_setBehaviour_23 : decode cX6_setBehaviour 23 = .ok (.aload_n 0, 1) := by decide +kernel
theorem dX6_setBehaviour_24 : decode cX6_setBehaviour 24 = .ok (.getfield 19, 3) := by decide +kernel
theorem dX6_setBehaviour_27 : decode cX6_setBehaviour 27 = .ok (.getfield 96, 3) := by decide +kernel
theorem dX6_setBehaviour_30 : decode cX6_setBehaviour 30 = .ok (.iload_n 1, 1) := by decide +kernel
theorem dX6_setBehaviour_31 : decode cX6_setBehaviour 31 = .ok (.iaload, 1) := by decide +kernel
theorem dX6_setBehaviour_32 : decode cX6_setBehaviour 32 = .ok (.istore_n 3, 1) := by decide +kernel
theorem dX6_setBehaviour_33 : decode cX6_setBehaviour 33 = .ok (.iload_n 3, 1) := by decide +kernel
theorem dX6_setBehaviour_34 : decode cX6_setBehaviour 34 = .ok (.iload_n 2, 1) := by decide +kernel
theorem dX6_setBehaviour_35 : decode cX6_setBehaviour 35 = .ok (.if_icmp .ne 6, 3) := by decide +kernel
theorem dX6_setBehaviour_38 : decode cX6_setBehaviour 38 = .ok (.bipush (-2), 2) := by decide +kernel
theorem dX6_setBehaviour_40 : decode cX6_setBehaviour 40 = .ok (.ireturn, 1) := by decide +kernel
theorem dX6_setBehaviour_41 : decode cX6_setBehaviour 41 = .ok (.aload_n 0, 1) := by decide +kernel
theorem dX6_setBehaviour_42 : decode cX6_setBehaviour 42 = .ok (.invokevirtual 73, 3) := by decide +kernel
theorem dX6_setBehaviour_45 : decode cX6_setBehaviour 45 = .ok (.aload_n 0, 1) := by decide +kernel
theorem dX6_setBehaviour_46 : decode cX6_setBehaviour 46 = .ok (.getfield 19, 3) := by decide +kernel
theorem dX6_setBehaviour_49 : decode cX6_setBehaviour 49 = .ok (.getfield 96, 3) := by decide +kernel
theorem dX6_setBehaviour_52 : decode cX6_setBehaviour 52 = .ok (.iload_n 1, 1) := by decide +kernel
theorem dX6_setBehaviour_53 : decode cX6_setBehaviour 53 = .ok (.iload_n 2, 1) := by decide +kernel
theorem dX6_setBehaviour_54 : decode cX6_setBehaviour 54 = .ok (.iastore, 1) := by decide +kernel
theorem dX6_setBehaviour_55 : decode cX6_setBehaviour 55 = .ok (.aload_n 0, 1) := by decide +kernel
theorem dX6_setBehaviour_56 : decode cX6_setBehaviour 56 = .ok (.getfield 19, 3) := by decide +kernel
theorem dX6_setBehaviour_59 : decode cX6_setBehaviour 59 = .ok (.invokevirtual 80, 3) := by decide +kernel
theorem dX6_setBehaviour_62 : decode cX6_setBehaviour 62 = .ok (.iload_n 3, 1) := by decide +kernel
theorem dX6_setBehaviour_63 : decode cX6_setBehaviour 63 = .ok (.ireturn, 1) := by decide +kernel
theorem dX6_setGroup_0 : decode cX6_setGroup 0 = .ok (.aload_n 0, 1) := by decide +kernel
theorem dX6_setGroup_1 : decode cX6_setGroup 1 = .ok (.getfield 19, 3) := by decide +kernel
theorem dX6_setGroup_4 : decode cX6_setGroup 4 = .ok (.iload_n 1, 1) := by decide +kernel
theorem dX6_setGroup_5 : decode cX6_setGroup 5 = .ok (.invokevirtual 86, 3) := by decide +kernel
theorem dX6_setGroup_8 : decode cX6_setGroup 8 = .ok (.ifCond .eq 13, 3) := by decide +kernel
theorem dX6_setGroup_11 : decode cX6_setGroup 11 = .ok (.iload_n 2, 1) := by decide +kernel
theorem dX6_setGroup_12 : decode cX6_setGroup 12 = .ok (.ifCond .lt 9, 3) := by decide +kernel
theorem dX6_setGroup_15 : decode cX6_setGroup 15 = .ok (.iload_n 2, 1) := by decide +kernel
theorem dX6_setGroup_16 : decode cX6_setGroup 16 = .ok (.bipush 6, 2) := by decide +kernel
theorem dX6_setGroup_18 : decode cX6_setGroup 18 = .ok (.if_icmp .lt 5, 3) := by decide +kernel
theorem dX6_setGroup_21 : decode cX6_setGroup 21 = .ok (.iconst (-1), 1) := by decide +kernel
theorem dX6_setGroup_22 : decode cX6_setGroup 22 = .ok (.ireturn, 1) := by decide +kernel
theorem dX6_setGroup_23 : decode cX6_setGroup 23 = .ok (.aload_n 0, 1) := by decide +kernel
theorem dX6_setGroup_24 : decode cX6_setGroup 24 = .ok (.getfield 19, 3) := by decide +kernel
theorem dX6_setGroup_27 : decode cX6_setGroup 27 = .ok (.getfield 99, 3) := by decide +kernel
theorem dX6_setGroup_30 : decode cX6_setGroup 30 = .ok (.iload_n 1, 1) := by decide +kernel
theorem dX6_setGroup_31 : decode cX6_setGroup 31 = .ok (.iaload, 1) := by decide +kernel
theorem dX6_setGroup_32 : decode cX6_setGroup 32 = .ok (.istore_n 3, 1) := by decide +kernel
theorem dX6_setGroup_33 : decode cX6_setGroup 33 = .ok (.iload_n 3, 1) := by decide +kernel
theorem dX6_setGroup_34 : decode cX6_setGroup 34 = .ok (.iload_n 2, 1) := by decide +kernel
theorem dX6_setGroup_35 : decode cX6_setGroup 35 = .ok (.if_icmp .ne 6, 3) := by decide +kernel
theorem dX6_setGroup_38 : decode cX6_setGroup 38 = .ok (.bipush (-2), 2) := by decide +kernel
theorem dX6_setGroup_40 : decode cX6_setGroup 40 = .ok (.ireturn, 1) := by decide +kernel
theorem dX6_setGroup_41 : decode cX6_setGroup 41 = .ok (.aload_n 0, 1) := by decide +kernel
theorem dX6_setGroup_42 : decode cX6_setGroup 42 = .ok (.invokevirtual 73, 3) := by decide +kernel
theorem dX6_setGroup_45 : decode cX6_setGroup 45 = .ok (.aload_n 0, 1) := by decide +kernel
theorem dX6_setGroup_46 : decode cX6_setGroup 46 = .ok (.getfield 19, 3) := by decide +kernel
theorem dX6_setGroup_49 : decode cX6_setGroup 49 = .ok (.getfield 99, 3) := by decide +kernel
theorem dX6_setGroup_52 : decode cX6_setGroup 52 = .ok (.iload_n 1, 1) := by decide +kernel
theorem dX6_setGroup_53 : decode cX6_setGroup 53 = .ok (.iload_n 2, 1) := by decide +kernel
theorem dX6_setGroup_54 : decode cX6_setGroup 54 = .ok (.iastore, 1) := by decide +kernel
theorem dX6_setGroup_55 : decode cX6_setGroup 55 = .ok (.aload_n 0, 1) := by decide +kernel
theorem dX6_setGroup_56 : decode cX6_setGroup 56 = .ok (.getfield 19, 3) := by decide +kernel
theorem dX6_setGroup_59 : decode cX6_setGroup 59 = .ok (.invokevirtual 80, 3) := by decide +kernel
theorem dX6_setGroup_62 : decode cX6_setGroup 62 = .ok (.iload_n 3, 1) := by decide +kernel
theorem dX6_setGroup_63 : decode cX6_setGroup 63 = .ok (.ireturn, 1) := by decide +kernel
theorem dX6_smallestRepair_0 : decode cX6_smallestRepair 0 = .ok (.aload_n 0, 1) := by decide +kernel
theorem dX6_smallestRepair_1 : decode cX6_smallestRepair 1 = .ok (.invokevirtual 123, 3) := by decide +kernel
theorem dX6_smallestRepair_4 : decode cX6_smallestRepair 4 = .ok (.iconst 1, 1) := by decide +kernel
theorem dX6_smallestRepair_5 : decode cX6_smallestRepair 5 = .ok (.aload_n 0, 1) := by decide +kernel
theorem dX6_smallestRepair_6 : decode cX6_smallestRepair 6 = .ok (.getfield 19, 3) := by decide +kernel
theorem dX6_smallestRepair_9 : decode cX6_smallestRepair 9 = .ok (.getfield 109, 3) := by decide +kernel
theorem dX6_smallestRepair_12 : decode cX6_smallestRepair 12 = .ok (.ishl, 1) := by decide +kernel
theorem dX6_smallestRepair_13 : decode cX6_smallestRepair 13 = .ok (.iconst 1, 1) := by decide +kernel
theorem dX6_smallestRepair_14 : decode cX6_smallestRepair 14 = .ok (.isub, 1) := by decide +kernel
theorem dX6_smallestRepair_15 : decode cX6_smallestRepair 15 = .ok (.istore_n 1, 1) := by decide +kernel
theorem dX6_smallestRepair_16 : decode cX6_smallestRepair 16 = .ok (.aload_n 0, 1) := by decide +kernel
theorem dX6_smallestRepair_17 : decode cX6_smallestRepair 17 = .ok (.iload_n 1, 1) := by decide +kernel
theorem dX6_smallestRepair_18 : decode cX6_smallestRepair 18 = .ok (.invokevirtual 169, 3) := by decide +kernel
theorem dX6_smallestRepair_21 : decode cX6_smallestRepair 21 = .ok (.istore_n 2, 1) := by decide +kernel
theorem dX6_smallestRepair_22 : decode cX6_smallestRepair 22 = .ok (.iconst 0, 1) := by decide +kernel
theorem dX6_smallestRepair_23 : decode cX6_smallestRepair 23 = .ok (.istore_n 3, 1) := by decide +kernel
theorem dX6_smallestRepair_24 : decode cX6_smallestRepair 24 = .ok (.iload_n 3, 1) := by decide +kernel
theorem dX6_smallestRepair_25 : decode cX6_smallestRepair 25 = .ok (.aload_n 0, 1) := by decide +kernel
theorem dX6_smallestRepair_26 : decode cX6_smallestRepair 26 = .ok (.getfield 19, 3) := by decide +kernel
theorem dX6_smallestRepair_29 : decode cX6_smallestRepair 29 = .ok (.getfield 109, 3) := by decide +kernel
theorem dX6_smallestRepair_32 : decode cX6_smallestRepair 32 = .ok (.if_icmp .ge 65, 3) := by decide +kernel
theorem dX6_smallestRepair_35 : decode cX6_smallestRepair 35 = .ok (.iconst 0, 1) := by decide +kernel
theorem dX6_smallestRepair_36 : decode cX6_smallestRepair 36 = .ok (.istore 4, 2) := by decide +kernel
theorem dX6_smallestRepair_38 : decode cX6_smallestRepair 38 = .ok (.iload 4, 2) := by decide +kernel
theorem dX6_smallestRepair_40 : decode cX6_smallestRepair 40 = .ok (.iload_n 1, 1) := by decide +kernel
theorem dX6_smallestRepair_41 : decode cX6_smallestRepair 41 = .ok (.if_icmp .ge 50, 3) := by decide +kernel
theorem dX6_smallestRepair_44 : decode cX6_smallestRepair 44 = .ok (.iload 4, 2) := by decide +kernel
theorem dX6_smallestRepair_46 : decode cX6_smallestRepair 46 = .ok (.invokestatic 172, 3) := by decide +kernel
theorem dX6_smallestRepair_49 : decode cX6_smallestRepair 49 = .ok (.iload_n 3, 1) := by decide +kernel
theorem dX6_smallestRepair_50 : decode cX6_smallestRepair 50 = .ok (.if_icmp .ne 15, 3) := by decide +kernel
theorem dX6_smallestRepair_53 : decode cX6_smallestRepair 53 = .ok (.iload 4, 2) := by decide +kernel
theorem dX6_smallestRepair_55 : decode cX6_smallestRepair 55 = .ok (.iload_n 2, 1) := by decide +kernel
theorem dX6_smallestRepair_56 : decode cX6_smallestRepair 56 = .ok (.iand, 1) := by decide +kernel
theorem dX6_smallestRepair_57 : decode cX6_smallestRepair 57 = .ok (.iload_n 2, 1) := by decide +kernel
theorem dX6_smallestRepair_58 : decode cX6_smallestRepair 58 = .ok (.if_icmp .ne 7, 3) := by decide +kernel
theorem dX6_smallestRepair_61 : decode cX6_smallestRepair 61 = .ok (.iconst 1, 1) := by decide +kernel
theorem dX6_smallestRepair_62 : decode cX6_smallestRepair 62 = .ok (.goto 4, 3) := by decide +kernel
theorem dX6_smallestRepair_65 : decode cX6_smallestRepair 65 = .ok (.iconst 0, 1) := by decide +kernel
theorem dX6_smallestRepair_66 : decode cX6_smallestRepair 66 = .ok (.istore 5, 2) := by decide +kernel
theorem dX6_smallestRepair_68 : decode cX6_smallestRepair 68 = .ok (.iload 5, 2) := by decide +kernel
theorem dX6_smallestRepair_70 : decode cX6_smallestRepair 70 = .ok (.ifCond .eq 15, 3) := by decide +kernel
theorem dX6_smallestRepair_73 : decode cX6_smallestRepair 73 = .ok (.aload_n 0, 1) := by decide +kernel
theorem dX6_smallestRepair_74 : decode cX6_smallestRepair 74 = .ok (.iload 4, 2) := by decide +kernel
theorem dX6_smallestRepair_76 : decode cX6_smallestRepair 76 = .ok (.invokevirtual 177, 3) := by decide +kernel
theorem dX6_smallestRepair_79 : decode cX6_smallestRepair 79 = .ok (.ifCond .eq 6, 3) := by decide +kernel
theorem dX6_smallestRepair_82 : decode cX6_smallestRepair 82 = .ok (.iload 4, 2) := by decide +kernel
theorem dX6_smallestRepair_84 : decode cX6_smallestRepair 84 = .ok (.ireturn, 1) := by decide +kernel
theorem dX6_smallestRepair_85 : decode cX6_smallestRepair 85 = .ok (.iinc 4 1, 3) := by decide +kernel
theorem dX6_smallestRepair_88 : decode cX6_smallestRepair 88 = .ok (.goto (-50), 3) := by decide +kernel
theorem dX6_smallestRepair_91 : decode cX6_smallestRepair 91 = .ok (.iinc 3 1, 3) := by decide +kernel
theorem dX6_smallestRepair_94 : decode cX6_smallestRepair 94 = .ok (.goto (-70), 3) := by decide +kernel
theorem dX6_smallestRepair_97 : decode cX6_smallestRepair 97 = .ok (.iload_n 1, 1) := by decide +kernel
theorem dX6_smallestRepair_98 : decode cX6_smallestRepair 98 = .ok (.ireturn, 1) := by decide +kernel
theorem dX6_take_0 : decode cX6_take 0 = .ok (.aload_n 0, 1) := by decide +kernel
theorem dX6_take_1 : decode cX6_take 1 = .ok (.getfield 19, 3) := by decide +kernel
theorem dX6_take_4 : decode cX6_take 4 = .ok (.iload_n 1, 1) := by decide +kernel
theorem dX6_take_5 : decode cX6_take 5 = .ok (.iconst 2, 1) := by decide +kernel
theorem dX6_take_6 : decode cX6_take 6 = .ok (.invokevirtual 180, 3) := by decide +kernel
theorem dX6_take_9 : decode cX6_take 9 = .ok (.ifCond .eq 27, 3) := by decide +kernel
theorem dX6_take_12 : decode cX6_take 12 = .ok (.aload_n 0, 1) := by decide +kernel
theorem dX6_take_13 : decode cX6_take 13 = .ok (.getfield 19, 3) := by decide +kernel
theorem dX6_take_16 : decode cX6_take 16 = .ok (.iload_n 2, 1) := by decide +kernel
theorem dX6_take_17 : decode cX6_take 17 = .ok (.bipush 8, 2) := by decide +kernel
theorem dX6_take_19 : decode cX6_take 19 = .ok (.invokevirtual 180, 3) := by decide +kernel
theorem dX6_take_22 : decode cX6_take 22 = .ok (.ifCond .eq 14, 3) := by decide +kernel
theorem dX6_take_25 : decode cX6_take 25 = .ok (.aload_n 0, 1) := by decide +kernel
theorem dX6_take_26 : decode cX6_take 26 = .ok (.getfield 19, 3) := by decide +kernel
theorem dX6_take_29 : decode cX6_take 29 = .ok (.iload_n 3, 1) := by decide +kernel
theorem dX6_take_30 : decode cX6_take 30 = .ok (.invokevirtual 86, 3) := by decide +kernel
theorem dX6_take_33 : decode cX6_take 33 = .ok (.ifCond .ne 5, 3) := by decide +kernel
theorem dX6_take_36 : decode cX6_take 36 = .ok (.iconst (-1), 1) := by decide +kernel
theorem dX6_take_37 : decode cX6_take 37 = .ok (.ireturn, 1) := by decide +kernel
theorem dX6_take_38 : decode cX6_take 38 = .ok (.aload_n 0, 1) := by decide +kernel
theorem dX6_take_39 : decode cX6_take 39 = .ok (.getfield 19, 3) := by decide +kernel
theorem dX6_take_42 : decode cX6_take 42 = .ok (.iload_n 1, 1) := by decide +kernel
theorem dX6_take_43 : decode cX6_take 43 = .ok (.iload_n 2, 1) := by decide +kernel
theorem dX6_take_44 : decode cX6_take 44 = .ok (.invokevirtual 183, 3) := by decide +kernel
theorem dX6_take_47 : decode cX6_take 47 = .ok (.ifCond .eq 15, 3) := by decide +kernel
theorem dX6_take_50 : decode cX6_take 50 = .ok (.aload_n 0, 1) := by decide +kernel
theorem dX6_take_51 : decode cX6_take 51 = .ok (.getfield 19, 3) := by decide +kernel
theorem dX6_take_54 : decode cX6_take 54 = .ok (.iload_n 2, 1) := by decide +kernel
theorem dX6_take_55 : decode cX6_take 55 = .ok (.iload_n 3, 1) := by decide +kernel
theorem dX6_take_56 : decode cX6_take 56 = .ok (.invokevirtual 183, 3) := by decide +kernel
theorem dX6_take_59 : decode cX6_take 59 = .ok (.ifCond .ne 6, 3) := by decide +kernel
theorem dX6_take_62 : decode cX6_take 62 = .ok (.bipush (-2), 2) := by decide +kernel
theorem dX6_take_64 : decode cX6_take 64 = .ok (.ireturn, 1) := by decide +kernel
theorem dX6_take_65 : decode cX6_take 65 = .ok (.aload_n 0, 1) := by decide +kernel
theorem dX6_take_66 : decode cX6_take 66 = .ok (.invokevirtual 73, 3) := by decide +kernel
theorem dX6_take_69 : decode cX6_take 69 = .ok (.aload_n 0, 1) := by decide +kernel
theorem dX6_take_70 : decode cX6_take 70 = .ok (.getfield 19, 3) := by decide +kernel
theorem dX6_take_73 : decode cX6_take 73 = .ok (.iload_n 1, 1) := by decide +kernel
theorem dX6_take_74 : decode cX6_take 74 = .ok (.iload_n 3, 1) := by decide +kernel
theorem dX6_take_75 : decode cX6_take 75 = .ok (.invokestatic 186, 3) := by decide +kernel
theorem dX6_take_78 : decode cX6_take 78 = .ok (.invokevirtual 189, 3) := by decide +kernel
theorem dX6_take_81 : decode cX6_take 81 = .ok (.ireturn, 1) := by decide +kernel
theorem dX6_undo_0 : decode cX6_undo 0 = .ok (.aload_n 0, 1) := by decide +kernel
theorem dX6_undo_1 : decode cX6_undo 1 = .ok (.getfield 29, 3) := by decide +kernel
theorem dX6_undo_4 : decode cX6_undo 4 = .ok (.getfield 208, 3) := by decide +kernel
theorem dX6_undo_7 : decode cX6_undo 7 = .ok (.ifCond .gt 6, 3) := by decide +kernel
theorem dX6_undo_10 : decode cX6_undo 10 = .ok (.bipush (-2), 2) := by decide +kernel
theorem dX6_undo_12 : decode cX6_undo 12 = .ok (.ireturn, 1) := by decide +kernel
theorem dX6_undo_13 : decode cX6_undo 13 = .ok (.aload_n 0, 1) := by decide +kernel
theorem dX6_undo_14 : decode cX6_undo 14 = .ok (.getfield 29, 3) := by decide +kernel
theorem dX6_undo_17 : decode cX6_undo 17 = .ok (.aload_n 0, 1) := by decide +kernel
theorem dX6_undo_18 : decode cX6_undo 18 = .ok (.getfield 19, 3) := by decide +kernel
theorem dX6_undo_21 : decode cX6_undo 21 = .ok (.invokevirtual 211, 3) := by decide +kernel
theorem dX6_undo_24 : decode cX6_undo 24 = .ok (.aload_n 0, 1) := by decide +kernel
theorem dX6_undo_25 : decode cX6_undo 25 = .ok (.iconst 0, 1) := by decide +kernel
theorem dX6_undo_26 : decode cX6_undo 26 = .ok (.putfield 57, 3) := by decide +kernel
theorem dX6_undo_29 : decode cX6_undo 29 = .ok (.aload_n 0, 1) := by decide +kernel
theorem dX6_undo_30 : decode cX6_undo 30 = .ok (.getfield 29, 3) := by decide +kernel
theorem dX6_undo_33 : decode cX6_undo 33 = .ok (.getfield 208, 3) := by decide +kernel
theorem dX6_undo_36 : decode cX6_undo 36 = .ok (.ireturn, 1) := by decide +kernel
theorem dX6_undoDepth_0 : decode cX6_undoDepth 0 = .ok (.aload_n 0, 1) := by decide +kernel
theorem dX6_undoDepth_1 : decode cX6_undoDepth 1 = .ok (.getfield 29, 3) := by decide +kernel
theorem dX6_undoDepth_4 : decode cX6_undoDepth 4 = .ok (.getfield 208, 3) := by decide +kernel
theorem dX6_undoDepth_7 : decode cX6_undoDepth 7 = .ok (.ireturn, 1) := by decide +kernel
theorem dX6_violationCount_0 : decode cX6_violationCount 0 = .ok (.aload_n 0, 1) := by decide +kernel
theorem dX6_violationCount_1 : decode cX6_violationCount 1 = .ok (.invokevirtual 123, 3) := by decide +kernel
theorem dX6_violationCount_4 : decode cX6_violationCount 4 = .ok (.aload_n 0, 1) := by decide +kernel
theorem dX6_violationCount_5 : decode cX6_violationCount 5 = .ok (.getfield 19, 3) := by decide +kernel
theorem dX6_violationCount_8 : decode cX6_violationCount 8 = .ok (.aload_n 0, 1) := by decide +kernel
theorem dX6_violationCount_9 : decode cX6_violationCount 9 = .ok (.getfield 43, 3) := by decide +kernel
theorem dX6_violationCount_12 : decode cX6_violationCount 12 = .ok (.getfield 126, 3) := by decide +kernel
theorem dX6_violationCount_15 : decode cX6_violationCount 15 = .ok (.invokevirtual 165, 3) := by decide +kernel
theorem dX6_violationCount_18 : decode cX6_violationCount 18 = .ok (.ireturn, 1) := by decide +kernel
theorem dX7_addReference_0 : decode cX7_addReference 0 = .ok (.aload_n 0, 1) := by decide +kernel
theorem dX7_addReference_1 : decode cX7_addReference 1 = .ok (.iconst 0, 1) := by decide +kernel
theorem dX7_addReference_2 : decode cX7_addReference 2 = .ok (.putfield 32, 3) := by decide +kernel
theorem dX7_addReference_5 : decode cX7_addReference 5 = .ok (.aload_n 0, 1) := by decide +kernel
theorem dX7_addReference_6 : decode cX7_addReference 6 = .ok (.getfield 7, 3) := by decide +kernel
theorem dX7_addReference_9 : decode cX7_addReference 9 = .ok (.iload_n 1, 1) := by decide +kernel
theorem dX7_addReference_10 : decode cX7_addReference 10 = .ok (.invokestatic 84, 3) := by decide +kernel
theorem dX7_addReference_13 : decode cX7_addReference 13 = .ok (.ifCond .eq 11, 3) := by decide +kernel
theorem dX7_addReference_16 : decode cX7_addReference 16 = .ok (.aload_n 0, 1) := by decide +kernel
theorem dX7_addReference_17 : decode cX7_addReference 17 = .ok (.iload_n 2, 1) := by decide +kernel
theorem dX7_addReference_18 : decode cX7_addReference 18 = .ok (.invokevirtual 108, 3) := by decide +kernel
theorem dX7_addReference_21 : decode cX7_addReference 21 = .ok (.ifCond .ne 5, 3) := by decide +kernel
theorem dX7_addReference_24 : decode cX7_addReference 24 = .ok (.iconst (-1), 1) := by decide +kernel
theorem dX7_addReference_25 : decode cX7_addReference 25 = .ok (.ireturn, 1) := by decide +kernel
theorem dX7_addReference_26 : decode cX7_addReference 26 = .ok (.aload_n 0, 1) := by decide +kernel
theorem dX7_addReference_27 : decode cX7_addReference 27 = .ok (.getfield 7, 3) := by decide +kernel
theorem dX7_addReference_30 : decode cX7_addReference 30 = .ok (.iload_n 1, 1) := by decide +kernel
theorem dX7_addReference_31 : decode cX7_addReference 31 = .ok (.iload_n 2, 1) := by decide +kernel
theorem dX7_addReference_32 : decode cX7_addReference 32 = .ok (.invokestatic 88, 3) := by decide +kernel
theorem dX7_addReference_35 : decode cX7_addReference 35 = .ok (.bipush (-9), 2) := by decide +kernel
theorem dX7_addReference_37 : decode cX7_addReference 37 = .ok (.if_icmp .eq 6, 3) := by decide +kernel
theorem dX7_addReference_40 : decode cX7_addReference 40 = .ok (.bipush (-2), 2) := by decide +kernel
theorem dX7_addReference_42 : decode cX7_addReference 42 = .ok (.ireturn, 1) := by decide +kernel
theorem dX7_addReference_43 : decode cX7_addReference 43 = .ok (.aload_n 0, 1) := by decide +kernel
theorem dX7_addReference_44 : decode cX7_addReference 44 = .ok (.getfield 7, 3) := by decide +kernel
theorem dX7_addReference_47 : decode cX7_addReference 47 = .ok (.bipush 41, 2) := by decide +kernel
theorem dX7_addReference_49 : decode cX7_addReference 49 = .ok (.iaload, 1) := by decide +kernel
theorem dX7_addReference_50 : decode cX7_addReference 50 = .ok (.bipush 10, 2) := by decide +kernel
theorem dX7_addReference_52 : decode cX7_addReference 52 = .ok (.if_icmp .ne 6, 3) := by decide +kernel
theorem dX7_addReference_55 : decode cX7_addReference 55 = .ok (.bipush (-3), 2) := by decide +kernel
theorem dX7_addReference_57 : decode cX7_addReference 57 = .ok (.ireturn, 1) := by decide +kernel
theorem dX7_addReference_58 : decode cX7_addReference 58 = .ok (.aload_n 0, 1) := by decide +kernel
theorem dX7_addReference_59 : decode cX7_addReference 59 = .ok (.invokevirtual 99, 3) := by decide +kernel
theorem dX7_addReference_62 : decode cX7_addReference 62 = .ok (.aload_n 0, 1) := by decide +kernel
theorem dX7_addReference_63 : decode cX7_addReference 63 = .ok (.getfield 7, 3) := by decide +kernel
theorem dX7_addReference_66 : decode cX7_addReference 66 = .ok (.bipush 42, 2) := by decide +kernel
theorem dX7_addReference_68 : decode cX7_addReference 68 = .ok (.iconst 2, 1) := by decide +kernel
theorem dX7_addReference_69 : decode cX7_addReference 69 = .ok (.aload_n 0, 1) := by decide +kernel
theorem dX7_addReference_70 : decode cX7_addReference 70 = .ok (.getfield 7, 3) := by decide +kernel
theorem dX7_addReference_73 : decode cX7_addReference 73 = .ok (.bipush 41, 2) := by decide +kernel
theorem dX7_addReference_75 : decode cX7_addReference 75 = .ok (.iaload, 1) := by decide +kernel
theorem dX7_addReference_76 : decode cX7_addReference 76 = .ok (.imul, 1) := by decide +kernel
theorem dX7_addReference_77 : decode cX7_addReference 77 = .ok (.iadd, 1) := by decide +kernel
theorem dX7_addReference_78 : decode cX7_addReference 78 = .ok (.iload_n 1, 1) := by decide +kernel
theorem dX7_addReference_79 : decode cX7_addReference 79 = .ok (.iastore, 1) := by decide +kernel
theorem dX7_addReference_80 : decode cX7_addReference 80 = .ok (.aload_n 0, 1) := by decide +kernel
theorem dX7_addReference_81 : decode cX7_addReference 81 = .ok (.getfield 7, 3) := by decide +kernel
theorem dX7_addReference_84 : decode cX7_addReference 84 = .ok (.bipush 42, 2) := by decide +kernel
theorem dX7_addReference_86 : decode cX7_addReference 86 = .ok (.iconst 2, 1) := by decide +kernel
theorem dX7_addReference_87 : decode cX7_addReference 87 = .ok (.aload_n 0, 1) := by decide +kernel
theorem dX7_addReference_88 : decode cX7_addReference 88 = .ok (.getfield 7, 3) := by decide +kernel
theorem dX7_addReference_91 : decode cX7_addReference 91 = .ok (.bipush 41, 2) := by decide +kernel
theorem dX7_addReference_93 : decode cX7_addReference 93 = .ok (.iaload, 1) := by decide +kernel
theorem dX7_addReference_94 : decode cX7_addReference 94 = .ok (.imul, 1) := by decide +kernel
theorem dX7_addReference_95 : decode cX7_addReference 95 = .ok (.iadd, 1) := by decide +kernel
theorem dX7_addReference_96 : decode cX7_addReference 96 = .ok (.iconst 1, 1) := by decide +kernel
theorem dX7_addReference_97 : decode cX7_addReference 97 = .ok (.iadd, 1) := by decide +kernel
theorem dX7_addReference_98 : decode cX7_addReference 98 = .ok (.iload_n 2, 1) := by decide +kernel
theorem dX7_addReference_99 : decode cX7_addReference 99 = .ok (.iastore, 1) := by decide +kernel
theorem dX7_addReference_100 : decode cX7_addReference 100 = .ok (.aload_n 0, 1) := by decide +kernel
theorem dX7_addReference_101 : decode cX7_addReference 101 = .ok (.getfield 7, 3) := by decide +kernel
theorem dX7_addReference_104 : decode cX7_addReference 104 = .ok (.bipush 41, 2) := by decide +kernel
theorem dX7_addReference_106 : decode cX7_addReference 106 = .ok (.dup2, 1) := by decide +kernel
theorem dX7_addReference_107 : decode cX7_addReference 107 = .ok (.iaload, 1) := by decide +kernel
theorem dX7_addReference_108 : decode cX7_addReference 108 = .ok (.iconst 1, 1) := by decide +kernel
theorem dX7_addReference_109 : decode cX7_addReference 109 = .ok (.iadd, 1) := by decide +kernel
theorem dX7_addReference_110 : decode cX7_addReference 110 = .ok (.iastore, 1) := by decide +kernel
theorem dX7_addReference_111 : decode cX7_addReference 111 = .ok (.aload_n 0, 1) := by decide +kernel
theorem dX7_addReference_112 : decode cX7_addReference 112 = .ok (.invokevirtual 102, 3) := by decide +kernel
theorem dX7_addReference_115 : decode cX7_addReference 115 = .ok (.aload_n 0, 1) := by decide +kernel
theorem dX7_addReference_116 : decode cX7_addReference 116 = .ok (.getfield 7, 3) := by decide +kernel
theorem dX7_addReference_119 : decode cX7_addReference 119 = .ok (.bipush 41, 2) := by decide +kernel
theorem dX7_addReference_121 : decode cX7_addReference 121 = .ok (.iaload, 1) := by decide +kernel
theorem dX7_addReference_122 : decode cX7_addReference 122 = .ok (.ireturn, 1) := by decide +kernel
theorem dX7_advance_0 : decode cX7_advance 0 = .ok (.aload_n 0, 1) := by decide +kernel
theorem dX7_advance_1 : decode cX7_advance 1 = .ok (.aload_n 0, 1) := by decide +kernel
theorem dX7_advance_2 : decode cX7_advance 2 = .ok (.getfield 42, 3) := by decide +kernel
theorem dX7_advance_5 : decode cX7_advance 5 = .ok (.invokevirtual 49, 3) := by decide +kernel
theorem dX7_advance_8 : decode cX7_advance 8 = .ok (.bipush 32, 2) := by decide +kernel
theorem dX7_advance_10 : decode cX7_advance 10 = .ok (.if_icmp .ne 16, 3) := by decide +kernel
theorem dX7_advance_13 : decode cX7_advance 13 = .ok (.aload_n 0, 1) := by decide +kernel
theorem dX7_advance_14 : decode cX7_advance 14 = .ok (.dup, 1) := by decide +kernel
theorem dX7_advance_15 : decode cX7_advance 15 = .ok (.getfield 42, 3) := by decide +kernel
theorem dX7_advance_18 : decode cX7_advance 18 = .ok (.iconst 1, 1) := by decide +kernel
theorem dX7_advance_19 : decode cX7_advance 19 = .ok (.iadd, 1) := by decide +kernel
theorem dX7_advance_20 : decode cX7_advance 20 = .ok (.putfield 42, 3) := by decide +kernel
theorem dX7_advance_23 : decode cX7_advance 23 = .ok (.goto (-23), 3) := by decide +kernel
theorem dX7_advance_26 : decode cX7_advance 26 = .ok (.aload_n 0, 1) := by decide +kernel
theorem dX7_advance_27 : decode cX7_advance 27 = .ok (.aload_n 0, 1) := by decide +kernel
theorem dX7_advance_28 : decode cX7_advance 28 = .ok (.getfield 42, 3) := by decide +kernel
theorem dX7_advance_31 : decode cX7_advance 31 = .ok (.putfield 39, 3) := by decide +kernel
theorem dX7_advance_34 : decode cX7_advance 34 = .ok (.aload_n 0, 1) := by decide +kernel
theorem dX7_advance_35 : decode cX7_advance 35 = .ok (.aload_n 0, 1) := by decide +kernel
theorem dX7_advance_36 : decode cX7_advance 36 = .ok (.getfield 42, 3) := by decide +kernel
theorem dX7_advance_39 : decode cX7_advance 39 = .ok (.invokevirtual 49, 3) := by decide +kernel
theorem dX7_advance_42 : decode cX7_advance 42 = .ok (.istore_n 1, 1) := by decide +kernel
theorem dX7_advance_43 : decode cX7_advance 43 = .ok (.iload_n 1, 1) := by decide +kernel
theorem dX7_advance_44 : decode cX7_advance 44 = .ok (.ifCond .ge 11, 3) := by decide +kernel
theorem dX7_advance_47 : decode cX7_advance 47 = .ok (.aload_n 0, 1) := by decide +kernel
theorem dX7_advance_48 : decode cX7_advance 48 = .ok (.iconst 0, 1) := by decide +kernel
theorem dX7_advance_49 : decode cX7_advance 49 = .ok (.putfield 53, 3) := by decide +kernel
theorem dX7_advance_52 : decode cX7_advance 52 = .ok (.goto 230, 3) := by decide +kernel
theorem dX7_advance_55 : decode cX7_advance 55 = .ok (.iload_n 1, 1) := by decide +kernel
theorem dX7_advance_56 : decode cX7_advance 56 = .ok (.bipush 97, 2) := by decide +kernel
theorem dX7_advance_58 : decode cX7_advance 58 = .ok (.bipush 122, 2) := by decide +kernel
theorem dX7_advance_60 : decode cX7_advance 60 = .ok (.invokestatic 56, 3) := by decide +kernel
theorem dX7_advance_63 : decode cX7_advance 63 = .ok (.ifCond .eq 50, 3) := by decide +kernel
theorem dX7_advance_66 : decode cX7_advance 66 = .ok (.aload_n 0, 1) := by decide +kernel
theorem dX7_advance_67 : decode cX7_advance 67 = .ok (.aload_n 0, 1) := by decide +kernel
theorem dX7_advance_68 : decode cX7_advance 68 = .ok (.getfield 42, 3) := by decide +kernel
theorem dX7_advance_71 : decode cX7_advance 71 = .ok (.invokevirtual 49, 3) := by decide +kernel
theorem dX7_advance_74 : decode cX7_advance 74 = .ok (.bipush 97, 2) := by decide +kernel
theorem dX7_advance_76 : decode cX7_advance 76 = .ok (.bipush 122, 2) := by decide +kernel
theorem dX7_advance_78 : decode cX7_advance 78 = .ok (.invokestatic 56, 3) := by decide +kernel
theorem dX7_advance_81 : decode cX7_advance 81 = .ok (.ifCond .eq 16, 3) := by decide +kernel
theorem dX7_advance_84 : decode cX7_advance 84 = .ok (.aload_n 0, 1) := by decide +kernel
theorem dX7_advance_85 : decode cX7_advance 85 = .ok (.dup, 1) := by decide +kernel
