theorem dX0_countDerived_0 : decode cX0_countDerived 0 = .ok (.aload_n 0, 1) := by decide +kernel
theorem dX0_countDerived_1 : decode cX0_countDerived 1 = .ok (.getfield 37, 3) := by decide +kernel
theorem dX0_countDerived_4 : decode cX0_countDerived 4 = .ok (.iconst 0, 1) := by decide +kernel
theorem dX0_countDerived_5 : decode cX0_countDerived 5 = .ok (.invokestatic 46, 3) := by decide +kernel
theorem dX0_countDerived_8 : decode cX0_countDerived 8 = .ok (.aload_n 0, 1) := by decide +kernel
theorem dX0_countDerived_9 : decode cX0_countDerived 9 = .ok (.iconst 0, 1) := by decide +kernel
theorem dX0_countDerived_10 : decode cX0_countDerived 10 = .ok (.putfield 43, 3) := by decide +kernel
theorem dX0_countDerived_13 : decode cX0_countDerived 13 = .ok (.aload_n 0, 1) := by decide +kernel
theorem dX0_countDerived_14 : decode cX0_countDerived 14 = .ok (.iload_n 1, 1) := by decide +kernel
theorem dX0_countDerived_15 : decode cX0_countDerived 15 = .ok (.invokevirtual 128, 3) := by decide +kernel
theorem dX0_countDerived_18 : decode cX0_countDerived 18 = .ok (.iconst 0, 1) := by decide +kernel
theorem dX0_countDerived_19 : decode cX0_countDerived 19 = .ok (.istore_n 2, 1) := by decide +kernel
theorem dX0_countDerived_20 : decode cX0_countDerived 20 = .ok (.iconst 0, 1) := by decide +kernel
theorem dX0_countDerived_21 : decode cX0_countDerived 21 = .ok (.istore_n 3, 1) := by decide +kernel
theorem dX0_countDerived_22 : decode cX0_countDerived 22 = .ok (.iload_n 3, 1) := by decide +kernel
theorem dX0_countDerived_23 : decode cX0_countDerived 23 = .ok (.aload_n 0, 1) := by decide +kernel
theorem dX0_countDerived_24 : decode cX0_countDerived 24 = .ok (.getfield 43, 3) := by decide +kernel
theorem dX0_countDerived_27 : decode cX0_countDerived 27 = .ok (.if_icmp .ge 58, 3) := by decide +kernel
theorem dX0_countDerived_30 : decode cX0_countDerived 30 = .ok (.iload_n 3, 1) := by decide +kernel
theorem dX0_countDerived_31 : decode cX0_countDerived 31 = .ok (.bipush 100, 2) := by decide +kernel
theorem dX0_countDerived_33 : decode cX0_countDerived 33 = .ok (.if_icmp .ge 52, 3) := by decide +kernel
theorem dX0_countDerived_36 : decode cX0_countDerived 36 = .ok (.aload_n 0, 1) := by decide +kernel
theorem dX0_countDerived_37 : decode cX0_countDerived 37 = .ok (.getfield 40, 3) := by decide +kernel
theorem dX0_countDerived_40 : decode cX0_countDerived 40 = .ok (.iload_n 3, 1) := by decide +kernel
theorem dX0_countDerived_41 : decode cX0_countDerived 41 = .ok (.iaload, 1) := by decide +kernel
theorem dX0_countDerived_42 : decode cX0_countDerived 42 = .ok (.istore 4, 2) := by decide +kernel
theorem dX0_countDerived_44 : decode cX0_countDerived 44 = .ok (.aload_n 0, 1) := by decide +kernel
theorem dX0_countDerived_45 : decode cX0_countDerived 45 = .ok (.getfield 18, 3) := by decide +kernel
theorem dX0_countDerived_48 : decode cX0_countDerived 48 = .ok (.iload 4, 2) := by decide +kernel
theorem dX0_countDerived_50 : decode cX0_countDerived 50 = .ok (.iaload, 1) := by decide +kernel
theorem dX0_countDerived_51 : decode cX0_countDerived 51 = .ok (.ifCond .le 28, 3) := by decide +kernel
theorem dX0_countDerived_54 : decode cX0_countDerived 54 = .ok (.iinc 2 1, 3) := by decide +kernel
theorem dX0_countDerived_57 : decode cX0_countDerived 57 = .ok (.aload_n 0, 1) := by decide +kernel
theorem dX0_countDerived_58 : decode cX0_countDerived 58 = .ok (.aload_n 0, 1) := by decide +kernel
theorem dX0_countDerived_59 : decode cX0_countDerived 59 = .ok (.getfield 27, 3) := by decide +kernel
theorem dX0_countDerived_62 : decode cX0_countDerived 62 = .ok (.iload 4, 2) := by decide +kernel
theorem dX0_countDerived_64 : decode cX0_countDerived 64 = .ok (.iaload, 1) := by decide +kernel
theorem dX0_countDerived_65 : decode cX0_countDerived 65 = .ok (.invokevirtual 128, 3) := by decide +kernel
theorem dX0_countDerived_68 : decode cX0_countDerived 68 = .ok (.aload_n 0, 1) := by decide +kernel
theorem dX0_countDerived_69 : decode cX0_countDerived 69 = .ok (.aload_n 0, 1) := by decide +kernel
theorem dX0_countDerived_70 : decode cX0_countDerived 70 = .ok (.getfield 30, 3) := by decide +kernel
theorem dX0_countDerived_73 : decode cX0_countDerived 73 = .ok (.iload 4, 2) := by decide +kernel
theorem dX0_countDerived_75 : decode cX0_countDerived 75 = .ok (.iaload, 1) := by decide +kernel
theorem dX0_countDerived_76 : decode cX0_countDerived 76 = .ok (.invokevirtual 128, 3) := by decide +kernel
theorem dX0_countDerived_79 : decode cX0_countDerived 79 = .ok (.iinc 3 1, 3) := by decide +kernel
theorem dX0_countDerived_82 : decode cX0_countDerived 82 = .ok (.goto (-60), 3) := by decide +kernel
theorem dX0_countDerived_85 : decode cX0_countDerived 85 = .ok (.iload_n 2, 1) := by decide +kernel
theorem dX0_countDerived_86 : decode cX0_countDerived 86 = .ok (.ireturn, 1) := by decide +kernel
theorem dX0_enqueue_0 : decode cX0_enqueue 0 = .ok (.iload_n 1, 1) := by decide +kernel
theorem dX0_enqueue_1 : decode cX0_enqueue 1 = .ok (.ifCond .lt 27, 3) := by decide +kernel
theorem dX0_enqueue_4 : decode cX0_enqueue 4 = .ok (.iload_n 1, 1) := by decide +kernel
theorem dX0_enqueue_5 : decode cX0_enqueue 5 = .ok (.bipush 100, 2) := by decide +kernel
theorem dX0_enqueue_7 : decode cX0_enqueue 7 = .ok (.if_icmp .ge 21, 3) := by decide +kernel
theorem dX0_enqueue_10 : decode cX0_enqueue 10 = .ok (.aload_n 0, 1) := by decide +kernel
theorem dX0_enqueue_11 : decode cX0_enqueue 11 = .ok (.getfield 37, 3) := by decide +kernel
theorem dX0_enqueue_14 : decode cX0_enqueue 14 = .ok (.iload_n 1, 1) := by decide +kernel
theorem dX0_enqueue_15 : decode cX0_enqueue 15 = .ok (.iaload, 1) := by decide +kernel
theorem dX0_enqueue_16 : decode cX0_enqueue 16 = .ok (.ifCond .ne 12, 3) := by decide +kernel
theorem dX0_enqueue_19 : decode cX0_enqueue 19 = .ok (.aload_n 0, 1) := by decide +kernel
theorem dX0_enqueue_20 : decode cX0_enqueue 20 = .ok (.getfield 43, 3) := by decide +kernel
theorem dX0_enqueue_23 : decode cX0_enqueue 23 = .ok (.bipush 100, 2) := by decide +kernel
theorem dX0_enqueue_25 : decode cX0_enqueue 25 = .ok (.if_icmp .lt 4, 3) := by decide +kernel
theorem dX0_enqueue_28 : decode cX0_enqueue 28 = .ok (.return_, 1) := by decide +kernel
theorem dX0_enqueue_29 : decode cX0_enqueue 29 = .ok (.aload_n 0, 1) := by decide +kernel
theorem dX0_enqueue_30 : decode cX0_enqueue 30 = .ok (.getfield 37, 3) := by decide +kernel
theorem dX0_enqueue_33 : decode cX0_enqueue 33 = .ok (.iload_n 1, 1) := by decide +kernel
theorem dX0_enqueue_34 : decode cX0_enqueue 34 = .ok (.iconst 1, 1) := by decide +kernel
theorem dX0_enqueue_35 : decode cX0_enqueue 35 = .ok (.iastore, 1) := by decide +kernel
theorem dX0_enqueue_36 : decode cX0_enqueue 36 = .ok (.aload_n 0, 1) := by decide +kernel
theorem dX0_enqueue_37 : decode cX0_enqueue 37 = .ok (.getfield 40, 3) := by decide +kernel
theorem dX0_enqueue_40 : decode cX0_enqueue 40 = .ok (.aload_n 0, 1) := by decide +kernel
theorem dX0_enqueue_41 : decode cX0_enqueue 41 = .ok (.getfield 43, 3) := by decide +kernel
theorem dX0_enqueue_44 : decode cX0_enqueue 44 = .ok (.iload_n 1, 1) := by decide +kernel
theorem dX0_enqueue_45 : decode cX0_enqueue 45 = .ok (.iastore, 1) := by decide +kernel
theorem dX0_enqueue_46 : decode cX0_enqueue 46 = .ok (.aload_n 0, 1) := by decide +kernel
theorem dX0_enqueue_47 : decode cX0_enqueue 47 = .ok (.dup, 1) := by decide +kernel
theorem dX0_enqueue_48 : decode cX0_enqueue 48 = .ok (.getfield 43, 3) := by decide +kernel
theorem dX0_enqueue_51 : decode cX0_enqueue 51 = .ok (.iconst 1, 1) := by decide +kernel
theorem dX0_enqueue_52 : decode cX0_enqueue 52 = .ok (.iadd, 1) := by decide +kernel
theorem dX0_enqueue_53 : decode cX0_enqueue 53 = .ok (.putfield 43, 3) := by decide +kernel
theorem dX0_enqueue_56 : decode cX0_enqueue 56 = .ok (.return_, 1) := by decide +kernel
theorem dX0_findAll_0 : decode cX0_findAll 0 = .ok (.aload_n 0, 1) := by decide +kernel
theorem dX0_findAll_1 : decode cX0_findAll 1 = .ok (.getfield 18, 3) := by decide +kernel
theorem dX0_findAll_4 : decode cX0_findAll 4 = .ok (.bipush (-9), 2) := by decide +kernel
theorem dX0_findAll_6 : decode cX0_findAll 6 = .ok (.invokestatic 46, 3) := by decide +kernel
theorem dX0_findAll_9 : decode cX0_findAll 9 = .ok (.aload_n 0, 1) := by decide +kernel
theorem dX0_findAll_10 : decode cX0_findAll 10 = .ok (.getfield 21, 3) := by decide +kernel
theorem dX0_findAll_13 : decode cX0_findAll 13 = .ok (.bipush (-9), 2) := by decide +kernel
theorem dX0_findAll_15 : decode cX0_findAll 15 = .ok (.invokestatic 46, 3) := by decide +kernel
theorem dX0_findAll_18 : decode cX0_findAll 18 = .ok (.aload_n 0, 1) := by decide +kernel
theorem dX0_findAll_19 : decode cX0_findAll 19 = .ok (.getfield 24, 3) := by decide +kernel
theorem dX0_findAll_22 : decode cX0_findAll 22 = .ok (.bipush (-9), 2) := by decide +kernel
theorem dX0_findAll_24 : decode cX0_findAll 24 = .ok (.invokestatic 46, 3) := by decide +kernel
theorem dX0_findAll_27 : decode cX0_findAll 27 = .ok (.aload_n 0, 1) := by decide +kernel
theorem dX0_findAll_28 : decode cX0_findAll 28 = .ok (.getfield 15, 3) := by decide +kernel
theorem dX0_findAll_31 : decode cX0_findAll 31 = .ok (.iconst 0, 1) := by decide +kernel
theorem dX0_findAll_32 : decode cX0_findAll 32 = .ok (.invokestatic 46, 3) := by decide +kernel
theorem dX0_findAll_35 : decode cX0_findAll 35 = .ok (.aload_n 2, 1) := by decide +kernel
theorem dX0_findAll_36 : decode cX0_findAll 36 = .ok (.aload_n 0, 1) := by decide +kernel
theorem dX0_findAll_37 : decode cX0_findAll 37 = .ok (.getfield 9, 3) := by decide +kernel
theorem dX0_findAll_40 : decode cX0_findAll 40 = .ok (.iconst 0, 1) := by decide +kernel
theorem dX0_findAll_41 : decode cX0_findAll 41 = .ok (.invokevirtual 52, 3) := by decide +kernel
theorem dX0_findAll_44 : decode cX0_findAll 44 = .ok (.aload_n 0, 1) := by decide +kernel
theorem dX0_findAll_45 : decode cX0_findAll 45 = .ok (.aload_n 1, 1) := by decide +kernel
theorem dX0_findAll_46 : decode cX0_findAll 46 = .ok (.getfield 57, 3) := by decide +kernel
theorem dX0_findAll_49 : decode cX0_findAll 49 = .ok (.invokevirtual 62, 3) := by decide +kernel
theorem dX0_findAll_52 : decode cX0_findAll 52 = .ok (.aload_n 0, 1) := by decide +kernel
theorem dX0_findAll_53 : decode cX0_findAll 53 = .ok (.iconst 0, 1) := by decide +kernel
theorem dX0_findAll_54 : decode cX0_findAll 54 = .ok (.putfield 33, 3) := by decide +kernel
theorem dX0_findAll_57 : decode cX0_findAll 57 = .ok (.iconst 1, 1) := by decide +kernel
theorem dX0_findAll_58 : decode cX0_findAll 58 = .ok (.istore_n 3, 1) := by decide +kernel
theorem dX0_findAll_59 : decode cX0_findAll 59 = .ok (.iload_n 3, 1) := by decide +kernel
theorem dX0_findAll_60 : decode cX0_findAll 60 = .ok (.bipush 100, 2) := by decide +kernel
theorem dX0_findAll_62 : decode cX0_findAll 62 = .ok (.if_icmp .gt 23, 3) := by decide +kernel
theorem dX0_findAll_65 : decode cX0_findAll 65 = .ok (.aload_n 0, 1) := by decide +kernel
theorem dX0_findAll_66 : decode cX0_findAll 66 = .ok (.aload_n 1, 1) := by decide +kernel
theorem dX0_findAll_67 : decode cX0_findAll 67 = .ok (.iload_n 3, 1) := by decide +kernel
theorem dX0_findAll_68 : decode cX0_findAll 68 = .ok (.invokevirtual 66, 3) := by decide +kernel
theorem dX0_findAll_71 : decode cX0_findAll 71 = .ok (.ifCond .eq 14, 3) := by decide +kernel
theorem dX0_findAll_74 : decode cX0_findAll 74 = .ok (.aload_n 0, 1) := by decide +kernel
theorem dX0_findAll_75 : decode cX0_findAll 75 = .ok (.iload_n 3, 1) := by decide +kernel
theorem dX0_findAll_76 : decode cX0_findAll 76 = .ok (.putfield 33, 3) := by decide +kernel
theorem dX0_findAll_79 : decode cX0_findAll 79 = .ok (.iinc 3 1, 3) := by decide +kernel
theorem dX0_findAll_82 : decode cX0_findAll 82 = .ok (.goto (-23), 3) := by decide +kernel
theorem dX0_findAll_85 : decode cX0_findAll 85 = .ok (.return_, 1) := by decide +kernel
theorem dX0_findEndowment_0 : decode cX0_findEndowment 0 = .ok (.aload_n 1, 1) := by decide +kernel
theorem dX0_findEndowment_1 : decode cX0_findEndowment 1 = .ok (.getfield 122, 3) := by decide +kernel
theorem dX0_findEndowment_4 : decode cX0_findEndowment 4 = .ok (.iload_n 2, 1) := by decide +kernel
theorem dX0_findEndowment_5 : decode cX0_findEndowment 5 = .ok (.iaload, 1) := by decide +kernel
theorem dX0_findEndowment_6 : decode cX0_findEndowment 6 = .ok (.aload_n 0, 1) := by decide +kernel
theorem dX0_findEndowment_7 : decode cX0_findEndowment 7 = .ok (.getfield 15, 3) := by decide +kernel
theorem dX0_findEndowment_10 : decode cX0_findEndowment 10 = .ok (.iload_n 3, 1) := by decide +kernel
theorem dX0_findEndowment_11 : decode cX0_findEndowment 11 = .ok (.iaload, 1) := by decide +kernel
theorem dX0_findEndowment_12 : decode cX0_findEndowment 12 = .ok (.iand, 1) := by decide +kernel
theorem dX0_findEndowment_13 : decode cX0_findEndowment 13 = .ok (.istore 4, 2) := by decide +kernel
theorem dX0_findEndowment_15 : decode cX0_findEndowment 15 = .ok (.iconst 0, 1) := by decide +kernel
theorem dX0_findEndowment_16 : decode cX0_findEndowment 16 = .ok (.istore 5, 2) := by decide +kernel
theorem dX0_findEndowment_18 : decode cX0_findEndowment 18 = .ok (.iload 5, 2) := by decide +kernel
theorem dX0_findEndowment_20 : decode cX0_findEndowment 20 = .ok (.aload_n 1, 1) := by decide +kernel
theorem dX0_findEndowment_21 : decode cX0_findEndowment 21 = .ok (.getfield 57, 3) := by decide +kernel
theorem dX0_findEndowment_24 : decode cX0_findEndowment 24 = .ok (.if_icmp .ge 72, 3) := by decide +kernel
theorem dX0_findEndowment_27 : decode cX0_findEndowment 27 = .ok (.iload 4, 2) := by decide +kernel
theorem dX0_findEndowment_29 : decode cX0_findEndowment 29 = .ok (.iload 5, 2) := by decide +kernel
theorem dX0_findEndowment_31 : decode cX0_findEndowment 31 = .ok (.invokestatic 70, 3) := by decide +kernel
theorem dX0_findEndowment_34 : decode cX0_findEndowment 34 = .ok (.ifCond .ne 6, 3) := by decide +kernel
theorem dX0_findEndowment_37 : decode cX0_findEndowment 37 = .ok (.goto 53, 3) := by decide +kernel
theorem dX0_findEndowment_40 : decode cX0_findEndowment 40 = .ok (.aload_n 0, 1) := by decide +kernel
theorem dX0_findEndowment_41 : decode cX0_findEndowment 41 = .ok (.getfield 15, 3) := by decide +kernel
theorem dX0_findEndowment_44 : decode cX0_findEndowment 44 = .ok (.iload 5, 2) := by decide +kernel
theorem dX0_findEndowment_46 : decode cX0_findEndowment 46 = .ok (.iaload, 1) := by decide +kernel
theorem dX0_findEndowment_47 : decode cX0_findEndowment 47 = .ok (.aload_n 1, 1) := by decide +kernel
theorem dX0_findEndowment_48 : decode cX0_findEndowment 48 = .ok (.getfield 109, 3) := by decide +kernel
theorem dX0_findEndowment_51 : decode cX0_findEndowment 51 = .ok (.iand, 1) := by decide +kernel
theorem dX0_findEndowment_52 : decode cX0_findEndowment 52 = .ok (.invokestatic 102, 3) := by decide +kernel
theorem dX0_findEndowment_55 : decode cX0_findEndowment 55 = .ok (.istore 6, 2) := by decide +kernel
theorem dX0_findEndowment_57 : decode cX0_findEndowment 57 = .ok (.iload 6, 2) := by decide +kernel
theorem dX0_findEndowment_59 : decode cX0_findEndowment 59 = .ok (.iconst (-1), 1) := by decide +kernel
theorem dX0_findEndowment_60 : decode cX0_findEndowment 60 = .ok (.if_icmp .eq 30, 3) := by decide +kernel
theorem dX0_findEndowment_63 : decode cX0_findEndowment 63 = .ok (.aload_n 0, 1) := by decide +kernel
theorem dX0_findEndowment_64 : decode cX0_findEndowment 64 = .ok (.iload_n 2, 1) := by decide +kernel
theorem dX0_findEndowment_65 : decode cX0_findEndowment 65 = .ok (.iload_n 3, 1) := by decide +kernel
theorem dX0_findEndowment_66 : decode cX0_findEndowment 66 = .ok (.invokestatic 74, 3) := by decide +kernel
theorem dX0_findEndowment_69 : decode cX0_findEndowment 69 = .ok (.iconst 5, 1) := by decide +kernel
theorem dX0_findEndowment_70 : decode cX0_findEndowment 70 = .ok (.iload 5, 2) := by decide +kernel
theorem dX0_findEndowment_72 : decode cX0_findEndowment 72 = .ok (.iload 5, 2) := by decide +kernel
theorem dX0_findEndowment_74 : decode cX0_findEndowment 74 = .ok (.iload_n 3, 1) := by decide +kernel
theorem dX0_findEndowment_75 : decode cX0_findEndowment 75 = .ok (.invokestatic 74, 3) := by decide +kernel
theorem dX0_findEndowment_78 : decode cX0_findEndowment 78 = .ok (.iload 6, 2) := by decide +kernel
theorem dX0_findEndowment_80 : decode cX0_findEndowment 80 = .ok (.iload 5, 2) := by decide +kernel
theorem dX0_findEndowment_82 : decode cX0_findEndowment 82 = .ok (.invokestatic 74, 3) := by decide +kernel
theorem dX0_findEndowment_85 : decode cX0_findEndowment 85 = .ok (.invokevirtual 105, 3) := by decide +kernel
theorem dX0_findEndowment_88 : decode cX0_findEndowment 88 = .ok (.iconst 1, 1) := by decide +kernel
theorem dX0_findEndowment_89 : decode cX0_findEndowment 89 = .ok (.ireturn, 1) := by decide +kernel
theorem dX0_findEndowment_90 : decode cX0_findEndowment 90 = .ok (.iinc 5 1, 3) := by decide +kernel
theorem dX0_findEndowment_93 : decode cX0_findEndowment 93 = .ok (.goto (-75), 3) := by decide +kernel
theorem dX0_findEndowment_96 : decode cX0_findEndowment 96 = .ok (.iconst 0, 1) := by decide +kernel
theorem dX0_findEndowment_97 : decode cX0_findEndowment 97 = .ok (.ireturn, 1) := by decide +kernel
theorem dX0_findGift_0 : decode cX0_findGift 0 = .ok (.aload_n 1, 1) := by decide +kernel
theorem dX0_findGift_1 : decode cX0_findGift 1 = .ok (.getfield 96, 3) := by decide +kernel
theorem dX0_findGift_4 : decode cX0_findGift 4 = .ok (.iload_n 2, 1) := by decide +kernel
theorem dX0_findGift_5 : decode cX0_findGift 5 = .ok (.invokestatic 70, 3) := by decide +kernel
theorem dX0_findGift_8 : decode cX0_findGift 8 = .ok (.ifCond .ne 5, 3) := by decide +kernel
theorem dX0_findGift_11 : decode cX0_findGift 11 = .ok (.iconst 0, 1) := by decide +kernel
theorem dX0_findGift_12 : decode cX0_findGift 12 = .ok (.ireturn, 1) := by decide +kernel
theorem dX0_findGift_13 : decode cX0_findGift 13 = .ok (.aload_n 1, 1) := by decide +kernel
theorem dX0_findGift_14 : decode cX0_findGift 14 = .ok (.getfield 99, 3) := by decide +kernel
theorem dX0_findGift_17 : decode cX0_findGift 17 = .ok (.aload_n 0, 1) := by decide +kernel
theorem dX0_findGift_18 : decode cX0_findGift 18 = .ok (.getfield 15, 3) := by decide +kernel
theorem dX0_findGift_21 : decode cX0_findGift 21 = .ok (.iload_n 2, 1) := by decide +kernel
theorem dX0_findGift_22 : decode cX0_findGift 22 = .ok (.iaload, 1) := by decide +kernel
theorem dX0_findGift_23 : decode cX0_findGift 23 = .ok (.iand, 1) := by decide +kernel
theorem dX0_findGift_24 : decode cX0_findGift 24 = .ok (.aload_n 0, 1) := by decide +kernel
theorem dX0_findGift_25 : decode cX0_findGift 25 = .ok (.getfield 15, 3) := by decide +kernel
theorem dX0_findGift_28 : decode cX0_findGift 28 = .ok (.iload_n 3, 1) := by decide +kernel
theorem dX0_findGift_29 : decode cX0_findGift 29 = .ok (.iaload, 1) := by decide +kernel
theorem dX0_findGift_30 : decode cX0_findGift 30 = .ok (.iload_n 3, 1) := by decide +kernel
theorem dX0_findGift_31 : decode cX0_findGift 31 = .ok (.invokestatic 78, 3) := by decide +kernel
theorem dX0_findGift_34 : decode cX0_findGift 34 = .ok (.ior, 1) := by decide +kernel
theorem dX0_findGift_35 : decode cX0_findGift 35 = .ok (.iand, 1) := by decide +kernel
theorem dX0_findGift_36 : decode cX0_findGift 36 = .ok (.invokestatic 102, 3) := by decide +kernel
theorem dX0_findGift_39 : decode cX0_findGift 39 = .ok (.istore 4, 2) := by decide +kernel
theorem dX0_findGift_41 : decode cX0_findGift 41 = .ok (.iload 4, 2) := by decide +kernel
theorem dX0_findGift_43 : decode cX0_findGift 43 = .ok (.iconst (-1), 1) := by decide +kernel
theorem dX0_findGift_44 : decode cX0_findGift 44 = .ok (.if_icmp .ne 5, 3) := by decide +kernel
theorem dX0_findGift_47 : decode cX0_findGift 47 = .ok (.iconst 0, 1) := by decide +kernel
theorem dX0_findGift_48 : decode cX0_findGift 48 = .ok (.ireturn, 1) := by decide +kernel
theorem dX0_findGift_49 : decode cX0_findGift 49 = .ok (.iload 4, 2) := by decide +kernel
theorem dX0_findGift_51 : decode cX0_findGift 51 = .ok (.iload_n 3, 1) := by decide +kernel
theorem dX0_findGift_52 : decode cX0_findGift 52 = .ok (.if_icmp .ne 7, 3) := by decide +kernel
theorem dX0_findGift_55 : decode cX0_findGift 55 = .ok (.iconst (-1), 1) := by decide +kernel
theorem dX0_findGift_56 : decode cX0_findGift 56 = .ok (.goto 9, 3) := by decide +kernel
theorem dX0_findGift_59 : decode cX0_findGift 59 = .ok (.iload 4, 2) := by decide +kernel
theorem dX0_findGift_61 : decode cX0_findGift 61 = .ok (.iload_n 3, 1) := by decide +kernel
theorem dX0_findGift_62 : decode cX0_findGift 62 = .ok (.invokestatic 74, 3) := by decide +kernel
theorem dX0_findGift_65 : decode cX0_findGift 65 = .ok (.istore 5, 2) := by decide +kernel
theorem dX0_findGift_67 : decode cX0_findGift 67 = .ok (.aload_n 0, 1) := by decide +kernel
theorem dX0_findGift_68 : decode cX0_findGift 68 = .ok (.iload_n 2, 1) := by decide +kernel
theorem dX0_findGift_69 : decode cX0_findGift 69 = .ok (.iload_n 3, 1) := by decide +kernel
theorem dX0_findGift_70 : decode cX0_findGift 70 = .ok (.invokestatic 74, 3) := by decide +kernel
theorem dX0_findGift_73 : decode cX0_findGift 73 = .ok (.iconst 1, 1) := by decide +kernel
theorem dX0_findGift_74 : decode cX0_findGift 74 = .ok (.iload 4, 2) := by decide +kernel
theorem dX0_findGift_76 : decode cX0_findGift 76 = .ok (.iload 4, 2) := by decide +kernel
theorem dX0_findGift_78 : decode cX0_findGift 78 = .ok (.iload_n 2, 1) := by decide +kernel
theorem dX0_findGift_79 : decode cX0_findGift 79 = .ok (.invokestatic 74, 3) := by decide +kernel
theorem dX0_findGift_82 : decode cX0_findGift 82 = .ok (.iload 5, 2) := by decide +kernel
theorem dX0_findGift_84 : decode cX0_findGift 84 = .ok (.invokevirtual 105, 3) := by decide +kernel
theorem dX0_findGift_87 : decode cX0_findGift 87 = .ok (.iconst 1, 1) := by decide +kernel
theorem dX0_findGift_88 : decode cX0_findGift 88 = .ok (.ireturn, 1) := by decide +kernel
theorem dX0_findInitial_0 : decode cX0_findInitial 0 = .ok (.iconst 0, 1) := by decide +kernel
theorem dX0_findInitial_1 : decode cX0_findInitial 1 = .ok (.istore_n 2, 1) := by decide +kernel
theorem dX0_findInitial_2 : decode cX0_findInitial 2 = .ok (.iload_n 2, 1) := by decide +kernel
theorem dX0_findInitial_3 : decode cX0_findInitial 3 = .ok (.iload_n 1, 1) := by decide +kernel
theorem dX0_findInitial_4 : decode cX0_findInitial 4 = .ok (.if_icmp .ge 70, 3) := by decide +kernel
theorem dX0_findInitial_7 : decode cX0_findInitial 7 = .ok (.iconst 0, 1) := by decide +kernel
theorem dX0_findInitial_8 : decode cX0_findInitial 8 = .ok (.istore_n 3, 1) := by decide +kernel
theorem dX0_findInitial_9 : decode cX0_findInitial 9 = .ok (.iload_n 3, 1) := by decide +kernel
theorem dX0_findInitial_10 : decode cX0_findInitial 10 = .ok (.iload_n 1, 1) := by decide +kernel
theorem dX0_findInitial_11 : decode cX0_findInitial 11 = .ok (.if_icmp .ge 57, 3) := by decide +kernel
theorem dX0_findInitial_14 : decode cX0_findInitial 14 = .ok (.aload_n 0, 1) := by decide +kernel
theorem dX0_findInitial_15 : decode cX0_findInitial 15 = .ok (.getfield 9, 3) := by decide +kernel
theorem dX0_findInitial_18 : decode cX0_findInitial 18 = .ok (.iload_n 2, 1) := by decide +kernel
theorem dX0_findInitial_19 : decode cX0_findInitial 19 = .ok (.iaload, 1) := by decide +kernel
theorem dX0_findInitial_20 : decode cX0_findInitial 20 = .ok (.iload_n 3, 1) := by decide +kernel
theorem dX0_findInitial_21 : decode cX0_findInitial 21 = .ok (.invokestatic 70, 3) := by decide +kernel
theorem dX0_findInitial_24 : decode cX0_findInitial 24 = .ok (.ifCond .eq 38, 3) := by decide +kernel
theorem dX0_findInitial_27 : decode cX0_findInitial 27 = .ok (.aload_n 0, 1) := by decide +kernel
theorem dX0_findInitial_28 : decode cX0_findInitial 28 = .ok (.getfield 18, 3) := by decide +kernel
theorem dX0_findInitial_31 : decode cX0_findInitial 31 = .ok (.iload_n 2, 1) := by decide +kernel
theorem dX0_findInitial_32 : decode cX0_findInitial 32 = .ok (.iload_n 3, 1) := by decide +kernel
theorem dX0_findInitial_33 : decode cX0_findInitial 33 = .ok (.invokestatic 74, 3) := by decide +kernel
theorem dX0_findInitial_36 : decode cX0_findInitial 36 = .ok (.iconst 0, 1) := by decide +kernel
theorem dX0_findInitial_37 : decode cX0_findInitial 37 = .ok (.iastore, 1) := by decide +kernel
theorem dX0_findInitial_38 : decode cX0_findInitial 38 = .ok (.aload_n 0, 1) := by decide +kernel
theorem dX0_findInitial_39 : decode cX0_findInitial 39 = .ok (.getfield 21, 3) := by decide +kernel
theorem dX0_findInitial_42 : decode cX0_findInitial 42 = .ok (.iload_n 2, 1) := by decide +kernel
theorem dX0_findInitial_43 : decode cX0_findInitial 43 = .ok (.iload_n 3, 1) := by decide +kernel
theorem dX0_findInitial_44 : decode cX0_findInitial 44 = .ok (.invokestatic 74, 3) := by decide +kernel
theorem dX0_findInitial_47 : decode cX0_findInitial 47 = .ok (.iconst 0, 1) := by decide +kernel
theorem dX0_findInitial_48 : decode cX0_findInitial 48 = .ok (.iastore, 1) := by decide +kernel
theorem dX0_findInitial_49 : decode cX0_findInitial 49 = .ok (.aload_n 0, 1) := by decide +kernel
theorem dX0_findInitial_50 : decode cX0_findInitial 50 = .ok (.getfield 15, 3) := by decide +kernel
theorem dX0_findInitial_53 : decode cX0_findInitial 53 = .ok (.iload_n 3, 1) := by decide +kernel
theorem dX0_findInitial_54 : decode cX0_findInitial 54 = .ok (.dup2, 1) := by decide +kernel
theorem dX0_findInitial_55 : decode cX0_findInitial 55 = .ok (.iaload, 1) := by decide +kernel
theorem dX0_findInitial_56 : decode cX0_findInitial 56 = .ok (.iload_n 2, 1) := by decide +kernel
theorem dX0_findInitial_57 : decode cX0_findInitial 57 = .ok (.invokestatic 78, 3) := by decide +kernel
theorem dX0_findInitial_60 : decode cX0_findInitial 60 = .ok (.ior, 1) := by decide +kernel
theorem dX0_findInitial_61 : decode cX0_findInitial 61 = .ok (.iastore, 1) := by decide +kernel
theorem dX0_findInitial_62 : decode cX0_findInitial 62 = .ok (.iinc 3 1, 3) := by decide +kernel
theorem dX0_findInitial_65 : decode cX0_findInitial 65 = .ok (.goto (-56), 3) := by decide +kernel
theorem dX0_findInitial_68 : decode cX0_findInitial 68 = .ok (.iinc 2 1, 3) := by decide +kernel
theorem dX0_findInitial_71 : decode cX0_findInitial 71 = .ok (.goto (-69), 3) := by decide +kernel
theorem dX0_findInitial_74 : decode cX0_findInitial 74 = .ok (.return_, 1) := by decide +kernel
theorem dX0_findOpenBox_0 : decode cX0_findOpenBox 0 = .ok (.aload_n 0, 1) := by decide +kernel
theorem dX0_findOpenBox_1 : decode cX0_findOpenBox 1 = .ok (.getfield 9, 3) := by decide +kernel
theorem dX0_findOpenBox_4 : decode cX0_findOpenBox 4 = .ok (.iload_n 2, 1) := by decide +kernel
theorem dX0_findOpenBox_5 : decode cX0_findOpenBox 5 = .ok (.iaload, 1) := by decide +kernel
theorem dX0_findOpenBox_6 : decode cX0_findOpenBox 6 = .ok (.aload_n 1, 1) := by decide +kernel
theorem dX0_findOpenBox_7 : decode cX0_findOpenBox 7 = .ok (.getfield 125, 3) := by decide +kernel
theorem dX0_findOpenBox_10 : decode cX0_findOpenBox 10 = .ok (.iload_n 3, 1) := by decide +kernel
theorem dX0_findOpenBox_11 : decode cX0_findOpenBox 11 = .ok (.iaload, 1) := by decide +kernel
theorem dX0_findOpenBox_12 : decode cX0_findOpenBox 12 = .ok (.iand, 1) := by decide +kernel
theorem dX0_findOpenBox_13 : decode cX0_findOpenBox 13 = .ok (.istore 4, 2) := by decide +kernel
theorem dX0_findOpenBox_15 : decode cX0_findOpenBox 15 = .ok (.iconst 0, 1) := by decide +kernel
theorem dX0_findOpenBox_16 : decode cX0_findOpenBox 16 = .ok (.istore 5, 2) := by decide +kernel
theorem dX0_findOpenBox_18 : decode cX0_findOpenBox 18 = .ok (.iload 5, 2) := by decide +kernel
theorem dX0_findOpenBox_20 : decode cX0_findOpenBox 20 = .ok (.aload_n 1, 1) := by decide +kernel
theorem dX0_findOpenBox_21 : decode cX0_findOpenBox 21 = .ok (.getfield 57, 3) := by decide +kernel
theorem dX0_findOpenBox_24 : decode cX0_findOpenBox 24 = .ok (.if_icmp .ge 39, 3) := by decide +kernel
theorem dX0_findOpenBox_27 : decode cX0_findOpenBox 27 = .ok (.iload 4, 2) := by decide +kernel
theorem dX0_findOpenBox_29 : decode cX0_findOpenBox 29 = .ok (.iload 5, 2) := by decide +kernel
theorem dX0_findOpenBox_31 : decode cX0_findOpenBox 31 = .ok (.invokestatic 70, 3) := by decide +kernel
theorem dX0_findOpenBox_34 : decode cX0_findOpenBox 34 = .ok (.ifCond .eq 23, 3) := by decide +kernel
theorem dX0_findOpenBox_37 : decode cX0_findOpenBox 37 = .ok (.aload_n 0, 1) := by decide +kernel
theorem dX0_findOpenBox_38 : decode cX0_findOpenBox 38 = .ok (.getfield 9, 3) := by decide +kernel
theorem dX0_findOpenBox_41 : decode cX0_findOpenBox 41 = .ok (.iload_n 2, 1) := by decide +kernel
theorem dX0_findOpenBox_42 : decode cX0_findOpenBox 42 = .ok (.iaload, 1) := by decide +kernel
theorem dX0_findOpenBox_43 : decode cX0_findOpenBox 43 = .ok (.aload_n 1, 1) := by decide +kernel
theorem dX0_findOpenBox_44 : decode cX0_findOpenBox 44 = .ok (.getfield 119, 3) := by decide +kernel
theorem dX0_findOpenBox_47 : decode cX0_findOpenBox 47 = .ok (.iload 5, 2) := by decide +kernel
theorem dX0_findOpenBox_49 : decode cX0_findOpenBox 49 = .ok (.iaload, 1) := by decide +kernel
theorem dX0_findOpenBox_50 : decode cX0_findOpenBox 50 = .ok (.iand, 1) := by decide +kernel
theorem dX0_findOpenBox_51 : decode cX0_findOpenBox 51 = .ok (.ifCond .eq 6, 3) := by decide +kernel
theorem dX0_findOpenBox_54 : decode cX0_findOpenBox 54 = .ok (.iload 5, 2) := by decide +kernel
theorem dX0_findOpenBox_56 : decode cX0_findOpenBox 56 = .ok (.ireturn, 1) := by decide +kernel
theorem dX0_findOpenBox_57 : decode cX0_findOpenBox 57 = .ok (.iinc 5 1, 3) := by decide +kernel
theorem dX0_findOpenBox_60 : decode cX0_findOpenBox 60 = .ok (.goto (-42), 3) := by decide +kernel
theorem dX0_findOpenBox_63 : decode cX0_findOpenBox 63 = .ok (.iconst (-1), 1) := by decide +kernel
theorem dX0_findOpenBox_64 : decode cX0_findOpenBox 64 = .ok (.ireturn, 1) := by decide +kernel
theorem dX0_findRound_0 : decode cX0_findRound 0 = .ok (.iconst 0, 1) := by decide +kernel
theorem dX0_findRound_1 : decode cX0_findRound 1 = .ok (.istore_n 3, 1) := by decide +kernel
theorem dX0_findRound_2 : decode cX0_findRound 2 = .ok (.iconst 0, 1) := by decide +kernel
theorem dX0_findRound_3 : decode cX0_findRound 3 = .ok (.istore 4, 2) := by decide +kernel
theorem dX0_findRound_5 : decode cX0_findRound 5 = .ok (.iload 4, 2) := by decide +kernel
theorem dX0_findRound_7 : decode cX0_findRound 7 = .ok (.aload_n 1, 1) := by decide +kernel
theorem dX0_findRound_8 : decode cX0_findRound 8 = .ok (.getfield 57, 3) := by decide +kernel
theorem dX0_findRound_11 : decode cX0_findRound 11 = .ok (.if_icmp .ge 98, 3) := by decide +kernel
theorem dX0_findRound_14 : decode cX0_findRound 14 = .ok (.iconst 0, 1) := by decide +kernel
theorem dX0_findRound_15 : decode cX0_findRound 15 = .ok (.istore 5, 2) := by decide +kernel
theorem dX0_findRound_17 : decode cX0_findRound 17 = .ok (.iload 5, 2) := by decide +kernel
theorem dX0_findRound_19 : decode cX0_findRound 19 = .ok (.aload_n 1, 1) := by decide +kernel
theorem dX0_findRound_20 : decode cX0_findRound 20 = .ok (.getfield 57, 3) := by decide +kernel
theorem dX0_findRound_23 : decode cX0_findRound 23 = .ok (.if_icmp .ge 80, 3) := by decide +kernel
theorem dX0_findRound_26 : decode cX0_findRound 26 = .ok (.aload_n 0, 1) := by decide +kernel
theorem dX0_findRound_27 : decode cX0_findRound 27 = .ok (.getfield 18, 3) := by decide +kernel
theorem dX0_findRound_30 : decode cX0_findRound 30 = .ok (.iload 4, 2) := by decide +kernel
theorem dX0_findRound_32 : decode cX0_findRound 32 = .ok (.iload 5, 2) := by decide +kernel
theorem dX0_findRound_34 : decode cX0_findRound 34 = .ok (.invokestatic 74, 3) := by decide +kernel
theorem dX0_findRound_37 : decode cX0_findRound 37 = .ok (.iaload, 1) := by decide +kernel
theorem dX0_findRound_38 : decode cX0_findRound 38 = .ok (.bipush (-9), 2) := by decide +kernel
theorem dX0_findRound_40 : decode cX0_findRound 40 = .ok (.if_icmp .eq 6, 3) := by decide +kernel
theorem dX0_findRound_43 : decode cX0_findRound 43 = .ok (.goto 54, 3) := by decide +kernel
theorem dX0_findRound_46 : decode cX0_findRound 46 = .ok (.aload_n 0, 1) := by decide +kernel
theorem dX0_findRound_47 : decode cX0_findRound 47 = .ok (.aload_n 1, 1) := by decide +kernel
theorem dX0_findRound_48 : decode cX0_findRound 48 = .ok (.iload 4, 2) := by decide +kernel
theorem dX0_findRound_50 : decode cX0_findRound 50 = .ok (.iload 5, 2) := by decide +kernel
theorem dX0_findRound_52 : decode cX0_findRound 52 = .ok (.invokevirtual 82, 3) := by decide +kernel
theorem dX0_findRound_55 : decode cX0_findRound 55 = .ok (.ifCond .ne 27, 3) := by decide +kernel
theorem dX0_findRound_58 : decode cX0_findRound 58 = .ok (.aload_n 0, 1) := by decide +kernel
theorem dX0_findRound_59 : decode cX0_findRound 59 = .ok (.aload_n 1, 1) := by decide +kernel
theorem dX0_findRound_60 : decode cX0_findRound 60 = .ok (.iload 4, 2) := by decide +kernel
theorem dX0_findRound_62 : decode cX0_findRound 62 = .ok (.iload 5, 2) := by decide +kernel
theorem dX0_findRound_64 : decode cX0_findRound 64 = .ok (.invokevirtual 86, 3) := by decide +kernel
theorem dX0_findRound_67 : decode cX0_findRound 67 = .ok (.ifCond .ne 15, 3) := by decide +kernel
theorem dX0_findRound_70 : decode cX0_findRound 70 = .ok (.aload_n 0, 1) := by decide +kernel
theorem dX0_findRound_71 : decode cX0_findRound 71 = .ok (.aload_n 1, 1) := by decide +kernel
theorem dX0_findRound_72 : decode cX0_findRound 72 = .ok (.iload 4, 2) := by decide +kernel
theorem dX0_findRound_74 : decode cX0_findRound 74 = .ok (.iload 5, 2) := by decide +kernel
theorem dX0_findRound_76 : decode cX0_findRound 76 = .ok (.invokevirtual 89, 3) := by decide +kernel
theorem dX0_findRound_79 : decode cX0_findRound 79 = .ok (.ifCond .eq 18, 3) := by decide +kernel
theorem dX0_findRound_82 : decode cX0_findRound 82 = .ok (.aload_n 0, 1) := by decide +kernel
theorem dX0_findRound_83 : decode cX0_findRound 83 = .ok (.getfield 18, 3) := by decide +kernel
theorem dX0_findRound_86 : decode cX0_findRound 86 = .ok (.iload 4, 2) := by decide +kernel
theorem dX0_findRound_88 : decode cX0_findRound 88 = .ok (.iload 5, 2) := by decide +kernel
theorem dX0_findRound_90 : decode cX0_findRound 90 = .ok (.invokestatic 74, 3) := by decide +kernel
theorem dX0_findRound_93 : decode cX0_findRound 93 = .ok (.iload_n 2, 1) := by decide +kernel
theorem dX0_findRound_94 : decode cX0_findRound 94 = .ok (.iastore, 1) := by decide +kernel
theorem dX0_findRound_95 : decode cX0_findRound 95 = .ok (.iconst 1, 1) := by decide +kernel
theorem dX0_findRound_96 : decode cX0_findRound 96 = .ok (.istore_n 3, 1) := by decide +kernel
theorem dX0_findRound_97 : decode cX0_findRound 97 = .ok (.iinc 5 1, 3) := by decide +kernel
theorem dX0_findRound_100 : decode cX0_findRound 100 = .ok (.goto (-83), 3) := by decide +kernel
theorem dX0_findRound_103 : decode cX0_findRound 103 = .ok (.iinc 4 1, 3) := by decide +kernel
theorem dX0_findRound_106 : decode cX0_findRound 106 = .ok (.goto (-101), 3) := by decide +kernel
theorem dX0_findRound_109 : decode cX0_findRound 109 = .ok (.aload_n 0, 1) := by decide +kernel
theorem dX0_findRound_110 : decode cX0_findRound 110 = .ok (.aload_n 1, 1) := by decide +kernel
theorem dX0_findRound_111 : decode cX0_findRound 111 = .ok (.getfield 57, 3) := by decide +kernel
theorem dX0_findRound_114 : decode cX0_findRound 114 = .ok (.iload_n 2, 1) := by decide +kernel
theorem dX0_findRound_115 : decode cX0_findRound 115 = .ok (.invokevirtual 92, 3) := by decide +kernel
theorem dX0_findRound_118 : decode cX0_findRound 118 = .ok (.iload_n 3, 1) := by decide +kernel
theorem dX0_findRound_119 : decode cX0_findRound 119 = .ok (.ireturn, 1) := by decide +kernel
theorem dX0_findTaking_0 : decode cX0_findTaking 0 = .ok (.aload_n 1, 1) := by decide +kernel
theorem dX0_findTaking_1 : decode cX0_findTaking 1 = .ok (.getfield 109, 3) := by decide +kernel
theorem dX0_findTaking_4 : decode cX0_findTaking 4 = .ok (.iload_n 2, 1) := by decide +kernel
theorem dX0_findTaking_5 : decode cX0_findTaking 5 = .ok (.invokestatic 70, 3) := by decide +kernel
theorem dX0_findTaking_8 : decode cX0_findTaking 8 = .ok (.ifCond .ne 5, 3) := by decide +kernel
theorem dX0_findTaking_11 : decode cX0_findTaking 11 = .ok (.iconst 0, 1) := by decide +kernel
theorem dX0_findTaking_12 : decode cX0_findTaking 12 = .ok (.ireturn, 1) := by decide +kernel
theorem dX0_findTaking_13 : decode cX0_findTaking 13 = .ok (.aload_n 0, 1) := by decide +kernel
theorem dX0_findTaking_14 : decode cX0_findTaking 14 = .ok (.getfield 9, 3) := by decide +kernel
theorem dX0_findTaking_17 : decode cX0_findTaking 17 = .ok (.iload_n 2, 1) := by decide +kernel
theorem dX0_findTaking_18 : decode cX0_findTaking 18 = .ok (.iaload, 1) := by decide +kernel
theorem dX0_findTaking_19 : decode cX0_findTaking 19 = .ok (.aload_n 1, 1) := by decide +kernel
theorem dX0_findTaking_20 : decode cX0_findTaking 20 = .ok (.getfield 112, 3) := by decide +kernel
theorem dX0_findTaking_23 : decode cX0_findTaking 23 = .ok (.iand, 1) := by decide +kernel
theorem dX0_findTaking_24 : decode cX0_findTaking 24 = .ok (.aload_n 0, 1) := by decide +kernel
theorem dX0_findTaking_25 : decode cX0_findTaking 25 = .ok (.getfield 15, 3) := by decide +kernel
theorem dX0_findTaking_28 : decode cX0_findTaking 28 = .ok (.iload_n 3, 1) := by decide +kernel
theorem dX0_findTaking_29 : decode cX0_findTaking 29 = .ok (.iaload, 1) := by decide +kernel
theorem dX0_findTaking_30 : decode cX0_findTaking 30 = .ok (.iand, 1) := by decide +kernel
theorem dX0_findTaking_31 : decode cX0_findTaking 31 = .ok (.invokestatic 102, 3) := by decide +kernel
theorem dX0_findTaking_34 : decode cX0_findTaking 34 = .ok (.istore 4, 2) := by decide +kernel
theorem dX0_findTaking_36 : decode cX0_findTaking 36 = .ok (.iload 4, 2) := by decide +kernel
theorem dX0_findTaking_38 : decode cX0_findTaking 38 = .ok (.iconst (-1), 1) := by decide +kernel
theorem dX0_findTaking_39 : decode cX0_findTaking 39 = .ok (.if_icmp .eq 29, 3) := by decide +kernel
theorem dX0_findTaking_42 : decode cX0_findTaking 42 = .ok (.aload_n 0, 1) := by decide +kernel
theorem dX0_findTaking_43 : decode cX0_findTaking 43 = .ok (.iload_n 2, 1) := by decide +kernel
theorem dX0_findTaking_44 : decode cX0_findTaking 44 = .ok (.iload_n 3, 1) := by decide +kernel
theorem dX0_findTaking_45 : decode cX0_findTaking 45 = .ok (.invokestatic 74, 3) := by decide +kernel
theorem dX0_findTaking_48 : decode cX0_findTaking 48 = .ok (.iconst 2, 1) := by decide +kernel
theorem dX0_findTaking_49 : decode cX0_findTaking 49 = .ok (.iload 4, 2) := by decide +kernel
theorem dX0_findTaking_51 : decode cX0_findTaking 51 = .ok (.iload_n 2, 1) := by decide +kernel
theorem dX0_findTaking_52 : decode cX0_findTaking 52 = .ok (.iload 4, 2) := by decide +kernel
theorem dX0_findTaking_54 : decode cX0_findTaking 54 = .ok (.invokestatic 74, 3) := by decide +kernel
theorem dX0_findTaking_57 : decode cX0_findTaking 57 = .ok (.iload 4, 2) := by decide +kernel
theorem dX0_findTaking_59 : decode cX0_findTaking 59 = .ok (.iload_n 3, 1) := by decide +kernel
theorem dX0_findTaking_60 : decode cX0_findTaking 60 = .ok (.invokestatic 74, 3) := by decide +kernel
theorem dX0_findTaking_63 : decode cX0_findTaking 63 = .ok (.invokevirtual 105, 3) := by decide +kernel
theorem dX0_findTaking_66 : decode cX0_findTaking 66 = .ok (.iconst 1, 1) := by decide +kernel
theorem dX0_findTaking_67 : decode cX0_findTaking 67 = .ok (.ireturn, 1) := by decide +kernel
theorem dX0_findTaking_68 : decode cX0_findTaking 68 = .ok (.aload_n 0, 1) := by decide +kernel
theorem dX0_findTaking_69 : decode cX0_findTaking 69 = .ok (.aload_n 1, 1) := by decide +kernel
theorem dX0_findTaking_70 : decode cX0_findTaking 70 = .ok (.iload_n 2, 1) := by decide +kernel
theorem dX0_findTaking_71 : decode cX0_findTaking 71 = .ok (.iload_n 3, 1) := by decide +kernel
theorem dX0_findTaking_72 : decode cX0_findTaking 72 = .ok (.invokevirtual 115, 3) := by decide +kernel
theorem dX0_findTaking_75 : decode cX0_findTaking 75 = .ok (.istore 5, 2) := by decide +kernel
theorem dX0_findTaking_77 : decode cX0_findTaking 77 = .ok (.iload 5, 2) := by decide +kernel
theorem dX0_findTaking_79 : decode cX0_findTaking 79 = .ok (.iconst (-1), 1) := by decide +kernel
theorem dX0_findTaking_80 : decode cX0_findTaking 80 = .ok (.if_icmp .eq 48, 3) := by decide +kernel
theorem dX0_findTaking_83 : decode cX0_findTaking 83 = .ok (.aload_n 0, 1) := by decide +kernel
theorem dX0_findTaking_84 : decode cX0_findTaking 84 = .ok (.getfield 9, 3) := by decide +kernel
theorem dX0_findTaking_87 : decode cX0_findTaking 87 = .ok (.iload_n 2, 1) := by decide +kernel
theorem dX0_findTaking_88 : decode cX0_findTaking 88 = .ok (.iaload, 1) := by decide +kernel
theorem dX0_findTaking_89 : decode cX0_findTaking 89 = .ok (.aload_n 1, 1) := by decide +kernel
theorem dX0_findTaking_90 : decode cX0_findTaking 90 = .ok (.getfield 119, 3) := by decide +kernel
theorem dX0_findTaking_93 : decode cX0_findTaking 93 = .ok (.iload 5, 2) := by decide +kernel
theorem dX0_findTaking_95 : decode cX0_findTaking 95 = .ok (.iaload, 1) := by decide +kernel
theorem dX0_findTaking_96 : decode cX0_findTaking 96 = .ok (.iand, 1) := by decide +kernel
theorem dX0_findTaking_97 : decode cX0_findTaking 97 = .ok (.invokestatic 102, 3) := by decide +kernel
theorem dX0_findTaking_100 : decode cX0_findTaking 100 = .ok (.istore 6, 2) := by decide +kernel
theorem dX0_findTaking_102 : decode cX0_findTaking 102 = .ok (.aload_n 0, 1) := by decide +kernel
theorem dX0_findTaking_103 : decode cX0_findTaking 103 = .ok (.iload_n 2, 1) := by decide +kernel
theorem dX0_findTaking_104 : decode cX0_findTaking 104 = .ok (.iload_n 3, 1) := by decide +kernel
theorem dX0_findTaking_105 : decode cX0_findTaking 105 = .ok (.invokestatic 74, 3) := by decide +kernel
theorem dX0_findTaking_108 : decode cX0_findTaking 108 = .ok (.iconst 3, 1) := by decide +kernel
theorem dX0_findTaking_109 : decode cX0_findTaking 109 = .ok (.iload 5, 2) := by decide +kernel
theorem dX0_findTaking_111 : decode cX0_findTaking 111 = .ok (.iload_n 2, 1) := by decide +kernel
theorem dX0_findTaking_112 : decode cX0_findTaking 112 = .ok (.iload 5, 2) := by decide +kernel
theorem dX0_findTaking_114 : decode cX0_findTaking 114 = .ok (.invokestatic 74, 3) := by decide +kernel
theorem dX0_findTaking_117 : decode cX0_findTaking 117 = .ok (.iload_n 2, 1) := by decide +kernel
theorem dX0_findTaking_118 : decode cX0_findTaking 118 = .ok (.iload 6, 2) := by decide +kernel
theorem dX0_findTaking_120 : decode cX0_findTaking 120 = .ok (.invokestatic 74, 3) := by decide +kernel
theorem dX0_findTaking_123 : decode cX0_findTaking 123 = .ok (.invokevirtual 105, 3) := by decide +kernel
theorem dX0_findTaking_126 : decode cX0_findTaking 126 = .ok (.iconst 1, 1) := by decide +kernel
theorem dX0_findTaking_127 : decode cX0_findTaking 127 = .ok (.ireturn, 1) := by decide +kernel
theorem dX0_findTaking_128 : decode cX0_findTaking 128 = .ok (.aload_n 0, 1) := by decide +kernel
theorem dX0_findTaking_129 : decode cX0_findTaking 129 = .ok (.getfield 9, 3) := by decide +kernel
theorem dX0_findTaking_132 : decode cX0_findTaking 132 = .ok (.iload_n 2, 1) := by decide +kernel
theorem dX0_findTaking_133 : decode cX0_findTaking 133 = .ok (.iaload, 1) := by decide +kernel
theorem dX0_findTaking_134 : decode cX0_findTaking 134 = .ok (.aload_n 1, 1) := by decide +kernel
theorem dX0_findTaking_135 : decode cX0_findTaking 135 = .ok (.getfield 122, 3) := by decide +kernel
theorem dX0_findTaking_138 : decode cX0_findTaking 138 = .ok (.iload_n 3, 1) := by decide +kernel
theorem dX0_findTaking_139 : decode cX0_findTaking 139 = .ok (.iaload, 1) := by decide +kernel
theorem dX0_findTaking_140 : decode cX0_findTaking 140 = .ok (.iand, 1) := by decide +kernel
theorem dX0_findTaking_141 : decode cX0_findTaking 141 = .ok (.invokestatic 102, 3) := by decide +kernel
theorem dX0_findTaking_144 : decode cX0_findTaking 144 = .ok (.istore 6, 2) := by decide +kernel
theorem dX0_findTaking_146 : decode cX0_findTaking 146 = .ok (.iload 6, 2) := by decide +kernel
theorem dX0_findTaking_148 : decode cX0_findTaking 148 = .ok (.iconst (-1), 1) := by decide +kernel
theorem dX0_findTaking_149 : decode cX0_findTaking 149 = .ok (.if_icmp .eq 24, 3) := by decide +kernel
theorem dX0_findTaking_152 : decode cX0_findTaking 152 = .ok (.aload_n 0, 1) := by decide +kernel
theorem dX0_findTaking_153 : decode cX0_findTaking 153 = .ok (.iload_n 2, 1) := by decide +kernel
theorem dX0_findTaking_154 : decode cX0_findTaking 154 = .ok (.iload_n 3, 1) := by decide +kernel
theorem dX0_findTaking_155 : decode cX0_findTaking 155 = .ok (.invokestatic 74, 3) := by decide +kernel
theorem dX0_findTaking_158 : decode cX0_findTaking 158 = .ok (.iconst 4, 1) := by decide +kernel
theorem dX0_findTaking_159 : decode cX0_findTaking 159 = .ok (.iload 6, 2) := by decide +kernel
theorem dX0_findTaking_161 : decode cX0_findTaking 161 = .ok (.iload_n 2, 1) := by decide +kernel
theorem dX0_findTaking_162 : decode cX0_findTaking 162 = .ok (.iload 6, 2) := by decide +kernel
theorem dX0_findTaking_164 : decode cX0_findTaking 164 = .ok (.invokestatic 74, 3) := by decide +kernel
theorem dX0_findTaking_167 : decode cX0_findTaking 167 = .ok (.iconst (-1), 1) := by decide +kernel
theorem dX0_findTaking_168 : decode cX0_findTaking 168 = .ok (.invokevirtual 105, 3) := by decide +kernel
theorem dX0_findTaking_171 : decode cX0_findTaking 171 = .ok (.iconst 1, 1) := by decide +kernel
theorem dX0_findTaking_172 : decode cX0_findTaking 172 = .ok (.ireturn, 1) := by decide +kernel
theorem dX0_findTaking_173 : decode cX0_findTaking 173 = .ok (.iconst 0, 1) := by decide +kernel
theorem dX0_findTaking_174 : decode cX0_findTaking 174 = .ok (.ireturn, 1) := by decide +kernel
theorem dX0_init_0 : decode cX0_init 0 = .ok (.aload_n 0, 1) := by decide +kernel
theorem dX0_init_1 : decode cX0_init 1 = .ok (.invokespecial 3, 3) := by decide +kernel
theorem dX0_init_4 : decode cX0_init 4 = .ok (.aload_n 0, 1) := by decide +kernel
theorem dX0_init_5 : decode cX0_init 5 = .ok (.bipush 10, 2) := by decide +kernel
theorem dX0_init_7 : decode cX0_init 7 = .ok (.newarray .int, 2) := by decide +kernel
theorem dX0_init_9 : decode cX0_init 9 = .ok (.putfield 9, 3) := by decide +kernel
theorem dX0_init_12 : decode cX0_init 12 = .ok (.aload_n 0, 1) := by decide +kernel
theorem dX0_init_13 : decode cX0_init 13 = .ok (.bipush 10, 2) := by decide +kernel
theorem dX0_init_15 : decode cX0_init 15 = .ok (.newarray .int, 2) := by decide +kernel
theorem dX0_init_17 : decode cX0_init 17 = .ok (.putfield 15, 3) := by decide +kernel
theorem dX0_init_20 : decode cX0_init 20 = .ok (.aload_n 0, 1) := by decide +kernel
theorem dX0_init_21 : decode cX0_init 21 = .ok (.bipush 100, 2) := by decide +kernel
theorem dX0_init_23 : decode cX0_init 23 = .ok (.newarray .int, 2) := by decide +kernel
theorem dX0_init_25 : decode cX0_init 25 = .ok (.putfield 18, 3) := by decide +kernel
theorem dX0_init_28 : decode cX0_init 28 = .ok (.aload_n 0, 1) := by decide +kernel
theorem dX0_init_29 : decode cX0_init 29 = .ok (.bipush 100, 2) := by decide +kernel
theorem dX0_init_31 : decode cX0_init 31 = .ok (.newarray .int, 2) := by decide +kernel
theorem dX0_init_33 : decode cX0_init 33 = .ok (.putfield 21, 3) := by decide +kernel
theorem dX0_init_36 : decode cX0_init 36 = .ok (.aload_n 0, 1) := by decide +kernel
theorem dX0_init_37 : decode cX0_init 37 = .ok (.bipush 100, 2) := by decide +kernel
theorem dX0_init_39 : decode cX0_init 39 = .ok (.newarray .int, 2) := by decide +kernel
theorem dX0_init_41 : decode cX0_init 41 = .ok (.putfield 24, 3) := by decide +kernel
theorem dX0_init_44 : decode cX0_init 44 = .ok (.aload_n 0, 1) := by decide +kernel
theorem dX0_init_45 : decode cX0_init 45 = .ok (.bipush 100, 2) := by decide +kernel
theorem dX0_init_47 : decode cX0_init 47 = .ok (.newarray .int, 2) := by decide +kernel
theorem dX0_init_49 : decode cX0_init 49 = .ok (.putfield 27, 3) := by decide +kernel
theorem dX0_init_52 : decode cX0_init 52 = .ok (.aload_n 0, 1) := by decide +kernel
theorem dX0_init_53 : decode cX0_init 53 = .ok (.bipush 100, 2) := by decide +kernel
theorem dX0_init_55 : decode cX0_init 55 = .ok (.newarray .int, 2) := by decide +kernel
theorem dX0_init_57 : decode cX0_init 57 = .ok (.putfield 30, 3) := by decide +kernel
theorem dX0_init_60 : decode cX0_init 60 = .ok (.aload_n 0, 1) := by decide +kernel
theorem dX0_init_61 : decode cX0_init 61 = .ok (.iconst 0, 1) := by decide +kernel
theorem dX0_init_62 : decode cX0_init 62 = .ok (.putfield 33, 3) := by decide +kernel
theorem dX0_init_65 : decode cX0_init 65 = .ok (.aload_n 0, 1) := by decide +kernel
theorem dX0_init_66 : decode cX0_init 66 = .ok (.bipush 100, 2) := by decide +kernel
theorem dX0_init_68 : decode cX0_init 68 = .ok (.newarray .int, 2) := by decide +kernel
theorem dX0_init_70 : decode cX0_init 70 = .ok (.putfield 37, 3) := by decide +kernel
theorem dX0_init_73 : decode cX0_init 73 = .ok (.aload_n 0, 1) := by decide +kernel
theorem dX0_init_74 : decode cX0_init 74 = .ok (.bipush 100, 2) := by decide +kernel
theorem dX0_init_76 : decode cX0_init 76 = .ok (.newarray .int, 2) := by decide +kernel
theorem dX0_init_78 : decode cX0_init 78 = .ok (.putfield 40, 3) := by decide +kernel
theorem dX0_init_81 : decode cX0_init 81 = .ok (.aload_n 0, 1) := by decide +kernel
theorem dX0_init_82 : decode cX0_init 82 = .ok (.iconst 0, 1) := by decide +kernel
theorem dX0_init_83 : decode cX0_init 83 = .ok (.putfield 43, 3) := by decide +kernel
theorem dX0_init_86 : decode cX0_init 86 = .ok (.return_, 1) := by decide +kernel
theorem dX0_publish_0 : decode cX0_publish 0 = .ok (.iconst 0, 1) := by decide +kernel
theorem dX0_publish_1 : decode cX0_publish 1 = .ok (.istore_n 3, 1) := by decide +kernel
theorem dX0_publish_2 : decode cX0_publish 2 = .ok (.iload_n 3, 1) := by decide +kernel
theorem dX0_publish_3 : decode cX0_publish 3 = .ok (.iload_n 1, 1) := by decide +kernel
theorem dX0_publish_4 : decode cX0_publish 4 = .ok (.if_icmp .ge 67, 3) := by decide +kernel
theorem dX0_publish_7 : decode cX0_publish 7 = .ok (.iconst 0, 1) := by decide +kernel
theorem dX0_publish_8 : decode cX0_publish 8 = .ok (.istore 4, 2) := by decide +kernel
theorem dX0_publish_10 : decode cX0_publish 10 = .ok (.iload 4, 2) := by decide +kernel
theorem dX0_publish_12 : decode cX0_publish 12 = .ok (.iload_n 1, 1) := by decide +kernel
theorem dX0_publish_13 : decode cX0_publish 13 = .ok (.if_icmp .ge 52, 3) := by decide +kernel
theorem dX0_publish_16 : decode cX0_publish 16 = .ok (.aload_n 0, 1) := by decide +kernel
theorem dX0_publish_17 : decode cX0_publish 17 = .ok (.getfield 18, 3) := by decide +kernel
theorem dX0_publish_20 : decode cX0_publish 20 = .ok (.iload_n 3, 1) := by decide +kernel
theorem dX0_publish_21 : decode cX0_publish 21 = .ok (.iload 4, 2) := by decide +kernel
theorem dX0_publish_23 : decode cX0_publish 23 = .ok (.invokestatic 74, 3) := by decide +kernel
theorem dX0_publish_26 : decode cX0_publish 26 = .ok (.iaload, 1) := by decide +kernel
theorem dX0_publish_27 : decode cX0_publish 27 = .ok (.iload_n 2, 1) := by decide +kernel
theorem dX0_publish_28 : decode cX0_publish 28 = .ok (.if_icmp .ne 31, 3) := by decide +kernel
theorem dX0_publish_31 : decode cX0_publish 31 = .ok (.aload_n 0, 1) := by decide +kernel
theorem dX0_publish_32 : decode cX0_publish 32 = .ok (.getfield 9, 3) := by decide +kernel
theorem dX0_publish_35 : decode cX0_publish 35 = .ok (.iload_n 3, 1) := by decide +kernel
theorem dX0_publish_36 : decode cX0_publish 36 = .ok (.dup2, 1) := by decide +kernel
theorem dX0_publish_37 : decode cX0_publish 37 = .ok (.iaload, 1) := by decide +kernel
theorem dX0_publish_38 : decode cX0_publish 38 = .ok (.iload 4, 2) := by decide +kernel
theorem dX0_publish_40 : decode cX0_publish 40 = .ok (.invokestatic 78, 3) := by decide +kernel
theorem dX0_publish_43 : decode cX0_publish 43 = .ok (.ior, 1) := by decide +kernel
theorem dX0_publish_44 : decode cX0_publish 44 = .ok (.iastore, 1) := by decide +kernel
theorem dX0_publish_45 : decode cX0_publish 45 = .ok (.aload_n 0, 1) := by decide +kernel
theorem dX0_publish_46 : decode cX0_publish 46 = .ok (.getfield 15, 3) := by decide +kernel
theorem dX0_publish_49 : decode cX0_publish 49 = .ok (.iload 4, 2) := by decide +kernel
theorem dX0_publish_51 : decode cX0_publish 51 = .ok (.dup2, 1) := by decide +kernel
theorem dX0_publish_52 : decode cX0_publish 52 = .ok (.iaload, 1) := by decide +kernel
theorem dX0_publish_53 : decode cX0_publish 53 = .ok (.iload_n 3, 1) := by decide +kernel
theorem dX0_publish_54 : decode cX0_publish 54 = .ok (.invokestatic 78, 3) := by decide +kernel
theorem dX0_publish_57 : decode cX0_publish 57 = .ok (.ior, 1) := by decide +kernel
theorem dX0_publish_58 : decode cX0_publish 58 = .ok (.iastore, 1) := by decide +kernel
theorem dX0_publish_59 : decode cX0_publish 59 = .ok (.iinc 4 1, 3) := by decide +kernel
theorem dX0_publish_62 : decode cX0_publish 62 = .ok (.goto (-52), 3) := by decide +kernel
theorem dX0_publish_65 : decode cX0_publish 65 = .ok (.iinc 3 1, 3) := by decide +kernel
theorem dX0_publish_68 : decode cX0_publish 68 = .ok (.goto (-66), 3) := by decide +kernel
theorem dX0_publish_71 : decode cX0_publish 71 = .ok (.return_, 1) := by decide +kernel
theorem dX0_setCause_0 : decode cX0_setCause 0 = .ok (.aload_n 0, 1) := by decide +kernel
theorem dX0_setCause_1 : decode cX0_setCause 1 = .ok (.getfield 21, 3) := by decide +kernel
theorem dX0_setCause_4 : decode cX0_setCause 4 = .ok (.iload_n 1, 1) := by decide +kernel
theorem dX0_setCause_5 : decode cX0_setCause 5 = .ok (.iload_n 2, 1) := by decide +kernel
theorem dX0_setCause_6 : decode cX0_setCause 6 = .ok (.iastore, 1) := by decide +kernel
theorem dX0_setCause_7 : decode cX0_setCause 7 = .ok (.aload_n 0, 1) := by decide +kernel
theorem dX0_setCause_8 : decode cX0_setCause 8 = .ok (.getfield 24, 3) := by decide +kernel
theorem dX0_setCause_11 : decode cX0_setCause 11 = .ok (.iload_n 1, 1) := by decide +kernel
theorem dX0_setCause_12 : decode cX0_setCause 12 = .ok (.iload_n 3, 1) := by decide +kernel
theorem dX0_setCause_13 : decode cX0_setCause 13 = .ok (.iastore, 1) := by decide +kernel
theorem dX0_setCause_14 : decode cX0_setCause 14 = .ok (.aload_n 0, 1) := by decide +kernel
theorem dX0_setCause_15 : decode cX0_setCause 15 = .ok (.getfield 27, 3) := by decide +kernel
theorem dX0_setCause_18 : decode cX0_setCause 18 = .ok (.iload_n 1, 1) := by decide +kernel
theorem dX0_setCause_19 : decode cX0_setCause 19 = .ok (.iload 4, 2) := by decide +kernel
theorem dX0_setCause_21 : decode cX0_setCause 21 = .ok (.iastore, 1) := by decide +kernel
theorem dX0_setCause_22 : decode cX0_setCause 22 = .ok (.aload_n 0, 1) := by decide +kernel
theorem dX0_setCause_23 : decode cX0_setCause 23 = .ok (.getfield 30, 3) := by decide +kernel
theorem dX0_setCause_26 : decode cX0_setCause 26 = .ok (.iload_n 1, 1) := by decide +kernel
theorem dX0_setCause_27 : decode cX0_setCause 27 = .ok (.iload 5, 2) := by decide +kernel
theorem dX0_setCause_29 : decode cX0_setCause 29 = .ok (.iastore, 1) := by decide +kernel
theorem dX0_setCause_30 : decode cX0_setCause 30 = .ok (.return_, 1) := by decide +kernel
theorem dX1_applyRules_0 : decode cX1_applyRules 0 = .ok (.aload_n 1, 1) := by decide +kernel
theorem dX1_applyRules_1 : decode cX1_applyRules 1 = .ok (.getfield 38, 3) := by decide +kernel
theorem dX1_applyRules_4 : decode cX1_applyRules 4 = .ok (.iload_n 2, 1) := by decide +kernel
theorem dX1_applyRules_5 : decode cX1_applyRules 5 = .ok (.invokestatic 41, 3) := by decide +kernel
theorem dX1_applyRules_8 : decode cX1_applyRules 8 = .ok (.istore_n 3, 1) := by decide +kernel
theorem dX1_applyRules_9 : decode cX1_applyRules 9 = .ok (.aload_n 1, 1) := by decide +kernel
theorem dX1_applyRules_10 : decode cX1_applyRules 10 = .ok (.getfield 45, 3) := by decide +kernel
theorem dX1_applyRules_13 : decode cX1_applyRules 13 = .ok (.iload_n 2, 1) := by decide +kernel
theorem dX1_applyRules_14 : decode cX1_applyRules 14 = .ok (.invokestatic 41, 3) := by decide +kernel
theorem dX1_applyRules_17 : decode cX1_applyRules 17 = .ok (.istore 4, 2) := by decide +kernel
theorem dX1_applyRules_19 : decode cX1_applyRules 19 = .ok (.iconst 0, 1) := by decide +kernel
theorem dX1_applyRules_20 : decode cX1_applyRules 20 = .ok (.istore 5, 2) := by decide +kernel
theorem dX1_applyRules_22 : decode cX1_applyRules 22 = .ok (.iload 5, 2) := by decide +kernel
theorem dX1_applyRules_24 : decode cX1_applyRules 24 = .ok (.aload_n 1, 1) := by decide +kernel
theorem dX1_applyRules_25 : decode cX1_applyRules 25 = .ok (.getfield 25, 3) := by decide +kernel
theorem dX1_applyRules_28 : decode cX1_applyRules 28 = .ok (.if_icmp .ge 72, 3) := by decide +kernel
theorem dX1_applyRules_31 : decode cX1_applyRules 31 = .ok (.aload_n 0, 1) := by decide +kernel
theorem dX1_applyRules_32 : decode cX1_applyRules 32 = .ok (.getfield 9, 3) := by decide +kernel
theorem dX1_applyRules_35 : decode cX1_applyRules 35 = .ok (.iload_n 2, 1) := by decide +kernel
theorem dX1_applyRules_36 : decode cX1_applyRules 36 = .ok (.iaload, 1) := by decide +kernel
theorem dX1_applyRules_37 : decode cX1_applyRules 37 = .ok (.iload 5, 2) := by decide +kernel
theorem dX1_applyRules_39 : decode cX1_applyRules 39 = .ok (.invokestatic 41, 3) := by decide +kernel
theorem dX1_applyRules_42 : decode cX1_applyRules 42 = .ok (.ifCond .ne 6, 3) := by decide +kernel
theorem dX1_applyRules_45 : decode cX1_applyRules 45 = .ok (.goto 49, 3) := by decide +kernel
theorem dX1_applyRules_48 : decode cX1_applyRules 48 = .ok (.iload_n 3, 1) := by decide +kernel
theorem dX1_applyRules_49 : decode cX1_applyRules 49 = .ok (.ifCond .eq 32, 3) := by decide +kernel
theorem dX1_applyRules_52 : decode cX1_applyRules 52 = .ok (.aload_n 1, 1) := by decide +kernel
theorem dX1_applyRules_53 : decode cX1_applyRules 53 = .ok (.getfield 48, 3) := by decide +kernel
theorem dX1_applyRules_56 : decode cX1_applyRules 56 = .ok (.iload 5, 2) := by decide +kernel
theorem dX1_applyRules_58 : decode cX1_applyRules 58 = .ok (.invokestatic 41, 3) := by decide +kernel
theorem dX1_applyRules_61 : decode cX1_applyRules 61 = .ok (.ifCond .eq 20, 3) := by decide +kernel
theorem dX1_applyRules_64 : decode cX1_applyRules 64 = .ok (.aload_n 0, 1) := by decide +kernel
theorem dX1_applyRules_65 : decode cX1_applyRules 65 = .ok (.iload 5, 2) := by decide +kernel
theorem dX1_applyRules_67 : decode cX1_applyRules 67 = .ok (.aload_n 0, 1) := by decide +kernel
theorem dX1_applyRules_68 : decode cX1_applyRules 68 = .ok (.getfield 9, 3) := by decide +kernel
theorem dX1_applyRules_71 : decode cX1_applyRules 71 = .ok (.iload_n 2, 1) := by decide +kernel
theorem dX1_applyRules_72 : decode cX1_applyRules 72 = .ok (.iaload, 1) := by decide +kernel
theorem dX1_applyRules_73 : decode cX1_applyRules 73 = .ok (.iload_n 2, 1) := by decide +kernel
theorem dX1_applyRules_74 : decode cX1_applyRules 74 = .ok (.invokestatic 51, 3) := by decide +kernel
theorem dX1_applyRules_77 : decode cX1_applyRules 77 = .ok (.ior, 1) := by decide +kernel
theorem dX1_applyRules_78 : decode cX1_applyRules 78 = .ok (.invokevirtual 55, 3) := by decide +kernel
theorem dX1_applyRules_81 : decode cX1_applyRules 81 = .ok (.iload 4, 2) := by decide +kernel
theorem dX1_applyRules_83 : decode cX1_applyRules 83 = .ok (.ifCond .eq 11, 3) := by decide +kernel
theorem dX1_applyRules_86 : decode cX1_applyRules 86 = .ok (.aload_n 0, 1) := by decide +kernel
theorem dX1_applyRules_87 : decode cX1_applyRules 87 = .ok (.aload_n 1, 1) := by decide +kernel
theorem dX1_applyRules_88 : decode cX1_applyRules 88 = .ok (.iload_n 2, 1) := by decide +kernel
theorem dX1_applyRules_89 : decode cX1_applyRules 89 = .ok (.iload 5, 2) := by decide +kernel
theorem dX1_applyRules_91 : decode cX1_applyRules 91 = .ok (.invokevirtual 59, 3) := by decide +kernel
theorem dX1_applyRules_94 : decode cX1_applyRules 94 = .ok (.iinc 5 1, 3) := by decide +kernel
theorem dX1_applyRules_97 : decode cX1_applyRules 97 = .ok (.goto (-75), 3) := by decide +kernel
theorem dX1_applyRules_100 : decode cX1_applyRules 100 = .ok (.return_, 1) := by decide +kernel
theorem dX1_close_0 : decode cX1_close 0 = .ok (.aload_n 0, 1) := by decide +kernel
theorem dX1_close_1 : decode cX1_close 1 = .ok (.iconst 1, 1) := by decide +kernel
theorem dX1_close_2 : decode cX1_close 2 = .ok (.putfield 15, 3) := by decide +kernel
theorem dX1_close_5 : decode cX1_close 5 = .ok (.iconst 0, 1) := by decide +kernel
theorem dX1_close_6 : decode cX1_close 6 = .ok (.istore_n 3, 1) := by decide +kernel
theorem dX1_close_7 : decode cX1_close 7 = .ok (.iload_n 3, 1) := by decide +kernel
theorem dX1_close_8 : decode cX1_close 8 = .ok (.bipush 100, 2) := by decide +kernel
theorem dX1_close_10 : decode cX1_close 10 = .ok (.if_icmp .gt 57, 3) := by decide +kernel
theorem dX1_close_13 : decode cX1_close 13 = .ok (.aload_n 0, 1) := by decide +kernel
theorem dX1_close_14 : decode cX1_close 14 = .ok (.getfield 15, 3) := by decide +kernel
theorem dX1_close_17 : decode cX1_close 17 = .ok (.ifCond .eq 50, 3) := by decide +kernel
theorem dX1_close_20 : decode cX1_close 20 = .ok (.aload_n 0, 1) := by decide +kernel
theorem dX1_close_21 : decode cX1_close 21 = .ok (.iconst 0, 1) := by decide +kernel
theorem dX1_close_22 : decode cX1_close 22 = .ok (.putfield 15, 3) := by decide +kernel
theorem dX1_close_25 : decode cX1_close 25 = .ok (.iconst 0, 1) := by decide +kernel
theorem dX1_close_26 : decode cX1_close 26 = .ok (.istore 4, 2) := by decide +kernel
theorem dX1_close_28 : decode cX1_close 28 = .ok (.iload 4, 2) := by decide +kernel
theorem dX1_close_30 : decode cX1_close 30 = .ok (.aload_n 1, 1) := by decide +kernel
theorem dX1_close_31 : decode cX1_close 31 = .ok (.getfield 25, 3) := by decide +kernel
theorem dX1_close_34 : decode cX1_close 34 = .ok (.if_icmp .ge 27, 3) := by decide +kernel
theorem dX1_close_37 : decode cX1_close 37 = .ok (.aload_n 0, 1) := by decide +kernel
theorem dX1_close_38 : decode cX1_close 38 = .ok (.aload_n 1, 1) := by decide +kernel
theorem dX1_close_39 : decode cX1_close 39 = .ok (.iload 4, 2) := by decide +kernel
theorem dX1_close_41 : decode cX1_close 41 = .ok (.invokevirtual 31, 3) := by decide +kernel
theorem dX1_close_44 : decode cX1_close 44 = .ok (.iload_n 2, 1) := by decide +kernel
theorem dX1_close_45 : decode cX1_close 45 = .ok (.ifCond .eq 10, 3) := by decide +kernel
theorem dX1_close_48 : decode cX1_close 48 = .ok (.aload_n 0, 1) := by decide +kernel
theorem dX1_close_49 : decode cX1_close 49 = .ok (.aload_n 1, 1) := by decide +kernel
theorem dX1_close_50 : decode cX1_close 50 = .ok (.iload 4, 2) := by decide +kernel
theorem dX1_close_52 : decode cX1_close 52 = .ok (.invokevirtual 35, 3) := by decide +kernel
theorem dX1_close_55 : decode cX1_close 55 = .ok (.iinc 4 1, 3) := by decide +kernel
theorem dX1_close_58 : decode cX1_close 58 = .ok (.goto (-30), 3) := by decide +kernel
theorem dX1_close_61 : decode cX1_close 61 = .ok (.iinc 3 1, 3) := by decide +kernel
theorem dX1_close_64 : decode cX1_close 64 = .ok (.goto (-57), 3) := by decide +kernel
theorem dX1_close_67 : decode cX1_close 67 = .ok (.return_, 1) := by decide +kernel
theorem dX1_grant_0 : decode cX1_grant 0 = .ok (.iload_n 2, 1) := by decide +kernel
theorem dX1_grant_1 : decode cX1_grant 1 = .ok (.aload_n 0, 1) := by decide +kernel
theorem dX1_grant_2 : decode cX1_grant 2 = .ok (.getfield 9, 3) := by decide +kernel
theorem dX1_grant_5 : decode cX1_grant 5 = .ok (.iload_n 1, 1) := by decide +kernel
theorem dX1_grant_6 : decode cX1_grant 6 = .ok (.iaload, 1) := by decide +kernel
theorem dX1_grant_7 : decode cX1_grant 7 = .ok (.iconst (-1), 1) := by decide +kernel
theorem dX1_grant_8 : decode cX1_grant 8 = .ok (.ixor, 1) := by decide +kernel
theorem dX1_grant_9 : decode cX1_grant 9 = .ok (.iand, 1) := by decide +kernel
theorem dX1_grant_10 : decode cX1_grant 10 = .ok (.ifCond .eq 18, 3) := by decide +kernel
theorem dX1_grant_13 : decode cX1_grant 13 = .ok (.aload_n 0, 1) := by decide +kernel
theorem dX1_grant_14 : decode cX1_grant 14 = .ok (.getfield 9, 3) := by decide +kernel
theorem dX1_grant_17 : decode cX1_grant 17 = .ok (.iload_n 1, 1) := by decide +kernel
theorem dX1_grant_18 : decode cX1_grant 18 = .ok (.dup2, 1) := by decide +kernel
theorem dX1_grant_19 : decode cX1_grant 19 = .ok (.iaload, 1) := by decide +kernel
theorem dX1_grant_20 : decode cX1_grant 20 = .ok (.iload_n 2, 1) := by decide +kernel
theorem dX1_grant_21 : decode cX1_grant 21 = .ok (.ior, 1) := by decide +kernel
theorem dX1_grant_22 : decode cX1_grant 22 = .ok (.iastore, 1) := by decide +kernel
theorem dX1_grant_23 : decode cX1_grant 23 = .ok (.aload_n 0, 1) := by decide +kernel
theorem dX1_grant_24 : decode cX1_grant 24 = .ok (.iconst 1, 1) := by decide +kernel
theorem dX1_grant_25 : decode cX1_grant 25 = .ok (.putfield 15, 3) := by decide +kernel
theorem dX1_grant_28 : decode cX1_grant 28 = .ok (.return_, 1) := by decide +kernel
theorem dX1_init_0 : decode cX1_init 0 = .ok (.aload_n 0, 1) := by decide +kernel
theorem dX1_init_1 : decode cX1_init 1 = .ok (.invokespecial 3, 3) := by decide +kernel
theorem dX1_init_4 : decode cX1_init 4 = .ok (.aload_n 0, 1) := by decide +kernel
theorem dX1_init_5 : decode cX1_init 5 = .ok (.bipush 10, 2) := by decide +kernel
theorem dX1_init_7 : decode cX1_init 7 = .ok (.newarray .int, 2) := by decide +kernel
theorem dX1_init_9 : decode cX1_init 9 = .ok (.putfield 9, 3) := by decide +kernel
theorem dX1_init_12 : decode cX1_init 12 = .ok (.aload_n 0, 1) := by decide +kernel
theorem dX1_init_13 : decode cX1_init 13 = .ok (.iconst 0, 1) := by decide +kernel
theorem dX1_init_14 : decode cX1_init 14 = .ok (.putfield 15, 3) := by decide +kernel
theorem dX1_init_17 : decode cX1_init 17 = .ok (.return_, 1) := by decide +kernel
theorem dX1_merge_0 : decode cX1_merge 0 = .ok (.iconst 0, 1) := by decide +kernel
theorem dX1_merge_1 : decode cX1_merge 1 = .ok (.istore_n 3, 1) := by decide +kernel
theorem dX1_merge_2 : decode cX1_merge 2 = .ok (.iconst 0, 1) := by decide +kernel
theorem dX1_merge_3 : decode cX1_merge 3 = .ok (.istore 4, 2) := by decide +kernel
theorem dX1_merge_5 : decode cX1_merge 5 = .ok (.iload 4, 2) := by decide +kernel
theorem dX1_merge_7 : decode cX1_merge 7 = .ok (.aload_n 1, 1) := by decide +kernel
theorem dX1_merge_8 : decode cX1_merge 8 = .ok (.getfield 25, 3) := by decide +kernel
theorem dX1_merge_11 : decode cX1_merge 11 = .ok (.if_icmp .ge 33, 3) := by decide +kernel
theorem dX1_merge_14 : decode cX1_merge 14 = .ok (.aload_n 0, 1) := by decide +kernel
theorem dX1_merge_15 : decode cX1_merge 15 = .ok (.getfield 9, 3) := by decide +kernel
theorem dX1_merge_18 : decode cX1_merge 18 = .ok (.iload_n 2, 1) := by decide +kernel
theorem dX1_merge_19 : decode cX1_merge 19 = .ok (.iaload, 1) := by decide +kernel
theorem dX1_merge_20 : decode cX1_merge 20 = .ok (.iload 4, 2) := by decide +kernel
theorem dX1_merge_22 : decode cX1_merge 22 = .ok (.invokestatic 41, 3) := by decide +kernel
theorem dX1_merge_25 : decode cX1_merge 25 = .ok (.ifCond .eq 13, 3) := by decide +kernel
theorem dX1_merge_28 : decode cX1_merge 28 = .ok (.iload_n 3, 1) := by decide +kernel
theorem dX1_merge_29 : decode cX1_merge 29 = .ok (.aload_n 1, 1) := by decide +kernel
theorem dX1_merge_30 : decode cX1_merge 30 = .ok (.getfield 75, 3) := by decide +kernel
theorem dX1_merge_33 : decode cX1_merge 33 = .ok (.iload 4, 2) := by decide +kernel
theorem dX1_merge_35 : decode cX1_merge 35 = .ok (.iaload, 1) := by decide +kernel
theorem dX1_merge_36 : decode cX1_merge 36 = .ok (.ior, 1) := by decide +kernel
theorem dX1_merge_37 : decode cX1_merge 37 = .ok (.istore_n 3, 1) := by decide +kernel
theorem dX1_merge_38 : decode cX1_merge 38 = .ok (.iinc 4 1, 3) := by decide +kernel
theorem dX1_merge_41 : decode cX1_merge 41 = .ok (.goto (-36), 3) := by decide +kernel
theorem dX1_merge_44 : decode cX1_merge 44 = .ok (.aload_n 1, 1) := by decide +kernel
theorem dX1_merge_45 : decode cX1_merge 45 = .ok (.getfield 75, 3) := by decide +kernel
theorem dX1_merge_48 : decode cX1_merge 48 = .ok (.iload_n 2, 1) := by decide +kernel
theorem dX1_merge_49 : decode cX1_merge 49 = .ok (.iaload, 1) := by decide +kernel
theorem dX1_merge_50 : decode cX1_merge 50 = .ok (.aload_n 1, 1) := by decide +kernel
theorem dX1_merge_51 : decode cX1_merge 51 = .ok (.getfield 78, 3) := by decide +kernel
theorem dX1_merge_54 : decode cX1_merge 54 = .ok (.iand, 1) := by decide +kernel
theorem dX1_merge_55 : decode cX1_merge 55 = .ok (.istore 4, 2) := by decide +kernel
theorem dX1_merge_57 : decode cX1_merge 57 = .ok (.iconst 0, 1) := by decide +kernel
theorem dX1_merge_58 : decode cX1_merge 58 = .ok (.istore 5, 2) := by decide +kernel
theorem dX1_merge_60 : decode cX1_merge 60 = .ok (.iload 5, 2) := by decide +kernel
theorem dX1_merge_62 : decode cX1_merge 62 = .ok (.aload_n 1, 1) := by decide +kernel
theorem dX1_merge_63 : decode cX1_merge 63 = .ok (.getfield 25, 3) := by decide +kernel
theorem dX1_merge_66 : decode cX1_merge 66 = .ok (.if_icmp .ge 26, 3) := by decide +kernel
theorem dX1_merge_69 : decode cX1_merge 69 = .ok (.iload 4, 2) := by decide +kernel
theorem dX1_merge_71 : decode cX1_merge 71 = .ok (.iload 5, 2) := by decide +kernel
theorem dX1_merge_73 : decode cX1_merge 73 = .ok (.invokestatic 41, 3) := by decide +kernel
theorem dX1_merge_76 : decode cX1_merge 76 = .ok (.ifCond .eq 10, 3) := by decide +kernel
theorem dX1_merge_79 : decode cX1_merge 79 = .ok (.aload_n 0, 1) := by decide +kernel
theorem dX1_merge_80 : decode cX1_merge 80 = .ok (.iload 5, 2) := by decide +kernel
theorem dX1_merge_82 : decode cX1_merge 82 = .ok (.iload_n 3, 1) := by decide +kernel
theorem dX1_merge_83 : decode cX1_merge 83 = .ok (.invokevirtual 55, 3) := by decide +kernel
theorem dX1_merge_86 : decode cX1_merge 86 = .ok (.iinc 5 1, 3) := by decide +kernel
theorem dX1_merge_89 : decode cX1_merge 89 = .ok (.goto (-29), 3) := by decide +kernel
theorem dX1_merge_92 : decode cX1_merge 92 = .ok (.return_, 1) := by decide +kernel
theorem dX1_start_0 : decode cX1_start 0 = .ok (.aload_n 1, 1) := by decide +kernel
theorem dX1_start_1 : decode cX1_start 1 = .ok (.aload_n 0, 1) := by decide +kernel
theorem dX1_start_2 : decode cX1_start 2 = .ok (.getfield 9, 3) := by decide +kernel
theorem dX1_start_5 : decode cX1_start 5 = .ok (.iload_n 2, 1) := by decide +kernel
theorem dX1_start_6 : decode cX1_start 6 = .ok (.invokevirtual 19, 3) := by decide +kernel
theorem dX1_start_9 : decode cX1_start 9 = .ok (.return_, 1) := by decide +kernel
theorem dX1_takeFrom_0 : decode cX1_takeFrom 0 = .ok (.aload_n 1, 1) := by decide +kernel
theorem dX1_takeFrom_1 : decode cX1_takeFrom 1 = .ok (.getfield 63, 3) := by decide +kernel
theorem dX1_takeFrom_4 : decode cX1_takeFrom 4 = .ok (.iload_n 3, 1) := by decide +kernel
theorem dX1_takeFrom_5 : decode cX1_takeFrom 5 = .ok (.invokestatic 41, 3) := by decide +kernel
theorem dX1_takeFrom_8 : decode cX1_takeFrom 8 = .ok (.ifCond .eq 14, 3) := by decide +kernel
theorem dX1_takeFrom_11 : decode cX1_takeFrom 11 = .ok (.aload_n 0, 1) := by decide +kernel
theorem dX1_takeFrom_12 : decode cX1_takeFrom 12 = .ok (.iload_n 2, 1) := by decide +kernel
theorem dX1_takeFrom_13 : decode cX1_takeFrom 13 = .ok (.aload_n 0, 1) := by decide +kernel
theorem dX1_takeFrom_14 : decode cX1_takeFrom 14 = .ok (.getfield 9, 3) := by decide +kernel
theorem dX1_takeFrom_17 : decode cX1_takeFrom 17 = .ok (.iload_n 3, 1) := by decide +kernel
theorem dX1_takeFrom_18 : decode cX1_takeFrom 18 = .ok (.iaload, 1) := by decide +kernel
theorem dX1_takeFrom_19 : decode cX1_takeFrom 19 = .ok (.invokevirtual 55, 3) := by decide +kernel
theorem dX1_takeFrom_22 : decode cX1_takeFrom 22 = .ok (.aload_n 1, 1) := by decide +kernel
theorem dX1_takeFrom_23 : decode cX1_takeFrom 23 = .ok (.getfield 66, 3) := by decide +kernel
theorem dX1_takeFrom_26 : decode cX1_takeFrom 26 = .ok (.iload_n 3, 1) := by decide +kernel
theorem dX1_takeFrom_27 : decode cX1_takeFrom 27 = .ok (.iaload, 1) := by decide +kernel
theorem dX1_takeFrom_28 : decode cX1_takeFrom 28 = .ok (.aload_n 0, 1) := by decide +kernel
theorem dX1_takeFrom_29 : decode cX1_takeFrom 29 = .ok (.getfield 9, 3) := by decide +kernel
theorem dX1_takeFrom_32 : decode cX1_takeFrom 32 = .ok (.iload_n 2, 1) := by decide +kernel
theorem dX1_takeFrom_33 : decode cX1_takeFrom 33 = .ok (.iaload, 1) := by decide +kernel
theorem dX1_takeFrom_34 : decode cX1_takeFrom 34 = .ok (.iand, 1) := by decide +kernel
theorem dX1_takeFrom_35 : decode cX1_takeFrom 35 = .ok (.ifCond .eq 17, 3) := by decide +kernel
theorem dX1_takeFrom_38 : decode cX1_takeFrom 38 = .ok (.aload_n 0, 1) := by decide +kernel
theorem dX1_takeFrom_39 : decode cX1_takeFrom 39 = .ok (.iload_n 2, 1) := by decide +kernel
theorem dX1_takeFrom_40 : decode cX1_takeFrom 40 = .ok (.aload_n 1, 1) := by decide +kernel
theorem dX1_takeFrom_41 : decode cX1_takeFrom 41 = .ok (.getfield 69, 3) := by decide +kernel
theorem dX1_takeFrom_44 : decode cX1_takeFrom 44 = .ok (.iload_n 3, 1) := by decide +kernel
theorem dX1_takeFrom_45 : decode cX1_takeFrom 45 = .ok (.iaload, 1) := by decide +kernel
theorem dX1_takeFrom_46 : decode cX1_takeFrom 46 = .ok (.invokestatic 51, 3) := by decide +kernel
theorem dX1_takeFrom_49 : decode cX1_takeFrom 49 = .ok (.invokevirtual 55, 3) := by decide +kernel
theorem dX1_takeFrom_52 : decode cX1_takeFrom 52 = .ok (.aload_n 1, 1) := by decide +kernel
theorem dX1_takeFrom_53 : decode cX1_takeFrom 53 = .ok (.getfield 72, 3) := by decide +kernel
theorem dX1_takeFrom_56 : decode cX1_takeFrom 56 = .ok (.iload_n 3, 1) := by decide +kernel
theorem dX1_takeFrom_57 : decode cX1_takeFrom 57 = .ok (.invokestatic 41, 3) := by decide +kernel
theorem dX1_takeFrom_60 : decode cX1_takeFrom 60 = .ok (.ifCond .eq 33, 3) := by decide +kernel
theorem dX1_takeFrom_63 : decode cX1_takeFrom 63 = .ok (.aload_n 0, 1) := by decide +kernel
theorem dX1_takeFrom_64 : decode cX1_takeFrom 64 = .ok (.iload_n 2, 1) := by decide +kernel
theorem dX1_takeFrom_65 : decode cX1_takeFrom 65 = .ok (.aload_n 1, 1) := by decide +kernel
theorem dX1_takeFrom_66 : decode cX1_takeFrom 66 = .ok (.getfield 69, 3) := by decide +kernel
theorem dX1_takeFrom_69 : decode cX1_takeFrom 69 = .ok (.iload_n 3, 1) := by decide +kernel
theorem dX1_takeFrom_70 : decode cX1_takeFrom 70 = .ok (.iaload, 1) := by decide +kernel
theorem dX1_takeFrom_71 : decode cX1_takeFrom 71 = .ok (.invokestatic 51, 3) := by decide +kernel
theorem dX1_takeFrom_74 : decode cX1_takeFrom 74 = .ok (.invokevirtual 55, 3) := by decide +kernel
theorem dX1_takeFrom_77 : decode cX1_takeFrom 77 = .ok (.aload_n 0, 1) := by decide +kernel
theorem dX1_takeFrom_78 : decode cX1_takeFrom 78 = .ok (.aload_n 1, 1) := by decide +kernel
theorem dX1_takeFrom_79 : decode cX1_takeFrom 79 = .ok (.getfield 69, 3) := by decide +kernel
theorem dX1_takeFrom_82 : decode cX1_takeFrom 82 = .ok (.iload_n 3, 1) := by decide +kernel
theorem dX1_takeFrom_83 : decode cX1_takeFrom 83 = .ok (.iaload, 1) := by decide +kernel
theorem dX1_takeFrom_84 : decode cX1_takeFrom 84 = .ok (.aload_n 0, 1) := by decide +kernel
theorem dX1_takeFrom_85 : decode cX1_takeFrom 85 = .ok (.getfield 9, 3) := by decide +kernel
theorem dX1_takeFrom_88 : decode cX1_takeFrom 88 = .ok (.iload_n 3, 1) := by decide +kernel
theorem dX1_takeFrom_89 : decode cX1_takeFrom 89 = .ok (.iaload, 1) := by decide +kernel
theorem dX1_takeFrom_90 : decode cX1_takeFrom 90 = .ok (.invokevirtual 55, 3) := by decide +kernel
theorem dX1_takeFrom_93 : decode cX1_takeFrom 93 = .ok (.return_, 1) := by decide +kernel
theorem dX2_init_0 : decode cX2_init 0 = .ok (.aload_n 0, 1) := by decide +kernel
theorem dX2_init_1 : decode cX2_init 1 = .ok (.invokespecial 3, 3) := by decide +kernel
theorem dX2_init_4 : decode cX2_init 4 = .ok (.aload_n 0, 1) := by decide +kernel
theorem dX2_init_5 : decode cX2_init 5 = .ok (.iconst 5, 1) := by decide +kernel
theorem dX2_init_6 : decode cX2_init 6 = .ok (.anewarray 9, 3) := by decide +kernel
theorem dX2_init_9 : decode cX2_init 9 = .ok (.putfield 11, 3) := by decide +kernel
theorem dX2_init_12 : decode cX2_init 12 = .ok (.aload_n 0, 1) := by decide +kernel
theorem dX2_init_13 : decode cX2_init 13 = .ok (.iconst 0, 1) := by decide +kernel
theorem dX2_init_14 : decode cX2_init 14 = .ok (.putfield 17, 3) := by decide +kernel
theorem dX2_init_17 : decode cX2_init 17 = .ok (.aload_n 0, 1) := by decide +kernel
theorem dX2_init_18 : decode cX2_init 18 = .ok (.iconst 0, 1) := by decide +kernel
theorem dX2_init_19 : decode cX2_init 19 = .ok (.putfield 21, 3) := by decide +kernel
theorem dX2_init_22 : decode cX2_init 22 = .ok (.iconst 0, 1) := by decide +kernel
theorem dX2_init_23 : decode cX2_init 23 = .ok (.istore_n 1, 1) := by decide +kernel
theorem dX2_init_24 : decode cX2_init 24 = .ok (.iload_n 1, 1) := by decide +kernel
theorem dX2_init_25 : decode cX2_init 25 = .ok (.iconst 5, 1) := by decide +kernel
theorem dX2_init_26 : decode cX2_init 26 = .ok (.if_icmp .ge 22, 3) := by decide +kernel
theorem dX2_init_29 : decode cX2_init 29 = .ok (.aload_n 0, 1) := by decide +kernel
theorem dX2_init_30 : decode cX2_init 30 = .ok (.getfield 11, 3) := by decide +kernel
theorem dX2_init_33 : decode cX2_init 33 = .ok (.iload_n 1, 1) := by decide +kernel
theorem dX2_init_34 : decode cX2_init 34 = .ok (.new 9, 3) := by decide +kernel
theorem dX2_init_37 : decode cX2_init 37 = .ok (.dup, 1) := by decide +kernel
theorem dX2_init_38 : decode cX2_init 38 = .ok (.invokespecial 24, 3) := by decide +kernel
theorem dX2_init_41 : decode cX2_init 41 = .ok (.aastore, 1) := by decide +kernel
theorem dX2_init_42 : decode cX2_init 42 = .ok (.iinc 1 1, 3) := by decide +kernel
theorem dX2_init_45 : decode cX2_init 45 = .ok (.goto (-21), 3) := by decide +kernel
theorem dX2_init_48 : decode cX2_init 48 = .ok (.return_, 1) := by decide +kernel
theorem dX2_restoreInto_0 : decode cX2_restoreInto 0 = .ok (.aload_n 0, 1) := by decide +kernel
theorem dX2_restoreInto_1 : decode cX2_restoreInto 1 = .ok (.getfield 21, 3) := by decide +kernel
theorem dX2_restoreInto_4 : decode cX2_restoreInto 4 = .ok (.ifCond .gt 4, 3) := by decide +kernel
theorem dX2_restoreInto_7 : decode cX2_restoreInto 7 = .ok (.return_, 1) := by decide +kernel
theorem dX2_restoreInto_8 : decode cX2_restoreInto 8 = .ok (.aload_n 0, 1) := by decide +kernel
theorem dX2_restoreInto_9 : decode cX2_restoreInto 9 = .ok (.aload_n 0, 1) := by decide +kernel
theorem dX2_restoreInto_10 : decode cX2_restoreInto 10 = .ok (.getfield 17, 3) := by decide +kernel
theorem dX2_restoreInto_13 : decode cX2_restoreInto 13 = .ok (.iconst 5, 1) := by decide +kernel
theorem dX2_restoreInto_14 : decode cX2_restoreInto 14 = .ok (.iadd, 1) := by decide +kernel
theorem dX2_restoreInto_15 : decode cX2_restoreInto 15 = .ok (.iconst 1, 1) := by decide +kernel
theorem dX2_restoreInto_16 : decode cX2_restoreInto 16 = .ok (.isub, 1) := by decide +kernel
theorem dX2_restoreInto_17 : decode cX2_restoreInto 17 = .ok (.iconst 5, 1) := by decide +kernel
theorem dX2_restoreInto_18 : decode cX2_restoreInto 18 = .ok (.irem, 1) := by decide +kernel
theorem dX2_restoreInto_19 : decode cX2_restoreInto 19 = .ok (.putfield 17, 3) := by decide +kernel
theorem dX2_restoreInto_22 : decode cX2_restoreInto 22 = .ok (.aload_n 0, 1) := by decide +kernel
theorem dX2_restoreInto_23 : decode cX2_restoreInto 23 = .ok (.dup, 1) := by decide +kernel
theorem dX2_restoreInto_24 : decode cX2_restoreInto 24 = .ok (.getfield 21, 3) := by decide +kernel
theorem dX2_restoreInto_27 : decode cX2_restoreInto 27 = .ok (.iconst 1, 1) := by decide +kernel
theorem dX2_restoreInto_28 : decode cX2_restoreInto 28 = .ok (.isub, 1) := by decide +kernel
theorem dX2_restoreInto_29 : decode cX2_restoreInto 29 = .ok (.putfield 21, 3) := by decide +kernel
theorem dX2_restoreInto_32 : decode cX2_restoreInto 32 = .ok (.aload_n 1, 1) := by decide +kernel
theorem dX2_restoreInto_33 : decode cX2_restoreInto 33 = .ok (.aload_n 0, 1) := by decide +kernel
theorem dX2_restoreInto_34 : decode cX2_restoreInto 34 = .ok (.getfield 11, 3) := by decide +kernel
theorem dX2_restoreInto_37 : decode cX2_restoreInto 37 = .ok (.aload_n 0, 1) := by decide +kernel
theorem dX2_restoreInto_38 : decode cX2_restoreInto 38 = .ok (.getfield 17, 3) := by decide +kernel
theorem dX2_restoreInto_41 : decode cX2_restoreInto 41 = .ok (.aaload, 1) := by decide +kernel
theorem dX2_restoreInto_42 : decode cX2_restoreInto 42 = .ok (.invokevirtual 25, 3) := by decide +kernel
theorem dX2_restoreInto_45 : decode cX2_restoreInto 45 = .ok (.return_, 1) := by decide +kernel
theorem dX2_save_0 : decode cX2_save 0 = .ok (.aload_n 0, 1) := by decide +kernel
theorem dX2_save_1 : decode cX2_save 1 = .ok (.getfield 11, 3) := by decide +kernel
theorem dX2_save_4 : decode cX2_save 4 = .ok (.aload_n 0, 1) := by decide +kernel
theorem dX2_save_5 : decode cX2_save 5 = .ok (.getfield 17, 3) := by decide +kernel
theorem dX2_save_8 : decode cX2_save 8 = .ok (.aaload, 1) := by decide +kernel
theorem dX2_save_9 : decode cX2_save 9 = .ok (.aload_n 1, 1) := by decide +kernel
theorem dX2_save_10 : decode cX2_save 10 = .ok (.invokevirtual 25, 3) := by decide +kernel
theorem dX2_save_13 : decode cX2_save 13 = .ok (.aload_n 0, 1) := by decide +kernel
theorem dX2_save_14 : decode cX2_save 14 = .ok (.aload_n 0, 1) := by decide +kernel
theorem dX2_save_15 : decode cX2_save 15 = .ok (.getfield 17, 3) := by decide +kernel
theorem dX2_save_18 : decode cX2_save 18 = .ok (.iconst 1, 1) := by decide +kernel
theorem dX2_save_19 : decode cX2_save 19 = .ok (.iadd, 1) := by decide +kernel
theorem dX2_save_20 : decode cX2_save 20 = .ok (.iconst 5, 1) := by decide +kernel
theorem dX2_save_21 : decode cX2_save 21 = .ok (.irem, 1) := by decide +kernel
theorem dX2_save_22 : decode cX2_save 22 = .ok (.putfield 17, 3) := by decide +kernel
theorem dX2_save_25 : decode cX2_save 25 = .ok (.aload_n 0, 1) := by decide +kernel
theorem dX2_save_26 : decode cX2_save 26 = .ok (.aload_n 0, 1) := by decide +kernel
theorem dX2_save_27 : decode cX2_save 27 = .ok (.getfield 21, 3) := by decide +kernel
theorem dX2_save_30 : decode cX2_save 30 = .ok (.iconst 1, 1) := by decide +kernel
theorem dX2_save_31 : decode cX2_save 31 = .ok (.iadd, 1) := by decide +kernel
theorem dX2_save_32 : decode cX2_save 32 = .ok (.iconst 5, 1) := by decide +kernel
theorem dX2_save_33 : decode cX2_save 33 = .ok (.invokestatic 29, 3) := by decide +kernel
theorem dX2_save_36 : decode cX2_save 36 = .ok (.putfield 21, 3) := by decide +kernel
theorem dX2_save_39 : decode cX2_save 39 = .ok (.return_, 1) := by decide +kernel
theorem dX3_agentsWith_0 : decode cX3_agentsWith 0 = .ok (.iconst 0, 1) := by decide +kernel
theorem dX3_agentsWith_1 : decode cX3_agentsWith 1 = .ok (.istore_n 2, 1) := by decide +kernel
theorem dX3_agentsWith_2 : decode cX3_agentsWith 2 = .ok (.iconst 0, 1) := by decide +kernel
theorem dX3_agentsWith_3 : decode cX3_agentsWith 3 = .ok (.istore_n 3, 1) := by decide +kernel
theorem dX3_agentsWith_4 : decode cX3_agentsWith 4 = .ok (.iload_n 3, 1) := by decide +kernel
theorem dX3_agentsWith_5 : decode cX3_agentsWith 5 = .ok (.aload_n 0, 1) := by decide +kernel
theorem dX3_agentsWith_6 : decode cX3_agentsWith 6 = .ok (.getfield 49, 3) := by decide +kernel
theorem dX3_agentsWith_9 : decode cX3_agentsWith 9 = .ok (.if_icmp .ge 25, 3) := by decide +kernel
theorem dX3_agentsWith_12 : decode cX3_agentsWith 12 = .ok (.aload_n 0, 1) := by decide +kernel
theorem dX3_agentsWith_13 : decode cX3_agentsWith 13 = .ok (.iload_n 3, 1) := by decide +kernel
theorem dX3_agentsWith_14 : decode cX3_agentsWith 14 = .ok (.iload_n 1, 1) := by decide +kernel
theorem dX3_agentsWith_15 : decode cX3_agentsWith 15 = .ok (.invokevirtual 85, 3) := by decide +kernel
theorem dX3_agentsWith_18 : decode cX3_agentsWith 18 = .ok (.ifCond .eq 10, 3) := by decide +kernel
theorem dX3_agentsWith_21 : decode cX3_agentsWith 21 = .ok (.iload_n 2, 1) := by decide +kernel
theorem dX3_agentsWith_22 : decode cX3_agentsWith 22 = .ok (.iload_n 3, 1) := by decide +kernel
theorem dX3_agentsWith_23 : decode cX3_agentsWith 23 = .ok (.invokestatic 71, 3) := by decide +kernel
theorem dX3_agentsWith_26 : decode cX3_agentsWith 26 = .ok (.ior, 1) := by decide +kernel
theorem dX3_agentsWith_27 : decode cX3_agentsWith 27 = .ok (.istore_n 2, 1) := by decide +kernel
theorem dX3_agentsWith_28 : decode cX3_agentsWith 28 = .ok (.iinc 3 1, 3) := by decide +kernel
theorem dX3_agentsWith_31 : decode cX3_agentsWith 31 = .ok (.goto (-27), 3) := by decide +kernel
theorem dX3_agentsWith_34 : decode cX3_agentsWith 34 = .ok (.iload_n 2, 1) := by decide +kernel
theorem dX3_agentsWith_35 : decode cX3_agentsWith 35 = .ok (.ireturn, 1) := by decide +kernel
theorem dX3_init_0 : decode cX3_init 0 = .ok (.aload_n 0, 1) := by decide +kernel
theorem dX3_init_1 : decode cX3_init 1 = .ok (.invokespecial 3, 3) := by decide +kernel
theorem dX3_init_4 : decode cX3_init 4 = .ok (.aload_n 0, 1) := by decide +kernel
theorem dX3_init_5 : decode cX3_init 5 = .ok (.iconst 0, 1) := by decide +kernel
theorem dX3_init_6 : decode cX3_init 6 = .ok (.putfield 9, 3) := by decide +kernel
theorem dX3_init_9 : decode cX3_init 9 = .ok (.aload_n 0, 1) := by decide +kernel
theorem dX3_init_10 : decode cX3_init 10 = .ok (.iconst 0, 1) := by decide +kernel
theorem dX3_init_11 : decode cX3_init 11 = .ok (.putfield 15, 3) := by decide +kernel
theorem dX3_init_14 : decode cX3_init 14 = .ok (.aload_n 0, 1) := by decide +kernel
theorem dX3_init_15 : decode cX3_init 15 = .ok (.iconst 0, 1) := by decide +kernel
theorem dX3_init_16 : decode cX3_init 16 = .ok (.putfield 18, 3) := by decide +kernel
theorem dX3_init_19 : decode cX3_init 19 = .ok (.aload_n 0, 1) := by decide +kernel
theorem dX3_init_20 : decode cX3_init 20 = .ok (.iconst 0, 1) := by decide +kernel
theorem dX3_init_21 : decode cX3_init 21 = .ok (.putfield 21, 3) := by decide +kernel
theorem dX3_init_24 : decode cX3_init 24 = .ok (.aload_n 0, 1) := by decide +kernel
theorem dX3_init_25 : decode cX3_init 25 = .ok (.iconst 0, 1) := by decide +kernel
theorem dX3_init_26 : decode cX3_init 26 = .ok (.putfield 24, 3) := by decide +kernel
theorem dX3_init_29 : decode cX3_init 29 = .ok (.aload_n 0, 1) := by decide +kernel
theorem dX3_init_30 : decode cX3_init 30 = .ok (.iconst 0, 1) := by decide +kernel
theorem dX3_init_31 : decode cX3_init 31 = .ok (.putfield 27, 3) := by decide +kernel
theorem dX3_init_34 : decode cX3_init 34 = .ok (.aload_n 0, 1) := by decide +kernel
theorem dX3_init_35 : decode cX3_init 35 = .ok (.iconst 0, 1) := by decide +kernel
theorem dX3_init_36 : decode cX3_init 36 = .ok (.putfield 30, 3) := by decide +kernel
theorem dX3_init_39 : decode cX3_init 39 = .ok (.aload_n 0, 1) := by decide +kernel
theorem dX3_init_40 : decode cX3_init 40 = .ok (.bipush 10, 2) := by decide +kernel
theorem dX3_init_42 : decode cX3_init 42 = .ok (.newarray .int, 2) := by decide +kernel
theorem dX3_init_44 : decode cX3_init 44 = .ok (.putfield 33, 3) := by decide +kernel
theorem dX3_init_47 : decode cX3_init 47 = .ok (.aload_n 0, 1) := by decide +kernel
theorem dX3_init_48 : decode cX3_init 48 = .ok (.bipush 10, 2) := by decide +kernel
theorem dX3_init_50 : decode cX3_init 50 = .ok (.newarray .int, 2) := by decide +kernel
theorem dX3_init_52 : decode cX3_init 52 = .ok (.putfield 37, 3) := by decide +kernel
theorem dX3_init_55 : decode cX3_init 55 = .ok (.aload_n 0, 1) := by decide +kernel
theorem dX3_init_56 : decode cX3_init 56 = .ok (.bipush 10, 2) := by decide +kernel
theorem dX3_init_58 : decode cX3_init 58 = .ok (.newarray .int, 2) := by decide +kernel
theorem dX3_init_60 : decode cX3_init 60 = .ok (.putfield 40, 3) := by decide +kernel
theorem dX3_init_63 : decode cX3_init 63 = .ok (.aload_n 0, 1) := by decide +kernel
theorem dX3_init_64 : decode cX3_init 64 = .ok (.bipush 10, 2) := by decide +kernel
theorem dX3_init_66 : decode cX3_init 66 = .ok (.newarray .int, 2) := by decide +kernel
theorem dX3_init_68 : decode cX3_init 68 = .ok (.putfield 43, 3) := by decide +kernel
theorem dX3_init_71 : decode cX3_init 71 = .ok (.aload_n 0, 1) := by decide +kernel
theorem dX3_init_72 : decode cX3_init 72 = .ok (.bipush 10, 2) := by decide +kernel
theorem dX3_init_74 : decode cX3_init 74 = .ok (.newarray .int, 2) := by decide +kernel
theorem dX3_init_76 : decode cX3_init 76 = .ok (.putfield 46, 3) := by decide +kernel
theorem dX3_init_79 : decode cX3_init 79 = .ok (.return_, 1) := by decide +kernel
theorem dX3_readFrom_0 : decode cX3_readFrom 0 = .ok (.aload_n 0, 1) := by decide +kernel
theorem dX3_readFrom_1 : decode cX3_readFrom 1 = .ok (.aload_n 1, 1) := by decide +kernel
theorem dX3_readFrom_2 : decode cX3_readFrom 2 = .ok (.getfield 49, 3) := by decide +kernel
theorem dX3_readFrom_5 : decode cX3_readFrom 5 = .ok (.putfield 9, 3) := by decide +kernel
theorem dX3_readFrom_8 : decode cX3_readFrom 8 = .ok (.aload_n 0, 1) := by decide +kernel
theorem dX3_readFrom_9 : decode cX3_readFrom 9 = .ok (.aload_n 1, 1) := by decide +kernel
theorem dX3_readFrom_10 : decode cX3_readFrom 10 = .ok (.iconst 1, 1) := by decide +kernel
theorem dX3_readFrom_11 : decode cX3_readFrom 11 = .ok (.invokestatic 52, 3) := by decide +kernel
theorem dX3_readFrom_14 : decode cX3_readFrom 14 = .ok (.putfield 15, 3) := by decide +kernel
theorem dX3_readFrom_17 : decode cX3_readFrom 17 = .ok (.aload_n 0, 1) := by decide +kernel
theorem dX3_readFrom_18 : decode cX3_readFrom 18 = .ok (.aload_n 1, 1) := by decide +kernel
theorem dX3_readFrom_19 : decode cX3_readFrom 19 = .ok (.iconst 2, 1) := by decide +kernel
theorem dX3_readFrom_20 : decode cX3_readFrom 20 = .ok (.invokestatic 52, 3) := by decide +kernel
theorem dX3_readFrom_23 : decode cX3_readFrom 23 = .ok (.putfield 18, 3) := by decide +kernel
theorem dX3_readFrom_26 : decode cX3_readFrom 26 = .ok (.aload_n 0, 1) := by decide +kernel
theorem dX3_readFrom_27 : decode cX3_readFrom 27 = .ok (.aload_n 1, 1) := by decide +kernel
theorem dX3_readFrom_28 : decode cX3_readFrom 28 = .ok (.iconst 4, 1) := by decide +kernel
theorem dX3_readFrom_29 : decode cX3_readFrom 29 = .ok (.invokestatic 52, 3) := by decide +kernel
theorem dX3_readFrom_32 : decode cX3_readFrom 32 = .ok (.putfield 21, 3) := by decide +kernel
theorem dX3_readFrom_35 : decode cX3_readFrom 35 = .ok (.aload_n 0, 1) := by decide +kernel
theorem dX3_readFrom_36 : decode cX3_readFrom 36 = .ok (.aload_n 1, 1) := by decide +kernel
theorem dX3_readFrom_37 : decode cX3_readFrom 37 = .ok (.bipush 8, 2) := by decide +kernel
theorem dX3_readFrom_39 : decode cX3_readFrom 39 = .ok (.invokestatic 52, 3) := by decide +kernel
theorem dX3_readFrom_42 : decode cX3_readFrom 42 = .ok (.putfield 24, 3) := by decide +kernel
theorem dX3_readFrom_45 : decode cX3_readFrom 45 = .ok (.aload_n 0, 1) := by decide +kernel
theorem dX3_readFrom_46 : decode cX3_readFrom 46 = .ok (.iconst 0, 1) := by decide +kernel
theorem dX3_readFrom_47 : decode cX3_readFrom 47 = .ok (.putfield 27, 3) := by decide +kernel
theorem dX3_readFrom_50 : decode cX3_readFrom 50 = .ok (.aload_n 0, 1) := by decide +kernel
theorem dX3_readFrom_51 : decode cX3_readFrom 51 = .ok (.iconst 0, 1) := by decide +kernel
theorem dX3_readFrom_52 : decode cX3_readFrom 52 = .ok (.putfield 30, 3) := by decide +kernel
theorem dX3_readFrom_55 : decode cX3_readFrom 55 = .ok (.aload_n 0, 1) := by decide +kernel
theorem dX3_readFrom_56 : decode cX3_readFrom 56 = .ok (.getfield 40, 3) := by decide +kernel
theorem dX3_readFrom_59 : decode cX3_readFrom 59 = .ok (.iconst 0, 1) := by decide +kernel
theorem dX3_readFrom_60 : decode cX3_readFrom 60 = .ok (.invokestatic 56, 3) := by decide +kernel
theorem dX3_readFrom_63 : decode cX3_readFrom 63 = .ok (.aload_n 0, 1) := by decide +kernel
theorem dX3_readFrom_64 : decode cX3_readFrom 64 = .ok (.getfield 43, 3) := by decide +kernel
theorem dX3_readFrom_67 : decode cX3_readFrom 67 = .ok (.iconst 0, 1) := by decide +kernel
theorem dX3_readFrom_68 : decode cX3_readFrom 68 = .ok (.invokestatic 56, 3) := by decide +kernel
theorem dX3_readFrom_71 : decode cX3_readFrom 71 = .ok (.iconst 0, 1) := by decide +kernel
theorem dX3_readFrom_72 : decode cX3_readFrom 72 = .ok (.istore_n 2, 1) := by decide +kernel
theorem dX3_readFrom_73 : decode cX3_readFrom 73 = .ok (.iload_n 2, 1) := by decide +kernel
theorem dX3_readFrom_74 : decode cX3_readFrom 74 = .ok (.aload_n 0, 1) := by decide +kernel
theorem dX3_readFrom_75 : decode cX3_readFrom 75 = .ok (.getfield 9, 3) := by decide +kernel
theorem dX3_readFrom_78 : decode cX3_readFrom 78 = .ok (.if_icmp .ge 15, 3) := by decide +kernel
theorem dX3_readFrom_81 : decode cX3_readFrom 81 = .ok (.aload_n 0, 1) := by decide +kernel
theorem dX3_readFrom_82 : decode cX3_readFrom 82 = .ok (.aload_n 1, 1) := by decide +kernel
theorem dX3_readFrom_83 : decode cX3_readFrom 83 = .ok (.iload_n 2, 1) := by decide +kernel
theorem dX3_readFrom_84 : decode cX3_readFrom 84 = .ok (.invokevirtual 62, 3) := by decide +kernel
theorem dX3_readFrom_87 : decode cX3_readFrom 87 = .ok (.iinc 2 1, 3) := by decide +kernel
theorem dX3_readFrom_90 : decode cX3_readFrom 90 = .ok (.goto (-17), 3) := by decide +kernel
theorem dX3_readFrom_93 : decode cX3_readFrom 93 = .ok (.return_, 1) := by decide +kernel
theorem dX3_readObject_0 : decode cX3_readObject 0 = .ok (.aload_n 1, 1) := by decide +kernel
theorem dX3_readObject_1 : decode cX3_readObject 1 = .ok (.getfield 66, 3) := by decide +kernel
theorem dX3_readObject_4 : decode cX3_readObject 4 = .ok (.iload_n 2, 1) := by decide +kernel
theorem dX3_readObject_5 : decode cX3_readObject 5 = .ok (.iaload, 1) := by decide +kernel
theorem dX3_readObject_6 : decode cX3_readObject 6 = .ok (.istore_n 3, 1) := by decide +kernel
theorem dX3_readObject_7 : decode cX3_readObject 7 = .ok (.aload_n 0, 1) := by decide +kernel
theorem dX3_readObject_8 : decode cX3_readObject 8 = .ok (.getfield 33, 3) := by decide +kernel
theorem dX3_readObject_11 : decode cX3_readObject 11 = .ok (.iload_n 2, 1) := by decide +kernel
theorem dX3_readObject_12 : decode cX3_readObject 12 = .ok (.iload_n 3, 1) := by decide +kernel
theorem dX3_readObject_13 : decode cX3_readObject 13 = .ok (.iastore, 1) := by decide +kernel
theorem dX3_readObject_14 : decode cX3_readObject 14 = .ok (.aload_n 1, 1) := by decide +kernel
theorem dX3_readObject_15 : decode cX3_readObject 15 = .ok (.iload_n 2, 1) := by decide +kernel
theorem dX3_readObject_16 : decode cX3_readObject 16 = .ok (.iconst 1, 1) := by decide +kernel
theorem dX3_readObject_17 : decode cX3_readObject 17 = .ok (.invokevirtual 67, 3) := by decide +kernel
theorem dX3_readObject_20 : decode cX3_readObject 20 = .ok (.ifCond .eq 16, 3) := by decide +kernel
theorem dX3_readObject_23 : decode cX3_readObject 23 = .ok (.aload_n 0, 1) := by decide +kernel
theorem dX3_readObject_24 : decode cX3_readObject 24 = .ok (.getfield 40, 3) := by decide +kernel
theorem dX3_readObject_27 : decode cX3_readObject 27 = .ok (.iload_n 3, 1) := by decide +kernel
theorem dX3_readObject_28 : decode cX3_readObject 28 = .ok (.dup2, 1) := by decide +kernel
theorem dX3_readObject_29 : decode cX3_readObject 29 = .ok (.iaload, 1) := by decide +kernel
theorem dX3_readObject_30 : decode cX3_readObject 30 = .ok (.iload_n 2, 1) := by decide +kernel
theorem dX3_readObject_31 : decode cX3_readObject 31 = .ok (.invokestatic 71, 3) := by decide +kernel
theorem dX3_readObject_34 : decode cX3_readObject 34 = .ok (.ior, 1) := by decide +kernel
theorem dX3_readObject_35 : decode cX3_readObject 35 = .ok (.iastore, 1) := by decide +kernel
theorem dX3_readObject_36 : decode cX3_readObject 36 = .ok (.aload_n 1, 1) := by decide +kernel
theorem dX3_readObject_37 : decode cX3_readObject 37 = .ok (.iload_n 2, 1) := by decide +kernel
theorem dX3_readObject_38 : decode cX3_readObject 38 = .ok (.iconst 3, 1) := by decide +kernel
theorem dX3_readObject_39 : decode cX3_readObject 39 = .ok (.invokevirtual 67, 3) := by decide +kernel
theorem dX3_readObject_42 : decode cX3_readObject 42 = .ok (.ifCond .eq 29, 3) := by decide +kernel
theorem dX3_readObject_45 : decode cX3_readObject 45 = .ok (.aload_n 0, 1) := by decide +kernel
theorem dX3_readObject_46 : decode cX3_readObject 46 = .ok (.getfield 43, 3) := by decide +kernel
theorem dX3_readObject_49 : decode cX3_readObject 49 = .ok (.iload_n 3, 1) := by decide +kernel
theorem dX3_readObject_50 : decode cX3_readObject 50 = .ok (.dup2, 1) := by decide +kernel
theorem dX3_readObject_51 : decode cX3_readObject 51 = .ok (.iaload, 1) := by decide +kernel
theorem dX3_readObject_52 : decode cX3_readObject 52 = .ok (.iload_n 2, 1) := by decide +kernel
theorem dX3_readObject_53 : decode cX3_readObject 53 = .ok (.invokestatic 71, 3) := by decide +kernel
theorem dX3_readObject_56 : decode cX3_readObject 56 = .ok (.ior, 1) := by decide +kernel
theorem dX3_readObject_57 : decode cX3_readObject 57 = .ok (.iastore, 1) := by decide +kernel
theorem dX3_readObject_58 : decode cX3_readObject 58 = .ok (.aload_n 0, 1) := by decide +kernel
theorem dX3_readObject_59 : decode cX3_readObject 59 = .ok (.dup, 1) := by decide +kernel
theorem dX3_readObject_60 : decode cX3_readObject 60 = .ok (.getfield 27, 3) := by decide +kernel
theorem dX3_readObject_63 : decode cX3_readObject 63 = .ok (.iload_n 2, 1) := by decide +kernel
theorem dX3_readObject_64 : decode cX3_readObject 64 = .ok (.invokestatic 71, 3) := by decide +kernel
theorem dX3_readObject_67 : decode cX3_readObject 67 = .ok (.ior, 1) := by decide +kernel
theorem dX3_readObject_68 : decode cX3_readObject 68 = .ok (.putfield 27, 3) := by decide +kernel
theorem dX3_readObject_71 : decode cX3_readObject 71 = .ok (.aload_n 1, 1) := by decide +kernel
theorem dX3_readObject_72 : decode cX3_readObject 72 = .ok (.iload_n 2, 1) := by decide +kernel
theorem dX3_readObject_73 : decode cX3_readObject 73 = .ok (.invokevirtual 75, 3) := by decide +kernel
theorem dX3_readObject_76 : decode cX3_readObject 76 = .ok (.ifCond .eq 16, 3) := by decide +kernel
theorem dX3_readObject_79 : decode cX3_readObject 79 = .ok (.aload_n 0, 1) := by decide +kernel
theorem dX3_readObject_80 : decode cX3_readObject 80 = .ok (.dup, 1) := by decide +kernel
theorem dX3_readObject_81 : decode cX3_readObject 81 = .ok (.getfield 30, 3) := by decide +kernel
theorem dX3_readObject_84 : decode cX3_readObject 84 = .ok (.iload_n 2, 1) := by decide +kernel
theorem dX3_readObject_85 : decode cX3_readObject 85 = .ok (.invokestatic 71, 3) := by decide +kernel
theorem dX3_readObject_88 : decode cX3_readObject 88 = .ok (.ior, 1) := by decide +kernel
theorem dX3_readObject_89 : decode cX3_readObject 89 = .ok (.putfield 30, 3) := by decide +kernel
theorem dX3_readObject_92 : decode cX3_readObject 92 = .ok (.aload_n 0, 1) := by decide +kernel
theorem dX3_readObject_93 : decode cX3_readObject 93 = .ok (.getfield 37, 3) := by decide +kernel
theorem dX3_readObject_96 : decode cX3_readObject 96 = .ok (.iload_n 2, 1) := by decide +kernel
theorem dX3_readObject_97 : decode cX3_readObject 97 = .ok (.iconst 0, 1) := by decide +kernel
theorem dX3_readObject_98 : decode cX3_readObject 98 = .ok (.iastore, 1) := by decide +kernel
theorem dX3_readObject_99 : decode cX3_readObject 99 = .ok (.aload_n 0, 1) := by decide +kernel
theorem dX3_readObject_100 : decode cX3_readObject 100 = .ok (.getfield 46, 3) := by decide +kernel
theorem dX3_readObject_103 : decode cX3_readObject 103 = .ok (.iload_n 2, 1) := by decide +kernel
theorem dX3_readObject_104 : decode cX3_readObject 104 = .ok (.iconst 0, 1) := by decide +kernel
theorem dX3_readObject_105 : decode cX3_readObject 105 = .ok (.iastore, 1) := by decide +kernel
theorem dX3_readObject_106 : decode cX3_readObject 106 = .ok (.iconst 0, 1) := by decide +kernel
theorem dX3_readObject_107 : decode cX3_readObject 107 = .ok (.istore 4, 2) := by decide +kernel
theorem dX3_readObject_109 : decode cX3_readObject 109 = .ok (.iload 4, 2) := by decide +kernel
theorem dX3_readObject_111 : decode cX3_readObject 111 = .ok (.aload_n 0, 1) := by decide +kernel
theorem dX3_readObject_112 : decode cX3_readObject 112 = .ok (.getfield 9, 3) := by decide +kernel
theorem dX3_readObject_115 : decode cX3_readObject 115 = .ok (.if_icmp .ge 63, 3) := by decide +kernel
theorem dX3_readObject_118 : decode cX3_readObject 118 = .ok (.aload_n 1, 1) := by decide +kernel
theorem dX3_readObject_119 : decode cX3_readObject 119 = .ok (.iload 4, 2) := by decide +kernel
theorem dX3_readObject_121 : decode cX3_readObject 121 = .ok (.iload_n 2, 1) := by decide +kernel
theorem dX3_readObject_122 : decode cX3_readObject 122 = .ok (.invokevirtual 79, 3) := by decide +kernel
theorem dX3_readObject_125 : decode cX3_readObject 125 = .ok (.ifCond .eq 17, 3) := by decide +kernel
theorem dX3_readObject_128 : decode cX3_readObject 128 = .ok (.aload_n 0, 1) := by decide +kernel
theorem dX3_readObject_129 : decode cX3_readObject 129 = .ok (.getfield 37, 3) := by decide +kernel
theorem dX3_readObject_132 : decode cX3_readObject 132 = .ok (.iload_n 2, 1) := by decide +kernel
theorem dX3_readObject_133 : decode cX3_readObject 133 = .ok (.dup2, 1) := by decide +kernel
theorem dX3_readObject_134 : decode cX3_readObject 134 = .ok (.iaload, 1) := by decide +kernel
theorem dX3_readObject_135 : decode cX3_readObject 135 = .ok (.iload 4, 2) := by decide +kernel
theorem dX3_readObject_137 : decode cX3_readObject 137 = .ok (.invokestatic 71, 3) := by decide +kernel
theorem dX3_readObject_140 : decode cX3_readObject 140 = .ok (.ior, 1) := by decide +kernel
theorem dX3_readObject_141 : decode cX3_readObject 141 = .ok (.iastore, 1) := by decide +kernel
theorem dX3_readObject_142 : decode cX3_readObject 142 = .ok (.aload_n 1, 1) := by decide +kernel
theorem dX3_readObject_143 : decode cX3_readObject 143 = .ok (.getfield 82, 3) := by decide +kernel
theorem dX3_readObject_146 : decode cX3_readObject 146 = .ok (.iload 4, 2) := by decide +kernel
theorem dX3_readObject_148 : decode cX3_readObject 148 = .ok (.iaload, 1) := by decide +kernel
theorem dX3_readObject_149 : decode cX3_readObject 149 = .ok (.aload_n 1, 1) := by decide +kernel
theorem dX3_readObject_150 : decode cX3_readObject 150 = .ok (.getfield 82, 3) := by decide +kernel
theorem dX3_readObject_153 : decode cX3_readObject 153 = .ok (.iload_n 2, 1) := by decide +kernel
theorem dX3_readObject_154 : decode cX3_readObject 154 = .ok (.iaload, 1) := by decide +kernel
theorem dX3_readObject_155 : decode cX3_readObject 155 = .ok (.if_icmp .ne 17, 3) := by decide +kernel
theorem dX3_readObject_158 : decode cX3_readObject 158 = .ok (.aload_n 0, 1) := by decide +kernel
theorem dX3_readObject_159 : decode cX3_readObject 159 = .ok (.getfield 46, 3) := by decide +kernel
theorem dX3_readObject_162 : decode cX3_readObject 162 = .ok (.iload_n 2, 1) := by decide +kernel
theorem dX3_readObject_163 : decode cX3_readObject 163 = .ok (.dup2, 1) := by decide +kernel
theorem dX3_readObject_164 : decode cX3_readObject 164 = .ok (.iaload, 1) := by decide +kernel
theorem dX3_readObject_165 : decode cX3_readObject 165 = .ok (.iload 4, 2) := by decide +kernel
theorem dX3_readObject_167 : decode cX3_readObject 167 = .ok (.invokestatic 71, 3) := by decide +kernel
theorem dX3_readObject_170 : decode cX3_readObject 170 = .ok (.ior, 1) := by decide +kernel
theorem dX3_readObject_171 : decode cX3_readObject 171 = .ok (.iastore, 1) := by decide +kernel
theorem dX3_readObject_172 : decode cX3_readObject 172 = .ok (.iinc 4 1, 3) := by decide +kernel
theorem dX3_readObject_175 : decode cX3_readObject 175 = .ok (.goto (-66), 3) := by decide +kernel
theorem dX3_readObject_178 : decode cX3_readObject 178 = .ok (.return_, 1) := by decide +kernel
theorem dX4_addRequirement_0 : decode cX4_addRequirement 0 = .ok (.aload_n 0, 1) := by decide +kernel
theorem dX4_addRequirement_1 : decode cX4_addRequirement 1 = .ok (.getfield 37, 3) := by decide +kernel
theorem dX4_addRequirement_4 : decode cX4_addRequirement 4 = .ok (.iconst 4, 1) := by decide +kernel
theorem dX4_addRequirement_5 : decode cX4_addRequirement 5 = .ok (.if_icmp .lt 4, 3) := by decide +kernel
theorem dX4_addRequirement_8 : decode cX4_addRequirement 8 = .ok (.return_, 1) := by decide +kernel
theorem dX4_addRequirement_9 : decode cX4_addRequirement 9 = .ok (.aload_n 0, 1) := by decide +kernel
theorem dX4_addRequirement_10 : decode cX4_addRequirement 10 = .ok (.getfield 40, 3) := by decide +kernel
theorem dX4_addRequirement_13 : decode cX4_addRequirement 13 = .ok (.aload_n 0, 1) := by decide +kernel
theorem dX4_addRequirement_14 : decode cX4_addRequirement 14 = .ok (.getfield 37, 3) := by decide +kernel
theorem dX4_addRequirement_17 : decode cX4_addRequirement 17 = .ok (.iload_n 1, 1) := by decide +kernel
theorem dX4_addRequirement_18 : decode cX4_addRequirement 18 = .ok (.iastore, 1) := by decide +kernel
theorem dX4_addRequirement_19 : decode cX4_addRequirement 19 = .ok (.aload_n 0, 1) := by decide +kernel
theorem dX4_addRequirement_20 : decode cX4_addRequirement 20 = .ok (.getfield 43, 3) := by decide +kernel
theorem dX4_addRequirement_23 : decode cX4_addRequirement 23 = .ok (.aload_n 0, 1) := by decide +kernel
theorem dX4_addRequirement_24 : decode cX4_addRequirement 24 = .ok (.getfield 37, 3) := by decide +kernel
theorem dX4_addRequirement_27 : decode cX4_addRequirement 27 = .ok (.iload_n 2, 1) := by decide +kernel
theorem dX4_addRequirement_28 : decode cX4_addRequirement 28 = .ok (.iastore, 1) := by decide +kernel
theorem dX4_addRequirement_29 : decode cX4_addRequirement 29 = .ok (.aload_n 0, 1) := by decide +kernel
theorem dX4_addRequirement_30 : decode cX4_addRequirement 30 = .ok (.dup, 1) := by decide +kernel
theorem dX4_addRequirement_31 : decode cX4_addRequirement 31 = .ok (.getfield 37, 3) := by decide +kernel
theorem dX4_addRequirement_34 : decode cX4_addRequirement 34 = .ok (.iconst 1, 1) := by decide +kernel
theorem dX4_addRequirement_35 : decode cX4_addRequirement 35 = .ok (.iadd, 1) := by decide +kernel
theorem dX4_addRequirement_36 : decode cX4_addRequirement 36 = .ok (.putfield 37, 3) := by decide +kernel
theorem dX4_addRequirement_39 : decode cX4_addRequirement 39 = .ok (.return_, 1) := by decide +kernel
theorem dX4_addToRun_0 : decode cX4_addToRun 0 = .ok (.iload_n 2, 1) := by decide +kernel
theorem dX4_addToRun_1 : decode cX4_addToRun 1 = .ok (.aload_n 0, 1) := by decide +kernel
theorem dX4_addToRun_2 : decode cX4_addToRun 2 = .ok (.getfield 46, 3) := by decide +kernel
theorem dX4_addToRun_5 : decode cX4_addToRun 5 = .ok (.iload_n 1, 1) := by decide +kernel
theorem dX4_addToRun_6 : decode cX4_addToRun 6 = .ok (.iaload, 1) := by decide +kernel
theorem dX4_addToRun_7 : decode cX4_addToRun 7 = .ok (.iconst (-1), 1) := by decide +kernel
theorem dX4_addToRun_8 : decode cX4_addToRun 8 = .ok (.ixor, 1) := by decide +kernel
theorem dX4_addToRun_9 : decode cX4_addToRun 9 = .ok (.iand, 1) := by decide +kernel
theorem dX4_addToRun_10 : decode cX4_addToRun 10 = .ok (.istore_n 3, 1) := by decide +kernel
theorem dX4_addToRun_11 : decode cX4_addToRun 11 = .ok (.aload_n 0, 1) := by decide +kernel
theorem dX4_addToRun_12 : decode cX4_addToRun 12 = .ok (.getfield 46, 3) := by decide +kernel
theorem dX4_addToRun_15 : decode cX4_addToRun 15 = .ok (.iload_n 1, 1) := by decide +kernel
theorem dX4_addToRun_16 : decode cX4_addToRun 16 = .ok (.dup2, 1) := by decide +kernel
theorem dX4_addToRun_17 : decode cX4_addToRun 17 = .ok (.iaload, 1) := by decide +kernel
theorem dX4_addToRun_18 : decode cX4_addToRun 18 = .ok (.iload_n 3, 1) := by decide +kernel
theorem dX4_addToRun_19 : decode cX4_addToRun 19 = .ok (.ior, 1) := by decide +kernel
theorem dX4_addToRun_20 : decode cX4_addToRun 20 = .ok (.iastore, 1) := by decide +kernel
theorem dX4_addToRun_21 : decode cX4_addToRun 21 = .ok (.iload_n 3, 1) := by decide +kernel
theorem dX4_addToRun_22 : decode cX4_addToRun 22 = .ok (.invokestatic 82, 3) := by decide +kernel
theorem dX4_addToRun_25 : decode cX4_addToRun 25 = .ok (.ireturn, 1) := by decide +kernel
theorem dX4_canHold_0 : decode cX4_canHold 0 = .ok (.aload_n 0, 1) := by decide +kernel
theorem dX4_canHold_1 : decode cX4_canHold 1 = .ok (.iload_n 1, 1) := by decide +kernel
theorem dX4_canHold_2 : decode cX4_canHold 2 = .ok (.invokevirtual 61, 3) := by decide +kernel
theorem dX4_canHold_5 : decode cX4_canHold 5 = .ok (.ifCond .eq 26, 3) := by decide +kernel
theorem dX4_canHold_8 : decode cX4_canHold 8 = .ok (.aload_n 0, 1) := by decide +kernel
theorem dX4_canHold_9 : decode cX4_canHold 9 = .ok (.getfield 15, 3) := by decide +kernel
theorem dX4_canHold_12 : decode cX4_canHold 12 = .ok (.iload_n 1, 1) := by decide +kernel
theorem dX4_canHold_13 : decode cX4_canHold 13 = .ok (.iaload, 1) := by decide +kernel
theorem dX4_canHold_14 : decode cX4_canHold 14 = .ok (.ifCond .eq 13, 3) := by decide +kernel
theorem dX4_canHold_17 : decode cX4_canHold 17 = .ok (.aload_n 0, 1) := by decide +kernel
theorem dX4_canHold_18 : decode cX4_canHold 18 = .ok (.getfield 15, 3) := by decide +kernel
theorem dX4_canHold_21 : decode cX4_canHold 21 = .ok (.iload_n 1, 1) := by decide +kernel
theorem dX4_canHold_22 : decode cX4_canHold 22 = .ok (.iaload, 1) := by decide +kernel
theorem dX4_canHold_23 : decode cX4_canHold 23 = .ok (.iconst 3, 1) := by decide +kernel
theorem dX4_canHold_24 : decode cX4_canHold 24 = .ok (.if_icmp .ne 7, 3) := by decide +kernel
theorem dX4_canHold_27 : decode cX4_canHold 27 = .ok (.iconst 1, 1) := by decide +kernel
theorem dX4_canHold_28 : decode cX4_canHold 28 = .ok (.goto 4, 3) := by decide +kernel
theorem dX4_canHold_31 : decode cX4_canHold 31 = .ok (.iconst 0, 1) := by decide +kernel
theorem dX4_canHold_32 : decode cX4_canHold 32 = .ok (.ireturn, 1) := by decide +kernel
theorem dX4_copyFrom_0 : decode cX4_copyFrom 0 = .ok (.aload_n 0, 1) := by decide +kernel
theorem dX4_copyFrom_1 : decode cX4_copyFrom 1 = .ok (.aload_n 1, 1) := by decide +kernel
theorem dX4_copyFrom_2 : decode cX4_copyFrom 2 = .ok (.getfield 9, 3) := by decide +kernel
theorem dX4_copyFrom_5 : decode cX4_copyFrom 5 = .ok (.putfield 9, 3) := by decide +kernel
theorem dX4_copyFrom_8 : decode cX4_copyFrom 8 = .ok (.aload_n 1, 1) := by decide +kernel
theorem dX4_copyFrom_9 : decode cX4_copyFrom 9 = .ok (.getfield 15, 3) := by decide +kernel
theorem dX4_copyFrom_12 : decode cX4_copyFrom 12 = .ok (.iconst 0, 1) := by decide +kernel
theorem dX4_copyFrom_13 : decode cX4_copyFrom 13 = .ok (.aload_n 0, 1) := by decide +kernel
theorem dX4_copyFrom_14 : decode cX4_copyFrom 14 = .ok (.getfield 15, 3) := by decide +kernel
theorem dX4_copyFrom_17 : decode cX4_copyFrom 17 = .ok (.iconst 0, 1) := by decide +kernel
theorem dX4_copyFrom_18 : decode cX4_copyFrom 18 = .ok (.bipush 10, 2) := by decide +kernel
theorem dX4_copyFrom_20 : decode cX4_copyFrom 20 = .ok (.invokestatic 55, 3) := by decide +kernel
theorem dX4_copyFrom_23 : decode cX4_copyFrom 23 = .ok (.aload_n 1, 1) := by decide +kernel
theorem dX4_copyFrom_24 : decode cX4_copyFrom 24 = .ok (.getfield 19, 3) := by decide +kernel
theorem dX4_copyFrom_27 : decode cX4_copyFrom 27 = .ok (.iconst 0, 1) := by decide +kernel
theorem dX4_copyFrom_28 : decode cX4_copyFrom 28 = .ok (.aload_n 0, 1) := by decide +kernel
theorem dX4_copyFrom_29 : decode cX4_copyFrom 29 = .ok (.getfield 19, 3) := by decide +kernel
theorem dX4_copyFrom_32 : decode cX4_copyFrom 32 = .ok (.iconst 0, 1) := by decide +kernel
theorem dX4_copyFrom_33 : decode cX4_copyFrom 33 = .ok (.bipush 10, 2) := by decide +kernel
theorem dX4_copyFrom_35 : decode cX4_copyFrom 35 = .ok (.invokestatic 55, 3) := by decide +kernel
theorem dX4_copyFrom_38 : decode cX4_copyFrom 38 = .ok (.aload_n 1, 1) := by decide +kernel
theorem dX4_copyFrom_39 : decode cX4_copyFrom 39 = .ok (.getfield 22, 3) := by decide +kernel
theorem dX4_copyFrom_42 : decode cX4_copyFrom 42 = .ok (.iconst 0, 1) := by decide +kernel
theorem dX4_copyFrom_43 : decode cX4_copyFrom 43 = .ok (.aload_n 0, 1) := by decide +kernel
theorem dX4_copyFrom_44 : decode cX4_copyFrom 44 = .ok (.getfield 22, 3) := by decide +kernel
theorem dX4_copyFrom_47 : decode cX4_copyFrom 47 = .ok (.iconst 0, 1) := by decide +kernel
theorem dX4_copyFrom_48 : decode cX4_copyFrom 48 = .ok (.bipush 10, 2) := by decide +kernel
theorem dX4_copyFrom_50 : decode cX4_copyFrom 50 = .ok (.invokestatic 55, 3) := by decide +kernel
theorem dX4_copyFrom_53 : decode cX4_copyFrom 53 = .ok (.aload_n 1, 1) := by decide +kernel
theorem dX4_copyFrom_54 : decode cX4_copyFrom 54 = .ok (.getfield 25, 3) := by decide +kernel
theorem dX4_copyFrom_57 : decode cX4_copyFrom 57 = .ok (.iconst 0, 1) := by decide +kernel
theorem dX4_copyFrom_58 : decode cX4_copyFrom 58 = .ok (.aload_n 0, 1) := by decide +kernel
theorem dX4_copyFrom_59 : decode cX4_copyFrom 59 = .ok (.getfield 25, 3) := by decide +kernel
theorem dX4_copyFrom_62 : decode cX4_copyFrom 62 = .ok (.iconst 0, 1) := by decide +kernel
theorem dX4_copyFrom_63 : decode cX4_copyFrom 63 = .ok (.bipush 10, 2) := by decide +kernel
theorem dX4_copyFrom_65 : decode cX4_copyFrom 65 = .ok (.invokestatic 55, 3) := by decide +kernel
theorem dX4_copyFrom_68 : decode cX4_copyFrom 68 = .ok (.aload_n 0, 1) := by decide +kernel
theorem dX4_copyFrom_69 : decode cX4_copyFrom 69 = .ok (.aload_n 1, 1) := by decide +kernel
theorem dX4_copyFrom_70 : decode cX4_copyFrom 70 = .ok (.getfield 28, 3) := by decide +kernel
theorem dX4_copyFrom_73 : decode cX4_copyFrom 73 = .ok (.putfield 28, 3) := by decide +kernel
theorem dX4_copyFrom_76 : decode cX4_copyFrom 76 = .ok (.aload_n 1, 1) := by decide +kernel
theorem dX4_copyFrom_77 : decode cX4_copyFrom 77 = .ok (.getfield 31, 3) := by decide +kernel
theorem dX4_copyFrom_80 : decode cX4_copyFrom 80 = .ok (.iconst 0, 1) := by decide +kernel
theorem dX4_copyFrom_81 : decode cX4_copyFrom 81 = .ok (.aload_n 0, 1) := by decide +kernel
theorem dX4_copyFrom_82 : decode cX4_copyFrom 82 = .ok (.getfield 31, 3) := by decide +kernel
theorem dX4_copyFrom_85 : decode cX4_copyFrom 85 = .ok (.iconst 0, 1) := by decide +kernel
theorem dX4_copyFrom_86 : decode cX4_copyFrom 86 = .ok (.bipush 10, 2) := by decide +kernel
theorem dX4_copyFrom_88 : decode cX4_copyFrom 88 = .ok (.invokestatic 55, 3) := by decide +kernel
theorem dX4_copyFrom_91 : decode cX4_copyFrom 91 = .ok (.aload_n 1, 1) := by decide +kernel
theorem dX4_copyFrom_92 : decode cX4_copyFrom 92 = .ok (.getfield 34, 3) := by decide +kernel
theorem dX4_copyFrom_95 : decode cX4_copyFrom 95 = .ok (.iconst 0, 1) := by decide +kernel
theorem dX4_copyFrom_96 : decode cX4_copyFrom 96 = .ok (.aload_n 0, 1) := by decide +kernel
theorem dX4_copyFrom_97 : decode cX4_copyFrom 97 = .ok (.getfield 34, 3) := by decide +kernel
theorem dX4_copyFrom_100 : decode cX4_copyFrom 100 = .ok (.iconst 0, 1) := by decide +kernel
theorem dX4_copyFrom_101 : decode cX4_copyFrom 101 = .ok (.bipush 10, 2) := by decide +kernel
theorem dX4_copyFrom_103 : decode cX4_copyFrom 103 = .ok (.invokestatic 55, 3) := by decide +kernel
theorem dX4_copyFrom_106 : decode cX4_copyFrom 106 = .ok (.aload_n 0, 1) := by decide +kernel
theorem dX4_copyFrom_107 : decode cX4_copyFrom 107 = .ok (.aload_n 1, 1) := by decide +kernel
theorem dX4_copyFrom_108 : decode cX4_copyFrom 108 = .ok (.getfield 37, 3) := by decide +kernel
theorem dX4_copyFrom_111 : decode cX4_copyFrom 111 = .ok (.putfield 37, 3) := by decide +kernel
theorem dX4_copyFrom_114 : decode cX4_copyFrom 114 = .ok (.aload_n 1, 1) := by decide +kernel
theorem dX4_copyFrom_115 : decode cX4_copyFrom 115 = .ok (.getfield 40, 3) := by decide +kernel
theorem dX4_copyFrom_118 : decode cX4_copyFrom 118 = .ok (.iconst 0, 1) := by decide +kernel
theorem dX4_copyFrom_119 : decode cX4_copyFrom 119 = .ok (.aload_n 0, 1) := by decide +kernel
theorem dX4_copyFrom_120 : decode cX4_copyFrom 120 = .ok (.getfield 40, 3) := by decide +kernel
theorem dX4_copyFrom_123 : decode cX4_copyFrom 123 = .ok (.iconst 0, 1) := by decide +kernel
theorem dX4_copyFrom_124 : decode cX4_copyFrom 124 = .ok (.iconst 4, 1) := by decide +kernel
theorem dX4_copyFrom_125 : decode cX4_copyFrom 125 = .ok (.invokestatic 55, 3) := by decide +kernel
theorem dX4_copyFrom_128 : decode cX4_copyFrom 128 = .ok (.aload_n 1, 1) := by decide +kernel
theorem dX4_copyFrom_129 : decode cX4_copyFrom 129 = .ok (.getfield 43, 3) := by decide +kernel
theorem dX4_copyFrom_132 : decode cX4_copyFrom 132 = .ok (.iconst 0, 1) := by decide +kernel
theorem dX4_copyFrom_133 : decode cX4_copyFrom 133 = .ok (.aload_n 0, 1) := by decide +kernel
theorem dX4_copyFrom_134 : decode cX4_copyFrom 134 = .ok (.getfield 43, 3) := by decide +kernel
theorem dX4_copyFrom_137 : decode cX4_copyFrom 137 = .ok (.iconst 0, 1) := by decide +kernel
theorem dX4_copyFrom_138 : decode cX4_copyFrom 138 = .ok (.iconst 4, 1) := by decide +kernel
theorem dX4_copyFrom_139 : decode cX4_copyFrom 139 = .ok (.invokestatic 55, 3) := by decide +kernel
theorem dX4_copyFrom_142 : decode cX4_copyFrom 142 = .ok (.aload_n 1, 1) := by decide +kernel
theorem dX4_copyFrom_143 : decode cX4_copyFrom 143 = .ok (.getfield 46, 3) := by decide +kernel
theorem dX4_copyFrom_146 : decode cX4_copyFrom 146 = .ok (.iconst 0, 1) := by decide +kernel
theorem dX4_copyFrom_147 : decode cX4_copyFrom 147 = .ok (.aload_n 0, 1) := by decide +kernel
theorem dX4_copyFrom_148 : decode cX4_copyFrom 148 = .ok (.getfield 46, 3) := by decide +kernel
theorem dX4_copyFrom_151 : decode cX4_copyFrom 151 = .ok (.iconst 0, 1) := by decide +kernel
theorem dX4_copyFrom_152 : decode cX4_copyFrom 152 = .ok (.bipush 10, 2) := by decide +kernel
theorem dX4_copyFrom_154 : decode cX4_copyFrom 154 = .ok (.invokestatic 55, 3) := by decide +kernel
theorem dX4_copyFrom_157 : decode cX4_copyFrom 157 = .ok (.return_, 1) := by decide +kernel
theorem dX4_countRun_0 : decode cX4_countRun 0 = .ok (.iconst 0, 1) := by decide +kernel
theorem dX4_countRun_1 : decode cX4_countRun 1 = .ok (.istore_n 1, 1) := by decide +kernel
theorem dX4_countRun_2 : decode cX4_countRun 2 = .ok (.iconst 0, 1) := by decide +kernel
theorem dX4_countRun_3 : decode cX4_countRun 3 = .ok (.istore_n 2, 1) := by decide +kernel
theorem dX4_countRun_4 : decode cX4_countRun 4 = .ok (.iload_n 2, 1) := by decide +kernel
theorem dX4_countRun_5 : decode cX4_countRun 5 = .ok (.bipush 10, 2) := by decide +kernel
theorem dX4_countRun_7 : decode cX4_countRun 7 = .ok (.if_icmp .ge 21, 3) := by decide +kernel
theorem dX4_countRun_10 : decode cX4_countRun 10 = .ok (.iload_n 1, 1) := by decide +kernel
theorem dX4_countRun_11 : decode cX4_countRun 11 = .ok (.aload_n 0, 1) := by decide +kernel
theorem dX4_countRun_12 : decode cX4_countRun 12 = .ok (.getfield 46, 3) := by decide +kernel
theorem dX4_countRun_15 : decode cX4_countRun 15 = .ok (.iload_n 2, 1) := by decide +kernel
theorem dX4_countRun_16 : decode cX4_countRun 16 = .ok (.iaload, 1) := by decide +kernel
theorem dX4_countRun_17 : decode cX4_countRun 17 = .ok (.invokestatic 82, 3) := by decide +kernel
theorem dX4_countRun_20 : decode cX4_countRun 20 = .ok (.iadd, 1) := by decide +kernel
theorem dX4_countRun_21 : decode cX4_countRun 21 = .ok (.istore_n 1, 1) := by decide +kernel
theorem dX4_countRun_22 : decode cX4_countRun 22 = .ok (.iinc 2 1, 3) := by decide +kernel
theorem dX4_countRun_25 : decode cX4_countRun 25 = .ok (.goto (-21), 3) := by decide +kernel
theorem dX4_countRun_28 : decode cX4_countRun 28 = .ok (.iload_n 1, 1) := by decide +kernel
theorem dX4_countRun_29 : decode cX4_countRun 29 = .ok (.ireturn, 1) := by decide +kernel
theorem dX4_countViolations_0 : decode cX4_countViolations 0 = .ok (.iconst 0, 1) := by decide +kernel
theorem dX4_countViolations_1 : decode cX4_countViolations 1 = .ok (.istore_n 2, 1) := by decide +kernel
theorem dX4_countViolations_2 : decode cX4_countViolations 2 = .ok (.iconst 0, 1) := by decide +kernel
theorem dX4_countViolations_3 : decode cX4_countViolations 3 = .ok (.istore_n 3, 1) := by decide +kernel
theorem dX4_countViolations_4 : decode cX4_countViolations 4 = .ok (.iload_n 3, 1) := by decide +kernel
theorem dX4_countViolations_5 : decode cX4_countViolations 5 = .ok (.aload_n 0, 1) := by decide +kernel
theorem dX4_countViolations_6 : decode cX4_countViolations 6 = .ok (.getfield 37, 3) := by decide +kernel
theorem dX4_countViolations_9 : decode cX4_countViolations 9 = .ok (.if_icmp .ge 32, 3) := by decide +kernel
theorem dX4_countViolations_12 : decode cX4_countViolations 12 = .ok (.aload_n 1, 1) := by decide +kernel
theorem dX4_countViolations_13 : decode cX4_countViolations 13 = .ok (.aload_n 0, 1) := by decide +kernel
theorem dX4_countViolations_14 : decode cX4_countViolations 14 = .ok (.getfield 40, 3) := by decide +kernel
theorem dX4_countViolations_17 : decode cX4_countViolations 17 = .ok (.iload_n 3, 1) := by decide +kernel
theorem dX4_countViolations_18 : decode cX4_countViolations 18 = .ok (.iaload, 1) := by decide +kernel
theorem dX4_countViolations_19 : decode cX4_countViolations 19 = .ok (.iaload, 1) := by decide +kernel
theorem dX4_countViolations_20 : decode cX4_countViolations 20 = .ok (.aload_n 0, 1) := by decide +kernel
theorem dX4_countViolations_21 : decode cX4_countViolations 21 = .ok (.getfield 43, 3) := by decide +kernel
theorem dX4_countViolations_24 : decode cX4_countViolations 24 = .ok (.iload_n 3, 1) := by decide +kernel
theorem dX4_countViolations_25 : decode cX4_countViolations 25 = .ok (.iaload, 1) := by decide +kernel
theorem dX4_countViolations_26 : decode cX4_countViolations 26 = .ok (.invokestatic 72, 3) := by decide +kernel
theorem dX4_countViolations_29 : decode cX4_countViolations 29 = .ok (.ifCond .eq 6, 3) := by decide +kernel
theorem dX4_countViolations_32 : decode cX4_countViolations 32 = .ok (.iinc 2 1, 3) := by decide +kernel
theorem dX4_countViolations_35 : decode cX4_countViolations 35 = .ok (.iinc 3 1, 3) := by decide +kernel
theorem dX4_countViolations_38 : decode cX4_countViolations 38 = .ok (.goto (-34), 3) := by decide +kernel
theorem dX4_countViolations_41 : decode cX4_countViolations 41 = .ok (.iload_n 2, 1) := by decide +kernel
theorem dX4_countViolations_42 : decode cX4_countViolations 42 = .ok (.ireturn, 1) := by decide +kernel
theorem dX4_declareObject_0 : decode cX4_declareObject 0 = .ok (.aload_n 0, 1) := by decide +kernel
theorem dX4_declareObject_1 : decode cX4_declareObject 1 = .ok (.getfield 9, 3) := by decide +kernel
theorem dX4_declareObject_4 : decode cX4_declareObject 4 = .ok (.bipush 10, 2) := by decide +kernel
theorem dX4_declareObject_6 : decode cX4_declareObject 6 = .ok (.if_icmp .lt 4, 3) := by decide +kernel
theorem dX4_declareObject_9 : decode cX4_declareObject 9 = .ok (.return_, 1) := by decide +kernel
theorem dX4_declareObject_10 : decode cX4_declareObject 10 = .ok (.aload_n 0, 1) := by decide +kernel
theorem dX4_declareObject_11 : decode cX4_declareObject 11 = .ok (.getfield 15, 3) := by decide +kernel
theorem dX4_declareObject_14 : decode cX4_declareObject 14 = .ok (.aload_n 0, 1) := by decide +kernel
theorem dX4_declareObject_15 : decode cX4_declareObject 15 = .ok (.getfield 9, 3) := by decide +kernel
theorem dX4_declareObject_18 : decode cX4_declareObject 18 = .ok (.iload_n 1, 1) := by decide +kernel
theorem dX4_declareObject_19 : decode cX4_declareObject 19 = .ok (.iastore, 1) := by decide +kernel
theorem dX4_declareObject_20 : decode cX4_declareObject 20 = .ok (.aload_n 0, 1) := by decide +kernel
theorem dX4_declareObject_21 : decode cX4_declareObject 21 = .ok (.getfield 19, 3) := by decide +kernel
theorem dX4_declareObject_24 : decode cX4_declareObject 24 = .ok (.aload_n 0, 1) := by decide +kernel
theorem dX4_declareObject_25 : decode cX4_declareObject 25 = .ok (.getfield 9, 3) := by decide +kernel
theorem dX4_declareObject_28 : decode cX4_declareObject 28 = .ok (.iload_n 2, 1) := by decide +kernel
theorem dX4_declareObject_29 : decode cX4_declareObject 29 = .ok (.iastore, 1) := by decide +kernel
theorem dX4_declareObject_30 : decode cX4_declareObject 30 = .ok (.aload_n 0, 1) := by decide +kernel
theorem dX4_declareObject_31 : decode cX4_declareObject 31 = .ok (.getfield 22, 3) := by decide +kernel
theorem dX4_declareObject_34 : decode cX4_declareObject 34 = .ok (.aload_n 0, 1) := by decide +kernel
theorem dX4_declareObject_35 : decode cX4_declareObject 35 = .ok (.getfield 9, 3) := by decide +kernel
theorem dX4_declareObject_38 : decode cX4_declareObject 38 = .ok (.iload_n 3, 1) := by decide +kernel
theorem dX4_declareObject_39 : decode cX4_declareObject 39 = .ok (.iastore, 1) := by decide +kernel
theorem dX4_declareObject_40 : decode cX4_declareObject 40 = .ok (.aload_n 0, 1) := by decide +kernel
theorem dX4_declareObject_41 : decode cX4_declareObject 41 = .ok (.getfield 25, 3) := by decide +kernel
theorem dX4_declareObject_44 : decode cX4_declareObject 44 = .ok (.aload_n 0, 1) := by decide +kernel
theorem dX4_declareObject_45 : decode cX4_declareObject 45 = .ok (.getfield 9, 3) := by decide +kernel
theorem dX4_declareObject_48 : decode cX4_declareObject 48 = .ok (.iload 4, 2) := by decide +kernel
theorem dX4_declareObject_50 : decode cX4_declareObject 50 = .ok (.iastore, 1) := by decide +kernel
theorem dX4_declareObject_51 : decode cX4_declareObject 51 = .ok (.aload_n 0, 1) := by decide +kernel
theorem dX4_declareObject_52 : decode cX4_declareObject 52 = .ok (.dup, 1) := by decide +kernel
theorem dX4_declareObject_53 : decode cX4_declareObject 53 = .ok (.getfield 9, 3) := by decide +kernel
theorem dX4_declareObject_56 : decode cX4_declareObject 56 = .ok (.iconst 1, 1) := by decide +kernel
theorem dX4_declareObject_57 : decode cX4_declareObject 57 = .ok (.iadd, 1) := by decide +kernel
theorem dX4_declareObject_58 : decode cX4_declareObject 58 = .ok (.putfield 9, 3) := by decide +kernel
theorem dX4_declareObject_61 : decode cX4_declareObject 61 = .ok (.return_, 1) := by decide +kernel
theorem dX4_dropRequirement_0 : decode cX4_dropRequirement 0 = .ok (.iload_n 1, 1) := by decide +kernel
theorem dX4_dropRequirement_1 : decode cX4_dropRequirement 1 = .ok (.istore_n 2, 1) := by decide +kernel
theorem dX4_dropRequirement_2 : decode cX4_dropRequirement 2 = .ok (.iload_n 2, 1) := by decide +kernel
theorem dX4_dropRequirement_3 : decode cX4_dropRequirement 3 = .ok (.iconst 1, 1) := by decide +kernel
theorem dX4_dropRequirement_4 : decode cX4_dropRequirement 4 = .ok (.iadd, 1) := by decide +kernel
theorem dX4_dropRequirement_5 : decode cX4_dropRequirement 5 = .ok (.aload_n 0, 1) := by decide +kernel
theorem dX4_dropRequirement_6 : decode cX4_dropRequirement 6 = .ok (.getfield 37, 3) := by decide +kernel
theorem dX4_dropRequirement_9 : decode cX4_dropRequirement 9 = .ok (.if_icmp .ge 37, 3) := by decide +kernel
theorem dX4_dropRequirement_12 : decode cX4_dropRequirement 12 = .ok (.aload_n 0, 1) := by decide +kernel
theorem dX4_dropRequirement_13 : decode cX4_dropRequirement 13 = .ok (.getfield 40, 3) := by decide +kernel
theorem dX4_dropRequirement_16 : decode cX4_dropRequirement 16 = .ok (.iload_n 2, 1) := by decide +kernel
theorem dX4_dropRequirement_17 : decode cX4_dropRequirement 17 = .ok (.aload_n 0, 1) := by decide +kernel
theorem dX4_dropRequirement_18 : decode cX4_dropRequirement 18 = .ok (.getfield 40, 3) := by decide +kernel
theorem dX4_dropRequirement_21 : decode cX4_dropRequirement 21 = .ok (.iload_n 2, 1) := by decide +kernel
theorem dX4_dropRequirement_22 : decode cX4_dropRequirement 22 = .ok (.iconst 1, 1) := by decide +kernel
theorem dX4_dropRequirement_23 : decode cX4_dropRequirement 23 = .ok (.iadd, 1) := by decide +kernel
theorem dX4_dropRequirement_24 : decode cX4_dropRequirement 24 = .ok (.iaload, 1) := by decide +kernel
theorem dX4_dropRequirement_25 : decode cX4_dropRequirement 25 = .ok (.iastore, 1) := by decide +kernel
theorem dX4_dropRequirement_26 : decode cX4_dropRequirement 26 = .ok (.aload_n 0, 1) := by decide +kernel
theorem dX4_dropRequirement_27 : decode cX4_dropRequirement 27 = .ok (.getfield 43, 3) := by decide +kernel
theorem dX4_dropRequirement_30 : decode cX4_dropRequirement 30 = .ok (.iload_n 2, 1) := by decide +kernel
theorem dX4_dropRequirement_31 : decode cX4_dropRequirement 31 = .ok (.aload_n 0, 1) := by decide +kernel
theorem dX4_dropRequirement_32 : decode cX4_dropRequirement 32 = .ok (.getfield 43, 3) := by decide +kernel
theorem dX4_dropRequirement_35 : decode cX4_dropRequirement 35 = .ok (.iload_n 2, 1) := by decide +kernel
theorem dX4_dropRequirement_36 : decode cX4_dropRequirement 36 = .ok (.iconst 1, 1) := by decide +kernel
theorem dX4_dropRequirement_37 : decode cX4_dropRequirement 37 = .ok (.iadd, 1) := by decide +kernel
theorem dX4_dropRequirement_38 : decode cX4_dropRequirement 38 = .ok (.iaload, 1) := by decide +kernel
theorem dX4_dropRequirement_39 : decode cX4_dropRequirement 39 = .ok (.iastore, 1) := by decide +kernel
theorem dX4_dropRequirement_40 : decode cX4_dropRequirement 40 = .ok (.iinc 2 1, 3) := by decide +kernel
theorem dX4_dropRequirement_43 : decode cX4_dropRequirement 43 = .ok (.goto (-41), 3) := by decide +kernel
theorem dX4_dropRequirement_46 : decode cX4_dropRequirement 46 = .ok (.aload_n 0, 1) := by decide +kernel
theorem dX4_dropRequirement_47 : decode cX4_dropRequirement 47 = .ok (.dup, 1) := by decide +kernel
theorem dX4_dropRequirement_48 : decode cX4_dropRequirement 48 = .ok (.getfield 37, 3) := by decide +kernel
theorem dX4_dropRequirement_51 : decode cX4_dropRequirement 51 = .ok (.iconst 1, 1) := by decide +kernel
theorem dX4_dropRequirement_52 : decode cX4_dropRequirement 52 = .ok (.isub, 1) := by decide +kernel
theorem dX4_dropRequirement_53 : decode cX4_dropRequirement 53 = .ok (.putfield 37, 3) := by decide +kernel
theorem dX4_dropRequirement_56 : decode cX4_dropRequirement 56 = .ok (.return_, 1) := by decide +kernel
theorem dX4_fillInitialRows_0 : decode cX4_fillInitialRows 0 = .ok (.aload_n 1, 1) := by decide +kernel
theorem dX4_fillInitialRows_1 : decode cX4_fillInitialRows 1 = .ok (.iconst 0, 1) := by decide +kernel
theorem dX4_fillInitialRows_2 : decode cX4_fillInitialRows 2 = .ok (.invokestatic 49, 3) := by decide +kernel
theorem dX4_fillInitialRows_5 : decode cX4_fillInitialRows 5 = .ok (.iconst 0, 1) := by decide +kernel
theorem dX4_fillInitialRows_6 : decode cX4_fillInitialRows 6 = .ok (.istore_n 3, 1) := by decide +kernel
theorem dX4_fillInitialRows_7 : decode cX4_fillInitialRows 7 = .ok (.iload_n 3, 1) := by decide +kernel
theorem dX4_fillInitialRows_8 : decode cX4_fillInitialRows 8 = .ok (.aload_n 0, 1) := by decide +kernel
theorem dX4_fillInitialRows_9 : decode cX4_fillInitialRows 9 = .ok (.getfield 28, 3) := by decide +kernel
theorem dX4_fillInitialRows_12 : decode cX4_fillInitialRows 12 = .ok (.if_icmp .ge 37, 3) := by decide +kernel
theorem dX4_fillInitialRows_15 : decode cX4_fillInitialRows 15 = .ok (.iload_n 2, 1) := by decide +kernel
theorem dX4_fillInitialRows_16 : decode cX4_fillInitialRows 16 = .ok (.iload_n 3, 1) := by decide +kernel
theorem dX4_fillInitialRows_17 : decode cX4_fillInitialRows 17 = .ok (.invokestatic 72, 3) := by decide +kernel
theorem dX4_fillInitialRows_20 : decode cX4_fillInitialRows 20 = .ok (.ifCond .ne 23, 3) := by decide +kernel
theorem dX4_fillInitialRows_23 : decode cX4_fillInitialRows 23 = .ok (.aload_n 1, 1) := by decide +kernel
theorem dX4_fillInitialRows_24 : decode cX4_fillInitialRows 24 = .ok (.aload_n 0, 1) := by decide +kernel
theorem dX4_fillInitialRows_25 : decode cX4_fillInitialRows 25 = .ok (.getfield 31, 3) := by decide +kernel
theorem dX4_fillInitialRows_28 : decode cX4_fillInitialRows 28 = .ok (.iload_n 3, 1) := by decide +kernel
theorem dX4_fillInitialRows_29 : decode cX4_fillInitialRows 29 = .ok (.iaload, 1) := by decide +kernel
theorem dX4_fillInitialRows_30 : decode cX4_fillInitialRows 30 = .ok (.dup2, 1) := by decide +kernel
theorem dX4_fillInitialRows_31 : decode cX4_fillInitialRows 31 = .ok (.iaload, 1) := by decide +kernel
theorem dX4_fillInitialRows_32 : decode cX4_fillInitialRows 32 = .ok (.aload_n 0, 1) := by decide +kernel
theorem dX4_fillInitialRows_33 : decode cX4_fillInitialRows 33 = .ok (.getfield 34, 3) := by decide +kernel
theorem dX4_fillInitialRows_36 : decode cX4_fillInitialRows 36 = .ok (.iload_n 3, 1) := by decide +kernel
theorem dX4_fillInitialRows_37 : decode cX4_fillInitialRows 37 = .ok (.iaload, 1) := by decide +kernel
theorem dX4_fillInitialRows_38 : decode cX4_fillInitialRows 38 = .ok (.invokestatic 75, 3) := by decide +kernel
theorem dX4_fillInitialRows_41 : decode cX4_fillInitialRows 41 = .ok (.ior, 1) := by decide +kernel
theorem dX4_fillInitialRows_42 : decode cX4_fillInitialRows 42 = .ok (.iastore, 1) := by decide +kernel
theorem dX4_fillInitialRows_43 : decode cX4_fillInitialRows 43 = .ok (.iinc 3 1, 3) := by decide +kernel
theorem dX4_fillInitialRows_46 : decode cX4_fillInitialRows 46 = .ok (.goto (-39), 3) := by decide +kernel
theorem dX4_fillInitialRows_49 : decode cX4_fillInitialRows 49 = .ok (.return_, 1) := by decide +kernel
theorem dX4_findRequirement_0 : decode cX4_findRequirement 0 = .ok (.iconst 0, 1) := by decide +kernel
theorem dX4_findRequirement_1 : decode cX4_findRequirement 1 = .ok (.istore_n 3, 1) := by decide +kernel
theorem dX4_findRequirement_2 : decode cX4_findRequirement 2 = .ok (.iload_n 3, 1) := by decide +kernel
theorem dX4_findRequirement_3 : decode cX4_findRequirement 3 = .ok (.aload_n 0, 1) := by decide +kernel
theorem dX4_findRequirement_4 : decode cX4_findRequirement 4 = .ok (.getfield 37, 3) := by decide +kernel
theorem dX4_findRequirement_7 : decode cX4_findRequirement 7 = .ok (.if_icmp .ge 31, 3) := by decide +kernel
theorem dX4_findRequirement_10 : decode cX4_findRequirement 10 = .ok (.aload_n 0, 1) := by decide +kernel
theorem dX4_findRequirement_11 : decode cX4_findRequirement 11 = .ok (.getfield 40, 3) := by decide +kernel
theorem dX4_findRequirement_14 : decode cX4_findRequirement 14 = .ok (.iload_n 3, 1) := by decide +kernel
theorem dX4_findRequirement_15 : decode cX4_findRequirement 15 = .ok (.iaload, 1) := by decide +kernel
theorem dX4_findRequirement_16 : decode cX4_findRequirement 16 = .ok (.iload_n 1, 1) := by decide +kernel
theorem dX4_findRequirement_17 : decode cX4_findRequirement 17 = .ok (.if_icmp .ne 15, 3) := by decide +kernel
theorem dX4_findRequirement_20 : decode cX4_findRequirement 20 = .ok (.aload_n 0, 1) := by decide +kernel
theorem dX4_findRequirement_21 : decode cX4_findRequirement 21 = .ok (.getfield 43, 3) := by decide +kernel
theorem dX4_findRequirement_24 : decode cX4_findRequirement 24 = .ok (.iload_n 3, 1) := by decide +kernel
theorem dX4_findRequirement_25 : decode cX4_findRequirement 25 = .ok (.iaload, 1) := by decide +kernel
theorem dX4_findRequirement_26 : decode cX4_findRequirement 26 = .ok (.iload_n 2, 1) := by decide +kernel
theorem dX4_findRequirement_27 : decode cX4_findRequirement 27 = .ok (.if_icmp .ne 5, 3) := by decide +kernel
theorem dX4_findRequirement_30 : decode cX4_findRequirement 30 = .ok (.iload_n 3, 1) := by decide +kernel
theorem dX4_findRequirement_31 : decode cX4_findRequirement 31 = .ok (.ireturn, 1) := by decide +kernel
theorem dX4_findRequirement_32 : decode cX4_findRequirement 32 = .ok (.iinc 3 1, 3) := by decide +kernel
theorem dX4_findRequirement_35 : decode cX4_findRequirement 35 = .ok (.goto (-33), 3) := by decide +kernel
theorem dX4_findRequirement_38 : decode cX4_findRequirement 38 = .ok (.iconst (-1), 1) := by decide +kernel
theorem dX4_findRequirement_39 : decode cX4_findRequirement 39 = .ok (.ireturn, 1) := by decide +kernel
theorem dX4_fits_0 : decode cX4_fits 0 = .ok (.aload_n 0, 1) := by decide +kernel
theorem dX4_fits_1 : decode cX4_fits 1 = .ok (.iload_n 1, 1) := by decide +kernel
theorem dX4_fits_2 : decode cX4_fits 2 = .ok (.iconst 2, 1) := by decide +kernel
theorem dX4_fits_3 : decode cX4_fits 3 = .ok (.invokevirtual 68, 3) := by decide +kernel
theorem dX4_fits_6 : decode cX4_fits 6 = .ok (.ifCond .eq 31, 3) := by decide +kernel
theorem dX4_fits_9 : decode cX4_fits 9 = .ok (.aload_n 0, 1) := by decide +kernel
theorem dX4_fits_10 : decode cX4_fits 10 = .ok (.iload_n 2, 1) := by decide +kernel
theorem dX4_fits_11 : decode cX4_fits 11 = .ok (.iconst 1, 1) := by decide +kernel
theorem dX4_fits_12 : decode cX4_fits 12 = .ok (.invokevirtual 68, 3) := by decide +kernel
theorem dX4_fits_15 : decode cX4_fits 15 = .ok (.ifCond .eq 22, 3) := by decide +kernel
theorem dX4_fits_18 : decode cX4_fits 18 = .ok (.aload_n 0, 1) := by decide +kernel
theorem dX4_fits_19 : decode cX4_fits 19 = .ok (.getfield 19, 3) := by decide +kernel
theorem dX4_fits_22 : decode cX4_fits 22 = .ok (.iload_n 1, 1) := by decide +kernel
theorem dX4_fits_23 : decode cX4_fits 23 = .ok (.iaload, 1) := by decide +kernel
theorem dX4_fits_24 : decode cX4_fits 24 = .ok (.aload_n 0, 1) := by decide +kernel
theorem dX4_fits_25 : decode cX4_fits 25 = .ok (.getfield 19, 3) := by decide +kernel
theorem dX4_fits_28 : decode cX4_fits 28 = .ok (.iload_n 2, 1) := by decide +kernel
theorem dX4_fits_29 : decode cX4_fits 29 = .ok (.iaload, 1) := by decide +kernel
theorem dX4_fits_30 : decode cX4_fits 30 = .ok (.if_icmp .ne 7, 3) := by decide +kernel
theorem dX4_fits_33 : decode cX4_fits 33 = .ok (.iconst 1, 1) := by decide +kernel
theorem dX4_fits_34 : decode cX4_fits 34 = .ok (.goto 4, 3) := by decide +kernel
theorem dX4_fits_37 : decode cX4_fits 37 = .ok (.iconst 0, 1) := by decide +kernel
theorem dX4_fits_38 : decode cX4_fits 38 = .ok (.ireturn, 1) := by decide +kernel
theorem dX4_has_0 : decode cX4_has 0 = .ok (.iload_n 1, 1) := by decide +kernel
theorem dX4_has_1 : decode cX4_has 1 = .ok (.ifCond .lt 15, 3) := by decide +kernel
theorem dX4_has_4 : decode cX4_has 4 = .ok (.iload_n 1, 1) := by decide +kernel
theorem dX4_has_5 : decode cX4_has 5 = .ok (.aload_n 0, 1) := by decide +kernel
theorem dX4_has_6 : decode cX4_has 6 = .ok (.getfield 9, 3) := by decide +kernel
theorem dX4_has_9 : decode cX4_has 9 = .ok (.if_icmp .ge 7, 3) := by decide +kernel
theorem dX4_has_12 : decode cX4_has 12 = .ok (.iconst 1, 1) := by decide +kernel
theorem dX4_has_13 : decode cX4_has 13 = .ok (.goto 4, 3) := by decide +kernel
theorem dX4_has_16 : decode cX4_has 16 = .ok (.iconst 0, 1) := by decide +kernel
theorem dX4_has_17 : decode cX4_has 17 = .ok (.ireturn, 1) := by decide +kernel
theorem dX4_hasBoth_0 : decode cX4_hasBoth 0 = .ok (.aload_n 0, 1) := by decide +kernel
theorem dX4_hasBoth_1 : decode cX4_hasBoth 1 = .ok (.iload_n 1, 1) := by decide +kernel
theorem dX4_hasBoth_2 : decode cX4_hasBoth 2 = .ok (.invokevirtual 61, 3) := by decide +kernel
theorem dX4_hasBoth_5 : decode cX4_hasBoth 5 = .ok (.ifCond .eq 15, 3) := by decide +kernel
theorem dX4_hasBoth_8 : decode cX4_hasBoth 8 = .ok (.aload_n 0, 1) := by decide +kernel
theorem dX4_hasBoth_9 : decode cX4_hasBoth 9 = .ok (.iload_n 2, 1) := by decide +kernel
theorem dX4_hasBoth_10 : decode cX4_hasBoth 10 = .ok (.invokevirtual 61, 3) := by decide +kernel
theorem dX4_hasBoth_13 : decode cX4_hasBoth 13 = .ok (.ifCond .eq 7, 3) := by decide +kernel
theorem dX4_hasBoth_16 : decode cX4_hasBoth 16 = .ok (.iconst 1, 1) := by decide +kernel
theorem dX4_hasBoth_17 : decode cX4_hasBoth 17 = .ok (.goto 4, 3) := by decide +kernel
theorem dX4_hasBoth_20 : decode cX4_hasBoth 20 = .ok (.iconst 0, 1) := by decide +kernel
theorem dX4_hasBoth_21 : decode cX4_hasBoth 21 = .ok (.ireturn, 1) := by decide +kernel
theorem dX4_init_0 : decode cX4_init 0 = .ok (.aload_n 0, 1) := by decide +kernel
theorem dX4_init_1 : decode cX4_init 1 = .ok (.invokespecial 3, 3) := by decide +kernel
theorem dX4_init_4 : decode cX4_init 4 = .ok (.aload_n 0, 1) := by decide +kernel
theorem dX4_init_5 : decode cX4_init 5 = .ok (.iconst 0, 1) := by decide +kernel
theorem dX4_init_6 : decode cX4_init 6 = .ok (.putfield 9, 3) := by decide +kernel
theorem dX4_init_9 : decode cX4_init 9 = .ok (.aload_n 0, 1) := by decide +kernel
theorem dX4_init_10 : decode cX4_init 10 = .ok (.bipush 10, 2) := by decide +kernel
theorem dX4_init_12 : decode cX4_init 12 = .ok (.newarray .int, 2) := by decide +kernel
theorem dX4_init_14 : decode cX4_init 14 = .ok (.putfield 15, 3) := by decide +kernel
theorem dX4_init_17 : decode cX4_init 17 = .ok (.aload_n 0, 1) := by decide +kernel
theorem dX4_init_18 : decode cX4_init 18 = .ok (.bipush 10, 2) := by decide +kernel
theorem dX4_init_20 : decode cX4_init 20 = .ok (.newarray .int, 2) := by decide +kernel
theorem dX4_init_22 : decode cX4_init 22 = .ok (.putfield 19, 3) := by decide +kernel
theorem dX4_init_25 : decode cX4_init 25 = .ok (.aload_n 0, 1) := by decide +kernel
theorem dX4_init_26 : decode cX4_init 26 = .ok (.bipush 10, 2) := by decide +kernel
theorem dX4_init_28 : decode cX4_init 28 = .ok (.newarray .int, 2) := by decide +kernel
theorem dX4_init_30 : decode cX4_init 30 = .ok (.putfield 22, 3) := by decide +kernel
theorem dX4_init_33 : decode cX4_init 33 = .ok (.aload_n 0, 1) := by decide +kernel
theorem dX4_init_34 : decode cX4_init 34 = .ok (.bipush 10, 2) := by decide +kernel
theorem dX4_init_36 : decode cX4_init 36 = .ok (.newarray .int, 2) := by decide +kernel
theorem dX4_init_38 : decode cX4_init 38 = .ok (.putfield 25, 3) := by decide +kernel
theorem dX4_init_41 : decode cX4_init 41 = .ok (.aload_n 0, 1) := by decide +kernel
theorem dX4_init_42 : decode cX4_init 42 = .ok (.iconst 0, 1) := by decide +kernel
theorem dX4_init_43 : decode cX4_init 43 = .ok (.putfield 28, 3) := by decide +kernel
theorem dX4_init_46 : decode cX4_init 46 = .ok (.aload_n 0, 1) := by decide +kernel
theorem dX4_init_47 : decode cX4_init 47 = .ok (.bipush 10, 2) := by decide +kernel
theorem dX4_init_49 : decode cX4_init 49 = .ok (.newarray .int, 2) := by decide +kernel
theorem dX4_init_51 : decode cX4_init 51 = .ok (.putfield 31, 3) := by decide +kernel
theorem dX4_init_54 : decode cX4_init 54 = .ok (.aload_n 0, 1) := by decide +kernel
theorem dX4_init_55 : decode cX4_init 55 = .ok (.bipush 10, 2) := by decide +kernel
theorem dX4_init_57 : decode cX4_init 57 = .ok (.newarray .int, 2) := by decide +kernel
theorem dX4_init_59 : decode cX4_init 59 = .ok (.putfield 34, 3) := by decide +kernel
theorem dX4_init_62 : decode cX4_init 62 = .ok (.aload_n 0, 1) := by decide +kernel
theorem dX4_init_63 : decode cX4_init 63 = .ok (.iconst 0, 1) := by decide +kernel
theorem dX4_init_64 : decode cX4_init 64 = .ok (.putfield 37, 3) := by decide +kernel
theorem dX4_init_67 : decode cX4_init 67 = .ok (.aload_n 0, 1) := by decide +kernel
theorem dX4_init_68 : decode cX4_init 68 = .ok (.iconst 4, 1) := by decide +kernel
theorem dX4_init_69 : decode cX4_init 69 = .ok (.newarray .int, 2) := by decide +kernel
theorem dX4_init_71 : decode cX4_init 71 = .ok (.putfield 40, 3) := by decide +kernel
theorem dX4_init_74 : decode cX4_init 74 = .ok (.aload_n 0, 1) := by decide +kernel
theorem dX4_init_75 : decode cX4_init 75 = .ok (.iconst 4, 1) := by decide +kernel
theorem dX4_init_76 : decode cX4_init 76 = .ok (.newarray .int, 2) := by decide +kernel
theorem dX4_init_78 : decode cX4_init 78 = .ok (.putfield 43, 3) := by decide +kernel
theorem dX4_init_81 : decode cX4_init 81 = .ok (.aload_n 0, 1) := by decide +kernel
theorem dX4_init_82 : decode cX4_init 82 = .ok (.bipush 10, 2) := by decide +kernel
theorem dX4_init_84 : decode cX4_init 84 = .ok (.newarray .int, 2) := by decide +kernel
theorem dX4_init_86 : decode cX4_init 86 = .ok (.putfield 46, 3) := by decide +kernel
theorem dX4_init_89 : decode cX4_init 89 = .ok (.return_, 1) := by decide +kernel
theorem dX4_isAgent_0 : decode cX4_isAgent 0 = .ok (.aload_n 0, 1) := by decide +kernel
theorem dX4_isAgent_1 : decode cX4_isAgent 1 = .ok (.iload_n 1, 1) := by decide +kernel
theorem dX4_isAgent_2 : decode cX4_isAgent 2 = .ok (.invokevirtual 61, 3) := by decide +kernel
theorem dX4_isAgent_5 : decode cX4_isAgent 5 = .ok (.ifCond .eq 16, 3) := by decide +kernel
theorem dX4_isAgent_8 : decode cX4_isAgent 8 = .ok (.aload_n 0, 1) := by decide +kernel
theorem dX4_isAgent_9 : decode cX4_isAgent 9 = .ok (.getfield 15, 3) := by decide +kernel
theorem dX4_isAgent_12 : decode cX4_isAgent 12 = .ok (.iload_n 1, 1) := by decide +kernel
theorem dX4_isAgent_13 : decode cX4_isAgent 13 = .ok (.iaload, 1) := by decide +kernel
theorem dX4_isAgent_14 : decode cX4_isAgent 14 = .ok (.ifCond .ne 7, 3) := by decide +kernel
theorem dX4_isAgent_17 : decode cX4_isAgent 17 = .ok (.iconst 1, 1) := by decide +kernel
theorem dX4_isAgent_18 : decode cX4_isAgent 18 = .ok (.goto 4, 3) := by decide +kernel
theorem dX4_isAgent_21 : decode cX4_isAgent 21 = .ok (.iconst 0, 1) := by decide +kernel
theorem dX4_isAgent_22 : decode cX4_isAgent 22 = .ok (.ireturn, 1) := by decide +kernel
theorem dX4_isAgentWith_0 : decode cX4_isAgentWith 0 = .ok (.aload_n 0, 1) := by decide +kernel
theorem dX4_isAgentWith_1 : decode cX4_isAgentWith 1 = .ok (.iload_n 1, 1) := by decide +kernel
theorem dX4_isAgentWith_2 : decode cX4_isAgentWith 2 = .ok (.invokevirtual 65, 3) := by decide +kernel
theorem dX4_isAgentWith_5 : decode cX4_isAgentWith 5 = .ok (.ifCond .eq 18, 3) := by decide +kernel
theorem dX4_isAgentWith_8 : decode cX4_isAgentWith 8 = .ok (.aload_n 0, 1) := by decide +kernel
theorem dX4_isAgentWith_9 : decode cX4_isAgentWith 9 = .ok (.getfield 19, 3) := by decide +kernel
theorem dX4_isAgentWith_12 : decode cX4_isAgentWith 12 = .ok (.iload_n 1, 1) := by decide +kernel
theorem dX4_isAgentWith_13 : decode cX4_isAgentWith 13 = .ok (.iaload, 1) := by decide +kernel
theorem dX4_isAgentWith_14 : decode cX4_isAgentWith 14 = .ok (.iload_n 2, 1) := by decide +kernel
theorem dX4_isAgentWith_15 : decode cX4_isAgentWith 15 = .ok (.iand, 1) := by decide +kernel
theorem dX4_isAgentWith_16 : decode cX4_isAgentWith 16 = .ok (.ifCond .eq 7, 3) := by decide +kernel
theorem dX4_isAgentWith_19 : decode cX4_isAgentWith 19 = .ok (.iconst 1, 1) := by decide +kernel
theorem dX4_isAgentWith_20 : decode cX4_isAgentWith 20 = .ok (.goto 4, 3) := by decide +kernel
theorem dX4_isAgentWith_23 : decode cX4_isAgentWith 23 = .ok (.iconst 0, 1) := by decide +kernel
theorem dX4_isAgentWith_24 : decode cX4_isAgentWith 24 = .ok (.ireturn, 1) := by decide +kernel
theorem dX4_isOfKind_0 : decode cX4_isOfKind 0 = .ok (.aload_n 0, 1) := by decide +kernel
theorem dX4_isOfKind_1 : decode cX4_isOfKind 1 = .ok (.iload_n 1, 1) := by decide +kernel
theorem dX4_isOfKind_2 : decode cX4_isOfKind 2 = .ok (.invokevirtual 61, 3) := by decide +kernel
theorem dX4_isOfKind_5 : decode cX4_isOfKind 5 = .ok (.ifCond .eq 17, 3) := by decide +kernel
theorem dX4_isOfKind_8 : decode cX4_isOfKind 8 = .ok (.aload_n 0, 1) := by decide +kernel
theorem dX4_isOfKind_9 : decode cX4_isOfKind 9 = .ok (.getfield 15, 3) := by decide +kernel
theorem dX4_isOfKind_12 : decode cX4_isOfKind 12 = .ok (.iload_n 1, 1) := by decide +kernel
theorem dX4_isOfKind_13 : decode cX4_isOfKind 13 = .ok (.iaload, 1) := by decide +kernel
theorem dX4_isOfKind_14 : decode cX4_isOfKind 14 = .ok (.iload_n 2, 1) := by decide +kernel
theorem dX4_isOfKind_15 : decode cX4_isOfKind 15 = .ok (.if_icmp .ne 7, 3) := by decide +kernel
theorem dX4_isOfKind_18 : decode cX4_isOfKind 18 = .ok (.iconst 1, 1) := by decide +kernel
theorem dX4_isOfKind_19 : decode cX4_isOfKind 19 = .ok (.goto 4, 3) := by decide +kernel
theorem dX4_isOfKind_22 : decode cX4_isOfKind 22 = .ok (.iconst 0, 1) := by decide +kernel
theorem dX4_isOfKind_23 : decode cX4_isOfKind 23 = .ok (.ireturn, 1) := by decide +kernel
theorem dX4_listReference_0 : decode cX4_listReference 0 = .ok (.aload_n 0, 1) := by decide +kernel
theorem dX4_listReference_1 : decode cX4_listReference 1 = .ok (.getfield 28, 3) := by decide +kernel
theorem dX4_listReference_4 : decode cX4_listReference 4 = .ok (.bipush 10, 2) := by decide +kernel
theorem dX4_listReference_6 : decode cX4_listReference 6 = .ok (.if_icmp .lt 4, 3) := by decide +kernel
theorem dX4_listReference_9 : decode cX4_listReference 9 = .ok (.return_, 1) := by decide +kernel
theorem dX4_listReference_10 : decode cX4_listReference 10 = .ok (.aload_n 0, 1) := by decide +kernel
theorem dX4_listReference_11 : decode cX4_listReference 11 = .ok (.getfield 31, 3) := by decide +kernel
theorem dX4_listReference_14 : decode cX4_listReference 14 = .ok (.aload_n 0, 1) := by decide +kernel
theorem dX4_listReference_15 : decode cX4_listReference 15 = .ok (.getfield 28, 3) := by decide +kernel
theorem dX4_listReference_18 : decode cX4_listReference 18 = .ok (.iload_n 1, 1) := by decide +kernel
theorem dX4_listReference_19 : decode cX4_listReference 19 = .ok (.iastore, 1) := by decide +kernel
theorem dX4_listReference_20 : decode cX4_listReference 20 = .ok (.aload_n 0, 1) := by decide +kernel
theorem dX4_listReference_21 : decode cX4_listReference 21 = .ok (.getfield 34, 3) := by decide +kernel
theorem dX4_listReference_24 : decode cX4_listReference 24 = .ok (.aload_n 0, 1) := by decide +kernel
theorem dX4_listReference_25 : decode cX4_listReference 25 = .ok (.getfield 28, 3) := by decide +kernel
theorem dX4_listReference_28 : decode cX4_listReference 28 = .ok (.iload_n 2, 1) := by decide +kernel
theorem dX4_listReference_29 : decode cX4_listReference 29 = .ok (.iastore, 1) := by decide +kernel
theorem dX4_listReference_30 : decode cX4_listReference 30 = .ok (.aload_n 0, 1) := by decide +kernel
theorem dX4_listReference_31 : decode cX4_listReference 31 = .ok (.dup, 1) := by decide +kernel
theorem dX4_listReference_32 : decode cX4_listReference 32 = .ok (.getfield 28, 3) := by decide +kernel
theorem dX4_listReference_35 : decode cX4_listReference 35 = .ok (.iconst 1, 1) := by decide +kernel
theorem dX4_listReference_36 : decode cX4_listReference 36 = .ok (.iadd, 1) := by decide +kernel
theorem dX4_listReference_37 : decode cX4_listReference 37 = .ok (.putfield 28, 3) := by decide +kernel
theorem dX4_listReference_40 : decode cX4_listReference 40 = .ok (.return_, 1) := by decide +kernel
theorem dX4_listsReference_0 : decode cX4_listsReference 0 = .ok (.iconst 0, 1) := by decide +kernel
theorem dX4_listsReference_1 : decode cX4_listsReference 1 = .ok (.istore_n 3, 1) := by decide +kernel
theorem dX4_listsReference_2 : decode cX4_listsReference 2 = .ok (.iload_n 3, 1) := by decide +kernel
theorem dX4_listsReference_3 : decode cX4_listsReference 3 = .ok (.aload_n 0, 1) := by decide +kernel
theorem dX4_listsReference_4 : decode cX4_listsReference 4 = .ok (.getfield 28, 3) := by decide +kernel
theorem dX4_listsReference_7 : decode cX4_listsReference 7 = .ok (.if_icmp .ge 31, 3) := by decide +kernel
theorem dX4_listsReference_10 : decode cX4_listsReference 10 = .ok (.aload_n 0, 1) := by decide +kernel
theorem dX4_listsReference_11 : decode cX4_listsReference 11 = .ok (.getfield 31, 3) := by decide +kernel
theorem dX4_listsReference_14 : decode cX4_listsReference 14 = .ok (.iload_n 3, 1) := by decide +kernel
theorem dX4_listsReference_15 : decode cX4_listsReference 15 = .ok (.iaload, 1) := by decide +kernel
theorem dX4_listsReference_16 : decode cX4_listsReference 16 = .ok (.iload_n 1, 1) := by decide +kernel
theorem dX4_listsReference_17 : decode cX4_listsReference 17 = .ok (.if_icmp .ne 15, 3) := by decide +kernel
theorem dX4_listsReference_20 : decode cX4_listsReference 20 = .ok (.aload_n 0, 1) := by decide +kernel
