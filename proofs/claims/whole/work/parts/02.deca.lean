theorem dX0_init_0 : decode cX0_init 0 = .ok (.aload_n 0, 1) := by decide +kernel
theorem dX0_init_1 : decode cX0_init 1 = .ok (.invokespecial 3, 3) := by decide +kernel
theorem dX0_init_4 : decode cX0_init 4 = .ok (.aload_n 0, 1) := by decide +kernel
theorem dX0_init_5 : decode cX0_init 5 = .ok (.bipush 20, 2) := by decide +kernel
theorem dX0_init_7 : decode cX0_init 7 = .ok (.newarray .int, 2) := by decide +kernel
theorem dX0_init_9 : decode cX0_init 9 = .ok (.putfield 9, 3) := by decide +kernel
theorem dX0_init_12 : decode cX0_init 12 = .ok (.aload_n 0, 1) := by decide +kernel
theorem dX0_init_13 : decode cX0_init 13 = .ok (.bipush 20, 2) := by decide +kernel
theorem dX0_init_15 : decode cX0_init 15 = .ok (.newarray .int, 2) := by decide +kernel
theorem dX0_init_17 : decode cX0_init 17 = .ok (.putfield 15, 3) := by decide +kernel
theorem dX0_init_20 : decode cX0_init 20 = .ok (.aload_n 0, 1) := by decide +kernel
theorem dX0_init_21 : decode cX0_init 21 = .ok (.bipush 20, 2) := by decide +kernel
theorem dX0_init_23 : decode cX0_init 23 = .ok (.newarray .int, 2) := by decide +kernel
theorem dX0_init_25 : decode cX0_init 25 = .ok (.putfield 18, 3) := by decide +kernel
theorem dX0_init_28 : decode cX0_init 28 = .ok (.aload_n 0, 1) := by decide +kernel
theorem dX0_init_29 : decode cX0_init 29 = .ok (.bipush 20, 2) := by decide +kernel
theorem dX0_init_31 : decode cX0_init 31 = .ok (.newarray .int, 2) := by decide +kernel
theorem dX0_init_33 : decode cX0_init 33 = .ok (.putfield 21, 3) := by decide +kernel
theorem dX0_init_36 : decode cX0_init 36 = .ok (.return_, 1) := by decide +kernel
theorem dX0_size_0 : decode cX0_size 0 = .ok (.aload_n 0, 1) := by decide +kernel
theorem dX0_size_1 : decode cX0_size 1 = .ok (.getfield 24, 3) := by decide +kernel
theorem dX0_size_4 : decode cX0_size 4 = .ok (.ireturn, 1) := by decide +kernel
theorem dX0_isFull_0 : decode cX0_isFull 0 = .ok (.aload_n 0, 1) := by decide +kernel
theorem dX0_isFull_1 : decode cX0_isFull 1 = .ok (.getfield 24, 3) := by decide +kernel
theorem dX0_isFull_4 : decode cX0_isFull 4 = .ok (.bipush 20, 2) := by decide +kernel
theorem dX0_isFull_6 : decode cX0_isFull 6 = .ok (.if_icmp .lt 7, 3) := by decide +kernel
theorem dX0_isFull_9 : decode cX0_isFull 9 = .ok (.iconst 1, 1) := by decide +kernel
theorem dX0_isFull_10 : decode cX0_isFull 10 = .ok (.goto 4, 3) := by decide +kernel
theorem dX0_isFull_13 : decode cX0_isFull 13 = .ok (.iconst 0, 1) := by decide +kernel
theorem dX0_isFull_14 : decode cX0_isFull 14 = .ok (.ireturn, 1) := by decide +kernel
theorem dX0_clear_0 : decode cX0_clear 0 = .ok (.aload_n 0, 1) := by decide +kernel
theorem dX0_clear_1 : decode cX0_clear 1 = .ok (.iconst 0, 1) := by decide +kernel
theorem dX0_clear_2 : decode cX0_clear 2 = .ok (.putfield 24, 3) := by decide +kernel
theorem dX0_clear_5 : decode cX0_clear 5 = .ok (.return_, 1) := by decide +kernel
theorem dX0_append_0 : decode cX0_append 0 = .ok (.aload_n 0, 1) := by decide +kernel
theorem dX0_append_1 : decode cX0_append 1 = .ok (.getfield 24, 3) := by decide +kernel
theorem dX0_append_4 : decode cX0_append 4 = .ok (.ifCond .lt 63, 3) := by decide +kernel
theorem dX0_append_7 : decode cX0_append 7 = .ok (.aload_n 0, 1) := by decide +kernel
theorem dX0_append_8 : decode cX0_append 8 = .ok (.getfield 24, 3) := by decide +kernel
theorem dX0_append_11 : decode cX0_append 11 = .ok (.bipush 20, 2) := by decide +kernel
theorem dX0_append_13 : decode cX0_append 13 = .ok (.if_icmp .ge 54, 3) := by decide +kernel
theorem dX0_append_16 : decode cX0_append 16 = .ok (.aload_n 0, 1) := by decide +kernel
theorem dX0_append_17 : decode cX0_append 17 = .ok (.getfield 9, 3) := by decide +kernel
theorem dX0_append_20 : decode cX0_append 20 = .ok (.aload_n 0, 1) := by decide +kernel
theorem dX0_append_21 : decode cX0_append 21 = .ok (.getfield 24, 3) := by decide +kernel
theorem dX0_append_24 : decode cX0_append 24 = .ok (.iload_n 1, 1) := by decide +kernel
theorem dX0_append_25 : decode cX0_append 25 = .ok (.iastore, 1) := by decide +kernel
theorem dX0_append_26 : decode cX0_append 26 = .ok (.aload_n 0, 1) := by decide +kernel
theorem dX0_append_27 : decode cX0_append 27 = .ok (.getfield 15, 3) := by decide +kernel
theorem dX0_append_30 : decode cX0_append 30 = .ok (.aload_n 0, 1) := by decide +kernel
theorem dX0_append_31 : decode cX0_append 31 = .ok (.getfield 24, 3) := by decide +kernel
theorem dX0_append_34 : decode cX0_append 34 = .ok (.iload_n 2, 1) := by decide +kernel
theorem dX0_append_35 : decode cX0_append 35 = .ok (.iastore, 1) := by decide +kernel
theorem dX0_append_36 : decode cX0_append 36 = .ok (.aload_n 0, 1) := by decide +kernel
theorem dX0_append_37 : decode cX0_append 37 = .ok (.getfield 18, 3) := by decide +kernel
theorem dX0_append_40 : decode cX0_append 40 = .ok (.aload_n 0, 1) := by decide +kernel
theorem dX0_append_41 : decode cX0_append 41 = .ok (.getfield 24, 3) := by decide +kernel
theorem dX0_append_44 : decode cX0_append 44 = .ok (.iload_n 3, 1) := by decide +kernel
theorem dX0_append_45 : decode cX0_append 45 = .ok (.iastore, 1) := by decide +kernel
theorem dX0_append_46 : decode cX0_append 46 = .ok (.aload_n 0, 1) := by decide +kernel
theorem dX0_append_47 : decode cX0_append 47 = .ok (.getfield 21, 3) := by decide +kernel
theorem dX0_append_50 : decode cX0_append 50 = .ok (.aload_n 0, 1) := by decide +kernel
theorem dX0_append_51 : decode cX0_append 51 = .ok (.getfield 24, 3) := by decide +kernel
theorem dX0_append_54 : decode cX0_append 54 = .ok (.iload 4, 2) := by decide +kernel
theorem dX0_append_56 : decode cX0_append 56 = .ok (.iastore, 1) := by decide +kernel
theorem dX0_append_57 : decode cX0_append 57 = .ok (.aload_n 0, 1) := by decide +kernel
theorem dX0_append_58 : decode cX0_append 58 = .ok (.dup, 1) := by decide +kernel
theorem dX0_append_59 : decode cX0_append 59 = .ok (.getfield 24, 3) := by decide +kernel
theorem dX0_append_62 : decode cX0_append 62 = .ok (.iconst 1, 1) := by decide +kernel
theorem dX0_append_63 : decode cX0_append 63 = .ok (.iadd, 1) := by decide +kernel
theorem dX0_append_64 : decode cX0_append 64 = .ok (.putfield 24, 3) := by decide +kernel
theorem dX0_append_67 : decode cX0_append 67 = .ok (.return_, 1) := by decide +kernel
theorem dX0_firstWrong_0 : decode cX0_firstWrong 0 = .ok (.iconst 0, 1) := by decide +kernel
theorem dX0_firstWrong_1 : decode cX0_firstWrong 1 = .ok (.istore_n 2, 1) := by decide +kernel
theorem dX0_firstWrong_2 : decode cX0_firstWrong 2 = .ok (.iload_n 2, 1) := by decide +kernel
theorem dX0_firstWrong_3 : decode cX0_firstWrong 3 = .ok (.aload_n 0, 1) := by decide +kernel
theorem dX0_firstWrong_4 : decode cX0_firstWrong 4 = .ok (.getfield 24, 3) := by decide +kernel
theorem dX0_firstWrong_7 : decode cX0_firstWrong 7 = .ok (.if_icmp .ge 60, 3) := by decide +kernel
theorem dX0_firstWrong_10 : decode cX0_firstWrong 10 = .ok (.iload_n 2, 1) := by decide +kernel
theorem dX0_firstWrong_11 : decode cX0_firstWrong 11 = .ok (.bipush 20, 2) := by decide +kernel
theorem dX0_firstWrong_13 : decode cX0_firstWrong 13 = .ok (.if_icmp .ge 54, 3) := by decide +kernel
theorem dX0_firstWrong_16 : decode cX0_firstWrong 16 = .ok (.aload_n 1, 1) := by decide +kernel
theorem dX0_firstWrong_17 : decode cX0_firstWrong 17 = .ok (.aload_n 0, 1) := by decide +kernel
theorem dX0_firstWrong_18 : decode cX0_firstWrong 18 = .ok (.getfield 9, 3) := by decide +kernel
theorem dX0_firstWrong_21 : decode cX0_firstWrong 21 = .ok (.iload_n 2, 1) := by decide +kernel
theorem dX0_firstWrong_22 : decode cX0_firstWrong 22 = .ok (.iaload, 1) := by decide +kernel
theorem dX0_firstWrong_23 : decode cX0_firstWrong 23 = .ok (.aload_n 0, 1) := by decide +kernel
theorem dX0_firstWrong_24 : decode cX0_firstWrong 24 = .ok (.getfield 15, 3) := by decide +kernel
theorem dX0_firstWrong_27 : decode cX0_firstWrong 27 = .ok (.iload_n 2, 1) := by decide +kernel
theorem dX0_firstWrong_28 : decode cX0_firstWrong 28 = .ok (.iaload, 1) := by decide +kernel
theorem dX0_firstWrong_29 : decode cX0_firstWrong 29 = .ok (.iconst 0, 1) := by decide +kernel
theorem dX0_firstWrong_30 : decode cX0_firstWrong 30 = .ok (.invokevirtual 28, 3) := by decide +kernel
theorem dX0_firstWrong_33 : decode cX0_firstWrong 33 = .ok (.aload_n 1, 1) := by decide +kernel
theorem dX0_firstWrong_34 : decode cX0_firstWrong 34 = .ok (.invokevirtual 34, 3) := by decide +kernel
theorem dX0_firstWrong_37 : decode cX0_firstWrong 37 = .ok (.aload_n 0, 1) := by decide +kernel
theorem dX0_firstWrong_38 : decode cX0_firstWrong 38 = .ok (.getfield 18, 3) := by decide +kernel
theorem dX0_firstWrong_41 : decode cX0_firstWrong 41 = .ok (.iload_n 2, 1) := by decide +kernel
theorem dX0_firstWrong_42 : decode cX0_firstWrong 42 = .ok (.iaload, 1) := by decide +kernel
theorem dX0_firstWrong_43 : decode cX0_firstWrong 43 = .ok (.if_icmp .ne 16, 3) := by decide +kernel
theorem dX0_firstWrong_46 : decode cX0_firstWrong 46 = .ok (.aload_n 1, 1) := by decide +kernel
theorem dX0_firstWrong_47 : decode cX0_firstWrong 47 = .ok (.invokevirtual 38, 3) := by decide +kernel
theorem dX0_firstWrong_50 : decode cX0_firstWrong 50 = .ok (.aload_n 0, 1) := by decide +kernel
theorem dX0_firstWrong_51 : decode cX0_firstWrong 51 = .ok (.getfield 21, 3) := by decide +kernel
theorem dX0_firstWrong_54 : decode cX0_firstWrong 54 = .ok (.iload_n 2, 1) := by decide +kernel
theorem dX0_firstWrong_55 : decode cX0_firstWrong 55 = .ok (.iaload, 1) := by decide +kernel
theorem dX0_firstWrong_56 : decode cX0_firstWrong 56 = .ok (.if_icmp .eq 5, 3) := by decide +kernel
theorem dX0_firstWrong_59 : decode cX0_firstWrong 59 = .ok (.iload_n 2, 1) := by decide +kernel
theorem dX0_firstWrong_60 : decode cX0_firstWrong 60 = .ok (.ireturn, 1) := by decide +kernel
theorem dX0_firstWrong_61 : decode cX0_firstWrong 61 = .ok (.iinc 2 1, 3) := by decide +kernel
theorem dX0_firstWrong_64 : decode cX0_firstWrong 64 = .ok (.goto (-62), 3) := by decide +kernel
theorem dX0_firstWrong_67 : decode cX0_firstWrong 67 = .ok (.iconst (-1), 1) := by decide +kernel
theorem dX0_firstWrong_68 : decode cX0_firstWrong 68 = .ok (.ireturn, 1) := by decide +kernel
theorem dX1_init_0 : decode cX1_init 0 = .ok (.aload_n 0, 1) := by decide +kernel
theorem dX1_init_1 : decode cX1_init 1 = .ok (.invokespecial 3, 3) := by decide +kernel
theorem dX1_init_4 : decode cX1_init 4 = .ok (.aload_n 0, 1) := by decide +kernel
theorem dX1_init_5 : decode cX1_init 5 = .ok (.bipush 9, 2) := by decide +kernel
theorem dX1_init_7 : decode cX1_init 7 = .ok (.newarray .int, 2) := by decide +kernel
theorem dX1_init_9 : decode cX1_init 9 = .ok (.putfield 9, 3) := by decide +kernel
theorem dX1_init_12 : decode cX1_init 12 = .ok (.aload_n 0, 1) := by decide +kernel
theorem dX1_init_13 : decode cX1_init 13 = .ok (.aload_n 1, 1) := by decide +kernel
theorem dX1_init_14 : decode cX1_init 14 = .ok (.putfield 15, 3) := by decide +kernel
theorem dX1_init_17 : decode cX1_init 17 = .ok (.aload_n 0, 1) := by decide +kernel
theorem dX1_init_18 : decode cX1_init 18 = .ok (.aload_n 2, 1) := by decide +kernel
theorem dX1_init_19 : decode cX1_init 19 = .ok (.putfield 19, 3) := by decide +kernel
theorem dX1_init_22 : decode cX1_init 22 = .ok (.return_, 1) := by decide +kernel
theorem dX1_costIfRight_0 : decode cX1_costIfRight 0 = .ok (.iconst 0, 1) := by decide +kernel
theorem dX1_costIfRight_1 : decode cX1_costIfRight 1 = .ok (.istore_n 2, 1) := by decide +kernel
theorem dX1_costIfRight_2 : decode cX1_costIfRight 2 = .ok (.iconst 0, 1) := by decide +kernel
theorem dX1_costIfRight_3 : decode cX1_costIfRight 3 = .ok (.istore_n 3, 1) := by decide +kernel
theorem dX1_costIfRight_4 : decode cX1_costIfRight 4 = .ok (.iload_n 3, 1) := by decide +kernel
theorem dX1_costIfRight_5 : decode cX1_costIfRight 5 = .ok (.aload_n 0, 1) := by decide +kernel
theorem dX1_costIfRight_6 : decode cX1_costIfRight 6 = .ok (.getfield 15, 3) := by decide +kernel
theorem dX1_costIfRight_9 : decode cX1_costIfRight 9 = .ok (.invokevirtual 23, 3) := by decide +kernel
theorem dX1_costIfRight_12 : decode cX1_costIfRight 12 = .ok (.if_icmp .ge 105, 3) := by decide +kernel
theorem dX1_costIfRight_15 : decode cX1_costIfRight 15 = .ok (.aload_n 0, 1) := by decide +kernel
theorem dX1_costIfRight_16 : decode cX1_costIfRight 16 = .ok (.getfield 15, 3) := by decide +kernel
theorem dX1_costIfRight_19 : decode cX1_costIfRight 19 = .ok (.iload_n 3, 1) := by decide +kernel
theorem dX1_costIfRight_20 : decode cX1_costIfRight 20 = .ok (.invokevirtual 29, 3) := by decide +kernel
theorem dX1_costIfRight_23 : decode cX1_costIfRight 23 = .ok (.istore 4, 2) := by decide +kernel
theorem dX1_costIfRight_25 : decode cX1_costIfRight 25 = .ok (.aload_n 0, 1) := by decide +kernel
theorem dX1_costIfRight_26 : decode cX1_costIfRight 26 = .ok (.getfield 15, 3) := by decide +kernel
theorem dX1_costIfRight_29 : decode cX1_costIfRight 29 = .ok (.iload_n 3, 1) := by decide +kernel
theorem dX1_costIfRight_30 : decode cX1_costIfRight 30 = .ok (.invokevirtual 33, 3) := by decide +kernel
theorem dX1_costIfRight_33 : decode cX1_costIfRight 33 = .ok (.istore 5, 2) := by decide +kernel
theorem dX1_costIfRight_35 : decode cX1_costIfRight 35 = .ok (.aload_n 0, 1) := by decide +kernel
theorem dX1_costIfRight_36 : decode cX1_costIfRight 36 = .ok (.getfield 19, 3) := by decide +kernel
theorem dX1_costIfRight_39 : decode cX1_costIfRight 39 = .ok (.iload 4, 2) := by decide +kernel
theorem dX1_costIfRight_41 : decode cX1_costIfRight 41 = .ok (.iload 5, 2) := by decide +kernel
theorem dX1_costIfRight_43 : decode cX1_costIfRight 43 = .ok (.iload_n 1, 1) := by decide +kernel
theorem dX1_costIfRight_44 : decode cX1_costIfRight 44 = .ok (.invokevirtual 36, 3) := by decide +kernel
theorem dX1_costIfRight_47 : decode cX1_costIfRight 47 = .ok (.aload_n 0, 1) := by decide +kernel
theorem dX1_costIfRight_48 : decode cX1_costIfRight 48 = .ok (.getfield 19, 3) := by decide +kernel
theorem dX1_costIfRight_51 : decode cX1_costIfRight 51 = .ok (.invokevirtual 42, 3) := by decide +kernel
theorem dX1_costIfRight_54 : decode cX1_costIfRight 54 = .ok (.iconst 1, 1) := by decide +kernel
theorem dX1_costIfRight_55 : decode cX1_costIfRight 55 = .ok (.if_icmp .ne 7, 3) := by decide +kernel
theorem dX1_costIfRight_58 : decode cX1_costIfRight 58 = .ok (.iconst 1, 1) := by decide +kernel
theorem dX1_costIfRight_59 : decode cX1_costIfRight 59 = .ok (.goto 4, 3) := by decide +kernel
theorem dX1_costIfRight_62 : decode cX1_costIfRight 62 = .ok (.iconst 0, 1) := by decide +kernel
theorem dX1_costIfRight_63 : decode cX1_costIfRight 63 = .ok (.istore 6, 2) := by decide +kernel
theorem dX1_costIfRight_65 : decode cX1_costIfRight 65 = .ok (.iload 6, 2) := by decide +kernel
theorem dX1_costIfRight_67 : decode cX1_costIfRight 67 = .ok (.ifCond .eq 25, 3) := by decide +kernel
theorem dX1_costIfRight_70 : decode cX1_costIfRight 70 = .ok (.aload_n 0, 1) := by decide +kernel
theorem dX1_costIfRight_71 : decode cX1_costIfRight 71 = .ok (.getfield 19, 3) := by decide +kernel
theorem dX1_costIfRight_74 : decode cX1_costIfRight 74 = .ok (.invokevirtual 45, 3) := by decide +kernel
theorem dX1_costIfRight_77 : decode cX1_costIfRight 77 = .ok (.aload_n 0, 1) := by decide +kernel
theorem dX1_costIfRight_78 : decode cX1_costIfRight 78 = .ok (.getfield 15, 3) := by decide +kernel
theorem dX1_costIfRight_81 : decode cX1_costIfRight 81 = .ok (.iload 4, 2) := by decide +kernel
theorem dX1_costIfRight_83 : decode cX1_costIfRight 83 = .ok (.iload 5, 2) := by decide +kernel
theorem dX1_costIfRight_85 : decode cX1_costIfRight 85 = .ok (.invokevirtual 48, 3) := by decide +kernel
theorem dX1_costIfRight_88 : decode cX1_costIfRight 88 = .ok (.isub, 1) := by decide +kernel
theorem dX1_costIfRight_89 : decode cX1_costIfRight 89 = .ok (.goto 6, 3) := by decide +kernel
theorem dX1_costIfRight_92 : decode cX1_costIfRight 92 = .ok (.sipush 1000, 3) := by decide +kernel
theorem dX1_costIfRight_95 : decode cX1_costIfRight 95 = .ok (.istore 7, 2) := by decide +kernel
theorem dX1_costIfRight_97 : decode cX1_costIfRight 97 = .ok (.iload_n 2, 1) := by decide +kernel
theorem dX1_costIfRight_98 : decode cX1_costIfRight 98 = .ok (.aload_n 0, 1) := by decide +kernel
theorem dX1_costIfRight_99 : decode cX1_costIfRight 99 = .ok (.getfield 15, 3) := by decide +kernel
theorem dX1_costIfRight_102 : decode cX1_costIfRight 102 = .ok (.iload_n 3, 1) := by decide +kernel
theorem dX1_costIfRight_103 : decode cX1_costIfRight 103 = .ok (.invokevirtual 52, 3) := by decide +kernel
theorem dX1_costIfRight_106 : decode cX1_costIfRight 106 = .ok (.iload 7, 2) := by decide +kernel
theorem dX1_costIfRight_108 : decode cX1_costIfRight 108 = .ok (.imul, 1) := by decide +kernel
theorem dX1_costIfRight_109 : decode cX1_costIfRight 109 = .ok (.iadd, 1) := by decide +kernel
theorem dX1_costIfRight_110 : decode cX1_costIfRight 110 = .ok (.istore_n 2, 1) := by decide +kernel
theorem dX1_costIfRight_111 : decode cX1_costIfRight 111 = .ok (.iinc 3 1, 3) := by decide +kernel
theorem dX1_costIfRight_114 : decode cX1_costIfRight 114 = .ok (.goto (-110), 3) := by decide +kernel
theorem dX1_costIfRight_117 : decode cX1_costIfRight 117 = .ok (.iload_n 2, 1) := by decide +kernel
theorem dX1_costIfRight_118 : decode cX1_costIfRight 118 = .ok (.ireturn, 1) := by decide +kernel
theorem dX1_allComeIfRight_0 : decode cX1_allComeIfRight 0 = .ok (.iconst 0, 1) := by decide +kernel
theorem dX1_allComeIfRight_1 : decode cX1_allComeIfRight 1 = .ok (.istore_n 2, 1) := by decide +kernel
theorem dX1_allComeIfRight_2 : decode cX1_allComeIfRight 2 = .ok (.iload_n 2, 1) := by decide +kernel
theorem dX1_allComeIfRight_3 : decode cX1_allComeIfRight 3 = .ok (.aload_n 0, 1) := by decide +kernel
theorem dX1_allComeIfRight_4 : decode cX1_allComeIfRight 4 = .ok (.getfield 15, 3) := by decide +kernel
theorem dX1_allComeIfRight_7 : decode cX1_allComeIfRight 7 = .ok (.invokevirtual 23, 3) := by decide +kernel
theorem dX1_allComeIfRight_10 : decode cX1_allComeIfRight 10 = .ok (.if_icmp .ge 66, 3) := by decide +kernel
theorem dX1_allComeIfRight_13 : decode cX1_allComeIfRight 13 = .ok (.aload_n 0, 1) := by decide +kernel
theorem dX1_allComeIfRight_14 : decode cX1_allComeIfRight 14 = .ok (.getfield 15, 3) := by decide +kernel
theorem dX1_allComeIfRight_17 : decode cX1_allComeIfRight 17 = .ok (.iload_n 2, 1) := by decide +kernel
theorem dX1_allComeIfRight_18 : decode cX1_allComeIfRight 18 = .ok (.invokevirtual 29, 3) := by decide +kernel
theorem dX1_allComeIfRight_21 : decode cX1_allComeIfRight 21 = .ok (.istore_n 3, 1) := by decide +kernel
theorem dX1_allComeIfRight_22 : decode cX1_allComeIfRight 22 = .ok (.aload_n 0, 1) := by decide +kernel
theorem dX1_allComeIfRight_23 : decode cX1_allComeIfRight 23 = .ok (.getfield 15, 3) := by decide +kernel
theorem dX1_allComeIfRight_26 : decode cX1_allComeIfRight 26 = .ok (.iload_n 2, 1) := by decide +kernel
theorem dX1_allComeIfRight_27 : decode cX1_allComeIfRight 27 = .ok (.invokevirtual 33, 3) := by decide +kernel
theorem dX1_allComeIfRight_30 : decode cX1_allComeIfRight 30 = .ok (.istore 4, 2) := by decide +kernel
theorem dX1_allComeIfRight_32 : decode cX1_allComeIfRight 32 = .ok (.aload_n 0, 1) := by decide +kernel
theorem dX1_allComeIfRight_33 : decode cX1_allComeIfRight 33 = .ok (.getfield 15, 3) := by decide +kernel
theorem dX1_allComeIfRight_36 : decode cX1_allComeIfRight 36 = .ok (.iload_n 3, 1) := by decide +kernel
theorem dX1_allComeIfRight_37 : decode cX1_allComeIfRight 37 = .ok (.iload 4, 2) := by decide +kernel
theorem dX1_allComeIfRight_39 : decode cX1_allComeIfRight 39 = .ok (.invokevirtual 48, 3) := by decide +kernel
theorem dX1_allComeIfRight_42 : decode cX1_allComeIfRight 42 = .ok (.iconst (-1), 1) := by decide +kernel
theorem dX1_allComeIfRight_43 : decode cX1_allComeIfRight 43 = .ok (.if_icmp .eq 27, 3) := by decide +kernel
theorem dX1_allComeIfRight_46 : decode cX1_allComeIfRight 46 = .ok (.aload_n 0, 1) := by decide +kernel
theorem dX1_allComeIfRight_47 : decode cX1_allComeIfRight 47 = .ok (.getfield 19, 3) := by decide +kernel
theorem dX1_allComeIfRight_50 : decode cX1_allComeIfRight 50 = .ok (.iload_n 3, 1) := by decide +kernel
theorem dX1_allComeIfRight_51 : decode cX1_allComeIfRight 51 = .ok (.iload 4, 2) := by decide +kernel
theorem dX1_allComeIfRight_53 : decode cX1_allComeIfRight 53 = .ok (.iload_n 1, 1) := by decide +kernel
theorem dX1_allComeIfRight_54 : decode cX1_allComeIfRight 54 = .ok (.invokevirtual 36, 3) := by decide +kernel
theorem dX1_allComeIfRight_57 : decode cX1_allComeIfRight 57 = .ok (.aload_n 0, 1) := by decide +kernel
theorem dX1_allComeIfRight_58 : decode cX1_allComeIfRight 58 = .ok (.getfield 19, 3) := by decide +kernel
theorem dX1_allComeIfRight_61 : decode cX1_allComeIfRight 61 = .ok (.invokevirtual 42, 3) := by decide +kernel
theorem dX1_allComeIfRight_64 : decode cX1_allComeIfRight 64 = .ok (.iconst 1, 1) := by decide +kernel
theorem dX1_allComeIfRight_65 : decode cX1_allComeIfRight 65 = .ok (.if_icmp .eq 5, 3) := by decide +kernel
theorem dX1_allComeIfRight_68 : decode cX1_allComeIfRight 68 = .ok (.iconst 0, 1) := by decide +kernel
theorem dX1_allComeIfRight_69 : decode cX1_allComeIfRight 69 = .ok (.ireturn, 1) := by decide +kernel
theorem dX1_allComeIfRight_70 : decode cX1_allComeIfRight 70 = .ok (.iinc 2 1, 3) := by decide +kernel
theorem dX1_allComeIfRight_73 : decode cX1_allComeIfRight 73 = .ok (.goto (-71), 3) := by decide +kernel
theorem dX1_allComeIfRight_76 : decode cX1_allComeIfRight 76 = .ok (.iconst 1, 1) := by decide +kernel
theorem dX1_allComeIfRight_77 : decode cX1_allComeIfRight 77 = .ok (.ireturn, 1) := by decide +kernel
theorem dX1_markNeededArms_0 : decode cX1_markNeededArms 0 = .ok (.iconst 0, 1) := by decide +kernel
theorem dX1_markNeededArms_1 : decode cX1_markNeededArms 1 = .ok (.istore_n 1, 1) := by decide +kernel
theorem dX1_markNeededArms_2 : decode cX1_markNeededArms 2 = .ok (.iload_n 1, 1) := by decide +kernel
theorem dX1_markNeededArms_3 : decode cX1_markNeededArms 3 = .ok (.bipush 9, 2) := by decide +kernel
theorem dX1_markNeededArms_5 : decode cX1_markNeededArms 5 = .ok (.if_icmp .ge 16, 3) := by decide +kernel
theorem dX1_markNeededArms_8 : decode cX1_markNeededArms 8 = .ok (.aload_n 0, 1) := by decide +kernel
theorem dX1_markNeededArms_9 : decode cX1_markNeededArms 9 = .ok (.getfield 9, 3) := by decide +kernel
theorem dX1_markNeededArms_12 : decode cX1_markNeededArms 12 = .ok (.iload_n 1, 1) := by decide +kernel
theorem dX1_markNeededArms_13 : decode cX1_markNeededArms 13 = .ok (.iconst 0, 1) := by decide +kernel
theorem dX1_markNeededArms_14 : decode cX1_markNeededArms 14 = .ok (.iastore, 1) := by decide +kernel
theorem dX1_markNeededArms_15 : decode cX1_markNeededArms 15 = .ok (.iinc 1 1, 3) := by decide +kernel
theorem dX1_markNeededArms_18 : decode cX1_markNeededArms 18 = .ok (.goto (-16), 3) := by decide +kernel
theorem dX1_markNeededArms_21 : decode cX1_markNeededArms 21 = .ok (.iconst 0, 1) := by decide +kernel
theorem dX1_markNeededArms_22 : decode cX1_markNeededArms 22 = .ok (.istore_n 1, 1) := by decide +kernel
theorem dX1_markNeededArms_23 : decode cX1_markNeededArms 23 = .ok (.iload_n 1, 1) := by decide +kernel
theorem dX1_markNeededArms_24 : decode cX1_markNeededArms 24 = .ok (.aload_n 0, 1) := by decide +kernel
theorem dX1_markNeededArms_25 : decode cX1_markNeededArms 25 = .ok (.getfield 15, 3) := by decide +kernel
theorem dX1_markNeededArms_28 : decode cX1_markNeededArms 28 = .ok (.invokevirtual 23, 3) := by decide +kernel
theorem dX1_markNeededArms_31 : decode cX1_markNeededArms 31 = .ok (.if_icmp .ge 51, 3) := by decide +kernel
theorem dX1_markNeededArms_34 : decode cX1_markNeededArms 34 = .ok (.aload_n 0, 1) := by decide +kernel
theorem dX1_markNeededArms_35 : decode cX1_markNeededArms 35 = .ok (.getfield 15, 3) := by decide +kernel
theorem dX1_markNeededArms_38 : decode cX1_markNeededArms 38 = .ok (.iload_n 1, 1) := by decide +kernel
theorem dX1_markNeededArms_39 : decode cX1_markNeededArms 39 = .ok (.invokevirtual 33, 3) := by decide +kernel
theorem dX1_markNeededArms_42 : decode cX1_markNeededArms 42 = .ok (.istore_n 2, 1) := by decide +kernel
theorem dX1_markNeededArms_43 : decode cX1_markNeededArms 43 = .ok (.aload_n 0, 1) := by decide +kernel
theorem dX1_markNeededArms_44 : decode cX1_markNeededArms 44 = .ok (.getfield 19, 3) := by decide +kernel
theorem dX1_markNeededArms_47 : decode cX1_markNeededArms 47 = .ok (.aload_n 0, 1) := by decide +kernel
theorem dX1_markNeededArms_48 : decode cX1_markNeededArms 48 = .ok (.getfield 15, 3) := by decide +kernel
theorem dX1_markNeededArms_51 : decode cX1_markNeededArms 51 = .ok (.iload_n 1, 1) := by decide +kernel
theorem dX1_markNeededArms_52 : decode cX1_markNeededArms 52 = .ok (.invokevirtual 29, 3) := by decide +kernel
theorem dX1_markNeededArms_55 : decode cX1_markNeededArms 55 = .ok (.iload_n 2, 1) := by decide +kernel
theorem dX1_markNeededArms_56 : decode cX1_markNeededArms 56 = .ok (.iconst 0, 1) := by decide +kernel
theorem dX1_markNeededArms_57 : decode cX1_markNeededArms 57 = .ok (.invokevirtual 36, 3) := by decide +kernel
theorem dX1_markNeededArms_60 : decode cX1_markNeededArms 60 = .ok (.aload_n 0, 1) := by decide +kernel
theorem dX1_markNeededArms_61 : decode cX1_markNeededArms 61 = .ok (.getfield 19, 3) := by decide +kernel
theorem dX1_markNeededArms_64 : decode cX1_markNeededArms 64 = .ok (.invokevirtual 42, 3) := by decide +kernel
theorem dX1_markNeededArms_67 : decode cX1_markNeededArms 67 = .ok (.iconst 1, 1) := by decide +kernel
theorem dX1_markNeededArms_68 : decode cX1_markNeededArms 68 = .ok (.if_icmp .ne 8, 3) := by decide +kernel
theorem dX1_markNeededArms_71 : decode cX1_markNeededArms 71 = .ok (.aload_n 0, 1) := by decide +kernel
theorem dX1_markNeededArms_72 : decode cX1_markNeededArms 72 = .ok (.iload_n 2, 1) := by decide +kernel
theorem dX1_markNeededArms_73 : decode cX1_markNeededArms 73 = .ok (.invokevirtual 55, 3) := by decide +kernel
theorem dX1_markNeededArms_76 : decode cX1_markNeededArms 76 = .ok (.iinc 1 1, 3) := by decide +kernel
theorem dX1_markNeededArms_79 : decode cX1_markNeededArms 79 = .ok (.goto (-56), 3) := by decide +kernel
theorem dX1_markNeededArms_82 : decode cX1_markNeededArms 82 = .ok (.return_, 1) := by decide +kernel
theorem dX1_markArmsOfTheWay_0 : decode cX1_markArmsOfTheWay 0 = .ok (.iconst 0, 1) := by decide +kernel
theorem dX1_markArmsOfTheWay_1 : decode cX1_markArmsOfTheWay 1 = .ok (.istore_n 2, 1) := by decide +kernel
theorem dX1_markArmsOfTheWay_2 : decode cX1_markArmsOfTheWay 2 = .ok (.iload_n 2, 1) := by decide +kernel
theorem dX1_markArmsOfTheWay_3 : decode cX1_markArmsOfTheWay 3 = .ok (.aload_n 0, 1) := by decide +kernel
theorem dX1_markArmsOfTheWay_4 : decode cX1_markArmsOfTheWay 4 = .ok (.getfield 19, 3) := by decide +kernel
theorem dX1_markArmsOfTheWay_7 : decode cX1_markArmsOfTheWay 7 = .ok (.invokevirtual 59, 3) := by decide +kernel
theorem dX1_markArmsOfTheWay_10 : decode cX1_markArmsOfTheWay 10 = .ok (.if_icmp .ge 59, 3) := by decide +kernel
theorem dX1_markArmsOfTheWay_13 : decode cX1_markArmsOfTheWay 13 = .ok (.aload_n 0, 1) := by decide +kernel
theorem dX1_markArmsOfTheWay_14 : decode cX1_markArmsOfTheWay 14 = .ok (.getfield 19, 3) := by decide +kernel
theorem dX1_markArmsOfTheWay_17 : decode cX1_markArmsOfTheWay 17 = .ok (.iload_n 2, 1) := by decide +kernel
theorem dX1_markArmsOfTheWay_18 : decode cX1_markArmsOfTheWay 18 = .ok (.invokevirtual 62, 3) := by decide +kernel
theorem dX1_markArmsOfTheWay_21 : decode cX1_markArmsOfTheWay 21 = .ok (.istore_n 3, 1) := by decide +kernel
theorem dX1_markArmsOfTheWay_22 : decode cX1_markArmsOfTheWay 22 = .ok (.aload_n 0, 1) := by decide +kernel
theorem dX1_markArmsOfTheWay_23 : decode cX1_markArmsOfTheWay 23 = .ok (.getfield 15, 3) := by decide +kernel
theorem dX1_markArmsOfTheWay_26 : decode cX1_markArmsOfTheWay 26 = .ok (.iload_n 3, 1) := by decide +kernel
theorem dX1_markArmsOfTheWay_27 : decode cX1_markArmsOfTheWay 27 = .ok (.iload_n 1, 1) := by decide +kernel
theorem dX1_markArmsOfTheWay_28 : decode cX1_markArmsOfTheWay 28 = .ok (.invokevirtual 65, 3) := by decide +kernel
theorem dX1_markArmsOfTheWay_31 : decode cX1_markArmsOfTheWay 31 = .ok (.istore 4, 2) := by decide +kernel
theorem dX1_markArmsOfTheWay_33 : decode cX1_markArmsOfTheWay 33 = .ok (.aload_n 0, 1) := by decide +kernel
theorem dX1_markArmsOfTheWay_34 : decode cX1_markArmsOfTheWay 34 = .ok (.getfield 15, 3) := by decide +kernel
theorem dX1_markArmsOfTheWay_37 : decode cX1_markArmsOfTheWay 37 = .ok (.iload_n 3, 1) := by decide +kernel
theorem dX1_markArmsOfTheWay_38 : decode cX1_markArmsOfTheWay 38 = .ok (.invokevirtual 68, 3) := by decide +kernel
theorem dX1_markArmsOfTheWay_41 : decode cX1_markArmsOfTheWay 41 = .ok (.ifCond .eq 22, 3) := by decide +kernel
theorem dX1_markArmsOfTheWay_44 : decode cX1_markArmsOfTheWay 44 = .ok (.iload 4, 2) := by decide +kernel
theorem dX1_markArmsOfTheWay_46 : decode cX1_markArmsOfTheWay 46 = .ok (.iconst (-1), 1) := by decide +kernel
theorem dX1_markArmsOfTheWay_47 : decode cX1_markArmsOfTheWay 47 = .ok (.if_icmp .eq 16, 3) := by decide +kernel
theorem dX1_markArmsOfTheWay_50 : decode cX1_markArmsOfTheWay 50 = .ok (.aload_n 0, 1) := by decide +kernel
theorem dX1_markArmsOfTheWay_51 : decode cX1_markArmsOfTheWay 51 = .ok (.getfield 9, 3) := by decide +kernel
theorem dX1_markArmsOfTheWay_54 : decode cX1_markArmsOfTheWay 54 = .ok (.iload_n 3, 1) := by decide +kernel
theorem dX1_markArmsOfTheWay_55 : decode cX1_markArmsOfTheWay 55 = .ok (.dup2, 1) := by decide +kernel
theorem dX1_markArmsOfTheWay_56 : decode cX1_markArmsOfTheWay 56 = .ok (.iaload, 1) := by decide +kernel
theorem dX1_markArmsOfTheWay_57 : decode cX1_markArmsOfTheWay 57 = .ok (.iconst 1, 1) := by decide +kernel
theorem dX1_markArmsOfTheWay_58 : decode cX1_markArmsOfTheWay 58 = .ok (.iload 4, 2) := by decide +kernel
theorem dX1_markArmsOfTheWay_60 : decode cX1_markArmsOfTheWay 60 = .ok (.ishl, 1) := by decide +kernel
theorem dX1_markArmsOfTheWay_61 : decode cX1_markArmsOfTheWay 61 = .ok (.ior, 1) := by decide +kernel
theorem dX1_markArmsOfTheWay_62 : decode cX1_markArmsOfTheWay 62 = .ok (.iastore, 1) := by decide +kernel
theorem dX1_markArmsOfTheWay_63 : decode cX1_markArmsOfTheWay 63 = .ok (.iinc 2 1, 3) := by decide +kernel
theorem dX1_markArmsOfTheWay_66 : decode cX1_markArmsOfTheWay 66 = .ok (.goto (-64), 3) := by decide +kernel
theorem dX1_markArmsOfTheWay_69 : decode cX1_markArmsOfTheWay 69 = .ok (.return_, 1) := by decide +kernel
theorem dX1_neededArms_0 : decode cX1_neededArms 0 = .ok (.aload_n 0, 1) := by decide +kernel
theorem dX1_neededArms_1 : decode cX1_neededArms 1 = .ok (.getfield 15, 3) := by decide +kernel
theorem dX1_neededArms_4 : decode cX1_neededArms 4 = .ok (.iload_n 1, 1) := by decide +kernel
theorem dX1_neededArms_5 : decode cX1_neededArms 5 = .ok (.invokevirtual 68, 3) := by decide +kernel
theorem dX1_neededArms_8 : decode cX1_neededArms 8 = .ok (.ifCond .eq 12, 3) := by decide +kernel
theorem dX1_neededArms_11 : decode cX1_neededArms 11 = .ok (.aload_n 0, 1) := by decide +kernel
theorem dX1_neededArms_12 : decode cX1_neededArms 12 = .ok (.getfield 9, 3) := by decide +kernel
theorem dX1_neededArms_15 : decode cX1_neededArms 15 = .ok (.iload_n 1, 1) := by decide +kernel
theorem dX1_neededArms_16 : decode cX1_neededArms 16 = .ok (.iaload, 1) := by decide +kernel
theorem dX1_neededArms_17 : decode cX1_neededArms 17 = .ok (.goto 4, 3) := by decide +kernel
theorem dX1_neededArms_20 : decode cX1_neededArms 20 = .ok (.iconst 0, 1) := by decide +kernel
theorem dX1_neededArms_21 : decode cX1_neededArms 21 = .ok (.ireturn, 1) := by decide +kernel
theorem dX2_init_0 : decode cX2_init 0 = .ok (.aload_n 0, 1) := by decide +kernel
theorem dX2_init_1 : decode cX2_init 1 = .ok (.invokespecial 3, 3) := by decide +kernel
theorem dX2_init_4 : decode cX2_init 4 = .ok (.return_, 1) := by decide +kernel
theorem dX2_state_0 : decode cX2_state 0 = .ok (.aload_n 0, 1) := by decide +kernel
theorem dX2_state_1 : decode cX2_state 1 = .ok (.getfield 9, 3) := by decide +kernel
theorem dX2_state_4 : decode cX2_state 4 = .ok (.ireturn, 1) := by decide +kernel
theorem dX2_startFrom_0 : decode cX2_startFrom 0 = .ok (.aload_n 0, 1) := by decide +kernel
theorem dX2_startFrom_1 : decode cX2_startFrom 1 = .ok (.iload_n 1, 1) := by decide +kernel
theorem dX2_startFrom_2 : decode cX2_startFrom 2 = .ok (.putfield 9, 3) := by decide +kernel
theorem dX2_startFrom_5 : decode cX2_startFrom 5 = .ok (.return_, 1) := by decide +kernel
theorem dX2_next_0 : decode cX2_next 0 = .ok (.aload_n 0, 1) := by decide +kernel
theorem dX2_next_1 : decode cX2_next 1 = .ok (.aload_n 0, 1) := by decide +kernel
theorem dX2_next_2 : decode cX2_next 2 = .ok (.getfield 9, 3) := by decide +kernel
theorem dX2_next_5 : decode cX2_next 5 = .ok (.i2l, 1) := by decide +kernel
theorem dX2_next_6 : decode cX2_next 6 = .ok (.ldc2_w 15, 3) := by decide +kernel
theorem dX2_next_9 : decode cX2_next 9 = .ok (.lmul, 1) := by decide +kernel
theorem dX2_next_10 : decode cX2_next 10 = .ok (.ldc2_w 17, 3) := by decide +kernel
theorem dX2_next_13 : decode cX2_next 13 = .ok (.ladd, 1) := by decide +kernel
theorem dX2_next_14 : decode cX2_next 14 = .ok (.ldc2_w 19, 3) := by decide +kernel
theorem dX2_next_17 : decode cX2_next 17 = .ok (.land, 1) := by decide +kernel
theorem dX2_next_18 : decode cX2_next 18 = .ok (.l2i, 1) := by decide +kernel
theorem dX2_next_19 : decode cX2_next 19 = .ok (.putfield 9, 3) := by decide +kernel
theorem dX2_next_22 : decode cX2_next 22 = .ok (.iload_n 1, 1) := by decide +kernel
theorem dX2_next_23 : decode cX2_next 23 = .ok (.ifCond .le 15, 3) := by decide +kernel
theorem dX2_next_26 : decode cX2_next 26 = .ok (.aload_n 0, 1) := by decide +kernel
theorem dX2_next_27 : decode cX2_next 27 = .ok (.getfield 9, 3) := by decide +kernel
theorem dX2_next_30 : decode cX2_next 30 = .ok (.ldc 21, 2) := by decide +kernel
theorem dX2_next_32 : decode cX2_next 32 = .ok (.idiv, 1) := by decide +kernel
theorem dX2_next_33 : decode cX2_next 33 = .ok (.iload_n 1, 1) := by decide +kernel
theorem dX2_next_34 : decode cX2_next 34 = .ok (.irem, 1) := by decide +kernel
theorem dX2_next_35 : decode cX2_next 35 = .ok (.goto 4, 3) := by decide +kernel
theorem dX2_next_38 : decode cX2_next 38 = .ok (.iconst 0, 1) := by decide +kernel
theorem dX2_next_39 : decode cX2_next 39 = .ok (.ireturn, 1) := by decide +kernel
theorem dX3_init_0 : decode cX3_init 0 = .ok (.aload_n 0, 1) := by decide +kernel
theorem dX3_init_1 : decode cX3_init 1 = .ok (.invokespecial 1, 3) := by decide +kernel
theorem dX3_init_4 : decode cX3_init 4 = .ok (.aload_n 0, 1) := by decide +kernel
theorem dX3_init_5 : decode cX3_init 5 = .ok (.new 7, 3) := by decide +kernel
theorem dX3_init_8 : decode cX3_init 8 = .ok (.dup, 1) := by decide +kernel
theorem dX3_init_9 : decode cX3_init 9 = .ok (.aload_n 1, 1) := by decide +kernel
theorem dX3_init_10 : decode cX3_init 10 = .ok (.invokespecial 9, 3) := by decide +kernel
theorem dX3_init_13 : decode cX3_init 13 = .ok (.putfield 12, 3) := by decide +kernel
theorem dX3_init_16 : decode cX3_init 16 = .ok (.return_, 1) := by decide +kernel
theorem dX3_isKept_0 : decode cX3_isKept 0 = .ok (.aload_n 0, 1) := by decide +kernel
theorem dX3_isKept_1 : decode cX3_isKept 1 = .ok (.getfield 18, 3) := by decide +kernel
theorem dX3_isKept_4 : decode cX3_isKept 4 = .ok (.ireturn, 1) := by decide +kernel
theorem dX3_drop_0 : decode cX3_drop 0 = .ok (.aload_n 0, 1) := by decide +kernel
theorem dX3_drop_1 : decode cX3_drop 1 = .ok (.iconst 0, 1) := by decide +kernel
theorem dX3_drop_2 : decode cX3_drop 2 = .ok (.putfield 18, 3) := by decide +kernel
theorem dX3_drop_5 : decode cX3_drop 5 = .ok (.return_, 1) := by decide +kernel
theorem dX3_take_0 : decode cX3_take 0 = .ok (.aload_n 0, 1) := by decide +kernel
theorem dX3_take_1 : decode cX3_take 1 = .ok (.getfield 12, 3) := by decide +kernel
theorem dX3_take_4 : decode cX3_take 4 = .ok (.aload_n 1, 1) := by decide +kernel
theorem dX3_take_5 : decode cX3_take 5 = .ok (.invokevirtual 22, 3) := by decide +kernel
theorem dX3_take_8 : decode cX3_take 8 = .ok (.aload_n 0, 1) := by decide +kernel
theorem dX3_take_9 : decode cX3_take 9 = .ok (.aload_n 2, 1) := by decide +kernel
theorem dX3_take_10 : decode cX3_take 10 = .ok (.invokevirtual 26, 3) := by decide +kernel
theorem dX3_take_13 : decode cX3_take 13 = .ok (.putfield 32, 3) := by decide +kernel
theorem dX3_take_16 : decode cX3_take 16 = .ok (.aload_n 0, 1) := by decide +kernel
theorem dX3_take_17 : decode cX3_take 17 = .ok (.iconst 1, 1) := by decide +kernel
theorem dX3_take_18 : decode cX3_take 18 = .ok (.putfield 18, 3) := by decide +kernel
theorem dX3_take_21 : decode cX3_take 21 = .ok (.return_, 1) := by decide +kernel
theorem dX3_giveBack_0 : decode cX3_giveBack 0 = .ok (.aload_n 1, 1) := by decide +kernel
theorem dX3_giveBack_1 : decode cX3_giveBack 1 = .ok (.aload_n 0, 1) := by decide +kernel
theorem dX3_giveBack_2 : decode cX3_giveBack 2 = .ok (.getfield 12, 3) := by decide +kernel
theorem dX3_giveBack_5 : decode cX3_giveBack 5 = .ok (.invokevirtual 22, 3) := by decide +kernel
theorem dX3_giveBack_8 : decode cX3_giveBack 8 = .ok (.aload_n 2, 1) := by decide +kernel
theorem dX3_giveBack_9 : decode cX3_giveBack 9 = .ok (.aload_n 0, 1) := by decide +kernel
theorem dX3_giveBack_10 : decode cX3_giveBack 10 = .ok (.getfield 32, 3) := by decide +kernel
theorem dX3_giveBack_13 : decode cX3_giveBack 13 = .ok (.invokevirtual 36, 3) := by decide +kernel
theorem dX3_giveBack_16 : decode cX3_giveBack 16 = .ok (.return_, 1) := by decide +kernel
theorem dX4_init_0 : decode cX4_init 0 = .ok (.aload_n 0, 1) := by decide +kernel
theorem dX4_init_1 : decode cX4_init 1 = .ok (.invokespecial 3, 3) := by decide +kernel
theorem dX4_init_4 : decode cX4_init 4 = .ok (.aload_n 0, 1) := by decide +kernel
theorem dX4_init_5 : decode cX4_init 5 = .ok (.bipush 14, 2) := by decide +kernel
theorem dX4_init_7 : decode cX4_init 7 = .ok (.newarray .int, 2) := by decide +kernel
theorem dX4_init_9 : decode cX4_init 9 = .ok (.putfield 9, 3) := by decide +kernel
theorem dX4_init_12 : decode cX4_init 12 = .ok (.aload_n 0, 1) := by decide +kernel
theorem dX4_init_13 : decode cX4_init 13 = .ok (.bipush 14, 2) := by decide +kernel
theorem dX4_init_15 : decode cX4_init 15 = .ok (.newarray .int, 2) := by decide +kernel
theorem dX4_init_17 : decode cX4_init 17 = .ok (.putfield 15, 3) := by decide +kernel
theorem dX4_init_20 : decode cX4_init 20 = .ok (.aload_n 0, 1) := by decide +kernel
theorem dX4_init_21 : decode cX4_init 21 = .ok (.bipush 14, 2) := by decide +kernel
theorem dX4_init_23 : decode cX4_init 23 = .ok (.newarray .int, 2) := by decide +kernel
theorem dX4_init_25 : decode cX4_init 25 = .ok (.putfield 18, 3) := by decide +kernel
theorem dX4_init_28 : decode cX4_init 28 = .ok (.aload_n 0, 1) := by decide +kernel
theorem dX4_init_29 : decode cX4_init 29 = .ok (.bipush 20, 2) := by decide +kernel
theorem dX4_init_31 : decode cX4_init 31 = .ok (.newarray .int, 2) := by decide +kernel
theorem dX4_init_33 : decode cX4_init 33 = .ok (.putfield 21, 3) := by decide +kernel
theorem dX4_init_36 : decode cX4_init 36 = .ok (.aload_n 0, 1) := by decide +kernel
theorem dX4_init_37 : decode cX4_init 37 = .ok (.bipush 20, 2) := by decide +kernel
theorem dX4_init_39 : decode cX4_init 39 = .ok (.newarray .int, 2) := by decide +kernel
theorem dX4_init_41 : decode cX4_init 41 = .ok (.putfield 24, 3) := by decide +kernel
theorem dX4_init_44 : decode cX4_init 44 = .ok (.aload_n 0, 1) := by decide +kernel
theorem dX4_init_45 : decode cX4_init 45 = .ok (.bipush 20, 2) := by decide +kernel
theorem dX4_init_47 : decode cX4_init 47 = .ok (.newarray .int, 2) := by decide +kernel
theorem dX4_init_49 : decode cX4_init 49 = .ok (.putfield 27, 3) := by decide +kernel
theorem dX4_init_52 : decode cX4_init 52 = .ok (.aload_n 0, 1) := by decide +kernel
theorem dX4_init_53 : decode cX4_init 53 = .ok (.bipush 9, 2) := by decide +kernel
theorem dX4_init_55 : decode cX4_init 55 = .ok (.newarray .int, 2) := by decide +kernel
theorem dX4_init_57 : decode cX4_init 57 = .ok (.putfield 30, 3) := by decide +kernel
theorem dX4_init_60 : decode cX4_init 60 = .ok (.aload_n 0, 1) := by decide +kernel
theorem dX4_init_61 : decode cX4_init 61 = .ok (.bipush 45, 2) := by decide +kernel
theorem dX4_init_63 : decode cX4_init 63 = .ok (.newarray .int, 2) := by decide +kernel
theorem dX4_init_65 : decode cX4_init 65 = .ok (.putfield 33, 3) := by decide +kernel
theorem dX4_init_68 : decode cX4_init 68 = .ok (.aload_n 0, 1) := by decide +kernel
theorem dX4_init_69 : decode cX4_init 69 = .ok (.bipush 81, 2) := by decide +kernel
theorem dX4_init_71 : decode cX4_init 71 = .ok (.newarray .int, 2) := by decide +kernel
theorem dX4_init_73 : decode cX4_init 73 = .ok (.putfield 36, 3) := by decide +kernel
theorem dX4_init_76 : decode cX4_init 76 = .ok (.aload_n 0, 1) := by decide +kernel
theorem dX4_init_77 : decode cX4_init 77 = .ok (.bipush 81, 2) := by decide +kernel
theorem dX4_init_79 : decode cX4_init 79 = .ok (.newarray .int, 2) := by decide +kernel
theorem dX4_init_81 : decode cX4_init 81 = .ok (.putfield 39, 3) := by decide +kernel
theorem dX4_init_84 : decode cX4_init 84 = .ok (.return_, 1) := by decide +kernel
theorem dX4_clear_0 : decode cX4_clear 0 = .ok (.aload_n 0, 1) := by decide +kernel
theorem dX4_clear_1 : decode cX4_clear 1 = .ok (.iconst 0, 1) := by decide +kernel
theorem dX4_clear_2 : decode cX4_clear 2 = .ok (.putfield 42, 3) := by decide +kernel
theorem dX4_clear_5 : decode cX4_clear 5 = .ok (.aload_n 0, 1) := by decide +kernel
theorem dX4_clear_6 : decode cX4_clear 6 = .ok (.iconst 0, 1) := by decide +kernel
theorem dX4_clear_7 : decode cX4_clear 7 = .ok (.putfield 46, 3) := by decide +kernel
theorem dX4_clear_10 : decode cX4_clear 10 = .ok (.aload_n 0, 1) := by decide +kernel
theorem dX4_clear_11 : decode cX4_clear 11 = .ok (.iconst 0, 1) := by decide +kernel
theorem dX4_clear_12 : decode cX4_clear 12 = .ok (.putfield 49, 3) := by decide +kernel
theorem dX4_clear_15 : decode cX4_clear 15 = .ok (.iconst 0, 1) := by decide +kernel
theorem dX4_clear_16 : decode cX4_clear 16 = .ok (.istore_n 1, 1) := by decide +kernel
theorem dX4_clear_17 : decode cX4_clear 17 = .ok (.iload_n 1, 1) := by decide +kernel
theorem dX4_clear_18 : decode cX4_clear 18 = .ok (.bipush 9, 2) := by decide +kernel
theorem dX4_clear_20 : decode cX4_clear 20 = .ok (.if_icmp .ge 16, 3) := by decide +kernel
theorem dX4_clear_23 : decode cX4_clear 23 = .ok (.aload_n 0, 1) := by decide +kernel
theorem dX4_clear_24 : decode cX4_clear 24 = .ok (.getfield 30, 3) := by decide +kernel
theorem dX4_clear_27 : decode cX4_clear 27 = .ok (.iload_n 1, 1) := by decide +kernel
theorem dX4_clear_28 : decode cX4_clear 28 = .ok (.iconst 0, 1) := by decide +kernel
theorem dX4_clear_29 : decode cX4_clear 29 = .ok (.iastore, 1) := by decide +kernel
theorem dX4_clear_30 : decode cX4_clear 30 = .ok (.iinc 1 1, 3) := by decide +kernel
theorem dX4_clear_33 : decode cX4_clear 33 = .ok (.goto (-16), 3) := by decide +kernel
theorem dX4_clear_36 : decode cX4_clear 36 = .ok (.return_, 1) := by decide +kernel
theorem dX4_become_0 : decode cX4_become 0 = .ok (.aload_n 0, 1) := by decide +kernel
theorem dX4_become_1 : decode cX4_become 1 = .ok (.aload_n 1, 1) := by decide +kernel
theorem dX4_become_2 : decode cX4_become 2 = .ok (.getfield 42, 3) := by decide +kernel
theorem dX4_become_5 : decode cX4_become 5 = .ok (.putfield 42, 3) := by decide +kernel
theorem dX4_become_8 : decode cX4_become 8 = .ok (.aload_n 0, 1) := by decide +kernel
theorem dX4_become_9 : decode cX4_become 9 = .ok (.aload_n 1, 1) := by decide +kernel
theorem dX4_become_10 : decode cX4_become 10 = .ok (.getfield 46, 3) := by decide +kernel
theorem dX4_become_13 : decode cX4_become 13 = .ok (.putfield 46, 3) := by decide +kernel
theorem dX4_become_16 : decode cX4_become 16 = .ok (.aload_n 0, 1) := by decide +kernel
theorem dX4_become_17 : decode cX4_become 17 = .ok (.aload_n 1, 1) := by decide +kernel
theorem dX4_become_18 : decode cX4_become 18 = .ok (.getfield 49, 3) := by decide +kernel
theorem dX4_become_21 : decode cX4_become 21 = .ok (.putfield 49, 3) := by decide +kernel
theorem dX4_become_24 : decode cX4_become 24 = .ok (.aload_n 1, 1) := by decide +kernel
theorem dX4_become_25 : decode cX4_become 25 = .ok (.getfield 9, 3) := by decide +kernel
theorem dX4_become_28 : decode cX4_become 28 = .ok (.iconst 0, 1) := by decide +kernel
theorem dX4_become_29 : decode cX4_become 29 = .ok (.aload_n 0, 1) := by decide +kernel
theorem dX4_become_30 : decode cX4_become 30 = .ok (.getfield 9, 3) := by decide +kernel
theorem dX4_become_33 : decode cX4_become 33 = .ok (.iconst 0, 1) := by decide +kernel
theorem dX4_become_34 : decode cX4_become 34 = .ok (.bipush 14, 2) := by decide +kernel
theorem dX4_become_36 : decode cX4_become 36 = .ok (.invokestatic 52, 3) := by decide +kernel
theorem dX4_become_39 : decode cX4_become 39 = .ok (.aload_n 1, 1) := by decide +kernel
theorem dX4_become_40 : decode cX4_become 40 = .ok (.getfield 15, 3) := by decide +kernel
theorem dX4_become_43 : decode cX4_become 43 = .ok (.iconst 0, 1) := by decide +kernel
theorem dX4_become_44 : decode cX4_become 44 = .ok (.aload_n 0, 1) := by decide +kernel
theorem dX4_become_45 : decode cX4_become 45 = .ok (.getfield 15, 3) := by decide +kernel
theorem dX4_become_48 : decode cX4_become 48 = .ok (.iconst 0, 1) := by decide +kernel
theorem dX4_become_49 : decode cX4_become 49 = .ok (.bipush 14, 2) := by decide +kernel
theorem dX4_become_51 : decode cX4_become 51 = .ok (.invokestatic 52, 3) := by decide +kernel
theorem dX4_become_54 : decode cX4_become 54 = .ok (.aload_n 1, 1) := by decide +kernel
theorem dX4_become_55 : decode cX4_become 55 = .ok (.getfield 18, 3) := by decide +kernel
theorem dX4_become_58 : decode cX4_become 58 = .ok (.iconst 0, 1) := by decide +kernel
theorem dX4_become_59 : decode cX4_become 59 = .ok (.aload_n 0, 1) := by decide +kernel
theorem dX4_become_60 : decode cX4_become 60 = .ok (.getfield 18, 3) := by decide +kernel
theorem dX4_become_63 : decode cX4_become 63 = .ok (.iconst 0, 1) := by decide +kernel
theorem dX4_become_64 : decode cX4_become 64 = .ok (.bipush 14, 2) := by decide +kernel
theorem dX4_become_66 : decode cX4_become 66 = .ok (.invokestatic 52, 3) := by decide +kernel
theorem dX4_become_69 : decode cX4_become 69 = .ok (.aload_n 1, 1) := by decide +kernel
theorem dX4_become_70 : decode cX4_become 70 = .ok (.getfield 21, 3) := by decide +kernel
theorem dX4_become_73 : decode cX4_become 73 = .ok (.iconst 0, 1) := by decide +kernel
theorem dX4_become_74 : decode cX4_become 74 = .ok (.aload_n 0, 1) := by decide +kernel
theorem dX4_become_75 : decode cX4_become 75 = .ok (.getfield 21, 3) := by decide +kernel
theorem dX4_become_78 : decode cX4_become 78 = .ok (.iconst 0, 1) := by decide +kernel
theorem dX4_become_79 : decode cX4_become 79 = .ok (.bipush 20, 2) := by decide +kernel
theorem dX4_become_81 : decode cX4_become 81 = .ok (.invokestatic 52, 3) := by decide +kernel
theorem dX4_become_84 : decode cX4_become 84 = .ok (.aload_n 1, 1) := by decide +kernel
theorem dX4_become_85 : decode cX4_become 85 = .ok (.getfield 24, 3) := by decide +kernel
theorem dX4_become_88 : decode cX4_become 88 = .ok (.iconst 0, 1) := by decide +kernel
theorem dX4_become_89 : decode cX4_become 89 = .ok (.aload_n 0, 1) := by decide +kernel
theorem dX4_become_90 : decode cX4_become 90 = .ok (.getfield 24, 3) := by decide +kernel
theorem dX4_become_93 : decode cX4_become 93 = .ok (.iconst 0, 1) := by decide +kernel
theorem dX4_become_94 : decode cX4_become 94 = .ok (.bipush 20, 2) := by decide +kernel
theorem dX4_become_96 : decode cX4_become 96 = .ok (.invokestatic 52, 3) := by decide +kernel
theorem dX4_become_99 : decode cX4_become 99 = .ok (.aload_n 1, 1) := by decide +kernel
theorem dX4_become_100 : decode cX4_become 100 = .ok (.getfield 27, 3) := by decide +kernel
theorem dX4_become_103 : decode cX4_become 103 = .ok (.iconst 0, 1) := by decide +kernel
theorem dX4_become_104 : decode cX4_become 104 = .ok (.aload_n 0, 1) := by decide +kernel
theorem dX4_become_105 : decode cX4_become 105 = .ok (.getfield 27, 3) := by decide +kernel
theorem dX4_become_108 : decode cX4_become 108 = .ok (.iconst 0, 1) := by decide +kernel
theorem dX4_become_109 : decode cX4_become 109 = .ok (.bipush 20, 2) := by decide +kernel
theorem dX4_become_111 : decode cX4_become 111 = .ok (.invokestatic 52, 3) := by decide +kernel
theorem dX4_become_114 : decode cX4_become 114 = .ok (.aload_n 1, 1) := by decide +kernel
theorem dX4_become_115 : decode cX4_become 115 = .ok (.getfield 30, 3) := by decide +kernel
theorem dX4_become_118 : decode cX4_become 118 = .ok (.iconst 0, 1) := by decide +kernel
theorem dX4_become_119 : decode cX4_become 119 = .ok (.aload_n 0, 1) := by decide +kernel
theorem dX4_become_120 : decode cX4_become 120 = .ok (.getfield 30, 3) := by decide +kernel
theorem dX4_become_123 : decode cX4_become 123 = .ok (.iconst 0, 1) := by decide +kernel
theorem dX4_become_124 : decode cX4_become 124 = .ok (.bipush 9, 2) := by decide +kernel
theorem dX4_become_126 : decode cX4_become 126 = .ok (.invokestatic 52, 3) := by decide +kernel
theorem dX4_become_129 : decode cX4_become 129 = .ok (.aload_n 1, 1) := by decide +kernel
theorem dX4_become_130 : decode cX4_become 130 = .ok (.getfield 33, 3) := by decide +kernel
theorem dX4_become_133 : decode cX4_become 133 = .ok (.iconst 0, 1) := by decide +kernel
theorem dX4_become_134 : decode cX4_become 134 = .ok (.aload_n 0, 1) := by decide +kernel
theorem dX4_become_135 : decode cX4_become 135 = .ok (.getfield 33, 3) := by decide +kernel
theorem dX4_become_138 : decode cX4_become 138 = .ok (.iconst 0, 1) := by decide +kernel
theorem dX4_become_139 : decode cX4_become 139 = .ok (.bipush 45, 2) := by decide +kernel
theorem dX4_become_141 : decode cX4_become 141 = .ok (.invokestatic 52, 3) := by decide +kernel
theorem dX4_become_144 : decode cX4_become 144 = .ok (.aload_n 1, 1) := by decide +kernel
theorem dX4_become_145 : decode cX4_become 145 = .ok (.getfield 36, 3) := by decide +kernel
theorem dX4_become_148 : decode cX4_become 148 = .ok (.iconst 0, 1) := by decide +kernel
theorem dX4_become_149 : decode cX4_become 149 = .ok (.aload_n 0, 1) := by decide +kernel
theorem dX4_become_150 : decode cX4_become 150 = .ok (.getfield 36, 3) := by decide +kernel
theorem dX4_become_153 : decode cX4_become 153 = .ok (.iconst 0, 1) := by decide +kernel
theorem dX4_become_154 : decode cX4_become 154 = .ok (.bipush 81, 2) := by decide +kernel
theorem dX4_become_156 : decode cX4_become 156 = .ok (.invokestatic 52, 3) := by decide +kernel
theorem dX4_become_159 : decode cX4_become 159 = .ok (.aload_n 1, 1) := by decide +kernel
theorem dX4_become_160 : decode cX4_become 160 = .ok (.getfield 39, 3) := by decide +kernel
theorem dX4_become_163 : decode cX4_become 163 = .ok (.iconst 0, 1) := by decide +kernel
theorem dX4_become_164 : decode cX4_become 164 = .ok (.aload_n 0, 1) := by decide +kernel
theorem dX4_become_165 : decode cX4_become 165 = .ok (.getfield 39, 3) := by decide +kernel
theorem dX4_become_168 : decode cX4_become 168 = .ok (.iconst 0, 1) := by decide +kernel
theorem dX4_become_169 : decode cX4_become 169 = .ok (.bipush 81, 2) := by decide +kernel
theorem dX4_become_171 : decode cX4_become 171 = .ok (.invokestatic 52, 3) := by decide +kernel
theorem dX4_become_174 : decode cX4_become 174 = .ok (.return_, 1) := by decide +kernel
theorem dX4_places_0 : decode cX4_places 0 = .ok (.aload_n 0, 1) := by decide +kernel
theorem dX4_places_1 : decode cX4_places 1 = .ok (.getfield 42, 3) := by decide +kernel
theorem dX4_places_4 : decode cX4_places 4 = .ok (.ireturn, 1) := by decide +kernel
theorem dX4_roads_0 : decode cX4_roads 0 = .ok (.aload_n 0, 1) := by decide +kernel
theorem dX4_roads_1 : decode cX4_roads 1 = .ok (.getfield 46, 3) := by decide +kernel
theorem dX4_roads_4 : decode cX4_roads 4 = .ok (.ireturn, 1) := by decide +kernel
theorem dX4_travels_0 : decode cX4_travels 0 = .ok (.aload_n 0, 1) := by decide +kernel
theorem dX4_travels_1 : decode cX4_travels 1 = .ok (.getfield 49, 3) := by decide +kernel
theorem dX4_travels_4 : decode cX4_travels 4 = .ok (.ireturn, 1) := by decide +kernel
theorem dX4_hasPlace_0 : decode cX4_hasPlace 0 = .ok (.iload_n 1, 1) := by decide +kernel
theorem dX4_hasPlace_1 : decode cX4_hasPlace 1 = .ok (.ifCond .lt 21, 3) := by decide +kernel
theorem dX4_hasPlace_4 : decode cX4_hasPlace 4 = .ok (.iload_n 1, 1) := by decide +kernel
theorem dX4_hasPlace_5 : decode cX4_hasPlace 5 = .ok (.aload_n 0, 1) := by decide +kernel
theorem dX4_hasPlace_6 : decode cX4_hasPlace 6 = .ok (.getfield 42, 3) := by decide +kernel
theorem dX4_hasPlace_9 : decode cX4_hasPlace 9 = .ok (.if_icmp .ge 13, 3) := by decide +kernel
theorem dX4_hasPlace_12 : decode cX4_hasPlace 12 = .ok (.iload_n 1, 1) := by decide +kernel
theorem dX4_hasPlace_13 : decode cX4_hasPlace 13 = .ok (.bipush 9, 2) := by decide +kernel
theorem dX4_hasPlace_15 : decode cX4_hasPlace 15 = .ok (.if_icmp .ge 7, 3) := by decide +kernel
theorem dX4_hasPlace_18 : decode cX4_hasPlace 18 = .ok (.iconst 1, 1) := by decide +kernel
theorem dX4_hasPlace_19 : decode cX4_hasPlace 19 = .ok (.goto 4, 3) := by decide +kernel
theorem dX4_hasPlace_22 : decode cX4_hasPlace 22 = .ok (.iconst 0, 1) := by decide +kernel
theorem dX4_hasPlace_23 : decode cX4_hasPlace 23 = .ok (.ireturn, 1) := by decide +kernel
theorem dX4_hasAllPlaces_0 : decode cX4_hasAllPlaces 0 = .ok (.iload_n 1, 1) := by decide +kernel
theorem dX4_hasAllPlaces_1 : decode cX4_hasAllPlaces 1 = .ok (.ifCond .lt 16, 3) := by decide +kernel
theorem dX4_hasAllPlaces_4 : decode cX4_hasAllPlaces 4 = .ok (.iload_n 1, 1) := by decide +kernel
theorem dX4_hasAllPlaces_5 : decode cX4_hasAllPlaces 5 = .ok (.aload_n 0, 1) := by decide +kernel
theorem dX4_hasAllPlaces_6 : decode cX4_hasAllPlaces 6 = .ok (.getfield 42, 3) := by decide +kernel
theorem dX4_hasAllPlaces_9 : decode cX4_hasAllPlaces 9 = .ok (.ishr, 1) := by decide +kernel
theorem dX4_hasAllPlaces_10 : decode cX4_hasAllPlaces 10 = .ok (.ifCond .ne 7, 3) := by decide +kernel
theorem dX4_hasAllPlaces_13 : decode cX4_hasAllPlaces 13 = .ok (.iconst 1, 1) := by decide +kernel
theorem dX4_hasAllPlaces_14 : decode cX4_hasAllPlaces 14 = .ok (.goto 4, 3) := by decide +kernel
theorem dX4_hasAllPlaces_17 : decode cX4_hasAllPlaces 17 = .ok (.iconst 0, 1) := by decide +kernel
theorem dX4_hasAllPlaces_18 : decode cX4_hasAllPlaces 18 = .ok (.ireturn, 1) := by decide +kernel
theorem dX4_hasRoad_0 : decode cX4_hasRoad 0 = .ok (.iload_n 1, 1) := by decide +kernel
theorem dX4_hasRoad_1 : decode cX4_hasRoad 1 = .ok (.ifCond .lt 21, 3) := by decide +kernel
theorem dX4_hasRoad_4 : decode cX4_hasRoad 4 = .ok (.iload_n 1, 1) := by decide +kernel
theorem dX4_hasRoad_5 : decode cX4_hasRoad 5 = .ok (.aload_n 0, 1) := by decide +kernel
theorem dX4_hasRoad_6 : decode cX4_hasRoad 6 = .ok (.getfield 46, 3) := by decide +kernel
theorem dX4_hasRoad_9 : decode cX4_hasRoad 9 = .ok (.if_icmp .ge 13, 3) := by decide +kernel
theorem dX4_hasRoad_12 : decode cX4_hasRoad 12 = .ok (.iload_n 1, 1) := by decide +kernel
theorem dX4_hasRoad_13 : decode cX4_hasRoad 13 = .ok (.bipush 14, 2) := by decide +kernel
theorem dX4_hasRoad_15 : decode cX4_hasRoad 15 = .ok (.if_icmp .ge 7, 3) := by decide +kernel
theorem dX4_hasRoad_18 : decode cX4_hasRoad 18 = .ok (.iconst 1, 1) := by decide +kernel
theorem dX4_hasRoad_19 : decode cX4_hasRoad 19 = .ok (.goto 4, 3) := by decide +kernel
theorem dX4_hasRoad_22 : decode cX4_hasRoad 22 = .ok (.iconst 0, 1) := by decide +kernel
theorem dX4_hasRoad_23 : decode cX4_hasRoad 23 = .ok (.ireturn, 1) := by decide +kernel
theorem dX4_hasTravel_0 : decode cX4_hasTravel 0 = .ok (.iload_n 1, 1) := by decide +kernel
theorem dX4_hasTravel_1 : decode cX4_hasTravel 1 = .ok (.ifCond .lt 21, 3) := by decide +kernel
theorem dX4_hasTravel_4 : decode cX4_hasTravel 4 = .ok (.iload_n 1, 1) := by decide +kernel
theorem dX4_hasTravel_5 : decode cX4_hasTravel 5 = .ok (.aload_n 0, 1) := by decide +kernel
theorem dX4_hasTravel_6 : decode cX4_hasTravel 6 = .ok (.getfield 49, 3) := by decide +kernel
theorem dX4_hasTravel_9 : decode cX4_hasTravel 9 = .ok (.if_icmp .ge 13, 3) := by decide +kernel
theorem dX4_hasTravel_12 : decode cX4_hasTravel 12 = .ok (.iload_n 1, 1) := by decide +kernel
theorem dX4_hasTravel_13 : decode cX4_hasTravel 13 = .ok (.bipush 20, 2) := by decide +kernel
theorem dX4_hasTravel_15 : decode cX4_hasTravel 15 = .ok (.if_icmp .ge 7, 3) := by decide +kernel
theorem dX4_hasTravel_18 : decode cX4_hasTravel 18 = .ok (.iconst 1, 1) := by decide +kernel
theorem dX4_hasTravel_19 : decode cX4_hasTravel 19 = .ok (.goto 4, 3) := by decide +kernel
theorem dX4_hasTravel_22 : decode cX4_hasTravel 22 = .ok (.iconst 0, 1) := by decide +kernel
theorem dX4_hasTravel_23 : decode cX4_hasTravel 23 = .ok (.ireturn, 1) := by decide +kernel
theorem dX4_hasSide_0 : decode cX4_hasSide 0 = .ok (.aload_n 0, 1) := by decide +kernel
theorem dX4_hasSide_1 : decode cX4_hasSide 1 = .ok (.iload_n 1, 1) := by decide +kernel
theorem dX4_hasSide_2 : decode cX4_hasSide 2 = .ok (.invokevirtual 58, 3) := by decide +kernel
theorem dX4_hasSide_5 : decode cX4_hasSide 5 = .ok (.ifCond .eq 26, 3) := by decide +kernel
theorem dX4_hasSide_8 : decode cX4_hasSide 8 = .ok (.iload_n 2, 1) := by decide +kernel
theorem dX4_hasSide_9 : decode cX4_hasSide 9 = .ok (.ifCond .lt 22, 3) := by decide +kernel
theorem dX4_hasSide_12 : decode cX4_hasSide 12 = .ok (.iload_n 2, 1) := by decide +kernel
theorem dX4_hasSide_13 : decode cX4_hasSide 13 = .ok (.aload_n 0, 1) := by decide +kernel
theorem dX4_hasSide_14 : decode cX4_hasSide 14 = .ok (.getfield 30, 3) := by decide +kernel
theorem dX4_hasSide_17 : decode cX4_hasSide 17 = .ok (.iload_n 1, 1) := by decide +kernel
theorem dX4_hasSide_18 : decode cX4_hasSide 18 = .ok (.iaload, 1) := by decide +kernel
theorem dX4_hasSide_19 : decode cX4_hasSide 19 = .ok (.if_icmp .ge 12, 3) := by decide +kernel
theorem dX4_hasSide_22 : decode cX4_hasSide 22 = .ok (.iload_n 2, 1) := by decide +kernel
theorem dX4_hasSide_23 : decode cX4_hasSide 23 = .ok (.iconst 5, 1) := by decide +kernel
theorem dX4_hasSide_24 : decode cX4_hasSide 24 = .ok (.if_icmp .ge 7, 3) := by decide +kernel
theorem dX4_hasSide_27 : decode cX4_hasSide 27 = .ok (.iconst 1, 1) := by decide +kernel
theorem dX4_hasSide_28 : decode cX4_hasSide 28 = .ok (.goto 4, 3) := by decide +kernel
theorem dX4_hasSide_31 : decode cX4_hasSide 31 = .ok (.iconst 0, 1) := by decide +kernel
theorem dX4_hasSide_32 : decode cX4_hasSide 32 = .ok (.ireturn, 1) := by decide +kernel
theorem dX4_sidesOf_0 : decode cX4_sidesOf 0 = .ok (.aload_n 0, 1) := by decide +kernel
theorem dX4_sidesOf_1 : decode cX4_sidesOf 1 = .ok (.iload_n 1, 1) := by decide +kernel
theorem dX4_sidesOf_2 : decode cX4_sidesOf 2 = .ok (.invokevirtual 58, 3) := by decide +kernel
theorem dX4_sidesOf_5 : decode cX4_sidesOf 5 = .ok (.ifCond .eq 12, 3) := by decide +kernel
theorem dX4_sidesOf_8 : decode cX4_sidesOf 8 = .ok (.aload_n 0, 1) := by decide +kernel
theorem dX4_sidesOf_9 : decode cX4_sidesOf 9 = .ok (.getfield 30, 3) := by decide +kernel
theorem dX4_sidesOf_12 : decode cX4_sidesOf 12 = .ok (.iload_n 1, 1) := by decide +kernel
theorem dX4_sidesOf_13 : decode cX4_sidesOf 13 = .ok (.iaload, 1) := by decide +kernel
theorem dX4_sidesOf_14 : decode cX4_sidesOf 14 = .ok (.goto 4, 3) := by decide +kernel
theorem dX4_sidesOf_17 : decode cX4_sidesOf 17 = .ok (.iconst 0, 1) := by decide +kernel
theorem dX4_sidesOf_18 : decode cX4_sidesOf 18 = .ok (.ireturn, 1) := by decide +kernel
theorem dX4_roadStart_0 : decode cX4_roadStart 0 = .ok (.aload_n 0, 1) := by decide +kernel
theorem dX4_roadStart_1 : decode cX4_roadStart 1 = .ok (.iload_n 1, 1) := by decide +kernel
theorem dX4_roadStart_2 : decode cX4_roadStart 2 = .ok (.invokevirtual 62, 3) := by decide +kernel
theorem dX4_roadStart_5 : decode cX4_roadStart 5 = .ok (.ifCond .eq 12, 3) := by decide +kernel
theorem dX4_roadStart_8 : decode cX4_roadStart 8 = .ok (.aload_n 0, 1) := by decide +kernel
theorem dX4_roadStart_9 : decode cX4_roadStart 9 = .ok (.getfield 9, 3) := by decide +kernel
theorem dX4_roadStart_12 : decode cX4_roadStart 12 = .ok (.iload_n 1, 1) := by decide +kernel
theorem dX4_roadStart_13 : decode cX4_roadStart 13 = .ok (.iaload, 1) := by decide +kernel
theorem dX4_roadStart_14 : decode cX4_roadStart 14 = .ok (.goto 4, 3) := by decide +kernel
theorem dX4_roadStart_17 : decode cX4_roadStart 17 = .ok (.iconst (-1), 1) := by decide +kernel
theorem dX4_roadStart_18 : decode cX4_roadStart 18 = .ok (.ireturn, 1) := by decide +kernel
theorem dX4_roadEnd_0 : decode cX4_roadEnd 0 = .ok (.aload_n 0, 1) := by decide +kernel
theorem dX4_roadEnd_1 : decode cX4_roadEnd 1 = .ok (.iload_n 1, 1) := by decide +kernel
theorem dX4_roadEnd_2 : decode cX4_roadEnd 2 = .ok (.invokevirtual 62, 3) := by decide +kernel
theorem dX4_roadEnd_5 : decode cX4_roadEnd 5 = .ok (.ifCond .eq 12, 3) := by decide +kernel
theorem dX4_roadEnd_8 : decode cX4_roadEnd 8 = .ok (.aload_n 0, 1) := by decide +kernel
theorem dX4_roadEnd_9 : decode cX4_roadEnd 9 = .ok (.getfield 15, 3) := by decide +kernel
theorem dX4_roadEnd_12 : decode cX4_roadEnd 12 = .ok (.iload_n 1, 1) := by decide +kernel
theorem dX4_roadEnd_13 : decode cX4_roadEnd 13 = .ok (.iaload, 1) := by decide +kernel
theorem dX4_roadEnd_14 : decode cX4_roadEnd 14 = .ok (.goto 4, 3) := by decide +kernel
theorem dX4_roadEnd_17 : decode cX4_roadEnd 17 = .ok (.iconst (-1), 1) := by decide +kernel
theorem dX4_roadEnd_18 : decode cX4_roadEnd 18 = .ok (.ireturn, 1) := by decide +kernel
theorem dX4_roadMiles_0 : decode cX4_roadMiles 0 = .ok (.aload_n 0, 1) := by decide +kernel
theorem dX4_roadMiles_1 : decode cX4_roadMiles 1 = .ok (.iload_n 1, 1) := by decide +kernel
theorem dX4_roadMiles_2 : decode cX4_roadMiles 2 = .ok (.invokevirtual 62, 3) := by decide +kernel
theorem dX4_roadMiles_5 : decode cX4_roadMiles 5 = .ok (.ifCond .eq 12, 3) := by decide +kernel
theorem dX4_roadMiles_8 : decode cX4_roadMiles 8 = .ok (.aload_n 0, 1) := by decide +kernel
theorem dX4_roadMiles_9 : decode cX4_roadMiles 9 = .ok (.getfield 18, 3) := by decide +kernel
theorem dX4_roadMiles_12 : decode cX4_roadMiles 12 = .ok (.iload_n 1, 1) := by decide +kernel
theorem dX4_roadMiles_13 : decode cX4_roadMiles 13 = .ok (.iaload, 1) := by decide +kernel
theorem dX4_roadMiles_14 : decode cX4_roadMiles 14 = .ok (.goto 4, 3) := by decide +kernel
theorem dX4_roadMiles_17 : decode cX4_roadMiles 17 = .ok (.iconst 0, 1) := by decide +kernel
theorem dX4_roadMiles_18 : decode cX4_roadMiles 18 = .ok (.ireturn, 1) := by decide +kernel
theorem dX4_travelFrom_0 : decode cX4_travelFrom 0 = .ok (.aload_n 0, 1) := by decide +kernel
theorem dX4_travelFrom_1 : decode cX4_travelFrom 1 = .ok (.iload_n 1, 1) := by decide +kernel
theorem dX4_travelFrom_2 : decode cX4_travelFrom 2 = .ok (.invokevirtual 65, 3) := by decide +kernel
theorem dX4_travelFrom_5 : decode cX4_travelFrom 5 = .ok (.ifCond .eq 12, 3) := by decide +kernel
theorem dX4_travelFrom_8 : decode cX4_travelFrom 8 = .ok (.aload_n 0, 1) := by decide +kernel
theorem dX4_travelFrom_9 : decode cX4_travelFrom 9 = .ok (.getfield 21, 3) := by decide +kernel
theorem dX4_travelFrom_12 : decode cX4_travelFrom 12 = .ok (.iload_n 1, 1) := by decide +kernel
theorem dX4_travelFrom_13 : decode cX4_travelFrom 13 = .ok (.iaload, 1) := by decide +kernel
theorem dX4_travelFrom_14 : decode cX4_travelFrom 14 = .ok (.goto 4, 3) := by decide +kernel
theorem dX4_travelFrom_17 : decode cX4_travelFrom 17 = .ok (.iconst (-1), 1) := by decide +kernel
theorem dX4_travelFrom_18 : decode cX4_travelFrom 18 = .ok (.ireturn, 1) := by decide +kernel
theorem dX4_travelTo_0 : decode cX4_travelTo 0 = .ok (.aload_n 0, 1) := by decide +kernel
theorem dX4_travelTo_1 : decode cX4_travelTo 1 = .ok (.iload_n 1, 1) := by decide +kernel
theorem dX4_travelTo_2 : decode cX4_travelTo 2 = .ok (.invokevirtual 65, 3) := by decide +kernel
theorem dX4_travelTo_5 : decode cX4_travelTo 5 = .ok (.ifCond .eq 12, 3) := by decide +kernel
theorem dX4_travelTo_8 : decode cX4_travelTo 8 = .ok (.aload_n 0, 1) := by decide +kernel
theorem dX4_travelTo_9 : decode cX4_travelTo 9 = .ok (.getfield 24, 3) := by decide +kernel
theorem dX4_travelTo_12 : decode cX4_travelTo 12 = .ok (.iload_n 1, 1) := by decide +kernel
theorem dX4_travelTo_13 : decode cX4_travelTo 13 = .ok (.iaload, 1) := by decide +kernel
theorem dX4_travelTo_14 : decode cX4_travelTo 14 = .ok (.goto 4, 3) := by decide +kernel
theorem dX4_travelTo_17 : decode cX4_travelTo 17 = .ok (.iconst (-1), 1) := by decide +kernel
theorem dX4_travelTo_18 : decode cX4_travelTo 18 = .ok (.ireturn, 1) := by decide +kernel
theorem dX4_travelHeads_0 : decode cX4_travelHeads 0 = .ok (.aload_n 0, 1) := by decide +kernel
theorem dX4_travelHeads_1 : decode cX4_travelHeads 1 = .ok (.iload_n 1, 1) := by decide +kernel
theorem dX4_travelHeads_2 : decode cX4_travelHeads 2 = .ok (.invokevirtual 65, 3) := by decide +kernel
theorem dX4_travelHeads_5 : decode cX4_travelHeads 5 = .ok (.ifCond .eq 12, 3) := by decide +kernel
theorem dX4_travelHeads_8 : decode cX4_travelHeads 8 = .ok (.aload_n 0, 1) := by decide +kernel
theorem dX4_travelHeads_9 : decode cX4_travelHeads 9 = .ok (.getfield 27, 3) := by decide +kernel
theorem dX4_travelHeads_12 : decode cX4_travelHeads 12 = .ok (.iload_n 1, 1) := by decide +kernel
theorem dX4_travelHeads_13 : decode cX4_travelHeads 13 = .ok (.iaload, 1) := by decide +kernel
theorem dX4_travelHeads_14 : decode cX4_travelHeads 14 = .ok (.goto 4, 3) := by decide +kernel
theorem dX4_travelHeads_17 : decode cX4_travelHeads 17 = .ok (.iconst 0, 1) := by decide +kernel
theorem dX4_travelHeads_18 : decode cX4_travelHeads 18 = .ok (.ireturn, 1) := by decide +kernel
theorem dX4_roadAtSide_0 : decode cX4_roadAtSide 0 = .ok (.aload_n 0, 1) := by decide +kernel
theorem dX4_roadAtSide_1 : decode cX4_roadAtSide 1 = .ok (.iload_n 1, 1) := by decide +kernel
theorem dX4_roadAtSide_2 : decode cX4_roadAtSide 2 = .ok (.iload_n 2, 1) := by decide +kernel
theorem dX4_roadAtSide_3 : decode cX4_roadAtSide 3 = .ok (.invokevirtual 68, 3) := by decide +kernel
theorem dX4_roadAtSide_6 : decode cX4_roadAtSide 6 = .ok (.ifCond .eq 16, 3) := by decide +kernel
theorem dX4_roadAtSide_9 : decode cX4_roadAtSide 9 = .ok (.aload_n 0, 1) := by decide +kernel
theorem dX4_roadAtSide_10 : decode cX4_roadAtSide 10 = .ok (.getfield 33, 3) := by decide +kernel
theorem dX4_roadAtSide_13 : decode cX4_roadAtSide 13 = .ok (.iload_n 1, 1) := by decide +kernel
theorem dX4_roadAtSide_14 : decode cX4_roadAtSide 14 = .ok (.iconst 5, 1) := by decide +kernel
theorem dX4_roadAtSide_15 : decode cX4_roadAtSide 15 = .ok (.imul, 1) := by decide +kernel
theorem dX4_roadAtSide_16 : decode cX4_roadAtSide 16 = .ok (.iload_n 2, 1) := by decide +kernel
theorem dX4_roadAtSide_17 : decode cX4_roadAtSide 17 = .ok (.iadd, 1) := by decide +kernel
theorem dX4_roadAtSide_18 : decode cX4_roadAtSide 18 = .ok (.iaload, 1) := by decide +kernel
theorem dX4_roadAtSide_19 : decode cX4_roadAtSide 19 = .ok (.goto 4, 3) := by decide +kernel
theorem dX4_roadAtSide_22 : decode cX4_roadAtSide 22 = .ok (.iconst (-1), 1) := by decide +kernel
theorem dX4_roadAtSide_23 : decode cX4_roadAtSide 23 = .ok (.ireturn, 1) := by decide +kernel
theorem dX4_beyondRoad_0 : decode cX4_beyondRoad 0 = .ok (.aload_n 0, 1) := by decide +kernel
theorem dX4_beyondRoad_1 : decode cX4_beyondRoad 1 = .ok (.iload_n 2, 1) := by decide +kernel
theorem dX4_beyondRoad_2 : decode cX4_beyondRoad 2 = .ok (.invokevirtual 72, 3) := by decide +kernel
theorem dX4_beyondRoad_5 : decode cX4_beyondRoad 5 = .ok (.iload_n 1, 1) := by decide +kernel
theorem dX4_beyondRoad_6 : decode cX4_beyondRoad 6 = .ok (.if_icmp .ne 11, 3) := by decide +kernel
theorem dX4_beyondRoad_9 : decode cX4_beyondRoad 9 = .ok (.aload_n 0, 1) := by decide +kernel
theorem dX4_beyondRoad_10 : decode cX4_beyondRoad 10 = .ok (.iload_n 2, 1) := by decide +kernel
theorem dX4_beyondRoad_11 : decode cX4_beyondRoad 11 = .ok (.invokevirtual 76, 3) := by decide +kernel
theorem dX4_beyondRoad_14 : decode cX4_beyondRoad 14 = .ok (.goto 8, 3) := by decide +kernel
theorem dX4_beyondRoad_17 : decode cX4_beyondRoad 17 = .ok (.aload_n 0, 1) := by decide +kernel
theorem dX4_beyondRoad_18 : decode cX4_beyondRoad 18 = .ok (.iload_n 2, 1) := by decide +kernel
theorem dX4_beyondRoad_19 : decode cX4_beyondRoad 19 = .ok (.invokevirtual 72, 3) := by decide +kernel
theorem dX4_beyondRoad_22 : decode cX4_beyondRoad 22 = .ok (.ireturn, 1) := by decide +kernel
theorem dX4_sideTowards_0 : decode cX4_sideTowards 0 = .ok (.iconst 0, 1) := by decide +kernel
theorem dX4_sideTowards_1 : decode cX4_sideTowards 1 = .ok (.istore_n 3, 1) := by decide +kernel
theorem dX4_sideTowards_2 : decode cX4_sideTowards 2 = .ok (.iload_n 3, 1) := by decide +kernel
theorem dX4_sideTowards_3 : decode cX4_sideTowards 3 = .ok (.aload_n 0, 1) := by decide +kernel
theorem dX4_sideTowards_4 : decode cX4_sideTowards 4 = .ok (.iload_n 1, 1) := by decide +kernel
theorem dX4_sideTowards_5 : decode cX4_sideTowards 5 = .ok (.invokevirtual 79, 3) := by decide +kernel
theorem dX4_sideTowards_8 : decode cX4_sideTowards 8 = .ok (.if_icmp .ge 26, 3) := by decide +kernel
theorem dX4_sideTowards_11 : decode cX4_sideTowards 11 = .ok (.aload_n 0, 1) := by decide +kernel
theorem dX4_sideTowards_12 : decode cX4_sideTowards 12 = .ok (.iload_n 1, 1) := by decide +kernel
theorem dX4_sideTowards_13 : decode cX4_sideTowards 13 = .ok (.aload_n 0, 1) := by decide +kernel
theorem dX4_sideTowards_14 : decode cX4_sideTowards 14 = .ok (.iload_n 1, 1) := by decide +kernel
theorem dX4_sideTowards_15 : decode cX4_sideTowards 15 = .ok (.iload_n 3, 1) := by decide +kernel
theorem dX4_sideTowards_16 : decode cX4_sideTowards 16 = .ok (.invokevirtual 82, 3) := by decide +kernel
theorem dX4_sideTowards_19 : decode cX4_sideTowards 19 = .ok (.invokevirtual 86, 3) := by decide +kernel
theorem dX4_sideTowards_22 : decode cX4_sideTowards 22 = .ok (.iload_n 2, 1) := by decide +kernel
theorem dX4_sideTowards_23 : decode cX4_sideTowards 23 = .ok (.if_icmp .ne 5, 3) := by decide +kernel
theorem dX4_sideTowards_26 : decode cX4_sideTowards 26 = .ok (.iload_n 3, 1) := by decide +kernel
theorem dX4_sideTowards_27 : decode cX4_sideTowards 27 = .ok (.ireturn, 1) := by decide +kernel
theorem dX4_sideTowards_28 : decode cX4_sideTowards 28 = .ok (.iinc 3 1, 3) := by decide +kernel
theorem dX4_sideTowards_31 : decode cX4_sideTowards 31 = .ok (.goto (-29), 3) := by decide +kernel
theorem dX4_sideTowards_34 : decode cX4_sideTowards 34 = .ok (.iconst (-1), 1) := by decide +kernel
theorem dX4_sideTowards_35 : decode cX4_sideTowards 35 = .ok (.ireturn, 1) := by decide +kernel
theorem dX4_fewestMiles_0 : decode cX4_fewestMiles 0 = .ok (.aload_n 0, 1) := by decide +kernel
theorem dX4_fewestMiles_1 : decode cX4_fewestMiles 1 = .ok (.iload_n 1, 1) := by decide +kernel
theorem dX4_fewestMiles_2 : decode cX4_fewestMiles 2 = .ok (.invokevirtual 58, 3) := by decide +kernel
theorem dX4_fewestMiles_5 : decode cX4_fewestMiles 5 = .ok (.ifCond .eq 25, 3) := by decide +kernel
theorem dX4_fewestMiles_8 : decode cX4_fewestMiles 8 = .ok (.aload_n 0, 1) := by decide +kernel
theorem dX4_fewestMiles_9 : decode cX4_fewestMiles 9 = .ok (.iload_n 2, 1) := by decide +kernel
theorem dX4_fewestMiles_10 : decode cX4_fewestMiles 10 = .ok (.invokevirtual 58, 3) := by decide +kernel
theorem dX4_fewestMiles_13 : decode cX4_fewestMiles 13 = .ok (.ifCond .eq 17, 3) := by decide +kernel
theorem dX4_fewestMiles_16 : decode cX4_fewestMiles 16 = .ok (.aload_n 0, 1) := by decide +kernel
theorem dX4_fewestMiles_17 : decode cX4_fewestMiles 17 = .ok (.getfield 36, 3) := by decide +kernel
theorem dX4_fewestMiles_20 : decode cX4_fewestMiles 20 = .ok (.iload_n 1, 1) := by decide +kernel
theorem dX4_fewestMiles_21 : decode cX4_fewestMiles 21 = .ok (.bipush 9, 2) := by decide +kernel
theorem dX4_fewestMiles_23 : decode cX4_fewestMiles 23 = .ok (.imul, 1) := by decide +kernel
theorem dX4_fewestMiles_24 : decode cX4_fewestMiles 24 = .ok (.iload_n 2, 1) := by decide +kernel
theorem dX4_fewestMiles_25 : decode cX4_fewestMiles 25 = .ok (.iadd, 1) := by decide +kernel
theorem dX4_fewestMiles_26 : decode cX4_fewestMiles 26 = .ok (.iaload, 1) := by decide +kernel
theorem dX4_fewestMiles_27 : decode cX4_fewestMiles 27 = .ok (.goto 4, 3) := by decide +kernel
theorem dX4_fewestMiles_30 : decode cX4_fewestMiles 30 = .ok (.iconst (-1), 1) := by decide +kernel
theorem dX4_fewestMiles_31 : decode cX4_fewestMiles 31 = .ok (.ireturn, 1) := by decide +kernel
theorem dX4_trueArm_0 : decode cX4_trueArm 0 = .ok (.aload_n 0, 1) := by decide +kernel
theorem dX4_trueArm_1 : decode cX4_trueArm 1 = .ok (.iload_n 1, 1) := by decide +kernel
theorem dX4_trueArm_2 : decode cX4_trueArm 2 = .ok (.invokevirtual 58, 3) := by decide +kernel
theorem dX4_trueArm_5 : decode cX4_trueArm 5 = .ok (.ifCond .eq 25, 3) := by decide +kernel
theorem dX4_trueArm_8 : decode cX4_trueArm 8 = .ok (.aload_n 0, 1) := by decide +kernel
theorem dX4_trueArm_9 : decode cX4_trueArm 9 = .ok (.iload_n 2, 1) := by decide +kernel
theorem dX4_trueArm_10 : decode cX4_trueArm 10 = .ok (.invokevirtual 58, 3) := by decide +kernel
theorem dX4_trueArm_13 : decode cX4_trueArm 13 = .ok (.ifCond .eq 17, 3) := by decide +kernel
theorem dX4_trueArm_16 : decode cX4_trueArm 16 = .ok (.aload_n 0, 1) := by decide +kernel
theorem dX4_trueArm_17 : decode cX4_trueArm 17 = .ok (.getfield 39, 3) := by decide +kernel
theorem dX4_trueArm_20 : decode cX4_trueArm 20 = .ok (.iload_n 1, 1) := by decide +kernel
theorem dX4_trueArm_21 : decode cX4_trueArm 21 = .ok (.bipush 9, 2) := by decide +kernel
theorem dX4_trueArm_23 : decode cX4_trueArm 23 = .ok (.imul, 1) := by decide +kernel
theorem dX4_trueArm_24 : decode cX4_trueArm 24 = .ok (.iload_n 2, 1) := by decide +kernel
theorem dX4_trueArm_25 : decode cX4_trueArm 25 = .ok (.iadd, 1) := by decide +kernel
theorem dX4_trueArm_26 : decode cX4_trueArm 26 = .ok (.iaload, 1) := by decide +kernel
theorem dX4_trueArm_27 : decode cX4_trueArm 27 = .ok (.goto 4, 3) := by decide +kernel
theorem dX4_trueArm_30 : decode cX4_trueArm 30 = .ok (.iconst (-1), 1) := by decide +kernel
theorem dX4_trueArm_31 : decode cX4_trueArm 31 = .ok (.ireturn, 1) := by decide +kernel
theorem dX4_placesByArm_0 : decode cX4_placesByArm 0 = .ok (.iconst 0, 1) := by decide +kernel
theorem dX4_placesByArm_1 : decode cX4_placesByArm 1 = .ok (.istore_n 3, 1) := by decide +kernel
theorem dX4_placesByArm_2 : decode cX4_placesByArm 2 = .ok (.iconst 0, 1) := by decide +kernel
theorem dX4_placesByArm_3 : decode cX4_placesByArm 3 = .ok (.istore 4, 2) := by decide +kernel
theorem dX4_placesByArm_5 : decode cX4_placesByArm 5 = .ok (.iload 4, 2) := by decide +kernel
theorem dX4_placesByArm_7 : decode cX4_placesByArm 7 = .ok (.aload_n 0, 1) := by decide +kernel
theorem dX4_placesByArm_8 : decode cX4_placesByArm 8 = .ok (.getfield 42, 3) := by decide +kernel
theorem dX4_placesByArm_11 : decode cX4_placesByArm 11 = .ok (.if_icmp .ge 27, 3) := by decide +kernel
theorem dX4_placesByArm_14 : decode cX4_placesByArm 14 = .ok (.aload_n 0, 1) := by decide +kernel
theorem dX4_placesByArm_15 : decode cX4_placesByArm 15 = .ok (.iload_n 1, 1) := by decide +kernel
theorem dX4_placesByArm_16 : decode cX4_placesByArm 16 = .ok (.iload 4, 2) := by decide +kernel
theorem dX4_placesByArm_18 : decode cX4_placesByArm 18 = .ok (.invokevirtual 89, 3) := by decide +kernel
theorem dX4_placesByArm_21 : decode cX4_placesByArm 21 = .ok (.iload_n 2, 1) := by decide +kernel
theorem dX4_placesByArm_22 : decode cX4_placesByArm 22 = .ok (.if_icmp .ne 10, 3) := by decide +kernel
theorem dX4_placesByArm_25 : decode cX4_placesByArm 25 = .ok (.iload_n 3, 1) := by decide +kernel
theorem dX4_placesByArm_26 : decode cX4_placesByArm 26 = .ok (.iconst 1, 1) := by decide +kernel
theorem dX4_placesByArm_27 : decode cX4_placesByArm 27 = .ok (.iload 4, 2) := by decide +kernel
theorem dX4_placesByArm_29 : decode cX4_placesByArm 29 = .ok (.ishl, 1) := by decide +kernel
theorem dX4_placesByArm_30 : decode cX4_placesByArm 30 = .ok (.ior, 1) := by decide +kernel
theorem dX4_placesByArm_31 : decode cX4_placesByArm 31 = .ok (.istore_n 3, 1) := by decide +kernel
theorem dX4_placesByArm_32 : decode cX4_placesByArm 32 = .ok (.iinc 4 1, 3) := by decide +kernel
theorem dX4_placesByArm_35 : decode cX4_placesByArm 35 = .ok (.goto (-30), 3) := by decide +kernel
theorem dX4_placesByArm_38 : decode cX4_placesByArm 38 = .ok (.iload_n 3, 1) := by decide +kernel
theorem dX4_placesByArm_39 : decode cX4_placesByArm 39 = .ok (.ireturn, 1) := by decide +kernel
theorem dX4_setPlaces_0 : decode cX4_setPlaces 0 = .ok (.iload_n 1, 1) := by decide +kernel
theorem dX4_setPlaces_1 : decode cX4_setPlaces 1 = .ok (.ifCond .lt 14, 3) := by decide +kernel
theorem dX4_setPlaces_4 : decode cX4_setPlaces 4 = .ok (.iload_n 1, 1) := by decide +kernel
theorem dX4_setPlaces_5 : decode cX4_setPlaces 5 = .ok (.bipush 9, 2) := by decide +kernel
theorem dX4_setPlaces_7 : decode cX4_setPlaces 7 = .ok (.if_icmp .gt 8, 3) := by decide +kernel
theorem dX4_setPlaces_10 : decode cX4_setPlaces 10 = .ok (.aload_n 0, 1) := by decide +kernel
theorem dX4_setPlaces_11 : decode cX4_setPlaces 11 = .ok (.iload_n 1, 1) := by decide +kernel
theorem dX4_setPlaces_12 : decode cX4_setPlaces 12 = .ok (.putfield 42, 3) := by decide +kernel
theorem dX4_setPlaces_15 : decode cX4_setPlaces 15 = .ok (.return_, 1) := by decide +kernel
theorem dX4_mayJoin_0 : decode cX4_mayJoin 0 = .ok (.iload_n 1, 1) := by decide +kernel
theorem dX4_mayJoin_1 : decode cX4_mayJoin 1 = .ok (.iload_n 2, 1) := by decide +kernel
theorem dX4_mayJoin_2 : decode cX4_mayJoin 2 = .ok (.if_icmp .eq 34, 3) := by decide +kernel
theorem dX4_mayJoin_5 : decode cX4_mayJoin 5 = .ok (.aload_n 0, 1) := by decide +kernel
theorem dX4_mayJoin_6 : decode cX4_mayJoin 6 = .ok (.iload_n 1, 1) := by decide +kernel
theorem dX4_mayJoin_7 : decode cX4_mayJoin 7 = .ok (.iload_n 2, 1) := by decide +kernel
theorem dX4_mayJoin_8 : decode cX4_mayJoin 8 = .ok (.invokevirtual 92, 3) := by decide +kernel
theorem dX4_mayJoin_11 : decode cX4_mayJoin 11 = .ok (.ifCond .ne 25, 3) := by decide +kernel
theorem dX4_mayJoin_14 : decode cX4_mayJoin 14 = .ok (.aload_n 0, 1) := by decide +kernel
theorem dX4_mayJoin_15 : decode cX4_mayJoin 15 = .ok (.iload_n 1, 1) := by decide +kernel
theorem dX4_mayJoin_16 : decode cX4_mayJoin 16 = .ok (.invokevirtual 79, 3) := by decide +kernel
theorem dX4_mayJoin_19 : decode cX4_mayJoin 19 = .ok (.iconst 5, 1) := by decide +kernel
theorem dX4_mayJoin_20 : decode cX4_mayJoin 20 = .ok (.if_icmp .ge 16, 3) := by decide +kernel
theorem dX4_mayJoin_23 : decode cX4_mayJoin 23 = .ok (.aload_n 0, 1) := by decide +kernel
theorem dX4_mayJoin_24 : decode cX4_mayJoin 24 = .ok (.iload_n 2, 1) := by decide +kernel
theorem dX4_mayJoin_25 : decode cX4_mayJoin 25 = .ok (.invokevirtual 79, 3) := by decide +kernel
theorem dX4_mayJoin_28 : decode cX4_mayJoin 28 = .ok (.iconst 5, 1) := by decide +kernel
theorem dX4_mayJoin_29 : decode cX4_mayJoin 29 = .ok (.if_icmp .ge 7, 3) := by decide +kernel
theorem dX4_mayJoin_32 : decode cX4_mayJoin 32 = .ok (.iconst 1, 1) := by decide +kernel
theorem dX4_mayJoin_33 : decode cX4_mayJoin 33 = .ok (.goto 4, 3) := by decide +kernel
theorem dX4_mayJoin_36 : decode cX4_mayJoin 36 = .ok (.iconst 0, 1) := by decide +kernel
theorem dX4_mayJoin_37 : decode cX4_mayJoin 37 = .ok (.ireturn, 1) := by decide +kernel
theorem dX4_isJoined_0 : decode cX4_isJoined 0 = .ok (.iconst 0, 1) := by decide +kernel
theorem dX4_isJoined_1 : decode cX4_isJoined 1 = .ok (.istore_n 3, 1) := by decide +kernel
theorem dX4_isJoined_2 : decode cX4_isJoined 2 = .ok (.iload_n 3, 1) := by decide +kernel
theorem dX4_isJoined_3 : decode cX4_isJoined 3 = .ok (.aload_n 0, 1) := by decide +kernel
theorem dX4_isJoined_4 : decode cX4_isJoined 4 = .ok (.getfield 46, 3) := by decide +kernel
theorem dX4_isJoined_7 : decode cX4_isJoined 7 = .ok (.if_icmp .ge 57, 3) := by decide +kernel
theorem dX4_isJoined_10 : decode cX4_isJoined 10 = .ok (.iload_n 3, 1) := by decide +kernel
theorem dX4_isJoined_11 : decode cX4_isJoined 11 = .ok (.bipush 14, 2) := by decide +kernel
theorem dX4_isJoined_13 : decode cX4_isJoined 13 = .ok (.if_icmp .ge 51, 3) := by decide +kernel
theorem dX4_isJoined_16 : decode cX4_isJoined 16 = .ok (.aload_n 0, 1) := by decide +kernel
theorem dX4_isJoined_17 : decode cX4_isJoined 17 = .ok (.getfield 9, 3) := by decide +kernel
theorem dX4_isJoined_20 : decode cX4_isJoined 20 = .ok (.iload_n 3, 1) := by decide +kernel
theorem dX4_isJoined_21 : decode cX4_isJoined 21 = .ok (.iaload, 1) := by decide +kernel
theorem dX4_isJoined_22 : decode cX4_isJoined 22 = .ok (.iload_n 1, 1) := by decide +kernel
theorem dX4_isJoined_23 : decode cX4_isJoined 23 = .ok (.if_icmp .ne 13, 3) := by decide +kernel
theorem dX4_isJoined_26 : decode cX4_isJoined 26 = .ok (.aload_n 0, 1) := by decide +kernel
theorem dX4_isJoined_27 : decode cX4_isJoined 27 = .ok (.getfield 15, 3) := by decide +kernel
theorem dX4_isJoined_30 : decode cX4_isJoined 30 = .ok (.iload_n 3, 1) := by decide +kernel
theorem dX4_isJoined_31 : decode cX4_isJoined 31 = .ok (.iaload, 1) := by decide +kernel
theorem dX4_isJoined_32 : decode cX4_isJoined 32 = .ok (.iload_n 2, 1) := by decide +kernel
theorem dX4_isJoined_33 : decode cX4_isJoined 33 = .ok (.if_icmp .eq 23, 3) := by decide +kernel
theorem dX4_isJoined_36 : decode cX4_isJoined 36 = .ok (.aload_n 0, 1) := by decide +kernel
theorem dX4_isJoined_37 : decode cX4_isJoined 37 = .ok (.getfield 9, 3) := by decide +kernel
theorem dX4_isJoined_40 : decode cX4_isJoined 40 = .ok (.iload_n 3, 1) := by decide +kernel
theorem dX4_isJoined_41 : decode cX4_isJoined 41 = .ok (.iaload, 1) := by decide +kernel
theorem dX4_isJoined_42 : decode cX4_isJoined 42 = .ok (.iload_n 2, 1) := by decide +kernel
theorem dX4_isJoined_43 : decode cX4_isJoined 43 = .ok (.if_icmp .ne 15, 3) := by decide +kernel
theorem dX4_isJoined_46 : decode cX4_isJoined 46 = .ok (.aload_n 0, 1) := by decide +kernel
theorem dX4_isJoined_47 : decode cX4_isJoined 47 = .ok (.getfield 15, 3) := by decide +kernel
theorem dX4_isJoined_50 : decode cX4_isJoined 50 = .ok (.iload_n 3, 1) := by decide +kernel
theorem dX4_isJoined_51 : decode cX4_isJoined 51 = .ok (.iaload, 1) := by decide +kernel
theorem dX4_isJoined_52 : decode cX4_isJoined 52 = .ok (.iload_n 1, 1) := by decide +kernel
theorem dX4_isJoined_53 : decode cX4_isJoined 53 = .ok (.if_icmp .ne 5, 3) := by decide +kernel
theorem dX4_isJoined_56 : decode cX4_isJoined 56 = .ok (.iconst 1, 1) := by decide +kernel
theorem dX4_isJoined_57 : decode cX4_isJoined 57 = .ok (.ireturn, 1) := by decide +kernel
theorem dX4_isJoined_58 : decode cX4_isJoined 58 = .ok (.iinc 3 1, 3) := by decide +kernel
theorem dX4_isJoined_61 : decode cX4_isJoined 61 = .ok (.goto (-59), 3) := by decide +kernel
theorem dX4_isJoined_64 : decode cX4_isJoined 64 = .ok (.iconst 0, 1) := by decide +kernel
theorem dX4_isJoined_65 : decode cX4_isJoined 65 = .ok (.ireturn, 1) := by decide +kernel
theorem dX4_addRoad_0 : decode cX4_addRoad 0 = .ok (.aload_n 0, 1) := by decide +kernel
theorem dX4_addRoad_1 : decode cX4_addRoad 1 = .ok (.getfield 46, 3) := by decide +kernel
theorem dX4_addRoad_4 : decode cX4_addRoad 4 = .ok (.ifCond .lt 70, 3) := by decide +kernel
theorem dX4_addRoad_7 : decode cX4_addRoad 7 = .ok (.aload_n 0, 1) := by decide +kernel
theorem dX4_addRoad_8 : decode cX4_addRoad 8 = .ok (.getfield 46, 3) := by decide +kernel
theorem dX4_addRoad_11 : decode cX4_addRoad 11 = .ok (.bipush 14, 2) := by decide +kernel
theorem dX4_addRoad_13 : decode cX4_addRoad 13 = .ok (.if_icmp .ge 61, 3) := by decide +kernel
theorem dX4_addRoad_16 : decode cX4_addRoad 16 = .ok (.aload_n 0, 1) := by decide +kernel
theorem dX4_addRoad_17 : decode cX4_addRoad 17 = .ok (.getfield 9, 3) := by decide +kernel
theorem dX4_addRoad_20 : decode cX4_addRoad 20 = .ok (.aload_n 0, 1) := by decide +kernel
theorem dX4_addRoad_21 : decode cX4_addRoad 21 = .ok (.getfield 46, 3) := by decide +kernel
theorem dX4_addRoad_24 : decode cX4_addRoad 24 = .ok (.iload_n 1, 1) := by decide +kernel
theorem dX4_addRoad_25 : decode cX4_addRoad 25 = .ok (.iastore, 1) := by decide +kernel
theorem dX4_addRoad_26 : decode cX4_addRoad 26 = .ok (.aload_n 0, 1) := by decide +kernel
theorem dX4_addRoad_27 : decode cX4_addRoad 27 = .ok (.getfield 15, 3) := by decide +kernel
theorem dX4_addRoad_30 : decode cX4_addRoad 30 = .ok (.aload_n 0, 1) := by decide +kernel
theorem dX4_addRoad_31 : decode cX4_addRoad 31 = .ok (.getfield 46, 3) := by decide +kernel
theorem dX4_addRoad_34 : decode cX4_addRoad 34 = .ok (.iload_n 2, 1) := by decide +kernel
theorem dX4_addRoad_35 : decode cX4_addRoad 35 = .ok (.iastore, 1) := by decide +kernel
theorem dX4_addRoad_36 : decode cX4_addRoad 36 = .ok (.aload_n 0, 1) := by decide +kernel
theorem dX4_addRoad_37 : decode cX4_addRoad 37 = .ok (.getfield 18, 3) := by decide +kernel
theorem dX4_addRoad_40 : decode cX4_addRoad 40 = .ok (.aload_n 0, 1) := by decide +kernel
theorem dX4_addRoad_41 : decode cX4_addRoad 41 = .ok (.getfield 46, 3) := by decide +kernel
theorem dX4_addRoad_44 : decode cX4_addRoad 44 = .ok (.iload_n 3, 1) := by decide +kernel
theorem dX4_addRoad_45 : decode cX4_addRoad 45 = .ok (.iastore, 1) := by decide +kernel
theorem dX4_addRoad_46 : decode cX4_addRoad 46 = .ok (.aload_n 0, 1) := by decide +kernel
theorem dX4_addRoad_47 : decode cX4_addRoad 47 = .ok (.iload_n 1, 1) := by decide +kernel
theorem dX4_addRoad_48 : decode cX4_addRoad 48 = .ok (.aload_n 0, 1) := by decide +kernel
theorem dX4_addRoad_49 : decode cX4_addRoad 49 = .ok (.getfield 46, 3) := by decide +kernel
theorem dX4_addRoad_52 : decode cX4_addRoad 52 = .ok (.invokevirtual 95, 3) := by decide +kernel
theorem dX4_addRoad_55 : decode cX4_addRoad 55 = .ok (.aload_n 0, 1) := by decide +kernel
theorem dX4_addRoad_56 : decode cX4_addRoad 56 = .ok (.iload_n 2, 1) := by decide +kernel
theorem dX4_addRoad_57 : decode cX4_addRoad 57 = .ok (.aload_n 0, 1) := by decide +kernel
theorem dX4_addRoad_58 : decode cX4_addRoad 58 = .ok (.getfield 46, 3) := by decide +kernel
theorem dX4_addRoad_61 : decode cX4_addRoad 61 = .ok (.invokevirtual 95, 3) := by decide +kernel
theorem dX4_addRoad_64 : decode cX4_addRoad 64 = .ok (.aload_n 0, 1) := by decide +kernel
theorem dX4_addRoad_65 : decode cX4_addRoad 65 = .ok (.dup, 1) := by decide +kernel
theorem dX4_addRoad_66 : decode cX4_addRoad 66 = .ok (.getfield 46, 3) := by decide +kernel
theorem dX4_addRoad_69 : decode cX4_addRoad 69 = .ok (.iconst 1, 1) := by decide +kernel
theorem dX4_addRoad_70 : decode cX4_addRoad 70 = .ok (.iadd, 1) := by decide +kernel
theorem dX4_addRoad_71 : decode cX4_addRoad 71 = .ok (.putfield 46, 3) := by decide +kernel
theorem dX4_addRoad_74 : decode cX4_addRoad 74 = .ok (.return_, 1) := by decide +kernel
theorem dX4_addSide_0 : decode cX4_addSide 0 = .ok (.aload_n 0, 1) := by decide +kernel
theorem dX4_addSide_1 : decode cX4_addSide 1 = .ok (.iload_n 1, 1) := by decide +kernel
theorem dX4_addSide_2 : decode cX4_addSide 2 = .ok (.invokevirtual 58, 3) := by decide +kernel
theorem dX4_addSide_5 : decode cX4_addSide 5 = .ok (.ifCond .eq 48, 3) := by decide +kernel
theorem dX4_addSide_8 : decode cX4_addSide 8 = .ok (.aload_n 0, 1) := by decide +kernel
theorem dX4_addSide_9 : decode cX4_addSide 9 = .ok (.getfield 30, 3) := by decide +kernel
theorem dX4_addSide_12 : decode cX4_addSide 12 = .ok (.iload_n 1, 1) := by decide +kernel
theorem dX4_addSide_13 : decode cX4_addSide 13 = .ok (.iaload, 1) := by decide +kernel
theorem dX4_addSide_14 : decode cX4_addSide 14 = .ok (.ifCond .lt 39, 3) := by decide +kernel
theorem dX4_addSide_17 : decode cX4_addSide 17 = .ok (.aload_n 0, 1) := by decide +kernel
theorem dX4_addSide_18 : decode cX4_addSide 18 = .ok (.getfield 30, 3) := by decide +kernel
theorem dX4_addSide_21 : decode cX4_addSide 21 = .ok (.iload_n 1, 1) := by decide +kernel
theorem dX4_addSide_22 : decode cX4_addSide 22 = .ok (.iaload, 1) := by decide +kernel
theorem dX4_addSide_23 : decode cX4_addSide 23 = .ok (.iconst 5, 1) := by decide +kernel
theorem dX4_addSide_24 : decode cX4_addSide 24 = .ok (.if_icmp .ge 29, 3) := by decide +kernel
theorem dX4_addSide_27 : decode cX4_addSide 27 = .ok (.aload_n 0, 1) := by decide +kernel
theorem dX4_addSide_28 : decode cX4_addSide 28 = .ok (.getfield 33, 3) := by decide +kernel
theorem dX4_addSide_31 : decode cX4_addSide 31 = .ok (.iload_n 1, 1) := by decide +kernel
theorem dX4_addSide_32 : decode cX4_addSide 32 = .ok (.iconst 5, 1) := by decide +kernel
theorem dX4_addSide_33 : decode cX4_addSide 33 = .ok (.imul, 1) := by decide +kernel
theorem dX4_addSide_34 : decode cX4_addSide 34 = .ok (.aload_n 0, 1) := by decide +kernel
theorem dX4_addSide_35 : decode cX4_addSide 35 = .ok (.getfield 30, 3) := by decide +kernel
theorem dX4_addSide_38 : decode cX4_addSide 38 = .ok (.iload_n 1, 1) := by decide +kernel
theorem dX4_addSide_39 : decode cX4_addSide 39 = .ok (.iaload, 1) := by decide +kernel
theorem dX4_addSide_40 : decode cX4_addSide 40 = .ok (.iadd, 1) := by decide +kernel
theorem dX4_addSide_41 : decode cX4_addSide 41 = .ok (.iload_n 2, 1) := by decide +kernel
theorem dX4_addSide_42 : decode cX4_addSide 42 = .ok (.iastore, 1) := by decide +kernel
theorem dX4_addSide_43 : decode cX4_addSide 43 = .ok (.aload_n 0, 1) := by decide +kernel
theorem dX4_addSide_44 : decode cX4_addSide 44 = .ok (.getfield 30, 3) := by decide +kernel
theorem dX4_addSide_47 : decode cX4_addSide 47 = .ok (.iload_n 1, 1) := by decide +kernel
theorem dX4_addSide_48 : decode cX4_addSide 48 = .ok (.dup2, 1) := by decide +kernel
theorem dX4_addSide_49 : decode cX4_addSide 49 = .ok (.iaload, 1) := by decide +kernel
theorem dX4_addSide_50 : decode cX4_addSide 50 = .ok (.iconst 1, 1) := by decide +kernel
theorem dX4_addSide_51 : decode cX4_addSide 51 = .ok (.iadd, 1) := by decide +kernel
theorem dX4_addSide_52 : decode cX4_addSide 52 = .ok (.iastore, 1) := by decide +kernel
theorem dX4_addSide_53 : decode cX4_addSide 53 = .ok (.return_, 1) := by decide +kernel
theorem dX4_addTravel_0 : decode cX4_addTravel 0 = .ok (.aload_n 0, 1) := by decide +kernel
theorem dX4_addTravel_1 : decode cX4_addTravel 1 = .ok (.getfield 49, 3) := by decide +kernel
theorem dX4_addTravel_4 : decode cX4_addTravel 4 = .ok (.ifCond .lt 52, 3) := by decide +kernel
theorem dX4_addTravel_7 : decode cX4_addTravel 7 = .ok (.aload_n 0, 1) := by decide +kernel
theorem dX4_addTravel_8 : decode cX4_addTravel 8 = .ok (.getfield 49, 3) := by decide +kernel
theorem dX4_addTravel_11 : decode cX4_addTravel 11 = .ok (.bipush 20, 2) := by decide +kernel
theorem dX4_addTravel_13 : decode cX4_addTravel 13 = .ok (.if_icmp .ge 43, 3) := by decide +kernel
theorem dX4_addTravel_16 : decode cX4_addTravel 16 = .ok (.aload_n 0, 1) := by decide +kernel
theorem dX4_addTravel_17 : decode cX4_addTravel 17 = .ok (.getfield 21, 3) := by decide +kernel
theorem dX4_addTravel_20 : decode cX4_addTravel 20 = .ok (.aload_n 0, 1) := by decide +kernel
theorem dX4_addTravel_21 : decode cX4_addTravel 21 = .ok (.getfield 49, 3) := by decide +kernel
theorem dX4_addTravel_24 : decode cX4_addTravel 24 = .ok (.iload_n 1, 1) := by decide +kernel
theorem dX4_addTravel_25 : decode cX4_addTravel 25 = .ok (.iastore, 1) := by decide +kernel
theorem dX4_addTravel_26 : decode cX4_addTravel 26 = .ok (.aload_n 0, 1) := by decide +kernel
theorem dX4_addTravel_27 : decode cX4_addTravel 27 = .ok (.getfield 24, 3) := by decide +kernel
theorem dX4_addTravel_30 : decode cX4_addTravel 30 = .ok (.aload_n 0, 1) := by decide +kernel
theorem dX4_addTravel_31 : decode cX4_addTravel 31 = .ok (.getfield 49, 3) := by decide +kernel
theorem dX4_addTravel_34 : decode cX4_addTravel 34 = .ok (.iload_n 2, 1) := by decide +kernel
theorem dX4_addTravel_35 : decode cX4_addTravel 35 = .ok (.iastore, 1) := by decide +kernel
theorem dX4_addTravel_36 : decode cX4_addTravel 36 = .ok (.aload_n 0, 1) := by decide +kernel
theorem dX4_addTravel_37 : decode cX4_addTravel 37 = .ok (.getfield 27, 3) := by decide +kernel
theorem dX4_addTravel_40 : decode cX4_addTravel 40 = .ok (.aload_n 0, 1) := by decide +kernel
theorem dX4_addTravel_41 : decode cX4_addTravel 41 = .ok (.getfield 49, 3) := by decide +kernel
theorem dX4_addTravel_44 : decode cX4_addTravel 44 = .ok (.iload_n 3, 1) := by decide +kernel
theorem dX4_addTravel_45 : decode cX4_addTravel 45 = .ok (.iastore, 1) := by decide +kernel
theorem dX4_addTravel_46 : decode cX4_addTravel 46 = .ok (.aload_n 0, 1) := by decide +kernel
theorem dX4_addTravel_47 : decode cX4_addTravel 47 = .ok (.dup, 1) := by decide +kernel
theorem dX4_addTravel_48 : decode cX4_addTravel 48 = .ok (.getfield 49, 3) := by decide +kernel
theorem dX4_addTravel_51 : decode cX4_addTravel 51 = .ok (.iconst 1, 1) := by decide +kernel
theorem dX4_addTravel_52 : decode cX4_addTravel 52 = .ok (.iadd, 1) := by decide +kernel
theorem dX4_addTravel_53 : decode cX4_addTravel 53 = .ok (.putfield 49, 3) := by decide +kernel
theorem dX4_addTravel_56 : decode cX4_addTravel 56 = .ok (.return_, 1) := by decide +kernel
theorem dX4_survey_0 : decode cX4_survey 0 = .ok (.aload_n 0, 1) := by decide +kernel
theorem dX4_survey_1 : decode cX4_survey 1 = .ok (.invokevirtual 99, 3) := by decide +kernel
theorem dX4_survey_4 : decode cX4_survey 4 = .ok (.iconst 0, 1) := by decide +kernel
theorem dX4_survey_5 : decode cX4_survey 5 = .ok (.istore_n 1, 1) := by decide +kernel
theorem dX4_survey_6 : decode cX4_survey 6 = .ok (.iload_n 1, 1) := by decide +kernel
theorem dX4_survey_7 : decode cX4_survey 7 = .ok (.bipush 9, 2) := by decide +kernel
theorem dX4_survey_9 : decode cX4_survey 9 = .ok (.if_icmp .ge 14, 3) := by decide +kernel
theorem dX4_survey_12 : decode cX4_survey 12 = .ok (.aload_n 0, 1) := by decide +kernel
theorem dX4_survey_13 : decode cX4_survey 13 = .ok (.iload_n 1, 1) := by decide +kernel
theorem dX4_survey_14 : decode cX4_survey 14 = .ok (.invokevirtual 102, 3) := by decide +kernel
theorem dX4_survey_17 : decode cX4_survey 17 = .ok (.iinc 1 1, 3) := by decide +kernel
theorem dX4_survey_20 : decode cX4_survey 20 = .ok (.goto (-14), 3) := by decide +kernel
theorem dX4_survey_23 : decode cX4_survey 23 = .ok (.iconst 0, 1) := by decide +kernel
theorem dX4_survey_24 : decode cX4_survey 24 = .ok (.istore_n 1, 1) := by decide +kernel
theorem dX4_survey_25 : decode cX4_survey 25 = .ok (.iload_n 1, 1) := by decide +kernel
theorem dX4_survey_26 : decode cX4_survey 26 = .ok (.bipush 9, 2) := by decide +kernel
theorem dX4_survey_28 : decode cX4_survey 28 = .ok (.if_icmp .ge 40, 3) := by decide +kernel
theorem dX4_survey_31 : decode cX4_survey 31 = .ok (.iconst 0, 1) := by decide +kernel
theorem dX4_survey_32 : decode cX4_survey 32 = .ok (.istore_n 2, 1) := by decide +kernel
theorem dX4_survey_33 : decode cX4_survey 33 = .ok (.iload_n 2, 1) := by decide +kernel
theorem dX4_survey_34 : decode cX4_survey 34 = .ok (.bipush 9, 2) := by decide +kernel
theorem dX4_survey_36 : decode cX4_survey 36 = .ok (.if_icmp .ge 26, 3) := by decide +kernel
theorem dX4_survey_39 : decode cX4_survey 39 = .ok (.aload_n 0, 1) := by decide +kernel
theorem dX4_survey_40 : decode cX4_survey 40 = .ok (.getfield 39, 3) := by decide +kernel
theorem dX4_survey_43 : decode cX4_survey 43 = .ok (.iload_n 1, 1) := by decide +kernel
theorem dX4_survey_44 : decode cX4_survey 44 = .ok (.bipush 9, 2) := by decide +kernel
theorem dX4_survey_46 : decode cX4_survey 46 = .ok (.imul, 1) := by decide +kernel
theorem dX4_survey_47 : decode cX4_survey 47 = .ok (.iload_n 2, 1) := by decide +kernel
theorem dX4_survey_48 : decode cX4_survey 48 = .ok (.iadd, 1) := by decide +kernel
theorem dX4_survey_49 : decode cX4_survey 49 = .ok (.aload_n 0, 1) := by decide +kernel
theorem dX4_survey_50 : decode cX4_survey 50 = .ok (.iload_n 1, 1) := by decide +kernel
theorem dX4_survey_51 : decode cX4_survey 51 = .ok (.iload_n 2, 1) := by decide +kernel
theorem dX4_survey_52 : decode cX4_survey 52 = .ok (.invokevirtual 106, 3) := by decide +kernel
theorem dX4_survey_55 : decode cX4_survey 55 = .ok (.iastore, 1) := by decide +kernel
theorem dX4_survey_56 : decode cX4_survey 56 = .ok (.iinc 2 1, 3) := by decide +kernel
theorem dX4_survey_59 : decode cX4_survey 59 = .ok (.goto (-26), 3) := by decide +kernel
theorem dX4_survey_62 : decode cX4_survey 62 = .ok (.iinc 1 1, 3) := by decide +kernel
theorem dX4_survey_65 : decode cX4_survey 65 = .ok (.goto (-40), 3) := by decide +kernel
theorem dX4_survey_68 : decode cX4_survey 68 = .ok (.iconst 0, 1) := by decide +kernel
theorem dX4_survey_69 : decode cX4_survey 69 = .ok (.istore_n 1, 1) := by decide +kernel
theorem dX4_survey_70 : decode cX4_survey 70 = .ok (.iload_n 1, 1) := by decide +kernel
theorem dX4_survey_71 : decode cX4_survey 71 = .ok (.bipush 81, 2) := by decide +kernel
theorem dX4_survey_73 : decode cX4_survey 73 = .ok (.if_icmp .ge 36, 3) := by decide +kernel
theorem dX4_survey_76 : decode cX4_survey 76 = .ok (.aload_n 0, 1) := by decide +kernel
theorem dX4_survey_77 : decode cX4_survey 77 = .ok (.getfield 36, 3) := by decide +kernel
theorem dX4_survey_80 : decode cX4_survey 80 = .ok (.iload_n 1, 1) := by decide +kernel
theorem dX4_survey_81 : decode cX4_survey 81 = .ok (.aload_n 0, 1) := by decide +kernel
theorem dX4_survey_82 : decode cX4_survey 82 = .ok (.getfield 36, 3) := by decide +kernel
theorem dX4_survey_85 : decode cX4_survey 85 = .ok (.iload_n 1, 1) := by decide +kernel
theorem dX4_survey_86 : decode cX4_survey 86 = .ok (.iaload, 1) := by decide +kernel
theorem dX4_survey_87 : decode cX4_survey 87 = .ok (.ldc 109, 2) := by decide +kernel
theorem dX4_survey_89 : decode cX4_survey 89 = .ok (.if_icmp .lt 7, 3) := by decide +kernel
theorem dX4_survey_92 : decode cX4_survey 92 = .ok (.iconst (-1), 1) := by decide +kernel
theorem dX4_survey_93 : decode cX4_survey 93 = .ok (.goto 9, 3) := by decide +kernel
theorem dX4_survey_96 : decode cX4_survey 96 = .ok (.aload_n 0, 1) := by decide +kernel
theorem dX4_survey_97 : decode cX4_survey 97 = .ok (.getfield 36, 3) := by decide +kernel
theorem dX4_survey_100 : decode cX4_survey 100 = .ok (.iload_n 1, 1) := by decide +kernel
theorem dX4_survey_101 : decode cX4_survey 101 = .ok (.iaload, 1) := by decide +kernel
theorem dX4_survey_102 : decode cX4_survey 102 = .ok (.iastore, 1) := by decide +kernel
theorem dX4_survey_103 : decode cX4_survey 103 = .ok (.iinc 1 1, 3) := by decide +kernel
theorem dX4_survey_106 : decode cX4_survey 106 = .ok (.goto (-36), 3) := by decide +kernel
theorem dX4_survey_109 : decode cX4_survey 109 = .ok (.return_, 1) := by decide +kernel
theorem dX4_startDistances_0 : decode cX4_startDistances 0 = .ok (.iconst 0, 1) := by decide +kernel
theorem dX4_startDistances_1 : decode cX4_startDistances 1 = .ok (.istore_n 1, 1) := by decide +kernel
theorem dX4_startDistances_2 : decode cX4_startDistances 2 = .ok (.iload_n 1, 1) := by decide +kernel
theorem dX4_startDistances_3 : decode cX4_startDistances 3 = .ok (.bipush 81, 2) := by decide +kernel
theorem dX4_startDistances_5 : decode cX4_startDistances 5 = .ok (.if_icmp .ge 28, 3) := by decide +kernel
theorem dX4_startDistances_8 : decode cX4_startDistances 8 = .ok (.aload_n 0, 1) := by decide +kernel
theorem dX4_startDistances_9 : decode cX4_startDistances 9 = .ok (.getfield 36, 3) := by decide +kernel
theorem dX4_startDistances_12 : decode cX4_startDistances 12 = .ok (.iload_n 1, 1) := by decide +kernel
theorem dX4_startDistances_13 : decode cX4_startDistances 13 = .ok (.iload_n 1, 1) := by decide +kernel
theorem dX4_startDistances_14 : decode cX4_startDistances 14 = .ok (.bipush 10, 2) := by decide +kernel
theorem dX4_startDistances_16 : decode cX4_startDistances 16 = .ok (.irem, 1) := by decide +kernel
theorem dX4_startDistances_17 : decode cX4_startDistances 17 = .ok (.ifCond .ne 7, 3) := by decide +kernel
theorem dX4_startDistances_20 : decode cX4_startDistances 20 = .ok (.iconst 0, 1) := by decide +kernel
theorem dX4_startDistances_21 : decode cX4_startDistances 21 = .ok (.goto 5, 3) := by decide +kernel
theorem dX4_startDistances_24 : decode cX4_startDistances 24 = .ok (.ldc 109, 2) := by decide +kernel
theorem dX4_startDistances_26 : decode cX4_startDistances 26 = .ok (.iastore, 1) := by decide +kernel
theorem dX4_startDistances_27 : decode cX4_startDistances 27 = .ok (.iinc 1 1, 3) := by decide +kernel
theorem dX4_startDistances_30 : decode cX4_startDistances 30 = .ok (.goto (-28), 3) := by decide +kernel
theorem dX4_startDistances_33 : decode cX4_startDistances 33 = .ok (.iconst 0, 1) := by decide +kernel
theorem dX4_startDistances_34 : decode cX4_startDistances 34 = .ok (.istore_n 1, 1) := by decide +kernel
theorem dX4_startDistances_35 : decode cX4_startDistances 35 = .ok (.iload_n 1, 1) := by decide +kernel
theorem dX4_startDistances_36 : decode cX4_startDistances 36 = .ok (.aload_n 0, 1) := by decide +kernel
theorem dX4_startDistances_37 : decode cX4_startDistances 37 = .ok (.getfield 46, 3) := by decide +kernel
theorem dX4_startDistances_40 : decode cX4_startDistances 40 = .ok (.if_icmp .ge 69, 3) := by decide +kernel
theorem dX4_startDistances_43 : decode cX4_startDistances 43 = .ok (.aload_n 0, 1) := by decide +kernel
theorem dX4_startDistances_44 : decode cX4_startDistances 44 = .ok (.iload_n 1, 1) := by decide +kernel
theorem dX4_startDistances_45 : decode cX4_startDistances 45 = .ok (.invokevirtual 72, 3) := by decide +kernel
theorem dX4_startDistances_48 : decode cX4_startDistances 48 = .ok (.istore_n 2, 1) := by decide +kernel
theorem dX4_startDistances_49 : decode cX4_startDistances 49 = .ok (.aload_n 0, 1) := by decide +kernel
theorem dX4_startDistances_50 : decode cX4_startDistances 50 = .ok (.iload_n 1, 1) := by decide +kernel
theorem dX4_startDistances_51 : decode cX4_startDistances 51 = .ok (.invokevirtual 76, 3) := by decide +kernel
theorem dX4_startDistances_54 : decode cX4_startDistances 54 = .ok (.istore_n 3, 1) := by decide +kernel
theorem dX4_startDistances_55 : decode cX4_startDistances 55 = .ok (.aload_n 0, 1) := by decide +kernel
theorem dX4_startDistances_56 : decode cX4_startDistances 56 = .ok (.iload_n 2, 1) := by decide +kernel
theorem dX4_startDistances_57 : decode cX4_startDistances 57 = .ok (.invokevirtual 58, 3) := by decide +kernel
theorem dX4_startDistances_60 : decode cX4_startDistances 60 = .ok (.ifCond .eq 43, 3) := by decide +kernel
theorem dX4_startDistances_63 : decode cX4_startDistances 63 = .ok (.aload_n 0, 1) := by decide +kernel
theorem dX4_startDistances_64 : decode cX4_startDistances 64 = .ok (.iload_n 3, 1) := by decide +kernel
theorem dX4_startDistances_65 : decode cX4_startDistances 65 = .ok (.invokevirtual 58, 3) := by decide +kernel
theorem dX4_startDistances_68 : decode cX4_startDistances 68 = .ok (.ifCond .eq 35, 3) := by decide +kernel
theorem dX4_startDistances_71 : decode cX4_startDistances 71 = .ok (.aload_n 0, 1) := by decide +kernel
theorem dX4_startDistances_72 : decode cX4_startDistances 72 = .ok (.getfield 36, 3) := by decide +kernel
theorem dX4_startDistances_75 : decode cX4_startDistances 75 = .ok (.iload_n 2, 1) := by decide +kernel
theorem dX4_startDistances_76 : decode cX4_startDistances 76 = .ok (.bipush 9, 2) := by decide +kernel
theorem dX4_startDistances_78 : decode cX4_startDistances 78 = .ok (.imul, 1) := by decide +kernel
theorem dX4_startDistances_79 : decode cX4_startDistances 79 = .ok (.iload_n 3, 1) := by decide +kernel
theorem dX4_startDistances_80 : decode cX4_startDistances 80 = .ok (.iadd, 1) := by decide +kernel
theorem dX4_startDistances_81 : decode cX4_startDistances 81 = .ok (.aload_n 0, 1) := by decide +kernel
theorem dX4_startDistances_82 : decode cX4_startDistances 82 = .ok (.iload_n 1, 1) := by decide +kernel
theorem dX4_startDistances_83 : decode cX4_startDistances 83 = .ok (.invokevirtual 110, 3) := by decide +kernel
theorem dX4_startDistances_86 : decode cX4_startDistances 86 = .ok (.iastore, 1) := by decide +kernel
theorem dX4_startDistances_87 : decode cX4_startDistances 87 = .ok (.aload_n 0, 1) := by decide +kernel
theorem dX4_startDistances_88 : decode cX4_startDistances 88 = .ok (.getfield 36, 3) := by decide +kernel
theorem dX4_startDistances_91 : decode cX4_startDistances 91 = .ok (.iload_n 3, 1) := by decide +kernel
theorem dX4_startDistances_92 : decode cX4_startDistances 92 = .ok (.bipush 9, 2) := by decide +kernel
theorem dX4_startDistances_94 : decode cX4_startDistances 94 = .ok (.imul, 1) := by decide +kernel
theorem dX4_startDistances_95 : decode cX4_startDistances 95 = .ok (.iload_n 2, 1) := by decide +kernel
theorem dX4_startDistances_96 : decode cX4_startDistances 96 = .ok (.iadd, 1) := by decide +kernel
theorem dX4_startDistances_97 : decode cX4_startDistances 97 = .ok (.aload_n 0, 1) := by decide +kernel
theorem dX4_startDistances_98 : decode cX4_startDistances 98 = .ok (.iload_n 1, 1) := by decide +kernel
theorem dX4_startDistances_99 : decode cX4_startDistances 99 = .ok (.invokevirtual 110, 3) := by decide +kernel
theorem dX4_startDistances_102 : decode cX4_startDistances 102 = .ok (.iastore, 1) := by decide +kernel
theorem dX4_startDistances_103 : decode cX4_startDistances 103 = .ok (.iinc 1 1, 3) := by decide +kernel
theorem dX4_startDistances_106 : decode cX4_startDistances 106 = .ok (.goto (-71), 3) := by decide +kernel
theorem dX4_startDistances_109 : decode cX4_startDistances 109 = .ok (.return_, 1) := by decide +kernel
theorem dX4_shortenOver_0 : decode cX4_shortenOver 0 = .ok (.iload_n 1, 1) := by decide +kernel
theorem dX4_shortenOver_1 : decode cX4_shortenOver 1 = .ok (.ifCond .lt 9, 3) := by decide +kernel
theorem dX4_shortenOver_4 : decode cX4_shortenOver 4 = .ok (.iload_n 1, 1) := by decide +kernel
theorem dX4_shortenOver_5 : decode cX4_shortenOver 5 = .ok (.bipush 9, 2) := by decide +kernel
theorem dX4_shortenOver_7 : decode cX4_shortenOver 7 = .ok (.if_icmp .lt 4, 3) := by decide +kernel
theorem dX4_shortenOver_10 : decode cX4_shortenOver 10 = .ok (.return_, 1) := by decide +kernel
theorem dX4_shortenOver_11 : decode cX4_shortenOver 11 = .ok (.iconst 0, 1) := by decide +kernel
theorem dX4_shortenOver_12 : decode cX4_shortenOver 12 = .ok (.istore_n 2, 1) := by decide +kernel
theorem dX4_shortenOver_13 : decode cX4_shortenOver 13 = .ok (.iload_n 2, 1) := by decide +kernel
theorem dX4_shortenOver_14 : decode cX4_shortenOver 14 = .ok (.bipush 9, 2) := by decide +kernel
theorem dX4_shortenOver_16 : decode cX4_shortenOver 16 = .ok (.if_icmp .ge 75, 3) := by decide +kernel
theorem dX4_shortenOver_19 : decode cX4_shortenOver 19 = .ok (.iconst 0, 1) := by decide +kernel
theorem dX4_shortenOver_20 : decode cX4_shortenOver 20 = .ok (.istore_n 3, 1) := by decide +kernel
theorem dX4_shortenOver_21 : decode cX4_shortenOver 21 = .ok (.iload_n 3, 1) := by decide +kernel
theorem dX4_shortenOver_22 : decode cX4_shortenOver 22 = .ok (.bipush 9, 2) := by decide +kernel
theorem dX4_shortenOver_24 : decode cX4_shortenOver 24 = .ok (.if_icmp .ge 61, 3) := by decide +kernel
theorem dX4_shortenOver_27 : decode cX4_shortenOver 27 = .ok (.aload_n 0, 1) := by decide +kernel
theorem dX4_shortenOver_28 : decode cX4_shortenOver 28 = .ok (.getfield 36, 3) := by decide +kernel
theorem dX4_shortenOver_31 : decode cX4_shortenOver 31 = .ok (.iload_n 2, 1) := by decide +kernel
theorem dX4_shortenOver_32 : decode cX4_shortenOver 32 = .ok (.bipush 9, 2) := by decide +kernel
theorem dX4_shortenOver_34 : decode cX4_shortenOver 34 = .ok (.imul, 1) := by decide +kernel
theorem dX4_shortenOver_35 : decode cX4_shortenOver 35 = .ok (.iload_n 1, 1) := by decide +kernel
theorem dX4_shortenOver_36 : decode cX4_shortenOver 36 = .ok (.iadd, 1) := by decide +kernel
theorem dX4_shortenOver_37 : decode cX4_shortenOver 37 = .ok (.iaload, 1) := by decide +kernel
theorem dX4_shortenOver_38 : decode cX4_shortenOver 38 = .ok (.aload_n 0, 1) := by decide +kernel
theorem dX4_shortenOver_39 : decode cX4_shortenOver 39 = .ok (.getfield 36, 3) := by decide +kernel
theorem dX4_shortenOver_42 : decode cX4_shortenOver 42 = .ok (.iload_n 1, 1) := by decide +kernel
theorem dX4_shortenOver_43 : decode cX4_shortenOver 43 = .ok (.bipush 9, 2) := by decide +kernel
theorem dX4_shortenOver_45 : decode cX4_shortenOver 45 = .ok (.imul, 1) := by decide +kernel
theorem dX4_shortenOver_46 : decode cX4_shortenOver 46 = .ok (.iload_n 3, 1) := by decide +kernel
theorem dX4_shortenOver_47 : decode cX4_shortenOver 47 = .ok (.iadd, 1) := by decide +kernel
theorem dX4_shortenOver_48 : decode cX4_shortenOver 48 = .ok (.iaload, 1) := by decide +kernel
theorem dX4_shortenOver_49 : decode cX4_shortenOver 49 = .ok (.iadd, 1) := by decide +kernel
theorem dX4_shortenOver_50 : decode cX4_shortenOver 50 = .ok (.istore 4, 2) := by decide +kernel
theorem dX4_shortenOver_52 : decode cX4_shortenOver 52 = .ok (.aload_n 0, 1) := by decide +kernel
theorem dX4_shortenOver_53 : decode cX4_shortenOver 53 = .ok (.getfield 36, 3) := by decide +kernel
theorem dX4_shortenOver_56 : decode cX4_shortenOver 56 = .ok (.iload_n 2, 1) := by decide +kernel
theorem dX4_shortenOver_57 : decode cX4_shortenOver 57 = .ok (.bipush 9, 2) := by decide +kernel
theorem dX4_shortenOver_59 : decode cX4_shortenOver 59 = .ok (.imul, 1) := by decide +kernel
theorem dX4_shortenOver_60 : decode cX4_shortenOver 60 = .ok (.iload_n 3, 1) := by decide +kernel
theorem dX4_shortenOver_61 : decode cX4_shortenOver 61 = .ok (.iadd, 1) := by decide +kernel
theorem dX4_shortenOver_62 : decode cX4_shortenOver 62 = .ok (.aload_n 0, 1) := by decide +kernel
theorem dX4_shortenOver_63 : decode cX4_shortenOver 63 = .ok (.getfield 36, 3) := by decide +kernel
theorem dX4_shortenOver_66 : decode cX4_shortenOver 66 = .ok (.iload_n 2, 1) := by decide +kernel
theorem dX4_shortenOver_67 : decode cX4_shortenOver 67 = .ok (.bipush 9, 2) := by decide +kernel
theorem dX4_shortenOver_69 : decode cX4_shortenOver 69 = .ok (.imul, 1) := by decide +kernel
theorem dX4_shortenOver_70 : decode cX4_shortenOver 70 = .ok (.iload_n 3, 1) := by decide +kernel
theorem dX4_shortenOver_71 : decode cX4_shortenOver 71 = .ok (.iadd, 1) := by decide +kernel
theorem dX4_shortenOver_72 : decode cX4_shortenOver 72 = .ok (.iaload, 1) := by decide +kernel
theorem dX4_shortenOver_73 : decode cX4_shortenOver 73 = .ok (.iload 4, 2) := by decide +kernel
theorem dX4_shortenOver_75 : decode cX4_shortenOver 75 = .ok (.invokestatic 113, 3) := by decide +kernel
theorem dX4_shortenOver_78 : decode cX4_shortenOver 78 = .ok (.iastore, 1) := by decide +kernel
theorem dX4_shortenOver_79 : decode cX4_shortenOver 79 = .ok (.iinc 3 1, 3) := by decide +kernel
theorem dX4_shortenOver_82 : decode cX4_shortenOver 82 = .ok (.goto (-61), 3) := by decide +kernel
theorem dX4_shortenOver_85 : decode cX4_shortenOver 85 = .ok (.iinc 2 1, 3) := by decide +kernel
theorem dX4_shortenOver_88 : decode cX4_shortenOver 88 = .ok (.goto (-75), 3) := by decide +kernel
theorem dX4_shortenOver_91 : decode cX4_shortenOver 91 = .ok (.return_, 1) := by decide +kernel
theorem dX4_leastTrueArm_0 : decode cX4_leastTrueArm 0 = .ok (.iload_n 1, 1) := by decide +kernel
theorem dX4_leastTrueArm_1 : decode cX4_leastTrueArm 1 = .ok (.iload_n 2, 1) := by decide +kernel
theorem dX4_leastTrueArm_2 : decode cX4_leastTrueArm 2 = .ok (.if_icmp .eq 30, 3) := by decide +kernel
theorem dX4_leastTrueArm_5 : decode cX4_leastTrueArm 5 = .ok (.aload_n 0, 1) := by decide +kernel
theorem dX4_leastTrueArm_6 : decode cX4_leastTrueArm 6 = .ok (.iload_n 1, 1) := by decide +kernel
theorem dX4_leastTrueArm_7 : decode cX4_leastTrueArm 7 = .ok (.invokevirtual 58, 3) := by decide +kernel
theorem dX4_leastTrueArm_10 : decode cX4_leastTrueArm 10 = .ok (.ifCond .eq 22, 3) := by decide +kernel
theorem dX4_leastTrueArm_13 : decode cX4_leastTrueArm 13 = .ok (.aload_n 0, 1) := by decide +kernel
theorem dX4_leastTrueArm_14 : decode cX4_leastTrueArm 14 = .ok (.iload_n 2, 1) := by decide +kernel
theorem dX4_leastTrueArm_15 : decode cX4_leastTrueArm 15 = .ok (.invokevirtual 58, 3) := by decide +kernel
theorem dX4_leastTrueArm_18 : decode cX4_leastTrueArm 18 = .ok (.ifCond .eq 14, 3) := by decide +kernel
theorem dX4_leastTrueArm_21 : decode cX4_leastTrueArm 21 = .ok (.aload_n 0, 1) := by decide +kernel
theorem dX4_leastTrueArm_22 : decode cX4_leastTrueArm 22 = .ok (.iload_n 1, 1) := by decide +kernel
theorem dX4_leastTrueArm_23 : decode cX4_leastTrueArm 23 = .ok (.iload_n 2, 1) := by decide +kernel
theorem dX4_leastTrueArm_24 : decode cX4_leastTrueArm 24 = .ok (.invokevirtual 118, 3) := by decide +kernel
theorem dX4_leastTrueArm_27 : decode cX4_leastTrueArm 27 = .ok (.ldc 109, 2) := by decide +kernel
theorem dX4_leastTrueArm_29 : decode cX4_leastTrueArm 29 = .ok (.if_icmp .lt 5, 3) := by decide +kernel
theorem dX4_leastTrueArm_32 : decode cX4_leastTrueArm 32 = .ok (.iconst (-1), 1) := by decide +kernel
theorem dX4_leastTrueArm_33 : decode cX4_leastTrueArm 33 = .ok (.ireturn, 1) := by decide +kernel
theorem dX4_leastTrueArm_34 : decode cX4_leastTrueArm 34 = .ok (.iconst 0, 1) := by decide +kernel
theorem dX4_leastTrueArm_35 : decode cX4_leastTrueArm 35 = .ok (.istore_n 3, 1) := by decide +kernel
theorem dX4_leastTrueArm_36 : decode cX4_leastTrueArm 36 = .ok (.iload_n 3, 1) := by decide +kernel
theorem dX4_leastTrueArm_37 : decode cX4_leastTrueArm 37 = .ok (.aload_n 0, 1) := by decide +kernel
theorem dX4_leastTrueArm_38 : decode cX4_leastTrueArm 38 = .ok (.iload_n 1, 1) := by decide +kernel
theorem dX4_leastTrueArm_39 : decode cX4_leastTrueArm 39 = .ok (.invokevirtual 79, 3) := by decide +kernel
theorem dX4_leastTrueArm_42 : decode cX4_leastTrueArm 42 = .ok (.if_icmp .ge 47, 3) := by decide +kernel
theorem dX4_leastTrueArm_45 : decode cX4_leastTrueArm 45 = .ok (.aload_n 0, 1) := by decide +kernel
theorem dX4_leastTrueArm_46 : decode cX4_leastTrueArm 46 = .ok (.iload_n 1, 1) := by decide +kernel
theorem dX4_leastTrueArm_47 : decode cX4_leastTrueArm 47 = .ok (.iload_n 3, 1) := by decide +kernel
theorem dX4_leastTrueArm_48 : decode cX4_leastTrueArm 48 = .ok (.invokevirtual 82, 3) := by decide +kernel
theorem dX4_leastTrueArm_51 : decode cX4_leastTrueArm 51 = .ok (.istore 4, 2) := by decide +kernel
theorem dX4_leastTrueArm_53 : decode cX4_leastTrueArm 53 = .ok (.aload_n 0, 1) := by decide +kernel
theorem dX4_leastTrueArm_54 : decode cX4_leastTrueArm 54 = .ok (.iload 4, 2) := by decide +kernel
theorem dX4_leastTrueArm_56 : decode cX4_leastTrueArm 56 = .ok (.invokevirtual 110, 3) := by decide +kernel
theorem dX4_leastTrueArm_59 : decode cX4_leastTrueArm 59 = .ok (.aload_n 0, 1) := by decide +kernel
theorem dX4_leastTrueArm_60 : decode cX4_leastTrueArm 60 = .ok (.aload_n 0, 1) := by decide +kernel
theorem dX4_leastTrueArm_61 : decode cX4_leastTrueArm 61 = .ok (.iload_n 1, 1) := by decide +kernel
theorem dX4_leastTrueArm_62 : decode cX4_leastTrueArm 62 = .ok (.iload 4, 2) := by decide +kernel
theorem dX4_leastTrueArm_64 : decode cX4_leastTrueArm 64 = .ok (.invokevirtual 86, 3) := by decide +kernel
theorem dX4_leastTrueArm_67 : decode cX4_leastTrueArm 67 = .ok (.iload_n 2, 1) := by decide +kernel
theorem dX4_leastTrueArm_68 : decode cX4_leastTrueArm 68 = .ok (.invokevirtual 118, 3) := by decide +kernel
theorem dX4_leastTrueArm_71 : decode cX4_leastTrueArm 71 = .ok (.iadd, 1) := by decide +kernel
theorem dX4_leastTrueArm_72 : decode cX4_leastTrueArm 72 = .ok (.aload_n 0, 1) := by decide +kernel
theorem dX4_leastTrueArm_73 : decode cX4_leastTrueArm 73 = .ok (.iload_n 1, 1) := by decide +kernel
theorem dX4_leastTrueArm_74 : decode cX4_leastTrueArm 74 = .ok (.iload_n 2, 1) := by decide +kernel
theorem dX4_leastTrueArm_75 : decode cX4_leastTrueArm 75 = .ok (.invokevirtual 118, 3) := by decide +kernel
theorem dX4_leastTrueArm_78 : decode cX4_leastTrueArm 78 = .ok (.if_icmp .ne 5, 3) := by decide +kernel
theorem dX4_leastTrueArm_81 : decode cX4_leastTrueArm 81 = .ok (.iload_n 3, 1) := by decide +kernel
theorem dX4_leastTrueArm_82 : decode cX4_leastTrueArm 82 = .ok (.ireturn, 1) := by decide +kernel
theorem dX4_leastTrueArm_83 : decode cX4_leastTrueArm 83 = .ok (.iinc 3 1, 3) := by decide +kernel
theorem dX4_leastTrueArm_86 : decode cX4_leastTrueArm 86 = .ok (.goto (-50), 3) := by decide +kernel
theorem dX4_leastTrueArm_89 : decode cX4_leastTrueArm 89 = .ok (.iconst (-1), 1) := by decide +kernel
theorem dX4_leastTrueArm_90 : decode cX4_leastTrueArm 90 = .ok (.ireturn, 1) := by decide +kernel
theorem dX5_init_0 : decode cX5_init 0 = .ok (.aload_n 0, 1) := by decide +kernel
theorem dX5_init_1 : decode cX5_init 1 = .ok (.invokespecial 3, 3) := by decide +kernel
theorem dX5_init_4 : decode cX5_init 4 = .ok (.aload_n 0, 1) := by decide +kernel
theorem dX5_init_5 : decode cX5_init 5 = .ok (.aload_n 1, 1) := by decide +kernel
theorem dX5_init_6 : decode cX5_init 6 = .ok (.putfield 9, 3) := by decide +kernel
theorem dX5_init_9 : decode cX5_init 9 = .ok (.aload_n 0, 1) := by decide +kernel
theorem dX5_init_10 : decode cX5_init 10 = .ok (.aload_n 2, 1) := by decide +kernel
theorem dX5_init_11 : decode cX5_init 11 = .ok (.putfield 15, 3) := by decide +kernel
theorem dX5_init_14 : decode cX5_init 14 = .ok (.return_, 1) := by decide +kernel
theorem dX5_oddsToCome_0 : decode cX5_oddsToCome 0 = .ok (.aload_n 0, 1) := by decide +kernel
theorem dX5_oddsToCome_1 : decode cX5_oddsToCome 1 = .ok (.iload_n 2, 1) := by decide +kernel
theorem dX5_oddsToCome_2 : decode cX5_oddsToCome 2 = .ok (.putfield 19, 3) := by decide +kernel
theorem dX5_oddsToCome_5 : decode cX5_oddsToCome 5 = .ok (.aload_n 0, 1) := by decide +kernel
theorem dX5_oddsToCome_6 : decode cX5_oddsToCome 6 = .ok (.iload_n 3, 1) := by decide +kernel
theorem dX5_oddsToCome_7 : decode cX5_oddsToCome 7 = .ok (.putfield 23, 3) := by decide +kernel
theorem dX5_oddsToCome_10 : decode cX5_oddsToCome 10 = .ok (.aload_n 0, 1) := by decide +kernel
theorem dX5_oddsToCome_11 : decode cX5_oddsToCome 11 = .ok (.iload_n 1, 1) := by decide +kernel
theorem dX5_oddsToCome_12 : decode cX5_oddsToCome 12 = .ok (.iconst 0, 1) := by decide +kernel
theorem dX5_oddsToCome_13 : decode cX5_oddsToCome 13 = .ok (.ldc2_w 26, 3) := by decide +kernel
theorem dX5_oddsToCome_16 : decode cX5_oddsToCome 16 = .ok (.iconst 0, 1) := by decide +kernel
theorem dX5_oddsToCome_17 : decode cX5_oddsToCome 17 = .ok (.invokevirtual 28, 3) := by decide +kernel
theorem dX5_oddsToCome_20 : decode cX5_oddsToCome 20 = .ok (.l2i, 1) := by decide +kernel
theorem dX5_oddsToCome_21 : decode cX5_oddsToCome 21 = .ok (.ireturn, 1) := by decide +kernel
theorem dX5_shareThatComes_0 : decode cX5_shareThatComes 0 = .ok (.iload_n 1, 1) := by decide +kernel
theorem dX5_shareThatComes_1 : decode cX5_shareThatComes 1 = .ok (.aload_n 0, 1) := by decide +kernel
theorem dX5_shareThatComes_2 : decode cX5_shareThatComes 2 = .ok (.getfield 19, 3) := by decide +kernel
theorem dX5_shareThatComes_5 : decode cX5_shareThatComes 5 = .ok (.if_icmp .ne 5, 3) := by decide +kernel
theorem dX5_shareThatComes_8 : decode cX5_shareThatComes 8 = .ok (.lload_n 3, 1) := by decide +kernel
theorem dX5_shareThatComes_9 : decode cX5_shareThatComes 9 = .ok (.lreturn, 1) := by decide +kernel
theorem dX5_shareThatComes_10 : decode cX5_shareThatComes 10 = .ok (.aload_n 0, 1) := by decide +kernel
theorem dX5_shareThatComes_11 : decode cX5_shareThatComes 11 = .ok (.getfield 15, 3) := by decide +kernel
theorem dX5_shareThatComes_14 : decode cX5_shareThatComes 14 = .ok (.iload_n 1, 1) := by decide +kernel
theorem dX5_shareThatComes_15 : decode cX5_shareThatComes 15 = .ok (.aload_n 0, 1) := by decide +kernel
theorem dX5_shareThatComes_16 : decode cX5_shareThatComes 16 = .ok (.getfield 19, 3) := by decide +kernel
theorem dX5_shareThatComes_19 : decode cX5_shareThatComes 19 = .ok (.iconst 0, 1) := by decide +kernel
theorem dX5_shareThatComes_20 : decode cX5_shareThatComes 20 = .ok (.invokevirtual 32, 3) := by decide +kernel
theorem dX5_shareThatComes_23 : decode cX5_shareThatComes 23 = .ok (.istore 6, 2) := by decide +kernel
theorem dX5_shareThatComes_25 : decode cX5_shareThatComes 25 = .ok (.lload_n 3, 1) := by decide +kernel
theorem dX5_shareThatComes_26 : decode cX5_shareThatComes 26 = .ok (.lconst 0, 1) := by decide +kernel
theorem dX5_shareThatComes_27 : decode cX5_shareThatComes 27 = .ok (.lcmp, 1) := by decide +kernel
theorem dX5_shareThatComes_28 : decode cX5_shareThatComes 28 = .ok (.ifCond .eq 24, 3) := by decide +kernel
theorem dX5_shareThatComes_31 : decode cX5_shareThatComes 31 = .ok (.iload 5, 2) := by decide +kernel
theorem dX5_shareThatComes_33 : decode cX5_shareThatComes 33 = .ok (.bipush 9, 2) := by decide +kernel
theorem dX5_shareThatComes_35 : decode cX5_shareThatComes 35 = .ok (.if_icmp .gt 17, 3) := by decide +kernel
theorem dX5_shareThatComes_38 : decode cX5_shareThatComes 38 = .ok (.iload_n 2, 1) := by decide +kernel
theorem dX5_shareThatComes_39 : decode cX5_shareThatComes 39 = .ok (.iload_n 1, 1) := by decide +kernel
theorem dX5_shareThatComes_40 : decode cX5_shareThatComes 40 = .ok (.invokestatic 38, 3) := by decide +kernel
theorem dX5_shareThatComes_43 : decode cX5_shareThatComes 43 = .ok (.ifCond .ne 9, 3) := by decide +kernel
theorem dX5_shareThatComes_46 : decode cX5_shareThatComes 46 = .ok (.iload 6, 2) := by decide +kernel
theorem dX5_shareThatComes_48 : decode cX5_shareThatComes 48 = .ok (.iconst (-1), 1) := by decide +kernel
theorem dX5_shareThatComes_49 : decode cX5_shareThatComes 49 = .ok (.if_icmp .ne 5, 3) := by decide +kernel
theorem dX5_shareThatComes_52 : decode cX5_shareThatComes 52 = .ok (.lconst 0, 1) := by decide +kernel
theorem dX5_shareThatComes_53 : decode cX5_shareThatComes 53 = .ok (.lreturn, 1) := by decide +kernel
theorem dX5_shareThatComes_54 : decode cX5_shareThatComes 54 = .ok (.aload_n 0, 1) := by decide +kernel
theorem dX5_shareThatComes_55 : decode cX5_shareThatComes 55 = .ok (.iload_n 1, 1) := by decide +kernel
theorem dX5_shareThatComes_56 : decode cX5_shareThatComes 56 = .ok (.iload_n 2, 1) := by decide +kernel
theorem dX5_shareThatComes_57 : decode cX5_shareThatComes 57 = .ok (.iconst 1, 1) := by decide +kernel
theorem dX5_shareThatComes_58 : decode cX5_shareThatComes 58 = .ok (.iload_n 1, 1) := by decide +kernel
theorem dX5_shareThatComes_59 : decode cX5_shareThatComes 59 = .ok (.ishl, 1) := by decide +kernel
theorem dX5_shareThatComes_60 : decode cX5_shareThatComes 60 = .ok (.ior, 1) := by decide +kernel
theorem dX5_shareThatComes_61 : decode cX5_shareThatComes 61 = .ok (.lload_n 3, 1) := by decide +kernel
theorem dX5_shareThatComes_62 : decode cX5_shareThatComes 62 = .ok (.iload 5, 2) := by decide +kernel
theorem dX5_shareThatComes_64 : decode cX5_shareThatComes 64 = .ok (.invokevirtual 42, 3) := by decide +kernel
theorem dX5_shareThatComes_67 : decode cX5_shareThatComes 67 = .ok (.lreturn, 1) := by decide +kernel
theorem dX5_shareByTurns_0 : decode cX5_shareByTurns 0 = .ok (.aload_n 0, 1) := by decide +kernel
theorem dX5_shareByTurns_1 : decode cX5_shareByTurns 1 = .ok (.getfield 9, 3) := by decide +kernel
theorem dX5_shareByTurns_4 : decode cX5_shareByTurns 4 = .ok (.iload_n 1, 1) := by decide +kernel
theorem dX5_shareByTurns_5 : decode cX5_shareByTurns 5 = .ok (.invokevirtual 45, 3) := by decide +kernel
theorem dX5_shareByTurns_8 : decode cX5_shareByTurns 8 = .ok (.istore 6, 2) := by decide +kernel
theorem dX5_shareByTurns_10 : decode cX5_shareByTurns 10 = .ok (.iload 6, 2) := by decide +kernel
theorem dX5_shareByTurns_12 : decode cX5_shareByTurns 12 = .ok (.iconst 1, 1) := by decide +kernel
theorem dX5_shareByTurns_13 : decode cX5_shareByTurns 13 = .ok (.if_icmp .ne 7, 3) := by decide +kernel
theorem dX5_shareByTurns_16 : decode cX5_shareByTurns 16 = .ok (.lload_n 3, 1) := by decide +kernel
theorem dX5_shareByTurns_17 : decode cX5_shareByTurns 17 = .ok (.goto 17, 3) := by decide +kernel
theorem dX5_shareByTurns_20 : decode cX5_shareByTurns 20 = .ok (.lload_n 3, 1) := by decide +kernel
theorem dX5_shareByTurns_21 : decode cX5_shareByTurns 21 = .ok (.bipush 100, 2) := by decide +kernel
theorem dX5_shareByTurns_23 : decode cX5_shareByTurns 23 = .ok (.aload_n 0, 1) := by decide +kernel
theorem dX5_shareByTurns_24 : decode cX5_shareByTurns 24 = .ok (.getfield 23, 3) := by decide +kernel
theorem dX5_shareByTurns_27 : decode cX5_shareByTurns 27 = .ok (.isub, 1) := by decide +kernel
theorem dX5_shareByTurns_28 : decode cX5_shareByTurns 28 = .ok (.i2l, 1) := by decide +kernel
theorem dX5_shareByTurns_29 : decode cX5_shareByTurns 29 = .ok (.lmul, 1) := by decide +kernel
theorem dX5_shareByTurns_30 : decode cX5_shareByTurns 30 = .ok (.ldc2_w 51, 3) := by decide +kernel
theorem dX5_shareByTurns_33 : decode cX5_shareByTurns 33 = .ok (.ldiv, 1) := by decide +kernel
theorem dX5_shareByTurns_34 : decode cX5_shareByTurns 34 = .ok (.lstore 7, 2) := by decide +kernel
theorem dX5_shareByTurns_36 : decode cX5_shareByTurns 36 = .ok (.lload_n 3, 1) := by decide +kernel
theorem dX5_shareByTurns_37 : decode cX5_shareByTurns 37 = .ok (.lload 7, 2) := by decide +kernel
theorem dX5_shareByTurns_39 : decode cX5_shareByTurns 39 = .ok (.lsub, 1) := by decide +kernel
theorem dX5_shareByTurns_40 : decode cX5_shareByTurns 40 = .ok (.lstore 9, 2) := by decide +kernel
theorem dX5_shareByTurns_42 : decode cX5_shareByTurns 42 = .ok (.iload 6, 2) := by decide +kernel
theorem dX5_shareByTurns_44 : decode cX5_shareByTurns 44 = .ok (.iconst 1, 1) := by decide +kernel
theorem dX5_shareByTurns_45 : decode cX5_shareByTurns 45 = .ok (.isub, 1) := by decide +kernel
theorem dX5_shareByTurns_46 : decode cX5_shareByTurns 46 = .ok (.istore 11, 2) := by decide +kernel
theorem dX5_shareByTurns_48 : decode cX5_shareByTurns 48 = .ok (.lconst 0, 1) := by decide +kernel
theorem dX5_shareByTurns_49 : decode cX5_shareByTurns 49 = .ok (.lstore 12, 2) := by decide +kernel
theorem dX5_shareByTurns_51 : decode cX5_shareByTurns 51 = .ok (.iconst 0, 1) := by decide +kernel
theorem dX5_shareByTurns_52 : decode cX5_shareByTurns 52 = .ok (.istore 14, 2) := by decide +kernel
theorem dX5_shareByTurns_54 : decode cX5_shareByTurns 54 = .ok (.iload 14, 2) := by decide +kernel
theorem dX5_shareByTurns_56 : decode cX5_shareByTurns 56 = .ok (.iload 6, 2) := by decide +kernel
theorem dX5_shareByTurns_58 : decode cX5_shareByTurns 58 = .ok (.if_icmp .ge 116, 3) := by decide +kernel
theorem dX5_shareByTurns_61 : decode cX5_shareByTurns 61 = .ok (.lload 7, 2) := by decide +kernel
theorem dX5_shareByTurns_63 : decode cX5_shareByTurns 63 = .ok (.lstore 15, 2) := by decide +kernel
theorem dX5_shareByTurns_65 : decode cX5_shareByTurns 65 = .ok (.iload 14, 2) := by decide +kernel
theorem dX5_shareByTurns_67 : decode cX5_shareByTurns 67 = .ok (.aload_n 0, 1) := by decide +kernel
theorem dX5_shareByTurns_68 : decode cX5_shareByTurns 68 = .ok (.getfield 15, 3) := by decide +kernel
theorem dX5_shareByTurns_71 : decode cX5_shareByTurns 71 = .ok (.iload_n 1, 1) := by decide +kernel
theorem dX5_shareByTurns_72 : decode cX5_shareByTurns 72 = .ok (.invokevirtual 53, 3) := by decide +kernel
theorem dX5_shareByTurns_75 : decode cX5_shareByTurns 75 = .ok (.if_icmp .eq 31, 3) := by decide +kernel
theorem dX5_shareByTurns_78 : decode cX5_shareByTurns 78 = .ok (.iload 11, 2) := by decide +kernel
theorem dX5_shareByTurns_80 : decode cX5_shareByTurns 80 = .ok (.ifCond .le 12, 3) := by decide +kernel
theorem dX5_shareByTurns_83 : decode cX5_shareByTurns 83 = .ok (.lload 9, 2) := by decide +kernel
theorem dX5_shareByTurns_85 : decode cX5_shareByTurns 85 = .ok (.iload 11, 2) := by decide +kernel
theorem dX5_shareByTurns_87 : decode cX5_shareByTurns 87 = .ok (.i2l, 1) := by decide +kernel
theorem dX5_shareByTurns_88 : decode cX5_shareByTurns 88 = .ok (.ldiv, 1) := by decide +kernel
theorem dX5_shareByTurns_89 : decode cX5_shareByTurns 89 = .ok (.goto 5, 3) := by decide +kernel
theorem dX5_shareByTurns_92 : decode cX5_shareByTurns 92 = .ok (.lload 9, 2) := by decide +kernel
theorem dX5_shareByTurns_94 : decode cX5_shareByTurns 94 = .ok (.lstore 15, 2) := by decide +kernel
theorem dX5_shareByTurns_96 : decode cX5_shareByTurns 96 = .ok (.lload 9, 2) := by decide +kernel
theorem dX5_shareByTurns_98 : decode cX5_shareByTurns 98 = .ok (.lload 15, 2) := by decide +kernel
theorem dX5_shareByTurns_100 : decode cX5_shareByTurns 100 = .ok (.lsub, 1) := by decide +kernel
theorem dX5_shareByTurns_101 : decode cX5_shareByTurns 101 = .ok (.lstore 9, 2) := by decide +kernel
theorem dX5_shareByTurns_103 : decode cX5_shareByTurns 103 = .ok (.iinc 11 (-1), 3) := by decide +kernel
theorem dX5_shareByTurns_106 : decode cX5_shareByTurns 106 = .ok (.aload_n 0, 1) := by decide +kernel
theorem dX5_shareByTurns_107 : decode cX5_shareByTurns 107 = .ok (.getfield 15, 3) := by decide +kernel
theorem dX5_shareByTurns_110 : decode cX5_shareByTurns 110 = .ok (.iload_n 1, 1) := by decide +kernel
theorem dX5_shareByTurns_111 : decode cX5_shareByTurns 111 = .ok (.aload_n 0, 1) := by decide +kernel
theorem dX5_shareByTurns_112 : decode cX5_shareByTurns 112 = .ok (.getfield 9, 3) := by decide +kernel
theorem dX5_shareByTurns_115 : decode cX5_shareByTurns 115 = .ok (.iload_n 1, 1) := by decide +kernel
theorem dX5_shareByTurns_116 : decode cX5_shareByTurns 116 = .ok (.aload_n 0, 1) := by decide +kernel
theorem dX5_shareByTurns_117 : decode cX5_shareByTurns 117 = .ok (.getfield 19, 3) := by decide +kernel
theorem dX5_shareByTurns_120 : decode cX5_shareByTurns 120 = .ok (.invokevirtual 56, 3) := by decide +kernel
theorem dX5_shareByTurns_123 : decode cX5_shareByTurns 123 = .ok (.iload 14, 2) := by decide +kernel
theorem dX5_shareByTurns_125 : decode cX5_shareByTurns 125 = .ok (.invokevirtual 60, 3) := by decide +kernel
theorem dX5_shareByTurns_128 : decode cX5_shareByTurns 128 = .ok (.istore 17, 2) := by decide +kernel
theorem dX5_shareByTurns_130 : decode cX5_shareByTurns 130 = .ok (.aload_n 0, 1) := by decide +kernel
theorem dX5_shareByTurns_131 : decode cX5_shareByTurns 131 = .ok (.getfield 9, 3) := by decide +kernel
theorem dX5_shareByTurns_134 : decode cX5_shareByTurns 134 = .ok (.iload_n 1, 1) := by decide +kernel
theorem dX5_shareByTurns_135 : decode cX5_shareByTurns 135 = .ok (.aload_n 0, 1) := by decide +kernel
theorem dX5_shareByTurns_136 : decode cX5_shareByTurns 136 = .ok (.getfield 9, 3) := by decide +kernel
theorem dX5_shareByTurns_139 : decode cX5_shareByTurns 139 = .ok (.iload_n 1, 1) := by decide +kernel
theorem dX5_shareByTurns_140 : decode cX5_shareByTurns 140 = .ok (.iload 17, 2) := by decide +kernel
theorem dX5_shareByTurns_142 : decode cX5_shareByTurns 142 = .ok (.invokevirtual 63, 3) := by decide +kernel
theorem dX5_shareByTurns_145 : decode cX5_shareByTurns 145 = .ok (.invokevirtual 66, 3) := by decide +kernel
theorem dX5_shareByTurns_148 : decode cX5_shareByTurns 148 = .ok (.istore 18, 2) := by decide +kernel
theorem dX5_shareByTurns_150 : decode cX5_shareByTurns 150 = .ok (.lload 12, 2) := by decide +kernel
theorem dX5_shareByTurns_152 : decode cX5_shareByTurns 152 = .ok (.aload_n 0, 1) := by decide +kernel
theorem dX5_shareByTurns_153 : decode cX5_shareByTurns 153 = .ok (.iload 18, 2) := by decide +kernel
theorem dX5_shareByTurns_155 : decode cX5_shareByTurns 155 = .ok (.iload_n 2, 1) := by decide +kernel
theorem dX5_shareByTurns_156 : decode cX5_shareByTurns 156 = .ok (.lload 15, 2) := by decide +kernel
theorem dX5_shareByTurns_158 : decode cX5_shareByTurns 158 = .ok (.iload 5, 2) := by decide +kernel
theorem dX5_shareByTurns_160 : decode cX5_shareByTurns 160 = .ok (.iconst 1, 1) := by decide +kernel
theorem dX5_shareByTurns_161 : decode cX5_shareByTurns 161 = .ok (.iadd, 1) := by decide +kernel
theorem dX5_shareByTurns_162 : decode cX5_shareByTurns 162 = .ok (.invokevirtual 28, 3) := by decide +kernel
theorem dX5_shareByTurns_165 : decode cX5_shareByTurns 165 = .ok (.ladd, 1) := by decide +kernel
theorem dX5_shareByTurns_166 : decode cX5_shareByTurns 166 = .ok (.lstore 12, 2) := by decide +kernel
theorem dX5_shareByTurns_168 : decode cX5_shareByTurns 168 = .ok (.iinc 14 1, 3) := by decide +kernel
theorem dX5_shareByTurns_171 : decode cX5_shareByTurns 171 = .ok (.goto (-117), 3) := by decide +kernel
theorem dX5_shareByTurns_174 : decode cX5_shareByTurns 174 = .ok (.lload 12, 2) := by decide +kernel
theorem dX5_shareByTurns_176 : decode cX5_shareByTurns 176 = .ok (.lreturn, 1) := by decide +kernel
theorem dX6_init_0 : decode cX6_init 0 = .ok (.aload_n 0, 1) := by decide +kernel
theorem dX6_init_1 : decode cX6_init 1 = .ok (.invokespecial 3, 3) := by decide +kernel
theorem dX6_init_4 : decode cX6_init 4 = .ok (.aload_n 0, 1) := by decide +kernel
theorem dX6_init_5 : decode cX6_init 5 = .ok (.bipush 9, 2) := by decide +kernel
theorem dX6_init_7 : decode cX6_init 7 = .ok (.newarray .int, 2) := by decide +kernel
theorem dX6_init_9 : decode cX6_init 9 = .ok (.putfield 9, 3) := by decide +kernel
theorem dX6_init_12 : decode cX6_init 12 = .ok (.aload_n 0, 1) := by decide +kernel
theorem dX6_init_13 : decode cX6_init 13 = .ok (.bipush 9, 2) := by decide +kernel
theorem dX6_init_15 : decode cX6_init 15 = .ok (.newarray .int, 2) := by decide +kernel
theorem dX6_init_17 : decode cX6_init 17 = .ok (.putfield 15, 3) := by decide +kernel
theorem dX6_init_20 : decode cX6_init 20 = .ok (.aload_n 0, 1) := by decide +kernel
theorem dX6_init_21 : decode cX6_init 21 = .ok (.bipush 81, 2) := by decide +kernel
theorem dX6_init_23 : decode cX6_init 23 = .ok (.newarray .int, 2) := by decide +kernel
theorem dX6_init_25 : decode cX6_init 25 = .ok (.putfield 18, 3) := by decide +kernel
theorem dX6_init_28 : decode cX6_init 28 = .ok (.aload_n 0, 1) := by decide +kernel
theorem dX6_init_29 : decode cX6_init 29 = .ok (.aload_n 1, 1) := by decide +kernel
theorem dX6_init_30 : decode cX6_init 30 = .ok (.putfield 21, 3) := by decide +kernel
theorem dX6_init_33 : decode cX6_init 33 = .ok (.return_, 1) := by decide +kernel
theorem dX6_become_0 : decode cX6_become 0 = .ok (.aload_n 1, 1) := by decide +kernel
theorem dX6_become_1 : decode cX6_become 1 = .ok (.getfield 9, 3) := by decide +kernel
theorem dX6_become_4 : decode cX6_become 4 = .ok (.iconst 0, 1) := by decide +kernel
theorem dX6_become_5 : decode cX6_become 5 = .ok (.aload_n 0, 1) := by decide +kernel
theorem dX6_become_6 : decode cX6_become 6 = .ok (.getfield 9, 3) := by decide +kernel
theorem dX6_become_9 : decode cX6_become 9 = .ok (.iconst 0, 1) := by decide +kernel
theorem dX6_become_10 : decode cX6_become 10 = .ok (.bipush 9, 2) := by decide +kernel
theorem dX6_become_12 : decode cX6_become 12 = .ok (.invokestatic 25, 3) := by decide +kernel
theorem dX6_become_15 : decode cX6_become 15 = .ok (.aload_n 1, 1) := by decide +kernel
theorem dX6_become_16 : decode cX6_become 16 = .ok (.getfield 15, 3) := by decide +kernel
theorem dX6_become_19 : decode cX6_become 19 = .ok (.iconst 0, 1) := by decide +kernel
theorem dX6_become_20 : decode cX6_become 20 = .ok (.aload_n 0, 1) := by decide +kernel
theorem dX6_become_21 : decode cX6_become 21 = .ok (.getfield 15, 3) := by decide +kernel
theorem dX6_become_24 : decode cX6_become 24 = .ok (.iconst 0, 1) := by decide +kernel
theorem dX6_become_25 : decode cX6_become 25 = .ok (.bipush 9, 2) := by decide +kernel
theorem dX6_become_27 : decode cX6_become 27 = .ok (.invokestatic 25, 3) := by decide +kernel
theorem dX6_become_30 : decode cX6_become 30 = .ok (.aload_n 1, 1) := by decide +kernel
theorem dX6_become_31 : decode cX6_become 31 = .ok (.getfield 18, 3) := by decide +kernel
theorem dX6_become_34 : decode cX6_become 34 = .ok (.iconst 0, 1) := by decide +kernel
theorem dX6_become_35 : decode cX6_become 35 = .ok (.aload_n 0, 1) := by decide +kernel
theorem dX6_become_36 : decode cX6_become 36 = .ok (.getfield 18, 3) := by decide +kernel
theorem dX6_become_39 : decode cX6_become 39 = .ok (.iconst 0, 1) := by decide +kernel
theorem dX6_become_40 : decode cX6_become 40 = .ok (.bipush 81, 2) := by decide +kernel
theorem dX6_become_42 : decode cX6_become 42 = .ok (.invokestatic 25, 3) := by decide +kernel
theorem dX6_become_45 : decode cX6_become 45 = .ok (.return_, 1) := by decide +kernel
theorem dX6_setAllRight_0 : decode cX6_setAllRight 0 = .ok (.iconst 0, 1) := by decide +kernel
theorem dX6_setAllRight_1 : decode cX6_setAllRight 1 = .ok (.istore_n 1, 1) := by decide +kernel
theorem dX6_setAllRight_2 : decode cX6_setAllRight 2 = .ok (.iload_n 1, 1) := by decide +kernel
theorem dX6_setAllRight_3 : decode cX6_setAllRight 3 = .ok (.aload_n 0, 1) := by decide +kernel
theorem dX6_setAllRight_4 : decode cX6_setAllRight 4 = .ok (.getfield 21, 3) := by decide +kernel
theorem dX6_setAllRight_7 : decode cX6_setAllRight 7 = .ok (.invokevirtual 31, 3) := by decide +kernel
theorem dX6_setAllRight_10 : decode cX6_setAllRight 10 = .ok (.if_icmp .ge 14, 3) := by decide +kernel
theorem dX6_setAllRight_13 : decode cX6_setAllRight 13 = .ok (.aload_n 0, 1) := by decide +kernel
theorem dX6_setAllRight_14 : decode cX6_setAllRight 14 = .ok (.iload_n 1, 1) := by decide +kernel
theorem dX6_setAllRight_15 : decode cX6_setAllRight 15 = .ok (.invokevirtual 37, 3) := by decide +kernel
theorem dX6_setAllRight_18 : decode cX6_setAllRight 18 = .ok (.iinc 1 1, 3) := by decide +kernel
theorem dX6_setAllRight_21 : decode cX6_setAllRight 21 = .ok (.goto (-19), 3) := by decide +kernel
theorem dX6_setAllRight_24 : decode cX6_setAllRight 24 = .ok (.return_, 1) := by decide +kernel
theorem dX6_setRight_0 : decode cX6_setRight 0 = .ok (.aload_n 0, 1) := by decide +kernel
theorem dX6_setRight_1 : decode cX6_setRight 1 = .ok (.getfield 21, 3) := by decide +kernel
theorem dX6_setRight_4 : decode cX6_setRight 4 = .ok (.iload_n 1, 1) := by decide +kernel
theorem dX6_setRight_5 : decode cX6_setRight 5 = .ok (.invokevirtual 41, 3) := by decide +kernel
theorem dX6_setRight_8 : decode cX6_setRight 8 = .ok (.ifCond .eq 51, 3) := by decide +kernel
theorem dX6_setRight_11 : decode cX6_setRight 11 = .ok (.aload_n 0, 1) := by decide +kernel
theorem dX6_setRight_12 : decode cX6_setRight 12 = .ok (.getfield 9, 3) := by decide +kernel
theorem dX6_setRight_15 : decode cX6_setRight 15 = .ok (.iload_n 1, 1) := by decide +kernel
theorem dX6_setRight_16 : decode cX6_setRight 16 = .ok (.iconst 0, 1) := by decide +kernel
theorem dX6_setRight_17 : decode cX6_setRight 17 = .ok (.iastore, 1) := by decide +kernel
theorem dX6_setRight_18 : decode cX6_setRight 18 = .ok (.aload_n 0, 1) := by decide +kernel
theorem dX6_setRight_19 : decode cX6_setRight 19 = .ok (.getfield 15, 3) := by decide +kernel
theorem dX6_setRight_22 : decode cX6_setRight 22 = .ok (.iload_n 1, 1) := by decide +kernel
theorem dX6_setRight_23 : decode cX6_setRight 23 = .ok (.iconst 0, 1) := by decide +kernel
theorem dX6_setRight_24 : decode cX6_setRight 24 = .ok (.iastore, 1) := by decide +kernel
theorem dX6_setRight_25 : decode cX6_setRight 25 = .ok (.iconst 0, 1) := by decide +kernel
theorem dX6_setRight_26 : decode cX6_setRight 26 = .ok (.istore_n 2, 1) := by decide +kernel
theorem dX6_setRight_27 : decode cX6_setRight 27 = .ok (.iload_n 2, 1) := by decide +kernel
theorem dX6_setRight_28 : decode cX6_setRight 28 = .ok (.bipush 9, 2) := by decide +kernel
theorem dX6_setRight_30 : decode cX6_setRight 30 = .ok (.if_icmp .ge 29, 3) := by decide +kernel
theorem dX6_setRight_33 : decode cX6_setRight 33 = .ok (.aload_n 0, 1) := by decide +kernel
theorem dX6_setRight_34 : decode cX6_setRight 34 = .ok (.getfield 18, 3) := by decide +kernel
theorem dX6_setRight_37 : decode cX6_setRight 37 = .ok (.iload_n 1, 1) := by decide +kernel
theorem dX6_setRight_38 : decode cX6_setRight 38 = .ok (.bipush 9, 2) := by decide +kernel
theorem dX6_setRight_40 : decode cX6_setRight 40 = .ok (.imul, 1) := by decide +kernel
theorem dX6_setRight_41 : decode cX6_setRight 41 = .ok (.iload_n 2, 1) := by decide +kernel
theorem dX6_setRight_42 : decode cX6_setRight 42 = .ok (.iadd, 1) := by decide +kernel
theorem dX6_setRight_43 : decode cX6_setRight 43 = .ok (.aload_n 0, 1) := by decide +kernel
theorem dX6_setRight_44 : decode cX6_setRight 44 = .ok (.getfield 21, 3) := by decide +kernel
theorem dX6_setRight_47 : decode cX6_setRight 47 = .ok (.iload_n 1, 1) := by decide +kernel
theorem dX6_setRight_48 : decode cX6_setRight 48 = .ok (.iload_n 2, 1) := by decide +kernel
theorem dX6_setRight_49 : decode cX6_setRight 49 = .ok (.invokevirtual 45, 3) := by decide +kernel
theorem dX6_setRight_52 : decode cX6_setRight 52 = .ok (.iastore, 1) := by decide +kernel
theorem dX6_setRight_53 : decode cX6_setRight 53 = .ok (.iinc 2 1, 3) := by decide +kernel
theorem dX6_setRight_56 : decode cX6_setRight 56 = .ok (.goto (-29), 3) := by decide +kernel
theorem dX6_setRight_59 : decode cX6_setRight 59 = .ok (.return_, 1) := by decide +kernel
theorem dX6_isRight_0 : decode cX6_isRight 0 = .ok (.iconst 0, 1) := by decide +kernel
theorem dX6_isRight_1 : decode cX6_isRight 1 = .ok (.istore_n 2, 1) := by decide +kernel
theorem dX6_isRight_2 : decode cX6_isRight 2 = .ok (.iload_n 2, 1) := by decide +kernel
theorem dX6_isRight_3 : decode cX6_isRight 3 = .ok (.aload_n 0, 1) := by decide +kernel
theorem dX6_isRight_4 : decode cX6_isRight 4 = .ok (.getfield 21, 3) := by decide +kernel
theorem dX6_isRight_7 : decode cX6_isRight 7 = .ok (.invokevirtual 31, 3) := by decide +kernel
theorem dX6_isRight_10 : decode cX6_isRight 10 = .ok (.if_icmp .ge 29, 3) := by decide +kernel
theorem dX6_isRight_13 : decode cX6_isRight 13 = .ok (.aload_n 0, 1) := by decide +kernel
theorem dX6_isRight_14 : decode cX6_isRight 14 = .ok (.iload_n 1, 1) := by decide +kernel
theorem dX6_isRight_15 : decode cX6_isRight 15 = .ok (.iload_n 2, 1) := by decide +kernel
theorem dX6_isRight_16 : decode cX6_isRight 16 = .ok (.invokevirtual 49, 3) := by decide +kernel
theorem dX6_isRight_19 : decode cX6_isRight 19 = .ok (.aload_n 0, 1) := by decide +kernel
theorem dX6_isRight_20 : decode cX6_isRight 20 = .ok (.getfield 21, 3) := by decide +kernel
theorem dX6_isRight_23 : decode cX6_isRight 23 = .ok (.iload_n 1, 1) := by decide +kernel
theorem dX6_isRight_24 : decode cX6_isRight 24 = .ok (.iload_n 2, 1) := by decide +kernel
theorem dX6_isRight_25 : decode cX6_isRight 25 = .ok (.invokevirtual 45, 3) := by decide +kernel
theorem dX6_isRight_28 : decode cX6_isRight 28 = .ok (.if_icmp .eq 5, 3) := by decide +kernel
theorem dX6_isRight_31 : decode cX6_isRight 31 = .ok (.iconst 0, 1) := by decide +kernel
theorem dX6_isRight_32 : decode cX6_isRight 32 = .ok (.ireturn, 1) := by decide +kernel
theorem dX6_isRight_33 : decode cX6_isRight 33 = .ok (.iinc 2 1, 3) := by decide +kernel
theorem dX6_isRight_36 : decode cX6_isRight 36 = .ok (.goto (-34), 3) := by decide +kernel
theorem dX6_isRight_39 : decode cX6_isRight 39 = .ok (.aload_n 0, 1) := by decide +kernel
theorem dX6_isRight_40 : decode cX6_isRight 40 = .ok (.iload_n 1, 1) := by decide +kernel
theorem dX6_isRight_41 : decode cX6_isRight 41 = .ok (.invokevirtual 52, 3) := by decide +kernel
theorem dX6_isRight_44 : decode cX6_isRight 44 = .ok (.ifCond .ne 7, 3) := by decide +kernel
theorem dX6_isRight_47 : decode cX6_isRight 47 = .ok (.iconst 1, 1) := by decide +kernel
theorem dX6_isRight_48 : decode cX6_isRight 48 = .ok (.goto 4, 3) := by decide +kernel
theorem dX6_isRight_51 : decode cX6_isRight 51 = .ok (.iconst 0, 1) := by decide +kernel
theorem dX6_isRight_52 : decode cX6_isRight 52 = .ok (.ireturn, 1) := by decide +kernel
theorem dX6_leadsAstray_0 : decode cX6_leadsAstray 0 = .ok (.aload_n 0, 1) := by decide +kernel
theorem dX6_leadsAstray_1 : decode cX6_leadsAstray 1 = .ok (.iload_n 1, 1) := by decide +kernel
theorem dX6_leadsAstray_2 : decode cX6_leadsAstray 2 = .ok (.invokevirtual 55, 3) := by decide +kernel
theorem dX6_leadsAstray_5 : decode cX6_leadsAstray 5 = .ok (.ifCond .ne 11, 3) := by decide +kernel
theorem dX6_leadsAstray_8 : decode cX6_leadsAstray 8 = .ok (.aload_n 0, 1) := by decide +kernel
theorem dX6_leadsAstray_9 : decode cX6_leadsAstray 9 = .ok (.iload_n 1, 1) := by decide +kernel
theorem dX6_leadsAstray_10 : decode cX6_leadsAstray 10 = .ok (.invokevirtual 59, 3) := by decide +kernel
theorem dX6_leadsAstray_13 : decode cX6_leadsAstray 13 = .ok (.ifCond .eq 7, 3) := by decide +kernel
theorem dX6_leadsAstray_16 : decode cX6_leadsAstray 16 = .ok (.iconst 1, 1) := by decide +kernel
theorem dX6_leadsAstray_17 : decode cX6_leadsAstray 17 = .ok (.goto 4, 3) := by decide +kernel
theorem dX6_leadsAstray_20 : decode cX6_leadsAstray 20 = .ok (.iconst 0, 1) := by decide +kernel
theorem dX6_leadsAstray_21 : decode cX6_leadsAstray 21 = .ok (.ireturn, 1) := by decide +kernel
theorem dX6_turnOf_0 : decode cX6_turnOf 0 = .ok (.aload_n 0, 1) := by decide +kernel
theorem dX6_turnOf_1 : decode cX6_turnOf 1 = .ok (.getfield 21, 3) := by decide +kernel
theorem dX6_turnOf_4 : decode cX6_turnOf 4 = .ok (.iload_n 1, 1) := by decide +kernel
theorem dX6_turnOf_5 : decode cX6_turnOf 5 = .ok (.invokevirtual 41, 3) := by decide +kernel
theorem dX6_turnOf_8 : decode cX6_turnOf 8 = .ok (.ifCond .eq 12, 3) := by decide +kernel
theorem dX6_turnOf_11 : decode cX6_turnOf 11 = .ok (.aload_n 0, 1) := by decide +kernel
theorem dX6_turnOf_12 : decode cX6_turnOf 12 = .ok (.getfield 9, 3) := by decide +kernel
theorem dX6_turnOf_15 : decode cX6_turnOf 15 = .ok (.iload_n 1, 1) := by decide +kernel
theorem dX6_turnOf_16 : decode cX6_turnOf 16 = .ok (.iaload, 1) := by decide +kernel
theorem dX6_turnOf_17 : decode cX6_turnOf 17 = .ok (.goto 4, 3) := by decide +kernel
theorem dX6_turnOf_20 : decode cX6_turnOf 20 = .ok (.iconst 0, 1) := by decide +kernel
theorem dX6_turnOf_21 : decode cX6_turnOf 21 = .ok (.ireturn, 1) := by decide +kernel
theorem dX6_fallenSet_0 : decode cX6_fallenSet 0 = .ok (.aload_n 0, 1) := by decide +kernel
theorem dX6_fallenSet_1 : decode cX6_fallenSet 1 = .ok (.getfield 21, 3) := by decide +kernel
theorem dX6_fallenSet_4 : decode cX6_fallenSet 4 = .ok (.iload_n 1, 1) := by decide +kernel
theorem dX6_fallenSet_5 : decode cX6_fallenSet 5 = .ok (.invokevirtual 41, 3) := by decide +kernel
theorem dX6_fallenSet_8 : decode cX6_fallenSet 8 = .ok (.ifCond .eq 12, 3) := by decide +kernel
theorem dX6_fallenSet_11 : decode cX6_fallenSet 11 = .ok (.aload_n 0, 1) := by decide +kernel
theorem dX6_fallenSet_12 : decode cX6_fallenSet 12 = .ok (.getfield 15, 3) := by decide +kernel
theorem dX6_fallenSet_15 : decode cX6_fallenSet 15 = .ok (.iload_n 1, 1) := by decide +kernel
theorem dX6_fallenSet_16 : decode cX6_fallenSet 16 = .ok (.iaload, 1) := by decide +kernel
theorem dX6_fallenSet_17 : decode cX6_fallenSet 17 = .ok (.goto 4, 3) := by decide +kernel
theorem dX6_fallenSet_20 : decode cX6_fallenSet 20 = .ok (.iconst 0, 1) := by decide +kernel
theorem dX6_fallenSet_21 : decode cX6_fallenSet 21 = .ok (.ireturn, 1) := by decide +kernel
theorem dX6_hasFallen_0 : decode cX6_hasFallen 0 = .ok (.aload_n 0, 1) := by decide +kernel
theorem dX6_hasFallen_1 : decode cX6_hasFallen 1 = .ok (.getfield 21, 3) := by decide +kernel
theorem dX6_hasFallen_4 : decode cX6_hasFallen 4 = .ok (.iload_n 1, 1) := by decide +kernel
theorem dX6_hasFallen_5 : decode cX6_hasFallen 5 = .ok (.invokevirtual 41, 3) := by decide +kernel
theorem dX6_hasFallen_8 : decode cX6_hasFallen 8 = .ok (.ifCond .eq 20, 3) := by decide +kernel
theorem dX6_hasFallen_11 : decode cX6_hasFallen 11 = .ok (.aload_n 0, 1) := by decide +kernel
theorem dX6_hasFallen_12 : decode cX6_hasFallen 12 = .ok (.getfield 15, 3) := by decide +kernel
theorem dX6_hasFallen_15 : decode cX6_hasFallen 15 = .ok (.iload_n 1, 1) := by decide +kernel
theorem dX6_hasFallen_16 : decode cX6_hasFallen 16 = .ok (.iaload, 1) := by decide +kernel
theorem dX6_hasFallen_17 : decode cX6_hasFallen 17 = .ok (.iload_n 2, 1) := by decide +kernel
theorem dX6_hasFallen_18 : decode cX6_hasFallen 18 = .ok (.invokestatic 62, 3) := by decide +kernel
theorem dX6_hasFallen_21 : decode cX6_hasFallen 21 = .ok (.ifCond .eq 7, 3) := by decide +kernel
theorem dX6_hasFallen_24 : decode cX6_hasFallen 24 = .ok (.iconst 1, 1) := by decide +kernel
theorem dX6_hasFallen_25 : decode cX6_hasFallen 25 = .ok (.goto 4, 3) := by decide +kernel
theorem dX6_hasFallen_28 : decode cX6_hasFallen 28 = .ok (.iconst 0, 1) := by decide +kernel
theorem dX6_hasFallen_29 : decode cX6_hasFallen 29 = .ok (.ireturn, 1) := by decide +kernel
theorem dX6_astraySet_0 : decode cX6_astraySet 0 = .ok (.iconst 0, 1) := by decide +kernel
theorem dX6_astraySet_1 : decode cX6_astraySet 1 = .ok (.istore_n 1, 1) := by decide +kernel
theorem dX6_astraySet_2 : decode cX6_astraySet 2 = .ok (.iconst 0, 1) := by decide +kernel
theorem dX6_astraySet_3 : decode cX6_astraySet 3 = .ok (.istore_n 2, 1) := by decide +kernel
theorem dX6_astraySet_4 : decode cX6_astraySet 4 = .ok (.iload_n 2, 1) := by decide +kernel
theorem dX6_astraySet_5 : decode cX6_astraySet 5 = .ok (.aload_n 0, 1) := by decide +kernel
theorem dX6_astraySet_6 : decode cX6_astraySet 6 = .ok (.getfield 21, 3) := by decide +kernel
theorem dX6_astraySet_9 : decode cX6_astraySet 9 = .ok (.invokevirtual 31, 3) := by decide +kernel
theorem dX6_astraySet_12 : decode cX6_astraySet 12 = .ok (.if_icmp .ge 23, 3) := by decide +kernel
theorem dX6_astraySet_15 : decode cX6_astraySet 15 = .ok (.aload_n 0, 1) := by decide +kernel
theorem dX6_astraySet_16 : decode cX6_astraySet 16 = .ok (.iload_n 2, 1) := by decide +kernel
theorem dX6_astraySet_17 : decode cX6_astraySet 17 = .ok (.invokevirtual 52, 3) := by decide +kernel
theorem dX6_astraySet_20 : decode cX6_astraySet 20 = .ok (.ifCond .eq 9, 3) := by decide +kernel
theorem dX6_astraySet_23 : decode cX6_astraySet 23 = .ok (.iload_n 1, 1) := by decide +kernel
theorem dX6_astraySet_24 : decode cX6_astraySet 24 = .ok (.iconst 1, 1) := by decide +kernel
theorem dX6_astraySet_25 : decode cX6_astraySet 25 = .ok (.iload_n 2, 1) := by decide +kernel
theorem dX6_astraySet_26 : decode cX6_astraySet 26 = .ok (.ishl, 1) := by decide +kernel
theorem dX6_astraySet_27 : decode cX6_astraySet 27 = .ok (.ior, 1) := by decide +kernel
theorem dX6_astraySet_28 : decode cX6_astraySet 28 = .ok (.istore_n 1, 1) := by decide +kernel
theorem dX6_astraySet_29 : decode cX6_astraySet 29 = .ok (.iinc 2 1, 3) := by decide +kernel
theorem dX6_astraySet_32 : decode cX6_astraySet 32 = .ok (.goto (-28), 3) := by decide +kernel
theorem dX6_astraySet_35 : decode cX6_astraySet 35 = .ok (.iload_n 1, 1) := by decide +kernel
theorem dX6_astraySet_36 : decode cX6_astraySet 36 = .ok (.ireturn, 1) := by decide +kernel
theorem dX6_turnedSet_0 : decode cX6_turnedSet 0 = .ok (.iconst 0, 1) := by decide +kernel
theorem dX6_turnedSet_1 : decode cX6_turnedSet 1 = .ok (.istore_n 1, 1) := by decide +kernel
theorem dX6_turnedSet_2 : decode cX6_turnedSet 2 = .ok (.iconst 0, 1) := by decide +kernel
theorem dX6_turnedSet_3 : decode cX6_turnedSet 3 = .ok (.istore_n 2, 1) := by decide +kernel
theorem dX6_turnedSet_4 : decode cX6_turnedSet 4 = .ok (.iload_n 2, 1) := by decide +kernel
theorem dX6_turnedSet_5 : decode cX6_turnedSet 5 = .ok (.aload_n 0, 1) := by decide +kernel
theorem dX6_turnedSet_6 : decode cX6_turnedSet 6 = .ok (.getfield 21, 3) := by decide +kernel
theorem dX6_turnedSet_9 : decode cX6_turnedSet 9 = .ok (.invokevirtual 31, 3) := by decide +kernel
theorem dX6_turnedSet_12 : decode cX6_turnedSet 12 = .ok (.if_icmp .ge 23, 3) := by decide +kernel
theorem dX6_turnedSet_15 : decode cX6_turnedSet 15 = .ok (.aload_n 0, 1) := by decide +kernel
theorem dX6_turnedSet_16 : decode cX6_turnedSet 16 = .ok (.iload_n 2, 1) := by decide +kernel
theorem dX6_turnedSet_17 : decode cX6_turnedSet 17 = .ok (.invokevirtual 55, 3) := by decide +kernel
theorem dX6_turnedSet_20 : decode cX6_turnedSet 20 = .ok (.ifCond .eq 9, 3) := by decide +kernel
theorem dX6_turnedSet_23 : decode cX6_turnedSet 23 = .ok (.iload_n 1, 1) := by decide +kernel
theorem dX6_turnedSet_24 : decode cX6_turnedSet 24 = .ok (.iconst 1, 1) := by decide +kernel
theorem dX6_turnedSet_25 : decode cX6_turnedSet 25 = .ok (.iload_n 2, 1) := by decide +kernel
theorem dX6_turnedSet_26 : decode cX6_turnedSet 26 = .ok (.ishl, 1) := by decide +kernel
theorem dX6_turnedSet_27 : decode cX6_turnedSet 27 = .ok (.ior, 1) := by decide +kernel
theorem dX6_turnedSet_28 : decode cX6_turnedSet 28 = .ok (.istore_n 1, 1) := by decide +kernel
theorem dX6_turnedSet_29 : decode cX6_turnedSet 29 = .ok (.iinc 2 1, 3) := by decide +kernel
theorem dX6_turnedSet_32 : decode cX6_turnedSet 32 = .ok (.goto (-28), 3) := by decide +kernel
theorem dX6_turnedSet_35 : decode cX6_turnedSet 35 = .ok (.iload_n 1, 1) := by decide +kernel
theorem dX6_turnedSet_36 : decode cX6_turnedSet 36 = .ok (.ireturn, 1) := by decide +kernel
theorem dX6_turnFurther_0 : decode cX6_turnFurther 0 = .ok (.aload_n 0, 1) := by decide +kernel
theorem dX6_turnFurther_1 : decode cX6_turnFurther 1 = .ok (.getfield 21, 3) := by decide +kernel
theorem dX6_turnFurther_4 : decode cX6_turnFurther 4 = .ok (.iload_n 1, 1) := by decide +kernel
theorem dX6_turnFurther_5 : decode cX6_turnFurther 5 = .ok (.invokevirtual 41, 3) := by decide +kernel
theorem dX6_turnFurther_8 : decode cX6_turnFurther 8 = .ok (.ifCond .eq 39, 3) := by decide +kernel
theorem dX6_turnFurther_11 : decode cX6_turnFurther 11 = .ok (.aload_n 0, 1) := by decide +kernel
theorem dX6_turnFurther_12 : decode cX6_turnFurther 12 = .ok (.getfield 21, 3) := by decide +kernel
theorem dX6_turnFurther_15 : decode cX6_turnFurther 15 = .ok (.iload_n 1, 1) := by decide +kernel
theorem dX6_turnFurther_16 : decode cX6_turnFurther 16 = .ok (.invokevirtual 66, 3) := by decide +kernel
theorem dX6_turnFurther_19 : decode cX6_turnFurther 19 = .ok (.ifCond .le 28, 3) := by decide +kernel
theorem dX6_turnFurther_22 : decode cX6_turnFurther 22 = .ok (.aload_n 0, 1) := by decide +kernel
theorem dX6_turnFurther_23 : decode cX6_turnFurther 23 = .ok (.getfield 9, 3) := by decide +kernel
theorem dX6_turnFurther_26 : decode cX6_turnFurther 26 = .ok (.iload_n 1, 1) := by decide +kernel
theorem dX6_turnFurther_27 : decode cX6_turnFurther 27 = .ok (.aload_n 0, 1) := by decide +kernel
theorem dX6_turnFurther_28 : decode cX6_turnFurther 28 = .ok (.getfield 9, 3) := by decide +kernel
theorem dX6_turnFurther_31 : decode cX6_turnFurther 31 = .ok (.iload_n 1, 1) := by decide +kernel
theorem dX6_turnFurther_32 : decode cX6_turnFurther 32 = .ok (.iaload, 1) := by decide +kernel
theorem dX6_turnFurther_33 : decode cX6_turnFurther 33 = .ok (.iload_n 2, 1) := by decide +kernel
theorem dX6_turnFurther_34 : decode cX6_turnFurther 34 = .ok (.iadd, 1) := by decide +kernel
theorem dX6_turnFurther_35 : decode cX6_turnFurther 35 = .ok (.aload_n 0, 1) := by decide +kernel
theorem dX6_turnFurther_36 : decode cX6_turnFurther 36 = .ok (.getfield 21, 3) := by decide +kernel
theorem dX6_turnFurther_39 : decode cX6_turnFurther 39 = .ok (.iload_n 1, 1) := by decide +kernel
theorem dX6_turnFurther_40 : decode cX6_turnFurther 40 = .ok (.invokevirtual 66, 3) := by decide +kernel
theorem dX6_turnFurther_43 : decode cX6_turnFurther 43 = .ok (.invokestatic 69, 3) := by decide +kernel
theorem dX6_turnFurther_46 : decode cX6_turnFurther 46 = .ok (.iastore, 1) := by decide +kernel
theorem dX6_turnFurther_47 : decode cX6_turnFurther 47 = .ok (.return_, 1) := by decide +kernel
theorem dX6_setFallen_0 : decode cX6_setFallen 0 = .ok (.aload_n 0, 1) := by decide +kernel
theorem dX6_setFallen_1 : decode cX6_setFallen 1 = .ok (.getfield 21, 3) := by decide +kernel
theorem dX6_setFallen_4 : decode cX6_setFallen 4 = .ok (.iload_n 1, 1) := by decide +kernel
theorem dX6_setFallen_5 : decode cX6_setFallen 5 = .ok (.invokevirtual 41, 3) := by decide +kernel
theorem dX6_setFallen_8 : decode cX6_setFallen 8 = .ok (.ifCond .eq 50, 3) := by decide +kernel
theorem dX6_setFallen_11 : decode cX6_setFallen 11 = .ok (.aload_n 0, 1) := by decide +kernel
theorem dX6_setFallen_12 : decode cX6_setFallen 12 = .ok (.getfield 21, 3) := by decide +kernel
theorem dX6_setFallen_15 : decode cX6_setFallen 15 = .ok (.iload_n 1, 1) := by decide +kernel
theorem dX6_setFallen_16 : decode cX6_setFallen 16 = .ok (.iload_n 2, 1) := by decide +kernel
theorem dX6_setFallen_17 : decode cX6_setFallen 17 = .ok (.invokevirtual 74, 3) := by decide +kernel
theorem dX6_setFallen_20 : decode cX6_setFallen 20 = .ok (.ifCond .eq 38, 3) := by decide +kernel
theorem dX6_setFallen_23 : decode cX6_setFallen 23 = .ok (.aload_n 0, 1) := by decide +kernel
theorem dX6_setFallen_24 : decode cX6_setFallen 24 = .ok (.getfield 15, 3) := by decide +kernel
theorem dX6_setFallen_27 : decode cX6_setFallen 27 = .ok (.iload_n 1, 1) := by decide +kernel
theorem dX6_setFallen_28 : decode cX6_setFallen 28 = .ok (.iload_n 3, 1) := by decide +kernel
theorem dX6_setFallen_29 : decode cX6_setFallen 29 = .ok (.ifCond .eq 16, 3) := by decide +kernel
theorem dX6_setFallen_32 : decode cX6_setFallen 32 = .ok (.aload_n 0, 1) := by decide +kernel
theorem dX6_setFallen_33 : decode cX6_setFallen 33 = .ok (.getfield 15, 3) := by decide +kernel
theorem dX6_setFallen_36 : decode cX6_setFallen 36 = .ok (.iload_n 1, 1) := by decide +kernel
theorem dX6_setFallen_37 : decode cX6_setFallen 37 = .ok (.iaload, 1) := by decide +kernel
theorem dX6_setFallen_38 : decode cX6_setFallen 38 = .ok (.iconst 1, 1) := by decide +kernel
theorem dX6_setFallen_39 : decode cX6_setFallen 39 = .ok (.iload_n 2, 1) := by decide +kernel
theorem dX6_setFallen_40 : decode cX6_setFallen 40 = .ok (.ishl, 1) := by decide +kernel
theorem dX6_setFallen_41 : decode cX6_setFallen 41 = .ok (.ior, 1) := by decide +kernel
theorem dX6_setFallen_42 : decode cX6_setFallen 42 = .ok (.goto 15, 3) := by decide +kernel
theorem dX6_setFallen_45 : decode cX6_setFallen 45 = .ok (.aload_n 0, 1) := by decide +kernel
theorem dX6_setFallen_46 : decode cX6_setFallen 46 = .ok (.getfield 15, 3) := by decide +kernel
theorem dX6_setFallen_49 : decode cX6_setFallen 49 = .ok (.iload_n 1, 1) := by decide +kernel
theorem dX6_setFallen_50 : decode cX6_setFallen 50 = .ok (.iaload, 1) := by decide +kernel
theorem dX6_setFallen_51 : decode cX6_setFallen 51 = .ok (.iconst 1, 1) := by decide +kernel
theorem dX6_setFallen_52 : decode cX6_setFallen 52 = .ok (.iload_n 2, 1) := by decide +kernel
theorem dX6_setFallen_53 : decode cX6_setFallen 53 = .ok (.ishl, 1) := by decide +kernel
theorem dX6_setFallen_54 : decode cX6_setFallen 54 = .ok (.iconst (-1), 1) := by decide +kernel
theorem dX6_setFallen_55 : decode cX6_setFallen 55 = .ok (.ixor, 1) := by decide +kernel
theorem dX6_setFallen_56 : decode cX6_setFallen 56 = .ok (.iand, 1) := by decide +kernel
theorem dX6_setFallen_57 : decode cX6_setFallen 57 = .ok (.iastore, 1) := by decide +kernel
theorem dX6_setFallen_58 : decode cX6_setFallen 58 = .ok (.return_, 1) := by decide +kernel
theorem dX6_tellMiles_0 : decode cX6_tellMiles 0 = .ok (.aload_n 0, 1) := by decide +kernel
theorem dX6_tellMiles_1 : decode cX6_tellMiles 1 = .ok (.getfield 21, 3) := by decide +kernel
theorem dX6_tellMiles_4 : decode cX6_tellMiles 4 = .ok (.iload_n 1, 1) := by decide +kernel
theorem dX6_tellMiles_5 : decode cX6_tellMiles 5 = .ok (.invokevirtual 41, 3) := by decide +kernel
theorem dX6_tellMiles_8 : decode cX6_tellMiles 8 = .ok (.ifCond .eq 26, 3) := by decide +kernel
theorem dX6_tellMiles_11 : decode cX6_tellMiles 11 = .ok (.aload_n 0, 1) := by decide +kernel
theorem dX6_tellMiles_12 : decode cX6_tellMiles 12 = .ok (.getfield 21, 3) := by decide +kernel
theorem dX6_tellMiles_15 : decode cX6_tellMiles 15 = .ok (.iload_n 2, 1) := by decide +kernel
theorem dX6_tellMiles_16 : decode cX6_tellMiles 16 = .ok (.invokevirtual 41, 3) := by decide +kernel
theorem dX6_tellMiles_19 : decode cX6_tellMiles 19 = .ok (.ifCond .eq 15, 3) := by decide +kernel
theorem dX6_tellMiles_22 : decode cX6_tellMiles 22 = .ok (.aload_n 0, 1) := by decide +kernel
theorem dX6_tellMiles_23 : decode cX6_tellMiles 23 = .ok (.getfield 18, 3) := by decide +kernel
theorem dX6_tellMiles_26 : decode cX6_tellMiles 26 = .ok (.iload_n 1, 1) := by decide +kernel
theorem dX6_tellMiles_27 : decode cX6_tellMiles 27 = .ok (.bipush 9, 2) := by decide +kernel
theorem dX6_tellMiles_29 : decode cX6_tellMiles 29 = .ok (.imul, 1) := by decide +kernel
theorem dX6_tellMiles_30 : decode cX6_tellMiles 30 = .ok (.iload_n 2, 1) := by decide +kernel
theorem dX6_tellMiles_31 : decode cX6_tellMiles 31 = .ok (.iadd, 1) := by decide +kernel
theorem dX6_tellMiles_32 : decode cX6_tellMiles 32 = .ok (.iload_n 3, 1) := by decide +kernel
theorem dX6_tellMiles_33 : decode cX6_tellMiles 33 = .ok (.iastore, 1) := by decide +kernel
theorem dX6_tellMiles_34 : decode cX6_tellMiles 34 = .ok (.return_, 1) := by decide +kernel
theorem dX6_paintedMiles_0 : decode cX6_paintedMiles 0 = .ok (.aload_n 0, 1) := by decide +kernel
theorem dX6_paintedMiles_1 : decode cX6_paintedMiles 1 = .ok (.getfield 21, 3) := by decide +kernel
theorem dX6_paintedMiles_4 : decode cX6_paintedMiles 4 = .ok (.iload_n 1, 1) := by decide +kernel
theorem dX6_paintedMiles_5 : decode cX6_paintedMiles 5 = .ok (.invokevirtual 41, 3) := by decide +kernel
theorem dX6_paintedMiles_8 : decode cX6_paintedMiles 8 = .ok (.ifCond .eq 28, 3) := by decide +kernel
theorem dX6_paintedMiles_11 : decode cX6_paintedMiles 11 = .ok (.aload_n 0, 1) := by decide +kernel
theorem dX6_paintedMiles_12 : decode cX6_paintedMiles 12 = .ok (.getfield 21, 3) := by decide +kernel
theorem dX6_paintedMiles_15 : decode cX6_paintedMiles 15 = .ok (.iload_n 2, 1) := by decide +kernel
theorem dX6_paintedMiles_16 : decode cX6_paintedMiles 16 = .ok (.invokevirtual 41, 3) := by decide +kernel
theorem dX6_paintedMiles_19 : decode cX6_paintedMiles 19 = .ok (.ifCond .eq 17, 3) := by decide +kernel
theorem dX6_paintedMiles_22 : decode cX6_paintedMiles 22 = .ok (.aload_n 0, 1) := by decide +kernel
theorem dX6_paintedMiles_23 : decode cX6_paintedMiles 23 = .ok (.getfield 18, 3) := by decide +kernel
theorem dX6_paintedMiles_26 : decode cX6_paintedMiles 26 = .ok (.iload_n 1, 1) := by decide +kernel
theorem dX6_paintedMiles_27 : decode cX6_paintedMiles 27 = .ok (.bipush 9, 2) := by decide +kernel
theorem dX6_paintedMiles_29 : decode cX6_paintedMiles 29 = .ok (.imul, 1) := by decide +kernel
theorem dX6_paintedMiles_30 : decode cX6_paintedMiles 30 = .ok (.iload_n 2, 1) := by decide +kernel
theorem dX6_paintedMiles_31 : decode cX6_paintedMiles 31 = .ok (.iadd, 1) := by decide +kernel
theorem dX6_paintedMiles_32 : decode cX6_paintedMiles 32 = .ok (.iaload, 1) := by decide +kernel
theorem dX6_paintedMiles_33 : decode cX6_paintedMiles 33 = .ok (.goto 4, 3) := by decide +kernel
theorem dX6_paintedMiles_36 : decode cX6_paintedMiles 36 = .ok (.iconst (-1), 1) := by decide +kernel
theorem dX6_paintedMiles_37 : decode cX6_paintedMiles 37 = .ok (.ireturn, 1) := by decide +kernel
theorem dX6_milesTold_0 : decode cX6_milesTold 0 = .ok (.aload_n 0, 1) := by decide +kernel
theorem dX6_milesTold_1 : decode cX6_milesTold 1 = .ok (.iload_n 1, 1) := by decide +kernel
theorem dX6_milesTold_2 : decode cX6_milesTold 2 = .ok (.iload_n 2, 1) := by decide +kernel
theorem dX6_milesTold_3 : decode cX6_milesTold 3 = .ok (.iconst 0, 1) := by decide +kernel
theorem dX6_milesTold_4 : decode cX6_milesTold 4 = .ok (.invokevirtual 77, 3) := by decide +kernel
theorem dX6_milesTold_7 : decode cX6_milesTold 7 = .ok (.iconst (-1), 1) := by decide +kernel
theorem dX6_milesTold_8 : decode cX6_milesTold 8 = .ok (.if_icmp .ne 7, 3) := by decide +kernel
theorem dX6_milesTold_11 : decode cX6_milesTold 11 = .ok (.iconst (-1), 1) := by decide +kernel
theorem dX6_milesTold_12 : decode cX6_milesTold 12 = .ok (.goto 9, 3) := by decide +kernel
theorem dX6_milesTold_15 : decode cX6_milesTold 15 = .ok (.aload_n 0, 1) := by decide +kernel
theorem dX6_milesTold_16 : decode cX6_milesTold 16 = .ok (.iload_n 1, 1) := by decide +kernel
theorem dX6_milesTold_17 : decode cX6_milesTold 17 = .ok (.iload_n 2, 1) := by decide +kernel
theorem dX6_milesTold_18 : decode cX6_milesTold 18 = .ok (.invokevirtual 49, 3) := by decide +kernel
theorem dX6_milesTold_21 : decode cX6_milesTold 21 = .ok (.ireturn, 1) := by decide +kernel
theorem dX6_armThatTells_0 : decode cX6_armThatTells 0 = .ok (.aload_n 0, 1) := by decide +kernel
theorem dX6_armThatTells_1 : decode cX6_armThatTells 1 = .ok (.getfield 21, 3) := by decide +kernel
theorem dX6_armThatTells_4 : decode cX6_armThatTells 4 = .ok (.iload_n 1, 1) := by decide +kernel
theorem dX6_armThatTells_5 : decode cX6_armThatTells 5 = .ok (.iload_n 2, 1) := by decide +kernel
theorem dX6_armThatTells_6 : decode cX6_armThatTells 6 = .ok (.invokevirtual 81, 3) := by decide +kernel
theorem dX6_armThatTells_9 : decode cX6_armThatTells 9 = .ok (.istore 4, 2) := by decide +kernel
theorem dX6_armThatTells_11 : decode cX6_armThatTells 11 = .ok (.iload 4, 2) := by decide +kernel
theorem dX6_armThatTells_13 : decode cX6_armThatTells 13 = .ok (.iconst (-1), 1) := by decide +kernel
theorem dX6_armThatTells_14 : decode cX6_armThatTells 14 = .ok (.if_icmp .eq 25, 3) := by decide +kernel
theorem dX6_armThatTells_17 : decode cX6_armThatTells 17 = .ok (.aload_n 0, 1) := by decide +kernel
theorem dX6_armThatTells_18 : decode cX6_armThatTells 18 = .ok (.iload_n 1, 1) := by decide +kernel
theorem dX6_armThatTells_19 : decode cX6_armThatTells 19 = .ok (.iload 4, 2) := by decide +kernel
theorem dX6_armThatTells_21 : decode cX6_armThatTells 21 = .ok (.invokevirtual 84, 3) := by decide +kernel
theorem dX6_armThatTells_24 : decode cX6_armThatTells 24 = .ok (.ifCond .eq 15, 3) := by decide +kernel
theorem dX6_armThatTells_27 : decode cX6_armThatTells 27 = .ok (.iload_n 3, 1) := by decide +kernel
theorem dX6_armThatTells_28 : decode cX6_armThatTells 28 = .ok (.iload_n 1, 1) := by decide +kernel
theorem dX6_armThatTells_29 : decode cX6_armThatTells 29 = .ok (.invokestatic 62, 3) := by decide +kernel
theorem dX6_armThatTells_32 : decode cX6_armThatTells 32 = .ok (.ifCond .ne 7, 3) := by decide +kernel
theorem dX6_armThatTells_35 : decode cX6_armThatTells 35 = .ok (.iconst (-1), 1) := by decide +kernel
theorem dX6_armThatTells_36 : decode cX6_armThatTells 36 = .ok (.goto 5, 3) := by decide +kernel
theorem dX6_armThatTells_39 : decode cX6_armThatTells 39 = .ok (.iload 4, 2) := by decide +kernel
theorem dX6_armThatTells_41 : decode cX6_armThatTells 41 = .ok (.ireturn, 1) := by decide +kernel
theorem dX6_sideOfArm_0 : decode cX6_sideOfArm 0 = .ok (.aload_n 0, 1) := by decide +kernel
theorem dX6_sideOfArm_1 : decode cX6_sideOfArm 1 = .ok (.getfield 21, 3) := by decide +kernel
theorem dX6_sideOfArm_4 : decode cX6_sideOfArm 4 = .ok (.iload_n 1, 1) := by decide +kernel
theorem dX6_sideOfArm_5 : decode cX6_sideOfArm 5 = .ok (.invokevirtual 66, 3) := by decide +kernel
theorem dX6_sideOfArm_8 : decode cX6_sideOfArm 8 = .ok (.istore 4, 2) := by decide +kernel
theorem dX6_sideOfArm_10 : decode cX6_sideOfArm 10 = .ok (.iload 4, 2) := by decide +kernel
theorem dX6_sideOfArm_12 : decode cX6_sideOfArm 12 = .ok (.ifCond .le 14, 3) := by decide +kernel
theorem dX6_sideOfArm_15 : decode cX6_sideOfArm 15 = .ok (.iload_n 2, 1) := by decide +kernel
theorem dX6_sideOfArm_16 : decode cX6_sideOfArm 16 = .ok (.iload_n 3, 1) := by decide +kernel
theorem dX6_sideOfArm_17 : decode cX6_sideOfArm 17 = .ok (.iadd, 1) := by decide +kernel
theorem dX6_sideOfArm_18 : decode cX6_sideOfArm 18 = .ok (.iload 4, 2) := by decide +kernel
theorem dX6_sideOfArm_20 : decode cX6_sideOfArm 20 = .ok (.invokestatic 69, 3) := by decide +kernel
theorem dX6_sideOfArm_23 : decode cX6_sideOfArm 23 = .ok (.goto 4, 3) := by decide +kernel
theorem dX6_sideOfArm_26 : decode cX6_sideOfArm 26 = .ok (.iconst (-1), 1) := by decide +kernel
theorem dX6_sideOfArm_27 : decode cX6_sideOfArm 27 = .ok (.ireturn, 1) := by decide +kernel
theorem dX6_roadToTake_0 : decode cX6_roadToTake 0 = .ok (.aload_n 0, 1) := by decide +kernel
theorem dX6_roadToTake_1 : decode cX6_roadToTake 1 = .ok (.iload_n 1, 1) := by decide +kernel
theorem dX6_roadToTake_2 : decode cX6_roadToTake 2 = .ok (.iload_n 2, 1) := by decide +kernel
theorem dX6_roadToTake_3 : decode cX6_roadToTake 3 = .ok (.iload_n 3, 1) := by decide +kernel
theorem dX6_roadToTake_4 : decode cX6_roadToTake 4 = .ok (.invokevirtual 77, 3) := by decide +kernel
theorem dX6_roadToTake_7 : decode cX6_roadToTake 7 = .ok (.istore 4, 2) := by decide +kernel
theorem dX6_roadToTake_9 : decode cX6_roadToTake 9 = .ok (.iload 4, 2) := by decide +kernel
theorem dX6_roadToTake_11 : decode cX6_roadToTake 11 = .ok (.iconst (-1), 1) := by decide +kernel
theorem dX6_roadToTake_12 : decode cX6_roadToTake 12 = .ok (.if_icmp .ne 5, 3) := by decide +kernel
theorem dX6_roadToTake_15 : decode cX6_roadToTake 15 = .ok (.iconst (-1), 1) := by decide +kernel
theorem dX6_roadToTake_16 : decode cX6_roadToTake 16 = .ok (.ireturn, 1) := by decide +kernel
theorem dX6_roadToTake_17 : decode cX6_roadToTake 17 = .ok (.aload_n 0, 1) := by decide +kernel
theorem dX6_roadToTake_18 : decode cX6_roadToTake 18 = .ok (.getfield 21, 3) := by decide +kernel
theorem dX6_roadToTake_21 : decode cX6_roadToTake 21 = .ok (.iload_n 1, 1) := by decide +kernel
theorem dX6_roadToTake_22 : decode cX6_roadToTake 22 = .ok (.aload_n 0, 1) := by decide +kernel
theorem dX6_roadToTake_23 : decode cX6_roadToTake 23 = .ok (.iload_n 1, 1) := by decide +kernel
theorem dX6_roadToTake_24 : decode cX6_roadToTake 24 = .ok (.iload 4, 2) := by decide +kernel
theorem dX6_roadToTake_26 : decode cX6_roadToTake 26 = .ok (.iload_n 3, 1) := by decide +kernel
theorem dX6_roadToTake_27 : decode cX6_roadToTake 27 = .ok (.iload_n 1, 1) := by decide +kernel
theorem dX6_roadToTake_28 : decode cX6_roadToTake 28 = .ok (.invokestatic 62, 3) := by decide +kernel
theorem dX6_roadToTake_31 : decode cX6_roadToTake 31 = .ok (.ifCond .eq 7, 3) := by decide +kernel
theorem dX6_roadToTake_34 : decode cX6_roadToTake 34 = .ok (.iconst 0, 1) := by decide +kernel
theorem dX6_roadToTake_35 : decode cX6_roadToTake 35 = .ok (.goto 8, 3) := by decide +kernel
theorem dX6_roadToTake_38 : decode cX6_roadToTake 38 = .ok (.aload_n 0, 1) := by decide +kernel
theorem dX6_roadToTake_39 : decode cX6_roadToTake 39 = .ok (.iload_n 1, 1) := by decide +kernel
theorem dX6_roadToTake_40 : decode cX6_roadToTake 40 = .ok (.invokevirtual 55, 3) := by decide +kernel
theorem dX6_roadToTake_43 : decode cX6_roadToTake 43 = .ok (.invokevirtual 87, 3) := by decide +kernel
theorem dX6_roadToTake_46 : decode cX6_roadToTake 46 = .ok (.invokevirtual 90, 3) := by decide +kernel
theorem dX6_roadToTake_49 : decode cX6_roadToTake 49 = .ok (.ireturn, 1) := by decide +kernel
theorem dX6_quarrelsWithLand_0 : decode cX6_quarrelsWithLand 0 = .ok (.aload_n 0, 1) := by decide +kernel
theorem dX6_quarrelsWithLand_1 : decode cX6_quarrelsWithLand 1 = .ok (.iload_n 1, 1) := by decide +kernel
theorem dX6_quarrelsWithLand_2 : decode cX6_quarrelsWithLand 2 = .ok (.iload_n 2, 1) := by decide +kernel
theorem dX6_quarrelsWithLand_3 : decode cX6_quarrelsWithLand 3 = .ok (.invokevirtual 93, 3) := by decide +kernel
theorem dX6_quarrelsWithLand_6 : decode cX6_quarrelsWithLand 6 = .ok (.istore_n 3, 1) := by decide +kernel
theorem dX6_quarrelsWithLand_7 : decode cX6_quarrelsWithLand 7 = .ok (.iload_n 3, 1) := by decide +kernel
theorem dX6_quarrelsWithLand_8 : decode cX6_quarrelsWithLand 8 = .ok (.iconst (-1), 1) := by decide +kernel
theorem dX6_quarrelsWithLand_9 : decode cX6_quarrelsWithLand 9 = .ok (.if_icmp .eq 20, 3) := by decide +kernel
theorem dX6_quarrelsWithLand_12 : decode cX6_quarrelsWithLand 12 = .ok (.iload_n 3, 1) := by decide +kernel
theorem dX6_quarrelsWithLand_13 : decode cX6_quarrelsWithLand 13 = .ok (.aload_n 0, 1) := by decide +kernel
theorem dX6_quarrelsWithLand_14 : decode cX6_quarrelsWithLand 14 = .ok (.getfield 21, 3) := by decide +kernel
theorem dX6_quarrelsWithLand_17 : decode cX6_quarrelsWithLand 17 = .ok (.iload_n 1, 1) := by decide +kernel
theorem dX6_quarrelsWithLand_18 : decode cX6_quarrelsWithLand 18 = .ok (.iload_n 2, 1) := by decide +kernel
theorem dX6_quarrelsWithLand_19 : decode cX6_quarrelsWithLand 19 = .ok (.invokevirtual 45, 3) := by decide +kernel
theorem dX6_quarrelsWithLand_22 : decode cX6_quarrelsWithLand 22 = .ok (.if_icmp .eq 7, 3) := by decide +kernel
theorem dX6_quarrelsWithLand_25 : decode cX6_quarrelsWithLand 25 = .ok (.iconst 1, 1) := by decide +kernel
theorem dX6_quarrelsWithLand_26 : decode cX6_quarrelsWithLand 26 = .ok (.goto 4, 3) := by decide +kernel
theorem dX6_quarrelsWithLand_29 : decode cX6_quarrelsWithLand 29 = .ok (.iconst 0, 1) := by decide +kernel
theorem dX6_quarrelsWithLand_30 : decode cX6_quarrelsWithLand 30 = .ok (.ireturn, 1) := by decide +kernel
theorem dX6_quarrelsOnTheWay_0 : decode cX6_quarrelsOnTheWay 0 = .ok (.aload_n 0, 1) := by decide +kernel
theorem dX6_quarrelsOnTheWay_1 : decode cX6_quarrelsOnTheWay 1 = .ok (.iload_n 1, 1) := by decide +kernel
theorem dX6_quarrelsOnTheWay_2 : decode cX6_quarrelsOnTheWay 2 = .ok (.iload_n 2, 1) := by decide +kernel
theorem dX6_quarrelsOnTheWay_3 : decode cX6_quarrelsOnTheWay 3 = .ok (.invokevirtual 93, 3) := by decide +kernel
theorem dX6_quarrelsOnTheWay_6 : decode cX6_quarrelsOnTheWay 6 = .ok (.istore_n 3, 1) := by decide +kernel
theorem dX6_quarrelsOnTheWay_7 : decode cX6_quarrelsOnTheWay 7 = .ok (.iload_n 3, 1) := by decide +kernel
theorem dX6_quarrelsOnTheWay_8 : decode cX6_quarrelsOnTheWay 8 = .ok (.iconst (-1), 1) := by decide +kernel
theorem dX6_quarrelsOnTheWay_9 : decode cX6_quarrelsOnTheWay 9 = .ok (.if_icmp .ne 5, 3) := by decide +kernel
theorem dX6_quarrelsOnTheWay_12 : decode cX6_quarrelsOnTheWay 12 = .ok (.iconst 0, 1) := by decide +kernel
theorem dX6_quarrelsOnTheWay_13 : decode cX6_quarrelsOnTheWay 13 = .ok (.ireturn, 1) := by decide +kernel
theorem dX6_quarrelsOnTheWay_14 : decode cX6_quarrelsOnTheWay 14 = .ok (.aload_n 0, 1) := by decide +kernel
theorem dX6_quarrelsOnTheWay_15 : decode cX6_quarrelsOnTheWay 15 = .ok (.getfield 21, 3) := by decide +kernel
theorem dX6_quarrelsOnTheWay_18 : decode cX6_quarrelsOnTheWay 18 = .ok (.iload_n 1, 1) := by decide +kernel
theorem dX6_quarrelsOnTheWay_19 : decode cX6_quarrelsOnTheWay 19 = .ok (.aload_n 0, 1) := by decide +kernel
theorem dX6_quarrelsOnTheWay_20 : decode cX6_quarrelsOnTheWay 20 = .ok (.getfield 21, 3) := by decide +kernel
theorem dX6_quarrelsOnTheWay_23 : decode cX6_quarrelsOnTheWay 23 = .ok (.iload_n 1, 1) := by decide +kernel
theorem dX6_quarrelsOnTheWay_24 : decode cX6_quarrelsOnTheWay 24 = .ok (.iload_n 2, 1) := by decide +kernel
theorem dX6_quarrelsOnTheWay_25 : decode cX6_quarrelsOnTheWay 25 = .ok (.invokevirtual 81, 3) := by decide +kernel
theorem dX6_quarrelsOnTheWay_28 : decode cX6_quarrelsOnTheWay 28 = .ok (.invokevirtual 90, 3) := by decide +kernel
theorem dX6_quarrelsOnTheWay_31 : decode cX6_quarrelsOnTheWay 31 = .ok (.istore 4, 2) := by decide +kernel
theorem dX6_quarrelsOnTheWay_33 : decode cX6_quarrelsOnTheWay 33 = .ok (.aload_n 0, 1) := by decide +kernel
theorem dX6_quarrelsOnTheWay_34 : decode cX6_quarrelsOnTheWay 34 = .ok (.aload_n 0, 1) := by decide +kernel
theorem dX6_quarrelsOnTheWay_35 : decode cX6_quarrelsOnTheWay 35 = .ok (.getfield 21, 3) := by decide +kernel
theorem dX6_quarrelsOnTheWay_38 : decode cX6_quarrelsOnTheWay 38 = .ok (.iload_n 1, 1) := by decide +kernel
theorem dX6_quarrelsOnTheWay_39 : decode cX6_quarrelsOnTheWay 39 = .ok (.iload 4, 2) := by decide +kernel
theorem dX6_quarrelsOnTheWay_41 : decode cX6_quarrelsOnTheWay 41 = .ok (.invokevirtual 96, 3) := by decide +kernel
theorem dX6_quarrelsOnTheWay_44 : decode cX6_quarrelsOnTheWay 44 = .ok (.iload_n 2, 1) := by decide +kernel
theorem dX6_quarrelsOnTheWay_45 : decode cX6_quarrelsOnTheWay 45 = .ok (.invokevirtual 93, 3) := by decide +kernel
theorem dX6_quarrelsOnTheWay_48 : decode cX6_quarrelsOnTheWay 48 = .ok (.istore 5, 2) := by decide +kernel
theorem dX6_quarrelsOnTheWay_50 : decode cX6_quarrelsOnTheWay 50 = .ok (.iload 5, 2) := by decide +kernel
theorem dX6_quarrelsOnTheWay_52 : decode cX6_quarrelsOnTheWay 52 = .ok (.iconst (-1), 1) := by decide +kernel
theorem dX6_quarrelsOnTheWay_53 : decode cX6_quarrelsOnTheWay 53 = .ok (.if_icmp .eq 23, 3) := by decide +kernel
theorem dX6_quarrelsOnTheWay_56 : decode cX6_quarrelsOnTheWay 56 = .ok (.iload_n 3, 1) := by decide +kernel
theorem dX6_quarrelsOnTheWay_57 : decode cX6_quarrelsOnTheWay 57 = .ok (.iload 5, 2) := by decide +kernel
theorem dX6_quarrelsOnTheWay_59 : decode cX6_quarrelsOnTheWay 59 = .ok (.isub, 1) := by decide +kernel
theorem dX6_quarrelsOnTheWay_60 : decode cX6_quarrelsOnTheWay 60 = .ok (.aload_n 0, 1) := by decide +kernel
theorem dX6_quarrelsOnTheWay_61 : decode cX6_quarrelsOnTheWay 61 = .ok (.getfield 21, 3) := by decide +kernel
theorem dX6_quarrelsOnTheWay_64 : decode cX6_quarrelsOnTheWay 64 = .ok (.iload 4, 2) := by decide +kernel
theorem dX6_quarrelsOnTheWay_66 : decode cX6_quarrelsOnTheWay 66 = .ok (.invokevirtual 99, 3) := by decide +kernel
theorem dX6_quarrelsOnTheWay_69 : decode cX6_quarrelsOnTheWay 69 = .ok (.if_icmp .eq 7, 3) := by decide +kernel
theorem dX6_quarrelsOnTheWay_72 : decode cX6_quarrelsOnTheWay 72 = .ok (.iconst 1, 1) := by decide +kernel
theorem dX6_quarrelsOnTheWay_73 : decode cX6_quarrelsOnTheWay 73 = .ok (.goto 4, 3) := by decide +kernel
theorem dX6_quarrelsOnTheWay_76 : decode cX6_quarrelsOnTheWay 76 = .ok (.iconst 0, 1) := by decide +kernel
theorem dX6_quarrelsOnTheWay_77 : decode cX6_quarrelsOnTheWay 77 = .ok (.ireturn, 1) := by decide +kernel
theorem dX7_init_0 : decode cX7_init 0 = .ok (.aload_n 0, 1) := by decide +kernel
theorem dX7_init_1 : decode cX7_init 1 = .ok (.invokespecial 3, 3) := by decide +kernel
theorem dX7_init_4 : decode cX7_init 4 = .ok (.aload_n 0, 1) := by decide +kernel
theorem dX7_init_5 : decode cX7_init 5 = .ok (.iconst (-1), 1) := by decide +kernel
theorem dX7_init_6 : decode cX7_init 6 = .ok (.putfield 9, 3) := by decide +kernel
theorem dX7_init_9 : decode cX7_init 9 = .ok (.aload_n 0, 1) := by decide +kernel
theorem dX7_init_10 : decode cX7_init 10 = .ok (.aload_n 1, 1) := by decide +kernel
theorem dX7_init_11 : decode cX7_init 11 = .ok (.putfield 15, 3) := by decide +kernel
theorem dX7_init_14 : decode cX7_init 14 = .ok (.aload_n 0, 1) := by decide +kernel
theorem dX7_init_15 : decode cX7_init 15 = .ok (.aload_n 2, 1) := by decide +kernel
theorem dX7_init_16 : decode cX7_init 16 = .ok (.putfield 19, 3) := by decide +kernel
theorem dX7_init_19 : decode cX7_init 19 = .ok (.return_, 1) := by decide +kernel
theorem dX7_faultKind_0 : decode cX7_faultKind 0 = .ok (.aload_n 0, 1) := by decide +kernel
theorem dX7_faultKind_1 : decode cX7_faultKind 1 = .ok (.getfield 23, 3) := by decide +kernel
theorem dX7_faultKind_4 : decode cX7_faultKind 4 = .ok (.ireturn, 1) := by decide +kernel
theorem dX7_faultByte_0 : decode cX7_faultByte 0 = .ok (.aload_n 0, 1) := by decide +kernel
theorem dX7_faultByte_1 : decode cX7_faultByte 1 = .ok (.getfield 9, 3) := by decide +kernel
theorem dX7_faultByte_4 : decode cX7_faultByte 4 = .ok (.ireturn, 1) := by decide +kernel
theorem dX7_readAll_0 : decode cX7_readAll 0 = .ok (.aload_n 0, 1) := by decide +kernel
theorem dX7_readAll_1 : decode cX7_readAll 1 = .ok (.iconst 0, 1) := by decide +kernel
theorem dX7_readAll_2 : decode cX7_readAll 2 = .ok (.putfield 26, 3) := by decide +kernel
theorem dX7_readAll_5 : decode cX7_readAll 5 = .ok (.aload_n 0, 1) := by decide +kernel
theorem dX7_readAll_6 : decode cX7_readAll 6 = .ok (.iconst 0, 1) := by decide +kernel
theorem dX7_readAll_7 : decode cX7_readAll 7 = .ok (.putfield 23, 3) := by decide +kernel
theorem dX7_readAll_10 : decode cX7_readAll 10 = .ok (.aload_n 0, 1) := by decide +kernel
theorem dX7_readAll_11 : decode cX7_readAll 11 = .ok (.iconst (-1), 1) := by decide +kernel
theorem dX7_readAll_12 : decode cX7_readAll 12 = .ok (.putfield 9, 3) := by decide +kernel
theorem dX7_readAll_15 : decode cX7_readAll 15 = .ok (.aload_n 0, 1) := by decide +kernel
theorem dX7_readAll_16 : decode cX7_readAll 16 = .ok (.getfield 19, 3) := by decide +kernel
theorem dX7_readAll_19 : decode cX7_readAll 19 = .ok (.invokevirtual 29, 3) := by decide +kernel
theorem dX7_readAll_22 : decode cX7_readAll 22 = .ok (.aload_n 0, 1) := by decide +kernel
theorem dX7_readAll_23 : decode cX7_readAll 23 = .ok (.invokevirtual 34, 3) := by decide +kernel
theorem dX7_readAll_26 : decode cX7_readAll 26 = .ok (.iconst 0, 1) := by decide +kernel
theorem dX7_readAll_27 : decode cX7_readAll 27 = .ok (.istore_n 1, 1) := by decide +kernel
theorem dX7_readAll_28 : decode cX7_readAll 28 = .ok (.iload_n 1, 1) := by decide +kernel
theorem dX7_readAll_29 : decode cX7_readAll 29 = .ok (.sipush 400, 3) := by decide +kernel
theorem dX7_readAll_32 : decode cX7_readAll 32 = .ok (.if_icmp .ge 38, 3) := by decide +kernel
theorem dX7_readAll_35 : decode cX7_readAll 35 = .ok (.aload_n 0, 1) := by decide +kernel
theorem dX7_readAll_36 : decode cX7_readAll 36 = .ok (.getfield 23, 3) := by decide +kernel
theorem dX7_readAll_39 : decode cX7_readAll 39 = .ok (.ifCond .ne 31, 3) := by decide +kernel
theorem dX7_readAll_42 : decode cX7_readAll 42 = .ok (.aload_n 0, 1) := by decide +kernel
theorem dX7_readAll_43 : decode cX7_readAll 43 = .ok (.getfield 26, 3) := by decide +kernel
theorem dX7_readAll_46 : decode cX7_readAll 46 = .ok (.aload_n 0, 1) := by decide +kernel
theorem dX7_readAll_47 : decode cX7_readAll 47 = .ok (.getfield 15, 3) := by decide +kernel
theorem dX7_readAll_50 : decode cX7_readAll 50 = .ok (.invokevirtual 37, 3) := by decide +kernel
theorem dX7_readAll_53 : decode cX7_readAll 53 = .ok (.if_icmp .ge 17, 3) := by decide +kernel
theorem dX7_readAll_56 : decode cX7_readAll 56 = .ok (.aload_n 0, 1) := by decide +kernel
theorem dX7_readAll_57 : decode cX7_readAll 57 = .ok (.invokevirtual 43, 3) := by decide +kernel
theorem dX7_readAll_60 : decode cX7_readAll 60 = .ok (.aload_n 0, 1) := by decide +kernel
theorem dX7_readAll_61 : decode cX7_readAll 61 = .ok (.invokevirtual 34, 3) := by decide +kernel
theorem dX7_readAll_64 : decode cX7_readAll 64 = .ok (.iinc 1 1, 3) := by decide +kernel
theorem dX7_readAll_67 : decode cX7_readAll 67 = .ok (.goto (-39), 3) := by decide +kernel
theorem dX7_readAll_70 : decode cX7_readAll 70 = .ok (.aload_n 0, 1) := by decide +kernel
theorem dX7_readAll_71 : decode cX7_readAll 71 = .ok (.getfield 23, 3) := by decide +kernel
theorem dX7_readAll_74 : decode cX7_readAll 74 = .ok (.ifCond .ne 10, 3) := by decide +kernel
theorem dX7_readAll_77 : decode cX7_readAll 77 = .ok (.aload_n 0, 1) := by decide +kernel
theorem dX7_readAll_78 : decode cX7_readAll 78 = .ok (.getfield 19, 3) := by decide +kernel
theorem dX7_readAll_81 : decode cX7_readAll 81 = .ok (.invokevirtual 46, 3) := by decide +kernel
theorem dX7_readAll_84 : decode cX7_readAll 84 = .ok (.return_, 1) := by decide +kernel
theorem dX7_blame_0 : decode cX7_blame 0 = .ok (.aload_n 0, 1) := by decide +kernel
theorem dX7_blame_1 : decode cX7_blame 1 = .ok (.getfield 23, 3) := by decide +kernel
theorem dX7_blame_4 : decode cX7_blame 4 = .ok (.ifCond .ne 13, 3) := by decide +kernel
theorem dX7_blame_7 : decode cX7_blame 7 = .ok (.aload_n 0, 1) := by decide +kernel
theorem dX7_blame_8 : decode cX7_blame 8 = .ok (.iload_n 1, 1) := by decide +kernel
theorem dX7_blame_9 : decode cX7_blame 9 = .ok (.putfield 23, 3) := by decide +kernel
theorem dX7_blame_12 : decode cX7_blame 12 = .ok (.aload_n 0, 1) := by decide +kernel
theorem dX7_blame_13 : decode cX7_blame 13 = .ok (.iload_n 2, 1) := by decide +kernel
theorem dX7_blame_14 : decode cX7_blame 14 = .ok (.putfield 9, 3) := by decide +kernel
theorem dX7_blame_17 : decode cX7_blame 17 = .ok (.return_, 1) := by decide +kernel
theorem dX7_readClause_0 : decode cX7_readClause 0 = .ok (.aload_n 0, 1) := by decide +kernel
theorem dX7_readClause_1 : decode cX7_readClause 1 = .ok (.getfield 26, 3) := by decide +kernel
theorem dX7_readClause_4 : decode cX7_readClause 4 = .ok (.istore_n 1, 1) := by decide +kernel
theorem dX7_readClause_5 : decode cX7_readClause 5 = .ok (.aload_n 0, 1) := by decide +kernel
theorem dX7_readClause_6 : decode cX7_readClause 6 = .ok (.invokevirtual 49, 3) := by decide +kernel
theorem dX7_readClause_9 : decode cX7_readClause 9 = .ok (.aload_n 0, 1) := by decide +kernel
theorem dX7_readClause_10 : decode cX7_readClause 10 = .ok (.iload_n 1, 1) := by decide +kernel
theorem dX7_readClause_11 : decode cX7_readClause 11 = .ok (.ldc 52, 2) := by decide +kernel
theorem dX7_readClause_13 : decode cX7_readClause 13 = .ok (.invokevirtual 54, 3) := by decide +kernel
theorem dX7_readClause_16 : decode cX7_readClause 16 = .ok (.ifCond .eq 11, 3) := by decide +kernel
theorem dX7_readClause_19 : decode cX7_readClause 19 = .ok (.aload_n 0, 1) := by decide +kernel
theorem dX7_readClause_20 : decode cX7_readClause 20 = .ok (.iload_n 1, 1) := by decide +kernel
theorem dX7_readClause_21 : decode cX7_readClause 21 = .ok (.invokevirtual 58, 3) := by decide +kernel
theorem dX7_readClause_24 : decode cX7_readClause 24 = .ok (.goto 65, 3) := by decide +kernel
theorem dX7_readClause_27 : decode cX7_readClause 27 = .ok (.aload_n 0, 1) := by decide +kernel
theorem dX7_readClause_28 : decode cX7_readClause 28 = .ok (.getfield 19, 3) := by decide +kernel
theorem dX7_readClause_31 : decode cX7_readClause 31 = .ok (.invokevirtual 62, 3) := by decide +kernel
theorem dX7_readClause_34 : decode cX7_readClause 34 = .ok (.ifCond .le 21, 3) := by decide +kernel
theorem dX7_readClause_37 : decode cX7_readClause 37 = .ok (.aload_n 0, 1) := by decide +kernel
theorem dX7_readClause_38 : decode cX7_readClause 38 = .ok (.iload_n 1, 1) := by decide +kernel
theorem dX7_readClause_39 : decode cX7_readClause 39 = .ok (.ldc 64, 2) := by decide +kernel
theorem dX7_readClause_41 : decode cX7_readClause 41 = .ok (.invokevirtual 54, 3) := by decide +kernel
theorem dX7_readClause_44 : decode cX7_readClause 44 = .ok (.ifCond .eq 11, 3) := by decide +kernel
theorem dX7_readClause_47 : decode cX7_readClause 47 = .ok (.aload_n 0, 1) := by decide +kernel
theorem dX7_readClause_48 : decode cX7_readClause 48 = .ok (.iload_n 1, 1) := by decide +kernel
theorem dX7_readClause_49 : decode cX7_readClause 49 = .ok (.invokevirtual 66, 3) := by decide +kernel
theorem dX7_readClause_52 : decode cX7_readClause 52 = .ok (.goto 37, 3) := by decide +kernel
theorem dX7_readClause_55 : decode cX7_readClause 55 = .ok (.aload_n 0, 1) := by decide +kernel
theorem dX7_readClause_56 : decode cX7_readClause 56 = .ok (.getfield 19, 3) := by decide +kernel
theorem dX7_readClause_59 : decode cX7_readClause 59 = .ok (.invokevirtual 62, 3) := by decide +kernel
theorem dX7_readClause_62 : decode cX7_readClause 62 = .ok (.ifCond .le 21, 3) := by decide +kernel
theorem dX7_readClause_65 : decode cX7_readClause 65 = .ok (.aload_n 0, 1) := by decide +kernel
theorem dX7_readClause_66 : decode cX7_readClause 66 = .ok (.iload_n 1, 1) := by decide +kernel
theorem dX7_readClause_67 : decode cX7_readClause 67 = .ok (.ldc 69, 2) := by decide +kernel
theorem dX7_readClause_69 : decode cX7_readClause 69 = .ok (.invokevirtual 54, 3) := by decide +kernel
theorem dX7_readClause_72 : decode cX7_readClause 72 = .ok (.ifCond .eq 11, 3) := by decide +kernel
theorem dX7_readClause_75 : decode cX7_readClause 75 = .ok (.aload_n 0, 1) := by decide +kernel
theorem dX7_readClause_76 : decode cX7_readClause 76 = .ok (.iload_n 1, 1) := by decide +kernel
theorem dX7_readClause_77 : decode cX7_readClause 77 = .ok (.invokevirtual 71, 3) := by decide +kernel
theorem dX7_readClause_80 : decode cX7_readClause 80 = .ok (.goto 9, 3) := by decide +kernel
theorem dX7_readClause_83 : decode cX7_readClause 83 = .ok (.aload_n 0, 1) := by decide +kernel
theorem dX7_readClause_84 : decode cX7_readClause 84 = .ok (.iconst 1, 1) := by decide +kernel
theorem dX7_readClause_85 : decode cX7_readClause 85 = .ok (.iload_n 1, 1) := by decide +kernel
theorem dX7_readClause_86 : decode cX7_readClause 86 = .ok (.invokevirtual 74, 3) := by decide +kernel
theorem dX7_readClause_89 : decode cX7_readClause 89 = .ok (.return_, 1) := by decide +kernel
theorem dX7_readPlaces_0 : decode cX7_readPlaces 0 = .ok (.aload_n 0, 1) := by decide +kernel
theorem dX7_readPlaces_1 : decode cX7_readPlaces 1 = .ok (.getfield 19, 3) := by decide +kernel
theorem dX7_readPlaces_4 : decode cX7_readPlaces 4 = .ok (.invokevirtual 62, 3) := by decide +kernel
theorem dX7_readPlaces_7 : decode cX7_readPlaces 7 = .ok (.ifCond .le 10, 3) := by decide +kernel
theorem dX7_readPlaces_10 : decode cX7_readPlaces 10 = .ok (.aload_n 0, 1) := by decide +kernel
theorem dX7_readPlaces_11 : decode cX7_readPlaces 11 = .ok (.iconst 3, 1) := by decide +kernel
theorem dX7_readPlaces_12 : decode cX7_readPlaces 12 = .ok (.iload_n 1, 1) := by decide +kernel
theorem dX7_readPlaces_13 : decode cX7_readPlaces 13 = .ok (.invokevirtual 74, 3) := by decide +kernel
theorem dX7_readPlaces_16 : decode cX7_readPlaces 16 = .ok (.return_, 1) := by decide +kernel
theorem dX7_readPlaces_17 : decode cX7_readPlaces 17 = .ok (.aload_n 0, 1) := by decide +kernel
theorem dX7_readPlaces_18 : decode cX7_readPlaces 18 = .ok (.iconst 1, 1) := by decide +kernel
theorem dX7_readPlaces_19 : decode cX7_readPlaces 19 = .ok (.bipush 9, 2) := by decide +kernel
theorem dX7_readPlaces_21 : decode cX7_readPlaces 21 = .ok (.invokevirtual 78, 3) := by decide +kernel
theorem dX7_readPlaces_24 : decode cX7_readPlaces 24 = .ok (.istore_n 2, 1) := by decide +kernel
theorem dX7_readPlaces_25 : decode cX7_readPlaces 25 = .ok (.aload_n 0, 1) := by decide +kernel
theorem dX7_readPlaces_26 : decode cX7_readPlaces 26 = .ok (.invokevirtual 82, 3) := by decide +kernel
theorem dX7_readPlaces_29 : decode cX7_readPlaces 29 = .ok (.aload_n 0, 1) := by decide +kernel
theorem dX7_readPlaces_30 : decode cX7_readPlaces 30 = .ok (.getfield 23, 3) := by decide +kernel
theorem dX7_readPlaces_33 : decode cX7_readPlaces 33 = .ok (.ifCond .ne 11, 3) := by decide +kernel
theorem dX7_readPlaces_36 : decode cX7_readPlaces 36 = .ok (.aload_n 0, 1) := by decide +kernel
theorem dX7_readPlaces_37 : decode cX7_readPlaces 37 = .ok (.getfield 19, 3) := by decide +kernel
theorem dX7_readPlaces_40 : decode cX7_readPlaces 40 = .ok (.iload_n 2, 1) := by decide +kernel
theorem dX7_readPlaces_41 : decode cX7_readPlaces 41 = .ok (.invokevirtual 85, 3) := by decide +kernel
theorem dX7_readPlaces_44 : decode cX7_readPlaces 44 = .ok (.return_, 1) := by decide +kernel
theorem dX7_readRoad_0 : decode cX7_readRoad 0 = .ok (.aload_n 0, 1) := by decide +kernel
theorem dX7_readRoad_1 : decode cX7_readRoad 1 = .ok (.getfield 19, 3) := by decide +kernel
theorem dX7_readRoad_4 : decode cX7_readRoad 4 = .ok (.invokevirtual 88, 3) := by decide +kernel
theorem dX7_readRoad_7 : decode cX7_readRoad 7 = .ok (.bipush 14, 2) := by decide +kernel
theorem dX7_readRoad_9 : decode cX7_readRoad 9 = .ok (.if_icmp .lt 10, 3) := by decide +kernel
theorem dX7_readRoad_12 : decode cX7_readRoad 12 = .ok (.aload_n 0, 1) := by decide +kernel
theorem dX7_readRoad_13 : decode cX7_readRoad 13 = .ok (.iconst 3, 1) := by decide +kernel
theorem dX7_readRoad_14 : decode cX7_readRoad 14 = .ok (.iload_n 1, 1) := by decide +kernel
theorem dX7_readRoad_15 : decode cX7_readRoad 15 = .ok (.invokevirtual 74, 3) := by decide +kernel
theorem dX7_readRoad_18 : decode cX7_readRoad 18 = .ok (.return_, 1) := by decide +kernel
theorem dX7_readRoad_19 : decode cX7_readRoad 19 = .ok (.aload_n 0, 1) := by decide +kernel
theorem dX7_readRoad_20 : decode cX7_readRoad 20 = .ok (.iconst 0, 1) := by decide +kernel
theorem dX7_readRoad_21 : decode cX7_readRoad 21 = .ok (.aload_n 0, 1) := by decide +kernel
theorem dX7_readRoad_22 : decode cX7_readRoad 22 = .ok (.getfield 19, 3) := by decide +kernel
theorem dX7_readRoad_25 : decode cX7_readRoad 25 = .ok (.invokevirtual 62, 3) := by decide +kernel
theorem dX7_readRoad_28 : decode cX7_readRoad 28 = .ok (.iconst 1, 1) := by decide +kernel
theorem dX7_readRoad_29 : decode cX7_readRoad 29 = .ok (.isub, 1) := by decide +kernel
theorem dX7_readRoad_30 : decode cX7_readRoad 30 = .ok (.invokevirtual 78, 3) := by decide +kernel
theorem dX7_readRoad_33 : decode cX7_readRoad 33 = .ok (.istore_n 2, 1) := by decide +kernel
theorem dX7_readRoad_34 : decode cX7_readRoad 34 = .ok (.aload_n 0, 1) := by decide +kernel
theorem dX7_readRoad_35 : decode cX7_readRoad 35 = .ok (.invokevirtual 34, 3) := by decide +kernel
theorem dX7_readRoad_38 : decode cX7_readRoad 38 = .ok (.aload_n 0, 1) := by decide +kernel
theorem dX7_readRoad_39 : decode cX7_readRoad 39 = .ok (.getfield 26, 3) := by decide +kernel
theorem dX7_readRoad_42 : decode cX7_readRoad 42 = .ok (.istore_n 3, 1) := by decide +kernel
theorem dX7_readRoad_43 : decode cX7_readRoad 43 = .ok (.aload_n 0, 1) := by decide +kernel
theorem dX7_readRoad_44 : decode cX7_readRoad 44 = .ok (.iconst 0, 1) := by decide +kernel
theorem dX7_readRoad_45 : decode cX7_readRoad 45 = .ok (.aload_n 0, 1) := by decide +kernel
theorem dX7_readRoad_46 : decode cX7_readRoad 46 = .ok (.getfield 19, 3) := by decide +kernel
theorem dX7_readRoad_49 : decode cX7_readRoad 49 = .ok (.invokevirtual 62, 3) := by decide +kernel
theorem dX7_readRoad_52 : decode cX7_readRoad 52 = .ok (.iconst 1, 1) := by decide +kernel
theorem dX7_readRoad_53 : decode cX7_readRoad 53 = .ok (.isub, 1) := by decide +kernel
theorem dX7_readRoad_54 : decode cX7_readRoad 54 = .ok (.invokevirtual 78, 3) := by decide +kernel
theorem dX7_readRoad_57 : decode cX7_readRoad 57 = .ok (.istore 4, 2) := by decide +kernel
theorem dX7_readRoad_59 : decode cX7_readRoad 59 = .ok (.aload_n 0, 1) := by decide +kernel
theorem dX7_readRoad_60 : decode cX7_readRoad 60 = .ok (.getfield 23, 3) := by decide +kernel
theorem dX7_readRoad_63 : decode cX7_readRoad 63 = .ok (.ifCond .ne 22, 3) := by decide +kernel
theorem dX7_readRoad_66 : decode cX7_readRoad 66 = .ok (.aload_n 0, 1) := by decide +kernel
theorem dX7_readRoad_67 : decode cX7_readRoad 67 = .ok (.getfield 19, 3) := by decide +kernel
theorem dX7_readRoad_70 : decode cX7_readRoad 70 = .ok (.iload_n 2, 1) := by decide +kernel
theorem dX7_readRoad_71 : decode cX7_readRoad 71 = .ok (.iload 4, 2) := by decide +kernel
theorem dX7_readRoad_73 : decode cX7_readRoad 73 = .ok (.invokevirtual 91, 3) := by decide +kernel
theorem dX7_readRoad_76 : decode cX7_readRoad 76 = .ok (.ifCond .ne 9, 3) := by decide +kernel
theorem dX7_readRoad_79 : decode cX7_readRoad 79 = .ok (.aload_n 0, 1) := by decide +kernel
theorem dX7_readRoad_80 : decode cX7_readRoad 80 = .ok (.iconst 4, 1) := by decide +kernel
theorem dX7_readRoad_81 : decode cX7_readRoad 81 = .ok (.iload_n 3, 1) := by decide +kernel
theorem dX7_readRoad_82 : decode cX7_readRoad 82 = .ok (.invokevirtual 74, 3) := by decide +kernel
theorem dX7_readRoad_85 : decode cX7_readRoad 85 = .ok (.aload_n 0, 1) := by decide +kernel
theorem dX7_readRoad_86 : decode cX7_readRoad 86 = .ok (.iconst 1, 1) := by decide +kernel
theorem dX7_readRoad_87 : decode cX7_readRoad 87 = .ok (.bipush 99, 2) := by decide +kernel
theorem dX7_readRoad_89 : decode cX7_readRoad 89 = .ok (.invokevirtual 78, 3) := by decide +kernel
theorem dX7_readRoad_92 : decode cX7_readRoad 92 = .ok (.istore 5, 2) := by decide +kernel
theorem dX7_readRoad_94 : decode cX7_readRoad 94 = .ok (.aload_n 0, 1) := by decide +kernel
theorem dX7_readRoad_95 : decode cX7_readRoad 95 = .ok (.invokevirtual 82, 3) := by decide +kernel
theorem dX7_readRoad_98 : decode cX7_readRoad 98 = .ok (.aload_n 0, 1) := by decide +kernel
theorem dX7_readRoad_99 : decode cX7_readRoad 99 = .ok (.getfield 23, 3) := by decide +kernel
theorem dX7_readRoad_102 : decode cX7_readRoad 102 = .ok (.ifCond .ne 15, 3) := by decide +kernel
theorem dX7_readRoad_105 : decode cX7_readRoad 105 = .ok (.aload_n 0, 1) := by decide +kernel
theorem dX7_readRoad_106 : decode cX7_readRoad 106 = .ok (.getfield 19, 3) := by decide +kernel
theorem dX7_readRoad_109 : decode cX7_readRoad 109 = .ok (.iload_n 2, 1) := by decide +kernel
theorem dX7_readRoad_110 : decode cX7_readRoad 110 = .ok (.iload 4, 2) := by decide +kernel
theorem dX7_readRoad_112 : decode cX7_readRoad 112 = .ok (.iload 5, 2) := by decide +kernel
theorem dX7_readRoad_114 : decode cX7_readRoad 114 = .ok (.invokevirtual 95, 3) := by decide +kernel
theorem dX7_readRoad_117 : decode cX7_readRoad 117 = .ok (.return_, 1) := by decide +kernel
theorem dX7_readTravel_0 : decode cX7_readTravel 0 = .ok (.aload_n 0, 1) := by decide +kernel
theorem dX7_readTravel_1 : decode cX7_readTravel 1 = .ok (.getfield 19, 3) := by decide +kernel
theorem dX7_readTravel_4 : decode cX7_readTravel 4 = .ok (.invokevirtual 99, 3) := by decide +kernel
theorem dX7_readTravel_7 : decode cX7_readTravel 7 = .ok (.bipush 20, 2) := by decide +kernel
theorem dX7_readTravel_9 : decode cX7_readTravel 9 = .ok (.if_icmp .lt 10, 3) := by decide +kernel
theorem dX7_readTravel_12 : decode cX7_readTravel 12 = .ok (.aload_n 0, 1) := by decide +kernel
theorem dX7_readTravel_13 : decode cX7_readTravel 13 = .ok (.iconst 3, 1) := by decide +kernel
theorem dX7_readTravel_14 : decode cX7_readTravel 14 = .ok (.iload_n 1, 1) := by decide +kernel
theorem dX7_readTravel_15 : decode cX7_readTravel 15 = .ok (.invokevirtual 74, 3) := by decide +kernel
theorem dX7_readTravel_18 : decode cX7_readTravel 18 = .ok (.return_, 1) := by decide +kernel
theorem dX7_readTravel_19 : decode cX7_readTravel 19 = .ok (.aload_n 0, 1) := by decide +kernel
theorem dX7_readTravel_20 : decode cX7_readTravel 20 = .ok (.iconst 0, 1) := by decide +kernel
theorem dX7_readTravel_21 : decode cX7_readTravel 21 = .ok (.aload_n 0, 1) := by decide +kernel
theorem dX7_readTravel_22 : decode cX7_readTravel 22 = .ok (.getfield 19, 3) := by decide +kernel
theorem dX7_readTravel_25 : decode cX7_readTravel 25 = .ok (.invokevirtual 62, 3) := by decide +kernel
theorem dX7_readTravel_28 : decode cX7_readTravel 28 = .ok (.iconst 1, 1) := by decide +kernel
theorem dX7_readTravel_29 : decode cX7_readTravel 29 = .ok (.isub, 1) := by decide +kernel
theorem dX7_readTravel_30 : decode cX7_readTravel 30 = .ok (.invokevirtual 78, 3) := by decide +kernel
theorem dX7_readTravel_33 : decode cX7_readTravel 33 = .ok (.istore_n 2, 1) := by decide +kernel
theorem dX7_readTravel_34 : decode cX7_readTravel 34 = .ok (.aload_n 0, 1) := by decide +kernel
theorem dX7_readTravel_35 : decode cX7_readTravel 35 = .ok (.invokevirtual 34, 3) := by decide +kernel
theorem dX7_readTravel_38 : decode cX7_readTravel 38 = .ok (.aload_n 0, 1) := by decide +kernel
theorem dX7_readTravel_39 : decode cX7_readTravel 39 = .ok (.getfield 26, 3) := by decide +kernel
theorem dX7_readTravel_42 : decode cX7_readTravel 42 = .ok (.istore_n 3, 1) := by decide +kernel
theorem dX7_readTravel_43 : decode cX7_readTravel 43 = .ok (.aload_n 0, 1) := by decide +kernel
theorem dX7_readTravel_44 : decode cX7_readTravel 44 = .ok (.iconst 0, 1) := by decide +kernel
theorem dX7_readTravel_45 : decode cX7_readTravel 45 = .ok (.aload_n 0, 1) := by decide +kernel
theorem dX7_readTravel_46 : decode cX7_readTravel 46 = .ok (.getfield 19, 3) := by decide +kernel
theorem dX7_readTravel_49 : decode cX7_readTravel 49 = .ok (.invokevirtual 62, 3) := by decide +kernel
theorem dX7_readTravel_52 : decode cX7_readTravel 52 = .ok (.iconst 1, 1) := by decide +kernel
theorem dX7_readTravel_53 : decode cX7_readTravel 53 = .ok (.isub, 1) := by decide +kernel
theorem dX7_readTravel_54 : decode cX7_readTravel 54 = .ok (.invokevirtual 78, 3) := by decide +kernel
theorem dX7_readTravel_57 : decode cX7_readTravel 57 = .ok (.istore 4, 2) := by decide +kernel
theorem dX7_readTravel_59 : decode cX7_readTravel 59 = .ok (.iload_n 2, 1) := by decide +kernel
theorem dX7_readTravel_60 : decode cX7_readTravel 60 = .ok (.iload 4, 2) := by decide +kernel
theorem dX7_readTravel_62 : decode cX7_readTravel 62 = .ok (.if_icmp .ne 9, 3) := by decide +kernel
theorem dX7_readTravel_65 : decode cX7_readTravel 65 = .ok (.aload_n 0, 1) := by decide +kernel
theorem dX7_readTravel_66 : decode cX7_readTravel 66 = .ok (.iconst 4, 1) := by decide +kernel
theorem dX7_readTravel_67 : decode cX7_readTravel 67 = .ok (.iload_n 3, 1) := by decide +kernel
theorem dX7_readTravel_68 : decode cX7_readTravel 68 = .ok (.invokevirtual 74, 3) := by decide +kernel
theorem dX7_readTravel_71 : decode cX7_readTravel 71 = .ok (.aload_n 0, 1) := by decide +kernel
theorem dX7_readTravel_72 : decode cX7_readTravel 72 = .ok (.iconst 1, 1) := by decide +kernel
theorem dX7_readTravel_73 : decode cX7_readTravel 73 = .ok (.bipush 99, 2) := by decide +kernel
theorem dX7_readTravel_75 : decode cX7_readTravel 75 = .ok (.invokevirtual 78, 3) := by decide +kernel
theorem dX7_readTravel_78 : decode cX7_readTravel 78 = .ok (.istore 5, 2) := by decide +kernel
theorem dX7_readTravel_80 : decode cX7_readTravel 80 = .ok (.aload_n 0, 1) := by decide +kernel
theorem dX7_readTravel_81 : decode cX7_readTravel 81 = .ok (.invokevirtual 82, 3) := by decide +kernel
theorem dX7_readTravel_84 : decode cX7_readTravel 84 = .ok (.aload_n 0, 1) := by decide +kernel
theorem dX7_readTravel_85 : decode cX7_readTravel 85 = .ok (.getfield 23, 3) := by decide +kernel
theorem dX7_readTravel_88 : decode cX7_readTravel 88 = .ok (.ifCond .ne 15, 3) := by decide +kernel
theorem dX7_readTravel_91 : decode cX7_readTravel 91 = .ok (.aload_n 0, 1) := by decide +kernel
theorem dX7_readTravel_92 : decode cX7_readTravel 92 = .ok (.getfield 19, 3) := by decide +kernel
theorem dX7_readTravel_95 : decode cX7_readTravel 95 = .ok (.iload_n 2, 1) := by decide +kernel
theorem dX7_readTravel_96 : decode cX7_readTravel 96 = .ok (.iload 4, 2) := by decide +kernel
theorem dX7_readTravel_98 : decode cX7_readTravel 98 = .ok (.iload 5, 2) := by decide +kernel
theorem dX7_readTravel_100 : decode cX7_readTravel 100 = .ok (.invokevirtual 102, 3) := by decide +kernel
theorem dX7_readTravel_103 : decode cX7_readTravel 103 = .ok (.return_, 1) := by decide +kernel
theorem dX7_readNumber_0 : decode cX7_readNumber 0 = .ok (.aload_n 0, 1) := by decide +kernel
theorem dX7_readNumber_1 : decode cX7_readNumber 1 = .ok (.invokevirtual 34, 3) := by decide +kernel
theorem dX7_readNumber_4 : decode cX7_readNumber 4 = .ok (.aload_n 0, 1) := by decide +kernel
theorem dX7_readNumber_5 : decode cX7_readNumber 5 = .ok (.getfield 26, 3) := by decide +kernel
theorem dX7_readNumber_8 : decode cX7_readNumber 8 = .ok (.istore_n 3, 1) := by decide +kernel
theorem dX7_readNumber_9 : decode cX7_readNumber 9 = .ok (.iconst 0, 1) := by decide +kernel
theorem dX7_readNumber_10 : decode cX7_readNumber 10 = .ok (.istore 4, 2) := by decide +kernel
theorem dX7_readNumber_12 : decode cX7_readNumber 12 = .ok (.iconst 0, 1) := by decide +kernel
theorem dX7_readNumber_13 : decode cX7_readNumber 13 = .ok (.istore 5, 2) := by decide +kernel
theorem dX7_readNumber_15 : decode cX7_readNumber 15 = .ok (.iload 5, 2) := by decide +kernel
theorem dX7_readNumber_17 : decode cX7_readNumber 17 = .ok (.sipush 400, 3) := by decide +kernel
theorem dX7_readNumber_20 : decode cX7_readNumber 20 = .ok (.if_icmp .ge 64, 3) := by decide +kernel
theorem dX7_readNumber_23 : decode cX7_readNumber 23 = .ok (.aload_n 0, 1) := by decide +kernel
theorem dX7_readNumber_24 : decode cX7_readNumber 24 = .ok (.getfield 15, 3) := by decide +kernel
theorem dX7_readNumber_27 : decode cX7_readNumber 27 = .ok (.aload_n 0, 1) := by decide +kernel
theorem dX7_readNumber_28 : decode cX7_readNumber 28 = .ok (.getfield 26, 3) := by decide +kernel
theorem dX7_readNumber_31 : decode cX7_readNumber 31 = .ok (.invokevirtual 105, 3) := by decide +kernel
theorem dX7_readNumber_34 : decode cX7_readNumber 34 = .ok (.invokestatic 109, 3) := by decide +kernel
theorem dX7_readNumber_37 : decode cX7_readNumber 37 = .ok (.ifCond .eq 47, 3) := by decide +kernel
theorem dX7_readNumber_40 : decode cX7_readNumber 40 = .ok (.sipush 1000, 3) := by decide +kernel
theorem dX7_readNumber_43 : decode cX7_readNumber 43 = .ok (.iload 4, 2) := by decide +kernel
theorem dX7_readNumber_45 : decode cX7_readNumber 45 = .ok (.bipush 10, 2) := by decide +kernel
theorem dX7_readNumber_47 : decode cX7_readNumber 47 = .ok (.imul, 1) := by decide +kernel
theorem dX7_readNumber_48 : decode cX7_readNumber 48 = .ok (.aload_n 0, 1) := by decide +kernel
theorem dX7_readNumber_49 : decode cX7_readNumber 49 = .ok (.getfield 15, 3) := by decide +kernel
theorem dX7_readNumber_52 : decode cX7_readNumber 52 = .ok (.aload_n 0, 1) := by decide +kernel
theorem dX7_readNumber_53 : decode cX7_readNumber 53 = .ok (.getfield 26, 3) := by decide +kernel
theorem dX7_readNumber_56 : decode cX7_readNumber 56 = .ok (.invokevirtual 105, 3) := by decide +kernel
theorem dX7_readNumber_59 : decode cX7_readNumber 59 = .ok (.iadd, 1) := by decide +kernel
theorem dX7_readNumber_60 : decode cX7_readNumber 60 = .ok (.bipush 48, 2) := by decide +kernel
theorem dX7_readNumber_62 : decode cX7_readNumber 62 = .ok (.isub, 1) := by decide +kernel
theorem dX7_readNumber_63 : decode cX7_readNumber 63 = .ok (.invokestatic 113, 3) := by decide +kernel
theorem dX7_readNumber_66 : decode cX7_readNumber 66 = .ok (.istore 4, 2) := by decide +kernel
theorem dX7_readNumber_68 : decode cX7_readNumber 68 = .ok (.aload_n 0, 1) := by decide +kernel
theorem dX7_readNumber_69 : decode cX7_readNumber 69 = .ok (.dup, 1) := by decide +kernel
theorem dX7_readNumber_70 : decode cX7_readNumber 70 = .ok (.getfield 26, 3) := by decide +kernel
theorem dX7_readNumber_73 : decode cX7_readNumber 73 = .ok (.iconst 1, 1) := by decide +kernel
theorem dX7_readNumber_74 : decode cX7_readNumber 74 = .ok (.iadd, 1) := by decide +kernel
theorem dX7_readNumber_75 : decode cX7_readNumber 75 = .ok (.putfield 26, 3) := by decide +kernel
theorem dX7_readNumber_78 : decode cX7_readNumber 78 = .ok (.iinc 5 1, 3) := by decide +kernel
theorem dX7_readNumber_81 : decode cX7_readNumber 81 = .ok (.goto (-66), 3) := by decide +kernel
theorem dX7_readNumber_84 : decode cX7_readNumber 84 = .ok (.aload_n 0, 1) := by decide +kernel
theorem dX7_readNumber_85 : decode cX7_readNumber 85 = .ok (.getfield 26, 3) := by decide +kernel
theorem dX7_readNumber_88 : decode cX7_readNumber 88 = .ok (.iload_n 3, 1) := by decide +kernel
theorem dX7_readNumber_89 : decode cX7_readNumber 89 = .ok (.if_icmp .ne 12, 3) := by decide +kernel
theorem dX7_readNumber_92 : decode cX7_readNumber 92 = .ok (.aload_n 0, 1) := by decide +kernel
theorem dX7_readNumber_93 : decode cX7_readNumber 93 = .ok (.iconst 1, 1) := by decide +kernel
theorem dX7_readNumber_94 : decode cX7_readNumber 94 = .ok (.iload_n 3, 1) := by decide +kernel
theorem dX7_readNumber_95 : decode cX7_readNumber 95 = .ok (.invokevirtual 74, 3) := by decide +kernel
theorem dX7_readNumber_98 : decode cX7_readNumber 98 = .ok (.goto 31, 3) := by decide +kernel
theorem dX7_readNumber_101 : decode cX7_readNumber 101 = .ok (.aload_n 0, 1) := by decide +kernel
theorem dX7_readNumber_102 : decode cX7_readNumber 102 = .ok (.getfield 26, 3) := by decide +kernel
theorem dX7_readNumber_105 : decode cX7_readNumber 105 = .ok (.iload_n 3, 1) := by decide +kernel
theorem dX7_readNumber_106 : decode cX7_readNumber 106 = .ok (.isub, 1) := by decide +kernel
theorem dX7_readNumber_107 : decode cX7_readNumber 107 = .ok (.iconst 3, 1) := by decide +kernel
theorem dX7_readNumber_108 : decode cX7_readNumber 108 = .ok (.if_icmp .gt 15, 3) := by decide +kernel
theorem dX7_readNumber_111 : decode cX7_readNumber 111 = .ok (.iload 4, 2) := by decide +kernel
theorem dX7_readNumber_113 : decode cX7_readNumber 113 = .ok (.iload_n 1, 1) := by decide +kernel
theorem dX7_readNumber_114 : decode cX7_readNumber 114 = .ok (.if_icmp .lt 9, 3) := by decide +kernel
theorem dX7_readNumber_117 : decode cX7_readNumber 117 = .ok (.iload 4, 2) := by decide +kernel
theorem dX7_readNumber_119 : decode cX7_readNumber 119 = .ok (.iload_n 2, 1) := by decide +kernel
theorem dX7_readNumber_120 : decode cX7_readNumber 120 = .ok (.if_icmp .le 9, 3) := by decide +kernel
theorem dX7_readNumber_123 : decode cX7_readNumber 123 = .ok (.aload_n 0, 1) := by decide +kernel
theorem dX7_readNumber_124 : decode cX7_readNumber 124 = .ok (.iconst 2, 1) := by decide +kernel
theorem dX7_readNumber_125 : decode cX7_readNumber 125 = .ok (.iload_n 3, 1) := by decide +kernel
theorem dX7_readNumber_126 : decode cX7_readNumber 126 = .ok (.invokevirtual 74, 3) := by decide +kernel
theorem dX7_readNumber_129 : decode cX7_readNumber 129 = .ok (.iload 4, 2) := by decide +kernel
theorem dX7_readNumber_131 : decode cX7_readNumber 131 = .ok (.ireturn, 1) := by decide +kernel
theorem dX7_readEnd_0 : decode cX7_readEnd 0 = .ok (.aload_n 0, 1) := by decide +kernel
theorem dX7_readEnd_1 : decode cX7_readEnd 1 = .ok (.invokevirtual 34, 3) := by decide +kernel
theorem dX7_readEnd_4 : decode cX7_readEnd 4 = .ok (.aload_n 0, 1) := by decide +kernel
theorem dX7_readEnd_5 : decode cX7_readEnd 5 = .ok (.getfield 15, 3) := by decide +kernel
theorem dX7_readEnd_8 : decode cX7_readEnd 8 = .ok (.aload_n 0, 1) := by decide +kernel
theorem dX7_readEnd_9 : decode cX7_readEnd 9 = .ok (.getfield 26, 3) := by decide +kernel
theorem dX7_readEnd_12 : decode cX7_readEnd 12 = .ok (.invokevirtual 105, 3) := by decide +kernel
theorem dX7_readEnd_15 : decode cX7_readEnd 15 = .ok (.bipush 59, 2) := by decide +kernel
theorem dX7_readEnd_17 : decode cX7_readEnd 17 = .ok (.if_icmp .ne 16, 3) := by decide +kernel
theorem dX7_readEnd_20 : decode cX7_readEnd 20 = .ok (.aload_n 0, 1) := by decide +kernel
theorem dX7_readEnd_21 : decode cX7_readEnd 21 = .ok (.dup, 1) := by decide +kernel
theorem dX7_readEnd_22 : decode cX7_readEnd 22 = .ok (.getfield 26, 3) := by decide +kernel
theorem dX7_readEnd_25 : decode cX7_readEnd 25 = .ok (.iconst 1, 1) := by decide +kernel
theorem dX7_readEnd_26 : decode cX7_readEnd 26 = .ok (.iadd, 1) := by decide +kernel
theorem dX7_readEnd_27 : decode cX7_readEnd 27 = .ok (.putfield 26, 3) := by decide +kernel
theorem dX7_readEnd_30 : decode cX7_readEnd 30 = .ok (.goto 12, 3) := by decide +kernel
theorem dX7_readEnd_33 : decode cX7_readEnd 33 = .ok (.aload_n 0, 1) := by decide +kernel
theorem dX7_readEnd_34 : decode cX7_readEnd 34 = .ok (.iconst 1, 1) := by decide +kernel
theorem dX7_readEnd_35 : decode cX7_readEnd 35 = .ok (.aload_n 0, 1) := by decide +kernel
theorem dX7_readEnd_36 : decode cX7_readEnd 36 = .ok (.getfield 26, 3) := by decide +kernel
theorem dX7_readEnd_39 : decode cX7_readEnd 39 = .ok (.invokevirtual 74, 3) := by decide +kernel
theorem dX7_readEnd_42 : decode cX7_readEnd 42 = .ok (.return_, 1) := by decide +kernel
theorem dX7_skipBlanks_0 : decode cX7_skipBlanks 0 = .ok (.iconst 0, 1) := by decide +kernel
theorem dX7_skipBlanks_1 : decode cX7_skipBlanks 1 = .ok (.istore_n 1, 1) := by decide +kernel
theorem dX7_skipBlanks_2 : decode cX7_skipBlanks 2 = .ok (.iload_n 1, 1) := by decide +kernel
theorem dX7_skipBlanks_3 : decode cX7_skipBlanks 3 = .ok (.sipush 400, 3) := by decide +kernel
theorem dX7_skipBlanks_6 : decode cX7_skipBlanks 6 = .ok (.if_icmp .ge 35, 3) := by decide +kernel
theorem dX7_skipBlanks_9 : decode cX7_skipBlanks 9 = .ok (.aload_n 0, 1) := by decide +kernel
theorem dX7_skipBlanks_10 : decode cX7_skipBlanks 10 = .ok (.getfield 15, 3) := by decide +kernel
theorem dX7_skipBlanks_13 : decode cX7_skipBlanks 13 = .ok (.aload_n 0, 1) := by decide +kernel
theorem dX7_skipBlanks_14 : decode cX7_skipBlanks 14 = .ok (.getfield 26, 3) := by decide +kernel
theorem dX7_skipBlanks_17 : decode cX7_skipBlanks 17 = .ok (.invokevirtual 105, 3) := by decide +kernel
theorem dX7_skipBlanks_20 : decode cX7_skipBlanks 20 = .ok (.bipush 32, 2) := by decide +kernel
theorem dX7_skipBlanks_22 : decode cX7_skipBlanks 22 = .ok (.if_icmp .ne 19, 3) := by decide +kernel
theorem dX7_skipBlanks_25 : decode cX7_skipBlanks 25 = .ok (.aload_n 0, 1) := by decide +kernel
theorem dX7_skipBlanks_26 : decode cX7_skipBlanks 26 = .ok (.dup, 1) := by decide +kernel
theorem dX7_skipBlanks_27 : decode cX7_skipBlanks 27 = .ok (.getfield 26, 3) := by decide +kernel
theorem dX7_skipBlanks_30 : decode cX7_skipBlanks 30 = .ok (.iconst 1, 1) := by decide +kernel
theorem dX7_skipBlanks_31 : decode cX7_skipBlanks 31 = .ok (.iadd, 1) := by decide +kernel
theorem dX7_skipBlanks_32 : decode cX7_skipBlanks 32 = .ok (.putfield 26, 3) := by decide +kernel
theorem dX7_skipBlanks_35 : decode cX7_skipBlanks 35 = .ok (.iinc 1 1, 3) := by decide +kernel
theorem dX7_skipBlanks_38 : decode cX7_skipBlanks 38 = .ok (.goto (-36), 3) := by decide +kernel
theorem dX7_skipBlanks_41 : decode cX7_skipBlanks 41 = .ok (.return_, 1) := by decide +kernel
theorem dX7_skipWord_0 : decode cX7_skipWord 0 = .ok (.iconst 0, 1) := by decide +kernel
theorem dX7_skipWord_1 : decode cX7_skipWord 1 = .ok (.istore_n 1, 1) := by decide +kernel
theorem dX7_skipWord_2 : decode cX7_skipWord 2 = .ok (.iload_n 1, 1) := by decide +kernel
theorem dX7_skipWord_3 : decode cX7_skipWord 3 = .ok (.sipush 400, 3) := by decide +kernel
theorem dX7_skipWord_6 : decode cX7_skipWord 6 = .ok (.if_icmp .ge 36, 3) := by decide +kernel
theorem dX7_skipWord_9 : decode cX7_skipWord 9 = .ok (.aload_n 0, 1) := by decide +kernel
theorem dX7_skipWord_10 : decode cX7_skipWord 10 = .ok (.getfield 15, 3) := by decide +kernel
theorem dX7_skipWord_13 : decode cX7_skipWord 13 = .ok (.aload_n 0, 1) := by decide +kernel
theorem dX7_skipWord_14 : decode cX7_skipWord 14 = .ok (.getfield 26, 3) := by decide +kernel
theorem dX7_skipWord_17 : decode cX7_skipWord 17 = .ok (.invokevirtual 105, 3) := by decide +kernel
theorem dX7_skipWord_20 : decode cX7_skipWord 20 = .ok (.invokestatic 118, 3) := by decide +kernel
theorem dX7_skipWord_23 : decode cX7_skipWord 23 = .ok (.ifCond .eq 19, 3) := by decide +kernel
theorem dX7_skipWord_26 : decode cX7_skipWord 26 = .ok (.aload_n 0, 1) := by decide +kernel
theorem dX7_skipWord_27 : decode cX7_skipWord 27 = .ok (.dup, 1) := by decide +kernel
theorem dX7_skipWord_28 : decode cX7_skipWord 28 = .ok (.getfield 26, 3) := by decide +kernel
theorem dX7_skipWord_31 : decode cX7_skipWord 31 = .ok (.iconst 1, 1) := by decide +kernel
theorem dX7_skipWord_32 : decode cX7_skipWord 32 = .ok (.iadd, 1) := by decide +kernel
theorem dX7_skipWord_33 : decode cX7_skipWord 33 = .ok (.putfield 26, 3) := by decide +kernel
theorem dX7_skipWord_36 : decode cX7_skipWord 36 = .ok (.iinc 1 1, 3) := by decide +kernel
theorem dX7_skipWord_39 : decode cX7_skipWord 39 = .ok (.goto (-37), 3) := by decide +kernel
theorem dX7_skipWord_42 : decode cX7_skipWord 42 = .ok (.return_, 1) := by decide +kernel
theorem dX7_isWord_0 : decode cX7_isWord 0 = .ok (.aload_n 0, 1) := by decide +kernel
theorem dX7_isWord_1 : decode cX7_isWord 1 = .ok (.getfield 26, 3) := by decide +kernel
theorem dX7_isWord_4 : decode cX7_isWord 4 = .ok (.iload_n 1, 1) := by decide +kernel
theorem dX7_isWord_5 : decode cX7_isWord 5 = .ok (.isub, 1) := by decide +kernel
theorem dX7_isWord_6 : decode cX7_isWord 6 = .ok (.aload_n 2, 1) := by decide +kernel
theorem dX7_isWord_7 : decode cX7_isWord 7 = .ok (.invokevirtual 121, 3) := by decide +kernel
theorem dX7_isWord_10 : decode cX7_isWord 10 = .ok (.if_icmp .eq 5, 3) := by decide +kernel
theorem dX7_isWord_13 : decode cX7_isWord 13 = .ok (.iconst 0, 1) := by decide +kernel
theorem dX7_isWord_14 : decode cX7_isWord 14 = .ok (.ireturn, 1) := by decide +kernel
theorem dX7_isWord_15 : decode cX7_isWord 15 = .ok (.iconst 0, 1) := by decide +kernel
theorem dX7_isWord_16 : decode cX7_isWord 16 = .ok (.istore_n 3, 1) := by decide +kernel
theorem dX7_isWord_17 : decode cX7_isWord 17 = .ok (.iload_n 3, 1) := by decide +kernel
theorem dX7_isWord_18 : decode cX7_isWord 18 = .ok (.aload_n 2, 1) := by decide +kernel
theorem dX7_isWord_19 : decode cX7_isWord 19 = .ok (.invokevirtual 121, 3) := by decide +kernel
theorem dX7_isWord_22 : decode cX7_isWord 22 = .ok (.if_icmp .ge 29, 3) := by decide +kernel
theorem dX7_isWord_25 : decode cX7_isWord 25 = .ok (.aload_n 0, 1) := by decide +kernel
theorem dX7_isWord_26 : decode cX7_isWord 26 = .ok (.getfield 15, 3) := by decide +kernel
theorem dX7_isWord_29 : decode cX7_isWord 29 = .ok (.iload_n 1, 1) := by decide +kernel
theorem dX7_isWord_30 : decode cX7_isWord 30 = .ok (.iload_n 3, 1) := by decide +kernel
theorem dX7_isWord_31 : decode cX7_isWord 31 = .ok (.iadd, 1) := by decide +kernel
theorem dX7_isWord_32 : decode cX7_isWord 32 = .ok (.invokevirtual 105, 3) := by decide +kernel
theorem dX7_isWord_35 : decode cX7_isWord 35 = .ok (.aload_n 2, 1) := by decide +kernel
theorem dX7_isWord_36 : decode cX7_isWord 36 = .ok (.iload_n 3, 1) := by decide +kernel
theorem dX7_isWord_37 : decode cX7_isWord 37 = .ok (.invokevirtual 124, 3) := by decide +kernel
theorem dX7_isWord_40 : decode cX7_isWord 40 = .ok (.if_icmp .eq 5, 3) := by decide +kernel
theorem dX7_isWord_43 : decode cX7_isWord 43 = .ok (.iconst 0, 1) := by decide +kernel
theorem dX7_isWord_44 : decode cX7_isWord 44 = .ok (.ireturn, 1) := by decide +kernel
theorem dX7_isWord_45 : decode cX7_isWord 45 = .ok (.iinc 3 1, 3) := by decide +kernel
theorem dX7_isWord_48 : decode cX7_isWord 48 = .ok (.goto (-31), 3) := by decide +kernel
theorem dX7_isWord_51 : decode cX7_isWord 51 = .ok (.iconst 1, 1) := by decide +kernel
theorem dX7_isWord_52 : decode cX7_isWord 52 = .ok (.ireturn, 1) := by decide +kernel
theorem dX7_isFigure_0 : decode cX7_isFigure 0 = .ok (.iload_n 0, 1) := by decide +kernel
theorem dX7_isFigure_1 : decode cX7_isFigure 1 = .ok (.bipush 48, 2) := by decide +kernel
theorem dX7_isFigure_3 : decode cX7_isFigure 3 = .ok (.if_icmp .lt 13, 3) := by decide +kernel
theorem dX7_isFigure_6 : decode cX7_isFigure 6 = .ok (.iload_n 0, 1) := by decide +kernel
theorem dX7_isFigure_7 : decode cX7_isFigure 7 = .ok (.bipush 57, 2) := by decide +kernel
theorem dX7_isFigure_9 : decode cX7_isFigure 9 = .ok (.if_icmp .gt 7, 3) := by decide +kernel
theorem dX7_isFigure_12 : decode cX7_isFigure 12 = .ok (.iconst 1, 1) := by decide +kernel
theorem dX7_isFigure_13 : decode cX7_isFigure 13 = .ok (.goto 4, 3) := by decide +kernel
theorem dX7_isFigure_16 : decode cX7_isFigure 16 = .ok (.iconst 0, 1) := by decide +kernel
theorem dX7_isFigure_17 : decode cX7_isFigure 17 = .ok (.ireturn, 1) := by decide +kernel
theorem dX7_isLetter_0 : decode cX7_isLetter 0 = .ok (.iload_n 0, 1) := by decide +kernel
theorem dX7_isLetter_1 : decode cX7_isLetter 1 = .ok (.bipush 97, 2) := by decide +kernel
theorem dX7_isLetter_3 : decode cX7_isLetter 3 = .ok (.if_icmp .lt 13, 3) := by decide +kernel
theorem dX7_isLetter_6 : decode cX7_isLetter 6 = .ok (.iload_n 0, 1) := by decide +kernel
theorem dX7_isLetter_7 : decode cX7_isLetter 7 = .ok (.bipush 122, 2) := by decide +kernel
theorem dX7_isLetter_9 : decode cX7_isLetter 9 = .ok (.if_icmp .gt 7, 3) := by decide +kernel
theorem dX7_isLetter_12 : decode cX7_isLetter 12 = .ok (.iconst 1, 1) := by decide +kernel
theorem dX7_isLetter_13 : decode cX7_isLetter 13 = .ok (.goto 4, 3) := by decide +kernel
theorem dX7_isLetter_16 : decode cX7_isLetter 16 = .ok (.iconst 0, 1) := by decide +kernel
theorem dX7_isLetter_17 : decode cX7_isLetter 17 = .ok (.ireturn, 1) := by decide +kernel
theorem dX8_init_0 : decode cX8_init 0 = .ok (.aload_n 0, 1) := by decide +kernel
theorem dX8_init_1 : decode cX8_init 1 = .ok (.invokespecial 3, 3) := by decide +kernel
theorem dX8_init_4 : decode cX8_init 4 = .ok (.aload_n 0, 1) := by decide +kernel
theorem dX8_init_5 : decode cX8_init 5 = .ok (.bipush 40, 2) := by decide +kernel
theorem dX8_init_7 : decode cX8_init 7 = .ok (.newarray .int, 2) := by decide +kernel
theorem dX8_init_9 : decode cX8_init 9 = .ok (.putfield 9, 3) := by decide +kernel
theorem dX8_init_12 : decode cX8_init 12 = .ok (.aload_n 0, 1) := by decide +kernel
theorem dX8_init_13 : decode cX8_init 13 = .ok (.bipush 40, 2) := by decide +kernel
theorem dX8_init_15 : decode cX8_init 15 = .ok (.newarray .int, 2) := by decide +kernel
theorem dX8_init_17 : decode cX8_init 17 = .ok (.putfield 15, 3) := by decide +kernel
theorem dX8_init_20 : decode cX8_init 20 = .ok (.aload_n 0, 1) := by decide +kernel
theorem dX8_init_21 : decode cX8_init 21 = .ok (.bipush 40, 2) := by decide +kernel
theorem dX8_init_23 : decode cX8_init 23 = .ok (.newarray .int, 2) := by decide +kernel
theorem dX8_init_25 : decode cX8_init 25 = .ok (.putfield 18, 3) := by decide +kernel
theorem dX8_init_28 : decode cX8_init 28 = .ok (.aload_n 0, 1) := by decide +kernel
theorem dX8_init_29 : decode cX8_init 29 = .ok (.aload_n 1, 1) := by decide +kernel
theorem dX8_init_30 : decode cX8_init 30 = .ok (.putfield 21, 3) := by decide +kernel
theorem dX8_init_33 : decode cX8_init 33 = .ok (.return_, 1) := by decide +kernel
theorem dX8_size_0 : decode cX8_size 0 = .ok (.aload_n 0, 1) := by decide +kernel
theorem dX8_size_1 : decode cX8_size 1 = .ok (.getfield 25, 3) := by decide +kernel
theorem dX8_size_4 : decode cX8_size 4 = .ok (.ireturn, 1) := by decide +kernel
theorem dX8_isFull_0 : decode cX8_isFull 0 = .ok (.aload_n 0, 1) := by decide +kernel
theorem dX8_isFull_1 : decode cX8_isFull 1 = .ok (.getfield 25, 3) := by decide +kernel
theorem dX8_isFull_4 : decode cX8_isFull 4 = .ok (.bipush 40, 2) := by decide +kernel
theorem dX8_isFull_6 : decode cX8_isFull 6 = .ok (.if_icmp .lt 7, 3) := by decide +kernel
theorem dX8_isFull_9 : decode cX8_isFull 9 = .ok (.iconst 1, 1) := by decide +kernel
theorem dX8_isFull_10 : decode cX8_isFull 10 = .ok (.goto 4, 3) := by decide +kernel
theorem dX8_isFull_13 : decode cX8_isFull 13 = .ok (.iconst 0, 1) := by decide +kernel
theorem dX8_isFull_14 : decode cX8_isFull 14 = .ok (.ireturn, 1) := by decide +kernel
theorem dX8_clear_0 : decode cX8_clear 0 = .ok (.aload_n 0, 1) := by decide +kernel
theorem dX8_clear_1 : decode cX8_clear 1 = .ok (.iconst 0, 1) := by decide +kernel
theorem dX8_clear_2 : decode cX8_clear 2 = .ok (.putfield 25, 3) := by decide +kernel
theorem dX8_clear_5 : decode cX8_clear 5 = .ok (.return_, 1) := by decide +kernel
theorem dX8_append_0 : decode cX8_append 0 = .ok (.aload_n 0, 1) := by decide +kernel
theorem dX8_append_1 : decode cX8_append 1 = .ok (.getfield 25, 3) := by decide +kernel
theorem dX8_append_4 : decode cX8_append 4 = .ok (.ifCond .lt 52, 3) := by decide +kernel
theorem dX8_append_7 : decode cX8_append 7 = .ok (.aload_n 0, 1) := by decide +kernel
theorem dX8_append_8 : decode cX8_append 8 = .ok (.getfield 25, 3) := by decide +kernel
theorem dX8_append_11 : decode cX8_append 11 = .ok (.bipush 40, 2) := by decide +kernel
theorem dX8_append_13 : decode cX8_append 13 = .ok (.if_icmp .ge 43, 3) := by decide +kernel
theorem dX8_append_16 : decode cX8_append 16 = .ok (.aload_n 0, 1) := by decide +kernel
theorem dX8_append_17 : decode cX8_append 17 = .ok (.getfield 9, 3) := by decide +kernel
theorem dX8_append_20 : decode cX8_append 20 = .ok (.aload_n 0, 1) := by decide +kernel
theorem dX8_append_21 : decode cX8_append 21 = .ok (.getfield 25, 3) := by decide +kernel
theorem dX8_append_24 : decode cX8_append 24 = .ok (.iload_n 1, 1) := by decide +kernel
theorem dX8_append_25 : decode cX8_append 25 = .ok (.iastore, 1) := by decide +kernel
theorem dX8_append_26 : decode cX8_append 26 = .ok (.aload_n 0, 1) := by decide +kernel
theorem dX8_append_27 : decode cX8_append 27 = .ok (.getfield 15, 3) := by decide +kernel
theorem dX8_append_30 : decode cX8_append 30 = .ok (.aload_n 0, 1) := by decide +kernel
theorem dX8_append_31 : decode cX8_append 31 = .ok (.getfield 25, 3) := by decide +kernel
theorem dX8_append_34 : decode cX8_append 34 = .ok (.iload_n 2, 1) := by decide +kernel
theorem dX8_append_35 : decode cX8_append 35 = .ok (.iastore, 1) := by decide +kernel
theorem dX8_append_36 : decode cX8_append 36 = .ok (.aload_n 0, 1) := by decide +kernel
theorem dX8_append_37 : decode cX8_append 37 = .ok (.getfield 18, 3) := by decide +kernel
theorem dX8_append_40 : decode cX8_append 40 = .ok (.aload_n 0, 1) := by decide +kernel
theorem dX8_append_41 : decode cX8_append 41 = .ok (.getfield 25, 3) := by decide +kernel
theorem dX8_append_44 : decode cX8_append 44 = .ok (.iload_n 3, 1) := by decide +kernel
theorem dX8_append_45 : decode cX8_append 45 = .ok (.iastore, 1) := by decide +kernel
theorem dX8_append_46 : decode cX8_append 46 = .ok (.aload_n 0, 1) := by decide +kernel
theorem dX8_append_47 : decode cX8_append 47 = .ok (.dup, 1) := by decide +kernel
theorem dX8_append_48 : decode cX8_append 48 = .ok (.getfield 25, 3) := by decide +kernel
theorem dX8_append_51 : decode cX8_append 51 = .ok (.iconst 1, 1) := by decide +kernel
theorem dX8_append_52 : decode cX8_append 52 = .ok (.iadd, 1) := by decide +kernel
theorem dX8_append_53 : decode cX8_append 53 = .ok (.putfield 25, 3) := by decide +kernel
theorem dX8_append_56 : decode cX8_append 56 = .ok (.return_, 1) := by decide +kernel
theorem dX8_fittingTurns_0 : decode cX8_fittingTurns 0 = .ok (.aload_n 0, 1) := by decide +kernel
theorem dX8_fittingTurns_1 : decode cX8_fittingTurns 1 = .ok (.getfield 21, 3) := by decide +kernel
theorem dX8_fittingTurns_4 : decode cX8_fittingTurns 4 = .ok (.iload_n 1, 1) := by decide +kernel
theorem dX8_fittingTurns_5 : decode cX8_fittingTurns 5 = .ok (.invokevirtual 29, 3) := by decide +kernel
theorem dX8_fittingTurns_8 : decode cX8_fittingTurns 8 = .ok (.istore_n 2, 1) := by decide +kernel
theorem dX8_fittingTurns_9 : decode cX8_fittingTurns 9 = .ok (.iload_n 2, 1) := by decide +kernel
theorem dX8_fittingTurns_10 : decode cX8_fittingTurns 10 = .ok (.ifCond .ne 5, 3) := by decide +kernel
theorem dX8_fittingTurns_13 : decode cX8_fittingTurns 13 = .ok (.iconst 1, 1) := by decide +kernel
theorem dX8_fittingTurns_14 : decode cX8_fittingTurns 14 = .ok (.ireturn, 1) := by decide +kernel
theorem dX8_fittingTurns_15 : decode cX8_fittingTurns 15 = .ok (.iconst 1, 1) := by decide +kernel
theorem dX8_fittingTurns_16 : decode cX8_fittingTurns 16 = .ok (.iload_n 2, 1) := by decide +kernel
theorem dX8_fittingTurns_17 : decode cX8_fittingTurns 17 = .ok (.ishl, 1) := by decide +kernel
theorem dX8_fittingTurns_18 : decode cX8_fittingTurns 18 = .ok (.iconst 1, 1) := by decide +kernel
theorem dX8_fittingTurns_19 : decode cX8_fittingTurns 19 = .ok (.isub, 1) := by decide +kernel
theorem dX8_fittingTurns_20 : decode cX8_fittingTurns 20 = .ok (.istore_n 3, 1) := by decide +kernel
theorem dX8_fittingTurns_21 : decode cX8_fittingTurns 21 = .ok (.iconst 0, 1) := by decide +kernel
theorem dX8_fittingTurns_22 : decode cX8_fittingTurns 22 = .ok (.istore 4, 2) := by decide +kernel
theorem dX8_fittingTurns_24 : decode cX8_fittingTurns 24 = .ok (.iload 4, 2) := by decide +kernel
theorem dX8_fittingTurns_26 : decode cX8_fittingTurns 26 = .ok (.aload_n 0, 1) := by decide +kernel
theorem dX8_fittingTurns_27 : decode cX8_fittingTurns 27 = .ok (.getfield 25, 3) := by decide +kernel
theorem dX8_fittingTurns_30 : decode cX8_fittingTurns 30 = .ok (.if_icmp .ge 71, 3) := by decide +kernel
theorem dX8_fittingTurns_33 : decode cX8_fittingTurns 33 = .ok (.iload 4, 2) := by decide +kernel
theorem dX8_fittingTurns_35 : decode cX8_fittingTurns 35 = .ok (.bipush 40, 2) := by decide +kernel
theorem dX8_fittingTurns_37 : decode cX8_fittingTurns 37 = .ok (.if_icmp .ge 64, 3) := by decide +kernel
theorem dX8_fittingTurns_40 : decode cX8_fittingTurns 40 = .ok (.aload_n 0, 1) := by decide +kernel
theorem dX8_fittingTurns_41 : decode cX8_fittingTurns 41 = .ok (.getfield 9, 3) := by decide +kernel
theorem dX8_fittingTurns_44 : decode cX8_fittingTurns 44 = .ok (.iload 4, 2) := by decide +kernel
theorem dX8_fittingTurns_46 : decode cX8_fittingTurns 46 = .ok (.iaload, 1) := by decide +kernel
theorem dX8_fittingTurns_47 : decode cX8_fittingTurns 47 = .ok (.iload_n 1, 1) := by decide +kernel
theorem dX8_fittingTurns_48 : decode cX8_fittingTurns 48 = .ok (.if_icmp .ne 47, 3) := by decide +kernel
theorem dX8_fittingTurns_51 : decode cX8_fittingTurns 51 = .ok (.aload_n 0, 1) := by decide +kernel
theorem dX8_fittingTurns_52 : decode cX8_fittingTurns 52 = .ok (.getfield 21, 3) := by decide +kernel
theorem dX8_fittingTurns_55 : decode cX8_fittingTurns 55 = .ok (.iload_n 1, 1) := by decide +kernel
theorem dX8_fittingTurns_56 : decode cX8_fittingTurns 56 = .ok (.aload_n 0, 1) := by decide +kernel
theorem dX8_fittingTurns_57 : decode cX8_fittingTurns 57 = .ok (.getfield 18, 3) := by decide +kernel
theorem dX8_fittingTurns_60 : decode cX8_fittingTurns 60 = .ok (.iload 4, 2) := by decide +kernel
theorem dX8_fittingTurns_62 : decode cX8_fittingTurns 62 = .ok (.iaload, 1) := by decide +kernel
theorem dX8_fittingTurns_63 : decode cX8_fittingTurns 63 = .ok (.invokevirtual 35, 3) := by decide +kernel
theorem dX8_fittingTurns_66 : decode cX8_fittingTurns 66 = .ok (.aload_n 0, 1) := by decide +kernel
theorem dX8_fittingTurns_67 : decode cX8_fittingTurns 67 = .ok (.getfield 21, 3) := by decide +kernel
theorem dX8_fittingTurns_70 : decode cX8_fittingTurns 70 = .ok (.iload_n 1, 1) := by decide +kernel
theorem dX8_fittingTurns_71 : decode cX8_fittingTurns 71 = .ok (.aload_n 0, 1) := by decide +kernel
theorem dX8_fittingTurns_72 : decode cX8_fittingTurns 72 = .ok (.getfield 15, 3) := by decide +kernel
theorem dX8_fittingTurns_75 : decode cX8_fittingTurns 75 = .ok (.iload 4, 2) := by decide +kernel
theorem dX8_fittingTurns_77 : decode cX8_fittingTurns 77 = .ok (.iaload, 1) := by decide +kernel
theorem dX8_fittingTurns_78 : decode cX8_fittingTurns 78 = .ok (.invokevirtual 39, 3) := by decide +kernel
theorem dX8_fittingTurns_81 : decode cX8_fittingTurns 81 = .ok (.isub, 1) := by decide +kernel
theorem dX8_fittingTurns_82 : decode cX8_fittingTurns 82 = .ok (.istore 5, 2) := by decide +kernel
theorem dX8_fittingTurns_84 : decode cX8_fittingTurns 84 = .ok (.iload_n 3, 1) := by decide +kernel
theorem dX8_fittingTurns_85 : decode cX8_fittingTurns 85 = .ok (.iconst 1, 1) := by decide +kernel
theorem dX8_fittingTurns_86 : decode cX8_fittingTurns 86 = .ok (.iload 5, 2) := by decide +kernel
theorem dX8_fittingTurns_88 : decode cX8_fittingTurns 88 = .ok (.iload_n 2, 1) := by decide +kernel
theorem dX8_fittingTurns_89 : decode cX8_fittingTurns 89 = .ok (.invokestatic 42, 3) := by decide +kernel
theorem dX8_fittingTurns_92 : decode cX8_fittingTurns 92 = .ok (.ishl, 1) := by decide +kernel
theorem dX8_fittingTurns_93 : decode cX8_fittingTurns 93 = .ok (.iand, 1) := by decide +kernel
theorem dX8_fittingTurns_94 : decode cX8_fittingTurns 94 = .ok (.istore_n 3, 1) := by decide +kernel
theorem dX8_fittingTurns_95 : decode cX8_fittingTurns 95 = .ok (.iinc 4 1, 3) := by decide +kernel
theorem dX8_fittingTurns_98 : decode cX8_fittingTurns 98 = .ok (.goto (-74), 3) := by decide +kernel
theorem dX8_fittingTurns_101 : decode cX8_fittingTurns 101 = .ok (.iload_n 3, 1) := by decide +kernel
theorem dX8_fittingTurns_102 : decode cX8_fittingTurns 102 = .ok (.ireturn, 1) := by decide +kernel
theorem dX9_init_0 : decode cX9_init 0 = .ok (.aload_n 0, 1) := by decide +kernel
theorem dX9_init_1 : decode cX9_init 1 = .ok (.invokespecial 3, 3) := by decide +kernel
theorem dX9_init_4 : decode cX9_init 4 = .ok (.aload_n 0, 1) := by decide +kernel
theorem dX9_init_5 : decode cX9_init 5 = .ok (.bipush 10, 2) := by decide +kernel
theorem dX9_init_7 : decode cX9_init 7 = .ok (.newarray .int, 2) := by decide +kernel
theorem dX9_init_9 : decode cX9_init 9 = .ok (.putfield 9, 3) := by decide +kernel
theorem dX9_init_12 : decode cX9_init 12 = .ok (.aload_n 0, 1) := by decide +kernel
theorem dX9_init_13 : decode cX9_init 13 = .ok (.aload_n 1, 1) := by decide +kernel
theorem dX9_init_14 : decode cX9_init 14 = .ok (.putfield 15, 3) := by decide +kernel
theorem dX9_init_17 : decode cX9_init 17 = .ok (.aload_n 0, 1) := by decide +kernel
theorem dX9_init_18 : decode cX9_init 18 = .ok (.aload_n 2, 1) := by decide +kernel
theorem dX9_init_19 : decode cX9_init 19 = .ok (.putfield 19, 3) := by decide +kernel
theorem dX9_init_22 : decode cX9_init 22 = .ok (.return_, 1) := by decide +kernel
theorem dX9_ending_0 : decode cX9_ending 0 = .ok (.aload_n 0, 1) := by decide +kernel
theorem dX9_ending_1 : decode cX9_ending 1 = .ok (.getfield 23, 3) := by decide +kernel
theorem dX9_ending_4 : decode cX9_ending 4 = .ok (.ireturn, 1) := by decide +kernel
theorem dX9_milesGone_0 : decode cX9_milesGone 0 = .ok (.aload_n 0, 1) := by decide +kernel
theorem dX9_milesGone_1 : decode cX9_milesGone 1 = .ok (.getfield 27, 3) := by decide +kernel
theorem dX9_milesGone_4 : decode cX9_milesGone 4 = .ok (.ireturn, 1) := by decide +kernel
theorem dX9_roadsGone_0 : decode cX9_roadsGone 0 = .ok (.aload_n 0, 1) := by decide +kernel
theorem dX9_roadsGone_1 : decode cX9_roadsGone 1 = .ok (.getfield 30, 3) := by decide +kernel
theorem dX9_roadsGone_4 : decode cX9_roadsGone 4 = .ok (.ireturn, 1) := by decide +kernel
theorem dX9_placeBehind_0 : decode cX9_placeBehind 0 = .ok (.iload_n 1, 1) := by decide +kernel
theorem dX9_placeBehind_1 : decode cX9_placeBehind 1 = .ok (.ifCond .lt 26, 3) := by decide +kernel
theorem dX9_placeBehind_4 : decode cX9_placeBehind 4 = .ok (.iload_n 1, 1) := by decide +kernel
theorem dX9_placeBehind_5 : decode cX9_placeBehind 5 = .ok (.aload_n 0, 1) := by decide +kernel
theorem dX9_placeBehind_6 : decode cX9_placeBehind 6 = .ok (.getfield 30, 3) := by decide +kernel
theorem dX9_placeBehind_9 : decode cX9_placeBehind 9 = .ok (.if_icmp .gt 18, 3) := by decide +kernel
theorem dX9_placeBehind_12 : decode cX9_placeBehind 12 = .ok (.iload_n 1, 1) := by decide +kernel
theorem dX9_placeBehind_13 : decode cX9_placeBehind 13 = .ok (.bipush 9, 2) := by decide +kernel
theorem dX9_placeBehind_15 : decode cX9_placeBehind 15 = .ok (.if_icmp .gt 12, 3) := by decide +kernel
theorem dX9_placeBehind_18 : decode cX9_placeBehind 18 = .ok (.aload_n 0, 1) := by decide +kernel
theorem dX9_placeBehind_19 : decode cX9_placeBehind 19 = .ok (.getfield 9, 3) := by decide +kernel
theorem dX9_placeBehind_22 : decode cX9_placeBehind 22 = .ok (.iload_n 1, 1) := by decide +kernel
theorem dX9_placeBehind_23 : decode cX9_placeBehind 23 = .ok (.iaload, 1) := by decide +kernel
theorem dX9_placeBehind_24 : decode cX9_placeBehind 24 = .ok (.goto 4, 3) := by decide +kernel
theorem dX9_placeBehind_27 : decode cX9_placeBehind 27 = .ok (.iconst (-1), 1) := by decide +kernel
theorem dX9_placeBehind_28 : decode cX9_placeBehind 28 = .ok (.ireturn, 1) := by decide +kernel
theorem dX9_goFromTo_0 : decode cX9_goFromTo 0 = .ok (.aload_n 0, 1) := by decide +kernel
theorem dX9_goFromTo_1 : decode cX9_goFromTo 1 = .ok (.getfield 9, 3) := by decide +kernel
theorem dX9_goFromTo_4 : decode cX9_goFromTo 4 = .ok (.iconst 0, 1) := by decide +kernel
theorem dX9_goFromTo_5 : decode cX9_goFromTo 5 = .ok (.iload_n 1, 1) := by decide +kernel
theorem dX9_goFromTo_6 : decode cX9_goFromTo 6 = .ok (.iastore, 1) := by decide +kernel
theorem dX9_goFromTo_7 : decode cX9_goFromTo 7 = .ok (.aload_n 0, 1) := by decide +kernel
theorem dX9_goFromTo_8 : decode cX9_goFromTo 8 = .ok (.iconst 0, 1) := by decide +kernel
theorem dX9_goFromTo_9 : decode cX9_goFromTo 9 = .ok (.putfield 30, 3) := by decide +kernel
theorem dX9_goFromTo_12 : decode cX9_goFromTo 12 = .ok (.aload_n 0, 1) := by decide +kernel
theorem dX9_goFromTo_13 : decode cX9_goFromTo 13 = .ok (.iconst 0, 1) := by decide +kernel
theorem dX9_goFromTo_14 : decode cX9_goFromTo 14 = .ok (.putfield 27, 3) := by decide +kernel
theorem dX9_goFromTo_17 : decode cX9_goFromTo 17 = .ok (.aload_n 0, 1) := by decide +kernel
theorem dX9_goFromTo_18 : decode cX9_goFromTo 18 = .ok (.iload_n 1, 1) := by decide +kernel
theorem dX9_goFromTo_19 : decode cX9_goFromTo 19 = .ok (.iload_n 2, 1) := by decide +kernel
theorem dX9_goFromTo_20 : decode cX9_goFromTo 20 = .ok (.if_icmp .ne 7, 3) := by decide +kernel
theorem dX9_goFromTo_23 : decode cX9_goFromTo 23 = .ok (.iconst 1, 1) := by decide +kernel
theorem dX9_goFromTo_24 : decode cX9_goFromTo 24 = .ok (.goto 4, 3) := by decide +kernel
theorem dX9_goFromTo_27 : decode cX9_goFromTo 27 = .ok (.iconst 0, 1) := by decide +kernel
theorem dX9_goFromTo_28 : decode cX9_goFromTo 28 = .ok (.putfield 23, 3) := by decide +kernel
theorem dX9_goFromTo_31 : decode cX9_goFromTo 31 = .ok (.iconst 1, 1) := by decide +kernel
theorem dX9_goFromTo_32 : decode cX9_goFromTo 32 = .ok (.iload_n 1, 1) := by decide +kernel
theorem dX9_goFromTo_33 : decode cX9_goFromTo 33 = .ok (.ishl, 1) := by decide +kernel
theorem dX9_goFromTo_34 : decode cX9_goFromTo 34 = .ok (.istore 4, 2) := by decide +kernel
theorem dX9_goFromTo_36 : decode cX9_goFromTo 36 = .ok (.iload_n 1, 1) := by decide +kernel
theorem dX9_goFromTo_37 : decode cX9_goFromTo 37 = .ok (.istore 5, 2) := by decide +kernel
theorem dX9_goFromTo_39 : decode cX9_goFromTo 39 = .ok (.iconst 1, 1) := by decide +kernel
theorem dX9_goFromTo_40 : decode cX9_goFromTo 40 = .ok (.istore 6, 2) := by decide +kernel
theorem dX9_goFromTo_42 : decode cX9_goFromTo 42 = .ok (.iload 6, 2) := by decide +kernel
theorem dX9_goFromTo_44 : decode cX9_goFromTo 44 = .ok (.bipush 9, 2) := by decide +kernel
theorem dX9_goFromTo_46 : decode cX9_goFromTo 46 = .ok (.if_icmp .gt 127, 3) := by decide +kernel
theorem dX9_goFromTo_49 : decode cX9_goFromTo 49 = .ok (.aload_n 0, 1) := by decide +kernel
theorem dX9_goFromTo_50 : decode cX9_goFromTo 50 = .ok (.getfield 23, 3) := by decide +kernel
theorem dX9_goFromTo_53 : decode cX9_goFromTo 53 = .ok (.ifCond .ne 120, 3) := by decide +kernel
theorem dX9_goFromTo_56 : decode cX9_goFromTo 56 = .ok (.aload_n 0, 1) := by decide +kernel
theorem dX9_goFromTo_57 : decode cX9_goFromTo 57 = .ok (.getfield 19, 3) := by decide +kernel
theorem dX9_goFromTo_60 : decode cX9_goFromTo 60 = .ok (.iload 5, 2) := by decide +kernel
theorem dX9_goFromTo_62 : decode cX9_goFromTo 62 = .ok (.iload_n 2, 1) := by decide +kernel
theorem dX9_goFromTo_63 : decode cX9_goFromTo 63 = .ok (.iload_n 3, 1) := by decide +kernel
theorem dX9_goFromTo_64 : decode cX9_goFromTo 64 = .ok (.invokevirtual 33, 3) := by decide +kernel
theorem dX9_goFromTo_67 : decode cX9_goFromTo 67 = .ok (.istore 7, 2) := by decide +kernel
theorem dX9_goFromTo_69 : decode cX9_goFromTo 69 = .ok (.iload 7, 2) := by decide +kernel
theorem dX9_goFromTo_71 : decode cX9_goFromTo 71 = .ok (.iconst (-1), 1) := by decide +kernel
theorem dX9_goFromTo_72 : decode cX9_goFromTo 72 = .ok (.if_icmp .ne 11, 3) := by decide +kernel
theorem dX9_goFromTo_75 : decode cX9_goFromTo 75 = .ok (.aload_n 0, 1) := by decide +kernel
theorem dX9_goFromTo_76 : decode cX9_goFromTo 76 = .ok (.iconst 2, 1) := by decide +kernel
theorem dX9_goFromTo_77 : decode cX9_goFromTo 77 = .ok (.putfield 23, 3) := by decide +kernel
theorem dX9_goFromTo_80 : decode cX9_goFromTo 80 = .ok (.goto 87, 3) := by decide +kernel
theorem dX9_goFromTo_83 : decode cX9_goFromTo 83 = .ok (.aload_n 0, 1) := by decide +kernel
theorem dX9_goFromTo_84 : decode cX9_goFromTo 84 = .ok (.getfield 15, 3) := by decide +kernel
theorem dX9_goFromTo_87 : decode cX9_goFromTo 87 = .ok (.iload 5, 2) := by decide +kernel
theorem dX9_goFromTo_89 : decode cX9_goFromTo 89 = .ok (.iload 7, 2) := by decide +kernel
theorem dX9_goFromTo_91 : decode cX9_goFromTo 91 = .ok (.invokevirtual 39, 3) := by decide +kernel
theorem dX9_goFromTo_94 : decode cX9_goFromTo 94 = .ok (.istore 5, 2) := by decide +kernel
theorem dX9_goFromTo_96 : decode cX9_goFromTo 96 = .ok (.aload_n 0, 1) := by decide +kernel
theorem dX9_goFromTo_97 : decode cX9_goFromTo 97 = .ok (.getfield 9, 3) := by decide +kernel
theorem dX9_goFromTo_100 : decode cX9_goFromTo 100 = .ok (.iload 6, 2) := by decide +kernel
theorem dX9_goFromTo_102 : decode cX9_goFromTo 102 = .ok (.iload 5, 2) := by decide +kernel
theorem dX9_goFromTo_104 : decode cX9_goFromTo 104 = .ok (.iastore, 1) := by decide +kernel
theorem dX9_goFromTo_105 : decode cX9_goFromTo 105 = .ok (.aload_n 0, 1) := by decide +kernel
theorem dX9_goFromTo_106 : decode cX9_goFromTo 106 = .ok (.iload 6, 2) := by decide +kernel
theorem dX9_goFromTo_108 : decode cX9_goFromTo 108 = .ok (.putfield 30, 3) := by decide +kernel
theorem dX9_goFromTo_111 : decode cX9_goFromTo 111 = .ok (.aload_n 0, 1) := by decide +kernel
theorem dX9_goFromTo_112 : decode cX9_goFromTo 112 = .ok (.dup, 1) := by decide +kernel
theorem dX9_goFromTo_113 : decode cX9_goFromTo 113 = .ok (.getfield 27, 3) := by decide +kernel
theorem dX9_goFromTo_116 : decode cX9_goFromTo 116 = .ok (.aload_n 0, 1) := by decide +kernel
theorem dX9_goFromTo_117 : decode cX9_goFromTo 117 = .ok (.getfield 15, 3) := by decide +kernel
theorem dX9_goFromTo_120 : decode cX9_goFromTo 120 = .ok (.iload 7, 2) := by decide +kernel
theorem dX9_goFromTo_122 : decode cX9_goFromTo 122 = .ok (.invokevirtual 45, 3) := by decide +kernel
theorem dX9_goFromTo_125 : decode cX9_goFromTo 125 = .ok (.iadd, 1) := by decide +kernel
theorem dX9_goFromTo_126 : decode cX9_goFromTo 126 = .ok (.putfield 27, 3) := by decide +kernel
theorem dX9_goFromTo_129 : decode cX9_goFromTo 129 = .ok (.aload_n 0, 1) := by decide +kernel
theorem dX9_goFromTo_130 : decode cX9_goFromTo 130 = .ok (.iload 5, 2) := by decide +kernel
theorem dX9_goFromTo_132 : decode cX9_goFromTo 132 = .ok (.iload_n 2, 1) := by decide +kernel
theorem dX9_goFromTo_133 : decode cX9_goFromTo 133 = .ok (.if_icmp .ne 7, 3) := by decide +kernel
theorem dX9_goFromTo_136 : decode cX9_goFromTo 136 = .ok (.iconst 1, 1) := by decide +kernel
theorem dX9_goFromTo_137 : decode cX9_goFromTo 137 = .ok (.goto 18, 3) := by decide +kernel
theorem dX9_goFromTo_140 : decode cX9_goFromTo 140 = .ok (.iload 4, 2) := by decide +kernel
theorem dX9_goFromTo_142 : decode cX9_goFromTo 142 = .ok (.iload 5, 2) := by decide +kernel
theorem dX9_goFromTo_144 : decode cX9_goFromTo 144 = .ok (.invokestatic 49, 3) := by decide +kernel
theorem dX9_goFromTo_147 : decode cX9_goFromTo 147 = .ok (.ifCond .eq 7, 3) := by decide +kernel
theorem dX9_goFromTo_150 : decode cX9_goFromTo 150 = .ok (.iconst 3, 1) := by decide +kernel
theorem dX9_goFromTo_151 : decode cX9_goFromTo 151 = .ok (.goto 4, 3) := by decide +kernel
theorem dX9_goFromTo_154 : decode cX9_goFromTo 154 = .ok (.iconst 0, 1) := by decide +kernel
theorem dX9_goFromTo_155 : decode cX9_goFromTo 155 = .ok (.putfield 23, 3) := by decide +kernel
theorem dX9_goFromTo_158 : decode cX9_goFromTo 158 = .ok (.iload 4, 2) := by decide +kernel
theorem dX9_goFromTo_160 : decode cX9_goFromTo 160 = .ok (.iconst 1, 1) := by decide +kernel
theorem dX9_goFromTo_161 : decode cX9_goFromTo 161 = .ok (.iload 5, 2) := by decide +kernel
theorem dX9_goFromTo_163 : decode cX9_goFromTo 163 = .ok (.ishl, 1) := by decide +kernel
theorem dX9_goFromTo_164 : decode cX9_goFromTo 164 = .ok (.ior, 1) := by decide +kernel
theorem dX9_goFromTo_165 : decode cX9_goFromTo 165 = .ok (.istore 4, 2) := by decide +kernel
theorem dX9_goFromTo_167 : decode cX9_goFromTo 167 = .ok (.iinc 6 1, 3) := by decide +kernel
theorem dX9_goFromTo_170 : decode cX9_goFromTo 170 = .ok (.goto (-128), 3) := by decide +kernel
theorem dX9_goFromTo_173 : decode cX9_goFromTo 173 = .ok (.return_, 1) := by decide +kernel
theorem dX10_init_0 : decode cX10_init 0 = .ok (.aload_n 0, 1) := by decide +kernel
theorem dX10_init_1 : decode cX10_init 1 = .ok (.invokespecial 3, 3) := by decide +kernel
theorem dX10_init_4 : decode cX10_init 4 = .ok (.aload_n 0, 1) := by decide +kernel
theorem dX10_init_5 : decode cX10_init 5 = .ok (.sipush 400, 3) := by decide +kernel
theorem dX10_init_8 : decode cX10_init 8 = .ok (.newarray .int, 2) := by decide +kernel
theorem dX10_init_10 : decode cX10_init 10 = .ok (.putfield 9, 3) := by decide +kernel
theorem dX10_init_13 : decode cX10_init 13 = .ok (.return_, 1) := by decide +kernel
theorem dX10_length_0 : decode cX10_length 0 = .ok (.aload_n 0, 1) := by decide +kernel
theorem dX10_length_1 : decode cX10_length 1 = .ok (.getfield 15, 3) := by decide +kernel
theorem dX10_length_4 : decode cX10_length 4 = .ok (.ireturn, 1) := by decide +kernel
theorem dX10_hasRoomFor_0 : decode cX10_hasRoomFor 0 = .ok (.iload_n 1, 1) := by decide +kernel
theorem dX10_hasRoomFor_1 : decode cX10_hasRoomFor 1 = .ok (.sipush 400, 3) := by decide +kernel
theorem dX10_hasRoomFor_4 : decode cX10_hasRoomFor 4 = .ok (.aload_n 0, 1) := by decide +kernel
theorem dX10_hasRoomFor_5 : decode cX10_hasRoomFor 5 = .ok (.getfield 15, 3) := by decide +kernel
theorem dX10_hasRoomFor_8 : decode cX10_hasRoomFor 8 = .ok (.isub, 1) := by decide +kernel
theorem dX10_hasRoomFor_9 : decode cX10_hasRoomFor 9 = .ok (.if_icmp .gt 7, 3) := by decide +kernel
theorem dX10_hasRoomFor_12 : decode cX10_hasRoomFor 12 = .ok (.iconst 1, 1) := by decide +kernel
theorem dX10_hasRoomFor_13 : decode cX10_hasRoomFor 13 = .ok (.goto 4, 3) := by decide +kernel
theorem dX10_hasRoomFor_16 : decode cX10_hasRoomFor 16 = .ok (.iconst 0, 1) := by decide +kernel
theorem dX10_hasRoomFor_17 : decode cX10_hasRoomFor 17 = .ok (.ireturn, 1) := by decide +kernel
theorem dX10_append_0 : decode cX10_append 0 = .ok (.aload_n 0, 1) := by decide +kernel
theorem dX10_append_1 : decode cX10_append 1 = .ok (.getfield 15, 3) := by decide +kernel
theorem dX10_append_4 : decode cX10_append 4 = .ok (.ifCond .lt 33, 3) := by decide +kernel
theorem dX10_append_7 : decode cX10_append 7 = .ok (.aload_n 0, 1) := by decide +kernel
theorem dX10_append_8 : decode cX10_append 8 = .ok (.getfield 15, 3) := by decide +kernel
theorem dX10_append_11 : decode cX10_append 11 = .ok (.sipush 400, 3) := by decide +kernel
theorem dX10_append_14 : decode cX10_append 14 = .ok (.if_icmp .ge 23, 3) := by decide +kernel
theorem dX10_append_17 : decode cX10_append 17 = .ok (.aload_n 0, 1) := by decide +kernel
theorem dX10_append_18 : decode cX10_append 18 = .ok (.getfield 9, 3) := by decide +kernel
theorem dX10_append_21 : decode cX10_append 21 = .ok (.aload_n 0, 1) := by decide +kernel
theorem dX10_append_22 : decode cX10_append 22 = .ok (.getfield 15, 3) := by decide +kernel
theorem dX10_append_25 : decode cX10_append 25 = .ok (.iload_n 1, 1) := by decide +kernel
theorem dX10_append_26 : decode cX10_append 26 = .ok (.iastore, 1) := by decide +kernel
theorem dX10_append_27 : decode cX10_append 27 = .ok (.aload_n 0, 1) := by decide +kernel
theorem dX10_append_28 : decode cX10_append 28 = .ok (.dup, 1) := by decide +kernel
theorem dX10_append_29 : decode cX10_append 29 = .ok (.getfield 15, 3) := by decide +kernel
theorem dX10_append_32 : decode cX10_append 32 = .ok (.iconst 1, 1) := by decide +kernel
theorem dX10_append_33 : decode cX10_append 33 = .ok (.iadd, 1) := by decide +kernel
theorem dX10_append_34 : decode cX10_append 34 = .ok (.putfield 15, 3) := by decide +kernel
theorem dX10_append_37 : decode cX10_append 37 = .ok (.return_, 1) := by decide +kernel
theorem dX10_signAt_0 : decode cX10_signAt 0 = .ok (.iload_n 1, 1) := by decide +kernel
theorem dX10_signAt_1 : decode cX10_signAt 1 = .ok (.ifCond .lt 27, 3) := by decide +kernel
theorem dX10_signAt_4 : decode cX10_signAt 4 = .ok (.iload_n 1, 1) := by decide +kernel
theorem dX10_signAt_5 : decode cX10_signAt 5 = .ok (.aload_n 0, 1) := by decide +kernel
theorem dX10_signAt_6 : decode cX10_signAt 6 = .ok (.getfield 15, 3) := by decide +kernel
theorem dX10_signAt_9 : decode cX10_signAt 9 = .ok (.if_icmp .ge 19, 3) := by decide +kernel
theorem dX10_signAt_12 : decode cX10_signAt 12 = .ok (.iload_n 1, 1) := by decide +kernel
theorem dX10_signAt_13 : decode cX10_signAt 13 = .ok (.sipush 400, 3) := by decide +kernel
theorem dX10_signAt_16 : decode cX10_signAt 16 = .ok (.if_icmp .ge 12, 3) := by decide +kernel
theorem dX10_signAt_19 : decode cX10_signAt 19 = .ok (.aload_n 0, 1) := by decide +kernel
theorem dX10_signAt_20 : decode cX10_signAt 20 = .ok (.getfield 9, 3) := by decide +kernel
theorem dX10_signAt_23 : decode cX10_signAt 23 = .ok (.iload_n 1, 1) := by decide +kernel
theorem dX10_signAt_24 : decode cX10_signAt 24 = .ok (.iaload, 1) := by decide +kernel
theorem dX10_signAt_25 : decode cX10_signAt 25 = .ok (.goto 4, 3) := by decide +kernel
theorem dX10_signAt_28 : decode cX10_signAt 28 = .ok (.iconst (-1), 1) := by decide +kernel
theorem dX10_signAt_29 : decode cX10_signAt 29 = .ok (.ireturn, 1) := by decide +kernel
theorem dX10_clear_0 : decode cX10_clear 0 = .ok (.aload_n 0, 1) := by decide +kernel
theorem dX10_clear_1 : decode cX10_clear 1 = .ok (.iconst 0, 1) := by decide +kernel
theorem dX10_clear_2 : decode cX10_clear 2 = .ok (.putfield 15, 3) := by decide +kernel
theorem dX10_clear_5 : decode cX10_clear 5 = .ok (.return_, 1) := by decide +kernel
theorem dX11_init_0 : decode cX11_init 0 = .ok (.aload_n 0, 1) := by decide +kernel
theorem dX11_init_1 : decode cX11_init 1 = .ok (.invokespecial 1, 3) := by decide +kernel
theorem dX11_init_4 : decode cX11_init 4 = .ok (.aload_n 0, 1) := by decide +kernel
theorem dX11_init_5 : decode cX11_init 5 = .ok (.new 7, 3) := by decide +kernel
theorem dX11_init_8 : decode cX11_init 8 = .ok (.dup, 1) := by decide +kernel
theorem dX11_init_9 : decode cX11_init 9 = .ok (.invokespecial 9, 3) := by decide +kernel
theorem dX11_init_12 : decode cX11_init 12 = .ok (.putfield 10, 3) := by decide +kernel
theorem dX11_init_15 : decode cX11_init 15 = .ok (.aload_n 0, 1) := by decide +kernel
theorem dX11_init_16 : decode cX11_init 16 = .ok (.new 16, 3) := by decide +kernel
theorem dX11_init_19 : decode cX11_init 19 = .ok (.dup, 1) := by decide +kernel
theorem dX11_init_20 : decode cX11_init 20 = .ok (.invokespecial 18, 3) := by decide +kernel
theorem dX11_init_23 : decode cX11_init 23 = .ok (.putfield 19, 3) := by decide +kernel
theorem dX11_init_26 : decode cX11_init 26 = .ok (.aload_n 0, 1) := by decide +kernel
theorem dX11_init_27 : decode cX11_init 27 = .ok (.new 16, 3) := by decide +kernel
theorem dX11_init_30 : decode cX11_init 30 = .ok (.dup, 1) := by decide +kernel
theorem dX11_init_31 : decode cX11_init 31 = .ok (.invokespecial 18, 3) := by decide +kernel
theorem dX11_init_34 : decode cX11_init 34 = .ok (.putfield 23, 3) := by decide +kernel
theorem dX11_init_37 : decode cX11_init 37 = .ok (.aload_n 0, 1) := by decide +kernel
theorem dX11_init_38 : decode cX11_init 38 = .ok (.new 26, 3) := by decide +kernel
theorem dX11_init_41 : decode cX11_init 41 = .ok (.dup, 1) := by decide +kernel
theorem dX11_init_42 : decode cX11_init 42 = .ok (.aload_n 0, 1) := by decide +kernel
theorem dX11_init_43 : decode cX11_init 43 = .ok (.getfield 10, 3) := by decide +kernel
theorem dX11_init_46 : decode cX11_init 46 = .ok (.aload_n 0, 1) := by decide +kernel
theorem dX11_init_47 : decode cX11_init 47 = .ok (.getfield 23, 3) := by decide +kernel
theorem dX11_init_50 : decode cX11_init 50 = .ok (.invokespecial 28, 3) := by decide +kernel
theorem dX11_init_53 : decode cX11_init 53 = .ok (.putfield 31, 3) := by decide +kernel
theorem dX11_init_56 : decode cX11_init 56 = .ok (.aload_n 0, 1) := by decide +kernel
theorem dX11_init_57 : decode cX11_init 57 = .ok (.new 35, 3) := by decide +kernel
theorem dX11_init_60 : decode cX11_init 60 = .ok (.dup, 1) := by decide +kernel
theorem dX11_init_61 : decode cX11_init 61 = .ok (.aload_n 0, 1) := by decide +kernel
theorem dX11_init_62 : decode cX11_init 62 = .ok (.getfield 19, 3) := by decide +kernel
theorem dX11_init_65 : decode cX11_init 65 = .ok (.invokespecial 37, 3) := by decide +kernel
theorem dX11_init_68 : decode cX11_init 68 = .ok (.putfield 40, 3) := by decide +kernel
theorem dX11_init_71 : decode cX11_init 71 = .ok (.aload_n 0, 1) := by decide +kernel
theorem dX11_init_72 : decode cX11_init 72 = .ok (.new 44, 3) := by decide +kernel
theorem dX11_init_75 : decode cX11_init 75 = .ok (.dup, 1) := by decide +kernel
theorem dX11_init_76 : decode cX11_init 76 = .ok (.aload_n 0, 1) := by decide +kernel
theorem dX11_init_77 : decode cX11_init 77 = .ok (.getfield 19, 3) := by decide +kernel
theorem dX11_init_80 : decode cX11_init 80 = .ok (.aload_n 0, 1) := by decide +kernel
theorem dX11_init_81 : decode cX11_init 81 = .ok (.getfield 40, 3) := by decide +kernel
theorem dX11_init_84 : decode cX11_init 84 = .ok (.invokespecial 46, 3) := by decide +kernel
theorem dX11_init_87 : decode cX11_init 87 = .ok (.putfield 49, 3) := by decide +kernel
theorem dX11_init_90 : decode cX11_init 90 = .ok (.aload_n 0, 1) := by decide +kernel
theorem dX11_init_91 : decode cX11_init 91 = .ok (.new 53, 3) := by decide +kernel
theorem dX11_init_94 : decode cX11_init 94 = .ok (.dup, 1) := by decide +kernel
theorem dX11_init_95 : decode cX11_init 95 = .ok (.aload_n 0, 1) := by decide +kernel
theorem dX11_init_96 : decode cX11_init 96 = .ok (.getfield 19, 3) := by decide +kernel
theorem dX11_init_99 : decode cX11_init 99 = .ok (.aload_n 0, 1) := by decide +kernel
theorem dX11_init_100 : decode cX11_init 100 = .ok (.getfield 49, 3) := by decide +kernel
theorem dX11_init_103 : decode cX11_init 103 = .ok (.invokespecial 55, 3) := by decide +kernel
theorem dX11_init_106 : decode cX11_init 106 = .ok (.putfield 58, 3) := by decide +kernel
theorem dX11_init_109 : decode cX11_init 109 = .ok (.aload_n 0, 1) := by decide +kernel
theorem dX11_init_110 : decode cX11_init 110 = .ok (.new 62, 3) := by decide +kernel
theorem dX11_init_113 : decode cX11_init 113 = .ok (.dup, 1) := by decide +kernel
theorem dX11_init_114 : decode cX11_init 114 = .ok (.aload_n 0, 1) := by decide +kernel
theorem dX11_init_115 : decode cX11_init 115 = .ok (.getfield 19, 3) := by decide +kernel
theorem dX11_init_118 : decode cX11_init 118 = .ok (.aload_n 0, 1) := by decide +kernel
theorem dX11_init_119 : decode cX11_init 119 = .ok (.getfield 40, 3) := by decide +kernel
theorem dX11_init_122 : decode cX11_init 122 = .ok (.invokespecial 64, 3) := by decide +kernel
theorem dX11_init_125 : decode cX11_init 125 = .ok (.putfield 65, 3) := by decide +kernel
theorem dX11_init_128 : decode cX11_init 128 = .ok (.aload_n 0, 1) := by decide +kernel
theorem dX11_init_129 : decode cX11_init 129 = .ok (.new 69, 3) := by decide +kernel
theorem dX11_init_132 : decode cX11_init 132 = .ok (.dup, 1) := by decide +kernel
theorem dX11_init_133 : decode cX11_init 133 = .ok (.aload_n 0, 1) := by decide +kernel
theorem dX11_init_134 : decode cX11_init 134 = .ok (.getfield 19, 3) := by decide +kernel
theorem dX11_init_137 : decode cX11_init 137 = .ok (.invokespecial 71, 3) := by decide +kernel
theorem dX11_init_140 : decode cX11_init 140 = .ok (.putfield 72, 3) := by decide +kernel
theorem dX11_init_143 : decode cX11_init 143 = .ok (.aload_n 0, 1) := by decide +kernel
theorem dX11_init_144 : decode cX11_init 144 = .ok (.new 76, 3) := by decide +kernel
theorem dX11_init_147 : decode cX11_init 147 = .ok (.dup, 1) := by decide +kernel
theorem dX11_init_148 : decode cX11_init 148 = .ok (.invokespecial 78, 3) := by decide +kernel
theorem dX11_init_151 : decode cX11_init 151 = .ok (.putfield 79, 3) := by decide +kernel
theorem dX11_init_154 : decode cX11_init 154 = .ok (.aload_n 0, 1) := by decide +kernel
theorem dX11_init_155 : decode cX11_init 155 = .ok (.new 83, 3) := by decide +kernel
theorem dX11_init_158 : decode cX11_init 158 = .ok (.dup, 1) := by decide +kernel
theorem dX11_init_159 : decode cX11_init 159 = .ok (.invokespecial 85, 3) := by decide +kernel
theorem dX11_init_162 : decode cX11_init 162 = .ok (.putfield 86, 3) := by decide +kernel
theorem dX11_init_165 : decode cX11_init 165 = .ok (.aload_n 0, 1) := by decide +kernel
theorem dX11_init_166 : decode cX11_init 166 = .ok (.new 90, 3) := by decide +kernel
theorem dX11_init_169 : decode cX11_init 169 = .ok (.dup, 1) := by decide +kernel
theorem dX11_init_170 : decode cX11_init 170 = .ok (.aload_n 0, 1) := by decide +kernel
theorem dX11_init_171 : decode cX11_init 171 = .ok (.getfield 19, 3) := by decide +kernel
theorem dX11_init_174 : decode cX11_init 174 = .ok (.invokespecial 92, 3) := by decide +kernel
theorem dX11_init_177 : decode cX11_init 177 = .ok (.putfield 93, 3) := by decide +kernel
theorem dX11_init_180 : decode cX11_init 180 = .ok (.aload_n 0, 1) := by decide +kernel
theorem dX11_init_181 : decode cX11_init 181 = .ok (.new 90, 3) := by decide +kernel
theorem dX11_init_184 : decode cX11_init 184 = .ok (.dup, 1) := by decide +kernel
theorem dX11_init_185 : decode cX11_init 185 = .ok (.aload_n 0, 1) := by decide +kernel
theorem dX11_init_186 : decode cX11_init 186 = .ok (.getfield 19, 3) := by decide +kernel
theorem dX11_init_189 : decode cX11_init 189 = .ok (.invokespecial 92, 3) := by decide +kernel
theorem dX11_init_192 : decode cX11_init 192 = .ok (.putfield 97, 3) := by decide +kernel
theorem dX11_init_195 : decode cX11_init 195 = .ok (.return_, 1) := by decide +kernel
theorem dX11_feed_0 : decode cX11_feed 0 = .ok (.iload_n 1, 1) := by decide +kernel
theorem dX11_feed_1 : decode cX11_feed 1 = .ok (.iconst 1, 1) := by decide +kernel
theorem dX11_feed_2 : decode cX11_feed 2 = .ok (.if_icmp .lt 9, 3) := by decide +kernel
theorem dX11_feed_5 : decode cX11_feed 5 = .ok (.iload_n 1, 1) := by decide +kernel
theorem dX11_feed_6 : decode cX11_feed 6 = .ok (.bipush 8, 2) := by decide +kernel
theorem dX11_feed_8 : decode cX11_feed 8 = .ok (.if_icmp .le 6, 3) := by decide +kernel
theorem dX11_feed_11 : decode cX11_feed 11 = .ok (.ldc 100, 2) := by decide +kernel
theorem dX11_feed_13 : decode cX11_feed 13 = .ok (.ireturn, 1) := by decide +kernel
theorem dX11_feed_14 : decode cX11_feed 14 = .ok (.aload_n 0, 1) := by decide +kernel
theorem dX11_feed_15 : decode cX11_feed 15 = .ok (.getfield 10, 3) := by decide +kernel
theorem dX11_feed_18 : decode cX11_feed 18 = .ok (.iload_n 1, 1) := by decide +kernel
theorem dX11_feed_19 : decode cX11_feed 19 = .ok (.invokevirtual 101, 3) := by decide +kernel
theorem dX11_feed_22 : decode cX11_feed 22 = .ok (.ifCond .ne 6, 3) := by decide +kernel
theorem dX11_feed_25 : decode cX11_feed 25 = .ok (.ldc 105, 2) := by decide +kernel
theorem dX11_feed_27 : decode cX11_feed 27 = .ok (.ireturn, 1) := by decide +kernel
theorem dX11_feed_28 : decode cX11_feed 28 = .ok (.iload_n 1, 1) := by decide +kernel
theorem dX11_feed_29 : decode cX11_feed 29 = .ok (.iconst 1, 1) := by decide +kernel
theorem dX11_feed_30 : decode cX11_feed 30 = .ok (.isub, 1) := by decide +kernel
theorem dX11_feed_31 : decode cX11_feed 31 = .ok (.istore 4, 2) := by decide +kernel
theorem dX11_feed_33 : decode cX11_feed 33 = .ok (.iload 4, 2) := by decide +kernel
theorem dX11_feed_35 : decode cX11_feed 35 = .ok (.ifCond .lt 28, 3) := by decide +kernel
theorem dX11_feed_38 : decode cX11_feed 38 = .ok (.aload_n 0, 1) := by decide +kernel
theorem dX11_feed_39 : decode cX11_feed 39 = .ok (.getfield 10, 3) := by decide +kernel
theorem dX11_feed_42 : decode cX11_feed 42 = .ok (.lload_n 2, 1) := by decide +kernel
theorem dX11_feed_43 : decode cX11_feed 43 = .ok (.bipush 8, 2) := by decide +kernel
theorem dX11_feed_45 : decode cX11_feed 45 = .ok (.iload 4, 2) := by decide +kernel
theorem dX11_feed_47 : decode cX11_feed 47 = .ok (.imul, 1) := by decide +kernel
theorem dX11_feed_48 : decode cX11_feed 48 = .ok (.lushr, 1) := by decide +kernel
theorem dX11_feed_49 : decode cX11_feed 49 = .ok (.l2i, 1) := by decide +kernel
theorem dX11_feed_50 : decode cX11_feed 50 = .ok (.sipush 255, 3) := by decide +kernel
theorem dX11_feed_53 : decode cX11_feed 53 = .ok (.iand, 1) := by decide +kernel
theorem dX11_feed_54 : decode cX11_feed 54 = .ok (.invokevirtual 106, 3) := by decide +kernel
theorem dX11_feed_57 : decode cX11_feed 57 = .ok (.iinc 4 (-1), 3) := by decide +kernel
theorem dX11_feed_60 : decode cX11_feed 60 = .ok (.goto (-27), 3) := by decide +kernel
theorem dX11_feed_63 : decode cX11_feed 63 = .ok (.aload_n 0, 1) := by decide +kernel
theorem dX11_feed_64 : decode cX11_feed 64 = .ok (.getfield 10, 3) := by decide +kernel
theorem dX11_feed_67 : decode cX11_feed 67 = .ok (.invokevirtual 110, 3) := by decide +kernel
theorem dX11_feed_70 : decode cX11_feed 70 = .ok (.ireturn, 1) := by decide +kernel
theorem dX11_land_0 : decode cX11_land 0 = .ok (.aload_n 0, 1) := by decide +kernel
theorem dX11_land_1 : decode cX11_land 1 = .ok (.getfield 31, 3) := by decide +kernel
theorem dX11_land_4 : decode cX11_land 4 = .ok (.invokevirtual 114, 3) := by decide +kernel
theorem dX11_land_7 : decode cX11_land 7 = .ok (.aload_n 0, 1) := by decide +kernel
theorem dX11_land_8 : decode cX11_land 8 = .ok (.getfield 10, 3) := by decide +kernel
theorem dX11_land_11 : decode cX11_land 11 = .ok (.invokevirtual 117, 3) := by decide +kernel
theorem dX11_land_14 : decode cX11_land 14 = .ok (.aload_n 0, 1) := by decide +kernel
theorem dX11_land_15 : decode cX11_land 15 = .ok (.getfield 31, 3) := by decide +kernel
theorem dX11_land_18 : decode cX11_land 18 = .ok (.invokevirtual 120, 3) := by decide +kernel
theorem dX11_land_21 : decode cX11_land 21 = .ok (.ifCond .eq 14, 3) := by decide +kernel
theorem dX11_land_24 : decode cX11_land 24 = .ok (.bipush (-10), 2) := by decide +kernel
theorem dX11_land_26 : decode cX11_land 26 = .ok (.aload_n 0, 1) := by decide +kernel
theorem dX11_land_27 : decode cX11_land 27 = .ok (.getfield 31, 3) := by decide +kernel
theorem dX11_land_30 : decode cX11_land 30 = .ok (.invokevirtual 120, 3) := by decide +kernel
theorem dX11_land_33 : decode cX11_land 33 = .ok (.isub, 1) := by decide +kernel
theorem dX11_land_34 : decode cX11_land 34 = .ok (.ireturn, 1) := by decide +kernel
theorem dX11_land_35 : decode cX11_land 35 = .ok (.aload_n 0, 1) := by decide +kernel
theorem dX11_land_36 : decode cX11_land 36 = .ok (.getfield 19, 3) := by decide +kernel
theorem dX11_land_39 : decode cX11_land 39 = .ok (.aload_n 0, 1) := by decide +kernel
theorem dX11_land_40 : decode cX11_land 40 = .ok (.getfield 23, 3) := by decide +kernel
theorem dX11_land_43 : decode cX11_land 43 = .ok (.invokevirtual 123, 3) := by decide +kernel
theorem dX11_land_46 : decode cX11_land 46 = .ok (.aload_n 0, 1) := by decide +kernel
theorem dX11_land_47 : decode cX11_land 47 = .ok (.getfield 40, 3) := by decide +kernel
theorem dX11_land_50 : decode cX11_land 50 = .ok (.invokevirtual 126, 3) := by decide +kernel
theorem dX11_land_53 : decode cX11_land 53 = .ok (.aload_n 0, 1) := by decide +kernel
theorem dX11_land_54 : decode cX11_land 54 = .ok (.getfield 72, 3) := by decide +kernel
theorem dX11_land_57 : decode cX11_land 57 = .ok (.invokevirtual 129, 3) := by decide +kernel
theorem dX11_land_60 : decode cX11_land 60 = .ok (.aload_n 0, 1) := by decide +kernel
theorem dX11_land_61 : decode cX11_land 61 = .ok (.getfield 79, 3) := by decide +kernel
theorem dX11_land_64 : decode cX11_land 64 = .ok (.invokevirtual 130, 3) := by decide +kernel
theorem dX11_land_67 : decode cX11_land 67 = .ok (.aload_n 0, 1) := by decide +kernel
theorem dX11_land_68 : decode cX11_land 68 = .ok (.getfield 93, 3) := by decide +kernel
theorem dX11_land_71 : decode cX11_land 71 = .ok (.invokevirtual 131, 3) := by decide +kernel
theorem dX11_land_74 : decode cX11_land 74 = .ok (.aload_n 0, 1) := by decide +kernel
theorem dX11_land_75 : decode cX11_land 75 = .ok (.getfield 97, 3) := by decide +kernel
theorem dX11_land_78 : decode cX11_land 78 = .ok (.invokevirtual 131, 3) := by decide +kernel
theorem dX11_land_81 : decode cX11_land 81 = .ok (.aload_n 0, 1) := by decide +kernel
theorem dX11_land_82 : decode cX11_land 82 = .ok (.getfield 19, 3) := by decide +kernel
theorem dX11_land_85 : decode cX11_land 85 = .ok (.invokevirtual 134, 3) := by decide +kernel
theorem dX11_land_88 : decode cX11_land 88 = .ok (.ireturn, 1) := by decide +kernel
theorem dX11_fault_0 : decode cX11_fault 0 = .ok (.aload_n 0, 1) := by decide +kernel
theorem dX11_fault_1 : decode cX11_fault 1 = .ok (.getfield 31, 3) := by decide +kernel
theorem dX11_fault_4 : decode cX11_fault 4 = .ok (.invokevirtual 137, 3) := by decide +kernel
theorem dX11_fault_7 : decode cX11_fault 7 = .ok (.ireturn, 1) := by decide +kernel
theorem dX11_told_0 : decode cX11_told 0 = .ok (.iload_n 1, 1) := by decide +kernel
theorem dX11_told_1 : decode cX11_told 1 = .ok (.tableswitch 112 0 7 #[47, 55, 63, 71, 79, 87, 95, 104], 47) := by decide +kernel
theorem dX11_told_48 : decode cX11_told 48 = .ok (.aload_n 0, 1) := by decide +kernel
theorem dX11_told_49 : decode cX11_told 49 = .ok (.getfield 19, 3) := by decide +kernel
theorem dX11_told_52 : decode cX11_told 52 = .ok (.invokevirtual 134, 3) := by decide +kernel
theorem dX11_told_55 : decode cX11_told 55 = .ok (.ireturn, 1) := by decide +kernel
theorem dX11_told_56 : decode cX11_told 56 = .ok (.aload_n 0, 1) := by decide +kernel
theorem dX11_told_57 : decode cX11_told 57 = .ok (.getfield 19, 3) := by decide +kernel
theorem dX11_told_60 : decode cX11_told 60 = .ok (.invokevirtual 140, 3) := by decide +kernel
theorem dX11_told_63 : decode cX11_told 63 = .ok (.ireturn, 1) := by decide +kernel
theorem dX11_told_64 : decode cX11_told 64 = .ok (.aload_n 0, 1) := by decide +kernel
theorem dX11_told_65 : decode cX11_told 65 = .ok (.getfield 19, 3) := by decide +kernel
theorem dX11_told_68 : decode cX11_told 68 = .ok (.invokevirtual 143, 3) := by decide +kernel
theorem dX11_told_71 : decode cX11_told 71 = .ok (.ireturn, 1) := by decide +kernel
theorem dX11_told_72 : decode cX11_told 72 = .ok (.aload_n 0, 1) := by decide +kernel
theorem dX11_told_73 : decode cX11_told 73 = .ok (.getfield 10, 3) := by decide +kernel
theorem dX11_told_76 : decode cX11_told 76 = .ok (.invokevirtual 110, 3) := by decide +kernel
theorem dX11_told_79 : decode cX11_told 79 = .ok (.ireturn, 1) := by decide +kernel
theorem dX11_told_80 : decode cX11_told 80 = .ok (.aload_n 0, 1) := by decide +kernel
theorem dX11_told_81 : decode cX11_told 81 = .ok (.getfield 72, 3) := by decide +kernel
theorem dX11_told_84 : decode cX11_told 84 = .ok (.invokevirtual 146, 3) := by decide +kernel
theorem dX11_told_87 : decode cX11_told 87 = .ok (.ireturn, 1) := by decide +kernel
theorem dX11_told_88 : decode cX11_told 88 = .ok (.aload_n 0, 1) := by decide +kernel
theorem dX11_told_89 : decode cX11_told 89 = .ok (.getfield 79, 3) := by decide +kernel
theorem dX11_told_92 : decode cX11_told 92 = .ok (.invokevirtual 149, 3) := by decide +kernel
theorem dX11_told_95 : decode cX11_told 95 = .ok (.ireturn, 1) := by decide +kernel
theorem dX11_told_96 : decode cX11_told 96 = .ok (.aload_n 0, 1) := by decide +kernel
theorem dX11_told_97 : decode cX11_told 97 = .ok (.getfield 58, 3) := by decide +kernel
theorem dX11_told_100 : decode cX11_told 100 = .ok (.iconst 0, 1) := by decide +kernel
theorem dX11_told_101 : decode cX11_told 101 = .ok (.invokevirtual 150, 3) := by decide +kernel
theorem dX11_told_104 : decode cX11_told 104 = .ok (.ireturn, 1) := by decide +kernel
theorem dX11_told_105 : decode cX11_told 105 = .ok (.aload_n 0, 1) := by decide +kernel
theorem dX11_told_106 : decode cX11_told 106 = .ok (.getfield 40, 3) := by decide +kernel
theorem dX11_told_109 : decode cX11_told 109 = .ok (.invokevirtual 154, 3) := by decide +kernel
theorem dX11_told_112 : decode cX11_told 112 = .ok (.ireturn, 1) := by decide +kernel
theorem dX11_told_113 : decode cX11_told 113 = .ok (.ldc 100, 2) := by decide +kernel
theorem dX11_told_115 : decode cX11_told 115 = .ok (.ireturn, 1) := by decide +kernel
theorem dX11_road_0 : decode cX11_road 0 = .ok (.aload_n 0, 1) := by decide +kernel
theorem dX11_road_1 : decode cX11_road 1 = .ok (.getfield 19, 3) := by decide +kernel
theorem dX11_road_4 : decode cX11_road 4 = .ok (.iload_n 1, 1) := by decide +kernel
theorem dX11_road_5 : decode cX11_road 5 = .ok (.invokevirtual 157, 3) := by decide +kernel
theorem dX11_road_8 : decode cX11_road 8 = .ok (.ifCond .ne 6, 3) := by decide +kernel
theorem dX11_road_11 : decode cX11_road 11 = .ok (.ldc 160, 2) := by decide +kernel
theorem dX11_road_13 : decode cX11_road 13 = .ok (.ireturn, 1) := by decide +kernel
theorem dX11_road_14 : decode cX11_road 14 = .ok (.iload_n 2, 1) := by decide +kernel
theorem dX11_road_15 : decode cX11_road 15 = .ok (.tableswitch 52 0 2 #[25, 34, 43], 25) := by decide +kernel
theorem dX11_road_40 : decode cX11_road 40 = .ok (.aload_n 0, 1) := by decide +kernel
theorem dX11_road_41 : decode cX11_road 41 = .ok (.getfield 19, 3) := by decide +kernel
theorem dX11_road_44 : decode cX11_road 44 = .ok (.iload_n 1, 1) := by decide +kernel
theorem dX11_road_45 : decode cX11_road 45 = .ok (.invokevirtual 161, 3) := by decide +kernel
theorem dX11_road_48 : decode cX11_road 48 = .ok (.ireturn, 1) := by decide +kernel
theorem dX11_road_49 : decode cX11_road 49 = .ok (.aload_n 0, 1) := by decide +kernel
theorem dX11_road_50 : decode cX11_road 50 = .ok (.getfield 19, 3) := by decide +kernel
theorem dX11_road_53 : decode cX11_road 53 = .ok (.iload_n 1, 1) := by decide +kernel
theorem dX11_road_54 : decode cX11_road 54 = .ok (.invokevirtual 164, 3) := by decide +kernel
theorem dX11_road_57 : decode cX11_road 57 = .ok (.ireturn, 1) := by decide +kernel
theorem dX11_road_58 : decode cX11_road 58 = .ok (.aload_n 0, 1) := by decide +kernel
theorem dX11_road_59 : decode cX11_road 59 = .ok (.getfield 19, 3) := by decide +kernel
theorem dX11_road_62 : decode cX11_road 62 = .ok (.iload_n 1, 1) := by decide +kernel
theorem dX11_road_63 : decode cX11_road 63 = .ok (.invokevirtual 167, 3) := by decide +kernel
theorem dX11_road_66 : decode cX11_road 66 = .ok (.ireturn, 1) := by decide +kernel
theorem dX11_road_67 : decode cX11_road 67 = .ok (.ldc 100, 2) := by decide +kernel
theorem dX11_road_69 : decode cX11_road 69 = .ok (.ireturn, 1) := by decide +kernel
theorem dX11_far_0 : decode cX11_far 0 = .ok (.aload_n 0, 1) := by decide +kernel
theorem dX11_far_1 : decode cX11_far 1 = .ok (.getfield 19, 3) := by decide +kernel
theorem dX11_far_4 : decode cX11_far 4 = .ok (.iload_n 1, 1) := by decide +kernel
theorem dX11_far_5 : decode cX11_far 5 = .ok (.invokevirtual 170, 3) := by decide +kernel
theorem dX11_far_8 : decode cX11_far 8 = .ok (.ifCond .eq 14, 3) := by decide +kernel
theorem dX11_far_11 : decode cX11_far 11 = .ok (.aload_n 0, 1) := by decide +kernel
theorem dX11_far_12 : decode cX11_far 12 = .ok (.getfield 19, 3) := by decide +kernel
theorem dX11_far_15 : decode cX11_far 15 = .ok (.iload_n 2, 1) := by decide +kernel
theorem dX11_far_16 : decode cX11_far 16 = .ok (.invokevirtual 170, 3) := by decide +kernel
theorem dX11_far_19 : decode cX11_far 19 = .ok (.ifCond .ne 6, 3) := by decide +kernel
theorem dX11_far_22 : decode cX11_far 22 = .ok (.ldc 160, 2) := by decide +kernel
theorem dX11_far_24 : decode cX11_far 24 = .ok (.ireturn, 1) := by decide +kernel
theorem dX11_far_25 : decode cX11_far 25 = .ok (.aload_n 0, 1) := by decide +kernel
theorem dX11_far_26 : decode cX11_far 26 = .ok (.getfield 19, 3) := by decide +kernel
theorem dX11_far_29 : decode cX11_far 29 = .ok (.iload_n 1, 1) := by decide +kernel
theorem dX11_far_30 : decode cX11_far 30 = .ok (.iload_n 2, 1) := by decide +kernel
theorem dX11_far_31 : decode cX11_far 31 = .ok (.invokevirtual 173, 3) := by decide +kernel
theorem dX11_far_34 : decode cX11_far 34 = .ok (.ireturn, 1) := by decide +kernel
theorem dX11_post_0 : decode cX11_post 0 = .ok (.aload_n 0, 1) := by decide +kernel
theorem dX11_post_1 : decode cX11_post 1 = .ok (.getfield 19, 3) := by decide +kernel
theorem dX11_post_4 : decode cX11_post 4 = .ok (.iload_n 1, 1) := by decide +kernel
theorem dX11_post_5 : decode cX11_post 5 = .ok (.invokevirtual 170, 3) := by decide +kernel
theorem dX11_post_8 : decode cX11_post 8 = .ok (.ifCond .ne 6, 3) := by decide +kernel
theorem dX11_post_11 : decode cX11_post 11 = .ok (.ldc 160, 2) := by decide +kernel
theorem dX11_post_13 : decode cX11_post 13 = .ok (.ireturn, 1) := by decide +kernel
theorem dX11_post_14 : decode cX11_post 14 = .ok (.iload_n 2, 1) := by decide +kernel
theorem dX11_post_15 : decode cX11_post 15 = .ok (.tableswitch 52 0 2 #[25, 34, 43], 25) := by decide +kernel
theorem dX11_post_40 : decode cX11_post 40 = .ok (.aload_n 0, 1) := by decide +kernel
theorem dX11_post_41 : decode cX11_post 41 = .ok (.getfield 19, 3) := by decide +kernel
theorem dX11_post_44 : decode cX11_post 44 = .ok (.iload_n 1, 1) := by decide +kernel
theorem dX11_post_45 : decode cX11_post 45 = .ok (.invokevirtual 177, 3) := by decide +kernel
theorem dX11_post_48 : decode cX11_post 48 = .ok (.ireturn, 1) := by decide +kernel
theorem dX11_post_49 : decode cX11_post 49 = .ok (.aload_n 0, 1) := by decide +kernel
theorem dX11_post_50 : decode cX11_post 50 = .ok (.getfield 40, 3) := by decide +kernel
theorem dX11_post_53 : decode cX11_post 53 = .ok (.iload_n 1, 1) := by decide +kernel
theorem dX11_post_54 : decode cX11_post 54 = .ok (.invokevirtual 180, 3) := by decide +kernel
theorem dX11_post_57 : decode cX11_post 57 = .ok (.ireturn, 1) := by decide +kernel
theorem dX11_post_58 : decode cX11_post 58 = .ok (.aload_n 0, 1) := by decide +kernel
theorem dX11_post_59 : decode cX11_post 59 = .ok (.getfield 40, 3) := by decide +kernel
theorem dX11_post_62 : decode cX11_post 62 = .ok (.iload_n 1, 1) := by decide +kernel
theorem dX11_post_63 : decode cX11_post 63 = .ok (.invokevirtual 183, 3) := by decide +kernel
theorem dX11_post_66 : decode cX11_post 66 = .ok (.ireturn, 1) := by decide +kernel
theorem dX11_post_67 : decode cX11_post 67 = .ok (.ldc 100, 2) := by decide +kernel
theorem dX11_post_69 : decode cX11_post 69 = .ok (.ireturn, 1) := by decide +kernel
theorem dX11_arm_0 : decode cX11_arm 0 = .ok (.aload_n 0, 1) := by decide +kernel
theorem dX11_arm_1 : decode cX11_arm 1 = .ok (.getfield 19, 3) := by decide +kernel
theorem dX11_arm_4 : decode cX11_arm 4 = .ok (.iload_n 1, 1) := by decide +kernel
theorem dX11_arm_5 : decode cX11_arm 5 = .ok (.invokevirtual 170, 3) := by decide +kernel
theorem dX11_arm_8 : decode cX11_arm 8 = .ok (.ifCond .ne 6, 3) := by decide +kernel
theorem dX11_arm_11 : decode cX11_arm 11 = .ok (.ldc 160, 2) := by decide +kernel
theorem dX11_arm_13 : decode cX11_arm 13 = .ok (.ireturn, 1) := by decide +kernel
theorem dX11_arm_14 : decode cX11_arm 14 = .ok (.aload_n 0, 1) := by decide +kernel
theorem dX11_arm_15 : decode cX11_arm 15 = .ok (.getfield 19, 3) := by decide +kernel
theorem dX11_arm_18 : decode cX11_arm 18 = .ok (.iload_n 1, 1) := by decide +kernel
theorem dX11_arm_19 : decode cX11_arm 19 = .ok (.iload_n 2, 1) := by decide +kernel
theorem dX11_arm_20 : decode cX11_arm 20 = .ok (.invokevirtual 186, 3) := by decide +kernel
theorem dX11_arm_23 : decode cX11_arm 23 = .ok (.ifCond .ne 6, 3) := by decide +kernel
theorem dX11_arm_26 : decode cX11_arm 26 = .ok (.ldc 100, 2) := by decide +kernel
theorem dX11_arm_28 : decode cX11_arm 28 = .ok (.ireturn, 1) := by decide +kernel
theorem dX11_arm_29 : decode cX11_arm 29 = .ok (.iload_n 3, 1) := by decide +kernel
theorem dX11_arm_30 : decode cX11_arm 30 = .ok (.tableswitch 72 0 2 #[26, 36, 62], 26) := by decide +kernel
theorem dX11_arm_56 : decode cX11_arm 56 = .ok (.aload_n 0, 1) := by decide +kernel
theorem dX11_arm_57 : decode cX11_arm 57 = .ok (.getfield 19, 3) := by decide +kernel
theorem dX11_arm_60 : decode cX11_arm 60 = .ok (.iload_n 1, 1) := by decide +kernel
theorem dX11_arm_61 : decode cX11_arm 61 = .ok (.iload_n 2, 1) := by decide +kernel
theorem dX11_arm_62 : decode cX11_arm 62 = .ok (.invokevirtual 190, 3) := by decide +kernel
theorem dX11_arm_65 : decode cX11_arm 65 = .ok (.ireturn, 1) := by decide +kernel
theorem dX11_arm_66 : decode cX11_arm 66 = .ok (.aload_n 0, 1) := by decide +kernel
theorem dX11_arm_67 : decode cX11_arm 67 = .ok (.getfield 19, 3) := by decide +kernel
theorem dX11_arm_70 : decode cX11_arm 70 = .ok (.iload_n 1, 1) := by decide +kernel
theorem dX11_arm_71 : decode cX11_arm 71 = .ok (.aload_n 0, 1) := by decide +kernel
theorem dX11_arm_72 : decode cX11_arm 72 = .ok (.getfield 40, 3) := by decide +kernel
theorem dX11_arm_75 : decode cX11_arm 75 = .ok (.iload_n 1, 1) := by decide +kernel
theorem dX11_arm_76 : decode cX11_arm 76 = .ok (.iload_n 2, 1) := by decide +kernel
theorem dX11_arm_77 : decode cX11_arm 77 = .ok (.aload_n 0, 1) := by decide +kernel
theorem dX11_arm_78 : decode cX11_arm 78 = .ok (.getfield 40, 3) := by decide +kernel
theorem dX11_arm_81 : decode cX11_arm 81 = .ok (.iload_n 1, 1) := by decide +kernel
theorem dX11_arm_82 : decode cX11_arm 82 = .ok (.invokevirtual 180, 3) := by decide +kernel
theorem dX11_arm_85 : decode cX11_arm 85 = .ok (.invokevirtual 193, 3) := by decide +kernel
theorem dX11_arm_88 : decode cX11_arm 88 = .ok (.invokevirtual 197, 3) := by decide +kernel
theorem dX11_arm_91 : decode cX11_arm 91 = .ok (.ireturn, 1) := by decide +kernel
theorem dX11_arm_92 : decode cX11_arm 92 = .ok (.aload_n 0, 1) := by decide +kernel
theorem dX11_arm_93 : decode cX11_arm 93 = .ok (.getfield 19, 3) := by decide +kernel
theorem dX11_arm_96 : decode cX11_arm 96 = .ok (.iload_n 1, 1) := by decide +kernel
theorem dX11_arm_97 : decode cX11_arm 97 = .ok (.iload_n 2, 1) := by decide +kernel
theorem dX11_arm_98 : decode cX11_arm 98 = .ok (.invokevirtual 197, 3) := by decide +kernel
theorem dX11_arm_101 : decode cX11_arm 101 = .ok (.ireturn, 1) := by decide +kernel
theorem dX11_arm_102 : decode cX11_arm 102 = .ok (.ldc 100, 2) := by decide +kernel
theorem dX11_arm_104 : decode cX11_arm 104 = .ok (.ireturn, 1) := by decide +kernel
theorem dX11_miles_0 : decode cX11_miles 0 = .ok (.aload_n 0, 1) := by decide +kernel
theorem dX11_miles_1 : decode cX11_miles 1 = .ok (.getfield 19, 3) := by decide +kernel
theorem dX11_miles_4 : decode cX11_miles 4 = .ok (.iload_n 1, 1) := by decide +kernel
theorem dX11_miles_5 : decode cX11_miles 5 = .ok (.invokevirtual 170, 3) := by decide +kernel
theorem dX11_miles_8 : decode cX11_miles 8 = .ok (.ifCond .eq 14, 3) := by decide +kernel
theorem dX11_miles_11 : decode cX11_miles 11 = .ok (.aload_n 0, 1) := by decide +kernel
theorem dX11_miles_12 : decode cX11_miles 12 = .ok (.getfield 19, 3) := by decide +kernel
theorem dX11_miles_15 : decode cX11_miles 15 = .ok (.iload_n 2, 1) := by decide +kernel
theorem dX11_miles_16 : decode cX11_miles 16 = .ok (.invokevirtual 170, 3) := by decide +kernel
theorem dX11_miles_19 : decode cX11_miles 19 = .ok (.ifCond .ne 6, 3) := by decide +kernel
theorem dX11_miles_22 : decode cX11_miles 22 = .ok (.ldc 160, 2) := by decide +kernel
theorem dX11_miles_24 : decode cX11_miles 24 = .ok (.ireturn, 1) := by decide +kernel
theorem dX11_miles_25 : decode cX11_miles 25 = .ok (.aload_n 0, 1) := by decide +kernel
theorem dX11_miles_26 : decode cX11_miles 26 = .ok (.getfield 40, 3) := by decide +kernel
theorem dX11_miles_29 : decode cX11_miles 29 = .ok (.iload_n 1, 1) := by decide +kernel
theorem dX11_miles_30 : decode cX11_miles 30 = .ok (.iload_n 2, 1) := by decide +kernel
theorem dX11_miles_31 : decode cX11_miles 31 = .ok (.invokevirtual 200, 3) := by decide +kernel
theorem dX11_miles_34 : decode cX11_miles 34 = .ok (.ireturn, 1) := by decide +kernel
theorem dX11_turn_0 : decode cX11_turn 0 = .ok (.aload_n 0, 1) := by decide +kernel
theorem dX11_turn_1 : decode cX11_turn 1 = .ok (.getfield 19, 3) := by decide +kernel
theorem dX11_turn_4 : decode cX11_turn 4 = .ok (.iload_n 1, 1) := by decide +kernel
theorem dX11_turn_5 : decode cX11_turn 5 = .ok (.invokevirtual 170, 3) := by decide +kernel
theorem dX11_turn_8 : decode cX11_turn 8 = .ok (.ifCond .ne 6, 3) := by decide +kernel
theorem dX11_turn_11 : decode cX11_turn 11 = .ok (.ldc 160, 2) := by decide +kernel
theorem dX11_turn_13 : decode cX11_turn 13 = .ok (.ireturn, 1) := by decide +kernel
theorem dX11_turn_14 : decode cX11_turn 14 = .ok (.iload_n 2, 1) := by decide +kernel
theorem dX11_turn_15 : decode cX11_turn 15 = .ok (.iconst 1, 1) := by decide +kernel
theorem dX11_turn_16 : decode cX11_turn 16 = .ok (.if_icmp .lt 9, 3) := by decide +kernel
theorem dX11_turn_19 : decode cX11_turn 19 = .ok (.iload_n 2, 1) := by decide +kernel
theorem dX11_turn_20 : decode cX11_turn 20 = .ok (.bipush 99, 2) := by decide +kernel
theorem dX11_turn_22 : decode cX11_turn 22 = .ok (.if_icmp .le 6, 3) := by decide +kernel
theorem dX11_turn_25 : decode cX11_turn 25 = .ok (.ldc 100, 2) := by decide +kernel
theorem dX11_turn_27 : decode cX11_turn 27 = .ok (.ireturn, 1) := by decide +kernel
theorem dX11_turn_28 : decode cX11_turn 28 = .ok (.aload_n 0, 1) := by decide +kernel
theorem dX11_turn_29 : decode cX11_turn 29 = .ok (.getfield 19, 3) := by decide +kernel
theorem dX11_turn_32 : decode cX11_turn 32 = .ok (.iload_n 1, 1) := by decide +kernel
theorem dX11_turn_33 : decode cX11_turn 33 = .ok (.invokevirtual 177, 3) := by decide +kernel
theorem dX11_turn_36 : decode cX11_turn 36 = .ok (.ifCond .ne 6, 3) := by decide +kernel
theorem dX11_turn_39 : decode cX11_turn 39 = .ok (.ldc 203, 2) := by decide +kernel
theorem dX11_turn_41 : decode cX11_turn 41 = .ok (.ireturn, 1) := by decide +kernel
theorem dX11_turn_42 : decode cX11_turn 42 = .ok (.aload_n 0, 1) := by decide +kernel
theorem dX11_turn_43 : decode cX11_turn 43 = .ok (.getfield 40, 3) := by decide +kernel
theorem dX11_turn_46 : decode cX11_turn 46 = .ok (.iload_n 1, 1) := by decide +kernel
theorem dX11_turn_47 : decode cX11_turn 47 = .ok (.iload_n 2, 1) := by decide +kernel
theorem dX11_turn_48 : decode cX11_turn 48 = .ok (.invokevirtual 204, 3) := by decide +kernel
theorem dX11_turn_51 : decode cX11_turn 51 = .ok (.aload_n 0, 1) := by decide +kernel
theorem dX11_turn_52 : decode cX11_turn 52 = .ok (.getfield 40, 3) := by decide +kernel
theorem dX11_turn_55 : decode cX11_turn 55 = .ok (.iload_n 1, 1) := by decide +kernel
theorem dX11_turn_56 : decode cX11_turn 56 = .ok (.invokevirtual 180, 3) := by decide +kernel
theorem dX11_turn_59 : decode cX11_turn 59 = .ok (.ireturn, 1) := by decide +kernel
theorem dX11_fell_0 : decode cX11_fell 0 = .ok (.aload_n 0, 1) := by decide +kernel
theorem dX11_fell_1 : decode cX11_fell 1 = .ok (.getfield 19, 3) := by decide +kernel
theorem dX11_fell_4 : decode cX11_fell 4 = .ok (.iload_n 1, 1) := by decide +kernel
theorem dX11_fell_5 : decode cX11_fell 5 = .ok (.invokevirtual 170, 3) := by decide +kernel
theorem dX11_fell_8 : decode cX11_fell 8 = .ok (.ifCond .ne 6, 3) := by decide +kernel
theorem dX11_fell_11 : decode cX11_fell 11 = .ok (.ldc 160, 2) := by decide +kernel
theorem dX11_fell_13 : decode cX11_fell 13 = .ok (.ireturn, 1) := by decide +kernel
theorem dX11_fell_14 : decode cX11_fell 14 = .ok (.aload_n 0, 1) := by decide +kernel
theorem dX11_fell_15 : decode cX11_fell 15 = .ok (.getfield 19, 3) := by decide +kernel
theorem dX11_fell_18 : decode cX11_fell 18 = .ok (.iload_n 1, 1) := by decide +kernel
theorem dX11_fell_19 : decode cX11_fell 19 = .ok (.iload_n 2, 1) := by decide +kernel
theorem dX11_fell_20 : decode cX11_fell 20 = .ok (.invokevirtual 186, 3) := by decide +kernel
theorem dX11_fell_23 : decode cX11_fell 23 = .ok (.ifCond .ne 6, 3) := by decide +kernel
theorem dX11_fell_26 : decode cX11_fell 26 = .ok (.ldc 100, 2) := by decide +kernel
theorem dX11_fell_28 : decode cX11_fell 28 = .ok (.ireturn, 1) := by decide +kernel
theorem dX11_fell_29 : decode cX11_fell 29 = .ok (.aload_n 0, 1) := by decide +kernel
theorem dX11_fell_30 : decode cX11_fell 30 = .ok (.getfield 40, 3) := by decide +kernel
theorem dX11_fell_33 : decode cX11_fell 33 = .ok (.iload_n 1, 1) := by decide +kernel
theorem dX11_fell_34 : decode cX11_fell 34 = .ok (.iload_n 2, 1) := by decide +kernel
theorem dX11_fell_35 : decode cX11_fell 35 = .ok (.invokevirtual 208, 3) := by decide +kernel
theorem dX11_fell_38 : decode cX11_fell 38 = .ok (.ifCond .eq 7, 3) := by decide +kernel
theorem dX11_fell_41 : decode cX11_fell 41 = .ok (.iconst 1, 1) := by decide +kernel
theorem dX11_fell_42 : decode cX11_fell 42 = .ok (.goto 4, 3) := by decide +kernel
theorem dX11_fell_45 : decode cX11_fell 45 = .ok (.iconst 0, 1) := by decide +kernel
theorem dX11_fell_46 : decode cX11_fell 46 = .ok (.istore 4, 2) := by decide +kernel
theorem dX11_fell_48 : decode cX11_fell 48 = .ok (.aload_n 0, 1) := by decide +kernel
theorem dX11_fell_49 : decode cX11_fell 49 = .ok (.getfield 40, 3) := by decide +kernel
theorem dX11_fell_52 : decode cX11_fell 52 = .ok (.iload_n 1, 1) := by decide +kernel
theorem dX11_fell_53 : decode cX11_fell 53 = .ok (.iload_n 2, 1) := by decide +kernel
theorem dX11_fell_54 : decode cX11_fell 54 = .ok (.iload_n 3, 1) := by decide +kernel
theorem dX11_fell_55 : decode cX11_fell 55 = .ok (.invokevirtual 211, 3) := by decide +kernel
theorem dX11_fell_58 : decode cX11_fell 58 = .ok (.iload 4, 2) := by decide +kernel
theorem dX11_fell_60 : decode cX11_fell 60 = .ok (.ireturn, 1) := by decide +kernel
theorem dX11_paint_0 : decode cX11_paint 0 = .ok (.aload_n 0, 1) := by decide +kernel
theorem dX11_paint_1 : decode cX11_paint 1 = .ok (.getfield 19, 3) := by decide +kernel
theorem dX11_paint_4 : decode cX11_paint 4 = .ok (.iload_n 1, 1) := by decide +kernel
theorem dX11_paint_5 : decode cX11_paint 5 = .ok (.invokevirtual 170, 3) := by decide +kernel
theorem dX11_paint_8 : decode cX11_paint 8 = .ok (.ifCond .eq 14, 3) := by decide +kernel
theorem dX11_paint_11 : decode cX11_paint 11 = .ok (.aload_n 0, 1) := by decide +kernel
theorem dX11_paint_12 : decode cX11_paint 12 = .ok (.getfield 19, 3) := by decide +kernel
theorem dX11_paint_15 : decode cX11_paint 15 = .ok (.iload_n 2, 1) := by decide +kernel
theorem dX11_paint_16 : decode cX11_paint 16 = .ok (.invokevirtual 170, 3) := by decide +kernel
theorem dX11_paint_19 : decode cX11_paint 19 = .ok (.ifCond .ne 6, 3) := by decide +kernel
theorem dX11_paint_22 : decode cX11_paint 22 = .ok (.ldc 160, 2) := by decide +kernel
theorem dX11_paint_24 : decode cX11_paint 24 = .ok (.ireturn, 1) := by decide +kernel
theorem dX11_paint_25 : decode cX11_paint 25 = .ok (.iload_n 3, 1) := by decide +kernel
theorem dX11_paint_26 : decode cX11_paint 26 = .ok (.ifCond .lt 10, 3) := by decide +kernel
theorem dX11_paint_29 : decode cX11_paint 29 = .ok (.iload_n 3, 1) := by decide +kernel
theorem dX11_paint_30 : decode cX11_paint 30 = .ok (.sipush 999, 3) := by decide +kernel
theorem dX11_paint_33 : decode cX11_paint 33 = .ok (.if_icmp .le 6, 3) := by decide +kernel
theorem dX11_paint_36 : decode cX11_paint 36 = .ok (.ldc 100, 2) := by decide +kernel
theorem dX11_paint_38 : decode cX11_paint 38 = .ok (.ireturn, 1) := by decide +kernel
theorem dX11_paint_39 : decode cX11_paint 39 = .ok (.aload_n 0, 1) := by decide +kernel
theorem dX11_paint_40 : decode cX11_paint 40 = .ok (.getfield 40, 3) := by decide +kernel
theorem dX11_paint_43 : decode cX11_paint 43 = .ok (.iload_n 1, 1) := by decide +kernel
theorem dX11_paint_44 : decode cX11_paint 44 = .ok (.iload_n 2, 1) := by decide +kernel
theorem dX11_paint_45 : decode cX11_paint 45 = .ok (.invokevirtual 200, 3) := by decide +kernel
theorem dX11_paint_48 : decode cX11_paint 48 = .ok (.istore 4, 2) := by decide +kernel
theorem dX11_paint_50 : decode cX11_paint 50 = .ok (.iload 4, 2) := by decide +kernel
theorem dX11_paint_52 : decode cX11_paint 52 = .ok (.iconst (-1), 1) := by decide +kernel
theorem dX11_paint_53 : decode cX11_paint 53 = .ok (.if_icmp .ne 6, 3) := by decide +kernel
theorem dX11_paint_56 : decode cX11_paint 56 = .ok (.ldc 203, 2) := by decide +kernel
theorem dX11_paint_58 : decode cX11_paint 58 = .ok (.ireturn, 1) := by decide +kernel
theorem dX11_paint_59 : decode cX11_paint 59 = .ok (.aload_n 0, 1) := by decide +kernel
theorem dX11_paint_60 : decode cX11_paint 60 = .ok (.getfield 40, 3) := by decide +kernel
theorem dX11_paint_63 : decode cX11_paint 63 = .ok (.iload_n 1, 1) := by decide +kernel
theorem dX11_paint_64 : decode cX11_paint 64 = .ok (.iload_n 2, 1) := by decide +kernel
theorem dX11_paint_65 : decode cX11_paint 65 = .ok (.iload_n 3, 1) := by decide +kernel
theorem dX11_paint_66 : decode cX11_paint 66 = .ok (.invokevirtual 215, 3) := by decide +kernel
theorem dX11_paint_69 : decode cX11_paint 69 = .ok (.iload 4, 2) := by decide +kernel
theorem dX11_paint_71 : decode cX11_paint 71 = .ok (.ireturn, 1) := by decide +kernel
theorem dX11_right_0 : decode cX11_right 0 = .ok (.aload_n 0, 1) := by decide +kernel
theorem dX11_right_1 : decode cX11_right 1 = .ok (.getfield 19, 3) := by decide +kernel
theorem dX11_right_4 : decode cX11_right 4 = .ok (.iload_n 1, 1) := by decide +kernel
theorem dX11_right_5 : decode cX11_right 5 = .ok (.invokevirtual 219, 3) := by decide +kernel
theorem dX11_right_8 : decode cX11_right 8 = .ok (.ifCond .ne 6, 3) := by decide +kernel
theorem dX11_right_11 : decode cX11_right 11 = .ok (.ldc 160, 2) := by decide +kernel
theorem dX11_right_13 : decode cX11_right 13 = .ok (.ireturn, 1) := by decide +kernel
theorem dX11_right_14 : decode cX11_right 14 = .ok (.iconst 0, 1) := by decide +kernel
theorem dX11_right_15 : decode cX11_right 15 = .ok (.istore_n 2, 1) := by decide +kernel
theorem dX11_right_16 : decode cX11_right 16 = .ok (.iconst 0, 1) := by decide +kernel
theorem dX11_right_17 : decode cX11_right 17 = .ok (.istore_n 3, 1) := by decide +kernel
theorem dX11_right_18 : decode cX11_right 18 = .ok (.iload_n 3, 1) := by decide +kernel
theorem dX11_right_19 : decode cX11_right 19 = .ok (.aload_n 0, 1) := by decide +kernel
theorem dX11_right_20 : decode cX11_right 20 = .ok (.getfield 19, 3) := by decide +kernel
theorem dX11_right_23 : decode cX11_right 23 = .ok (.invokevirtual 134, 3) := by decide +kernel
theorem dX11_right_26 : decode cX11_right 26 = .ok (.if_icmp .ge 39, 3) := by decide +kernel
theorem dX11_right_29 : decode cX11_right 29 = .ok (.iload_n 1, 1) := by decide +kernel
theorem dX11_right_30 : decode cX11_right 30 = .ok (.iload_n 3, 1) := by decide +kernel
theorem dX11_right_31 : decode cX11_right 31 = .ok (.invokestatic 222, 3) := by decide +kernel
theorem dX11_right_34 : decode cX11_right 34 = .ok (.ifCond .eq 25, 3) := by decide +kernel
theorem dX11_right_37 : decode cX11_right 37 = .ok (.aload_n 0, 1) := by decide +kernel
theorem dX11_right_38 : decode cX11_right 38 = .ok (.getfield 40, 3) := by decide +kernel
theorem dX11_right_41 : decode cX11_right 41 = .ok (.iload_n 3, 1) := by decide +kernel
theorem dX11_right_42 : decode cX11_right 42 = .ok (.invokevirtual 225, 3) := by decide +kernel
theorem dX11_right_45 : decode cX11_right 45 = .ok (.ifCond .ne 14, 3) := by decide +kernel
theorem dX11_right_48 : decode cX11_right 48 = .ok (.iinc 2 1, 3) := by decide +kernel
theorem dX11_right_51 : decode cX11_right 51 = .ok (.aload_n 0, 1) := by decide +kernel
theorem dX11_right_52 : decode cX11_right 52 = .ok (.getfield 40, 3) := by decide +kernel
theorem dX11_right_55 : decode cX11_right 55 = .ok (.iload_n 3, 1) := by decide +kernel
theorem dX11_right_56 : decode cX11_right 56 = .ok (.invokevirtual 228, 3) := by decide +kernel
theorem dX11_right_59 : decode cX11_right 59 = .ok (.iinc 3 1, 3) := by decide +kernel
theorem dX11_right_62 : decode cX11_right 62 = .ok (.goto (-44), 3) := by decide +kernel
theorem dX11_right_65 : decode cX11_right 65 = .ok (.iload_n 2, 1) := by decide +kernel
theorem dX11_right_66 : decode cX11_right 66 = .ok (.ireturn, 1) := by decide +kernel
theorem dX11_walk_0 : decode cX11_walk 0 = .ok (.aload_n 0, 1) := by decide +kernel
theorem dX11_walk_1 : decode cX11_walk 1 = .ok (.getfield 19, 3) := by decide +kernel
theorem dX11_walk_4 : decode cX11_walk 4 = .ok (.iload_n 1, 1) := by decide +kernel
theorem dX11_walk_5 : decode cX11_walk 5 = .ok (.invokevirtual 170, 3) := by decide +kernel
theorem dX11_walk_8 : decode cX11_walk 8 = .ok (.ifCond .eq 14, 3) := by decide +kernel
theorem dX11_walk_11 : decode cX11_walk 11 = .ok (.aload_n 0, 1) := by decide +kernel
theorem dX11_walk_12 : decode cX11_walk 12 = .ok (.getfield 19, 3) := by decide +kernel
theorem dX11_walk_15 : decode cX11_walk 15 = .ok (.iload_n 2, 1) := by decide +kernel
theorem dX11_walk_16 : decode cX11_walk 16 = .ok (.invokevirtual 170, 3) := by decide +kernel
theorem dX11_walk_19 : decode cX11_walk 19 = .ok (.ifCond .ne 6, 3) := by decide +kernel
theorem dX11_walk_22 : decode cX11_walk 22 = .ok (.ldc 160, 2) := by decide +kernel
theorem dX11_walk_24 : decode cX11_walk 24 = .ok (.ireturn, 1) := by decide +kernel
theorem dX11_walk_25 : decode cX11_walk 25 = .ok (.iload_n 3, 1) := by decide +kernel
theorem dX11_walk_26 : decode cX11_walk 26 = .ok (.ifCond .lt 8, 3) := by decide +kernel
theorem dX11_walk_29 : decode cX11_walk 29 = .ok (.iload_n 3, 1) := by decide +kernel
theorem dX11_walk_30 : decode cX11_walk 30 = .ok (.iconst 2, 1) := by decide +kernel
theorem dX11_walk_31 : decode cX11_walk 31 = .ok (.if_icmp .le 6, 3) := by decide +kernel
theorem dX11_walk_34 : decode cX11_walk 34 = .ok (.ldc 100, 2) := by decide +kernel
theorem dX11_walk_36 : decode cX11_walk 36 = .ok (.ireturn, 1) := by decide +kernel
theorem dX11_walk_37 : decode cX11_walk 37 = .ok (.aload_n 0, 1) := by decide +kernel
theorem dX11_walk_38 : decode cX11_walk 38 = .ok (.getfield 49, 3) := by decide +kernel
theorem dX11_walk_41 : decode cX11_walk 41 = .ok (.iload_n 1, 1) := by decide +kernel
theorem dX11_walk_42 : decode cX11_walk 42 = .ok (.iload_n 2, 1) := by decide +kernel
theorem dX11_walk_43 : decode cX11_walk 43 = .ok (.iconst 0, 1) := by decide +kernel
theorem dX11_walk_44 : decode cX11_walk 44 = .ok (.invokevirtual 231, 3) := by decide +kernel
theorem dX11_walk_47 : decode cX11_walk 47 = .ok (.iload_n 3, 1) := by decide +kernel
theorem dX11_walk_48 : decode cX11_walk 48 = .ok (.lookupswitch 44 #[(0, 28), (1, 36)], 28) := by decide +kernel
theorem dX11_walk_76 : decode cX11_walk 76 = .ok (.aload_n 0, 1) := by decide +kernel
theorem dX11_walk_77 : decode cX11_walk 77 = .ok (.getfield 49, 3) := by decide +kernel
theorem dX11_walk_80 : decode cX11_walk 80 = .ok (.invokevirtual 234, 3) := by decide +kernel
theorem dX11_walk_83 : decode cX11_walk 83 = .ok (.ireturn, 1) := by decide +kernel
theorem dX11_walk_84 : decode cX11_walk 84 = .ok (.aload_n 0, 1) := by decide +kernel
theorem dX11_walk_85 : decode cX11_walk 85 = .ok (.getfield 49, 3) := by decide +kernel
theorem dX11_walk_88 : decode cX11_walk 88 = .ok (.invokevirtual 237, 3) := by decide +kernel
theorem dX11_walk_91 : decode cX11_walk 91 = .ok (.ireturn, 1) := by decide +kernel
theorem dX11_walk_92 : decode cX11_walk 92 = .ok (.aload_n 0, 1) := by decide +kernel
theorem dX11_walk_93 : decode cX11_walk 93 = .ok (.getfield 49, 3) := by decide +kernel
theorem dX11_walk_96 : decode cX11_walk 96 = .ok (.aload_n 0, 1) := by decide +kernel
theorem dX11_walk_97 : decode cX11_walk 97 = .ok (.getfield 49, 3) := by decide +kernel
theorem dX11_walk_100 : decode cX11_walk 100 = .ok (.invokevirtual 240, 3) := by decide +kernel
theorem dX11_walk_103 : decode cX11_walk 103 = .ok (.invokevirtual 243, 3) := by decide +kernel
theorem dX11_walk_106 : decode cX11_walk 106 = .ok (.ireturn, 1) := by decide +kernel
theorem dX11_way_0 : decode cX11_way 0 = .ok (.aload_n 0, 1) := by decide +kernel
theorem dX11_way_1 : decode cX11_way 1 = .ok (.getfield 19, 3) := by decide +kernel
theorem dX11_way_4 : decode cX11_way 4 = .ok (.iload_n 1, 1) := by decide +kernel
theorem dX11_way_5 : decode cX11_way 5 = .ok (.invokevirtual 170, 3) := by decide +kernel
theorem dX11_way_8 : decode cX11_way 8 = .ok (.ifCond .eq 14, 3) := by decide +kernel
theorem dX11_way_11 : decode cX11_way 11 = .ok (.aload_n 0, 1) := by decide +kernel
theorem dX11_way_12 : decode cX11_way 12 = .ok (.getfield 19, 3) := by decide +kernel
theorem dX11_way_15 : decode cX11_way 15 = .ok (.iload_n 2, 1) := by decide +kernel
theorem dX11_way_16 : decode cX11_way 16 = .ok (.invokevirtual 170, 3) := by decide +kernel
theorem dX11_way_19 : decode cX11_way 19 = .ok (.ifCond .ne 6, 3) := by decide +kernel
theorem dX11_way_22 : decode cX11_way 22 = .ok (.ldc 160, 2) := by decide +kernel
theorem dX11_way_24 : decode cX11_way 24 = .ok (.ireturn, 1) := by decide +kernel
theorem dX11_way_25 : decode cX11_way 25 = .ok (.aload_n 0, 1) := by decide +kernel
theorem dX11_way_26 : decode cX11_way 26 = .ok (.getfield 49, 3) := by decide +kernel
theorem dX11_way_29 : decode cX11_way 29 = .ok (.iload_n 1, 1) := by decide +kernel
theorem dX11_way_30 : decode cX11_way 30 = .ok (.iload_n 2, 1) := by decide +kernel
theorem dX11_way_31 : decode cX11_way 31 = .ok (.iconst 0, 1) := by decide +kernel
theorem dX11_way_32 : decode cX11_way 32 = .ok (.invokevirtual 231, 3) := by decide +kernel
theorem dX11_way_35 : decode cX11_way 35 = .ok (.aload_n 0, 1) := by decide +kernel
theorem dX11_way_36 : decode cX11_way 36 = .ok (.getfield 49, 3) := by decide +kernel
theorem dX11_way_39 : decode cX11_way 39 = .ok (.iload_n 3, 1) := by decide +kernel
theorem dX11_way_40 : decode cX11_way 40 = .ok (.invokevirtual 243, 3) := by decide +kernel
theorem dX11_way_43 : decode cX11_way 43 = .ok (.ireturn, 1) := by decide +kernel
theorem dX11_seen_0 : decode cX11_seen 0 = .ok (.aload_n 0, 1) := by decide +kernel
theorem dX11_seen_1 : decode cX11_seen 1 = .ok (.getfield 19, 3) := by decide +kernel
theorem dX11_seen_4 : decode cX11_seen 4 = .ok (.iload_n 1, 1) := by decide +kernel
theorem dX11_seen_5 : decode cX11_seen 5 = .ok (.invokevirtual 170, 3) := by decide +kernel
theorem dX11_seen_8 : decode cX11_seen 8 = .ok (.ifCond .eq 25, 3) := by decide +kernel
theorem dX11_seen_11 : decode cX11_seen 11 = .ok (.aload_n 0, 1) := by decide +kernel
theorem dX11_seen_12 : decode cX11_seen 12 = .ok (.getfield 19, 3) := by decide +kernel
theorem dX11_seen_15 : decode cX11_seen 15 = .ok (.iload_n 2, 1) := by decide +kernel
theorem dX11_seen_16 : decode cX11_seen 16 = .ok (.invokevirtual 170, 3) := by decide +kernel
theorem dX11_seen_19 : decode cX11_seen 19 = .ok (.ifCond .eq 14, 3) := by decide +kernel
theorem dX11_seen_22 : decode cX11_seen 22 = .ok (.aload_n 0, 1) := by decide +kernel
theorem dX11_seen_23 : decode cX11_seen 23 = .ok (.getfield 19, 3) := by decide +kernel
theorem dX11_seen_26 : decode cX11_seen 26 = .ok (.iload_n 3, 1) := by decide +kernel
theorem dX11_seen_27 : decode cX11_seen 27 = .ok (.invokevirtual 170, 3) := by decide +kernel
theorem dX11_seen_30 : decode cX11_seen 30 = .ok (.ifCond .ne 6, 3) := by decide +kernel
theorem dX11_seen_33 : decode cX11_seen 33 = .ok (.ldc 160, 2) := by decide +kernel
theorem dX11_seen_35 : decode cX11_seen 35 = .ok (.ireturn, 1) := by decide +kernel
theorem dX11_seen_36 : decode cX11_seen 36 = .ok (.aload_n 0, 1) := by decide +kernel
theorem dX11_seen_37 : decode cX11_seen 37 = .ok (.getfield 19, 3) := by decide +kernel
theorem dX11_seen_40 : decode cX11_seen 40 = .ok (.iload_n 1, 1) := by decide +kernel
theorem dX11_seen_41 : decode cX11_seen 41 = .ok (.iload_n 3, 1) := by decide +kernel
theorem dX11_seen_42 : decode cX11_seen 42 = .ok (.invokevirtual 246, 3) := by decide +kernel
theorem dX11_seen_45 : decode cX11_seen 45 = .ok (.iconst (-1), 1) := by decide +kernel
theorem dX11_seen_46 : decode cX11_seen 46 = .ok (.if_icmp .eq 16, 3) := by decide +kernel
theorem dX11_seen_49 : decode cX11_seen 49 = .ok (.aload_n 0, 1) := by decide +kernel
theorem dX11_seen_50 : decode cX11_seen 50 = .ok (.getfield 19, 3) := by decide +kernel
theorem dX11_seen_53 : decode cX11_seen 53 = .ok (.iload_n 1, 1) := by decide +kernel
theorem dX11_seen_54 : decode cX11_seen 54 = .ok (.iload_n 2, 1) := by decide +kernel
theorem dX11_seen_55 : decode cX11_seen 55 = .ok (.invokevirtual 249, 3) := by decide +kernel
theorem dX11_seen_58 : decode cX11_seen 58 = .ok (.iconst (-1), 1) := by decide +kernel
theorem dX11_seen_59 : decode cX11_seen 59 = .ok (.if_icmp .ne 6, 3) := by decide +kernel
theorem dX11_seen_62 : decode cX11_seen 62 = .ok (.ldc 100, 2) := by decide +kernel
theorem dX11_seen_64 : decode cX11_seen 64 = .ok (.ireturn, 1) := by decide +kernel
theorem dX11_seen_65 : decode cX11_seen 65 = .ok (.aload_n 0, 1) := by decide +kernel
theorem dX11_seen_66 : decode cX11_seen 66 = .ok (.getfield 72, 3) := by decide +kernel
theorem dX11_seen_69 : decode cX11_seen 69 = .ok (.invokevirtual 252, 3) := by decide +kernel
theorem dX11_seen_72 : decode cX11_seen 72 = .ok (.ifCond .eq 6, 3) := by decide +kernel
theorem dX11_seen_75 : decode cX11_seen 75 = .ok (.ldc 105, 2) := by decide +kernel
theorem dX11_seen_77 : decode cX11_seen 77 = .ok (.ireturn, 1) := by decide +kernel
theorem dX11_seen_78 : decode cX11_seen 78 = .ok (.aload_n 0, 1) := by decide +kernel
theorem dX11_seen_79 : decode cX11_seen 79 = .ok (.getfield 72, 3) := by decide +kernel
theorem dX11_seen_82 : decode cX11_seen 82 = .ok (.iload_n 1, 1) := by decide +kernel
theorem dX11_seen_83 : decode cX11_seen 83 = .ok (.iload_n 2, 1) := by decide +kernel
theorem dX11_seen_84 : decode cX11_seen 84 = .ok (.iload_n 3, 1) := by decide +kernel
theorem dX11_seen_85 : decode cX11_seen 85 = .ok (.invokevirtual 256, 3) := by decide +kernel
theorem dX11_seen_88 : decode cX11_seen 88 = .ok (.aload_n 0, 1) := by decide +kernel
theorem dX11_seen_89 : decode cX11_seen 89 = .ok (.getfield 72, 3) := by decide +kernel
theorem dX11_seen_92 : decode cX11_seen 92 = .ok (.invokevirtual 146, 3) := by decide +kernel
theorem dX11_seen_95 : decode cX11_seen 95 = .ok (.ireturn, 1) := by decide +kernel
theorem dX11_forget_0 : decode cX11_forget 0 = .ok (.aload_n 0, 1) := by decide +kernel
theorem dX11_forget_1 : decode cX11_forget 1 = .ok (.getfield 72, 3) := by decide +kernel
theorem dX11_forget_4 : decode cX11_forget 4 = .ok (.invokevirtual 146, 3) := by decide +kernel
theorem dX11_forget_7 : decode cX11_forget 7 = .ok (.istore_n 1, 1) := by decide +kernel
theorem dX11_forget_8 : decode cX11_forget 8 = .ok (.aload_n 0, 1) := by decide +kernel
theorem dX11_forget_9 : decode cX11_forget 9 = .ok (.getfield 72, 3) := by decide +kernel
theorem dX11_forget_12 : decode cX11_forget 12 = .ok (.invokevirtual 129, 3) := by decide +kernel
theorem dX11_forget_15 : decode cX11_forget 15 = .ok (.iload_n 1, 1) := by decide +kernel
theorem dX11_forget_16 : decode cX11_forget 16 = .ok (.ireturn, 1) := by decide +kernel
theorem dX11_fits_0 : decode cX11_fits 0 = .ok (.aload_n 0, 1) := by decide +kernel
theorem dX11_fits_1 : decode cX11_fits 1 = .ok (.getfield 19, 3) := by decide +kernel
theorem dX11_fits_4 : decode cX11_fits 4 = .ok (.iload_n 1, 1) := by decide +kernel
theorem dX11_fits_5 : decode cX11_fits 5 = .ok (.invokevirtual 170, 3) := by decide +kernel
theorem dX11_fits_8 : decode cX11_fits 8 = .ok (.ifCond .ne 6, 3) := by decide +kernel
theorem dX11_fits_11 : decode cX11_fits 11 = .ok (.ldc 160, 2) := by decide +kernel
theorem dX11_fits_13 : decode cX11_fits 13 = .ok (.ireturn, 1) := by decide +kernel
theorem dX11_fits_14 : decode cX11_fits 14 = .ok (.aload_n 0, 1) := by decide +kernel
theorem dX11_fits_15 : decode cX11_fits 15 = .ok (.getfield 72, 3) := by decide +kernel
theorem dX11_fits_18 : decode cX11_fits 18 = .ok (.iload_n 1, 1) := by decide +kernel
theorem dX11_fits_19 : decode cX11_fits 19 = .ok (.invokevirtual 258, 3) := by decide +kernel
theorem dX11_fits_22 : decode cX11_fits 22 = .ok (.ireturn, 1) := by decide +kernel
theorem dX11_sure_0 : decode cX11_sure 0 = .ok (.iconst 0, 1) := by decide +kernel
theorem dX11_sure_1 : decode cX11_sure 1 = .ok (.istore_n 1, 1) := by decide +kernel
theorem dX11_sure_2 : decode cX11_sure 2 = .ok (.iconst 0, 1) := by decide +kernel
theorem dX11_sure_3 : decode cX11_sure 3 = .ok (.istore_n 2, 1) := by decide +kernel
theorem dX11_sure_4 : decode cX11_sure 4 = .ok (.iload_n 2, 1) := by decide +kernel
theorem dX11_sure_5 : decode cX11_sure 5 = .ok (.aload_n 0, 1) := by decide +kernel
theorem dX11_sure_6 : decode cX11_sure 6 = .ok (.getfield 19, 3) := by decide +kernel
theorem dX11_sure_9 : decode cX11_sure 9 = .ok (.invokevirtual 134, 3) := by decide +kernel
theorem dX11_sure_12 : decode cX11_sure 12 = .ok (.if_icmp .ge 30, 3) := by decide +kernel
theorem dX11_sure_15 : decode cX11_sure 15 = .ok (.aload_n 0, 1) := by decide +kernel
theorem dX11_sure_16 : decode cX11_sure 16 = .ok (.getfield 72, 3) := by decide +kernel
theorem dX11_sure_19 : decode cX11_sure 19 = .ok (.iload_n 2, 1) := by decide +kernel
theorem dX11_sure_20 : decode cX11_sure 20 = .ok (.invokevirtual 258, 3) := by decide +kernel
theorem dX11_sure_23 : decode cX11_sure 23 = .ok (.invokestatic 261, 3) := by decide +kernel
theorem dX11_sure_26 : decode cX11_sure 26 = .ok (.iconst 1, 1) := by decide +kernel
theorem dX11_sure_27 : decode cX11_sure 27 = .ok (.if_icmp .ne 9, 3) := by decide +kernel
theorem dX11_sure_30 : decode cX11_sure 30 = .ok (.iload_n 1, 1) := by decide +kernel
theorem dX11_sure_31 : decode cX11_sure 31 = .ok (.iconst 1, 1) := by decide +kernel
theorem dX11_sure_32 : decode cX11_sure 32 = .ok (.iload_n 2, 1) := by decide +kernel
theorem dX11_sure_33 : decode cX11_sure 33 = .ok (.ishl, 1) := by decide +kernel
theorem dX11_sure_34 : decode cX11_sure 34 = .ok (.ior, 1) := by decide +kernel
theorem dX11_sure_35 : decode cX11_sure 35 = .ok (.istore_n 1, 1) := by decide +kernel
theorem dX11_sure_36 : decode cX11_sure 36 = .ok (.iinc 2 1, 3) := by decide +kernel
theorem dX11_sure_39 : decode cX11_sure 39 = .ok (.goto (-35), 3) := by decide +kernel
theorem dX11_sure_42 : decode cX11_sure 42 = .ok (.iload_n 1, 1) := by decide +kernel
theorem dX11_sure_43 : decode cX11_sure 43 = .ok (.ireturn, 1) := by decide +kernel
theorem dX11_quarrel_0 : decode cX11_quarrel 0 = .ok (.iconst 0, 1) := by decide +kernel
theorem dX11_quarrel_1 : decode cX11_quarrel 1 = .ok (.istore_n 2, 1) := by decide +kernel
theorem dX11_quarrel_2 : decode cX11_quarrel 2 = .ok (.iload_n 2, 1) := by decide +kernel
theorem dX11_quarrel_3 : decode cX11_quarrel 3 = .ok (.aload_n 0, 1) := by decide +kernel
theorem dX11_quarrel_4 : decode cX11_quarrel 4 = .ok (.getfield 19, 3) := by decide +kernel
theorem dX11_quarrel_7 : decode cX11_quarrel 7 = .ok (.invokevirtual 134, 3) := by decide +kernel
theorem dX11_quarrel_10 : decode cX11_quarrel 10 = .ok (.if_icmp .ge 66, 3) := by decide +kernel
theorem dX11_quarrel_13 : decode cX11_quarrel 13 = .ok (.iconst 0, 1) := by decide +kernel
theorem dX11_quarrel_14 : decode cX11_quarrel 14 = .ok (.istore_n 3, 1) := by decide +kernel
theorem dX11_quarrel_15 : decode cX11_quarrel 15 = .ok (.iload_n 3, 1) := by decide +kernel
theorem dX11_quarrel_16 : decode cX11_quarrel 16 = .ok (.aload_n 0, 1) := by decide +kernel
theorem dX11_quarrel_17 : decode cX11_quarrel 17 = .ok (.getfield 19, 3) := by decide +kernel
theorem dX11_quarrel_20 : decode cX11_quarrel 20 = .ok (.invokevirtual 134, 3) := by decide +kernel
theorem dX11_quarrel_23 : decode cX11_quarrel 23 = .ok (.if_icmp .ge 47, 3) := by decide +kernel
theorem dX11_quarrel_26 : decode cX11_quarrel 26 = .ok (.iload_n 1, 1) := by decide +kernel
theorem dX11_quarrel_27 : decode cX11_quarrel 27 = .ok (.ifCond .eq 18, 3) := by decide +kernel
theorem dX11_quarrel_30 : decode cX11_quarrel 30 = .ok (.aload_n 0, 1) := by decide +kernel
theorem dX11_quarrel_31 : decode cX11_quarrel 31 = .ok (.getfield 40, 3) := by decide +kernel
theorem dX11_quarrel_34 : decode cX11_quarrel 34 = .ok (.iload_n 2, 1) := by decide +kernel
theorem dX11_quarrel_35 : decode cX11_quarrel 35 = .ok (.iload_n 3, 1) := by decide +kernel
theorem dX11_quarrel_36 : decode cX11_quarrel 36 = .ok (.invokevirtual 266, 3) := by decide +kernel
theorem dX11_quarrel_39 : decode cX11_quarrel 39 = .ok (.ifCond .eq 25, 3) := by decide +kernel
theorem dX11_quarrel_42 : decode cX11_quarrel 42 = .ok (.goto 15, 3) := by decide +kernel
theorem dX11_quarrel_45 : decode cX11_quarrel 45 = .ok (.aload_n 0, 1) := by decide +kernel
theorem dX11_quarrel_46 : decode cX11_quarrel 46 = .ok (.getfield 40, 3) := by decide +kernel
theorem dX11_quarrel_49 : decode cX11_quarrel 49 = .ok (.iload_n 2, 1) := by decide +kernel
theorem dX11_quarrel_50 : decode cX11_quarrel 50 = .ok (.iload_n 3, 1) := by decide +kernel
theorem dX11_quarrel_51 : decode cX11_quarrel 51 = .ok (.invokevirtual 269, 3) := by decide +kernel
theorem dX11_quarrel_54 : decode cX11_quarrel 54 = .ok (.ifCond .eq 10, 3) := by decide +kernel
theorem dX11_quarrel_57 : decode cX11_quarrel 57 = .ok (.bipush 10, 2) := by decide +kernel
theorem dX11_quarrel_59 : decode cX11_quarrel 59 = .ok (.iload_n 2, 1) := by decide +kernel
theorem dX11_quarrel_60 : decode cX11_quarrel 60 = .ok (.imul, 1) := by decide +kernel
theorem dX11_quarrel_61 : decode cX11_quarrel 61 = .ok (.iload_n 3, 1) := by decide +kernel
theorem dX11_quarrel_62 : decode cX11_quarrel 62 = .ok (.iadd, 1) := by decide +kernel
theorem dX11_quarrel_63 : decode cX11_quarrel 63 = .ok (.ireturn, 1) := by decide +kernel
theorem dX11_quarrel_64 : decode cX11_quarrel 64 = .ok (.iinc 3 1, 3) := by decide +kernel
theorem dX11_quarrel_67 : decode cX11_quarrel 67 = .ok (.goto (-52), 3) := by decide +kernel
theorem dX11_quarrel_70 : decode cX11_quarrel 70 = .ok (.iinc 2 1, 3) := by decide +kernel
theorem dX11_quarrel_73 : decode cX11_quarrel 73 = .ok (.goto (-71), 3) := by decide +kernel
theorem dX11_quarrel_76 : decode cX11_quarrel 76 = .ok (.iconst (-1), 1) := by decide +kernel
theorem dX11_quarrel_77 : decode cX11_quarrel 77 = .ok (.ireturn, 1) := by decide +kernel
theorem dX11_fewest_0 : decode cX11_fewest 0 = .ok (.aload_n 0, 1) := by decide +kernel
theorem dX11_fewest_1 : decode cX11_fewest 1 = .ok (.getfield 40, 3) := by decide +kernel
theorem dX11_fewest_4 : decode cX11_fewest 4 = .ok (.invokevirtual 272, 3) := by decide +kernel
theorem dX11_fewest_7 : decode cX11_fewest 7 = .ok (.istore_n 1, 1) := by decide +kernel
theorem dX11_fewest_8 : decode cX11_fewest 8 = .ok (.iconst 0, 1) := by decide +kernel
theorem dX11_fewest_9 : decode cX11_fewest 9 = .ok (.istore_n 2, 1) := by decide +kernel
theorem dX11_fewest_10 : decode cX11_fewest 10 = .ok (.iload_n 2, 1) := by decide +kernel
theorem dX11_fewest_11 : decode cX11_fewest 11 = .ok (.bipush 9, 2) := by decide +kernel
theorem dX11_fewest_13 : decode cX11_fewest 13 = .ok (.if_icmp .ge 63, 3) := by decide +kernel
theorem dX11_fewest_16 : decode cX11_fewest 16 = .ok (.iconst 0, 1) := by decide +kernel
theorem dX11_fewest_17 : decode cX11_fewest 17 = .ok (.istore_n 3, 1) := by decide +kernel
theorem dX11_fewest_18 : decode cX11_fewest 18 = .ok (.iload_n 3, 1) := by decide +kernel
theorem dX11_fewest_19 : decode cX11_fewest 19 = .ok (.iload_n 1, 1) := by decide +kernel
theorem dX11_fewest_20 : decode cX11_fewest 20 = .ok (.if_icmp .gt 50, 3) := by decide +kernel
theorem dX11_fewest_23 : decode cX11_fewest 23 = .ok (.iload_n 3, 1) := by decide +kernel
theorem dX11_fewest_24 : decode cX11_fewest 24 = .ok (.iload_n 1, 1) := by decide +kernel
theorem dX11_fewest_25 : decode cX11_fewest 25 = .ok (.iconst (-1), 1) := by decide +kernel
theorem dX11_fewest_26 : decode cX11_fewest 26 = .ok (.ixor, 1) := by decide +kernel
theorem dX11_fewest_27 : decode cX11_fewest 27 = .ok (.iand, 1) := by decide +kernel
theorem dX11_fewest_28 : decode cX11_fewest 28 = .ok (.ifCond .ne 15, 3) := by decide +kernel
theorem dX11_fewest_31 : decode cX11_fewest 31 = .ok (.iload_n 3, 1) := by decide +kernel
theorem dX11_fewest_32 : decode cX11_fewest 32 = .ok (.invokestatic 261, 3) := by decide +kernel
theorem dX11_fewest_35 : decode cX11_fewest 35 = .ok (.iload_n 2, 1) := by decide +kernel
theorem dX11_fewest_36 : decode cX11_fewest 36 = .ok (.if_icmp .ne 7, 3) := by decide +kernel
theorem dX11_fewest_39 : decode cX11_fewest 39 = .ok (.iconst 1, 1) := by decide +kernel
theorem dX11_fewest_40 : decode cX11_fewest 40 = .ok (.goto 4, 3) := by decide +kernel
theorem dX11_fewest_43 : decode cX11_fewest 43 = .ok (.iconst 0, 1) := by decide +kernel
theorem dX11_fewest_44 : decode cX11_fewest 44 = .ok (.istore 4, 2) := by decide +kernel
theorem dX11_fewest_46 : decode cX11_fewest 46 = .ok (.iload 4, 2) := by decide +kernel
theorem dX11_fewest_48 : decode cX11_fewest 48 = .ok (.ifCond .eq 16, 3) := by decide +kernel
theorem dX11_fewest_51 : decode cX11_fewest 51 = .ok (.aload_n 0, 1) := by decide +kernel
theorem dX11_fewest_52 : decode cX11_fewest 52 = .ok (.getfield 58, 3) := by decide +kernel
theorem dX11_fewest_55 : decode cX11_fewest 55 = .ok (.iload_n 3, 1) := by decide +kernel
theorem dX11_fewest_56 : decode cX11_fewest 56 = .ok (.invokevirtual 275, 3) := by decide +kernel
theorem dX11_fewest_59 : decode cX11_fewest 59 = .ok (.ifCond .eq 5, 3) := by decide +kernel
theorem dX11_fewest_62 : decode cX11_fewest 62 = .ok (.iload_n 3, 1) := by decide +kernel
theorem dX11_fewest_63 : decode cX11_fewest 63 = .ok (.ireturn, 1) := by decide +kernel
theorem dX11_fewest_64 : decode cX11_fewest 64 = .ok (.iinc 3 1, 3) := by decide +kernel
theorem dX11_fewest_67 : decode cX11_fewest 67 = .ok (.goto (-49), 3) := by decide +kernel
theorem dX11_fewest_70 : decode cX11_fewest 70 = .ok (.iinc 2 1, 3) := by decide +kernel
theorem dX11_fewest_73 : decode cX11_fewest 73 = .ok (.goto (-63), 3) := by decide +kernel
theorem dX11_fewest_76 : decode cX11_fewest 76 = .ok (.iload_n 1, 1) := by decide +kernel
theorem dX11_fewest_77 : decode cX11_fewest 77 = .ok (.ireturn, 1) := by decide +kernel
theorem dX11_best_0 : decode cX11_best 0 = .ok (.iload_n 1, 1) := by decide +kernel
theorem dX11_best_1 : decode cX11_best 1 = .ok (.ifCond .lt 8, 3) := by decide +kernel
theorem dX11_best_4 : decode cX11_best 4 = .ok (.iload_n 1, 1) := by decide +kernel
theorem dX11_best_5 : decode cX11_best 5 = .ok (.iconst 1, 1) := by decide +kernel
theorem dX11_best_6 : decode cX11_best 6 = .ok (.if_icmp .le 6, 3) := by decide +kernel
theorem dX11_best_9 : decode cX11_best 9 = .ok (.ldc 100, 2) := by decide +kernel
theorem dX11_best_11 : decode cX11_best 11 = .ok (.ireturn, 1) := by decide +kernel
theorem dX11_best_12 : decode cX11_best 12 = .ok (.iconst (-1), 1) := by decide +kernel
theorem dX11_best_13 : decode cX11_best 13 = .ok (.istore_n 2, 1) := by decide +kernel
theorem dX11_best_14 : decode cX11_best 14 = .ok (.iconst (-1), 1) := by decide +kernel
theorem dX11_best_15 : decode cX11_best 15 = .ok (.istore_n 3, 1) := by decide +kernel
theorem dX11_best_16 : decode cX11_best 16 = .ok (.iconst 0, 1) := by decide +kernel
theorem dX11_best_17 : decode cX11_best 17 = .ok (.istore 4, 2) := by decide +kernel
theorem dX11_best_19 : decode cX11_best 19 = .ok (.iload 4, 2) := by decide +kernel
theorem dX11_best_21 : decode cX11_best 21 = .ok (.aload_n 0, 1) := by decide +kernel
theorem dX11_best_22 : decode cX11_best 22 = .ok (.getfield 19, 3) := by decide +kernel
theorem dX11_best_25 : decode cX11_best 25 = .ok (.invokevirtual 134, 3) := by decide +kernel
theorem dX11_best_28 : decode cX11_best 28 = .ok (.if_icmp .ge 39, 3) := by decide +kernel
theorem dX11_best_31 : decode cX11_best 31 = .ok (.aload_n 0, 1) := by decide +kernel
theorem dX11_best_32 : decode cX11_best 32 = .ok (.getfield 58, 3) := by decide +kernel
theorem dX11_best_35 : decode cX11_best 35 = .ok (.iconst 1, 1) := by decide +kernel
theorem dX11_best_36 : decode cX11_best 36 = .ok (.iload 4, 2) := by decide +kernel
theorem dX11_best_38 : decode cX11_best 38 = .ok (.ishl, 1) := by decide +kernel
theorem dX11_best_39 : decode cX11_best 39 = .ok (.invokevirtual 150, 3) := by decide +kernel
theorem dX11_best_42 : decode cX11_best 42 = .ok (.istore 5, 2) := by decide +kernel
theorem dX11_best_44 : decode cX11_best 44 = .ok (.iload_n 2, 1) := by decide +kernel
theorem dX11_best_45 : decode cX11_best 45 = .ok (.iconst (-1), 1) := by decide +kernel
theorem dX11_best_46 : decode cX11_best 46 = .ok (.if_icmp .eq 9, 3) := by decide +kernel
theorem dX11_best_49 : decode cX11_best 49 = .ok (.iload 5, 2) := by decide +kernel
theorem dX11_best_51 : decode cX11_best 51 = .ok (.iload_n 3, 1) := by decide +kernel
theorem dX11_best_52 : decode cX11_best 52 = .ok (.if_icmp .ge 9, 3) := by decide +kernel
theorem dX11_best_55 : decode cX11_best 55 = .ok (.iload 4, 2) := by decide +kernel
theorem dX11_best_57 : decode cX11_best 57 = .ok (.istore_n 2, 1) := by decide +kernel
theorem dX11_best_58 : decode cX11_best 58 = .ok (.iload 5, 2) := by decide +kernel
theorem dX11_best_60 : decode cX11_best 60 = .ok (.istore_n 3, 1) := by decide +kernel
theorem dX11_best_61 : decode cX11_best 61 = .ok (.iinc 4 1, 3) := by decide +kernel
theorem dX11_best_64 : decode cX11_best 64 = .ok (.goto (-45), 3) := by decide +kernel
theorem dX11_best_67 : decode cX11_best 67 = .ok (.iload_n 1, 1) := by decide +kernel
theorem dX11_best_68 : decode cX11_best 68 = .ok (.ifCond .ne 7, 3) := by decide +kernel
theorem dX11_best_71 : decode cX11_best 71 = .ok (.iload_n 2, 1) := by decide +kernel
theorem dX11_best_72 : decode cX11_best 72 = .ok (.goto 4, 3) := by decide +kernel
theorem dX11_best_75 : decode cX11_best 75 = .ok (.iload_n 3, 1) := by decide +kernel
theorem dX11_best_76 : decode cX11_best 76 = .ok (.ireturn, 1) := by decide +kernel
theorem dX11_odds_0 : decode cX11_odds 0 = .ok (.aload_n 0, 1) := by decide +kernel
theorem dX11_odds_1 : decode cX11_odds 1 = .ok (.getfield 19, 3) := by decide +kernel
theorem dX11_odds_4 : decode cX11_odds 4 = .ok (.iload_n 1, 1) := by decide +kernel
theorem dX11_odds_5 : decode cX11_odds 5 = .ok (.invokevirtual 170, 3) := by decide +kernel
theorem dX11_odds_8 : decode cX11_odds 8 = .ok (.ifCond .eq 14, 3) := by decide +kernel
theorem dX11_odds_11 : decode cX11_odds 11 = .ok (.aload_n 0, 1) := by decide +kernel
theorem dX11_odds_12 : decode cX11_odds 12 = .ok (.getfield 19, 3) := by decide +kernel
theorem dX11_odds_15 : decode cX11_odds 15 = .ok (.iload_n 2, 1) := by decide +kernel
theorem dX11_odds_16 : decode cX11_odds 16 = .ok (.invokevirtual 170, 3) := by decide +kernel
theorem dX11_odds_19 : decode cX11_odds 19 = .ok (.ifCond .ne 6, 3) := by decide +kernel
theorem dX11_odds_22 : decode cX11_odds 22 = .ok (.ldc 160, 2) := by decide +kernel
theorem dX11_odds_24 : decode cX11_odds 24 = .ok (.ireturn, 1) := by decide +kernel
theorem dX11_odds_25 : decode cX11_odds 25 = .ok (.iload_n 3, 1) := by decide +kernel
theorem dX11_odds_26 : decode cX11_odds 26 = .ok (.ifCond .lt 9, 3) := by decide +kernel
theorem dX11_odds_29 : decode cX11_odds 29 = .ok (.iload_n 3, 1) := by decide +kernel
theorem dX11_odds_30 : decode cX11_odds 30 = .ok (.bipush 100, 2) := by decide +kernel
theorem dX11_odds_32 : decode cX11_odds 32 = .ok (.if_icmp .le 6, 3) := by decide +kernel
theorem dX11_odds_35 : decode cX11_odds 35 = .ok (.ldc 100, 2) := by decide +kernel
theorem dX11_odds_37 : decode cX11_odds 37 = .ok (.ireturn, 1) := by decide +kernel
theorem dX11_odds_38 : decode cX11_odds 38 = .ok (.aload_n 0, 1) := by decide +kernel
theorem dX11_odds_39 : decode cX11_odds 39 = .ok (.getfield 65, 3) := by decide +kernel
theorem dX11_odds_42 : decode cX11_odds 42 = .ok (.iload_n 1, 1) := by decide +kernel
theorem dX11_odds_43 : decode cX11_odds 43 = .ok (.iload_n 2, 1) := by decide +kernel
theorem dX11_odds_44 : decode cX11_odds 44 = .ok (.iload_n 3, 1) := by decide +kernel
theorem dX11_odds_45 : decode cX11_odds 45 = .ok (.invokevirtual 278, 3) := by decide +kernel
theorem dX11_odds_48 : decode cX11_odds 48 = .ok (.ireturn, 1) := by decide +kernel
theorem dX11_needed_0 : decode cX11_needed 0 = .ok (.iload_n 1, 1) := by decide +kernel
theorem dX11_needed_1 : decode cX11_needed 1 = .ok (.iconst (-1), 1) := by decide +kernel
theorem dX11_needed_2 : decode cX11_needed 2 = .ok (.if_icmp .eq 17, 3) := by decide +kernel
theorem dX11_needed_5 : decode cX11_needed 5 = .ok (.aload_n 0, 1) := by decide +kernel
theorem dX11_needed_6 : decode cX11_needed 6 = .ok (.getfield 19, 3) := by decide +kernel
theorem dX11_needed_9 : decode cX11_needed 9 = .ok (.iload_n 1, 1) := by decide +kernel
theorem dX11_needed_10 : decode cX11_needed 10 = .ok (.invokevirtual 170, 3) := by decide +kernel
theorem dX11_needed_13 : decode cX11_needed 13 = .ok (.ifCond .ne 6, 3) := by decide +kernel
theorem dX11_needed_16 : decode cX11_needed 16 = .ok (.ldc 160, 2) := by decide +kernel
theorem dX11_needed_18 : decode cX11_needed 18 = .ok (.ireturn, 1) := by decide +kernel
theorem dX11_needed_19 : decode cX11_needed 19 = .ok (.aload_n 0, 1) := by decide +kernel
theorem dX11_needed_20 : decode cX11_needed 20 = .ok (.getfield 58, 3) := by decide +kernel
theorem dX11_needed_23 : decode cX11_needed 23 = .ok (.invokevirtual 281, 3) := by decide +kernel
theorem dX11_needed_26 : decode cX11_needed 26 = .ok (.iload_n 1, 1) := by decide +kernel
theorem dX11_needed_27 : decode cX11_needed 27 = .ok (.iconst (-1), 1) := by decide +kernel
theorem dX11_needed_28 : decode cX11_needed 28 = .ok (.if_icmp .eq 12, 3) := by decide +kernel
theorem dX11_needed_31 : decode cX11_needed 31 = .ok (.aload_n 0, 1) := by decide +kernel
theorem dX11_needed_32 : decode cX11_needed 32 = .ok (.getfield 58, 3) := by decide +kernel
theorem dX11_needed_35 : decode cX11_needed 35 = .ok (.iload_n 1, 1) := by decide +kernel
theorem dX11_needed_36 : decode cX11_needed 36 = .ok (.invokevirtual 284, 3) := by decide +kernel
theorem dX11_needed_39 : decode cX11_needed 39 = .ok (.ireturn, 1) := by decide +kernel
theorem dX11_needed_40 : decode cX11_needed 40 = .ok (.iconst 0, 1) := by decide +kernel
theorem dX11_needed_41 : decode cX11_needed 41 = .ok (.istore_n 2, 1) := by decide +kernel
theorem dX11_needed_42 : decode cX11_needed 42 = .ok (.iconst 0, 1) := by decide +kernel
theorem dX11_needed_43 : decode cX11_needed 43 = .ok (.istore_n 3, 1) := by decide +kernel
theorem dX11_needed_44 : decode cX11_needed 44 = .ok (.iload_n 3, 1) := by decide +kernel
theorem dX11_needed_45 : decode cX11_needed 45 = .ok (.aload_n 0, 1) := by decide +kernel
theorem dX11_needed_46 : decode cX11_needed 46 = .ok (.getfield 19, 3) := by decide +kernel
theorem dX11_needed_49 : decode cX11_needed 49 = .ok (.invokevirtual 134, 3) := by decide +kernel
theorem dX11_needed_52 : decode cX11_needed 52 = .ok (.if_icmp .ge 23, 3) := by decide +kernel
theorem dX11_needed_55 : decode cX11_needed 55 = .ok (.iload_n 2, 1) := by decide +kernel
theorem dX11_needed_56 : decode cX11_needed 56 = .ok (.aload_n 0, 1) := by decide +kernel
theorem dX11_needed_57 : decode cX11_needed 57 = .ok (.getfield 58, 3) := by decide +kernel
theorem dX11_needed_60 : decode cX11_needed 60 = .ok (.iload_n 3, 1) := by decide +kernel
theorem dX11_needed_61 : decode cX11_needed 61 = .ok (.invokevirtual 284, 3) := by decide +kernel
theorem dX11_needed_64 : decode cX11_needed 64 = .ok (.invokestatic 261, 3) := by decide +kernel
theorem dX11_needed_67 : decode cX11_needed 67 = .ok (.iadd, 1) := by decide +kernel
theorem dX11_needed_68 : decode cX11_needed 68 = .ok (.istore_n 2, 1) := by decide +kernel
theorem dX11_needed_69 : decode cX11_needed 69 = .ok (.iinc 3 1, 3) := by decide +kernel
theorem dX11_needed_72 : decode cX11_needed 72 = .ok (.goto (-28), 3) := by decide +kernel
theorem dX11_needed_75 : decode cX11_needed 75 = .ok (.iload_n 2, 1) := by decide +kernel
theorem dX11_needed_76 : decode cX11_needed 76 = .ok (.ireturn, 1) := by decide +kernel
theorem dX11_write_0 : decode cX11_write 0 = .ok (.aload_n 0, 1) := by decide +kernel
theorem dX11_write_1 : decode cX11_write 1 = .ok (.getfield 19, 3) := by decide +kernel
theorem dX11_write_4 : decode cX11_write 4 = .ok (.iload_n 1, 1) := by decide +kernel
theorem dX11_write_5 : decode cX11_write 5 = .ok (.invokevirtual 170, 3) := by decide +kernel
theorem dX11_write_8 : decode cX11_write 8 = .ok (.ifCond .eq 14, 3) := by decide +kernel
theorem dX11_write_11 : decode cX11_write 11 = .ok (.aload_n 0, 1) := by decide +kernel
theorem dX11_write_12 : decode cX11_write 12 = .ok (.getfield 19, 3) := by decide +kernel
theorem dX11_write_15 : decode cX11_write 15 = .ok (.iload_n 2, 1) := by decide +kernel
theorem dX11_write_16 : decode cX11_write 16 = .ok (.invokevirtual 170, 3) := by decide +kernel
theorem dX11_write_19 : decode cX11_write 19 = .ok (.ifCond .ne 6, 3) := by decide +kernel
theorem dX11_write_22 : decode cX11_write 22 = .ok (.ldc 160, 2) := by decide +kernel
theorem dX11_write_24 : decode cX11_write 24 = .ok (.ireturn, 1) := by decide +kernel
theorem dX11_write_25 : decode cX11_write 25 = .ok (.iload_n 3, 1) := by decide +kernel
theorem dX11_write_26 : decode cX11_write 26 = .ok (.iconst 1, 1) := by decide +kernel
theorem dX11_write_27 : decode cX11_write 27 = .ok (.if_icmp .lt 21, 3) := by decide +kernel
theorem dX11_write_30 : decode cX11_write 30 = .ok (.iload_n 3, 1) := by decide +kernel
theorem dX11_write_31 : decode cX11_write 31 = .ok (.iconst 3, 1) := by decide +kernel
theorem dX11_write_32 : decode cX11_write 32 = .ok (.if_icmp .gt 16, 3) := by decide +kernel
theorem dX11_write_35 : decode cX11_write 35 = .ok (.iload 4, 2) := by decide +kernel
theorem dX11_write_37 : decode cX11_write 37 = .ok (.ifCond .lt 11, 3) := by decide +kernel
theorem dX11_write_40 : decode cX11_write 40 = .ok (.iload 4, 2) := by decide +kernel
theorem dX11_write_42 : decode cX11_write 42 = .ok (.sipush 9999, 3) := by decide +kernel
theorem dX11_write_45 : decode cX11_write 45 = .ok (.if_icmp .le 6, 3) := by decide +kernel
theorem dX11_write_48 : decode cX11_write 48 = .ok (.ldc 100, 2) := by decide +kernel
theorem dX11_write_50 : decode cX11_write 50 = .ok (.ireturn, 1) := by decide +kernel
theorem dX11_write_51 : decode cX11_write 51 = .ok (.aload_n 0, 1) := by decide +kernel
theorem dX11_write_52 : decode cX11_write 52 = .ok (.getfield 79, 3) := by decide +kernel
theorem dX11_write_55 : decode cX11_write 55 = .ok (.invokevirtual 287, 3) := by decide +kernel
theorem dX11_write_58 : decode cX11_write 58 = .ok (.ifCond .eq 6, 3) := by decide +kernel
theorem dX11_write_61 : decode cX11_write 61 = .ok (.ldc 105, 2) := by decide +kernel
theorem dX11_write_63 : decode cX11_write 63 = .ok (.ireturn, 1) := by decide +kernel
theorem dX11_write_64 : decode cX11_write 64 = .ok (.aload_n 0, 1) := by decide +kernel
theorem dX11_write_65 : decode cX11_write 65 = .ok (.getfield 79, 3) := by decide +kernel
theorem dX11_write_68 : decode cX11_write 68 = .ok (.iload_n 1, 1) := by decide +kernel
theorem dX11_write_69 : decode cX11_write 69 = .ok (.iload_n 2, 1) := by decide +kernel
theorem dX11_write_70 : decode cX11_write 70 = .ok (.iload_n 3, 1) := by decide +kernel
theorem dX11_write_71 : decode cX11_write 71 = .ok (.iload 4, 2) := by decide +kernel
theorem dX11_write_73 : decode cX11_write 73 = .ok (.invokevirtual 288, 3) := by decide +kernel
theorem dX11_write_76 : decode cX11_write 76 = .ok (.aload_n 0, 1) := by decide +kernel
theorem dX11_write_77 : decode cX11_write 77 = .ok (.getfield 79, 3) := by decide +kernel
theorem dX11_write_80 : decode cX11_write 80 = .ok (.invokevirtual 149, 3) := by decide +kernel
theorem dX11_write_83 : decode cX11_write 83 = .ok (.ireturn, 1) := by decide +kernel
theorem dX11_tear_0 : decode cX11_tear 0 = .ok (.aload_n 0, 1) := by decide +kernel
theorem dX11_tear_1 : decode cX11_tear 1 = .ok (.getfield 79, 3) := by decide +kernel
theorem dX11_tear_4 : decode cX11_tear 4 = .ok (.invokevirtual 149, 3) := by decide +kernel
theorem dX11_tear_7 : decode cX11_tear 7 = .ok (.istore_n 1, 1) := by decide +kernel
theorem dX11_tear_8 : decode cX11_tear 8 = .ok (.aload_n 0, 1) := by decide +kernel
theorem dX11_tear_9 : decode cX11_tear 9 = .ok (.getfield 79, 3) := by decide +kernel
theorem dX11_tear_12 : decode cX11_tear 12 = .ok (.invokevirtual 130, 3) := by decide +kernel
theorem dX11_tear_15 : decode cX11_tear 15 = .ok (.iload_n 1, 1) := by decide +kernel
theorem dX11_tear_16 : decode cX11_tear 16 = .ok (.ireturn, 1) := by decide +kernel
theorem dX11_judge_0 : decode cX11_judge 0 = .ok (.aload_n 0, 1) := by decide +kernel
theorem dX11_judge_1 : decode cX11_judge 1 = .ok (.getfield 79, 3) := by decide +kernel
theorem dX11_judge_4 : decode cX11_judge 4 = .ok (.aload_n 0, 1) := by decide +kernel
theorem dX11_judge_5 : decode cX11_judge 5 = .ok (.getfield 49, 3) := by decide +kernel
theorem dX11_judge_8 : decode cX11_judge 8 = .ok (.invokevirtual 291, 3) := by decide +kernel
theorem dX11_judge_11 : decode cX11_judge 11 = .ok (.ireturn, 1) := by decide +kernel
theorem dX11_drift_0 : decode cX11_drift 0 = .ok (.iload_n 1, 1) := by decide +kernel
theorem dX11_drift_1 : decode cX11_drift 1 = .ok (.iconst 1, 1) := by decide +kernel
theorem dX11_drift_2 : decode cX11_drift 2 = .ok (.if_icmp .lt 19, 3) := by decide +kernel
theorem dX11_drift_5 : decode cX11_drift 5 = .ok (.iload_n 1, 1) := by decide +kernel
theorem dX11_drift_6 : decode cX11_drift 6 = .ok (.bipush 99, 2) := by decide +kernel
theorem dX11_drift_8 : decode cX11_drift 8 = .ok (.if_icmp .gt 13, 3) := by decide +kernel
theorem dX11_drift_11 : decode cX11_drift 11 = .ok (.iload_n 2, 1) := by decide +kernel
theorem dX11_drift_12 : decode cX11_drift 12 = .ok (.ifCond .lt 9, 3) := by decide +kernel
theorem dX11_drift_15 : decode cX11_drift 15 = .ok (.iload_n 2, 1) := by decide +kernel
theorem dX11_drift_16 : decode cX11_drift 16 = .ok (.bipush 100, 2) := by decide +kernel
theorem dX11_drift_18 : decode cX11_drift 18 = .ok (.if_icmp .le 6, 3) := by decide +kernel
theorem dX11_drift_21 : decode cX11_drift 21 = .ok (.ldc 100, 2) := by decide +kernel
theorem dX11_drift_23 : decode cX11_drift 23 = .ok (.ireturn, 1) := by decide +kernel
theorem dX11_drift_24 : decode cX11_drift 24 = .ok (.iconst 0, 1) := by decide +kernel
theorem dX11_drift_25 : decode cX11_drift 25 = .ok (.istore_n 3, 1) := by decide +kernel
theorem dX11_drift_26 : decode cX11_drift 26 = .ok (.iload_n 3, 1) := by decide +kernel
theorem dX11_drift_27 : decode cX11_drift 27 = .ok (.iload_n 1, 1) := by decide +kernel
theorem dX11_drift_28 : decode cX11_drift 28 = .ok (.if_icmp .ge 14, 3) := by decide +kernel
theorem dX11_drift_31 : decode cX11_drift 31 = .ok (.aload_n 0, 1) := by decide +kernel
theorem dX11_drift_32 : decode cX11_drift 32 = .ok (.iload_n 2, 1) := by decide +kernel
theorem dX11_drift_33 : decode cX11_drift 33 = .ok (.invokevirtual 295, 3) := by decide +kernel
theorem dX11_drift_36 : decode cX11_drift 36 = .ok (.iinc 3 1, 3) := by decide +kernel
theorem dX11_drift_39 : decode cX11_drift 39 = .ok (.goto (-13), 3) := by decide +kernel
theorem dX11_drift_42 : decode cX11_drift 42 = .ok (.aload_n 0, 1) := by decide +kernel
theorem dX11_drift_43 : decode cX11_drift 43 = .ok (.getfield 58, 3) := by decide +kernel
theorem dX11_drift_46 : decode cX11_drift 46 = .ok (.iconst 0, 1) := by decide +kernel
theorem dX11_drift_47 : decode cX11_drift 47 = .ok (.invokevirtual 150, 3) := by decide +kernel
theorem dX11_drift_50 : decode cX11_drift 50 = .ok (.ireturn, 1) := by decide +kernel
theorem dX11_driftOneNight_0 : decode cX11_driftOneNight 0 = .ok (.iconst 0, 1) := by decide +kernel
theorem dX11_driftOneNight_1 : decode cX11_driftOneNight 1 = .ok (.istore_n 2, 1) := by decide +kernel
theorem dX11_driftOneNight_2 : decode cX11_driftOneNight 2 = .ok (.iload_n 2, 1) := by decide +kernel
theorem dX11_driftOneNight_3 : decode cX11_driftOneNight 3 = .ok (.aload_n 0, 1) := by decide +kernel
theorem dX11_driftOneNight_4 : decode cX11_driftOneNight 4 = .ok (.getfield 19, 3) := by decide +kernel
theorem dX11_driftOneNight_7 : decode cX11_driftOneNight 7 = .ok (.invokevirtual 134, 3) := by decide +kernel
theorem dX11_driftOneNight_10 : decode cX11_driftOneNight 10 = .ok (.if_icmp .ge 66, 3) := by decide +kernel
theorem dX11_driftOneNight_13 : decode cX11_driftOneNight 13 = .ok (.aload_n 0, 1) := by decide +kernel
theorem dX11_driftOneNight_14 : decode cX11_driftOneNight 14 = .ok (.getfield 86, 3) := by decide +kernel
theorem dX11_driftOneNight_17 : decode cX11_driftOneNight 17 = .ok (.bipush 100, 2) := by decide +kernel
theorem dX11_driftOneNight_19 : decode cX11_driftOneNight 19 = .ok (.invokevirtual 298, 3) := by decide +kernel
theorem dX11_driftOneNight_22 : decode cX11_driftOneNight 22 = .ok (.iload_n 1, 1) := by decide +kernel
theorem dX11_driftOneNight_23 : decode cX11_driftOneNight 23 = .ok (.if_icmp .ge 7, 3) := by decide +kernel
theorem dX11_driftOneNight_26 : decode cX11_driftOneNight 26 = .ok (.iconst 1, 1) := by decide +kernel
theorem dX11_driftOneNight_27 : decode cX11_driftOneNight 27 = .ok (.goto 4, 3) := by decide +kernel
theorem dX11_driftOneNight_30 : decode cX11_driftOneNight 30 = .ok (.iconst 0, 1) := by decide +kernel
theorem dX11_driftOneNight_31 : decode cX11_driftOneNight 31 = .ok (.istore_n 3, 1) := by decide +kernel
theorem dX11_driftOneNight_32 : decode cX11_driftOneNight 32 = .ok (.iload_n 3, 1) := by decide +kernel
theorem dX11_driftOneNight_33 : decode cX11_driftOneNight 33 = .ok (.ifCond .eq 37, 3) := by decide +kernel
theorem dX11_driftOneNight_36 : decode cX11_driftOneNight 36 = .ok (.aload_n 0, 1) := by decide +kernel
theorem dX11_driftOneNight_37 : decode cX11_driftOneNight 37 = .ok (.getfield 19, 3) := by decide +kernel
theorem dX11_driftOneNight_40 : decode cX11_driftOneNight 40 = .ok (.iload_n 2, 1) := by decide +kernel
theorem dX11_driftOneNight_41 : decode cX11_driftOneNight 41 = .ok (.invokevirtual 177, 3) := by decide +kernel
theorem dX11_driftOneNight_44 : decode cX11_driftOneNight 44 = .ok (.ifCond .le 26, 3) := by decide +kernel
theorem dX11_driftOneNight_47 : decode cX11_driftOneNight 47 = .ok (.aload_n 0, 1) := by decide +kernel
theorem dX11_driftOneNight_48 : decode cX11_driftOneNight 48 = .ok (.getfield 40, 3) := by decide +kernel
theorem dX11_driftOneNight_51 : decode cX11_driftOneNight 51 = .ok (.iload_n 2, 1) := by decide +kernel
theorem dX11_driftOneNight_52 : decode cX11_driftOneNight 52 = .ok (.aload_n 0, 1) := by decide +kernel
theorem dX11_driftOneNight_53 : decode cX11_driftOneNight 53 = .ok (.getfield 86, 3) := by decide +kernel
theorem dX11_driftOneNight_56 : decode cX11_driftOneNight 56 = .ok (.aload_n 0, 1) := by decide +kernel
theorem dX11_driftOneNight_57 : decode cX11_driftOneNight 57 = .ok (.getfield 19, 3) := by decide +kernel
theorem dX11_driftOneNight_60 : decode cX11_driftOneNight 60 = .ok (.iload_n 2, 1) := by decide +kernel
theorem dX11_driftOneNight_61 : decode cX11_driftOneNight 61 = .ok (.invokevirtual 177, 3) := by decide +kernel
theorem dX11_driftOneNight_64 : decode cX11_driftOneNight 64 = .ok (.invokevirtual 298, 3) := by decide +kernel
theorem dX11_driftOneNight_67 : decode cX11_driftOneNight 67 = .ok (.invokevirtual 204, 3) := by decide +kernel
theorem dX11_driftOneNight_70 : decode cX11_driftOneNight 70 = .ok (.iinc 2 1, 3) := by decide +kernel
theorem dX11_driftOneNight_73 : decode cX11_driftOneNight 73 = .ok (.goto (-71), 3) := by decide +kernel
theorem dX11_driftOneNight_76 : decode cX11_driftOneNight 76 = .ok (.return_, 1) := by decide +kernel
theorem dX11_seed_0 : decode cX11_seed 0 = .ok (.iload_n 1, 1) := by decide +kernel
theorem dX11_seed_1 : decode cX11_seed 1 = .ok (.ifCond .ge 6, 3) := by decide +kernel
theorem dX11_seed_4 : decode cX11_seed 4 = .ok (.ldc 100, 2) := by decide +kernel
theorem dX11_seed_6 : decode cX11_seed 6 = .ok (.ireturn, 1) := by decide +kernel
theorem dX11_seed_7 : decode cX11_seed 7 = .ok (.aload_n 0, 1) := by decide +kernel
theorem dX11_seed_8 : decode cX11_seed 8 = .ok (.getfield 86, 3) := by decide +kernel
theorem dX11_seed_11 : decode cX11_seed 11 = .ok (.invokevirtual 301, 3) := by decide +kernel
theorem dX11_seed_14 : decode cX11_seed 14 = .ok (.istore_n 2, 1) := by decide +kernel
theorem dX11_seed_15 : decode cX11_seed 15 = .ok (.aload_n 0, 1) := by decide +kernel
theorem dX11_seed_16 : decode cX11_seed 16 = .ok (.getfield 86, 3) := by decide +kernel
theorem dX11_seed_19 : decode cX11_seed 19 = .ok (.iload_n 1, 1) := by decide +kernel
theorem dX11_seed_20 : decode cX11_seed 20 = .ok (.invokevirtual 304, 3) := by decide +kernel
theorem dX11_seed_23 : decode cX11_seed 23 = .ok (.iload_n 2, 1) := by decide +kernel
theorem dX11_seed_24 : decode cX11_seed 24 = .ok (.ireturn, 1) := by decide +kernel
theorem dX11_keep_0 : decode cX11_keep 0 = .ok (.iload_n 1, 1) := by decide +kernel
theorem dX11_keep_1 : decode cX11_keep 1 = .ok (.ifCond .lt 8, 3) := by decide +kernel
theorem dX11_keep_4 : decode cX11_keep 4 = .ok (.iload_n 1, 1) := by decide +kernel
theorem dX11_keep_5 : decode cX11_keep 5 = .ok (.iconst 1, 1) := by decide +kernel
theorem dX11_keep_6 : decode cX11_keep 6 = .ok (.if_icmp .le 6, 3) := by decide +kernel
theorem dX11_keep_9 : decode cX11_keep 9 = .ok (.ldc 160, 2) := by decide +kernel
theorem dX11_keep_11 : decode cX11_keep 11 = .ok (.ireturn, 1) := by decide +kernel
theorem dX11_keep_12 : decode cX11_keep 12 = .ok (.aload_n 0, 1) := by decide +kernel
theorem dX11_keep_13 : decode cX11_keep 13 = .ok (.iload_n 1, 1) := by decide +kernel
theorem dX11_keep_14 : decode cX11_keep 14 = .ok (.invokevirtual 307, 3) := by decide +kernel
theorem dX11_keep_17 : decode cX11_keep 17 = .ok (.aload_n 0, 1) := by decide +kernel
theorem dX11_keep_18 : decode cX11_keep 18 = .ok (.getfield 40, 3) := by decide +kernel
theorem dX11_keep_21 : decode cX11_keep 21 = .ok (.aload_n 0, 1) := by decide +kernel
theorem dX11_keep_22 : decode cX11_keep 22 = .ok (.getfield 86, 3) := by decide +kernel
theorem dX11_keep_25 : decode cX11_keep 25 = .ok (.invokevirtual 311, 3) := by decide +kernel
theorem dX11_keep_28 : decode cX11_keep 28 = .ok (.iconst 1, 1) := by decide +kernel
theorem dX11_keep_29 : decode cX11_keep 29 = .ok (.ireturn, 1) := by decide +kernel
theorem dX11_goBack_0 : decode cX11_goBack 0 = .ok (.iload_n 1, 1) := by decide +kernel
theorem dX11_goBack_1 : decode cX11_goBack 1 = .ok (.ifCond .lt 8, 3) := by decide +kernel
theorem dX11_goBack_4 : decode cX11_goBack 4 = .ok (.iload_n 1, 1) := by decide +kernel
theorem dX11_goBack_5 : decode cX11_goBack 5 = .ok (.iconst 1, 1) := by decide +kernel
theorem dX11_goBack_6 : decode cX11_goBack 6 = .ok (.if_icmp .le 6, 3) := by decide +kernel
theorem dX11_goBack_9 : decode cX11_goBack 9 = .ok (.ldc 160, 2) := by decide +kernel
theorem dX11_goBack_11 : decode cX11_goBack 11 = .ok (.ireturn, 1) := by decide +kernel
theorem dX11_goBack_12 : decode cX11_goBack 12 = .ok (.aload_n 0, 1) := by decide +kernel
theorem dX11_goBack_13 : decode cX11_goBack 13 = .ok (.iload_n 1, 1) := by decide +kernel
theorem dX11_goBack_14 : decode cX11_goBack 14 = .ok (.invokevirtual 307, 3) := by decide +kernel
theorem dX11_goBack_17 : decode cX11_goBack 17 = .ok (.astore_n 2, 1) := by decide +kernel
theorem dX11_goBack_18 : decode cX11_goBack 18 = .ok (.aload_n 2, 1) := by decide +kernel
theorem dX11_goBack_19 : decode cX11_goBack 19 = .ok (.invokevirtual 315, 3) := by decide +kernel
theorem dX11_goBack_22 : decode cX11_goBack 22 = .ok (.ifCond .ne 6, 3) := by decide +kernel
theorem dX11_goBack_25 : decode cX11_goBack 25 = .ok (.ldc 203, 2) := by decide +kernel
theorem dX11_goBack_27 : decode cX11_goBack 27 = .ok (.ireturn, 1) := by decide +kernel
theorem dX11_goBack_28 : decode cX11_goBack 28 = .ok (.aload_n 2, 1) := by decide +kernel
theorem dX11_goBack_29 : decode cX11_goBack 29 = .ok (.aload_n 0, 1) := by decide +kernel
theorem dX11_goBack_30 : decode cX11_goBack 30 = .ok (.getfield 40, 3) := by decide +kernel
theorem dX11_goBack_33 : decode cX11_goBack 33 = .ok (.aload_n 0, 1) := by decide +kernel
theorem dX11_goBack_34 : decode cX11_goBack 34 = .ok (.getfield 86, 3) := by decide +kernel
theorem dX11_goBack_37 : decode cX11_goBack 37 = .ok (.invokevirtual 318, 3) := by decide +kernel
theorem dX11_goBack_40 : decode cX11_goBack 40 = .ok (.iconst 1, 1) := by decide +kernel
theorem dX11_goBack_41 : decode cX11_goBack 41 = .ok (.ireturn, 1) := by decide +kernel
theorem dX11_imageOf_0 : decode cX11_imageOf 0 = .ok (.iload_n 1, 1) := by decide +kernel
theorem dX11_imageOf_1 : decode cX11_imageOf 1 = .ok (.ifCond .ne 10, 3) := by decide +kernel
theorem dX11_imageOf_4 : decode cX11_imageOf 4 = .ok (.aload_n 0, 1) := by decide +kernel
theorem dX11_imageOf_5 : decode cX11_imageOf 5 = .ok (.getfield 93, 3) := by decide +kernel
theorem dX11_imageOf_8 : decode cX11_imageOf 8 = .ok (.goto 7, 3) := by decide +kernel
theorem dX11_imageOf_11 : decode cX11_imageOf 11 = .ok (.aload_n 0, 1) := by decide +kernel
theorem dX11_imageOf_12 : decode cX11_imageOf 12 = .ok (.getfield 97, 3) := by decide +kernel
theorem dX11_imageOf_15 : decode cX11_imageOf 15 = .ok (.areturn, 1) := by decide +kernel
theorem dX11_isIn_0 : decode cX11_isIn 0 = .ok (.iload_n 1, 1) := by decide +kernel
theorem dX11_isIn_1 : decode cX11_isIn 1 = .ok (.ifCond .lt 21, 3) := by decide +kernel
theorem dX11_isIn_4 : decode cX11_isIn 4 = .ok (.iload_n 1, 1) := by decide +kernel
theorem dX11_isIn_5 : decode cX11_isIn 5 = .ok (.bipush 31, 2) := by decide +kernel
theorem dX11_isIn_7 : decode cX11_isIn 7 = .ok (.if_icmp .ge 15, 3) := by decide +kernel
theorem dX11_isIn_10 : decode cX11_isIn 10 = .ok (.iload_n 0, 1) := by decide +kernel
theorem dX11_isIn_11 : decode cX11_isIn 11 = .ok (.iload_n 1, 1) := by decide +kernel
theorem dX11_isIn_12 : decode cX11_isIn 12 = .ok (.ishr, 1) := by decide +kernel
theorem dX11_isIn_13 : decode cX11_isIn 13 = .ok (.iconst 1, 1) := by decide +kernel
theorem dX11_isIn_14 : decode cX11_isIn 14 = .ok (.iand, 1) := by decide +kernel
theorem dX11_isIn_15 : decode cX11_isIn 15 = .ok (.ifCond .eq 7, 3) := by decide +kernel
theorem dX11_isIn_18 : decode cX11_isIn 18 = .ok (.iconst 1, 1) := by decide +kernel
theorem dX11_isIn_19 : decode cX11_isIn 19 = .ok (.goto 4, 3) := by decide +kernel
theorem dX11_isIn_22 : decode cX11_isIn 22 = .ok (.iconst 0, 1) := by decide +kernel
theorem dX11_isIn_23 : decode cX11_isIn 23 = .ok (.ireturn, 1) := by decide +kernel
theorem dJ6_bitCount_0f7a4_0 : decode cJ6_bitCount_0f7a4 0 = .ok (.iload_n 0, 1) := by decide +kernel
theorem dJ6_bitCount_0f7a4_1 : decode cJ6_bitCount_0f7a4 1 = .ok (.iload_n 0, 1) := by decide +kernel
theorem dJ6_bitCount_0f7a4_2 : decode cJ6_bitCount_0f7a4 2 = .ok (.iconst 1, 1) := by decide +kernel
theorem dJ6_bitCount_0f7a4_3 : decode cJ6_bitCount_0f7a4 3 = .ok (.iushr, 1) := by decide +kernel
theorem dJ6_bitCount_0f7a4_4 : decode cJ6_bitCount_0f7a4 4 = .ok (.ldc_w 265, 3) := by decide +kernel
theorem dJ6_bitCount_0f7a4_7 : decode cJ6_bitCount_0f7a4 7 = .ok (.iand, 1) := by decide +kernel
theorem dJ6_bitCount_0f7a4_8 : decode cJ6_bitCount_0f7a4 8 = .ok (.isub, 1) := by decide +kernel
theorem dJ6_bitCount_0f7a4_9 : decode cJ6_bitCount_0f7a4 9 = .ok (.istore_n 0, 1) := by decide +kernel
theorem dJ6_bitCount_0f7a4_10 : decode cJ6_bitCount_0f7a4 10 = .ok (.iload_n 0, 1) := by decide +kernel
theorem dJ6_bitCount_0f7a4_11 : decode cJ6_bitCount_0f7a4 11 = .ok (.ldc_w 266, 3) := by decide +kernel
theorem dJ6_bitCount_0f7a4_14 : decode cJ6_bitCount_0f7a4 14 = .ok (.iand, 1) := by decide +kernel
theorem dJ6_bitCount_0f7a4_15 : decode cJ6_bitCount_0f7a4 15 = .ok (.iload_n 0, 1) := by decide +kernel
theorem dJ6_bitCount_0f7a4_16 : decode cJ6_bitCount_0f7a4 16 = .ok (.iconst 2, 1) := by decide +kernel
theorem dJ6_bitCount_0f7a4_17 : decode cJ6_bitCount_0f7a4 17 = .ok (.iushr, 1) := by decide +kernel
theorem dJ6_bitCount_0f7a4_18 : decode cJ6_bitCount_0f7a4 18 = .ok (.ldc_w 266, 3) := by decide +kernel
theorem dJ6_bitCount_0f7a4_21 : decode cJ6_bitCount_0f7a4 21 = .ok (.iand, 1) := by decide +kernel
theorem dJ6_bitCount_0f7a4_22 : decode cJ6_bitCount_0f7a4 22 = .ok (.iadd, 1) := by decide +kernel
theorem dJ6_bitCount_0f7a4_23 : decode cJ6_bitCount_0f7a4 23 = .ok (.istore_n 0, 1) := by decide +kernel
theorem dJ6_bitCount_0f7a4_24 : decode cJ6_bitCount_0f7a4 24 = .ok (.iload_n 0, 1) := by decide +kernel
theorem dJ6_bitCount_0f7a4_25 : decode cJ6_bitCount_0f7a4 25 = .ok (.iload_n 0, 1) := by decide +kernel
theorem dJ6_bitCount_0f7a4_26 : decode cJ6_bitCount_0f7a4 26 = .ok (.iconst 4, 1) := by decide +kernel
theorem dJ6_bitCount_0f7a4_27 : decode cJ6_bitCount_0f7a4 27 = .ok (.iushr, 1) := by decide +kernel
theorem dJ6_bitCount_0f7a4_28 : decode cJ6_bitCount_0f7a4 28 = .ok (.iadd, 1) := by decide +kernel
theorem dJ6_bitCount_0f7a4_29 : decode cJ6_bitCount_0f7a4 29 = .ok (.ldc_w 267, 3) := by decide +kernel
theorem dJ6_bitCount_0f7a4_32 : decode cJ6_bitCount_0f7a4 32 = .ok (.iand, 1) := by decide +kernel
theorem dJ6_bitCount_0f7a4_33 : decode cJ6_bitCount_0f7a4 33 = .ok (.istore_n 0, 1) := by decide +kernel
theorem dJ6_bitCount_0f7a4_34 : decode cJ6_bitCount_0f7a4 34 = .ok (.iload_n 0, 1) := by decide +kernel
theorem dJ6_bitCount_0f7a4_35 : decode cJ6_bitCount_0f7a4 35 = .ok (.iload_n 0, 1) := by decide +kernel
theorem dJ6_bitCount_0f7a4_36 : decode cJ6_bitCount_0f7a4 36 = .ok (.bipush 8, 2) := by decide +kernel
theorem dJ6_bitCount_0f7a4_38 : decode cJ6_bitCount_0f7a4 38 = .ok (.iushr, 1) := by decide +kernel
theorem dJ6_bitCount_0f7a4_39 : decode cJ6_bitCount_0f7a4 39 = .ok (.iadd, 1) := by decide +kernel
theorem dJ6_bitCount_0f7a4_40 : decode cJ6_bitCount_0f7a4 40 = .ok (.istore_n 0, 1) := by decide +kernel
theorem dJ6_bitCount_0f7a4_41 : decode cJ6_bitCount_0f7a4 41 = .ok (.iload_n 0, 1) := by decide +kernel
theorem dJ6_bitCount_0f7a4_42 : decode cJ6_bitCount_0f7a4 42 = .ok (.iload_n 0, 1) := by decide +kernel
theorem dJ6_bitCount_0f7a4_43 : decode cJ6_bitCount_0f7a4 43 = .ok (.bipush 16, 2) := by decide +kernel
theorem dJ6_bitCount_0f7a4_45 : decode cJ6_bitCount_0f7a4 45 = .ok (.iushr, 1) := by decide +kernel
theorem dJ6_bitCount_0f7a4_46 : decode cJ6_bitCount_0f7a4 46 = .ok (.iadd, 1) := by decide +kernel
theorem dJ6_bitCount_0f7a4_47 : decode cJ6_bitCount_0f7a4 47 = .ok (.istore_n 0, 1) := by decide +kernel
theorem dJ6_bitCount_0f7a4_48 : decode cJ6_bitCount_0f7a4 48 = .ok (.iload_n 0, 1) := by decide +kernel
theorem dJ6_bitCount_0f7a4_49 : decode cJ6_bitCount_0f7a4 49 = .ok (.bipush 63, 2) := by decide +kernel
theorem dJ6_bitCount_0f7a4_51 : decode cJ6_bitCount_0f7a4 51 = .ok (.iand, 1) := by decide +kernel
theorem dJ6_bitCount_0f7a4_52 : decode cJ6_bitCount_0f7a4 52 = .ok (.ireturn, 1) := by decide +kernel
theorem dJ9_floorMod_7cf53_0 : decode cJ9_floorMod_7cf53 0 = .ok (.iload_n 0, 1) := by decide +kernel
theorem dJ9_floorMod_7cf53_1 : decode cJ9_floorMod_7cf53 1 = .ok (.iload_n 1, 1) := by decide +kernel
theorem dJ9_floorMod_7cf53_2 : decode cJ9_floorMod_7cf53 2 = .ok (.irem, 1) := by decide +kernel
theorem dJ9_floorMod_7cf53_3 : decode cJ9_floorMod_7cf53 3 = .ok (.istore_n 2, 1) := by decide +kernel
theorem dJ9_floorMod_7cf53_4 : decode cJ9_floorMod_7cf53 4 = .ok (.iload_n 0, 1) := by decide +kernel
theorem dJ9_floorMod_7cf53_5 : decode cJ9_floorMod_7cf53 5 = .ok (.iload_n 1, 1) := by decide +kernel
theorem dJ9_floorMod_7cf53_6 : decode cJ9_floorMod_7cf53 6 = .ok (.ixor, 1) := by decide +kernel
theorem dJ9_floorMod_7cf53_7 : decode cJ9_floorMod_7cf53 7 = .ok (.ifCond .ge 11, 3) := by decide +kernel
theorem dJ9_floorMod_7cf53_10 : decode cJ9_floorMod_7cf53 10 = .ok (.iload_n 2, 1) := by decide +kernel
theorem dJ9_floorMod_7cf53_11 : decode cJ9_floorMod_7cf53 11 = .ok (.ifCond .eq 7, 3) := by decide +kernel
theorem dJ9_floorMod_7cf53_14 : decode cJ9_floorMod_7cf53 14 = .ok (.iload_n 2, 1) := by decide +kernel
theorem dJ9_floorMod_7cf53_15 : decode cJ9_floorMod_7cf53 15 = .ok (.iload_n 1, 1) := by decide +kernel
theorem dJ9_floorMod_7cf53_16 : decode cJ9_floorMod_7cf53 16 = .ok (.iadd, 1) := by decide +kernel
theorem dJ9_floorMod_7cf53_17 : decode cJ9_floorMod_7cf53 17 = .ok (.ireturn, 1) := by decide +kernel
theorem dJ9_floorMod_7cf53_18 : decode cJ9_floorMod_7cf53 18 = .ok (.iload_n 2, 1) := by decide +kernel
theorem dJ9_floorMod_7cf53_19 : decode cJ9_floorMod_7cf53 19 = .ok (.ireturn, 1) := by decide +kernel
theorem dJ9_min_7cf53_0 : decode cJ9_min_7cf53 0 = .ok (.iload_n 0, 1) := by decide +kernel
theorem dJ9_min_7cf53_1 : decode cJ9_min_7cf53 1 = .ok (.iload_n 1, 1) := by decide +kernel
theorem dJ9_min_7cf53_2 : decode cJ9_min_7cf53 2 = .ok (.if_icmp .gt 7, 3) := by decide +kernel
theorem dJ9_min_7cf53_5 : decode cJ9_min_7cf53 5 = .ok (.iload_n 0, 1) := by decide +kernel
theorem dJ9_min_7cf53_6 : decode cJ9_min_7cf53 6 = .ok (.goto 4, 3) := by decide +kernel
theorem dJ9_min_7cf53_9 : decode cJ9_min_7cf53 9 = .ok (.iload_n 1, 1) := by decide +kernel
theorem dJ9_min_7cf53_10 : decode cJ9_min_7cf53 10 = .ok (.ireturn, 1) := by decide +kernel
theorem dJ0_length_8abf5_0 : decode cJ0_length_8abf5 0 = .ok (.aload_n 0, 1) := by decide +kernel
theorem dJ0_length_8abf5_1 : decode cJ0_length_8abf5 1 = .ok (.getfield 9, 3) := by decide +kernel
theorem dJ0_length_8abf5_4 : decode cJ0_length_8abf5 4 = .ok (.arraylength, 1) := by decide +kernel
theorem dJ0_length_8abf5_5 : decode cJ0_length_8abf5 5 = .ok (.aload_n 0, 1) := by decide +kernel
theorem dJ0_length_8abf5_6 : decode cJ0_length_8abf5 6 = .ok (.invokevirtual 335, 3) := by decide +kernel
theorem dJ0_length_8abf5_9 : decode cJ0_length_8abf5 9 = .ok (.ishr, 1) := by decide +kernel
theorem dJ0_length_8abf5_10 : decode cJ0_length_8abf5 10 = .ok (.ireturn, 1) := by decide +kernel
theorem dJ0_charAt_5068e_0 : decode cJ0_charAt_5068e 0 = .ok (.aload_n 0, 1) := by decide +kernel
theorem dJ0_charAt_5068e_1 : decode cJ0_charAt_5068e 1 = .ok (.invokevirtual 492, 3) := by decide +kernel
theorem dJ0_charAt_5068e_4 : decode cJ0_charAt_5068e 4 = .ok (.ifCond .eq 12, 3) := by decide +kernel
theorem dJ0_charAt_5068e_7 : decode cJ0_charAt_5068e 7 = .ok (.aload_n 0, 1) := by decide +kernel
theorem dJ0_charAt_5068e_8 : decode cJ0_charAt_5068e 8 = .ok (.getfield 9, 3) := by decide +kernel
theorem dJ0_charAt_5068e_11 : decode cJ0_charAt_5068e 11 = .ok (.iload_n 1, 1) := by decide +kernel
theorem dJ0_charAt_5068e_12 : decode cJ0_charAt_5068e 12 = .ok (.invokestatic 495, 3) := by decide +kernel
theorem dJ0_charAt_5068e_15 : decode cJ0_charAt_5068e 15 = .ok (.ireturn, 1) := by decide +kernel
theorem dJ0_charAt_5068e_16 : decode cJ0_charAt_5068e 16 = .ok (.aload_n 0, 1) := by decide +kernel
theorem dJ0_charAt_5068e_17 : decode cJ0_charAt_5068e 17 = .ok (.getfield 9, 3) := by decide +kernel
theorem dJ0_charAt_5068e_20 : decode cJ0_charAt_5068e 20 = .ok (.iload_n 1, 1) := by decide +kernel
theorem dJ0_charAt_5068e_21 : decode cJ0_charAt_5068e 21 = .ok (.invokestatic 498, 3) := by decide +kernel
theorem dJ0_charAt_5068e_24 : decode cJ0_charAt_5068e 24 = .ok (.ireturn, 1) := by decide +kernel
theorem dJ0_coder_7d493_0 : decode cJ0_coder_7d493 0 = .ok (.getstatic 38, 3) := by decide +kernel
theorem dJ0_coder_7d493_3 : decode cJ0_coder_7d493 3 = .ok (.ifCond .eq 10, 3) := by decide +kernel
theorem dJ0_coder_7d493_6 : decode cJ0_coder_7d493 6 = .ok (.aload_n 0, 1) := by decide +kernel
theorem dJ0_coder_7d493_7 : decode cJ0_coder_7d493 7 = .ok (.getfield 15, 3) := by decide +kernel
theorem dJ0_coder_7d493_10 : decode cJ0_coder_7d493 10 = .ok (.goto 4, 3) := by decide +kernel
theorem dJ0_coder_7d493_13 : decode cJ0_coder_7d493 13 = .ok (.iconst 1, 1) := by decide +kernel
theorem dJ0_coder_7d493_14 : decode cJ0_coder_7d493 14 = .ok (.ireturn, 1) := by decide +kernel
theorem dJ0_isLatin1_aae02_0 : decode cJ0_isLatin1_aae02 0 = .ok (.getstatic 38, 3) := by decide +kernel
theorem dJ0_isLatin1_aae02_3 : decode cJ0_isLatin1_aae02 3 = .ok (.ifCond .eq 14, 3) := by decide +kernel
theorem dJ0_isLatin1_aae02_6 : decode cJ0_isLatin1_aae02 6 = .ok (.aload_n 0, 1) := by decide +kernel
theorem dJ0_isLatin1_aae02_7 : decode cJ0_isLatin1_aae02 7 = .ok (.getfield 15, 3) := by decide +kernel
theorem dJ0_isLatin1_aae02_10 : decode cJ0_isLatin1_aae02 10 = .ok (.ifCond .ne 7, 3) := by decide +kernel
theorem dJ0_isLatin1_aae02_13 : decode cJ0_isLatin1_aae02 13 = .ok (.iconst 1, 1) := by decide +kernel
theorem dJ0_isLatin1_aae02_14 : decode cJ0_isLatin1_aae02 14 = .ok (.goto 4, 3) := by decide +kernel
theorem dJ0_isLatin1_aae02_17 : decode cJ0_isLatin1_aae02 17 = .ok (.iconst 0, 1) := by decide +kernel
theorem dJ0_isLatin1_aae02_18 : decode cJ0_isLatin1_aae02 18 = .ok (.ireturn, 1) := by decide +kernel
theorem dJ0_checkIndex_df160_0 : decode cJ0_checkIndex_df160 0 = .ok (.iload_n 0, 1) := by decide +kernel
theorem dJ0_checkIndex_df160_1 : decode cJ0_checkIndex_df160 1 = .ok (.iload_n 1, 1) := by decide +kernel
theorem dJ0_checkIndex_df160_2 : decode cJ0_checkIndex_df160 2 = .ok (.getstatic 1053, 3) := by decide +kernel
theorem dJ0_checkIndex_df160_5 : decode cJ0_checkIndex_df160 5 = .ok (.invokestatic 1059, 3) := by decide +kernel
theorem dJ0_checkIndex_df160_8 : decode cJ0_checkIndex_df160 8 = .ok (.pop, 1) := by decide +kernel
theorem dJ0_checkIndex_df160_9 : decode cJ0_checkIndex_df160 9 = .ok (.return_, 1) := by decide +kernel
theorem dJ1_charAt_3b067_0 : decode cJ1_charAt_3b067 0 = .ok (.iload_n 1, 1) := by decide +kernel
theorem dJ1_charAt_3b067_1 : decode cJ1_charAt_3b067 1 = .ok (.aload_n 0, 1) := by decide +kernel
theorem dJ1_charAt_3b067_2 : decode cJ1_charAt_3b067 2 = .ok (.arraylength, 1) := by decide +kernel
theorem dJ1_charAt_3b067_3 : decode cJ1_charAt_3b067 3 = .ok (.invokestatic 9, 3) := by decide +kernel
theorem dJ1_charAt_3b067_6 : decode cJ1_charAt_3b067 6 = .ok (.aload_n 0, 1) := by decide +kernel
theorem dJ1_charAt_3b067_7 : decode cJ1_charAt_3b067 7 = .ok (.iload_n 1, 1) := by decide +kernel
theorem dJ1_charAt_3b067_8 : decode cJ1_charAt_3b067 8 = .ok (.baload, 1) := by decide +kernel
theorem dJ1_charAt_3b067_9 : decode cJ1_charAt_3b067 9 = .ok (.sipush 255, 3) := by decide +kernel
theorem dJ1_charAt_3b067_12 : decode cJ1_charAt_3b067 12 = .ok (.iand, 1) := by decide +kernel
theorem dJ1_charAt_3b067_13 : decode cJ1_charAt_3b067 13 = .ok (.i2c, 1) := by decide +kernel
theorem dJ1_charAt_3b067_14 : decode cJ1_charAt_3b067 14 = .ok (.ireturn, 1) := by decide +kernel
theorem dJ2_getChar_3b067_0 : decode cJ2_getChar_3b067 0 = .ok (.getstatic 44, 3) := by decide +kernel
theorem dJ2_getChar_3b067_3 : decode cJ2_getChar_3b067 3 = .ok (.ifCond .ne 25, 3) := by decide +kernel
theorem dJ2_getChar_3b067_6 : decode cJ2_getChar_3b067 6 = .ok (.iload_n 1, 1) := by decide +kernel
theorem dJ2_getChar_3b067_7 : decode cJ2_getChar_3b067 7 = .ok (.ifCond .lt 11, 3) := by decide +kernel
theorem dJ2_getChar_3b067_10 : decode cJ2_getChar_3b067 10 = .ok (.iload_n 1, 1) := by decide +kernel
theorem dJ2_getChar_3b067_11 : decode cJ2_getChar_3b067 11 = .ok (.aload_n 0, 1) := by decide +kernel
theorem dJ2_getChar_3b067_12 : decode cJ2_getChar_3b067 12 = .ok (.invokestatic 48, 3) := by decide +kernel
theorem dJ2_getChar_3b067_15 : decode cJ2_getChar_3b067 15 = .ok (.if_icmp .lt 13, 3) := by decide +kernel
theorem dJ2_getChar_3b067_18 : decode cJ2_getChar_3b067 18 = .ok (.new 52, 3) := by decide +kernel
theorem dJ2_getChar_3b067_21 : decode cJ2_getChar_3b067 21 = .ok (.dup, 1) := by decide +kernel
theorem dJ2_getChar_3b067_22 : decode cJ2_getChar_3b067 22 = .ok (.ldc 54, 2) := by decide +kernel
theorem dJ2_getChar_3b067_24 : decode cJ2_getChar_3b067 24 = .ok (.invokespecial 56, 3) := by decide +kernel
theorem dJ2_getChar_3b067_27 : decode cJ2_getChar_3b067 27 = .ok (.athrow, 1) := by decide +kernel
theorem dJ2_getChar_3b067_28 : decode cJ2_getChar_3b067 28 = .ok (.iload_n 1, 1) := by decide +kernel
theorem dJ2_getChar_3b067_29 : decode cJ2_getChar_3b067 29 = .ok (.iconst 1, 1) := by decide +kernel
theorem dJ2_getChar_3b067_30 : decode cJ2_getChar_3b067 30 = .ok (.ishl, 1) := by decide +kernel
theorem dJ2_getChar_3b067_31 : decode cJ2_getChar_3b067 31 = .ok (.istore_n 1, 1) := by decide +kernel
theorem dJ2_getChar_3b067_32 : decode cJ2_getChar_3b067 32 = .ok (.aload_n 0, 1) := by decide +kernel
theorem dJ2_getChar_3b067_33 : decode cJ2_getChar_3b067 33 = .ok (.iload_n 1, 1) := by decide +kernel
theorem dJ2_getChar_3b067_34 : decode cJ2_getChar_3b067 34 = .ok (.iinc 1 1, 3) := by decide +kernel
theorem dJ2_getChar_3b067_37 : decode cJ2_getChar_3b067 37 = .ok (.baload, 1) := by decide +kernel
theorem dJ2_getChar_3b067_38 : decode cJ2_getChar_3b067 38 = .ok (.sipush 255, 3) := by decide +kernel
theorem dJ2_getChar_3b067_41 : decode cJ2_getChar_3b067 41 = .ok (.iand, 1) := by decide +kernel
theorem dJ2_getChar_3b067_42 : decode cJ2_getChar_3b067 42 = .ok (.getstatic 59, 3) := by decide +kernel
theorem dJ2_getChar_3b067_45 : decode cJ2_getChar_3b067 45 = .ok (.ishl, 1) := by decide +kernel
theorem dJ2_getChar_3b067_46 : decode cJ2_getChar_3b067 46 = .ok (.aload_n 0, 1) := by decide +kernel
theorem dJ2_getChar_3b067_47 : decode cJ2_getChar_3b067 47 = .ok (.iload_n 1, 1) := by decide +kernel
theorem dJ2_getChar_3b067_48 : decode cJ2_getChar_3b067 48 = .ok (.baload, 1) := by decide +kernel
theorem dJ2_getChar_3b067_49 : decode cJ2_getChar_3b067 49 = .ok (.sipush 255, 3) := by decide +kernel
theorem dJ2_getChar_3b067_52 : decode cJ2_getChar_3b067 52 = .ok (.iand, 1) := by decide +kernel
theorem dJ2_getChar_3b067_53 : decode cJ2_getChar_3b067 53 = .ok (.getstatic 63, 3) := by decide +kernel
theorem dJ2_getChar_3b067_56 : decode cJ2_getChar_3b067 56 = .ok (.ishl, 1) := by decide +kernel
theorem dJ2_getChar_3b067_57 : decode cJ2_getChar_3b067 57 = .ok (.ior, 1) := by decide +kernel
theorem dJ2_getChar_3b067_58 : decode cJ2_getChar_3b067 58 = .ok (.i2c, 1) := by decide +kernel
theorem dJ2_getChar_3b067_59 : decode cJ2_getChar_3b067 59 = .ok (.ireturn, 1) := by decide +kernel
theorem dJ2_length_9d52b_0 : decode cJ2_length_9d52b 0 = .ok (.aload_n 0, 1) := by decide +kernel
theorem dJ2_length_9d52b_1 : decode cJ2_length_9d52b 1 = .ok (.arraylength, 1) := by decide +kernel
theorem dJ2_length_9d52b_2 : decode cJ2_length_9d52b 2 = .ok (.iconst 1, 1) := by decide +kernel
theorem dJ2_length_9d52b_3 : decode cJ2_length_9d52b 3 = .ok (.ishr, 1) := by decide +kernel
theorem dJ2_length_9d52b_4 : decode cJ2_length_9d52b 4 = .ok (.ireturn, 1) := by decide +kernel
theorem dJ2_charAt_3b067_0 : decode cJ2_charAt_3b067 0 = .ok (.iload_n 1, 1) := by decide +kernel
theorem dJ2_charAt_3b067_1 : decode cJ2_charAt_3b067 1 = .ok (.aload_n 0, 1) := by decide +kernel
theorem dJ2_charAt_3b067_2 : decode cJ2_charAt_3b067 2 = .ok (.invokestatic 67, 3) := by decide +kernel
theorem dJ2_charAt_3b067_5 : decode cJ2_charAt_3b067 5 = .ok (.aload_n 0, 1) := by decide +kernel
theorem dJ2_charAt_3b067_6 : decode cJ2_charAt_3b067 6 = .ok (.iload_n 1, 1) := by decide +kernel
theorem dJ2_charAt_3b067_7 : decode cJ2_charAt_3b067 7 = .ok (.invokestatic 71, 3) := by decide +kernel
theorem dJ2_charAt_3b067_10 : decode cJ2_charAt_3b067 10 = .ok (.ireturn, 1) := by decide +kernel
theorem dJ2_checkIndex_2214a_0 : decode cJ2_checkIndex_2214a 0 = .ok (.iload_n 0, 1) := by decide +kernel
theorem dJ2_checkIndex_2214a_1 : decode cJ2_checkIndex_2214a 1 = .ok (.aload_n 1, 1) := by decide +kernel
theorem dJ2_checkIndex_2214a_2 : decode cJ2_checkIndex_2214a 2 = .ok (.invokestatic 48, 3) := by decide +kernel
theorem dJ2_checkIndex_2214a_5 : decode cJ2_checkIndex_2214a 5 = .ok (.invokestatic 414, 3) := by decide +kernel
theorem dJ2_checkIndex_2214a_8 : decode cJ2_checkIndex_2214a 8 = .ok (.return_, 1) := by decide +kernel
theorem dJ3_checkIndex_8e157_0 : decode cJ3_checkIndex_8e157 0 = .ok (.iload_n 0, 1) := by decide +kernel
theorem dJ3_checkIndex_8e157_1 : decode cJ3_checkIndex_8e157 1 = .ok (.ifCond .lt 8, 3) := by decide +kernel
theorem dJ3_checkIndex_8e157_4 : decode cJ3_checkIndex_8e157 4 = .ok (.iload_n 0, 1) := by decide +kernel
theorem dJ3_checkIndex_8e157_5 : decode cJ3_checkIndex_8e157 5 = .ok (.iload_n 1, 1) := by decide +kernel
theorem dJ3_checkIndex_8e157_6 : decode cJ3_checkIndex_8e157 6 = .ok (.if_icmp .lt 10, 3) := by decide +kernel
theorem dJ3_checkIndex_8e157_9 : decode cJ3_checkIndex_8e157 9 = .ok (.aload_n 2, 1) := by decide +kernel
theorem dJ3_checkIndex_8e157_10 : decode cJ3_checkIndex_8e157 10 = .ok (.iload_n 0, 1) := by decide +kernel
theorem dJ3_checkIndex_8e157_11 : decode cJ3_checkIndex_8e157 11 = .ok (.iload_n 1, 1) := by decide +kernel
theorem dJ3_checkIndex_8e157_12 : decode cJ3_checkIndex_8e157 12 = .ok (.invokestatic 95, 3) := by decide +kernel
theorem dJ3_checkIndex_8e157_15 : decode cJ3_checkIndex_8e157 15 = .ok (.athrow, 1) := by decide +kernel
theorem dJ3_checkIndex_8e157_16 : decode cJ3_checkIndex_8e157 16 = .ok (.iload_n 0, 1) := by decide +kernel
theorem dJ3_checkIndex_8e157_17 : decode cJ3_checkIndex_8e157 17 = .ok (.ireturn, 1) := by decide +kernel
