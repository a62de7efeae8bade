theorem dX5_init_0 : decode cX5_init 0 = .ok (.aload_n 0, 1) := by decide +kernel
theorem dX5_init_1 : decode cX5_init 1 = .ok (.invokespecial 3, 3) := by decide +kernel
theorem dX5_init_4 : decode cX5_init 4 = .ok (.aload_n 0, 1) := by decide +kernel
theorem dX5_init_5 : decode cX5_init 5 = .ok (.sipush 609, 3) := by decide +kernel
theorem dX5_init_8 : decode cX5_init 8 = .ok (.newarray .int, 2) := by decide +kernel
theorem dX5_init_10 : decode cX5_init 10 = .ok (.putfield 9, 3) := by decide +kernel
theorem dX5_init_13 : decode cX5_init 13 = .ok (.aload_n 0, 1) := by decide +kernel
theorem dX5_init_14 : decode cX5_init 14 = .ok (.sipush 609, 3) := by decide +kernel
theorem dX5_init_17 : decode cX5_init 17 = .ok (.newarray .int, 2) := by decide +kernel
theorem dX5_init_19 : decode cX5_init 19 = .ok (.putfield 13, 3) := by decide +kernel
theorem dX5_init_22 : decode cX5_init 22 = .ok (.aload_n 0, 1) := by decide +kernel
theorem dX5_init_23 : decode cX5_init 23 = .ok (.bipush 24, 2) := by decide +kernel
theorem dX5_init_25 : decode cX5_init 25 = .ok (.newarray .int, 2) := by decide +kernel
theorem dX5_init_27 : decode cX5_init 27 = .ok (.putfield 16, 3) := by decide +kernel
theorem dX5_init_30 : decode cX5_init 30 = .ok (.aload_n 0, 1) := by decide +kernel
theorem dX5_init_31 : decode cX5_init 31 = .ok (.iconst 4, 1) := by decide +kernel
theorem dX5_init_32 : decode cX5_init 32 = .ok (.newarray .int, 2) := by decide +kernel
theorem dX5_init_34 : decode cX5_init 34 = .ok (.putfield 19, 3) := by decide +kernel
theorem dX5_init_37 : decode cX5_init 37 = .ok (.return_, 1) := by decide +kernel
theorem dX5_thrown_0 : decode cX5_thrown 0 = .ok (.aload_n 0, 1) := by decide +kernel
theorem dX5_thrown_1 : decode cX5_thrown 1 = .ok (.getfield 22, 3) := by decide +kernel
theorem dX5_thrown_4 : decode cX5_thrown 4 = .ok (.ireturn, 1) := by decide +kernel
theorem dX5_in_0 : decode cX5_in 0 = .ok (.iload_n 0, 1) := by decide +kernel
theorem dX5_in_1 : decode cX5_in 1 = .ok (.iload_n 1, 1) := by decide +kernel
theorem dX5_in_2 : decode cX5_in 2 = .ok (.if_icmp .lt 12, 3) := by decide +kernel
theorem dX5_in_5 : decode cX5_in 5 = .ok (.iload_n 0, 1) := by decide +kernel
theorem dX5_in_6 : decode cX5_in 6 = .ok (.iload_n 2, 1) := by decide +kernel
theorem dX5_in_7 : decode cX5_in 7 = .ok (.if_icmp .gt 7, 3) := by decide +kernel
theorem dX5_in_10 : decode cX5_in 10 = .ok (.iconst 1, 1) := by decide +kernel
theorem dX5_in_11 : decode cX5_in 11 = .ok (.goto 4, 3) := by decide +kernel
theorem dX5_in_14 : decode cX5_in 14 = .ok (.iconst 0, 1) := by decide +kernel
theorem dX5_in_15 : decode cX5_in 15 = .ok (.ireturn, 1) := by decide +kernel
theorem dX5_raises_0 : decode cX5_raises 0 = .ok (.aload_n 0, 1) := by decide +kernel
theorem dX5_raises_1 : decode cX5_raises 1 = .ok (.iload_n 1, 1) := by decide +kernel
theorem dX5_raises_2 : decode cX5_raises 2 = .ok (.putfield 22, 3) := by decide +kernel
theorem dX5_raises_5 : decode cX5_raises 5 = .ok (.iconst 0, 1) := by decide +kernel
theorem dX5_raises_6 : decode cX5_raises 6 = .ok (.ireturn, 1) := by decide +kernel
theorem dX5_of_0 : decode cX5_of 0 = .ok (.aload_n 0, 1) := by decide +kernel
theorem dX5_of_1 : decode cX5_of 1 = .ok (.getfield 9, 3) := by decide +kernel
theorem dX5_of_4 : decode cX5_of 4 = .ok (.iconst 5, 1) := by decide +kernel
theorem dX5_of_5 : decode cX5_of 5 = .ok (.bipush 14, 2) := by decide +kernel
theorem dX5_of_7 : decode cX5_of 7 = .ok (.iload_n 1, 1) := by decide +kernel
theorem dX5_of_8 : decode cX5_of 8 = .ok (.imul, 1) := by decide +kernel
theorem dX5_of_9 : decode cX5_of 9 = .ok (.iadd, 1) := by decide +kernel
theorem dX5_of_10 : decode cX5_of 10 = .ok (.iload_n 2, 1) := by decide +kernel
theorem dX5_of_11 : decode cX5_of 11 = .ok (.iadd, 1) := by decide +kernel
theorem dX5_of_12 : decode cX5_of 12 = .ok (.iaload, 1) := by decide +kernel
theorem dX5_of_13 : decode cX5_of 13 = .ok (.ireturn, 1) := by decide +kernel
theorem dX5_put_0 : decode cX5_put 0 = .ok (.aload_n 0, 1) := by decide +kernel
theorem dX5_put_1 : decode cX5_put 1 = .ok (.getfield 9, 3) := by decide +kernel
theorem dX5_put_4 : decode cX5_put 4 = .ok (.iconst 5, 1) := by decide +kernel
theorem dX5_put_5 : decode cX5_put 5 = .ok (.bipush 14, 2) := by decide +kernel
theorem dX5_put_7 : decode cX5_put 7 = .ok (.iload_n 1, 1) := by decide +kernel
theorem dX5_put_8 : decode cX5_put 8 = .ok (.imul, 1) := by decide +kernel
theorem dX5_put_9 : decode cX5_put 9 = .ok (.iadd, 1) := by decide +kernel
theorem dX5_put_10 : decode cX5_put 10 = .ok (.iload_n 2, 1) := by decide +kernel
theorem dX5_put_11 : decode cX5_put 11 = .ok (.iadd, 1) := by decide +kernel
theorem dX5_put_12 : decode cX5_put 12 = .ok (.iload_n 3, 1) := by decide +kernel
theorem dX5_put_13 : decode cX5_put 13 = .ok (.iastore, 1) := by decide +kernel
theorem dX5_put_14 : decode cX5_put 14 = .ok (.return_, 1) := by decide +kernel
theorem dX5_reserved_0 : decode cX5_reserved 0 = .ok (.aload_n 0, 1) := by decide +kernel
theorem dX5_reserved_1 : decode cX5_reserved 1 = .ok (.getfield 9, 3) := by decide +kernel
theorem dX5_reserved_4 : decode cX5_reserved 4 = .ok (.sipush 341, 3) := by decide +kernel
theorem dX5_reserved_7 : decode cX5_reserved 7 = .ok (.iconst 4, 1) := by decide +kernel
theorem dX5_reserved_8 : decode cX5_reserved 8 = .ok (.iload_n 1, 1) := by decide +kernel
theorem dX5_reserved_9 : decode cX5_reserved 9 = .ok (.imul, 1) := by decide +kernel
theorem dX5_reserved_10 : decode cX5_reserved 10 = .ok (.iadd, 1) := by decide +kernel
theorem dX5_reserved_11 : decode cX5_reserved 11 = .ok (.iload_n 2, 1) := by decide +kernel
theorem dX5_reserved_12 : decode cX5_reserved 12 = .ok (.iadd, 1) := by decide +kernel
theorem dX5_reserved_13 : decode cX5_reserved 13 = .ok (.iaload, 1) := by decide +kernel
theorem dX5_reserved_14 : decode cX5_reserved 14 = .ok (.ireturn, 1) := by decide +kernel
theorem dX5_isJob_0 : decode cX5_isJob 0 = .ok (.iload_n 1, 1) := by decide +kernel
theorem dX5_isJob_1 : decode cX5_isJob 1 = .ok (.iconst 0, 1) := by decide +kernel
theorem dX5_isJob_2 : decode cX5_isJob 2 = .ok (.aload_n 0, 1) := by decide +kernel
theorem dX5_isJob_3 : decode cX5_isJob 3 = .ok (.getfield 9, 3) := by decide +kernel
theorem dX5_isJob_6 : decode cX5_isJob 6 = .ok (.iconst 1, 1) := by decide +kernel
theorem dX5_isJob_7 : decode cX5_isJob 7 = .ok (.iaload, 1) := by decide +kernel
theorem dX5_isJob_8 : decode cX5_isJob 8 = .ok (.iconst 1, 1) := by decide +kernel
theorem dX5_isJob_9 : decode cX5_isJob 9 = .ok (.isub, 1) := by decide +kernel
theorem dX5_isJob_10 : decode cX5_isJob 10 = .ok (.invokestatic 26, 3) := by decide +kernel
theorem dX5_isJob_13 : decode cX5_isJob 13 = .ok (.ireturn, 1) := by decide +kernel
theorem dX5_isReservation_0 : decode cX5_isReservation 0 = .ok (.iload_n 1, 1) := by decide +kernel
theorem dX5_isReservation_1 : decode cX5_isReservation 1 = .ok (.iconst 0, 1) := by decide +kernel
theorem dX5_isReservation_2 : decode cX5_isReservation 2 = .ok (.aload_n 0, 1) := by decide +kernel
theorem dX5_isReservation_3 : decode cX5_isReservation 3 = .ok (.getfield 9, 3) := by decide +kernel
theorem dX5_isReservation_6 : decode cX5_isReservation 6 = .ok (.iconst 2, 1) := by decide +kernel
theorem dX5_isReservation_7 : decode cX5_isReservation 7 = .ok (.iaload, 1) := by decide +kernel
theorem dX5_isReservation_8 : decode cX5_isReservation 8 = .ok (.iconst 1, 1) := by decide +kernel
theorem dX5_isReservation_9 : decode cX5_isReservation 9 = .ok (.isub, 1) := by decide +kernel
theorem dX5_isReservation_10 : decode cX5_isReservation 10 = .ok (.invokestatic 26, 3) := by decide +kernel
theorem dX5_isReservation_13 : decode cX5_isReservation 13 = .ok (.ireturn, 1) := by decide +kernel
theorem dX5_isAllocated_0 : decode cX5_isAllocated 0 = .ok (.aload_n 0, 1) := by decide +kernel
theorem dX5_isAllocated_1 : decode cX5_isAllocated 1 = .ok (.iload_n 1, 1) := by decide +kernel
theorem dX5_isAllocated_2 : decode cX5_isAllocated 2 = .ok (.iconst 4, 1) := by decide +kernel
theorem dX5_isAllocated_3 : decode cX5_isAllocated 3 = .ok (.invokevirtual 30, 3) := by decide +kernel
theorem dX5_isAllocated_6 : decode cX5_isAllocated 6 = .ok (.iconst 2, 1) := by decide +kernel
theorem dX5_isAllocated_7 : decode cX5_isAllocated 7 = .ok (.if_icmp .ge 7, 3) := by decide +kernel
theorem dX5_isAllocated_10 : decode cX5_isAllocated 10 = .ok (.iconst 1, 1) := by decide +kernel
theorem dX5_isAllocated_11 : decode cX5_isAllocated 11 = .ok (.goto 4, 3) := by decide +kernel
theorem dX5_isAllocated_14 : decode cX5_isAllocated 14 = .ok (.iconst 0, 1) := by decide +kernel
theorem dX5_isAllocated_15 : decode cX5_isAllocated 15 = .ok (.ireturn, 1) := by decide +kernel
theorem dX5_records_0 : decode cX5_records 0 = .ok (.aload_n 0, 1) := by decide +kernel
theorem dX5_records_1 : decode cX5_records 1 = .ok (.getfield 9, 3) := by decide +kernel
theorem dX5_records_4 : decode cX5_records 4 = .ok (.iconst 4, 1) := by decide +kernel
theorem dX5_records_5 : decode cX5_records 5 = .ok (.iaload, 1) := by decide +kernel
theorem dX5_records_6 : decode cX5_records 6 = .ok (.bipush 60, 2) := by decide +kernel
theorem dX5_records_8 : decode cX5_records 8 = .ok (.if_icmp .ne 50, 3) := by decide +kernel
theorem dX5_records_11 : decode cX5_records 11 = .ok (.iconst 0, 1) := by decide +kernel
theorem dX5_records_12 : decode cX5_records 12 = .ok (.istore_n 3, 1) := by decide +kernel
theorem dX5_records_13 : decode cX5_records 13 = .ok (.iload_n 3, 1) := by decide +kernel
theorem dX5_records_14 : decode cX5_records 14 = .ok (.sipush 177, 3) := by decide +kernel
theorem dX5_records_17 : decode cX5_records 17 = .ok (.if_icmp .ge 31, 3) := by decide +kernel
theorem dX5_records_20 : decode cX5_records 20 = .ok (.aload_n 0, 1) := by decide +kernel
theorem dX5_records_21 : decode cX5_records 21 = .ok (.getfield 9, 3) := by decide +kernel
theorem dX5_records_24 : decode cX5_records 24 = .ok (.sipush 365, 3) := by decide +kernel
theorem dX5_records_27 : decode cX5_records 27 = .ok (.iload_n 3, 1) := by decide +kernel
theorem dX5_records_28 : decode cX5_records 28 = .ok (.iadd, 1) := by decide +kernel
theorem dX5_records_29 : decode cX5_records 29 = .ok (.aload_n 0, 1) := by decide +kernel
theorem dX5_records_30 : decode cX5_records 30 = .ok (.getfield 9, 3) := by decide +kernel
theorem dX5_records_33 : decode cX5_records 33 = .ok (.sipush 365, 3) := by decide +kernel
theorem dX5_records_36 : decode cX5_records 36 = .ok (.iload_n 3, 1) := by decide +kernel
theorem dX5_records_37 : decode cX5_records 37 = .ok (.iadd, 1) := by decide +kernel
theorem dX5_records_38 : decode cX5_records 38 = .ok (.iconst 3, 1) := by decide +kernel
theorem dX5_records_39 : decode cX5_records 39 = .ok (.iadd, 1) := by decide +kernel
theorem dX5_records_40 : decode cX5_records 40 = .ok (.iaload, 1) := by decide +kernel
theorem dX5_records_41 : decode cX5_records 41 = .ok (.iastore, 1) := by decide +kernel
theorem dX5_records_42 : decode cX5_records 42 = .ok (.iinc 3 1, 3) := by decide +kernel
theorem dX5_records_45 : decode cX5_records 45 = .ok (.goto (-32), 3) := by decide +kernel
theorem dX5_records_48 : decode cX5_records 48 = .ok (.aload_n 0, 1) := by decide +kernel
theorem dX5_records_49 : decode cX5_records 49 = .ok (.getfield 9, 3) := by decide +kernel
theorem dX5_records_52 : decode cX5_records 52 = .ok (.iconst 4, 1) := by decide +kernel
theorem dX5_records_53 : decode cX5_records 53 = .ok (.dup2, 1) := by decide +kernel
theorem dX5_records_54 : decode cX5_records 54 = .ok (.iaload, 1) := by decide +kernel
theorem dX5_records_55 : decode cX5_records 55 = .ok (.iconst 1, 1) := by decide +kernel
theorem dX5_records_56 : decode cX5_records 56 = .ok (.isub, 1) := by decide +kernel
theorem dX5_records_57 : decode cX5_records 57 = .ok (.iastore, 1) := by decide +kernel
theorem dX5_records_58 : decode cX5_records 58 = .ok (.sipush 365, 3) := by decide +kernel
theorem dX5_records_61 : decode cX5_records 61 = .ok (.iconst 3, 1) := by decide +kernel
theorem dX5_records_62 : decode cX5_records 62 = .ok (.aload_n 0, 1) := by decide +kernel
theorem dX5_records_63 : decode cX5_records 63 = .ok (.getfield 9, 3) := by decide +kernel
theorem dX5_records_66 : decode cX5_records 66 = .ok (.iconst 4, 1) := by decide +kernel
theorem dX5_records_67 : decode cX5_records 67 = .ok (.dup2, 1) := by decide +kernel
theorem dX5_records_68 : decode cX5_records 68 = .ok (.iaload, 1) := by decide +kernel
theorem dX5_records_69 : decode cX5_records 69 = .ok (.dup_x2, 1) := by decide +kernel
theorem dX5_records_70 : decode cX5_records 70 = .ok (.iconst 1, 1) := by decide +kernel
theorem dX5_records_71 : decode cX5_records 71 = .ok (.iadd, 1) := by decide +kernel
theorem dX5_records_72 : decode cX5_records 72 = .ok (.iastore, 1) := by decide +kernel
theorem dX5_records_73 : decode cX5_records 73 = .ok (.imul, 1) := by decide +kernel
theorem dX5_records_74 : decode cX5_records 74 = .ok (.iadd, 1) := by decide +kernel
theorem dX5_records_75 : decode cX5_records 75 = .ok (.istore_n 3, 1) := by decide +kernel
theorem dX5_records_76 : decode cX5_records 76 = .ok (.aload_n 0, 1) := by decide +kernel
theorem dX5_records_77 : decode cX5_records 77 = .ok (.getfield 9, 3) := by decide +kernel
theorem dX5_records_80 : decode cX5_records 80 = .ok (.iload_n 3, 1) := by decide +kernel
theorem dX5_records_81 : decode cX5_records 81 = .ok (.aload_n 0, 1) := by decide +kernel
theorem dX5_records_82 : decode cX5_records 82 = .ok (.getfield 9, 3) := by decide +kernel
theorem dX5_records_85 : decode cX5_records 85 = .ok (.iconst 0, 1) := by decide +kernel
theorem dX5_records_86 : decode cX5_records 86 = .ok (.iaload, 1) := by decide +kernel
theorem dX5_records_87 : decode cX5_records 87 = .ok (.iastore, 1) := by decide +kernel
theorem dX5_records_88 : decode cX5_records 88 = .ok (.aload_n 0, 1) := by decide +kernel
theorem dX5_records_89 : decode cX5_records 89 = .ok (.getfield 9, 3) := by decide +kernel
theorem dX5_records_92 : decode cX5_records 92 = .ok (.iload_n 3, 1) := by decide +kernel
theorem dX5_records_93 : decode cX5_records 93 = .ok (.iconst 1, 1) := by decide +kernel
theorem dX5_records_94 : decode cX5_records 94 = .ok (.iadd, 1) := by decide +kernel
theorem dX5_records_95 : decode cX5_records 95 = .ok (.iload_n 1, 1) := by decide +kernel
theorem dX5_records_96 : decode cX5_records 96 = .ok (.iastore, 1) := by decide +kernel
theorem dX5_records_97 : decode cX5_records 97 = .ok (.aload_n 0, 1) := by decide +kernel
theorem dX5_records_98 : decode cX5_records 98 = .ok (.getfield 9, 3) := by decide +kernel
theorem dX5_records_101 : decode cX5_records 101 = .ok (.iload_n 3, 1) := by decide +kernel
theorem dX5_records_102 : decode cX5_records 102 = .ok (.iconst 2, 1) := by decide +kernel
theorem dX5_records_103 : decode cX5_records 103 = .ok (.iadd, 1) := by decide +kernel
theorem dX5_records_104 : decode cX5_records 104 = .ok (.iload_n 2, 1) := by decide +kernel
theorem dX5_records_105 : decode cX5_records 105 = .ok (.iastore, 1) := by decide +kernel
theorem dX5_records_106 : decode cX5_records 106 = .ok (.return_, 1) := by decide +kernel
theorem dX5_meets_0 : decode cX5_meets 0 = .ok (.iload_n 1, 1) := by decide +kernel
theorem dX5_meets_1 : decode cX5_meets 1 = .ok (.iload 5, 2) := by decide +kernel
theorem dX5_meets_3 : decode cX5_meets 3 = .ok (.iconst 1, 1) := by decide +kernel
theorem dX5_meets_4 : decode cX5_meets 4 = .ok (.iload 4, 2) := by decide +kernel
theorem dX5_meets_6 : decode cX5_meets 6 = .ok (.ishl, 1) := by decide +kernel
theorem dX5_meets_7 : decode cX5_meets 7 = .ok (.iadd, 1) := by decide +kernel
theorem dX5_meets_8 : decode cX5_meets 8 = .ok (.if_icmp .ge 29, 3) := by decide +kernel
theorem dX5_meets_11 : decode cX5_meets 11 = .ok (.iload 5, 2) := by decide +kernel
theorem dX5_meets_13 : decode cX5_meets 13 = .ok (.iload_n 1, 1) := by decide +kernel
theorem dX5_meets_14 : decode cX5_meets 14 = .ok (.iconst 1, 1) := by decide +kernel
theorem dX5_meets_15 : decode cX5_meets 15 = .ok (.iload_n 0, 1) := by decide +kernel
theorem dX5_meets_16 : decode cX5_meets 16 = .ok (.ishl, 1) := by decide +kernel
theorem dX5_meets_17 : decode cX5_meets 17 = .ok (.iadd, 1) := by decide +kernel
theorem dX5_meets_18 : decode cX5_meets 18 = .ok (.if_icmp .ge 19, 3) := by decide +kernel
theorem dX5_meets_21 : decode cX5_meets 21 = .ok (.iload_n 2, 1) := by decide +kernel
theorem dX5_meets_22 : decode cX5_meets 22 = .ok (.iload 7, 2) := by decide +kernel
theorem dX5_meets_24 : decode cX5_meets 24 = .ok (.if_icmp .ge 13, 3) := by decide +kernel
theorem dX5_meets_27 : decode cX5_meets 27 = .ok (.iload 6, 2) := by decide +kernel
theorem dX5_meets_29 : decode cX5_meets 29 = .ok (.iload_n 3, 1) := by decide +kernel
theorem dX5_meets_30 : decode cX5_meets 30 = .ok (.if_icmp .ge 7, 3) := by decide +kernel
theorem dX5_meets_33 : decode cX5_meets 33 = .ok (.iconst 1, 1) := by decide +kernel
theorem dX5_meets_34 : decode cX5_meets 34 = .ok (.goto 4, 3) := by decide +kernel
theorem dX5_meets_37 : decode cX5_meets 37 = .ok (.iconst 0, 1) := by decide +kernel
theorem dX5_meets_38 : decode cX5_meets 38 = .ok (.ireturn, 1) := by decide +kernel
theorem dX5_isFree_0 : decode cX5_isFree 0 = .ok (.iconst 0, 1) := by decide +kernel
theorem dX5_isFree_1 : decode cX5_isFree 1 = .ok (.istore 5, 2) := by decide +kernel
theorem dX5_isFree_3 : decode cX5_isFree 3 = .ok (.iload 5, 2) := by decide +kernel
theorem dX5_isFree_5 : decode cX5_isFree 5 = .ok (.aload_n 0, 1) := by decide +kernel
theorem dX5_isFree_6 : decode cX5_isFree 6 = .ok (.getfield 9, 3) := by decide +kernel
theorem dX5_isFree_9 : decode cX5_isFree 9 = .ok (.iconst 1, 1) := by decide +kernel
theorem dX5_isFree_10 : decode cX5_isFree 10 = .ok (.iaload, 1) := by decide +kernel
theorem dX5_isFree_11 : decode cX5_isFree 11 = .ok (.if_icmp .ge 69, 3) := by decide +kernel
theorem dX5_isFree_14 : decode cX5_isFree 14 = .ok (.aload_n 0, 1) := by decide +kernel
theorem dX5_isFree_15 : decode cX5_isFree 15 = .ok (.iload 5, 2) := by decide +kernel
theorem dX5_isFree_17 : decode cX5_isFree 17 = .ok (.invokevirtual 34, 3) := by decide +kernel
theorem dX5_isFree_20 : decode cX5_isFree 20 = .ok (.ifCond .eq 54, 3) := by decide +kernel
theorem dX5_isFree_23 : decode cX5_isFree 23 = .ok (.iload_n 1, 1) := by decide +kernel
theorem dX5_isFree_24 : decode cX5_isFree 24 = .ok (.iload_n 2, 1) := by decide +kernel
theorem dX5_isFree_25 : decode cX5_isFree 25 = .ok (.iload_n 3, 1) := by decide +kernel
theorem dX5_isFree_26 : decode cX5_isFree 26 = .ok (.iload 4, 2) := by decide +kernel
theorem dX5_isFree_28 : decode cX5_isFree 28 = .ok (.aload_n 0, 1) := by decide +kernel
theorem dX5_isFree_29 : decode cX5_isFree 29 = .ok (.iload 5, 2) := by decide +kernel
theorem dX5_isFree_31 : decode cX5_isFree 31 = .ok (.iconst 1, 1) := by decide +kernel
theorem dX5_isFree_32 : decode cX5_isFree 32 = .ok (.invokevirtual 30, 3) := by decide +kernel
theorem dX5_isFree_35 : decode cX5_isFree 35 = .ok (.aload_n 0, 1) := by decide +kernel
theorem dX5_isFree_36 : decode cX5_isFree 36 = .ok (.iload 5, 2) := by decide +kernel
theorem dX5_isFree_38 : decode cX5_isFree 38 = .ok (.iconst 5, 1) := by decide +kernel
theorem dX5_isFree_39 : decode cX5_isFree 39 = .ok (.invokevirtual 30, 3) := by decide +kernel
theorem dX5_isFree_42 : decode cX5_isFree 42 = .ok (.aload_n 0, 1) := by decide +kernel
theorem dX5_isFree_43 : decode cX5_isFree 43 = .ok (.iload 5, 2) := by decide +kernel
theorem dX5_isFree_45 : decode cX5_isFree 45 = .ok (.bipush 6, 2) := by decide +kernel
theorem dX5_isFree_47 : decode cX5_isFree 47 = .ok (.invokevirtual 30, 3) := by decide +kernel
theorem dX5_isFree_50 : decode cX5_isFree 50 = .ok (.aload_n 0, 1) := by decide +kernel
theorem dX5_isFree_51 : decode cX5_isFree 51 = .ok (.iload 5, 2) := by decide +kernel
theorem dX5_isFree_53 : decode cX5_isFree 53 = .ok (.bipush 6, 2) := by decide +kernel
theorem dX5_isFree_55 : decode cX5_isFree 55 = .ok (.invokevirtual 30, 3) := by decide +kernel
theorem dX5_isFree_58 : decode cX5_isFree 58 = .ok (.aload_n 0, 1) := by decide +kernel
theorem dX5_isFree_59 : decode cX5_isFree 59 = .ok (.iload 5, 2) := by decide +kernel
theorem dX5_isFree_61 : decode cX5_isFree 61 = .ok (.iconst 2, 1) := by decide +kernel
theorem dX5_isFree_62 : decode cX5_isFree 62 = .ok (.invokevirtual 30, 3) := by decide +kernel
theorem dX5_isFree_65 : decode cX5_isFree 65 = .ok (.iadd, 1) := by decide +kernel
theorem dX5_isFree_66 : decode cX5_isFree 66 = .ok (.invokestatic 38, 3) := by decide +kernel
theorem dX5_isFree_69 : decode cX5_isFree 69 = .ok (.ifCond .eq 5, 3) := by decide +kernel
theorem dX5_isFree_72 : decode cX5_isFree 72 = .ok (.iconst 0, 1) := by decide +kernel
theorem dX5_isFree_73 : decode cX5_isFree 73 = .ok (.ireturn, 1) := by decide +kernel
theorem dX5_isFree_74 : decode cX5_isFree 74 = .ok (.iinc 5 1, 3) := by decide +kernel
theorem dX5_isFree_77 : decode cX5_isFree 77 = .ok (.goto (-74), 3) := by decide +kernel
theorem dX5_isFree_80 : decode cX5_isFree 80 = .ok (.iconst 0, 1) := by decide +kernel
theorem dX5_isFree_81 : decode cX5_isFree 81 = .ok (.istore 5, 2) := by decide +kernel
theorem dX5_isFree_83 : decode cX5_isFree 83 = .ok (.iload 5, 2) := by decide +kernel
theorem dX5_isFree_85 : decode cX5_isFree 85 = .ok (.aload_n 0, 1) := by decide +kernel
theorem dX5_isFree_86 : decode cX5_isFree 86 = .ok (.getfield 9, 3) := by decide +kernel
theorem dX5_isFree_89 : decode cX5_isFree 89 = .ok (.iconst 2, 1) := by decide +kernel
theorem dX5_isFree_90 : decode cX5_isFree 90 = .ok (.iaload, 1) := by decide +kernel
theorem dX5_isFree_91 : decode cX5_isFree 91 = .ok (.if_icmp .ge 68, 3) := by decide +kernel
theorem dX5_isFree_94 : decode cX5_isFree 94 = .ok (.aload_n 0, 1) := by decide +kernel
theorem dX5_isFree_95 : decode cX5_isFree 95 = .ok (.iload 5, 2) := by decide +kernel
theorem dX5_isFree_97 : decode cX5_isFree 97 = .ok (.iconst 3, 1) := by decide +kernel
theorem dX5_isFree_98 : decode cX5_isFree 98 = .ok (.invokevirtual 42, 3) := by decide +kernel
theorem dX5_isFree_101 : decode cX5_isFree 101 = .ok (.ifCond .le 52, 3) := by decide +kernel
theorem dX5_isFree_104 : decode cX5_isFree 104 = .ok (.iload_n 1, 1) := by decide +kernel
theorem dX5_isFree_105 : decode cX5_isFree 105 = .ok (.iload_n 2, 1) := by decide +kernel
theorem dX5_isFree_106 : decode cX5_isFree 106 = .ok (.iload_n 3, 1) := by decide +kernel
theorem dX5_isFree_107 : decode cX5_isFree 107 = .ok (.iload 4, 2) := by decide +kernel
theorem dX5_isFree_109 : decode cX5_isFree 109 = .ok (.aload_n 0, 1) := by decide +kernel
theorem dX5_isFree_110 : decode cX5_isFree 110 = .ok (.iload 5, 2) := by decide +kernel
theorem dX5_isFree_112 : decode cX5_isFree 112 = .ok (.iconst 0, 1) := by decide +kernel
theorem dX5_isFree_113 : decode cX5_isFree 113 = .ok (.invokevirtual 42, 3) := by decide +kernel
theorem dX5_isFree_116 : decode cX5_isFree 116 = .ok (.aload_n 0, 1) := by decide +kernel
theorem dX5_isFree_117 : decode cX5_isFree 117 = .ok (.iload 5, 2) := by decide +kernel
theorem dX5_isFree_119 : decode cX5_isFree 119 = .ok (.iconst 1, 1) := by decide +kernel
theorem dX5_isFree_120 : decode cX5_isFree 120 = .ok (.invokevirtual 42, 3) := by decide +kernel
theorem dX5_isFree_123 : decode cX5_isFree 123 = .ok (.aload_n 0, 1) := by decide +kernel
theorem dX5_isFree_124 : decode cX5_isFree 124 = .ok (.iload 5, 2) := by decide +kernel
theorem dX5_isFree_126 : decode cX5_isFree 126 = .ok (.iconst 2, 1) := by decide +kernel
theorem dX5_isFree_127 : decode cX5_isFree 127 = .ok (.invokevirtual 42, 3) := by decide +kernel
theorem dX5_isFree_130 : decode cX5_isFree 130 = .ok (.aload_n 0, 1) := by decide +kernel
theorem dX5_isFree_131 : decode cX5_isFree 131 = .ok (.iload 5, 2) := by decide +kernel
theorem dX5_isFree_133 : decode cX5_isFree 133 = .ok (.iconst 2, 1) := by decide +kernel
theorem dX5_isFree_134 : decode cX5_isFree 134 = .ok (.invokevirtual 42, 3) := by decide +kernel
theorem dX5_isFree_137 : decode cX5_isFree 137 = .ok (.aload_n 0, 1) := by decide +kernel
theorem dX5_isFree_138 : decode cX5_isFree 138 = .ok (.iload 5, 2) := by decide +kernel
theorem dX5_isFree_140 : decode cX5_isFree 140 = .ok (.iconst 3, 1) := by decide +kernel
theorem dX5_isFree_141 : decode cX5_isFree 141 = .ok (.invokevirtual 42, 3) := by decide +kernel
theorem dX5_isFree_144 : decode cX5_isFree 144 = .ok (.iadd, 1) := by decide +kernel
theorem dX5_isFree_145 : decode cX5_isFree 145 = .ok (.invokestatic 38, 3) := by decide +kernel
theorem dX5_isFree_148 : decode cX5_isFree 148 = .ok (.ifCond .eq 5, 3) := by decide +kernel
theorem dX5_isFree_151 : decode cX5_isFree 151 = .ok (.iconst 0, 1) := by decide +kernel
theorem dX5_isFree_152 : decode cX5_isFree 152 = .ok (.ireturn, 1) := by decide +kernel
theorem dX5_isFree_153 : decode cX5_isFree 153 = .ok (.iinc 5 1, 3) := by decide +kernel
theorem dX5_isFree_156 : decode cX5_isFree 156 = .ok (.goto (-73), 3) := by decide +kernel
theorem dX5_isFree_159 : decode cX5_isFree 159 = .ok (.iconst 1, 1) := by decide +kernel
theorem dX5_isFree_160 : decode cX5_isFree 160 = .ok (.ireturn, 1) := by decide +kernel
theorem dX5_lowest_0 : decode cX5_lowest 0 = .ok (.iconst 0, 1) := by decide +kernel
theorem dX5_lowest_1 : decode cX5_lowest 1 = .ok (.istore 4, 2) := by decide +kernel
theorem dX5_lowest_3 : decode cX5_lowest 3 = .ok (.iload 4, 2) := by decide +kernel
theorem dX5_lowest_5 : decode cX5_lowest 5 = .ok (.bipush 32, 2) := by decide +kernel
theorem dX5_lowest_7 : decode cX5_lowest 7 = .ok (.if_icmp .ge 31, 3) := by decide +kernel
theorem dX5_lowest_10 : decode cX5_lowest 10 = .ok (.aload_n 0, 1) := by decide +kernel
theorem dX5_lowest_11 : decode cX5_lowest 11 = .ok (.iload_n 1, 1) := by decide +kernel
theorem dX5_lowest_12 : decode cX5_lowest 12 = .ok (.iload 4, 2) := by decide +kernel
theorem dX5_lowest_14 : decode cX5_lowest 14 = .ok (.iload_n 2, 1) := by decide +kernel
theorem dX5_lowest_15 : decode cX5_lowest 15 = .ok (.iload_n 2, 1) := by decide +kernel
theorem dX5_lowest_16 : decode cX5_lowest 16 = .ok (.iload_n 3, 1) := by decide +kernel
theorem dX5_lowest_17 : decode cX5_lowest 17 = .ok (.iadd, 1) := by decide +kernel
theorem dX5_lowest_18 : decode cX5_lowest 18 = .ok (.invokevirtual 45, 3) := by decide +kernel
theorem dX5_lowest_21 : decode cX5_lowest 21 = .ok (.ifCond .eq 6, 3) := by decide +kernel
theorem dX5_lowest_24 : decode cX5_lowest 24 = .ok (.iload 4, 2) := by decide +kernel
theorem dX5_lowest_26 : decode cX5_lowest 26 = .ok (.ireturn, 1) := by decide +kernel
theorem dX5_lowest_27 : decode cX5_lowest 27 = .ok (.iload 4, 2) := by decide +kernel
theorem dX5_lowest_29 : decode cX5_lowest 29 = .ok (.iconst 1, 1) := by decide +kernel
theorem dX5_lowest_30 : decode cX5_lowest 30 = .ok (.iload_n 1, 1) := by decide +kernel
theorem dX5_lowest_31 : decode cX5_lowest 31 = .ok (.ishl, 1) := by decide +kernel
theorem dX5_lowest_32 : decode cX5_lowest 32 = .ok (.iadd, 1) := by decide +kernel
theorem dX5_lowest_33 : decode cX5_lowest 33 = .ok (.istore 4, 2) := by decide +kernel
theorem dX5_lowest_35 : decode cX5_lowest 35 = .ok (.goto (-32), 3) := by decide +kernel
theorem dX5_lowest_38 : decode cX5_lowest 38 = .ok (.iconst (-1), 1) := by decide +kernel
theorem dX5_lowest_39 : decode cX5_lowest 39 = .ok (.ireturn, 1) := by decide +kernel
theorem dX5_earliest_0 : decode cX5_earliest 0 = .ok (.ldc 51, 2) := by decide +kernel
theorem dX5_earliest_2 : decode cX5_earliest 2 = .ok (.istore_n 3, 1) := by decide +kernel
theorem dX5_earliest_3 : decode cX5_earliest 3 = .ok (.iconst (-1), 1) := by decide +kernel
theorem dX5_earliest_4 : decode cX5_earliest 4 = .ok (.istore 4, 2) := by decide +kernel
theorem dX5_earliest_6 : decode cX5_earliest 6 = .ok (.iload 4, 2) := by decide +kernel
theorem dX5_earliest_8 : decode cX5_earliest 8 = .ok (.aload_n 0, 1) := by decide +kernel
theorem dX5_earliest_9 : decode cX5_earliest 9 = .ok (.getfield 9, 3) := by decide +kernel
theorem dX5_earliest_12 : decode cX5_earliest 12 = .ok (.iconst 1, 1) := by decide +kernel
theorem dX5_earliest_13 : decode cX5_earliest 13 = .ok (.iaload, 1) := by decide +kernel
theorem dX5_earliest_14 : decode cX5_earliest 14 = .ok (.aload_n 0, 1) := by decide +kernel
theorem dX5_earliest_15 : decode cX5_earliest 15 = .ok (.getfield 9, 3) := by decide +kernel
theorem dX5_earliest_18 : decode cX5_earliest 18 = .ok (.iconst 2, 1) := by decide +kernel
theorem dX5_earliest_19 : decode cX5_earliest 19 = .ok (.iaload, 1) := by decide +kernel
theorem dX5_earliest_20 : decode cX5_earliest 20 = .ok (.iadd, 1) := by decide +kernel
theorem dX5_earliest_21 : decode cX5_earliest 21 = .ok (.if_icmp .ge 138, 3) := by decide +kernel
theorem dX5_earliest_24 : decode cX5_earliest 24 = .ok (.aload_n 0, 1) := by decide +kernel
theorem dX5_earliest_25 : decode cX5_earliest 25 = .ok (.getfield 9, 3) := by decide +kernel
theorem dX5_earliest_28 : decode cX5_earliest 28 = .ok (.iconst 0, 1) := by decide +kernel
theorem dX5_earliest_29 : decode cX5_earliest 29 = .ok (.iaload, 1) := by decide +kernel
theorem dX5_earliest_30 : decode cX5_earliest 30 = .ok (.istore 5, 2) := by decide +kernel
theorem dX5_earliest_32 : decode cX5_earliest 32 = .ok (.iload 4, 2) := by decide +kernel
theorem dX5_earliest_34 : decode cX5_earliest 34 = .ok (.aload_n 0, 1) := by decide +kernel
theorem dX5_earliest_35 : decode cX5_earliest 35 = .ok (.getfield 9, 3) := by decide +kernel
theorem dX5_earliest_38 : decode cX5_earliest 38 = .ok (.iconst 1, 1) := by decide +kernel
theorem dX5_earliest_39 : decode cX5_earliest 39 = .ok (.iaload, 1) := by decide +kernel
theorem dX5_earliest_40 : decode cX5_earliest 40 = .ok (.if_icmp .lt 47, 3) := by decide +kernel
theorem dX5_earliest_43 : decode cX5_earliest 43 = .ok (.iload 4, 2) := by decide +kernel
theorem dX5_earliest_45 : decode cX5_earliest 45 = .ok (.aload_n 0, 1) := by decide +kernel
theorem dX5_earliest_46 : decode cX5_earliest 46 = .ok (.getfield 9, 3) := by decide +kernel
theorem dX5_earliest_49 : decode cX5_earliest 49 = .ok (.iconst 1, 1) := by decide +kernel
theorem dX5_earliest_50 : decode cX5_earliest 50 = .ok (.iaload, 1) := by decide +kernel
theorem dX5_earliest_51 : decode cX5_earliest 51 = .ok (.isub, 1) := by decide +kernel
theorem dX5_earliest_52 : decode cX5_earliest 52 = .ok (.istore 6, 2) := by decide +kernel
theorem dX5_earliest_54 : decode cX5_earliest 54 = .ok (.aload_n 0, 1) := by decide +kernel
theorem dX5_earliest_55 : decode cX5_earliest 55 = .ok (.iload 6, 2) := by decide +kernel
theorem dX5_earliest_57 : decode cX5_earliest 57 = .ok (.iconst 3, 1) := by decide +kernel
theorem dX5_earliest_58 : decode cX5_earliest 58 = .ok (.invokevirtual 42, 3) := by decide +kernel
theorem dX5_earliest_61 : decode cX5_earliest 61 = .ok (.ifCond .ne 6, 3) := by decide +kernel
theorem dX5_earliest_64 : decode cX5_earliest 64 = .ok (.goto 89, 3) := by decide +kernel
theorem dX5_earliest_67 : decode cX5_earliest 67 = .ok (.aload_n 0, 1) := by decide +kernel
theorem dX5_earliest_68 : decode cX5_earliest 68 = .ok (.iload 6, 2) := by decide +kernel
theorem dX5_earliest_70 : decode cX5_earliest 70 = .ok (.iconst 2, 1) := by decide +kernel
theorem dX5_earliest_71 : decode cX5_earliest 71 = .ok (.invokevirtual 42, 3) := by decide +kernel
theorem dX5_earliest_74 : decode cX5_earliest 74 = .ok (.aload_n 0, 1) := by decide +kernel
theorem dX5_earliest_75 : decode cX5_earliest 75 = .ok (.iload 6, 2) := by decide +kernel
theorem dX5_earliest_77 : decode cX5_earliest 77 = .ok (.iconst 3, 1) := by decide +kernel
theorem dX5_earliest_78 : decode cX5_earliest 78 = .ok (.invokevirtual 42, 3) := by decide +kernel
theorem dX5_earliest_81 : decode cX5_earliest 81 = .ok (.iadd, 1) := by decide +kernel
theorem dX5_earliest_82 : decode cX5_earliest 82 = .ok (.istore 5, 2) := by decide +kernel
theorem dX5_earliest_84 : decode cX5_earliest 84 = .ok (.goto 38, 3) := by decide +kernel
theorem dX5_earliest_87 : decode cX5_earliest 87 = .ok (.iload 4, 2) := by decide +kernel
theorem dX5_earliest_89 : decode cX5_earliest 89 = .ok (.ifCond .lt 33, 3) := by decide +kernel
theorem dX5_earliest_92 : decode cX5_earliest 92 = .ok (.aload_n 0, 1) := by decide +kernel
theorem dX5_earliest_93 : decode cX5_earliest 93 = .ok (.iload 4, 2) := by decide +kernel
theorem dX5_earliest_95 : decode cX5_earliest 95 = .ok (.invokevirtual 34, 3) := by decide +kernel
theorem dX5_earliest_98 : decode cX5_earliest 98 = .ok (.ifCond .ne 6, 3) := by decide +kernel
theorem dX5_earliest_101 : decode cX5_earliest 101 = .ok (.goto 52, 3) := by decide +kernel
theorem dX5_earliest_104 : decode cX5_earliest 104 = .ok (.aload_n 0, 1) := by decide +kernel
theorem dX5_earliest_105 : decode cX5_earliest 105 = .ok (.iload 4, 2) := by decide +kernel
theorem dX5_earliest_107 : decode cX5_earliest 107 = .ok (.bipush 6, 2) := by decide +kernel
theorem dX5_earliest_109 : decode cX5_earliest 109 = .ok (.invokevirtual 30, 3) := by decide +kernel
theorem dX5_earliest_112 : decode cX5_earliest 112 = .ok (.aload_n 0, 1) := by decide +kernel
theorem dX5_earliest_113 : decode cX5_earliest 113 = .ok (.iload 4, 2) := by decide +kernel
theorem dX5_earliest_115 : decode cX5_earliest 115 = .ok (.iconst 2, 1) := by decide +kernel
theorem dX5_earliest_116 : decode cX5_earliest 116 = .ok (.invokevirtual 30, 3) := by decide +kernel
theorem dX5_earliest_119 : decode cX5_earliest 119 = .ok (.iadd, 1) := by decide +kernel
theorem dX5_earliest_120 : decode cX5_earliest 120 = .ok (.istore 5, 2) := by decide +kernel
theorem dX5_earliest_122 : decode cX5_earliest 122 = .ok (.iload 5, 2) := by decide +kernel
theorem dX5_earliest_124 : decode cX5_earliest 124 = .ok (.aload_n 0, 1) := by decide +kernel
theorem dX5_earliest_125 : decode cX5_earliest 125 = .ok (.getfield 9, 3) := by decide +kernel
theorem dX5_earliest_128 : decode cX5_earliest 128 = .ok (.iconst 0, 1) := by decide +kernel
theorem dX5_earliest_129 : decode cX5_earliest 129 = .ok (.iaload, 1) := by decide +kernel
theorem dX5_earliest_130 : decode cX5_earliest 130 = .ok (.if_icmp .lt 23, 3) := by decide +kernel
theorem dX5_earliest_133 : decode cX5_earliest 133 = .ok (.iload 5, 2) := by decide +kernel
theorem dX5_earliest_135 : decode cX5_earliest 135 = .ok (.iload_n 3, 1) := by decide +kernel
theorem dX5_earliest_136 : decode cX5_earliest 136 = .ok (.if_icmp .ge 17, 3) := by decide +kernel
theorem dX5_earliest_139 : decode cX5_earliest 139 = .ok (.aload_n 0, 1) := by decide +kernel
theorem dX5_earliest_140 : decode cX5_earliest 140 = .ok (.iload_n 1, 1) := by decide +kernel
theorem dX5_earliest_141 : decode cX5_earliest 141 = .ok (.iload 5, 2) := by decide +kernel
theorem dX5_earliest_143 : decode cX5_earliest 143 = .ok (.iload_n 2, 1) := by decide +kernel
theorem dX5_earliest_144 : decode cX5_earliest 144 = .ok (.invokevirtual 52, 3) := by decide +kernel
theorem dX5_earliest_147 : decode cX5_earliest 147 = .ok (.ifCond .lt 6, 3) := by decide +kernel
theorem dX5_earliest_150 : decode cX5_earliest 150 = .ok (.iload 5, 2) := by decide +kernel
theorem dX5_earliest_152 : decode cX5_earliest 152 = .ok (.istore_n 3, 1) := by decide +kernel
theorem dX5_earliest_153 : decode cX5_earliest 153 = .ok (.iinc 4 1, 3) := by decide +kernel
theorem dX5_earliest_156 : decode cX5_earliest 156 = .ok (.goto (-150), 3) := by decide +kernel
theorem dX5_earliest_159 : decode cX5_earliest 159 = .ok (.iload_n 3, 1) := by decide +kernel
theorem dX5_earliest_160 : decode cX5_earliest 160 = .ok (.ireturn, 1) := by decide +kernel
theorem dX5_plans_0 : decode cX5_plans 0 = .ok (.aload_n 0, 1) := by decide +kernel
theorem dX5_plans_1 : decode cX5_plans 1 = .ok (.aload_n 0, 1) := by decide +kernel
theorem dX5_plans_2 : decode cX5_plans 2 = .ok (.iload_n 1, 1) := by decide +kernel
theorem dX5_plans_3 : decode cX5_plans 3 = .ok (.iconst 1, 1) := by decide +kernel
theorem dX5_plans_4 : decode cX5_plans 4 = .ok (.invokevirtual 30, 3) := by decide +kernel
theorem dX5_plans_7 : decode cX5_plans 7 = .ok (.aload_n 0, 1) := by decide +kernel
theorem dX5_plans_8 : decode cX5_plans 8 = .ok (.iload_n 1, 1) := by decide +kernel
theorem dX5_plans_9 : decode cX5_plans 9 = .ok (.iconst 2, 1) := by decide +kernel
theorem dX5_plans_10 : decode cX5_plans 10 = .ok (.invokevirtual 30, 3) := by decide +kernel
theorem dX5_plans_13 : decode cX5_plans 13 = .ok (.invokevirtual 56, 3) := by decide +kernel
theorem dX5_plans_16 : decode cX5_plans 16 = .ok (.istore_n 2, 1) := by decide +kernel
theorem dX5_plans_17 : decode cX5_plans 17 = .ok (.aload_n 0, 1) := by decide +kernel
theorem dX5_plans_18 : decode cX5_plans 18 = .ok (.iload_n 1, 1) := by decide +kernel
theorem dX5_plans_19 : decode cX5_plans 19 = .ok (.iconst 5, 1) := by decide +kernel
theorem dX5_plans_20 : decode cX5_plans 20 = .ok (.aload_n 0, 1) := by decide +kernel
theorem dX5_plans_21 : decode cX5_plans 21 = .ok (.aload_n 0, 1) := by decide +kernel
theorem dX5_plans_22 : decode cX5_plans 22 = .ok (.iload_n 1, 1) := by decide +kernel
theorem dX5_plans_23 : decode cX5_plans 23 = .ok (.iconst 1, 1) := by decide +kernel
theorem dX5_plans_24 : decode cX5_plans 24 = .ok (.invokevirtual 30, 3) := by decide +kernel
theorem dX5_plans_27 : decode cX5_plans 27 = .ok (.iload_n 2, 1) := by decide +kernel
theorem dX5_plans_28 : decode cX5_plans 28 = .ok (.aload_n 0, 1) := by decide +kernel
theorem dX5_plans_29 : decode cX5_plans 29 = .ok (.iload_n 1, 1) := by decide +kernel
theorem dX5_plans_30 : decode cX5_plans 30 = .ok (.iconst 2, 1) := by decide +kernel
theorem dX5_plans_31 : decode cX5_plans 31 = .ok (.invokevirtual 30, 3) := by decide +kernel
theorem dX5_plans_34 : decode cX5_plans 34 = .ok (.invokevirtual 52, 3) := by decide +kernel
theorem dX5_plans_37 : decode cX5_plans 37 = .ok (.invokevirtual 59, 3) := by decide +kernel
theorem dX5_plans_40 : decode cX5_plans 40 = .ok (.aload_n 0, 1) := by decide +kernel
theorem dX5_plans_41 : decode cX5_plans 41 = .ok (.iload_n 1, 1) := by decide +kernel
theorem dX5_plans_42 : decode cX5_plans 42 = .ok (.bipush 6, 2) := by decide +kernel
theorem dX5_plans_44 : decode cX5_plans 44 = .ok (.iload_n 2, 1) := by decide +kernel
theorem dX5_plans_45 : decode cX5_plans 45 = .ok (.invokevirtual 59, 3) := by decide +kernel
theorem dX5_plans_48 : decode cX5_plans 48 = .ok (.aload_n 0, 1) := by decide +kernel
theorem dX5_plans_49 : decode cX5_plans 49 = .ok (.iload_n 1, 1) := by decide +kernel
theorem dX5_plans_50 : decode cX5_plans 50 = .ok (.iconst 4, 1) := by decide +kernel
theorem dX5_plans_51 : decode cX5_plans 51 = .ok (.iconst 0, 1) := by decide +kernel
theorem dX5_plans_52 : decode cX5_plans 52 = .ok (.invokevirtual 59, 3) := by decide +kernel
theorem dX5_plans_55 : decode cX5_plans 55 = .ok (.return_, 1) := by decide +kernel
theorem dX5_usageOf_0 : decode cX5_usageOf 0 = .ok (.aload_n 0, 1) := by decide +kernel
theorem dX5_usageOf_1 : decode cX5_usageOf 1 = .ok (.iload_n 1, 1) := by decide +kernel
theorem dX5_usageOf_2 : decode cX5_usageOf 2 = .ok (.bipush 13, 2) := by decide +kernel
theorem dX5_usageOf_4 : decode cX5_usageOf 4 = .ok (.invokevirtual 30, 3) := by decide +kernel
theorem dX5_usageOf_7 : decode cX5_usageOf 7 = .ok (.aload_n 0, 1) := by decide +kernel
theorem dX5_usageOf_8 : decode cX5_usageOf 8 = .ok (.iload_n 1, 1) := by decide +kernel
theorem dX5_usageOf_9 : decode cX5_usageOf 9 = .ok (.iconst 4, 1) := by decide +kernel
theorem dX5_usageOf_10 : decode cX5_usageOf 10 = .ok (.invokevirtual 30, 3) := by decide +kernel
theorem dX5_usageOf_13 : decode cX5_usageOf 13 = .ok (.iconst 1, 1) := by decide +kernel
theorem dX5_usageOf_14 : decode cX5_usageOf 14 = .ok (.if_icmp .ne 20, 3) := by decide +kernel
theorem dX5_usageOf_17 : decode cX5_usageOf 17 = .ok (.aload_n 0, 1) := by decide +kernel
theorem dX5_usageOf_18 : decode cX5_usageOf 18 = .ok (.getfield 9, 3) := by decide +kernel
theorem dX5_usageOf_21 : decode cX5_usageOf 21 = .ok (.iconst 0, 1) := by decide +kernel
theorem dX5_usageOf_22 : decode cX5_usageOf 22 = .ok (.iaload, 1) := by decide +kernel
theorem dX5_usageOf_23 : decode cX5_usageOf 23 = .ok (.aload_n 0, 1) := by decide +kernel
theorem dX5_usageOf_24 : decode cX5_usageOf 24 = .ok (.iload_n 1, 1) := by decide +kernel
theorem dX5_usageOf_25 : decode cX5_usageOf 25 = .ok (.bipush 6, 2) := by decide +kernel
theorem dX5_usageOf_27 : decode cX5_usageOf 27 = .ok (.invokevirtual 30, 3) := by decide +kernel
theorem dX5_usageOf_30 : decode cX5_usageOf 30 = .ok (.isub, 1) := by decide +kernel
theorem dX5_usageOf_31 : decode cX5_usageOf 31 = .ok (.goto 4, 3) := by decide +kernel
theorem dX5_usageOf_34 : decode cX5_usageOf 34 = .ok (.iconst 0, 1) := by decide +kernel
theorem dX5_usageOf_35 : decode cX5_usageOf 35 = .ok (.iadd, 1) := by decide +kernel
theorem dX5_usageOf_36 : decode cX5_usageOf 36 = .ok (.istore_n 2, 1) := by decide +kernel
theorem dX5_usageOf_37 : decode cX5_usageOf 37 = .ok (.iload_n 2, 1) := by decide +kernel
theorem dX5_usageOf_38 : decode cX5_usageOf 38 = .ok (.aload_n 0, 1) := by decide +kernel
theorem dX5_usageOf_39 : decode cX5_usageOf 39 = .ok (.iload_n 1, 1) := by decide +kernel
theorem dX5_usageOf_40 : decode cX5_usageOf 40 = .ok (.iconst 1, 1) := by decide +kernel
theorem dX5_usageOf_41 : decode cX5_usageOf 41 = .ok (.invokevirtual 30, 3) := by decide +kernel
theorem dX5_usageOf_44 : decode cX5_usageOf 44 = .ok (.ishl, 1) := by decide +kernel
theorem dX5_usageOf_45 : decode cX5_usageOf 45 = .ok (.ireturn, 1) := by decide +kernel
theorem dX5_used_0 : decode cX5_used 0 = .ok (.iconst 0, 1) := by decide +kernel
theorem dX5_used_1 : decode cX5_used 1 = .ok (.istore_n 2, 1) := by decide +kernel
theorem dX5_used_2 : decode cX5_used 2 = .ok (.iconst 0, 1) := by decide +kernel
theorem dX5_used_3 : decode cX5_used 3 = .ok (.istore_n 3, 1) := by decide +kernel
theorem dX5_used_4 : decode cX5_used 4 = .ok (.iload_n 3, 1) := by decide +kernel
theorem dX5_used_5 : decode cX5_used 5 = .ok (.aload_n 0, 1) := by decide +kernel
theorem dX5_used_6 : decode cX5_used 6 = .ok (.getfield 9, 3) := by decide +kernel
theorem dX5_used_9 : decode cX5_used 9 = .ok (.iconst 1, 1) := by decide +kernel
theorem dX5_used_10 : decode cX5_used 10 = .ok (.iaload, 1) := by decide +kernel
theorem dX5_used_11 : decode cX5_used 11 = .ok (.if_icmp .ge 27, 3) := by decide +kernel
theorem dX5_used_14 : decode cX5_used 14 = .ok (.aload_n 0, 1) := by decide +kernel
theorem dX5_used_15 : decode cX5_used 15 = .ok (.iload_n 3, 1) := by decide +kernel
theorem dX5_used_16 : decode cX5_used 16 = .ok (.iconst 0, 1) := by decide +kernel
theorem dX5_used_17 : decode cX5_used 17 = .ok (.invokevirtual 30, 3) := by decide +kernel
theorem dX5_used_20 : decode cX5_used 20 = .ok (.iload_n 1, 1) := by decide +kernel
theorem dX5_used_21 : decode cX5_used 21 = .ok (.if_icmp .ne 11, 3) := by decide +kernel
theorem dX5_used_24 : decode cX5_used 24 = .ok (.iload_n 2, 1) := by decide +kernel
theorem dX5_used_25 : decode cX5_used 25 = .ok (.aload_n 0, 1) := by decide +kernel
theorem dX5_used_26 : decode cX5_used 26 = .ok (.iload_n 3, 1) := by decide +kernel
theorem dX5_used_27 : decode cX5_used 27 = .ok (.invokevirtual 63, 3) := by decide +kernel
theorem dX5_used_30 : decode cX5_used 30 = .ok (.iadd, 1) := by decide +kernel
theorem dX5_used_31 : decode cX5_used 31 = .ok (.istore_n 2, 1) := by decide +kernel
theorem dX5_used_32 : decode cX5_used 32 = .ok (.iinc 3 1, 3) := by decide +kernel
theorem dX5_used_35 : decode cX5_used 35 = .ok (.goto (-31), 3) := by decide +kernel
theorem dX5_used_38 : decode cX5_used 38 = .ok (.iload_n 2, 1) := by decide +kernel
theorem dX5_used_39 : decode cX5_used 39 = .ok (.ireturn, 1) := by decide +kernel
theorem dX5_goesAhead_0 : decode cX5_goesAhead 0 = .ok (.aload_n 0, 1) := by decide +kernel
theorem dX5_goesAhead_1 : decode cX5_goesAhead 1 = .ok (.getfield 9, 3) := by decide +kernel
theorem dX5_goesAhead_4 : decode cX5_goesAhead 4 = .ok (.iconst 3, 1) := by decide +kernel
theorem dX5_goesAhead_5 : decode cX5_goesAhead 5 = .ok (.iaload, 1) := by decide +kernel
theorem dX5_goesAhead_6 : decode cX5_goesAhead 6 = .ok (.iconst 1, 1) := by decide +kernel
theorem dX5_goesAhead_7 : decode cX5_goesAhead 7 = .ok (.if_icmp .ne 59, 3) := by decide +kernel
theorem dX5_goesAhead_10 : decode cX5_goesAhead 10 = .ok (.aload_n 0, 1) := by decide +kernel
theorem dX5_goesAhead_11 : decode cX5_goesAhead 11 = .ok (.getfield 19, 3) := by decide +kernel
theorem dX5_goesAhead_14 : decode cX5_goesAhead 14 = .ok (.aload_n 0, 1) := by decide +kernel
theorem dX5_goesAhead_15 : decode cX5_goesAhead 15 = .ok (.iload_n 1, 1) := by decide +kernel
theorem dX5_goesAhead_16 : decode cX5_goesAhead 16 = .ok (.iconst 0, 1) := by decide +kernel
theorem dX5_goesAhead_17 : decode cX5_goesAhead 17 = .ok (.invokevirtual 30, 3) := by decide +kernel
theorem dX5_goesAhead_20 : decode cX5_goesAhead 20 = .ok (.iaload, 1) := by decide +kernel
theorem dX5_goesAhead_21 : decode cX5_goesAhead 21 = .ok (.aload_n 0, 1) := by decide +kernel
theorem dX5_goesAhead_22 : decode cX5_goesAhead 22 = .ok (.getfield 19, 3) := by decide +kernel
theorem dX5_goesAhead_25 : decode cX5_goesAhead 25 = .ok (.aload_n 0, 1) := by decide +kernel
theorem dX5_goesAhead_26 : decode cX5_goesAhead 26 = .ok (.iload_n 2, 1) := by decide +kernel
theorem dX5_goesAhead_27 : decode cX5_goesAhead 27 = .ok (.iconst 0, 1) := by decide +kernel
theorem dX5_goesAhead_28 : decode cX5_goesAhead 28 = .ok (.invokevirtual 30, 3) := by decide +kernel
theorem dX5_goesAhead_31 : decode cX5_goesAhead 31 = .ok (.iaload, 1) := by decide +kernel
theorem dX5_goesAhead_32 : decode cX5_goesAhead 32 = .ok (.if_icmp .eq 34, 3) := by decide +kernel
theorem dX5_goesAhead_35 : decode cX5_goesAhead 35 = .ok (.aload_n 0, 1) := by decide +kernel
theorem dX5_goesAhead_36 : decode cX5_goesAhead 36 = .ok (.getfield 19, 3) := by decide +kernel
theorem dX5_goesAhead_39 : decode cX5_goesAhead 39 = .ok (.aload_n 0, 1) := by decide +kernel
theorem dX5_goesAhead_40 : decode cX5_goesAhead 40 = .ok (.iload_n 1, 1) := by decide +kernel
theorem dX5_goesAhead_41 : decode cX5_goesAhead 41 = .ok (.iconst 0, 1) := by decide +kernel
theorem dX5_goesAhead_42 : decode cX5_goesAhead 42 = .ok (.invokevirtual 30, 3) := by decide +kernel
theorem dX5_goesAhead_45 : decode cX5_goesAhead 45 = .ok (.iaload, 1) := by decide +kernel
theorem dX5_goesAhead_46 : decode cX5_goesAhead 46 = .ok (.aload_n 0, 1) := by decide +kernel
theorem dX5_goesAhead_47 : decode cX5_goesAhead 47 = .ok (.getfield 19, 3) := by decide +kernel
theorem dX5_goesAhead_50 : decode cX5_goesAhead 50 = .ok (.aload_n 0, 1) := by decide +kernel
theorem dX5_goesAhead_51 : decode cX5_goesAhead 51 = .ok (.iload_n 2, 1) := by decide +kernel
theorem dX5_goesAhead_52 : decode cX5_goesAhead 52 = .ok (.iconst 0, 1) := by decide +kernel
theorem dX5_goesAhead_53 : decode cX5_goesAhead 53 = .ok (.invokevirtual 30, 3) := by decide +kernel
theorem dX5_goesAhead_56 : decode cX5_goesAhead 56 = .ok (.iaload, 1) := by decide +kernel
theorem dX5_goesAhead_57 : decode cX5_goesAhead 57 = .ok (.if_icmp .ge 7, 3) := by decide +kernel
theorem dX5_goesAhead_60 : decode cX5_goesAhead 60 = .ok (.iconst 1, 1) := by decide +kernel
theorem dX5_goesAhead_61 : decode cX5_goesAhead 61 = .ok (.goto 4, 3) := by decide +kernel
theorem dX5_goesAhead_64 : decode cX5_goesAhead 64 = .ok (.iconst 0, 1) := by decide +kernel
theorem dX5_goesAhead_65 : decode cX5_goesAhead 65 = .ok (.ireturn, 1) := by decide +kernel
theorem dX5_goesAhead_66 : decode cX5_goesAhead 66 = .ok (.aload_n 0, 1) := by decide +kernel
theorem dX5_goesAhead_67 : decode cX5_goesAhead 67 = .ok (.iload_n 1, 1) := by decide +kernel
theorem dX5_goesAhead_68 : decode cX5_goesAhead 68 = .ok (.bipush 6, 2) := by decide +kernel
theorem dX5_goesAhead_70 : decode cX5_goesAhead 70 = .ok (.invokevirtual 30, 3) := by decide +kernel
theorem dX5_goesAhead_73 : decode cX5_goesAhead 73 = .ok (.aload_n 0, 1) := by decide +kernel
theorem dX5_goesAhead_74 : decode cX5_goesAhead 74 = .ok (.iload_n 2, 1) := by decide +kernel
theorem dX5_goesAhead_75 : decode cX5_goesAhead 75 = .ok (.bipush 6, 2) := by decide +kernel
theorem dX5_goesAhead_77 : decode cX5_goesAhead 77 = .ok (.invokevirtual 30, 3) := by decide +kernel
theorem dX5_goesAhead_80 : decode cX5_goesAhead 80 = .ok (.if_icmp .eq 28, 3) := by decide +kernel
theorem dX5_goesAhead_83 : decode cX5_goesAhead 83 = .ok (.aload_n 0, 1) := by decide +kernel
theorem dX5_goesAhead_84 : decode cX5_goesAhead 84 = .ok (.iload_n 1, 1) := by decide +kernel
theorem dX5_goesAhead_85 : decode cX5_goesAhead 85 = .ok (.bipush 6, 2) := by decide +kernel
theorem dX5_goesAhead_87 : decode cX5_goesAhead 87 = .ok (.invokevirtual 30, 3) := by decide +kernel
theorem dX5_goesAhead_90 : decode cX5_goesAhead 90 = .ok (.aload_n 0, 1) := by decide +kernel
theorem dX5_goesAhead_91 : decode cX5_goesAhead 91 = .ok (.iload_n 2, 1) := by decide +kernel
theorem dX5_goesAhead_92 : decode cX5_goesAhead 92 = .ok (.bipush 6, 2) := by decide +kernel
theorem dX5_goesAhead_94 : decode cX5_goesAhead 94 = .ok (.invokevirtual 30, 3) := by decide +kernel
theorem dX5_goesAhead_97 : decode cX5_goesAhead 97 = .ok (.if_icmp .ge 7, 3) := by decide +kernel
theorem dX5_goesAhead_100 : decode cX5_goesAhead 100 = .ok (.iconst 1, 1) := by decide +kernel
theorem dX5_goesAhead_101 : decode cX5_goesAhead 101 = .ok (.goto 17, 3) := by decide +kernel
theorem dX5_goesAhead_104 : decode cX5_goesAhead 104 = .ok (.iconst 0, 1) := by decide +kernel
theorem dX5_goesAhead_105 : decode cX5_goesAhead 105 = .ok (.goto 13, 3) := by decide +kernel
theorem dX5_goesAhead_108 : decode cX5_goesAhead 108 = .ok (.iload_n 1, 1) := by decide +kernel
theorem dX5_goesAhead_109 : decode cX5_goesAhead 109 = .ok (.iload_n 2, 1) := by decide +kernel
theorem dX5_goesAhead_110 : decode cX5_goesAhead 110 = .ok (.if_icmp .ge 7, 3) := by decide +kernel
theorem dX5_goesAhead_113 : decode cX5_goesAhead 113 = .ok (.iconst 1, 1) := by decide +kernel
theorem dX5_goesAhead_114 : decode cX5_goesAhead 114 = .ok (.goto 4, 3) := by decide +kernel
theorem dX5_goesAhead_117 : decode cX5_goesAhead 117 = .ok (.iconst 0, 1) := by decide +kernel
theorem dX5_goesAhead_118 : decode cX5_goesAhead 118 = .ok (.ireturn, 1) := by decide +kernel
theorem dX5_replans_0 : decode cX5_replans 0 = .ok (.iconst 0, 1) := by decide +kernel
theorem dX5_replans_1 : decode cX5_replans 1 = .ok (.istore_n 1, 1) := by decide +kernel
theorem dX5_replans_2 : decode cX5_replans 2 = .ok (.iload_n 1, 1) := by decide +kernel
theorem dX5_replans_3 : decode cX5_replans 3 = .ok (.iconst 4, 1) := by decide +kernel
theorem dX5_replans_4 : decode cX5_replans 4 = .ok (.if_icmp .ge 20, 3) := by decide +kernel
theorem dX5_replans_7 : decode cX5_replans 7 = .ok (.aload_n 0, 1) := by decide +kernel
theorem dX5_replans_8 : decode cX5_replans 8 = .ok (.getfield 19, 3) := by decide +kernel
theorem dX5_replans_11 : decode cX5_replans 11 = .ok (.iload_n 1, 1) := by decide +kernel
theorem dX5_replans_12 : decode cX5_replans 12 = .ok (.aload_n 0, 1) := by decide +kernel
theorem dX5_replans_13 : decode cX5_replans 13 = .ok (.iload_n 1, 1) := by decide +kernel
theorem dX5_replans_14 : decode cX5_replans 14 = .ok (.invokevirtual 67, 3) := by decide +kernel
theorem dX5_replans_17 : decode cX5_replans 17 = .ok (.iastore, 1) := by decide +kernel
theorem dX5_replans_18 : decode cX5_replans 18 = .ok (.iinc 1 1, 3) := by decide +kernel
theorem dX5_replans_21 : decode cX5_replans 21 = .ok (.goto (-19), 3) := by decide +kernel
theorem dX5_replans_24 : decode cX5_replans 24 = .ok (.iconst 0, 1) := by decide +kernel
theorem dX5_replans_25 : decode cX5_replans 25 = .ok (.istore_n 1, 1) := by decide +kernel
theorem dX5_replans_26 : decode cX5_replans 26 = .ok (.iconst 0, 1) := by decide +kernel
theorem dX5_replans_27 : decode cX5_replans 27 = .ok (.istore_n 2, 1) := by decide +kernel
theorem dX5_replans_28 : decode cX5_replans 28 = .ok (.iload_n 2, 1) := by decide +kernel
theorem dX5_replans_29 : decode cX5_replans 29 = .ok (.aload_n 0, 1) := by decide +kernel
theorem dX5_replans_30 : decode cX5_replans 30 = .ok (.getfield 9, 3) := by decide +kernel
theorem dX5_replans_33 : decode cX5_replans 33 = .ok (.iconst 1, 1) := by decide +kernel
theorem dX5_replans_34 : decode cX5_replans 34 = .ok (.iaload, 1) := by decide +kernel
theorem dX5_replans_35 : decode cX5_replans 35 = .ok (.if_icmp .ge 73, 3) := by decide +kernel
theorem dX5_replans_38 : decode cX5_replans 38 = .ok (.aload_n 0, 1) := by decide +kernel
theorem dX5_replans_39 : decode cX5_replans 39 = .ok (.iload_n 2, 1) := by decide +kernel
theorem dX5_replans_40 : decode cX5_replans 40 = .ok (.iconst 4, 1) := by decide +kernel
theorem dX5_replans_41 : decode cX5_replans 41 = .ok (.invokevirtual 30, 3) := by decide +kernel
theorem dX5_replans_44 : decode cX5_replans 44 = .ok (.ifCond .eq 6, 3) := by decide +kernel
theorem dX5_replans_47 : decode cX5_replans 47 = .ok (.goto 55, 3) := by decide +kernel
theorem dX5_replans_50 : decode cX5_replans 50 = .ok (.iload_n 1, 1) := by decide +kernel
theorem dX5_replans_51 : decode cX5_replans 51 = .ok (.iinc 1 1, 3) := by decide +kernel
theorem dX5_replans_54 : decode cX5_replans 54 = .ok (.istore_n 3, 1) := by decide +kernel
theorem dX5_replans_55 : decode cX5_replans 55 = .ok (.iload_n 3, 1) := by decide +kernel
theorem dX5_replans_56 : decode cX5_replans 56 = .ok (.ifCond .le 39, 3) := by decide +kernel
theorem dX5_replans_59 : decode cX5_replans 59 = .ok (.aload_n 0, 1) := by decide +kernel
theorem dX5_replans_60 : decode cX5_replans 60 = .ok (.iload_n 2, 1) := by decide +kernel
theorem dX5_replans_61 : decode cX5_replans 61 = .ok (.aload_n 0, 1) := by decide +kernel
theorem dX5_replans_62 : decode cX5_replans 62 = .ok (.getfield 16, 3) := by decide +kernel
theorem dX5_replans_65 : decode cX5_replans 65 = .ok (.iload_n 3, 1) := by decide +kernel
theorem dX5_replans_66 : decode cX5_replans 66 = .ok (.iconst 1, 1) := by decide +kernel
theorem dX5_replans_67 : decode cX5_replans 67 = .ok (.isub, 1) := by decide +kernel
theorem dX5_replans_68 : decode cX5_replans 68 = .ok (.iaload, 1) := by decide +kernel
theorem dX5_replans_69 : decode cX5_replans 69 = .ok (.invokevirtual 70, 3) := by decide +kernel
theorem dX5_replans_72 : decode cX5_replans 72 = .ok (.ifCond .eq 23, 3) := by decide +kernel
theorem dX5_replans_75 : decode cX5_replans 75 = .ok (.aload_n 0, 1) := by decide +kernel
theorem dX5_replans_76 : decode cX5_replans 76 = .ok (.getfield 16, 3) := by decide +kernel
theorem dX5_replans_79 : decode cX5_replans 79 = .ok (.iload_n 3, 1) := by decide +kernel
theorem dX5_replans_80 : decode cX5_replans 80 = .ok (.aload_n 0, 1) := by decide +kernel
theorem dX5_replans_81 : decode cX5_replans 81 = .ok (.getfield 16, 3) := by decide +kernel
theorem dX5_replans_84 : decode cX5_replans 84 = .ok (.iload_n 3, 1) := by decide +kernel
theorem dX5_replans_85 : decode cX5_replans 85 = .ok (.iconst 1, 1) := by decide +kernel
theorem dX5_replans_86 : decode cX5_replans 86 = .ok (.isub, 1) := by decide +kernel
theorem dX5_replans_87 : decode cX5_replans 87 = .ok (.iaload, 1) := by decide +kernel
theorem dX5_replans_88 : decode cX5_replans 88 = .ok (.iastore, 1) := by decide +kernel
theorem dX5_replans_89 : decode cX5_replans 89 = .ok (.iinc 3 (-1), 3) := by decide +kernel
theorem dX5_replans_92 : decode cX5_replans 92 = .ok (.goto (-37), 3) := by decide +kernel
theorem dX5_replans_95 : decode cX5_replans 95 = .ok (.aload_n 0, 1) := by decide +kernel
theorem dX5_replans_96 : decode cX5_replans 96 = .ok (.getfield 16, 3) := by decide +kernel
theorem dX5_replans_99 : decode cX5_replans 99 = .ok (.iload_n 3, 1) := by decide +kernel
theorem dX5_replans_100 : decode cX5_replans 100 = .ok (.iload_n 2, 1) := by decide +kernel
theorem dX5_replans_101 : decode cX5_replans 101 = .ok (.iastore, 1) := by decide +kernel
theorem dX5_replans_102 : decode cX5_replans 102 = .ok (.iinc 2 1, 3) := by decide +kernel
theorem dX5_replans_105 : decode cX5_replans 105 = .ok (.goto (-77), 3) := by decide +kernel
theorem dX5_replans_108 : decode cX5_replans 108 = .ok (.iconst 0, 1) := by decide +kernel
theorem dX5_replans_109 : decode cX5_replans 109 = .ok (.istore_n 2, 1) := by decide +kernel
theorem dX5_replans_110 : decode cX5_replans 110 = .ok (.iload_n 2, 1) := by decide +kernel
theorem dX5_replans_111 : decode cX5_replans 111 = .ok (.iload_n 1, 1) := by decide +kernel
theorem dX5_replans_112 : decode cX5_replans 112 = .ok (.if_icmp .ge 55, 3) := by decide +kernel
theorem dX5_replans_115 : decode cX5_replans 115 = .ok (.aload_n 0, 1) := by decide +kernel
theorem dX5_replans_116 : decode cX5_replans 116 = .ok (.getfield 16, 3) := by decide +kernel
theorem dX5_replans_119 : decode cX5_replans 119 = .ok (.iload_n 2, 1) := by decide +kernel
theorem dX5_replans_120 : decode cX5_replans 120 = .ok (.iaload, 1) := by decide +kernel
theorem dX5_replans_121 : decode cX5_replans 121 = .ok (.istore_n 3, 1) := by decide +kernel
theorem dX5_replans_122 : decode cX5_replans 122 = .ok (.aload_n 0, 1) := by decide +kernel
theorem dX5_replans_123 : decode cX5_replans 123 = .ok (.iload_n 3, 1) := by decide +kernel
theorem dX5_replans_124 : decode cX5_replans 124 = .ok (.bipush 6, 2) := by decide +kernel
theorem dX5_replans_126 : decode cX5_replans 126 = .ok (.invokevirtual 30, 3) := by decide +kernel
theorem dX5_replans_129 : decode cX5_replans 129 = .ok (.istore 4, 2) := by decide +kernel
theorem dX5_replans_131 : decode cX5_replans 131 = .ok (.aload_n 0, 1) := by decide +kernel
theorem dX5_replans_132 : decode cX5_replans 132 = .ok (.iload_n 3, 1) := by decide +kernel
theorem dX5_replans_133 : decode cX5_replans 133 = .ok (.iconst 4, 1) := by decide +kernel
theorem dX5_replans_134 : decode cX5_replans 134 = .ok (.iconst 4, 1) := by decide +kernel
theorem dX5_replans_135 : decode cX5_replans 135 = .ok (.invokevirtual 59, 3) := by decide +kernel
theorem dX5_replans_138 : decode cX5_replans 138 = .ok (.aload_n 0, 1) := by decide +kernel
theorem dX5_replans_139 : decode cX5_replans 139 = .ok (.iload_n 3, 1) := by decide +kernel
theorem dX5_replans_140 : decode cX5_replans 140 = .ok (.invokevirtual 74, 3) := by decide +kernel
theorem dX5_replans_143 : decode cX5_replans 143 = .ok (.aload_n 0, 1) := by decide +kernel
theorem dX5_replans_144 : decode cX5_replans 144 = .ok (.iload_n 3, 1) := by decide +kernel
theorem dX5_replans_145 : decode cX5_replans 145 = .ok (.bipush 6, 2) := by decide +kernel
theorem dX5_replans_147 : decode cX5_replans 147 = .ok (.invokevirtual 30, 3) := by decide +kernel
theorem dX5_replans_150 : decode cX5_replans 150 = .ok (.iload 4, 2) := by decide +kernel
theorem dX5_replans_152 : decode cX5_replans 152 = .ok (.if_icmp .ge 9, 3) := by decide +kernel
theorem dX5_replans_155 : decode cX5_replans 155 = .ok (.aload_n 0, 1) := by decide +kernel
theorem dX5_replans_156 : decode cX5_replans 156 = .ok (.iconst 5, 1) := by decide +kernel
theorem dX5_replans_157 : decode cX5_replans 157 = .ok (.iload_n 3, 1) := by decide +kernel
theorem dX5_replans_158 : decode cX5_replans 158 = .ok (.invokevirtual 78, 3) := by decide +kernel
theorem dX5_replans_161 : decode cX5_replans 161 = .ok (.iinc 2 1, 3) := by decide +kernel
theorem dX5_replans_164 : decode cX5_replans 164 = .ok (.goto (-54), 3) := by decide +kernel
theorem dX5_replans_167 : decode cX5_replans 167 = .ok (.return_, 1) := by decide +kernel
theorem dX5_block_0 : decode cX5_block 0 = .ok (.bipush 32, 2) := by decide +kernel
theorem dX5_block_2 : decode cX5_block 2 = .ok (.iload_n 0, 1) := by decide +kernel
theorem dX5_block_3 : decode cX5_block 3 = .ok (.ishr, 1) := by decide +kernel
theorem dX5_block_4 : decode cX5_block 4 = .ok (.iload_n 1, 1) := by decide +kernel
theorem dX5_block_5 : decode cX5_block 5 = .ok (.iload_n 0, 1) := by decide +kernel
theorem dX5_block_6 : decode cX5_block 6 = .ok (.ishr, 1) := by decide +kernel
theorem dX5_block_7 : decode cX5_block 7 = .ok (.iadd, 1) := by decide +kernel
theorem dX5_block_8 : decode cX5_block 8 = .ok (.ireturn, 1) := by decide +kernel
theorem dX5_starts_0 : decode cX5_starts 0 = .ok (.iconst 0, 1) := by decide +kernel
theorem dX5_starts_1 : decode cX5_starts 1 = .ok (.istore_n 1, 1) := by decide +kernel
theorem dX5_starts_2 : decode cX5_starts 2 = .ok (.iload_n 1, 1) := by decide +kernel
theorem dX5_starts_3 : decode cX5_starts 3 = .ok (.aload_n 0, 1) := by decide +kernel
theorem dX5_starts_4 : decode cX5_starts 4 = .ok (.getfield 9, 3) := by decide +kernel
theorem dX5_starts_7 : decode cX5_starts 7 = .ok (.iconst 1, 1) := by decide +kernel
theorem dX5_starts_8 : decode cX5_starts 8 = .ok (.iaload, 1) := by decide +kernel
theorem dX5_starts_9 : decode cX5_starts 9 = .ok (.if_icmp .ge 101, 3) := by decide +kernel
theorem dX5_starts_12 : decode cX5_starts 12 = .ok (.aload_n 0, 1) := by decide +kernel
theorem dX5_starts_13 : decode cX5_starts 13 = .ok (.iload_n 1, 1) := by decide +kernel
theorem dX5_starts_14 : decode cX5_starts 14 = .ok (.iconst 4, 1) := by decide +kernel
theorem dX5_starts_15 : decode cX5_starts 15 = .ok (.invokevirtual 30, 3) := by decide +kernel
theorem dX5_starts_18 : decode cX5_starts 18 = .ok (.ifCond .ne 86, 3) := by decide +kernel
theorem dX5_starts_21 : decode cX5_starts 21 = .ok (.aload_n 0, 1) := by decide +kernel
theorem dX5_starts_22 : decode cX5_starts 22 = .ok (.iload_n 1, 1) := by decide +kernel
theorem dX5_starts_23 : decode cX5_starts 23 = .ok (.bipush 6, 2) := by decide +kernel
theorem dX5_starts_25 : decode cX5_starts 25 = .ok (.invokevirtual 30, 3) := by decide +kernel
theorem dX5_starts_28 : decode cX5_starts 28 = .ok (.aload_n 0, 1) := by decide +kernel
theorem dX5_starts_29 : decode cX5_starts 29 = .ok (.getfield 9, 3) := by decide +kernel
theorem dX5_starts_32 : decode cX5_starts 32 = .ok (.iconst 0, 1) := by decide +kernel
theorem dX5_starts_33 : decode cX5_starts 33 = .ok (.iaload, 1) := by decide +kernel
theorem dX5_starts_34 : decode cX5_starts 34 = .ok (.if_icmp .eq 6, 3) := by decide +kernel
theorem dX5_starts_37 : decode cX5_starts 37 = .ok (.goto 67, 3) := by decide +kernel
theorem dX5_starts_40 : decode cX5_starts 40 = .ok (.aload_n 0, 1) := by decide +kernel
theorem dX5_starts_41 : decode cX5_starts 41 = .ok (.iload_n 1, 1) := by decide +kernel
theorem dX5_starts_42 : decode cX5_starts 42 = .ok (.iconst 4, 1) := by decide +kernel
theorem dX5_starts_43 : decode cX5_starts 43 = .ok (.iconst 1, 1) := by decide +kernel
theorem dX5_starts_44 : decode cX5_starts 44 = .ok (.invokevirtual 59, 3) := by decide +kernel
theorem dX5_starts_47 : decode cX5_starts 47 = .ok (.aload_n 0, 1) := by decide +kernel
theorem dX5_starts_48 : decode cX5_starts 48 = .ok (.iload_n 1, 1) := by decide +kernel
theorem dX5_starts_49 : decode cX5_starts 49 = .ok (.bipush 12, 2) := by decide +kernel
theorem dX5_starts_51 : decode cX5_starts 51 = .ok (.invokevirtual 30, 3) := by decide +kernel
theorem dX5_starts_54 : decode cX5_starts 54 = .ok (.ifCond .ge 16, 3) := by decide +kernel
theorem dX5_starts_57 : decode cX5_starts 57 = .ok (.aload_n 0, 1) := by decide +kernel
theorem dX5_starts_58 : decode cX5_starts 58 = .ok (.iload_n 1, 1) := by decide +kernel
theorem dX5_starts_59 : decode cX5_starts 59 = .ok (.bipush 12, 2) := by decide +kernel
theorem dX5_starts_61 : decode cX5_starts 61 = .ok (.aload_n 0, 1) := by decide +kernel
theorem dX5_starts_62 : decode cX5_starts 62 = .ok (.getfield 9, 3) := by decide +kernel
theorem dX5_starts_65 : decode cX5_starts 65 = .ok (.iconst 0, 1) := by decide +kernel
theorem dX5_starts_66 : decode cX5_starts 66 = .ok (.iaload, 1) := by decide +kernel
theorem dX5_starts_67 : decode cX5_starts 67 = .ok (.invokevirtual 59, 3) := by decide +kernel
theorem dX5_starts_70 : decode cX5_starts 70 = .ok (.aload_n 0, 1) := by decide +kernel
theorem dX5_starts_71 : decode cX5_starts 71 = .ok (.getfield 9, 3) := by decide +kernel
theorem dX5_starts_74 : decode cX5_starts 74 = .ok (.sipush 545, 3) := by decide +kernel
theorem dX5_starts_77 : decode cX5_starts 77 = .ok (.aload_n 0, 1) := by decide +kernel
theorem dX5_starts_78 : decode cX5_starts 78 = .ok (.iload_n 1, 1) := by decide +kernel
theorem dX5_starts_79 : decode cX5_starts 79 = .ok (.iconst 1, 1) := by decide +kernel
theorem dX5_starts_80 : decode cX5_starts 80 = .ok (.invokevirtual 30, 3) := by decide +kernel
theorem dX5_starts_83 : decode cX5_starts 83 = .ok (.aload_n 0, 1) := by decide +kernel
theorem dX5_starts_84 : decode cX5_starts 84 = .ok (.iload_n 1, 1) := by decide +kernel
theorem dX5_starts_85 : decode cX5_starts 85 = .ok (.iconst 5, 1) := by decide +kernel
theorem dX5_starts_86 : decode cX5_starts 86 = .ok (.invokevirtual 30, 3) := by decide +kernel
theorem dX5_starts_89 : decode cX5_starts 89 = .ok (.invokestatic 82, 3) := by decide +kernel
theorem dX5_starts_92 : decode cX5_starts 92 = .ok (.iadd, 1) := by decide +kernel
theorem dX5_starts_93 : decode cX5_starts 93 = .ok (.dup2, 1) := by decide +kernel
theorem dX5_starts_94 : decode cX5_starts 94 = .ok (.iaload, 1) := by decide +kernel
theorem dX5_starts_95 : decode cX5_starts 95 = .ok (.iconst 1, 1) := by decide +kernel
theorem dX5_starts_96 : decode cX5_starts 96 = .ok (.iadd, 1) := by decide +kernel
theorem dX5_starts_97 : decode cX5_starts 97 = .ok (.iastore, 1) := by decide +kernel
theorem dX5_starts_98 : decode cX5_starts 98 = .ok (.aload_n 0, 1) := by decide +kernel
theorem dX5_starts_99 : decode cX5_starts 99 = .ok (.iconst 1, 1) := by decide +kernel
theorem dX5_starts_100 : decode cX5_starts 100 = .ok (.iload_n 1, 1) := by decide +kernel
theorem dX5_starts_101 : decode cX5_starts 101 = .ok (.invokevirtual 78, 3) := by decide +kernel
theorem dX5_starts_104 : decode cX5_starts 104 = .ok (.iinc 1 1, 3) := by decide +kernel
theorem dX5_starts_107 : decode cX5_starts 107 = .ok (.goto (-105), 3) := by decide +kernel
theorem dX5_starts_110 : decode cX5_starts 110 = .ok (.return_, 1) := by decide +kernel
theorem dX5_submit_0 : decode cX5_submit 0 = .ok (.aload_n 0, 1) := by decide +kernel
theorem dX5_submit_1 : decode cX5_submit 1 = .ok (.iconst 0, 1) := by decide +kernel
theorem dX5_submit_2 : decode cX5_submit 2 = .ok (.putfield 22, 3) := by decide +kernel
theorem dX5_submit_5 : decode cX5_submit 5 = .ok (.iload_n 1, 1) := by decide +kernel
theorem dX5_submit_6 : decode cX5_submit 6 = .ok (.iconst 0, 1) := by decide +kernel
theorem dX5_submit_7 : decode cX5_submit 7 = .ok (.iconst 3, 1) := by decide +kernel
theorem dX5_submit_8 : decode cX5_submit 8 = .ok (.invokestatic 26, 3) := by decide +kernel
theorem dX5_submit_11 : decode cX5_submit 11 = .ok (.ifCond .eq 32, 3) := by decide +kernel
theorem dX5_submit_14 : decode cX5_submit 14 = .ok (.iload_n 2, 1) := by decide +kernel
theorem dX5_submit_15 : decode cX5_submit 15 = .ok (.iconst 0, 1) := by decide +kernel
theorem dX5_submit_16 : decode cX5_submit 16 = .ok (.iconst 5, 1) := by decide +kernel
theorem dX5_submit_17 : decode cX5_submit 17 = .ok (.invokestatic 26, 3) := by decide +kernel
theorem dX5_submit_20 : decode cX5_submit 20 = .ok (.ifCond .eq 23, 3) := by decide +kernel
theorem dX5_submit_23 : decode cX5_submit 23 = .ok (.iload_n 3, 1) := by decide +kernel
theorem dX5_submit_24 : decode cX5_submit 24 = .ok (.iconst 1, 1) := by decide +kernel
theorem dX5_submit_25 : decode cX5_submit 25 = .ok (.bipush 40, 2) := by decide +kernel
theorem dX5_submit_27 : decode cX5_submit 27 = .ok (.invokestatic 26, 3) := by decide +kernel
theorem dX5_submit_30 : decode cX5_submit 30 = .ok (.ifCond .eq 13, 3) := by decide +kernel
theorem dX5_submit_33 : decode cX5_submit 33 = .ok (.iload 4, 2) := by decide +kernel
theorem dX5_submit_35 : decode cX5_submit 35 = .ok (.iconst 1, 1) := by decide +kernel
theorem dX5_submit_36 : decode cX5_submit 36 = .ok (.iload_n 3, 1) := by decide +kernel
theorem dX5_submit_37 : decode cX5_submit 37 = .ok (.invokestatic 26, 3) := by decide +kernel
theorem dX5_submit_40 : decode cX5_submit 40 = .ok (.ifCond .ne 9, 3) := by decide +kernel
theorem dX5_submit_43 : decode cX5_submit 43 = .ok (.aload_n 0, 1) := by decide +kernel
theorem dX5_submit_44 : decode cX5_submit 44 = .ok (.iconst 1, 1) := by decide +kernel
theorem dX5_submit_45 : decode cX5_submit 45 = .ok (.invokevirtual 85, 3) := by decide +kernel
theorem dX5_submit_48 : decode cX5_submit 48 = .ok (.ireturn, 1) := by decide +kernel
theorem dX5_submit_49 : decode cX5_submit 49 = .ok (.aload_n 0, 1) := by decide +kernel
theorem dX5_submit_50 : decode cX5_submit 50 = .ok (.getfield 9, 3) := by decide +kernel
theorem dX5_submit_53 : decode cX5_submit 53 = .ok (.iconst 1, 1) := by decide +kernel
theorem dX5_submit_54 : decode cX5_submit 54 = .ok (.iaload, 1) := by decide +kernel
theorem dX5_submit_55 : decode cX5_submit 55 = .ok (.bipush 24, 2) := by decide +kernel
theorem dX5_submit_57 : decode cX5_submit 57 = .ok (.if_icmp .ne 9, 3) := by decide +kernel
theorem dX5_submit_60 : decode cX5_submit 60 = .ok (.aload_n 0, 1) := by decide +kernel
theorem dX5_submit_61 : decode cX5_submit 61 = .ok (.iconst 2, 1) := by decide +kernel
theorem dX5_submit_62 : decode cX5_submit 62 = .ok (.invokevirtual 85, 3) := by decide +kernel
theorem dX5_submit_65 : decode cX5_submit 65 = .ok (.ireturn, 1) := by decide +kernel
theorem dX5_submit_66 : decode cX5_submit 66 = .ok (.aload_n 0, 1) := by decide +kernel
theorem dX5_submit_67 : decode cX5_submit 67 = .ok (.getfield 9, 3) := by decide +kernel
theorem dX5_submit_70 : decode cX5_submit 70 = .ok (.iconst 1, 1) := by decide +kernel
theorem dX5_submit_71 : decode cX5_submit 71 = .ok (.iaload, 1) := by decide +kernel
theorem dX5_submit_72 : decode cX5_submit 72 = .ok (.istore 5, 2) := by decide +kernel
theorem dX5_submit_74 : decode cX5_submit 74 = .ok (.aload_n 0, 1) := by decide +kernel
theorem dX5_submit_75 : decode cX5_submit 75 = .ok (.iload 5, 2) := by decide +kernel
theorem dX5_submit_77 : decode cX5_submit 77 = .ok (.iconst 0, 1) := by decide +kernel
theorem dX5_submit_78 : decode cX5_submit 78 = .ok (.iload_n 1, 1) := by decide +kernel
theorem dX5_submit_79 : decode cX5_submit 79 = .ok (.invokevirtual 59, 3) := by decide +kernel
theorem dX5_submit_82 : decode cX5_submit 82 = .ok (.aload_n 0, 1) := by decide +kernel
theorem dX5_submit_83 : decode cX5_submit 83 = .ok (.iload 5, 2) := by decide +kernel
theorem dX5_submit_85 : decode cX5_submit 85 = .ok (.iconst 1, 1) := by decide +kernel
theorem dX5_submit_86 : decode cX5_submit 86 = .ok (.iload_n 2, 1) := by decide +kernel
theorem dX5_submit_87 : decode cX5_submit 87 = .ok (.invokevirtual 59, 3) := by decide +kernel
theorem dX5_submit_90 : decode cX5_submit 90 = .ok (.aload_n 0, 1) := by decide +kernel
theorem dX5_submit_91 : decode cX5_submit 91 = .ok (.iload 5, 2) := by decide +kernel
theorem dX5_submit_93 : decode cX5_submit 93 = .ok (.iconst 2, 1) := by decide +kernel
theorem dX5_submit_94 : decode cX5_submit 94 = .ok (.iload_n 3, 1) := by decide +kernel
theorem dX5_submit_95 : decode cX5_submit 95 = .ok (.invokevirtual 59, 3) := by decide +kernel
theorem dX5_submit_98 : decode cX5_submit 98 = .ok (.aload_n 0, 1) := by decide +kernel
theorem dX5_submit_99 : decode cX5_submit 99 = .ok (.iload 5, 2) := by decide +kernel
theorem dX5_submit_101 : decode cX5_submit 101 = .ok (.iconst 3, 1) := by decide +kernel
theorem dX5_submit_102 : decode cX5_submit 102 = .ok (.iload 4, 2) := by decide +kernel
theorem dX5_submit_104 : decode cX5_submit 104 = .ok (.invokevirtual 59, 3) := by decide +kernel
theorem dX5_submit_107 : decode cX5_submit 107 = .ok (.aload_n 0, 1) := by decide +kernel
theorem dX5_submit_108 : decode cX5_submit 108 = .ok (.iload 5, 2) := by decide +kernel
theorem dX5_submit_110 : decode cX5_submit 110 = .ok (.bipush 9, 2) := by decide +kernel
theorem dX5_submit_112 : decode cX5_submit 112 = .ok (.iload 4, 2) := by decide +kernel
theorem dX5_submit_114 : decode cX5_submit 114 = .ok (.invokevirtual 59, 3) := by decide +kernel
theorem dX5_submit_117 : decode cX5_submit 117 = .ok (.aload_n 0, 1) := by decide +kernel
theorem dX5_submit_118 : decode cX5_submit 118 = .ok (.iload 5, 2) := by decide +kernel
theorem dX5_submit_120 : decode cX5_submit 120 = .ok (.iconst 4, 1) := by decide +kernel
theorem dX5_submit_121 : decode cX5_submit 121 = .ok (.iconst 4, 1) := by decide +kernel
theorem dX5_submit_122 : decode cX5_submit 122 = .ok (.invokevirtual 59, 3) := by decide +kernel
theorem dX5_submit_125 : decode cX5_submit 125 = .ok (.aload_n 0, 1) := by decide +kernel
theorem dX5_submit_126 : decode cX5_submit 126 = .ok (.iload 5, 2) := by decide +kernel
theorem dX5_submit_128 : decode cX5_submit 128 = .ok (.bipush 8, 2) := by decide +kernel
theorem dX5_submit_130 : decode cX5_submit 130 = .ok (.aload_n 0, 1) := by decide +kernel
theorem dX5_submit_131 : decode cX5_submit 131 = .ok (.getfield 9, 3) := by decide +kernel
theorem dX5_submit_134 : decode cX5_submit 134 = .ok (.iconst 0, 1) := by decide +kernel
theorem dX5_submit_135 : decode cX5_submit 135 = .ok (.iaload, 1) := by decide +kernel
theorem dX5_submit_136 : decode cX5_submit 136 = .ok (.invokevirtual 59, 3) := by decide +kernel
theorem dX5_submit_139 : decode cX5_submit 139 = .ok (.aload_n 0, 1) := by decide +kernel
theorem dX5_submit_140 : decode cX5_submit 140 = .ok (.iload 5, 2) := by decide +kernel
theorem dX5_submit_142 : decode cX5_submit 142 = .ok (.bipush 10, 2) := by decide +kernel
theorem dX5_submit_144 : decode cX5_submit 144 = .ok (.iconst (-1), 1) := by decide +kernel
theorem dX5_submit_145 : decode cX5_submit 145 = .ok (.invokevirtual 59, 3) := by decide +kernel
theorem dX5_submit_148 : decode cX5_submit 148 = .ok (.aload_n 0, 1) := by decide +kernel
theorem dX5_submit_149 : decode cX5_submit 149 = .ok (.iload 5, 2) := by decide +kernel
theorem dX5_submit_151 : decode cX5_submit 151 = .ok (.bipush 11, 2) := by decide +kernel
theorem dX5_submit_153 : decode cX5_submit 153 = .ok (.iconst 0, 1) := by decide +kernel
theorem dX5_submit_154 : decode cX5_submit 154 = .ok (.invokevirtual 59, 3) := by decide +kernel
theorem dX5_submit_157 : decode cX5_submit 157 = .ok (.aload_n 0, 1) := by decide +kernel
theorem dX5_submit_158 : decode cX5_submit 158 = .ok (.iload 5, 2) := by decide +kernel
theorem dX5_submit_160 : decode cX5_submit 160 = .ok (.bipush 12, 2) := by decide +kernel
theorem dX5_submit_162 : decode cX5_submit 162 = .ok (.iconst (-1), 1) := by decide +kernel
theorem dX5_submit_163 : decode cX5_submit 163 = .ok (.invokevirtual 59, 3) := by decide +kernel
theorem dX5_submit_166 : decode cX5_submit 166 = .ok (.aload_n 0, 1) := by decide +kernel
theorem dX5_submit_167 : decode cX5_submit 167 = .ok (.iload 5, 2) := by decide +kernel
theorem dX5_submit_169 : decode cX5_submit 169 = .ok (.bipush 13, 2) := by decide +kernel
theorem dX5_submit_171 : decode cX5_submit 171 = .ok (.iconst 0, 1) := by decide +kernel
theorem dX5_submit_172 : decode cX5_submit 172 = .ok (.invokevirtual 59, 3) := by decide +kernel
theorem dX5_submit_175 : decode cX5_submit 175 = .ok (.aload_n 0, 1) := by decide +kernel
theorem dX5_submit_176 : decode cX5_submit 176 = .ok (.getfield 9, 3) := by decide +kernel
theorem dX5_submit_179 : decode cX5_submit 179 = .ok (.iconst 1, 1) := by decide +kernel
theorem dX5_submit_180 : decode cX5_submit 180 = .ok (.dup2, 1) := by decide +kernel
theorem dX5_submit_181 : decode cX5_submit 181 = .ok (.iaload, 1) := by decide +kernel
theorem dX5_submit_182 : decode cX5_submit 182 = .ok (.iconst 1, 1) := by decide +kernel
theorem dX5_submit_183 : decode cX5_submit 183 = .ok (.iadd, 1) := by decide +kernel
theorem dX5_submit_184 : decode cX5_submit 184 = .ok (.iastore, 1) := by decide +kernel
theorem dX5_submit_185 : decode cX5_submit 185 = .ok (.aload_n 0, 1) := by decide +kernel
theorem dX5_submit_186 : decode cX5_submit 186 = .ok (.iconst 0, 1) := by decide +kernel
theorem dX5_submit_187 : decode cX5_submit 187 = .ok (.iload 5, 2) := by decide +kernel
theorem dX5_submit_189 : decode cX5_submit 189 = .ok (.invokevirtual 78, 3) := by decide +kernel
theorem dX5_submit_192 : decode cX5_submit 192 = .ok (.aload_n 0, 1) := by decide +kernel
theorem dX5_submit_193 : decode cX5_submit 193 = .ok (.iload 5, 2) := by decide +kernel
theorem dX5_submit_195 : decode cX5_submit 195 = .ok (.invokevirtual 74, 3) := by decide +kernel
theorem dX5_submit_198 : decode cX5_submit 198 = .ok (.aload_n 0, 1) := by decide +kernel
theorem dX5_submit_199 : decode cX5_submit 199 = .ok (.iload 5, 2) := by decide +kernel
theorem dX5_submit_201 : decode cX5_submit 201 = .ok (.bipush 6, 2) := by decide +kernel
theorem dX5_submit_203 : decode cX5_submit 203 = .ok (.invokevirtual 30, 3) := by decide +kernel
theorem dX5_submit_206 : decode cX5_submit 206 = .ok (.istore 6, 2) := by decide +kernel
theorem dX5_submit_208 : decode cX5_submit 208 = .ok (.aload_n 0, 1) := by decide +kernel
theorem dX5_submit_209 : decode cX5_submit 209 = .ok (.iload 5, 2) := by decide +kernel
theorem dX5_submit_211 : decode cX5_submit 211 = .ok (.bipush 7, 2) := by decide +kernel
theorem dX5_submit_213 : decode cX5_submit 213 = .ok (.iload 6, 2) := by decide +kernel
theorem dX5_submit_215 : decode cX5_submit 215 = .ok (.invokevirtual 59, 3) := by decide +kernel
theorem dX5_submit_218 : decode cX5_submit 218 = .ok (.aload_n 0, 1) := by decide +kernel
theorem dX5_submit_219 : decode cX5_submit 219 = .ok (.invokevirtual 88, 3) := by decide +kernel
theorem dX5_submit_222 : decode cX5_submit 222 = .ok (.iload 6, 2) := by decide +kernel
theorem dX5_submit_224 : decode cX5_submit 224 = .ok (.ireturn, 1) := by decide +kernel
theorem dX5_ticks_0 : decode cX5_ticks 0 = .ok (.aload_n 0, 1) := by decide +kernel
theorem dX5_ticks_1 : decode cX5_ticks 1 = .ok (.getfield 9, 3) := by decide +kernel
theorem dX5_ticks_4 : decode cX5_ticks 4 = .ok (.iconst 0, 1) := by decide +kernel
theorem dX5_ticks_5 : decode cX5_ticks 5 = .ok (.dup2, 1) := by decide +kernel
theorem dX5_ticks_6 : decode cX5_ticks 6 = .ok (.iaload, 1) := by decide +kernel
theorem dX5_ticks_7 : decode cX5_ticks 7 = .ok (.iconst 1, 1) := by decide +kernel
theorem dX5_ticks_8 : decode cX5_ticks 8 = .ok (.iadd, 1) := by decide +kernel
theorem dX5_ticks_9 : decode cX5_ticks 9 = .ok (.iastore, 1) := by decide +kernel
theorem dX5_ticks_10 : decode cX5_ticks 10 = .ok (.iconst 0, 1) := by decide +kernel
theorem dX5_ticks_11 : decode cX5_ticks 11 = .ok (.istore_n 1, 1) := by decide +kernel
theorem dX5_ticks_12 : decode cX5_ticks 12 = .ok (.iconst 0, 1) := by decide +kernel
theorem dX5_ticks_13 : decode cX5_ticks 13 = .ok (.istore_n 2, 1) := by decide +kernel
theorem dX5_ticks_14 : decode cX5_ticks 14 = .ok (.iload_n 2, 1) := by decide +kernel
theorem dX5_ticks_15 : decode cX5_ticks 15 = .ok (.aload_n 0, 1) := by decide +kernel
theorem dX5_ticks_16 : decode cX5_ticks 16 = .ok (.getfield 9, 3) := by decide +kernel
theorem dX5_ticks_19 : decode cX5_ticks 19 = .ok (.iconst 1, 1) := by decide +kernel
theorem dX5_ticks_20 : decode cX5_ticks 20 = .ok (.iaload, 1) := by decide +kernel
theorem dX5_ticks_21 : decode cX5_ticks 21 = .ok (.if_icmp .ge 95, 3) := by decide +kernel
theorem dX5_ticks_24 : decode cX5_ticks 24 = .ok (.aload_n 0, 1) := by decide +kernel
theorem dX5_ticks_25 : decode cX5_ticks 25 = .ok (.iload_n 2, 1) := by decide +kernel
theorem dX5_ticks_26 : decode cX5_ticks 26 = .ok (.iconst 4, 1) := by decide +kernel
theorem dX5_ticks_27 : decode cX5_ticks 27 = .ok (.invokevirtual 30, 3) := by decide +kernel
theorem dX5_ticks_30 : decode cX5_ticks 30 = .ok (.iconst 1, 1) := by decide +kernel
theorem dX5_ticks_31 : decode cX5_ticks 31 = .ok (.if_icmp .ne 79, 3) := by decide +kernel
theorem dX5_ticks_34 : decode cX5_ticks 34 = .ok (.aload_n 0, 1) := by decide +kernel
theorem dX5_ticks_35 : decode cX5_ticks 35 = .ok (.getfield 9, 3) := by decide +kernel
theorem dX5_ticks_38 : decode cX5_ticks 38 = .ok (.iconst 0, 1) := by decide +kernel
theorem dX5_ticks_39 : decode cX5_ticks 39 = .ok (.iaload, 1) := by decide +kernel
theorem dX5_ticks_40 : decode cX5_ticks 40 = .ok (.aload_n 0, 1) := by decide +kernel
theorem dX5_ticks_41 : decode cX5_ticks 41 = .ok (.iload_n 2, 1) := by decide +kernel
theorem dX5_ticks_42 : decode cX5_ticks 42 = .ok (.bipush 6, 2) := by decide +kernel
theorem dX5_ticks_44 : decode cX5_ticks 44 = .ok (.invokevirtual 30, 3) := by decide +kernel
theorem dX5_ticks_47 : decode cX5_ticks 47 = .ok (.isub, 1) := by decide +kernel
theorem dX5_ticks_48 : decode cX5_ticks 48 = .ok (.aload_n 0, 1) := by decide +kernel
theorem dX5_ticks_49 : decode cX5_ticks 49 = .ok (.iload_n 2, 1) := by decide +kernel
theorem dX5_ticks_50 : decode cX5_ticks 50 = .ok (.iconst 3, 1) := by decide +kernel
theorem dX5_ticks_51 : decode cX5_ticks 51 = .ok (.invokevirtual 30, 3) := by decide +kernel
theorem dX5_ticks_54 : decode cX5_ticks 54 = .ok (.if_icmp .eq 6, 3) := by decide +kernel
theorem dX5_ticks_57 : decode cX5_ticks 57 = .ok (.goto 53, 3) := by decide +kernel
theorem dX5_ticks_60 : decode cX5_ticks 60 = .ok (.aload_n 0, 1) := by decide +kernel
theorem dX5_ticks_61 : decode cX5_ticks 61 = .ok (.iload_n 2, 1) := by decide +kernel
theorem dX5_ticks_62 : decode cX5_ticks 62 = .ok (.bipush 13, 2) := by decide +kernel
theorem dX5_ticks_64 : decode cX5_ticks 64 = .ok (.aload_n 0, 1) := by decide +kernel
theorem dX5_ticks_65 : decode cX5_ticks 65 = .ok (.iload_n 2, 1) := by decide +kernel
theorem dX5_ticks_66 : decode cX5_ticks 66 = .ok (.bipush 13, 2) := by decide +kernel
theorem dX5_ticks_68 : decode cX5_ticks 68 = .ok (.invokevirtual 30, 3) := by decide +kernel
theorem dX5_ticks_71 : decode cX5_ticks 71 = .ok (.aload_n 0, 1) := by decide +kernel
theorem dX5_ticks_72 : decode cX5_ticks 72 = .ok (.iload_n 2, 1) := by decide +kernel
theorem dX5_ticks_73 : decode cX5_ticks 73 = .ok (.iconst 3, 1) := by decide +kernel
theorem dX5_ticks_74 : decode cX5_ticks 74 = .ok (.invokevirtual 30, 3) := by decide +kernel
theorem dX5_ticks_77 : decode cX5_ticks 77 = .ok (.iadd, 1) := by decide +kernel
theorem dX5_ticks_78 : decode cX5_ticks 78 = .ok (.invokevirtual 59, 3) := by decide +kernel
theorem dX5_ticks_81 : decode cX5_ticks 81 = .ok (.aload_n 0, 1) := by decide +kernel
theorem dX5_ticks_82 : decode cX5_ticks 82 = .ok (.iload_n 2, 1) := by decide +kernel
theorem dX5_ticks_83 : decode cX5_ticks 83 = .ok (.iconst 4, 1) := by decide +kernel
theorem dX5_ticks_84 : decode cX5_ticks 84 = .ok (.iconst 2, 1) := by decide +kernel
theorem dX5_ticks_85 : decode cX5_ticks 85 = .ok (.invokevirtual 59, 3) := by decide +kernel
theorem dX5_ticks_88 : decode cX5_ticks 88 = .ok (.aload_n 0, 1) := by decide +kernel
theorem dX5_ticks_89 : decode cX5_ticks 89 = .ok (.iload_n 2, 1) := by decide +kernel
theorem dX5_ticks_90 : decode cX5_ticks 90 = .ok (.bipush 10, 2) := by decide +kernel
theorem dX5_ticks_92 : decode cX5_ticks 92 = .ok (.aload_n 0, 1) := by decide +kernel
theorem dX5_ticks_93 : decode cX5_ticks 93 = .ok (.getfield 9, 3) := by decide +kernel
theorem dX5_ticks_96 : decode cX5_ticks 96 = .ok (.iconst 0, 1) := by decide +kernel
theorem dX5_ticks_97 : decode cX5_ticks 97 = .ok (.iaload, 1) := by decide +kernel
theorem dX5_ticks_98 : decode cX5_ticks 98 = .ok (.invokevirtual 59, 3) := by decide +kernel
theorem dX5_ticks_101 : decode cX5_ticks 101 = .ok (.aload_n 0, 1) := by decide +kernel
theorem dX5_ticks_102 : decode cX5_ticks 102 = .ok (.iconst 2, 1) := by decide +kernel
theorem dX5_ticks_103 : decode cX5_ticks 103 = .ok (.iload_n 2, 1) := by decide +kernel
theorem dX5_ticks_104 : decode cX5_ticks 104 = .ok (.invokevirtual 78, 3) := by decide +kernel
theorem dX5_ticks_107 : decode cX5_ticks 107 = .ok (.iinc 1 1, 3) := by decide +kernel
theorem dX5_ticks_110 : decode cX5_ticks 110 = .ok (.iinc 2 1, 3) := by decide +kernel
theorem dX5_ticks_113 : decode cX5_ticks 113 = .ok (.goto (-99), 3) := by decide +kernel
theorem dX5_ticks_116 : decode cX5_ticks 116 = .ok (.iload_n 1, 1) := by decide +kernel
theorem dX5_ticks_117 : decode cX5_ticks 117 = .ok (.ifCond .le 7, 3) := by decide +kernel
theorem dX5_ticks_120 : decode cX5_ticks 120 = .ok (.aload_n 0, 1) := by decide +kernel
theorem dX5_ticks_121 : decode cX5_ticks 121 = .ok (.invokevirtual 91, 3) := by decide +kernel
theorem dX5_ticks_124 : decode cX5_ticks 124 = .ok (.aload_n 0, 1) := by decide +kernel
theorem dX5_ticks_125 : decode cX5_ticks 125 = .ok (.invokevirtual 88, 3) := by decide +kernel
theorem dX5_ticks_128 : decode cX5_ticks 128 = .ok (.iload_n 1, 1) := by decide +kernel
theorem dX5_ticks_129 : decode cX5_ticks 129 = .ok (.ireturn, 1) := by decide +kernel
theorem dX5_advance_0 : decode cX5_advance 0 = .ok (.aload_n 0, 1) := by decide +kernel
theorem dX5_advance_1 : decode cX5_advance 1 = .ok (.iconst 0, 1) := by decide +kernel
theorem dX5_advance_2 : decode cX5_advance 2 = .ok (.putfield 22, 3) := by decide +kernel
theorem dX5_advance_5 : decode cX5_advance 5 = .ok (.iload_n 1, 1) := by decide +kernel
theorem dX5_advance_6 : decode cX5_advance 6 = .ok (.iconst 1, 1) := by decide +kernel
theorem dX5_advance_7 : decode cX5_advance 7 = .ok (.bipush 50, 2) := by decide +kernel
theorem dX5_advance_9 : decode cX5_advance 9 = .ok (.invokestatic 26, 3) := by decide +kernel
theorem dX5_advance_12 : decode cX5_advance 12 = .ok (.ifCond .ne 9, 3) := by decide +kernel
theorem dX5_advance_15 : decode cX5_advance 15 = .ok (.aload_n 0, 1) := by decide +kernel
theorem dX5_advance_16 : decode cX5_advance 16 = .ok (.iconst 1, 1) := by decide +kernel
theorem dX5_advance_17 : decode cX5_advance 17 = .ok (.invokevirtual 85, 3) := by decide +kernel
theorem dX5_advance_20 : decode cX5_advance 20 = .ok (.ireturn, 1) := by decide +kernel
theorem dX5_advance_21 : decode cX5_advance 21 = .ok (.aload_n 0, 1) := by decide +kernel
theorem dX5_advance_22 : decode cX5_advance 22 = .ok (.getfield 9, 3) := by decide +kernel
theorem dX5_advance_25 : decode cX5_advance 25 = .ok (.iconst 0, 1) := by decide +kernel
theorem dX5_advance_26 : decode cX5_advance 26 = .ok (.iaload, 1) := by decide +kernel
theorem dX5_advance_27 : decode cX5_advance 27 = .ok (.iload_n 1, 1) := by decide +kernel
theorem dX5_advance_28 : decode cX5_advance 28 = .ok (.iadd, 1) := by decide +kernel
theorem dX5_advance_29 : decode cX5_advance 29 = .ok (.sipush 1000, 3) := by decide +kernel
theorem dX5_advance_32 : decode cX5_advance 32 = .ok (.if_icmp .le 9, 3) := by decide +kernel
theorem dX5_advance_35 : decode cX5_advance 35 = .ok (.aload_n 0, 1) := by decide +kernel
theorem dX5_advance_36 : decode cX5_advance 36 = .ok (.iconst 2, 1) := by decide +kernel
theorem dX5_advance_37 : decode cX5_advance 37 = .ok (.invokevirtual 85, 3) := by decide +kernel
theorem dX5_advance_40 : decode cX5_advance 40 = .ok (.ireturn, 1) := by decide +kernel
theorem dX5_advance_41 : decode cX5_advance 41 = .ok (.iconst 0, 1) := by decide +kernel
theorem dX5_advance_42 : decode cX5_advance 42 = .ok (.istore_n 2, 1) := by decide +kernel
theorem dX5_advance_43 : decode cX5_advance 43 = .ok (.iconst 0, 1) := by decide +kernel
theorem dX5_advance_44 : decode cX5_advance 44 = .ok (.istore_n 3, 1) := by decide +kernel
theorem dX5_advance_45 : decode cX5_advance 45 = .ok (.iload_n 3, 1) := by decide +kernel
theorem dX5_advance_46 : decode cX5_advance 46 = .ok (.iload_n 1, 1) := by decide +kernel
theorem dX5_advance_47 : decode cX5_advance 47 = .ok (.if_icmp .ge 16, 3) := by decide +kernel
theorem dX5_advance_50 : decode cX5_advance 50 = .ok (.iload_n 2, 1) := by decide +kernel
theorem dX5_advance_51 : decode cX5_advance 51 = .ok (.aload_n 0, 1) := by decide +kernel
theorem dX5_advance_52 : decode cX5_advance 52 = .ok (.invokevirtual 94, 3) := by decide +kernel
theorem dX5_advance_55 : decode cX5_advance 55 = .ok (.iadd, 1) := by decide +kernel
theorem dX5_advance_56 : decode cX5_advance 56 = .ok (.istore_n 2, 1) := by decide +kernel
theorem dX5_advance_57 : decode cX5_advance 57 = .ok (.iinc 3 1, 3) := by decide +kernel
theorem dX5_advance_60 : decode cX5_advance 60 = .ok (.goto (-15), 3) := by decide +kernel
theorem dX5_advance_63 : decode cX5_advance 63 = .ok (.iload_n 2, 1) := by decide +kernel
theorem dX5_advance_64 : decode cX5_advance 64 = .ok (.ireturn, 1) := by decide +kernel
theorem dX5_cancel_0 : decode cX5_cancel 0 = .ok (.aload_n 0, 1) := by decide +kernel
theorem dX5_cancel_1 : decode cX5_cancel 1 = .ok (.iconst 0, 1) := by decide +kernel
theorem dX5_cancel_2 : decode cX5_cancel 2 = .ok (.putfield 22, 3) := by decide +kernel
theorem dX5_cancel_5 : decode cX5_cancel 5 = .ok (.aload_n 0, 1) := by decide +kernel
theorem dX5_cancel_6 : decode cX5_cancel 6 = .ok (.iload_n 1, 1) := by decide +kernel
theorem dX5_cancel_7 : decode cX5_cancel 7 = .ok (.invokevirtual 98, 3) := by decide +kernel
theorem dX5_cancel_10 : decode cX5_cancel 10 = .ok (.ifCond .ne 9, 3) := by decide +kernel
theorem dX5_cancel_13 : decode cX5_cancel 13 = .ok (.aload_n 0, 1) := by decide +kernel
theorem dX5_cancel_14 : decode cX5_cancel 14 = .ok (.iconst 1, 1) := by decide +kernel
theorem dX5_cancel_15 : decode cX5_cancel 15 = .ok (.invokevirtual 85, 3) := by decide +kernel
theorem dX5_cancel_18 : decode cX5_cancel 18 = .ok (.ireturn, 1) := by decide +kernel
theorem dX5_cancel_19 : decode cX5_cancel 19 = .ok (.aload_n 0, 1) := by decide +kernel
theorem dX5_cancel_20 : decode cX5_cancel 20 = .ok (.iload_n 1, 1) := by decide +kernel
theorem dX5_cancel_21 : decode cX5_cancel 21 = .ok (.iconst 4, 1) := by decide +kernel
theorem dX5_cancel_22 : decode cX5_cancel 22 = .ok (.invokevirtual 30, 3) := by decide +kernel
theorem dX5_cancel_25 : decode cX5_cancel 25 = .ok (.istore_n 2, 1) := by decide +kernel
theorem dX5_cancel_26 : decode cX5_cancel 26 = .ok (.iload_n 2, 1) := by decide +kernel
theorem dX5_cancel_27 : decode cX5_cancel 27 = .ok (.iconst 1, 1) := by decide +kernel
theorem dX5_cancel_28 : decode cX5_cancel 28 = .ok (.if_icmp .le 9, 3) := by decide +kernel
theorem dX5_cancel_31 : decode cX5_cancel 31 = .ok (.aload_n 0, 1) := by decide +kernel
theorem dX5_cancel_32 : decode cX5_cancel 32 = .ok (.iconst 2, 1) := by decide +kernel
theorem dX5_cancel_33 : decode cX5_cancel 33 = .ok (.invokevirtual 85, 3) := by decide +kernel
theorem dX5_cancel_36 : decode cX5_cancel 36 = .ok (.ireturn, 1) := by decide +kernel
theorem dX5_cancel_37 : decode cX5_cancel 37 = .ok (.iload_n 2, 1) := by decide +kernel
theorem dX5_cancel_38 : decode cX5_cancel 38 = .ok (.iconst 1, 1) := by decide +kernel
theorem dX5_cancel_39 : decode cX5_cancel 39 = .ok (.if_icmp .ne 32, 3) := by decide +kernel
theorem dX5_cancel_42 : decode cX5_cancel 42 = .ok (.aload_n 0, 1) := by decide +kernel
theorem dX5_cancel_43 : decode cX5_cancel 43 = .ok (.iload_n 1, 1) := by decide +kernel
theorem dX5_cancel_44 : decode cX5_cancel 44 = .ok (.bipush 13, 2) := by decide +kernel
theorem dX5_cancel_46 : decode cX5_cancel 46 = .ok (.aload_n 0, 1) := by decide +kernel
theorem dX5_cancel_47 : decode cX5_cancel 47 = .ok (.iload_n 1, 1) := by decide +kernel
theorem dX5_cancel_48 : decode cX5_cancel 48 = .ok (.bipush 13, 2) := by decide +kernel
theorem dX5_cancel_50 : decode cX5_cancel 50 = .ok (.invokevirtual 30, 3) := by decide +kernel
theorem dX5_cancel_53 : decode cX5_cancel 53 = .ok (.aload_n 0, 1) := by decide +kernel
theorem dX5_cancel_54 : decode cX5_cancel 54 = .ok (.getfield 9, 3) := by decide +kernel
theorem dX5_cancel_57 : decode cX5_cancel 57 = .ok (.iconst 0, 1) := by decide +kernel
theorem dX5_cancel_58 : decode cX5_cancel 58 = .ok (.iaload, 1) := by decide +kernel
theorem dX5_cancel_59 : decode cX5_cancel 59 = .ok (.iadd, 1) := by decide +kernel
theorem dX5_cancel_60 : decode cX5_cancel 60 = .ok (.aload_n 0, 1) := by decide +kernel
theorem dX5_cancel_61 : decode cX5_cancel 61 = .ok (.iload_n 1, 1) := by decide +kernel
theorem dX5_cancel_62 : decode cX5_cancel 62 = .ok (.bipush 6, 2) := by decide +kernel
theorem dX5_cancel_64 : decode cX5_cancel 64 = .ok (.invokevirtual 30, 3) := by decide +kernel
theorem dX5_cancel_67 : decode cX5_cancel 67 = .ok (.isub, 1) := by decide +kernel
theorem dX5_cancel_68 : decode cX5_cancel 68 = .ok (.invokevirtual 59, 3) := by decide +kernel
theorem dX5_cancel_71 : decode cX5_cancel 71 = .ok (.aload_n 0, 1) := by decide +kernel
theorem dX5_cancel_72 : decode cX5_cancel 72 = .ok (.iload_n 1, 1) := by decide +kernel
theorem dX5_cancel_73 : decode cX5_cancel 73 = .ok (.iconst 4, 1) := by decide +kernel
theorem dX5_cancel_74 : decode cX5_cancel 74 = .ok (.iconst 3, 1) := by decide +kernel
theorem dX5_cancel_75 : decode cX5_cancel 75 = .ok (.invokevirtual 59, 3) := by decide +kernel
theorem dX5_cancel_78 : decode cX5_cancel 78 = .ok (.aload_n 0, 1) := by decide +kernel
theorem dX5_cancel_79 : decode cX5_cancel 79 = .ok (.iconst 3, 1) := by decide +kernel
theorem dX5_cancel_80 : decode cX5_cancel 80 = .ok (.iload_n 1, 1) := by decide +kernel
theorem dX5_cancel_81 : decode cX5_cancel 81 = .ok (.invokevirtual 78, 3) := by decide +kernel
theorem dX5_cancel_84 : decode cX5_cancel 84 = .ok (.aload_n 0, 1) := by decide +kernel
theorem dX5_cancel_85 : decode cX5_cancel 85 = .ok (.invokevirtual 91, 3) := by decide +kernel
theorem dX5_cancel_88 : decode cX5_cancel 88 = .ok (.aload_n 0, 1) := by decide +kernel
theorem dX5_cancel_89 : decode cX5_cancel 89 = .ok (.invokevirtual 88, 3) := by decide +kernel
theorem dX5_cancel_92 : decode cX5_cancel 92 = .ok (.iload_n 2, 1) := by decide +kernel
theorem dX5_cancel_93 : decode cX5_cancel 93 = .ok (.ireturn, 1) := by decide +kernel
theorem dX5_preempt_0 : decode cX5_preempt 0 = .ok (.aload_n 0, 1) := by decide +kernel
theorem dX5_preempt_1 : decode cX5_preempt 1 = .ok (.iconst 0, 1) := by decide +kernel
theorem dX5_preempt_2 : decode cX5_preempt 2 = .ok (.putfield 22, 3) := by decide +kernel
theorem dX5_preempt_5 : decode cX5_preempt 5 = .ok (.aload_n 0, 1) := by decide +kernel
theorem dX5_preempt_6 : decode cX5_preempt 6 = .ok (.iload_n 1, 1) := by decide +kernel
theorem dX5_preempt_7 : decode cX5_preempt 7 = .ok (.invokevirtual 98, 3) := by decide +kernel
theorem dX5_preempt_10 : decode cX5_preempt 10 = .ok (.ifCond .ne 9, 3) := by decide +kernel
theorem dX5_preempt_13 : decode cX5_preempt 13 = .ok (.aload_n 0, 1) := by decide +kernel
theorem dX5_preempt_14 : decode cX5_preempt 14 = .ok (.iconst 1, 1) := by decide +kernel
theorem dX5_preempt_15 : decode cX5_preempt 15 = .ok (.invokevirtual 85, 3) := by decide +kernel
theorem dX5_preempt_18 : decode cX5_preempt 18 = .ok (.ireturn, 1) := by decide +kernel
theorem dX5_preempt_19 : decode cX5_preempt 19 = .ok (.iload_n 2, 1) := by decide +kernel
theorem dX5_preempt_20 : decode cX5_preempt 20 = .ok (.iconst 0, 1) := by decide +kernel
theorem dX5_preempt_21 : decode cX5_preempt 21 = .ok (.bipush 9, 2) := by decide +kernel
theorem dX5_preempt_23 : decode cX5_preempt 23 = .ok (.invokestatic 26, 3) := by decide +kernel
theorem dX5_preempt_26 : decode cX5_preempt 26 = .ok (.ifCond .ne 9, 3) := by decide +kernel
theorem dX5_preempt_29 : decode cX5_preempt 29 = .ok (.aload_n 0, 1) := by decide +kernel
theorem dX5_preempt_30 : decode cX5_preempt 30 = .ok (.iconst 2, 1) := by decide +kernel
theorem dX5_preempt_31 : decode cX5_preempt 31 = .ok (.invokevirtual 85, 3) := by decide +kernel
theorem dX5_preempt_34 : decode cX5_preempt 34 = .ok (.ireturn, 1) := by decide +kernel
theorem dX5_preempt_35 : decode cX5_preempt 35 = .ok (.aload_n 0, 1) := by decide +kernel
theorem dX5_preempt_36 : decode cX5_preempt 36 = .ok (.iload_n 1, 1) := by decide +kernel
theorem dX5_preempt_37 : decode cX5_preempt 37 = .ok (.iconst 4, 1) := by decide +kernel
theorem dX5_preempt_38 : decode cX5_preempt 38 = .ok (.invokevirtual 30, 3) := by decide +kernel
theorem dX5_preempt_41 : decode cX5_preempt 41 = .ok (.iconst 1, 1) := by decide +kernel
theorem dX5_preempt_42 : decode cX5_preempt 42 = .ok (.if_icmp .eq 9, 3) := by decide +kernel
theorem dX5_preempt_45 : decode cX5_preempt 45 = .ok (.aload_n 0, 1) := by decide +kernel
theorem dX5_preempt_46 : decode cX5_preempt 46 = .ok (.iconst 3, 1) := by decide +kernel
theorem dX5_preempt_47 : decode cX5_preempt 47 = .ok (.invokevirtual 85, 3) := by decide +kernel
theorem dX5_preempt_50 : decode cX5_preempt 50 = .ok (.ireturn, 1) := by decide +kernel
theorem dX5_preempt_51 : decode cX5_preempt 51 = .ok (.aload_n 0, 1) := by decide +kernel
theorem dX5_preempt_52 : decode cX5_preempt 52 = .ok (.getfield 9, 3) := by decide +kernel
theorem dX5_preempt_55 : decode cX5_preempt 55 = .ok (.iconst 0, 1) := by decide +kernel
theorem dX5_preempt_56 : decode cX5_preempt 56 = .ok (.iaload, 1) := by decide +kernel
theorem dX5_preempt_57 : decode cX5_preempt 57 = .ok (.aload_n 0, 1) := by decide +kernel
theorem dX5_preempt_58 : decode cX5_preempt 58 = .ok (.iload_n 1, 1) := by decide +kernel
theorem dX5_preempt_59 : decode cX5_preempt 59 = .ok (.bipush 6, 2) := by decide +kernel
theorem dX5_preempt_61 : decode cX5_preempt 61 = .ok (.invokevirtual 30, 3) := by decide +kernel
theorem dX5_preempt_64 : decode cX5_preempt 64 = .ok (.isub, 1) := by decide +kernel
theorem dX5_preempt_65 : decode cX5_preempt 65 = .ok (.istore_n 3, 1) := by decide +kernel
theorem dX5_preempt_66 : decode cX5_preempt 66 = .ok (.aload_n 0, 1) := by decide +kernel
theorem dX5_preempt_67 : decode cX5_preempt 67 = .ok (.iload_n 1, 1) := by decide +kernel
theorem dX5_preempt_68 : decode cX5_preempt 68 = .ok (.bipush 13, 2) := by decide +kernel
theorem dX5_preempt_70 : decode cX5_preempt 70 = .ok (.aload_n 0, 1) := by decide +kernel
theorem dX5_preempt_71 : decode cX5_preempt 71 = .ok (.iload_n 1, 1) := by decide +kernel
theorem dX5_preempt_72 : decode cX5_preempt 72 = .ok (.bipush 13, 2) := by decide +kernel
theorem dX5_preempt_74 : decode cX5_preempt 74 = .ok (.invokevirtual 30, 3) := by decide +kernel
theorem dX5_preempt_77 : decode cX5_preempt 77 = .ok (.iload_n 3, 1) := by decide +kernel
theorem dX5_preempt_78 : decode cX5_preempt 78 = .ok (.iadd, 1) := by decide +kernel
theorem dX5_preempt_79 : decode cX5_preempt 79 = .ok (.invokevirtual 59, 3) := by decide +kernel
theorem dX5_preempt_82 : decode cX5_preempt 82 = .ok (.aload_n 0, 1) := by decide +kernel
theorem dX5_preempt_83 : decode cX5_preempt 83 = .ok (.iload_n 1, 1) := by decide +kernel
theorem dX5_preempt_84 : decode cX5_preempt 84 = .ok (.iconst 2, 1) := by decide +kernel
theorem dX5_preempt_85 : decode cX5_preempt 85 = .ok (.aload_n 0, 1) := by decide +kernel
theorem dX5_preempt_86 : decode cX5_preempt 86 = .ok (.iload_n 1, 1) := by decide +kernel
theorem dX5_preempt_87 : decode cX5_preempt 87 = .ok (.iconst 2, 1) := by decide +kernel
theorem dX5_preempt_88 : decode cX5_preempt 88 = .ok (.invokevirtual 30, 3) := by decide +kernel
theorem dX5_preempt_91 : decode cX5_preempt 91 = .ok (.iload_n 3, 1) := by decide +kernel
theorem dX5_preempt_92 : decode cX5_preempt 92 = .ok (.isub, 1) := by decide +kernel
theorem dX5_preempt_93 : decode cX5_preempt 93 = .ok (.iload_n 2, 1) := by decide +kernel
theorem dX5_preempt_94 : decode cX5_preempt 94 = .ok (.iadd, 1) := by decide +kernel
theorem dX5_preempt_95 : decode cX5_preempt 95 = .ok (.invokevirtual 59, 3) := by decide +kernel
theorem dX5_preempt_98 : decode cX5_preempt 98 = .ok (.aload_n 0, 1) := by decide +kernel
theorem dX5_preempt_99 : decode cX5_preempt 99 = .ok (.iload_n 1, 1) := by decide +kernel
theorem dX5_preempt_100 : decode cX5_preempt 100 = .ok (.iconst 3, 1) := by decide +kernel
theorem dX5_preempt_101 : decode cX5_preempt 101 = .ok (.aload_n 0, 1) := by decide +kernel
theorem dX5_preempt_102 : decode cX5_preempt 102 = .ok (.iload_n 1, 1) := by decide +kernel
theorem dX5_preempt_103 : decode cX5_preempt 103 = .ok (.iconst 3, 1) := by decide +kernel
theorem dX5_preempt_104 : decode cX5_preempt 104 = .ok (.invokevirtual 30, 3) := by decide +kernel
theorem dX5_preempt_107 : decode cX5_preempt 107 = .ok (.iload_n 3, 1) := by decide +kernel
theorem dX5_preempt_108 : decode cX5_preempt 108 = .ok (.isub, 1) := by decide +kernel
theorem dX5_preempt_109 : decode cX5_preempt 109 = .ok (.iload_n 2, 1) := by decide +kernel
theorem dX5_preempt_110 : decode cX5_preempt 110 = .ok (.iadd, 1) := by decide +kernel
theorem dX5_preempt_111 : decode cX5_preempt 111 = .ok (.invokevirtual 59, 3) := by decide +kernel
theorem dX5_preempt_114 : decode cX5_preempt 114 = .ok (.aload_n 0, 1) := by decide +kernel
theorem dX5_preempt_115 : decode cX5_preempt 115 = .ok (.iload_n 1, 1) := by decide +kernel
theorem dX5_preempt_116 : decode cX5_preempt 116 = .ok (.bipush 11, 2) := by decide +kernel
theorem dX5_preempt_118 : decode cX5_preempt 118 = .ok (.aload_n 0, 1) := by decide +kernel
theorem dX5_preempt_119 : decode cX5_preempt 119 = .ok (.iload_n 1, 1) := by decide +kernel
theorem dX5_preempt_120 : decode cX5_preempt 120 = .ok (.bipush 11, 2) := by decide +kernel
theorem dX5_preempt_122 : decode cX5_preempt 122 = .ok (.invokevirtual 30, 3) := by decide +kernel
theorem dX5_preempt_125 : decode cX5_preempt 125 = .ok (.iconst 1, 1) := by decide +kernel
theorem dX5_preempt_126 : decode cX5_preempt 126 = .ok (.iadd, 1) := by decide +kernel
theorem dX5_preempt_127 : decode cX5_preempt 127 = .ok (.invokevirtual 59, 3) := by decide +kernel
theorem dX5_preempt_130 : decode cX5_preempt 130 = .ok (.aload_n 0, 1) := by decide +kernel
theorem dX5_preempt_131 : decode cX5_preempt 131 = .ok (.iload_n 1, 1) := by decide +kernel
theorem dX5_preempt_132 : decode cX5_preempt 132 = .ok (.iconst 4, 1) := by decide +kernel
theorem dX5_preempt_133 : decode cX5_preempt 133 = .ok (.iconst 4, 1) := by decide +kernel
theorem dX5_preempt_134 : decode cX5_preempt 134 = .ok (.invokevirtual 59, 3) := by decide +kernel
theorem dX5_preempt_137 : decode cX5_preempt 137 = .ok (.aload_n 0, 1) := by decide +kernel
theorem dX5_preempt_138 : decode cX5_preempt 138 = .ok (.iconst 4, 1) := by decide +kernel
theorem dX5_preempt_139 : decode cX5_preempt 139 = .ok (.iload_n 1, 1) := by decide +kernel
theorem dX5_preempt_140 : decode cX5_preempt 140 = .ok (.invokevirtual 78, 3) := by decide +kernel
theorem dX5_preempt_143 : decode cX5_preempt 143 = .ok (.aload_n 0, 1) := by decide +kernel
theorem dX5_preempt_144 : decode cX5_preempt 144 = .ok (.invokevirtual 91, 3) := by decide +kernel
theorem dX5_preempt_147 : decode cX5_preempt 147 = .ok (.aload_n 0, 1) := by decide +kernel
theorem dX5_preempt_148 : decode cX5_preempt 148 = .ok (.iload_n 1, 1) := by decide +kernel
theorem dX5_preempt_149 : decode cX5_preempt 149 = .ok (.invokevirtual 74, 3) := by decide +kernel
theorem dX5_preempt_152 : decode cX5_preempt 152 = .ok (.aload_n 0, 1) := by decide +kernel
theorem dX5_preempt_153 : decode cX5_preempt 153 = .ok (.iload_n 1, 1) := by decide +kernel
theorem dX5_preempt_154 : decode cX5_preempt 154 = .ok (.bipush 6, 2) := by decide +kernel
theorem dX5_preempt_156 : decode cX5_preempt 156 = .ok (.invokevirtual 30, 3) := by decide +kernel
theorem dX5_preempt_159 : decode cX5_preempt 159 = .ok (.istore 4, 2) := by decide +kernel
theorem dX5_preempt_161 : decode cX5_preempt 161 = .ok (.aload_n 0, 1) := by decide +kernel
theorem dX5_preempt_162 : decode cX5_preempt 162 = .ok (.invokevirtual 88, 3) := by decide +kernel
theorem dX5_preempt_165 : decode cX5_preempt 165 = .ok (.iload 4, 2) := by decide +kernel
theorem dX5_preempt_167 : decode cX5_preempt 167 = .ok (.ireturn, 1) := by decide +kernel
theorem dX5_refuses_0 : decode cX5_refuses 0 = .ok (.aload_n 0, 1) := by decide +kernel
theorem dX5_refuses_1 : decode cX5_refuses 1 = .ok (.iload_n 1, 1) := by decide +kernel
theorem dX5_refuses_2 : decode cX5_refuses 2 = .ok (.putfield 101, 3) := by decide +kernel
theorem dX5_refuses_5 : decode cX5_refuses 5 = .ok (.aload_n 0, 1) := by decide +kernel
theorem dX5_refuses_6 : decode cX5_refuses 6 = .ok (.iconst 2, 1) := by decide +kernel
theorem dX5_refuses_7 : decode cX5_refuses 7 = .ok (.invokevirtual 85, 3) := by decide +kernel
theorem dX5_refuses_10 : decode cX5_refuses 10 = .ok (.ireturn, 1) := by decide +kernel
theorem dX5_reserve_0 : decode cX5_reserve 0 = .ok (.aload_n 0, 1) := by decide +kernel
theorem dX5_reserve_1 : decode cX5_reserve 1 = .ok (.iconst 0, 1) := by decide +kernel
theorem dX5_reserve_2 : decode cX5_reserve 2 = .ok (.putfield 22, 3) := by decide +kernel
theorem dX5_reserve_5 : decode cX5_reserve 5 = .ok (.iload_n 1, 1) := by decide +kernel
theorem dX5_reserve_6 : decode cX5_reserve 6 = .ok (.iconst 0, 1) := by decide +kernel
theorem dX5_reserve_7 : decode cX5_reserve 7 = .ok (.iconst 5, 1) := by decide +kernel
theorem dX5_reserve_8 : decode cX5_reserve 8 = .ok (.invokestatic 26, 3) := by decide +kernel
theorem dX5_reserve_11 : decode cX5_reserve 11 = .ok (.ifCond .eq 24, 3) := by decide +kernel
theorem dX5_reserve_14 : decode cX5_reserve 14 = .ok (.iload_n 2, 1) := by decide +kernel
theorem dX5_reserve_15 : decode cX5_reserve 15 = .ok (.iconst 0, 1) := by decide +kernel
theorem dX5_reserve_16 : decode cX5_reserve 16 = .ok (.sipush 1000, 3) := by decide +kernel
theorem dX5_reserve_19 : decode cX5_reserve 19 = .ok (.invokestatic 26, 3) := by decide +kernel
theorem dX5_reserve_22 : decode cX5_reserve 22 = .ok (.ifCond .eq 13, 3) := by decide +kernel
theorem dX5_reserve_25 : decode cX5_reserve 25 = .ok (.iload_n 3, 1) := by decide +kernel
theorem dX5_reserve_26 : decode cX5_reserve 26 = .ok (.iconst 1, 1) := by decide +kernel
theorem dX5_reserve_27 : decode cX5_reserve 27 = .ok (.bipush 40, 2) := by decide +kernel
theorem dX5_reserve_29 : decode cX5_reserve 29 = .ok (.invokestatic 26, 3) := by decide +kernel
theorem dX5_reserve_32 : decode cX5_reserve 32 = .ok (.ifCond .ne 9, 3) := by decide +kernel
theorem dX5_reserve_35 : decode cX5_reserve 35 = .ok (.aload_n 0, 1) := by decide +kernel
theorem dX5_reserve_36 : decode cX5_reserve 36 = .ok (.iconst 1, 1) := by decide +kernel
theorem dX5_reserve_37 : decode cX5_reserve 37 = .ok (.invokevirtual 85, 3) := by decide +kernel
theorem dX5_reserve_40 : decode cX5_reserve 40 = .ok (.ireturn, 1) := by decide +kernel
theorem dX5_reserve_41 : decode cX5_reserve 41 = .ok (.iload_n 2, 1) := by decide +kernel
theorem dX5_reserve_42 : decode cX5_reserve 42 = .ok (.aload_n 0, 1) := by decide +kernel
theorem dX5_reserve_43 : decode cX5_reserve 43 = .ok (.getfield 9, 3) := by decide +kernel
theorem dX5_reserve_46 : decode cX5_reserve 46 = .ok (.iconst 0, 1) := by decide +kernel
theorem dX5_reserve_47 : decode cX5_reserve 47 = .ok (.iaload, 1) := by decide +kernel
theorem dX5_reserve_48 : decode cX5_reserve 48 = .ok (.if_icmp .ge 9, 3) := by decide +kernel
theorem dX5_reserve_51 : decode cX5_reserve 51 = .ok (.aload_n 0, 1) := by decide +kernel
theorem dX5_reserve_52 : decode cX5_reserve 52 = .ok (.iconst 1, 1) := by decide +kernel
theorem dX5_reserve_53 : decode cX5_reserve 53 = .ok (.invokevirtual 104, 3) := by decide +kernel
theorem dX5_reserve_56 : decode cX5_reserve 56 = .ok (.ireturn, 1) := by decide +kernel
theorem dX5_reserve_57 : decode cX5_reserve 57 = .ok (.aload_n 0, 1) := by decide +kernel
theorem dX5_reserve_58 : decode cX5_reserve 58 = .ok (.getfield 9, 3) := by decide +kernel
theorem dX5_reserve_61 : decode cX5_reserve 61 = .ok (.iconst 2, 1) := by decide +kernel
theorem dX5_reserve_62 : decode cX5_reserve 62 = .ok (.iaload, 1) := by decide +kernel
theorem dX5_reserve_63 : decode cX5_reserve 63 = .ok (.bipush 6, 2) := by decide +kernel
theorem dX5_reserve_65 : decode cX5_reserve 65 = .ok (.if_icmp .ne 9, 3) := by decide +kernel
theorem dX5_reserve_68 : decode cX5_reserve 68 = .ok (.aload_n 0, 1) := by decide +kernel
theorem dX5_reserve_69 : decode cX5_reserve 69 = .ok (.iconst 2, 1) := by decide +kernel
theorem dX5_reserve_70 : decode cX5_reserve 70 = .ok (.invokevirtual 104, 3) := by decide +kernel
theorem dX5_reserve_73 : decode cX5_reserve 73 = .ok (.ireturn, 1) := by decide +kernel
theorem dX5_reserve_74 : decode cX5_reserve 74 = .ok (.aload_n 0, 1) := by decide +kernel
theorem dX5_reserve_75 : decode cX5_reserve 75 = .ok (.iload_n 1, 1) := by decide +kernel
theorem dX5_reserve_76 : decode cX5_reserve 76 = .ok (.iload_n 2, 1) := by decide +kernel
theorem dX5_reserve_77 : decode cX5_reserve 77 = .ok (.iload_n 3, 1) := by decide +kernel
theorem dX5_reserve_78 : decode cX5_reserve 78 = .ok (.invokevirtual 52, 3) := by decide +kernel
theorem dX5_reserve_81 : decode cX5_reserve 81 = .ok (.istore 4, 2) := by decide +kernel
theorem dX5_reserve_83 : decode cX5_reserve 83 = .ok (.iload 4, 2) := by decide +kernel
theorem dX5_reserve_85 : decode cX5_reserve 85 = .ok (.ifCond .ge 9, 3) := by decide +kernel
theorem dX5_reserve_88 : decode cX5_reserve 88 = .ok (.aload_n 0, 1) := by decide +kernel
theorem dX5_reserve_89 : decode cX5_reserve 89 = .ok (.iconst 3, 1) := by decide +kernel
theorem dX5_reserve_90 : decode cX5_reserve 90 = .ok (.invokevirtual 104, 3) := by decide +kernel
theorem dX5_reserve_93 : decode cX5_reserve 93 = .ok (.ireturn, 1) := by decide +kernel
theorem dX5_reserve_94 : decode cX5_reserve 94 = .ok (.aload_n 0, 1) := by decide +kernel
theorem dX5_reserve_95 : decode cX5_reserve 95 = .ok (.iconst 0, 1) := by decide +kernel
theorem dX5_reserve_96 : decode cX5_reserve 96 = .ok (.putfield 101, 3) := by decide +kernel
theorem dX5_reserve_99 : decode cX5_reserve 99 = .ok (.sipush 341, 3) := by decide +kernel
theorem dX5_reserve_102 : decode cX5_reserve 102 = .ok (.iconst 4, 1) := by decide +kernel
theorem dX5_reserve_103 : decode cX5_reserve 103 = .ok (.aload_n 0, 1) := by decide +kernel
theorem dX5_reserve_104 : decode cX5_reserve 104 = .ok (.getfield 9, 3) := by decide +kernel
theorem dX5_reserve_107 : decode cX5_reserve 107 = .ok (.iconst 2, 1) := by decide +kernel
theorem dX5_reserve_108 : decode cX5_reserve 108 = .ok (.iaload, 1) := by decide +kernel
theorem dX5_reserve_109 : decode cX5_reserve 109 = .ok (.imul, 1) := by decide +kernel
theorem dX5_reserve_110 : decode cX5_reserve 110 = .ok (.iadd, 1) := by decide +kernel
theorem dX5_reserve_111 : decode cX5_reserve 111 = .ok (.istore 5, 2) := by decide +kernel
theorem dX5_reserve_113 : decode cX5_reserve 113 = .ok (.aload_n 0, 1) := by decide +kernel
theorem dX5_reserve_114 : decode cX5_reserve 114 = .ok (.getfield 9, 3) := by decide +kernel
theorem dX5_reserve_117 : decode cX5_reserve 117 = .ok (.iload 5, 2) := by decide +kernel
theorem dX5_reserve_119 : decode cX5_reserve 119 = .ok (.iload_n 1, 1) := by decide +kernel
theorem dX5_reserve_120 : decode cX5_reserve 120 = .ok (.iastore, 1) := by decide +kernel
theorem dX5_reserve_121 : decode cX5_reserve 121 = .ok (.aload_n 0, 1) := by decide +kernel
theorem dX5_reserve_122 : decode cX5_reserve 122 = .ok (.getfield 9, 3) := by decide +kernel
theorem dX5_reserve_125 : decode cX5_reserve 125 = .ok (.iload 5, 2) := by decide +kernel
theorem dX5_reserve_127 : decode cX5_reserve 127 = .ok (.iconst 1, 1) := by decide +kernel
theorem dX5_reserve_128 : decode cX5_reserve 128 = .ok (.iadd, 1) := by decide +kernel
theorem dX5_reserve_129 : decode cX5_reserve 129 = .ok (.iload 4, 2) := by decide +kernel
theorem dX5_reserve_131 : decode cX5_reserve 131 = .ok (.iastore, 1) := by decide +kernel
theorem dX5_reserve_132 : decode cX5_reserve 132 = .ok (.aload_n 0, 1) := by decide +kernel
theorem dX5_reserve_133 : decode cX5_reserve 133 = .ok (.getfield 9, 3) := by decide +kernel
theorem dX5_reserve_136 : decode cX5_reserve 136 = .ok (.iload 5, 2) := by decide +kernel
theorem dX5_reserve_138 : decode cX5_reserve 138 = .ok (.iconst 2, 1) := by decide +kernel
theorem dX5_reserve_139 : decode cX5_reserve 139 = .ok (.iadd, 1) := by decide +kernel
theorem dX5_reserve_140 : decode cX5_reserve 140 = .ok (.iload_n 2, 1) := by decide +kernel
theorem dX5_reserve_141 : decode cX5_reserve 141 = .ok (.iastore, 1) := by decide +kernel
theorem dX5_reserve_142 : decode cX5_reserve 142 = .ok (.aload_n 0, 1) := by decide +kernel
theorem dX5_reserve_143 : decode cX5_reserve 143 = .ok (.getfield 9, 3) := by decide +kernel
theorem dX5_reserve_146 : decode cX5_reserve 146 = .ok (.iload 5, 2) := by decide +kernel
theorem dX5_reserve_148 : decode cX5_reserve 148 = .ok (.iconst 3, 1) := by decide +kernel
theorem dX5_reserve_149 : decode cX5_reserve 149 = .ok (.iadd, 1) := by decide +kernel
theorem dX5_reserve_150 : decode cX5_reserve 150 = .ok (.iload_n 3, 1) := by decide +kernel
theorem dX5_reserve_151 : decode cX5_reserve 151 = .ok (.iastore, 1) := by decide +kernel
theorem dX5_reserve_152 : decode cX5_reserve 152 = .ok (.aload_n 0, 1) := by decide +kernel
theorem dX5_reserve_153 : decode cX5_reserve 153 = .ok (.getfield 9, 3) := by decide +kernel
theorem dX5_reserve_156 : decode cX5_reserve 156 = .ok (.iconst 2, 1) := by decide +kernel
theorem dX5_reserve_157 : decode cX5_reserve 157 = .ok (.dup2, 1) := by decide +kernel
theorem dX5_reserve_158 : decode cX5_reserve 158 = .ok (.iaload, 1) := by decide +kernel
theorem dX5_reserve_159 : decode cX5_reserve 159 = .ok (.dup_x2, 1) := by decide +kernel
theorem dX5_reserve_160 : decode cX5_reserve 160 = .ok (.iconst 1, 1) := by decide +kernel
theorem dX5_reserve_161 : decode cX5_reserve 161 = .ok (.iadd, 1) := by decide +kernel
theorem dX5_reserve_162 : decode cX5_reserve 162 = .ok (.iastore, 1) := by decide +kernel
theorem dX5_reserve_163 : decode cX5_reserve 163 = .ok (.ireturn, 1) := by decide +kernel
theorem dX5_refusal_0 : decode cX5_refusal 0 = .ok (.aload_n 0, 1) := by decide +kernel
theorem dX5_refusal_1 : decode cX5_refusal 1 = .ok (.iconst 0, 1) := by decide +kernel
theorem dX5_refusal_2 : decode cX5_refusal 2 = .ok (.putfield 22, 3) := by decide +kernel
theorem dX5_refusal_5 : decode cX5_refusal 5 = .ok (.aload_n 0, 1) := by decide +kernel
theorem dX5_refusal_6 : decode cX5_refusal 6 = .ok (.getfield 101, 3) := by decide +kernel
theorem dX5_refusal_9 : decode cX5_refusal 9 = .ok (.ireturn, 1) := by decide +kernel
theorem dX5_cancelReservation_0 : decode cX5_cancelReservation 0 = .ok (.aload_n 0, 1) := by decide +kernel
theorem dX5_cancelReservation_1 : decode cX5_cancelReservation 1 = .ok (.iconst 0, 1) := by decide +kernel
theorem dX5_cancelReservation_2 : decode cX5_cancelReservation 2 = .ok (.putfield 22, 3) := by decide +kernel
theorem dX5_cancelReservation_5 : decode cX5_cancelReservation 5 = .ok (.aload_n 0, 1) := by decide +kernel
theorem dX5_cancelReservation_6 : decode cX5_cancelReservation 6 = .ok (.iload_n 1, 1) := by decide +kernel
theorem dX5_cancelReservation_7 : decode cX5_cancelReservation 7 = .ok (.invokevirtual 107, 3) := by decide +kernel
theorem dX5_cancelReservation_10 : decode cX5_cancelReservation 10 = .ok (.ifCond .ne 9, 3) := by decide +kernel
theorem dX5_cancelReservation_13 : decode cX5_cancelReservation 13 = .ok (.aload_n 0, 1) := by decide +kernel
theorem dX5_cancelReservation_14 : decode cX5_cancelReservation 14 = .ok (.iconst 1, 1) := by decide +kernel
theorem dX5_cancelReservation_15 : decode cX5_cancelReservation 15 = .ok (.putfield 22, 3) := by decide +kernel
theorem dX5_cancelReservation_18 : decode cX5_cancelReservation 18 = .ok (.return_, 1) := by decide +kernel
theorem dX5_cancelReservation_19 : decode cX5_cancelReservation 19 = .ok (.aload_n 0, 1) := by decide +kernel
theorem dX5_cancelReservation_20 : decode cX5_cancelReservation 20 = .ok (.iload_n 1, 1) := by decide +kernel
theorem dX5_cancelReservation_21 : decode cX5_cancelReservation 21 = .ok (.iconst 3, 1) := by decide +kernel
theorem dX5_cancelReservation_22 : decode cX5_cancelReservation 22 = .ok (.invokevirtual 42, 3) := by decide +kernel
theorem dX5_cancelReservation_25 : decode cX5_cancelReservation 25 = .ok (.ifCond .ne 9, 3) := by decide +kernel
theorem dX5_cancelReservation_28 : decode cX5_cancelReservation 28 = .ok (.aload_n 0, 1) := by decide +kernel
theorem dX5_cancelReservation_29 : decode cX5_cancelReservation 29 = .ok (.iconst 2, 1) := by decide +kernel
theorem dX5_cancelReservation_30 : decode cX5_cancelReservation 30 = .ok (.putfield 22, 3) := by decide +kernel
theorem dX5_cancelReservation_33 : decode cX5_cancelReservation 33 = .ok (.return_, 1) := by decide +kernel
theorem dX5_cancelReservation_34 : decode cX5_cancelReservation 34 = .ok (.aload_n 0, 1) := by decide +kernel
theorem dX5_cancelReservation_35 : decode cX5_cancelReservation 35 = .ok (.getfield 9, 3) := by decide +kernel
theorem dX5_cancelReservation_38 : decode cX5_cancelReservation 38 = .ok (.sipush 341, 3) := by decide +kernel
theorem dX5_cancelReservation_41 : decode cX5_cancelReservation 41 = .ok (.iconst 4, 1) := by decide +kernel
theorem dX5_cancelReservation_42 : decode cX5_cancelReservation 42 = .ok (.iload_n 1, 1) := by decide +kernel
theorem dX5_cancelReservation_43 : decode cX5_cancelReservation 43 = .ok (.imul, 1) := by decide +kernel
theorem dX5_cancelReservation_44 : decode cX5_cancelReservation 44 = .ok (.iadd, 1) := by decide +kernel
theorem dX5_cancelReservation_45 : decode cX5_cancelReservation 45 = .ok (.iconst 3, 1) := by decide +kernel
theorem dX5_cancelReservation_46 : decode cX5_cancelReservation 46 = .ok (.iadd, 1) := by decide +kernel
theorem dX5_cancelReservation_47 : decode cX5_cancelReservation 47 = .ok (.iconst 0, 1) := by decide +kernel
theorem dX5_cancelReservation_48 : decode cX5_cancelReservation 48 = .ok (.iastore, 1) := by decide +kernel
theorem dX5_cancelReservation_49 : decode cX5_cancelReservation 49 = .ok (.aload_n 0, 1) := by decide +kernel
theorem dX5_cancelReservation_50 : decode cX5_cancelReservation 50 = .ok (.invokevirtual 91, 3) := by decide +kernel
theorem dX5_cancelReservation_53 : decode cX5_cancelReservation 53 = .ok (.aload_n 0, 1) := by decide +kernel
theorem dX5_cancelReservation_54 : decode cX5_cancelReservation 54 = .ok (.invokevirtual 88, 3) := by decide +kernel
theorem dX5_cancelReservation_57 : decode cX5_cancelReservation 57 = .ok (.return_, 1) := by decide +kernel
theorem dX5_reservedProcessor_0 : decode cX5_reservedProcessor 0 = .ok (.aload_n 0, 1) := by decide +kernel
theorem dX5_reservedProcessor_1 : decode cX5_reservedProcessor 1 = .ok (.iconst 0, 1) := by decide +kernel
theorem dX5_reservedProcessor_2 : decode cX5_reservedProcessor 2 = .ok (.putfield 22, 3) := by decide +kernel
theorem dX5_reservedProcessor_5 : decode cX5_reservedProcessor 5 = .ok (.aload_n 0, 1) := by decide +kernel
theorem dX5_reservedProcessor_6 : decode cX5_reservedProcessor 6 = .ok (.iload_n 1, 1) := by decide +kernel
theorem dX5_reservedProcessor_7 : decode cX5_reservedProcessor 7 = .ok (.invokevirtual 107, 3) := by decide +kernel
theorem dX5_reservedProcessor_10 : decode cX5_reservedProcessor 10 = .ok (.ifCond .ne 9, 3) := by decide +kernel
theorem dX5_reservedProcessor_13 : decode cX5_reservedProcessor 13 = .ok (.aload_n 0, 1) := by decide +kernel
theorem dX5_reservedProcessor_14 : decode cX5_reservedProcessor 14 = .ok (.iconst 1, 1) := by decide +kernel
theorem dX5_reservedProcessor_15 : decode cX5_reservedProcessor 15 = .ok (.invokevirtual 85, 3) := by decide +kernel
theorem dX5_reservedProcessor_18 : decode cX5_reservedProcessor 18 = .ok (.ireturn, 1) := by decide +kernel
theorem dX5_reservedProcessor_19 : decode cX5_reservedProcessor 19 = .ok (.aload_n 0, 1) := by decide +kernel
theorem dX5_reservedProcessor_20 : decode cX5_reservedProcessor 20 = .ok (.iload_n 1, 1) := by decide +kernel
theorem dX5_reservedProcessor_21 : decode cX5_reservedProcessor 21 = .ok (.iconst 3, 1) := by decide +kernel
theorem dX5_reservedProcessor_22 : decode cX5_reservedProcessor 22 = .ok (.invokevirtual 42, 3) := by decide +kernel
theorem dX5_reservedProcessor_25 : decode cX5_reservedProcessor 25 = .ok (.ifCond .ne 11, 3) := by decide +kernel
theorem dX5_reservedProcessor_28 : decode cX5_reservedProcessor 28 = .ok (.aload_n 0, 1) := by decide +kernel
theorem dX5_reservedProcessor_29 : decode cX5_reservedProcessor 29 = .ok (.iconst 2, 1) := by decide +kernel
theorem dX5_reservedProcessor_30 : decode cX5_reservedProcessor 30 = .ok (.invokevirtual 85, 3) := by decide +kernel
theorem dX5_reservedProcessor_33 : decode cX5_reservedProcessor 33 = .ok (.goto 9, 3) := by decide +kernel
theorem dX5_reservedProcessor_36 : decode cX5_reservedProcessor 36 = .ok (.aload_n 0, 1) := by decide +kernel
theorem dX5_reservedProcessor_37 : decode cX5_reservedProcessor 37 = .ok (.iload_n 1, 1) := by decide +kernel
theorem dX5_reservedProcessor_38 : decode cX5_reservedProcessor 38 = .ok (.iconst 1, 1) := by decide +kernel
theorem dX5_reservedProcessor_39 : decode cX5_reservedProcessor 39 = .ok (.invokevirtual 42, 3) := by decide +kernel
theorem dX5_reservedProcessor_42 : decode cX5_reservedProcessor 42 = .ok (.ireturn, 1) := by decide +kernel
theorem dX5_setFair_0 : decode cX5_setFair 0 = .ok (.aload_n 0, 1) := by decide +kernel
theorem dX5_setFair_1 : decode cX5_setFair 1 = .ok (.iconst 0, 1) := by decide +kernel
theorem dX5_setFair_2 : decode cX5_setFair 2 = .ok (.putfield 22, 3) := by decide +kernel
theorem dX5_setFair_5 : decode cX5_setFair 5 = .ok (.aload_n 0, 1) := by decide +kernel
theorem dX5_setFair_6 : decode cX5_setFair 6 = .ok (.getfield 9, 3) := by decide +kernel
theorem dX5_setFair_9 : decode cX5_setFair 9 = .ok (.iconst 3, 1) := by decide +kernel
theorem dX5_setFair_10 : decode cX5_setFair 10 = .ok (.iaload, 1) := by decide +kernel
theorem dX5_setFair_11 : decode cX5_setFair 11 = .ok (.iconst 1, 1) := by decide +kernel
theorem dX5_setFair_12 : decode cX5_setFair 12 = .ok (.if_icmp .ne 7, 3) := by decide +kernel
theorem dX5_setFair_15 : decode cX5_setFair 15 = .ok (.iconst 1, 1) := by decide +kernel
theorem dX5_setFair_16 : decode cX5_setFair 16 = .ok (.goto 4, 3) := by decide +kernel
theorem dX5_setFair_19 : decode cX5_setFair 19 = .ok (.iconst 0, 1) := by decide +kernel
theorem dX5_setFair_20 : decode cX5_setFair 20 = .ok (.istore_n 2, 1) := by decide +kernel
theorem dX5_setFair_21 : decode cX5_setFair 21 = .ok (.aload_n 0, 1) := by decide +kernel
theorem dX5_setFair_22 : decode cX5_setFair 22 = .ok (.getfield 9, 3) := by decide +kernel
theorem dX5_setFair_25 : decode cX5_setFair 25 = .ok (.iconst 3, 1) := by decide +kernel
theorem dX5_setFair_26 : decode cX5_setFair 26 = .ok (.iload_n 1, 1) := by decide +kernel
theorem dX5_setFair_27 : decode cX5_setFair 27 = .ok (.ifCond .eq 7, 3) := by decide +kernel
theorem dX5_setFair_30 : decode cX5_setFair 30 = .ok (.iconst 1, 1) := by decide +kernel
theorem dX5_setFair_31 : decode cX5_setFair 31 = .ok (.goto 4, 3) := by decide +kernel
theorem dX5_setFair_34 : decode cX5_setFair 34 = .ok (.iconst 0, 1) := by decide +kernel
theorem dX5_setFair_35 : decode cX5_setFair 35 = .ok (.iastore, 1) := by decide +kernel
theorem dX5_setFair_36 : decode cX5_setFair 36 = .ok (.iload_n 2, 1) := by decide +kernel
theorem dX5_setFair_37 : decode cX5_setFair 37 = .ok (.ireturn, 1) := by decide +kernel
theorem dX5_clock_0 : decode cX5_clock 0 = .ok (.aload_n 0, 1) := by decide +kernel
theorem dX5_clock_1 : decode cX5_clock 1 = .ok (.iconst 0, 1) := by decide +kernel
theorem dX5_clock_2 : decode cX5_clock 2 = .ok (.putfield 22, 3) := by decide +kernel
theorem dX5_clock_5 : decode cX5_clock 5 = .ok (.aload_n 0, 1) := by decide +kernel
theorem dX5_clock_6 : decode cX5_clock 6 = .ok (.getfield 9, 3) := by decide +kernel
theorem dX5_clock_9 : decode cX5_clock 9 = .ok (.iconst 0, 1) := by decide +kernel
theorem dX5_clock_10 : decode cX5_clock 10 = .ok (.iaload, 1) := by decide +kernel
theorem dX5_clock_11 : decode cX5_clock 11 = .ok (.ireturn, 1) := by decide +kernel
theorem dX5_jobCount_0 : decode cX5_jobCount 0 = .ok (.aload_n 0, 1) := by decide +kernel
theorem dX5_jobCount_1 : decode cX5_jobCount 1 = .ok (.iconst 0, 1) := by decide +kernel
theorem dX5_jobCount_2 : decode cX5_jobCount 2 = .ok (.putfield 22, 3) := by decide +kernel
theorem dX5_jobCount_5 : decode cX5_jobCount 5 = .ok (.aload_n 0, 1) := by decide +kernel
theorem dX5_jobCount_6 : decode cX5_jobCount 6 = .ok (.getfield 9, 3) := by decide +kernel
theorem dX5_jobCount_9 : decode cX5_jobCount 9 = .ok (.iconst 1, 1) := by decide +kernel
theorem dX5_jobCount_10 : decode cX5_jobCount 10 = .ok (.iaload, 1) := by decide +kernel
theorem dX5_jobCount_11 : decode cX5_jobCount 11 = .ok (.ireturn, 1) := by decide +kernel
theorem dX5_state_0 : decode cX5_state 0 = .ok (.aload_n 0, 1) := by decide +kernel
theorem dX5_state_1 : decode cX5_state 1 = .ok (.iconst 0, 1) := by decide +kernel
theorem dX5_state_2 : decode cX5_state 2 = .ok (.putfield 22, 3) := by decide +kernel
theorem dX5_state_5 : decode cX5_state 5 = .ok (.aload_n 0, 1) := by decide +kernel
theorem dX5_state_6 : decode cX5_state 6 = .ok (.iload_n 1, 1) := by decide +kernel
theorem dX5_state_7 : decode cX5_state 7 = .ok (.invokevirtual 98, 3) := by decide +kernel
theorem dX5_state_10 : decode cX5_state 10 = .ok (.ifCond .eq 12, 3) := by decide +kernel
theorem dX5_state_13 : decode cX5_state 13 = .ok (.aload_n 0, 1) := by decide +kernel
theorem dX5_state_14 : decode cX5_state 14 = .ok (.iload_n 1, 1) := by decide +kernel
theorem dX5_state_15 : decode cX5_state 15 = .ok (.iconst 4, 1) := by decide +kernel
theorem dX5_state_16 : decode cX5_state 16 = .ok (.invokevirtual 30, 3) := by decide +kernel
theorem dX5_state_19 : decode cX5_state 19 = .ok (.goto 8, 3) := by decide +kernel
theorem dX5_state_22 : decode cX5_state 22 = .ok (.aload_n 0, 1) := by decide +kernel
theorem dX5_state_23 : decode cX5_state 23 = .ok (.iconst 1, 1) := by decide +kernel
theorem dX5_state_24 : decode cX5_state 24 = .ok (.invokevirtual 85, 3) := by decide +kernel
theorem dX5_state_27 : decode cX5_state 27 = .ok (.ireturn, 1) := by decide +kernel
theorem dX5_ofAllocated_0 : decode cX5_ofAllocated 0 = .ok (.aload_n 0, 1) := by decide +kernel
theorem dX5_ofAllocated_1 : decode cX5_ofAllocated 1 = .ok (.iconst 0, 1) := by decide +kernel
theorem dX5_ofAllocated_2 : decode cX5_ofAllocated 2 = .ok (.putfield 22, 3) := by decide +kernel
theorem dX5_ofAllocated_5 : decode cX5_ofAllocated 5 = .ok (.aload_n 0, 1) := by decide +kernel
theorem dX5_ofAllocated_6 : decode cX5_ofAllocated 6 = .ok (.iload_n 1, 1) := by decide +kernel
theorem dX5_ofAllocated_7 : decode cX5_ofAllocated 7 = .ok (.invokevirtual 98, 3) := by decide +kernel
theorem dX5_ofAllocated_10 : decode cX5_ofAllocated 10 = .ok (.ifCond .ne 9, 3) := by decide +kernel
theorem dX5_ofAllocated_13 : decode cX5_ofAllocated 13 = .ok (.aload_n 0, 1) := by decide +kernel
theorem dX5_ofAllocated_14 : decode cX5_ofAllocated 14 = .ok (.iconst 1, 1) := by decide +kernel
theorem dX5_ofAllocated_15 : decode cX5_ofAllocated 15 = .ok (.invokevirtual 85, 3) := by decide +kernel
theorem dX5_ofAllocated_18 : decode cX5_ofAllocated 18 = .ok (.ireturn, 1) := by decide +kernel
theorem dX5_ofAllocated_19 : decode cX5_ofAllocated 19 = .ok (.aload_n 0, 1) := by decide +kernel
theorem dX5_ofAllocated_20 : decode cX5_ofAllocated 20 = .ok (.iload_n 1, 1) := by decide +kernel
theorem dX5_ofAllocated_21 : decode cX5_ofAllocated 21 = .ok (.invokevirtual 34, 3) := by decide +kernel
theorem dX5_ofAllocated_24 : decode cX5_ofAllocated 24 = .ok (.ifCond .eq 12, 3) := by decide +kernel
theorem dX5_ofAllocated_27 : decode cX5_ofAllocated 27 = .ok (.aload_n 0, 1) := by decide +kernel
theorem dX5_ofAllocated_28 : decode cX5_ofAllocated 28 = .ok (.iload_n 1, 1) := by decide +kernel
theorem dX5_ofAllocated_29 : decode cX5_ofAllocated 29 = .ok (.iload_n 2, 1) := by decide +kernel
theorem dX5_ofAllocated_30 : decode cX5_ofAllocated 30 = .ok (.invokevirtual 30, 3) := by decide +kernel
theorem dX5_ofAllocated_33 : decode cX5_ofAllocated 33 = .ok (.goto 8, 3) := by decide +kernel
theorem dX5_ofAllocated_36 : decode cX5_ofAllocated 36 = .ok (.aload_n 0, 1) := by decide +kernel
theorem dX5_ofAllocated_37 : decode cX5_ofAllocated 37 = .ok (.iconst 2, 1) := by decide +kernel
theorem dX5_ofAllocated_38 : decode cX5_ofAllocated 38 = .ok (.invokevirtual 85, 3) := by decide +kernel
theorem dX5_ofAllocated_41 : decode cX5_ofAllocated 41 = .ok (.ireturn, 1) := by decide +kernel
theorem dX5_startTime_0 : decode cX5_startTime 0 = .ok (.aload_n 0, 1) := by decide +kernel
theorem dX5_startTime_1 : decode cX5_startTime 1 = .ok (.iload_n 1, 1) := by decide +kernel
theorem dX5_startTime_2 : decode cX5_startTime 2 = .ok (.bipush 6, 2) := by decide +kernel
theorem dX5_startTime_4 : decode cX5_startTime 4 = .ok (.invokevirtual 110, 3) := by decide +kernel
theorem dX5_startTime_7 : decode cX5_startTime 7 = .ok (.ireturn, 1) := by decide +kernel
theorem dX5_firstProcessor_0 : decode cX5_firstProcessor 0 = .ok (.aload_n 0, 1) := by decide +kernel
theorem dX5_firstProcessor_1 : decode cX5_firstProcessor 1 = .ok (.iload_n 1, 1) := by decide +kernel
theorem dX5_firstProcessor_2 : decode cX5_firstProcessor 2 = .ok (.iconst 5, 1) := by decide +kernel
theorem dX5_firstProcessor_3 : decode cX5_firstProcessor 3 = .ok (.invokevirtual 110, 3) := by decide +kernel
theorem dX5_firstProcessor_6 : decode cX5_firstProcessor 6 = .ok (.ireturn, 1) := by decide +kernel
theorem dX5_promise_0 : decode cX5_promise 0 = .ok (.aload_n 0, 1) := by decide +kernel
theorem dX5_promise_1 : decode cX5_promise 1 = .ok (.iconst 0, 1) := by decide +kernel
theorem dX5_promise_2 : decode cX5_promise 2 = .ok (.putfield 22, 3) := by decide +kernel
theorem dX5_promise_5 : decode cX5_promise 5 = .ok (.aload_n 0, 1) := by decide +kernel
theorem dX5_promise_6 : decode cX5_promise 6 = .ok (.iload_n 1, 1) := by decide +kernel
theorem dX5_promise_7 : decode cX5_promise 7 = .ok (.invokevirtual 98, 3) := by decide +kernel
theorem dX5_promise_10 : decode cX5_promise 10 = .ok (.ifCond .eq 13, 3) := by decide +kernel
theorem dX5_promise_13 : decode cX5_promise 13 = .ok (.aload_n 0, 1) := by decide +kernel
theorem dX5_promise_14 : decode cX5_promise 14 = .ok (.iload_n 1, 1) := by decide +kernel
theorem dX5_promise_15 : decode cX5_promise 15 = .ok (.bipush 7, 2) := by decide +kernel
theorem dX5_promise_17 : decode cX5_promise 17 = .ok (.invokevirtual 30, 3) := by decide +kernel
theorem dX5_promise_20 : decode cX5_promise 20 = .ok (.goto 8, 3) := by decide +kernel
theorem dX5_promise_23 : decode cX5_promise 23 = .ok (.aload_n 0, 1) := by decide +kernel
theorem dX5_promise_24 : decode cX5_promise 24 = .ok (.iconst 1, 1) := by decide +kernel
theorem dX5_promise_25 : decode cX5_promise 25 = .ok (.invokevirtual 85, 3) := by decide +kernel
theorem dX5_promise_28 : decode cX5_promise 28 = .ok (.ireturn, 1) := by decide +kernel
theorem dX5_finishTime_0 : decode cX5_finishTime 0 = .ok (.aload_n 0, 1) := by decide +kernel
theorem dX5_finishTime_1 : decode cX5_finishTime 1 = .ok (.iconst 0, 1) := by decide +kernel
theorem dX5_finishTime_2 : decode cX5_finishTime 2 = .ok (.putfield 22, 3) := by decide +kernel
theorem dX5_finishTime_5 : decode cX5_finishTime 5 = .ok (.aload_n 0, 1) := by decide +kernel
theorem dX5_finishTime_6 : decode cX5_finishTime 6 = .ok (.iload_n 1, 1) := by decide +kernel
theorem dX5_finishTime_7 : decode cX5_finishTime 7 = .ok (.invokevirtual 98, 3) := by decide +kernel
theorem dX5_finishTime_10 : decode cX5_finishTime 10 = .ok (.ifCond .ne 9, 3) := by decide +kernel
theorem dX5_finishTime_13 : decode cX5_finishTime 13 = .ok (.aload_n 0, 1) := by decide +kernel
theorem dX5_finishTime_14 : decode cX5_finishTime 14 = .ok (.iconst 1, 1) := by decide +kernel
theorem dX5_finishTime_15 : decode cX5_finishTime 15 = .ok (.invokevirtual 85, 3) := by decide +kernel
theorem dX5_finishTime_18 : decode cX5_finishTime 18 = .ok (.ireturn, 1) := by decide +kernel
theorem dX5_finishTime_19 : decode cX5_finishTime 19 = .ok (.aload_n 0, 1) := by decide +kernel
theorem dX5_finishTime_20 : decode cX5_finishTime 20 = .ok (.iload_n 1, 1) := by decide +kernel
theorem dX5_finishTime_21 : decode cX5_finishTime 21 = .ok (.iconst 4, 1) := by decide +kernel
theorem dX5_finishTime_22 : decode cX5_finishTime 22 = .ok (.invokevirtual 30, 3) := by decide +kernel
theorem dX5_finishTime_25 : decode cX5_finishTime 25 = .ok (.iconst 2, 1) := by decide +kernel
theorem dX5_finishTime_26 : decode cX5_finishTime 26 = .ok (.if_icmp .ne 13, 3) := by decide +kernel
theorem dX5_finishTime_29 : decode cX5_finishTime 29 = .ok (.aload_n 0, 1) := by decide +kernel
theorem dX5_finishTime_30 : decode cX5_finishTime 30 = .ok (.iload_n 1, 1) := by decide +kernel
theorem dX5_finishTime_31 : decode cX5_finishTime 31 = .ok (.bipush 10, 2) := by decide +kernel
theorem dX5_finishTime_33 : decode cX5_finishTime 33 = .ok (.invokevirtual 30, 3) := by decide +kernel
theorem dX5_finishTime_36 : decode cX5_finishTime 36 = .ok (.goto 8, 3) := by decide +kernel
theorem dX5_finishTime_39 : decode cX5_finishTime 39 = .ok (.aload_n 0, 1) := by decide +kernel
theorem dX5_finishTime_40 : decode cX5_finishTime 40 = .ok (.iconst 2, 1) := by decide +kernel
theorem dX5_finishTime_41 : decode cX5_finishTime 41 = .ok (.invokevirtual 85, 3) := by decide +kernel
theorem dX5_finishTime_44 : decode cX5_finishTime 44 = .ok (.ireturn, 1) := by decide +kernel
theorem dX5_preemptions_0 : decode cX5_preemptions 0 = .ok (.aload_n 0, 1) := by decide +kernel
theorem dX5_preemptions_1 : decode cX5_preemptions 1 = .ok (.iconst 0, 1) := by decide +kernel
theorem dX5_preemptions_2 : decode cX5_preemptions 2 = .ok (.putfield 22, 3) := by decide +kernel
theorem dX5_preemptions_5 : decode cX5_preemptions 5 = .ok (.aload_n 0, 1) := by decide +kernel
theorem dX5_preemptions_6 : decode cX5_preemptions 6 = .ok (.iload_n 1, 1) := by decide +kernel
theorem dX5_preemptions_7 : decode cX5_preemptions 7 = .ok (.invokevirtual 98, 3) := by decide +kernel
theorem dX5_preemptions_10 : decode cX5_preemptions 10 = .ok (.ifCond .eq 13, 3) := by decide +kernel
theorem dX5_preemptions_13 : decode cX5_preemptions 13 = .ok (.aload_n 0, 1) := by decide +kernel
theorem dX5_preemptions_14 : decode cX5_preemptions 14 = .ok (.iload_n 1, 1) := by decide +kernel
theorem dX5_preemptions_15 : decode cX5_preemptions 15 = .ok (.bipush 11, 2) := by decide +kernel
theorem dX5_preemptions_17 : decode cX5_preemptions 17 = .ok (.invokevirtual 30, 3) := by decide +kernel
theorem dX5_preemptions_20 : decode cX5_preemptions 20 = .ok (.goto 8, 3) := by decide +kernel
theorem dX5_preemptions_23 : decode cX5_preemptions 23 = .ok (.aload_n 0, 1) := by decide +kernel
theorem dX5_preemptions_24 : decode cX5_preemptions 24 = .ok (.iconst 1, 1) := by decide +kernel
theorem dX5_preemptions_25 : decode cX5_preemptions 25 = .ok (.invokevirtual 85, 3) := by decide +kernel
theorem dX5_preemptions_28 : decode cX5_preemptions 28 = .ok (.ireturn, 1) := by decide +kernel
theorem dX5_waitTime_0 : decode cX5_waitTime 0 = .ok (.aload_n 0, 1) := by decide +kernel
theorem dX5_waitTime_1 : decode cX5_waitTime 1 = .ok (.iconst 0, 1) := by decide +kernel
theorem dX5_waitTime_2 : decode cX5_waitTime 2 = .ok (.putfield 22, 3) := by decide +kernel
theorem dX5_waitTime_5 : decode cX5_waitTime 5 = .ok (.aload_n 0, 1) := by decide +kernel
theorem dX5_waitTime_6 : decode cX5_waitTime 6 = .ok (.iload_n 1, 1) := by decide +kernel
theorem dX5_waitTime_7 : decode cX5_waitTime 7 = .ok (.invokevirtual 98, 3) := by decide +kernel
theorem dX5_waitTime_10 : decode cX5_waitTime 10 = .ok (.ifCond .ne 9, 3) := by decide +kernel
theorem dX5_waitTime_13 : decode cX5_waitTime 13 = .ok (.aload_n 0, 1) := by decide +kernel
theorem dX5_waitTime_14 : decode cX5_waitTime 14 = .ok (.iconst 1, 1) := by decide +kernel
theorem dX5_waitTime_15 : decode cX5_waitTime 15 = .ok (.invokevirtual 85, 3) := by decide +kernel
theorem dX5_waitTime_18 : decode cX5_waitTime 18 = .ok (.ireturn, 1) := by decide +kernel
theorem dX5_waitTime_19 : decode cX5_waitTime 19 = .ok (.aload_n 0, 1) := by decide +kernel
theorem dX5_waitTime_20 : decode cX5_waitTime 20 = .ok (.iload_n 1, 1) := by decide +kernel
theorem dX5_waitTime_21 : decode cX5_waitTime 21 = .ok (.bipush 12, 2) := by decide +kernel
theorem dX5_waitTime_23 : decode cX5_waitTime 23 = .ok (.invokevirtual 30, 3) := by decide +kernel
theorem dX5_waitTime_26 : decode cX5_waitTime 26 = .ok (.ifCond .ge 11, 3) := by decide +kernel
theorem dX5_waitTime_29 : decode cX5_waitTime 29 = .ok (.aload_n 0, 1) := by decide +kernel
theorem dX5_waitTime_30 : decode cX5_waitTime 30 = .ok (.iconst 2, 1) := by decide +kernel
theorem dX5_waitTime_31 : decode cX5_waitTime 31 = .ok (.invokevirtual 85, 3) := by decide +kernel
theorem dX5_waitTime_34 : decode cX5_waitTime 34 = .ok (.goto 18, 3) := by decide +kernel
theorem dX5_waitTime_37 : decode cX5_waitTime 37 = .ok (.aload_n 0, 1) := by decide +kernel
theorem dX5_waitTime_38 : decode cX5_waitTime 38 = .ok (.iload_n 1, 1) := by decide +kernel
theorem dX5_waitTime_39 : decode cX5_waitTime 39 = .ok (.bipush 12, 2) := by decide +kernel
theorem dX5_waitTime_41 : decode cX5_waitTime 41 = .ok (.invokevirtual 30, 3) := by decide +kernel
theorem dX5_waitTime_44 : decode cX5_waitTime 44 = .ok (.aload_n 0, 1) := by decide +kernel
theorem dX5_waitTime_45 : decode cX5_waitTime 45 = .ok (.iload_n 1, 1) := by decide +kernel
theorem dX5_waitTime_46 : decode cX5_waitTime 46 = .ok (.bipush 8, 2) := by decide +kernel
theorem dX5_waitTime_48 : decode cX5_waitTime 48 = .ok (.invokevirtual 30, 3) := by decide +kernel
theorem dX5_waitTime_51 : decode cX5_waitTime 51 = .ok (.isub, 1) := by decide +kernel
theorem dX5_waitTime_52 : decode cX5_waitTime 52 = .ok (.ireturn, 1) := by decide +kernel
theorem dX5_averageWait_0 : decode cX5_averageWait 0 = .ok (.aload_n 0, 1) := by decide +kernel
theorem dX5_averageWait_1 : decode cX5_averageWait 1 = .ok (.iconst 0, 1) := by decide +kernel
theorem dX5_averageWait_2 : decode cX5_averageWait 2 = .ok (.putfield 22, 3) := by decide +kernel
theorem dX5_averageWait_5 : decode cX5_averageWait 5 = .ok (.iconst 0, 1) := by decide +kernel
theorem dX5_averageWait_6 : decode cX5_averageWait 6 = .ok (.istore_n 1, 1) := by decide +kernel
theorem dX5_averageWait_7 : decode cX5_averageWait 7 = .ok (.iconst 0, 1) := by decide +kernel
theorem dX5_averageWait_8 : decode cX5_averageWait 8 = .ok (.istore_n 2, 1) := by decide +kernel
theorem dX5_averageWait_9 : decode cX5_averageWait 9 = .ok (.iconst 0, 1) := by decide +kernel
theorem dX5_averageWait_10 : decode cX5_averageWait 10 = .ok (.istore_n 3, 1) := by decide +kernel
theorem dX5_averageWait_11 : decode cX5_averageWait 11 = .ok (.iload_n 3, 1) := by decide +kernel
theorem dX5_averageWait_12 : decode cX5_averageWait 12 = .ok (.aload_n 0, 1) := by decide +kernel
theorem dX5_averageWait_13 : decode cX5_averageWait 13 = .ok (.getfield 9, 3) := by decide +kernel
theorem dX5_averageWait_16 : decode cX5_averageWait 16 = .ok (.iconst 1, 1) := by decide +kernel
theorem dX5_averageWait_17 : decode cX5_averageWait 17 = .ok (.iaload, 1) := by decide +kernel
theorem dX5_averageWait_18 : decode cX5_averageWait 18 = .ok (.if_icmp .ge 43, 3) := by decide +kernel
theorem dX5_averageWait_21 : decode cX5_averageWait 21 = .ok (.aload_n 0, 1) := by decide +kernel
theorem dX5_averageWait_22 : decode cX5_averageWait 22 = .ok (.iload_n 3, 1) := by decide +kernel
theorem dX5_averageWait_23 : decode cX5_averageWait 23 = .ok (.bipush 12, 2) := by decide +kernel
theorem dX5_averageWait_25 : decode cX5_averageWait 25 = .ok (.invokevirtual 30, 3) := by decide +kernel
theorem dX5_averageWait_28 : decode cX5_averageWait 28 = .ok (.ifCond .ge 6, 3) := by decide +kernel
theorem dX5_averageWait_31 : decode cX5_averageWait 31 = .ok (.goto 24, 3) := by decide +kernel
theorem dX5_averageWait_34 : decode cX5_averageWait 34 = .ok (.iload_n 1, 1) := by decide +kernel
theorem dX5_averageWait_35 : decode cX5_averageWait 35 = .ok (.aload_n 0, 1) := by decide +kernel
theorem dX5_averageWait_36 : decode cX5_averageWait 36 = .ok (.iload_n 3, 1) := by decide +kernel
theorem dX5_averageWait_37 : decode cX5_averageWait 37 = .ok (.bipush 12, 2) := by decide +kernel
theorem dX5_averageWait_39 : decode cX5_averageWait 39 = .ok (.invokevirtual 30, 3) := by decide +kernel
theorem dX5_averageWait_42 : decode cX5_averageWait 42 = .ok (.aload_n 0, 1) := by decide +kernel
theorem dX5_averageWait_43 : decode cX5_averageWait 43 = .ok (.iload_n 3, 1) := by decide +kernel
theorem dX5_averageWait_44 : decode cX5_averageWait 44 = .ok (.bipush 8, 2) := by decide +kernel
theorem dX5_averageWait_46 : decode cX5_averageWait 46 = .ok (.invokevirtual 30, 3) := by decide +kernel
theorem dX5_averageWait_49 : decode cX5_averageWait 49 = .ok (.isub, 1) := by decide +kernel
theorem dX5_averageWait_50 : decode cX5_averageWait 50 = .ok (.iadd, 1) := by decide +kernel
theorem dX5_averageWait_51 : decode cX5_averageWait 51 = .ok (.istore_n 1, 1) := by decide +kernel
theorem dX5_averageWait_52 : decode cX5_averageWait 52 = .ok (.iinc 2 1, 3) := by decide +kernel
theorem dX5_averageWait_55 : decode cX5_averageWait 55 = .ok (.iinc 3 1, 3) := by decide +kernel
theorem dX5_averageWait_58 : decode cX5_averageWait 58 = .ok (.goto (-47), 3) := by decide +kernel
theorem dX5_averageWait_61 : decode cX5_averageWait 61 = .ok (.iload_n 2, 1) := by decide +kernel
theorem dX5_averageWait_62 : decode cX5_averageWait 62 = .ok (.ifCond .ne 12, 3) := by decide +kernel
theorem dX5_averageWait_65 : decode cX5_averageWait 65 = .ok (.aload_n 0, 1) := by decide +kernel
theorem dX5_averageWait_66 : decode cX5_averageWait 66 = .ok (.iconst 1, 1) := by decide +kernel
theorem dX5_averageWait_67 : decode cX5_averageWait 67 = .ok (.invokevirtual 85, 3) := by decide +kernel
theorem dX5_averageWait_70 : decode cX5_averageWait 70 = .ok (.i2d, 1) := by decide +kernel
theorem dX5_averageWait_71 : decode cX5_averageWait 71 = .ok (.goto 8, 3) := by decide +kernel
theorem dX5_averageWait_74 : decode cX5_averageWait 74 = .ok (.iload_n 1, 1) := by decide +kernel
theorem dX5_averageWait_75 : decode cX5_averageWait 75 = .ok (.i2d, 1) := by decide +kernel
theorem dX5_averageWait_76 : decode cX5_averageWait 76 = .ok (.iload_n 2, 1) := by decide +kernel
theorem dX5_averageWait_77 : decode cX5_averageWait 77 = .ok (.i2d, 1) := by decide +kernel
theorem dX5_averageWait_78 : decode cX5_averageWait 78 = .ok (.ddiv, 1) := by decide +kernel
theorem dX5_averageWait_79 : decode cX5_averageWait 79 = .ok (.dreturn, 1) := by decide +kernel
theorem dX5_slowdown_0 : decode cX5_slowdown 0 = .ok (.aload_n 0, 1) := by decide +kernel
theorem dX5_slowdown_1 : decode cX5_slowdown 1 = .ok (.iconst 0, 1) := by decide +kernel
theorem dX5_slowdown_2 : decode cX5_slowdown 2 = .ok (.putfield 22, 3) := by decide +kernel
theorem dX5_slowdown_5 : decode cX5_slowdown 5 = .ok (.aload_n 0, 1) := by decide +kernel
theorem dX5_slowdown_6 : decode cX5_slowdown 6 = .ok (.iload_n 1, 1) := by decide +kernel
theorem dX5_slowdown_7 : decode cX5_slowdown 7 = .ok (.invokevirtual 98, 3) := by decide +kernel
theorem dX5_slowdown_10 : decode cX5_slowdown 10 = .ok (.ifCond .ne 10, 3) := by decide +kernel
theorem dX5_slowdown_13 : decode cX5_slowdown 13 = .ok (.aload_n 0, 1) := by decide +kernel
theorem dX5_slowdown_14 : decode cX5_slowdown 14 = .ok (.iconst 1, 1) := by decide +kernel
theorem dX5_slowdown_15 : decode cX5_slowdown 15 = .ok (.invokevirtual 85, 3) := by decide +kernel
theorem dX5_slowdown_18 : decode cX5_slowdown 18 = .ok (.i2f, 1) := by decide +kernel
theorem dX5_slowdown_19 : decode cX5_slowdown 19 = .ok (.freturn, 1) := by decide +kernel
theorem dX5_slowdown_20 : decode cX5_slowdown 20 = .ok (.aload_n 0, 1) := by decide +kernel
theorem dX5_slowdown_21 : decode cX5_slowdown 21 = .ok (.iload_n 1, 1) := by decide +kernel
theorem dX5_slowdown_22 : decode cX5_slowdown 22 = .ok (.iconst 4, 1) := by decide +kernel
theorem dX5_slowdown_23 : decode cX5_slowdown 23 = .ok (.invokevirtual 30, 3) := by decide +kernel
theorem dX5_slowdown_26 : decode cX5_slowdown 26 = .ok (.iconst 2, 1) := by decide +kernel
theorem dX5_slowdown_27 : decode cX5_slowdown 27 = .ok (.if_icmp .eq 12, 3) := by decide +kernel
theorem dX5_slowdown_30 : decode cX5_slowdown 30 = .ok (.aload_n 0, 1) := by decide +kernel
theorem dX5_slowdown_31 : decode cX5_slowdown 31 = .ok (.iconst 2, 1) := by decide +kernel
theorem dX5_slowdown_32 : decode cX5_slowdown 32 = .ok (.invokevirtual 85, 3) := by decide +kernel
theorem dX5_slowdown_35 : decode cX5_slowdown 35 = .ok (.i2f, 1) := by decide +kernel
theorem dX5_slowdown_36 : decode cX5_slowdown 36 = .ok (.goto 28, 3) := by decide +kernel
theorem dX5_slowdown_39 : decode cX5_slowdown 39 = .ok (.aload_n 0, 1) := by decide +kernel
theorem dX5_slowdown_40 : decode cX5_slowdown 40 = .ok (.iload_n 1, 1) := by decide +kernel
theorem dX5_slowdown_41 : decode cX5_slowdown 41 = .ok (.bipush 10, 2) := by decide +kernel
theorem dX5_slowdown_43 : decode cX5_slowdown 43 = .ok (.invokevirtual 30, 3) := by decide +kernel
theorem dX5_slowdown_46 : decode cX5_slowdown 46 = .ok (.aload_n 0, 1) := by decide +kernel
theorem dX5_slowdown_47 : decode cX5_slowdown 47 = .ok (.iload_n 1, 1) := by decide +kernel
theorem dX5_slowdown_48 : decode cX5_slowdown 48 = .ok (.bipush 8, 2) := by decide +kernel
theorem dX5_slowdown_50 : decode cX5_slowdown 50 = .ok (.invokevirtual 30, 3) := by decide +kernel
theorem dX5_slowdown_53 : decode cX5_slowdown 53 = .ok (.isub, 1) := by decide +kernel
theorem dX5_slowdown_54 : decode cX5_slowdown 54 = .ok (.i2f, 1) := by decide +kernel
theorem dX5_slowdown_55 : decode cX5_slowdown 55 = .ok (.aload_n 0, 1) := by decide +kernel
theorem dX5_slowdown_56 : decode cX5_slowdown 56 = .ok (.iload_n 1, 1) := by decide +kernel
theorem dX5_slowdown_57 : decode cX5_slowdown 57 = .ok (.bipush 9, 2) := by decide +kernel
theorem dX5_slowdown_59 : decode cX5_slowdown 59 = .ok (.invokevirtual 30, 3) := by decide +kernel
theorem dX5_slowdown_62 : decode cX5_slowdown 62 = .ok (.i2f, 1) := by decide +kernel
theorem dX5_slowdown_63 : decode cX5_slowdown 63 = .ok (.fdiv, 1) := by decide +kernel
theorem dX5_slowdown_64 : decode cX5_slowdown 64 = .ok (.freturn, 1) := by decide +kernel
theorem dX5_usage_0 : decode cX5_usage 0 = .ok (.aload_n 0, 1) := by decide +kernel
theorem dX5_usage_1 : decode cX5_usage 1 = .ok (.iconst 0, 1) := by decide +kernel
theorem dX5_usage_2 : decode cX5_usage 2 = .ok (.putfield 22, 3) := by decide +kernel
theorem dX5_usage_5 : decode cX5_usage 5 = .ok (.iload_n 1, 1) := by decide +kernel
theorem dX5_usage_6 : decode cX5_usage 6 = .ok (.iconst 0, 1) := by decide +kernel
theorem dX5_usage_7 : decode cX5_usage 7 = .ok (.iconst 3, 1) := by decide +kernel
theorem dX5_usage_8 : decode cX5_usage 8 = .ok (.invokestatic 26, 3) := by decide +kernel
theorem dX5_usage_11 : decode cX5_usage 11 = .ok (.ifCond .eq 11, 3) := by decide +kernel
theorem dX5_usage_14 : decode cX5_usage 14 = .ok (.aload_n 0, 1) := by decide +kernel
theorem dX5_usage_15 : decode cX5_usage 15 = .ok (.iload_n 1, 1) := by decide +kernel
theorem dX5_usage_16 : decode cX5_usage 16 = .ok (.invokevirtual 67, 3) := by decide +kernel
theorem dX5_usage_19 : decode cX5_usage 19 = .ok (.goto 8, 3) := by decide +kernel
theorem dX5_usage_22 : decode cX5_usage 22 = .ok (.aload_n 0, 1) := by decide +kernel
theorem dX5_usage_23 : decode cX5_usage 23 = .ok (.iconst 1, 1) := by decide +kernel
theorem dX5_usage_24 : decode cX5_usage 24 = .ok (.invokevirtual 85, 3) := by decide +kernel
theorem dX5_usage_27 : decode cX5_usage 27 = .ok (.ireturn, 1) := by decide +kernel
theorem dX5_utilization_0 : decode cX5_utilization 0 = .ok (.aload_n 0, 1) := by decide +kernel
theorem dX5_utilization_1 : decode cX5_utilization 1 = .ok (.iconst 0, 1) := by decide +kernel
theorem dX5_utilization_2 : decode cX5_utilization 2 = .ok (.putfield 22, 3) := by decide +kernel
theorem dX5_utilization_5 : decode cX5_utilization 5 = .ok (.aload_n 0, 1) := by decide +kernel
theorem dX5_utilization_6 : decode cX5_utilization 6 = .ok (.getfield 9, 3) := by decide +kernel
theorem dX5_utilization_9 : decode cX5_utilization 9 = .ok (.iconst 0, 1) := by decide +kernel
theorem dX5_utilization_10 : decode cX5_utilization 10 = .ok (.iaload, 1) := by decide +kernel
theorem dX5_utilization_11 : decode cX5_utilization 11 = .ok (.ifCond .ne 10, 3) := by decide +kernel
theorem dX5_utilization_14 : decode cX5_utilization 14 = .ok (.aload_n 0, 1) := by decide +kernel
theorem dX5_utilization_15 : decode cX5_utilization 15 = .ok (.iconst 1, 1) := by decide +kernel
theorem dX5_utilization_16 : decode cX5_utilization 16 = .ok (.invokevirtual 85, 3) := by decide +kernel
theorem dX5_utilization_19 : decode cX5_utilization 19 = .ok (.i2d, 1) := by decide +kernel
theorem dX5_utilization_20 : decode cX5_utilization 20 = .ok (.dreturn, 1) := by decide +kernel
theorem dX5_utilization_21 : decode cX5_utilization 21 = .ok (.iconst 0, 1) := by decide +kernel
theorem dX5_utilization_22 : decode cX5_utilization 22 = .ok (.istore_n 1, 1) := by decide +kernel
theorem dX5_utilization_23 : decode cX5_utilization 23 = .ok (.iconst 0, 1) := by decide +kernel
theorem dX5_utilization_24 : decode cX5_utilization 24 = .ok (.istore_n 2, 1) := by decide +kernel
theorem dX5_utilization_25 : decode cX5_utilization 25 = .ok (.iload_n 2, 1) := by decide +kernel
theorem dX5_utilization_26 : decode cX5_utilization 26 = .ok (.iconst 4, 1) := by decide +kernel
theorem dX5_utilization_27 : decode cX5_utilization 27 = .ok (.if_icmp .ge 17, 3) := by decide +kernel
theorem dX5_utilization_30 : decode cX5_utilization 30 = .ok (.iload_n 1, 1) := by decide +kernel
theorem dX5_utilization_31 : decode cX5_utilization 31 = .ok (.aload_n 0, 1) := by decide +kernel
theorem dX5_utilization_32 : decode cX5_utilization 32 = .ok (.iload_n 2, 1) := by decide +kernel
theorem dX5_utilization_33 : decode cX5_utilization 33 = .ok (.invokevirtual 67, 3) := by decide +kernel
theorem dX5_utilization_36 : decode cX5_utilization 36 = .ok (.iadd, 1) := by decide +kernel
theorem dX5_utilization_37 : decode cX5_utilization 37 = .ok (.istore_n 1, 1) := by decide +kernel
theorem dX5_utilization_38 : decode cX5_utilization 38 = .ok (.iinc 2 1, 3) := by decide +kernel
theorem dX5_utilization_41 : decode cX5_utilization 41 = .ok (.goto (-16), 3) := by decide +kernel
theorem dX5_utilization_44 : decode cX5_utilization 44 = .ok (.iload_n 1, 1) := by decide +kernel
theorem dX5_utilization_45 : decode cX5_utilization 45 = .ok (.i2d, 1) := by decide +kernel
theorem dX5_utilization_46 : decode cX5_utilization 46 = .ok (.bipush 32, 2) := by decide +kernel
theorem dX5_utilization_48 : decode cX5_utilization 48 = .ok (.aload_n 0, 1) := by decide +kernel
theorem dX5_utilization_49 : decode cX5_utilization 49 = .ok (.getfield 9, 3) := by decide +kernel
theorem dX5_utilization_52 : decode cX5_utilization 52 = .ok (.iconst 0, 1) := by decide +kernel
theorem dX5_utilization_53 : decode cX5_utilization 53 = .ok (.iaload, 1) := by decide +kernel
theorem dX5_utilization_54 : decode cX5_utilization 54 = .ok (.imul, 1) := by decide +kernel
theorem dX5_utilization_55 : decode cX5_utilization 55 = .ok (.i2d, 1) := by decide +kernel
theorem dX5_utilization_56 : decode cX5_utilization 56 = .ok (.ddiv, 1) := by decide +kernel
theorem dX5_utilization_57 : decode cX5_utilization 57 = .ok (.dreturn, 1) := by decide +kernel
theorem dX5_makespan_0 : decode cX5_makespan 0 = .ok (.aload_n 0, 1) := by decide +kernel
theorem dX5_makespan_1 : decode cX5_makespan 1 = .ok (.iconst 0, 1) := by decide +kernel
theorem dX5_makespan_2 : decode cX5_makespan 2 = .ok (.putfield 22, 3) := by decide +kernel
theorem dX5_makespan_5 : decode cX5_makespan 5 = .ok (.aload_n 0, 1) := by decide +kernel
theorem dX5_makespan_6 : decode cX5_makespan 6 = .ok (.getfield 9, 3) := by decide +kernel
theorem dX5_makespan_9 : decode cX5_makespan 9 = .ok (.iconst 0, 1) := by decide +kernel
theorem dX5_makespan_10 : decode cX5_makespan 10 = .ok (.iaload, 1) := by decide +kernel
theorem dX5_makespan_11 : decode cX5_makespan 11 = .ok (.istore_n 1, 1) := by decide +kernel
theorem dX5_makespan_12 : decode cX5_makespan 12 = .ok (.iconst 0, 1) := by decide +kernel
theorem dX5_makespan_13 : decode cX5_makespan 13 = .ok (.istore_n 2, 1) := by decide +kernel
theorem dX5_makespan_14 : decode cX5_makespan 14 = .ok (.iload_n 2, 1) := by decide +kernel
theorem dX5_makespan_15 : decode cX5_makespan 15 = .ok (.aload_n 0, 1) := by decide +kernel
theorem dX5_makespan_16 : decode cX5_makespan 16 = .ok (.getfield 9, 3) := by decide +kernel
theorem dX5_makespan_19 : decode cX5_makespan 19 = .ok (.iconst 1, 1) := by decide +kernel
theorem dX5_makespan_20 : decode cX5_makespan 20 = .ok (.iaload, 1) := by decide +kernel
theorem dX5_makespan_21 : decode cX5_makespan 21 = .ok (.if_icmp .ge 36, 3) := by decide +kernel
theorem dX5_makespan_24 : decode cX5_makespan 24 = .ok (.aload_n 0, 1) := by decide +kernel
theorem dX5_makespan_25 : decode cX5_makespan 25 = .ok (.iload_n 2, 1) := by decide +kernel
theorem dX5_makespan_26 : decode cX5_makespan 26 = .ok (.invokevirtual 34, 3) := by decide +kernel
theorem dX5_makespan_29 : decode cX5_makespan 29 = .ok (.ifCond .eq 22, 3) := by decide +kernel
theorem dX5_makespan_32 : decode cX5_makespan 32 = .ok (.iload_n 1, 1) := by decide +kernel
theorem dX5_makespan_33 : decode cX5_makespan 33 = .ok (.aload_n 0, 1) := by decide +kernel
theorem dX5_makespan_34 : decode cX5_makespan 34 = .ok (.iload_n 2, 1) := by decide +kernel
theorem dX5_makespan_35 : decode cX5_makespan 35 = .ok (.bipush 6, 2) := by decide +kernel
theorem dX5_makespan_37 : decode cX5_makespan 37 = .ok (.invokevirtual 30, 3) := by decide +kernel
theorem dX5_makespan_40 : decode cX5_makespan 40 = .ok (.aload_n 0, 1) := by decide +kernel
theorem dX5_makespan_41 : decode cX5_makespan 41 = .ok (.iload_n 2, 1) := by decide +kernel
theorem dX5_makespan_42 : decode cX5_makespan 42 = .ok (.iconst 2, 1) := by decide +kernel
theorem dX5_makespan_43 : decode cX5_makespan 43 = .ok (.invokevirtual 30, 3) := by decide +kernel
theorem dX5_makespan_46 : decode cX5_makespan 46 = .ok (.iadd, 1) := by decide +kernel
theorem dX5_makespan_47 : decode cX5_makespan 47 = .ok (.invokestatic 113, 3) := by decide +kernel
theorem dX5_makespan_50 : decode cX5_makespan 50 = .ok (.istore_n 1, 1) := by decide +kernel
theorem dX5_makespan_51 : decode cX5_makespan 51 = .ok (.iinc 2 1, 3) := by decide +kernel
theorem dX5_makespan_54 : decode cX5_makespan 54 = .ok (.goto (-40), 3) := by decide +kernel
theorem dX5_makespan_57 : decode cX5_makespan 57 = .ok (.iload_n 1, 1) := by decide +kernel
theorem dX5_makespan_58 : decode cX5_makespan 58 = .ok (.ireturn, 1) := by decide +kernel
theorem dX5_owner_0 : decode cX5_owner 0 = .ok (.iconst 0, 1) := by decide +kernel
theorem dX5_owner_1 : decode cX5_owner 1 = .ok (.istore_n 3, 1) := by decide +kernel
theorem dX5_owner_2 : decode cX5_owner 2 = .ok (.iload_n 3, 1) := by decide +kernel
theorem dX5_owner_3 : decode cX5_owner 3 = .ok (.aload_n 0, 1) := by decide +kernel
theorem dX5_owner_4 : decode cX5_owner 4 = .ok (.getfield 9, 3) := by decide +kernel
theorem dX5_owner_7 : decode cX5_owner 7 = .ok (.iconst 1, 1) := by decide +kernel
theorem dX5_owner_8 : decode cX5_owner 8 = .ok (.iaload, 1) := by decide +kernel
theorem dX5_owner_9 : decode cX5_owner 9 = .ok (.if_icmp .ge 72, 3) := by decide +kernel
theorem dX5_owner_12 : decode cX5_owner 12 = .ok (.aload_n 0, 1) := by decide +kernel
theorem dX5_owner_13 : decode cX5_owner 13 = .ok (.iload_n 3, 1) := by decide +kernel
theorem dX5_owner_14 : decode cX5_owner 14 = .ok (.invokevirtual 34, 3) := by decide +kernel
theorem dX5_owner_17 : decode cX5_owner 17 = .ok (.ifCond .eq 58, 3) := by decide +kernel
theorem dX5_owner_20 : decode cX5_owner 20 = .ok (.iload_n 2, 1) := by decide +kernel
theorem dX5_owner_21 : decode cX5_owner 21 = .ok (.aload_n 0, 1) := by decide +kernel
theorem dX5_owner_22 : decode cX5_owner 22 = .ok (.iload_n 3, 1) := by decide +kernel
theorem dX5_owner_23 : decode cX5_owner 23 = .ok (.bipush 6, 2) := by decide +kernel
theorem dX5_owner_25 : decode cX5_owner 25 = .ok (.invokevirtual 30, 3) := by decide +kernel
theorem dX5_owner_28 : decode cX5_owner 28 = .ok (.if_icmp .lt 47, 3) := by decide +kernel
theorem dX5_owner_31 : decode cX5_owner 31 = .ok (.iload_n 2, 1) := by decide +kernel
theorem dX5_owner_32 : decode cX5_owner 32 = .ok (.aload_n 0, 1) := by decide +kernel
theorem dX5_owner_33 : decode cX5_owner 33 = .ok (.iload_n 3, 1) := by decide +kernel
theorem dX5_owner_34 : decode cX5_owner 34 = .ok (.bipush 6, 2) := by decide +kernel
theorem dX5_owner_36 : decode cX5_owner 36 = .ok (.invokevirtual 30, 3) := by decide +kernel
theorem dX5_owner_39 : decode cX5_owner 39 = .ok (.isub, 1) := by decide +kernel
theorem dX5_owner_40 : decode cX5_owner 40 = .ok (.aload_n 0, 1) := by decide +kernel
theorem dX5_owner_41 : decode cX5_owner 41 = .ok (.iload_n 3, 1) := by decide +kernel
theorem dX5_owner_42 : decode cX5_owner 42 = .ok (.iconst 2, 1) := by decide +kernel
theorem dX5_owner_43 : decode cX5_owner 43 = .ok (.invokevirtual 30, 3) := by decide +kernel
theorem dX5_owner_46 : decode cX5_owner 46 = .ok (.if_icmp .ge 29, 3) := by decide +kernel
theorem dX5_owner_49 : decode cX5_owner 49 = .ok (.iload_n 1, 1) := by decide +kernel
theorem dX5_owner_50 : decode cX5_owner 50 = .ok (.aload_n 0, 1) := by decide +kernel
theorem dX5_owner_51 : decode cX5_owner 51 = .ok (.iload_n 3, 1) := by decide +kernel
theorem dX5_owner_52 : decode cX5_owner 52 = .ok (.iconst 1, 1) := by decide +kernel
theorem dX5_owner_53 : decode cX5_owner 53 = .ok (.invokevirtual 30, 3) := by decide +kernel
theorem dX5_owner_56 : decode cX5_owner 56 = .ok (.ishr, 1) := by decide +kernel
theorem dX5_owner_57 : decode cX5_owner 57 = .ok (.aload_n 0, 1) := by decide +kernel
theorem dX5_owner_58 : decode cX5_owner 58 = .ok (.iload_n 3, 1) := by decide +kernel
theorem dX5_owner_59 : decode cX5_owner 59 = .ok (.iconst 5, 1) := by decide +kernel
theorem dX5_owner_60 : decode cX5_owner 60 = .ok (.invokevirtual 30, 3) := by decide +kernel
theorem dX5_owner_63 : decode cX5_owner 63 = .ok (.aload_n 0, 1) := by decide +kernel
theorem dX5_owner_64 : decode cX5_owner 64 = .ok (.iload_n 3, 1) := by decide +kernel
theorem dX5_owner_65 : decode cX5_owner 65 = .ok (.iconst 1, 1) := by decide +kernel
theorem dX5_owner_66 : decode cX5_owner 66 = .ok (.invokevirtual 30, 3) := by decide +kernel
theorem dX5_owner_69 : decode cX5_owner 69 = .ok (.ishr, 1) := by decide +kernel
theorem dX5_owner_70 : decode cX5_owner 70 = .ok (.if_icmp .ne 5, 3) := by decide +kernel
theorem dX5_owner_73 : decode cX5_owner 73 = .ok (.iload_n 3, 1) := by decide +kernel
theorem dX5_owner_74 : decode cX5_owner 74 = .ok (.ireturn, 1) := by decide +kernel
theorem dX5_owner_75 : decode cX5_owner 75 = .ok (.iinc 3 1, 3) := by decide +kernel
theorem dX5_owner_78 : decode cX5_owner 78 = .ok (.goto (-76), 3) := by decide +kernel
theorem dX5_owner_81 : decode cX5_owner 81 = .ok (.iconst 0, 1) := by decide +kernel
theorem dX5_owner_82 : decode cX5_owner 82 = .ok (.istore_n 3, 1) := by decide +kernel
theorem dX5_owner_83 : decode cX5_owner 83 = .ok (.iload_n 3, 1) := by decide +kernel
theorem dX5_owner_84 : decode cX5_owner 84 = .ok (.aload_n 0, 1) := by decide +kernel
theorem dX5_owner_85 : decode cX5_owner 85 = .ok (.getfield 9, 3) := by decide +kernel
theorem dX5_owner_88 : decode cX5_owner 88 = .ok (.iconst 2, 1) := by decide +kernel
theorem dX5_owner_89 : decode cX5_owner 89 = .ok (.iaload, 1) := by decide +kernel
theorem dX5_owner_90 : decode cX5_owner 90 = .ok (.if_icmp .ge 65, 3) := by decide +kernel
theorem dX5_owner_93 : decode cX5_owner 93 = .ok (.iload_n 2, 1) := by decide +kernel
theorem dX5_owner_94 : decode cX5_owner 94 = .ok (.aload_n 0, 1) := by decide +kernel
theorem dX5_owner_95 : decode cX5_owner 95 = .ok (.iload_n 3, 1) := by decide +kernel
theorem dX5_owner_96 : decode cX5_owner 96 = .ok (.iconst 2, 1) := by decide +kernel
theorem dX5_owner_97 : decode cX5_owner 97 = .ok (.invokevirtual 42, 3) := by decide +kernel
theorem dX5_owner_100 : decode cX5_owner 100 = .ok (.if_icmp .lt 49, 3) := by decide +kernel
theorem dX5_owner_103 : decode cX5_owner 103 = .ok (.iload_n 2, 1) := by decide +kernel
theorem dX5_owner_104 : decode cX5_owner 104 = .ok (.aload_n 0, 1) := by decide +kernel
theorem dX5_owner_105 : decode cX5_owner 105 = .ok (.iload_n 3, 1) := by decide +kernel
theorem dX5_owner_106 : decode cX5_owner 106 = .ok (.iconst 2, 1) := by decide +kernel
theorem dX5_owner_107 : decode cX5_owner 107 = .ok (.invokevirtual 42, 3) := by decide +kernel
theorem dX5_owner_110 : decode cX5_owner 110 = .ok (.isub, 1) := by decide +kernel
theorem dX5_owner_111 : decode cX5_owner 111 = .ok (.aload_n 0, 1) := by decide +kernel
theorem dX5_owner_112 : decode cX5_owner 112 = .ok (.iload_n 3, 1) := by decide +kernel
theorem dX5_owner_113 : decode cX5_owner 113 = .ok (.iconst 3, 1) := by decide +kernel
theorem dX5_owner_114 : decode cX5_owner 114 = .ok (.invokevirtual 42, 3) := by decide +kernel
theorem dX5_owner_117 : decode cX5_owner 117 = .ok (.if_icmp .ge 32, 3) := by decide +kernel
theorem dX5_owner_120 : decode cX5_owner 120 = .ok (.iload_n 1, 1) := by decide +kernel
theorem dX5_owner_121 : decode cX5_owner 121 = .ok (.aload_n 0, 1) := by decide +kernel
theorem dX5_owner_122 : decode cX5_owner 122 = .ok (.iload_n 3, 1) := by decide +kernel
theorem dX5_owner_123 : decode cX5_owner 123 = .ok (.iconst 0, 1) := by decide +kernel
theorem dX5_owner_124 : decode cX5_owner 124 = .ok (.invokevirtual 42, 3) := by decide +kernel
theorem dX5_owner_127 : decode cX5_owner 127 = .ok (.ishr, 1) := by decide +kernel
theorem dX5_owner_128 : decode cX5_owner 128 = .ok (.aload_n 0, 1) := by decide +kernel
theorem dX5_owner_129 : decode cX5_owner 129 = .ok (.iload_n 3, 1) := by decide +kernel
theorem dX5_owner_130 : decode cX5_owner 130 = .ok (.iconst 1, 1) := by decide +kernel
theorem dX5_owner_131 : decode cX5_owner 131 = .ok (.invokevirtual 42, 3) := by decide +kernel
theorem dX5_owner_134 : decode cX5_owner 134 = .ok (.aload_n 0, 1) := by decide +kernel
theorem dX5_owner_135 : decode cX5_owner 135 = .ok (.iload_n 3, 1) := by decide +kernel
theorem dX5_owner_136 : decode cX5_owner 136 = .ok (.iconst 0, 1) := by decide +kernel
theorem dX5_owner_137 : decode cX5_owner 137 = .ok (.invokevirtual 42, 3) := by decide +kernel
theorem dX5_owner_140 : decode cX5_owner 140 = .ok (.ishr, 1) := by decide +kernel
theorem dX5_owner_141 : decode cX5_owner 141 = .ok (.if_icmp .ne 8, 3) := by decide +kernel
theorem dX5_owner_144 : decode cX5_owner 144 = .ok (.bipush 100, 2) := by decide +kernel
theorem dX5_owner_146 : decode cX5_owner 146 = .ok (.iload_n 3, 1) := by decide +kernel
theorem dX5_owner_147 : decode cX5_owner 147 = .ok (.iadd, 1) := by decide +kernel
theorem dX5_owner_148 : decode cX5_owner 148 = .ok (.ireturn, 1) := by decide +kernel
theorem dX5_owner_149 : decode cX5_owner 149 = .ok (.iinc 3 1, 3) := by decide +kernel
theorem dX5_owner_152 : decode cX5_owner 152 = .ok (.goto (-69), 3) := by decide +kernel
theorem dX5_owner_155 : decode cX5_owner 155 = .ok (.iconst (-1), 1) := by decide +kernel
theorem dX5_owner_156 : decode cX5_owner 156 = .ok (.ireturn, 1) := by decide +kernel
theorem dX5_ownerAt_0 : decode cX5_ownerAt 0 = .ok (.aload_n 0, 1) := by decide +kernel
theorem dX5_ownerAt_1 : decode cX5_ownerAt 1 = .ok (.iconst 0, 1) := by decide +kernel
theorem dX5_ownerAt_2 : decode cX5_ownerAt 2 = .ok (.putfield 22, 3) := by decide +kernel
theorem dX5_ownerAt_5 : decode cX5_ownerAt 5 = .ok (.iload_n 1, 1) := by decide +kernel
theorem dX5_ownerAt_6 : decode cX5_ownerAt 6 = .ok (.iconst 0, 1) := by decide +kernel
theorem dX5_ownerAt_7 : decode cX5_ownerAt 7 = .ok (.bipush 31, 2) := by decide +kernel
theorem dX5_ownerAt_9 : decode cX5_ownerAt 9 = .ok (.invokestatic 26, 3) := by decide +kernel
theorem dX5_ownerAt_12 : decode cX5_ownerAt 12 = .ok (.ifCond .eq 16, 3) := by decide +kernel
theorem dX5_ownerAt_15 : decode cX5_ownerAt 15 = .ok (.iload_n 2, 1) := by decide +kernel
theorem dX5_ownerAt_16 : decode cX5_ownerAt 16 = .ok (.ifCond .lt 12, 3) := by decide +kernel
theorem dX5_ownerAt_19 : decode cX5_ownerAt 19 = .ok (.aload_n 0, 1) := by decide +kernel
theorem dX5_ownerAt_20 : decode cX5_ownerAt 20 = .ok (.iload_n 1, 1) := by decide +kernel
theorem dX5_ownerAt_21 : decode cX5_ownerAt 21 = .ok (.iload_n 2, 1) := by decide +kernel
theorem dX5_ownerAt_22 : decode cX5_ownerAt 22 = .ok (.invokevirtual 118, 3) := by decide +kernel
theorem dX5_ownerAt_25 : decode cX5_ownerAt 25 = .ok (.goto 8, 3) := by decide +kernel
theorem dX5_ownerAt_28 : decode cX5_ownerAt 28 = .ok (.aload_n 0, 1) := by decide +kernel
theorem dX5_ownerAt_29 : decode cX5_ownerAt 29 = .ok (.iconst 1, 1) := by decide +kernel
theorem dX5_ownerAt_30 : decode cX5_ownerAt 30 = .ok (.invokevirtual 85, 3) := by decide +kernel
theorem dX5_ownerAt_33 : decode cX5_ownerAt 33 = .ok (.ireturn, 1) := by decide +kernel
theorem dX5_frees_0 : decode cX5_frees 0 = .ok (.iconst 0, 1) := by decide +kernel
theorem dX5_frees_1 : decode cX5_frees 1 = .ok (.istore_n 2, 1) := by decide +kernel
theorem dX5_frees_2 : decode cX5_frees 2 = .ok (.iconst 0, 1) := by decide +kernel
theorem dX5_frees_3 : decode cX5_frees 3 = .ok (.istore_n 3, 1) := by decide +kernel
theorem dX5_frees_4 : decode cX5_frees 4 = .ok (.iload_n 3, 1) := by decide +kernel
theorem dX5_frees_5 : decode cX5_frees 5 = .ok (.bipush 32, 2) := by decide +kernel
theorem dX5_frees_7 : decode cX5_frees 7 = .ok (.if_icmp .ge 21, 3) := by decide +kernel
theorem dX5_frees_10 : decode cX5_frees 10 = .ok (.aload_n 0, 1) := by decide +kernel
theorem dX5_frees_11 : decode cX5_frees 11 = .ok (.iload_n 3, 1) := by decide +kernel
theorem dX5_frees_12 : decode cX5_frees 12 = .ok (.iload_n 1, 1) := by decide +kernel
theorem dX5_frees_13 : decode cX5_frees 13 = .ok (.invokevirtual 118, 3) := by decide +kernel
theorem dX5_frees_16 : decode cX5_frees 16 = .ok (.ifCond .ge 6, 3) := by decide +kernel
theorem dX5_frees_19 : decode cX5_frees 19 = .ok (.iinc 2 1, 3) := by decide +kernel
theorem dX5_frees_22 : decode cX5_frees 22 = .ok (.iinc 3 1, 3) := by decide +kernel
theorem dX5_frees_25 : decode cX5_frees 25 = .ok (.goto (-21), 3) := by decide +kernel
theorem dX5_frees_28 : decode cX5_frees 28 = .ok (.iload_n 2, 1) := by decide +kernel
theorem dX5_frees_29 : decode cX5_frees 29 = .ok (.ireturn, 1) := by decide +kernel
theorem dX5_freeProcessors_0 : decode cX5_freeProcessors 0 = .ok (.aload_n 0, 1) := by decide +kernel
theorem dX5_freeProcessors_1 : decode cX5_freeProcessors 1 = .ok (.iconst 0, 1) := by decide +kernel
theorem dX5_freeProcessors_2 : decode cX5_freeProcessors 2 = .ok (.putfield 22, 3) := by decide +kernel
theorem dX5_freeProcessors_5 : decode cX5_freeProcessors 5 = .ok (.iload_n 1, 1) := by decide +kernel
theorem dX5_freeProcessors_6 : decode cX5_freeProcessors 6 = .ok (.ifCond .ge 11, 3) := by decide +kernel
theorem dX5_freeProcessors_9 : decode cX5_freeProcessors 9 = .ok (.aload_n 0, 1) := by decide +kernel
theorem dX5_freeProcessors_10 : decode cX5_freeProcessors 10 = .ok (.iconst 1, 1) := by decide +kernel
theorem dX5_freeProcessors_11 : decode cX5_freeProcessors 11 = .ok (.invokevirtual 85, 3) := by decide +kernel
theorem dX5_freeProcessors_14 : decode cX5_freeProcessors 14 = .ok (.goto 8, 3) := by decide +kernel
theorem dX5_freeProcessors_17 : decode cX5_freeProcessors 17 = .ok (.aload_n 0, 1) := by decide +kernel
theorem dX5_freeProcessors_18 : decode cX5_freeProcessors 18 = .ok (.iload_n 1, 1) := by decide +kernel
theorem dX5_freeProcessors_19 : decode cX5_freeProcessors 19 = .ok (.invokevirtual 121, 3) := by decide +kernel
theorem dX5_freeProcessors_22 : decode cX5_freeProcessors 22 = .ok (.ireturn, 1) := by decide +kernel
theorem dX5_isFreeNow_0 : decode cX5_isFreeNow 0 = .ok (.iload_n 2, 1) := by decide +kernel
theorem dX5_isFreeNow_1 : decode cX5_isFreeNow 1 = .ok (.istore_n 3, 1) := by decide +kernel
theorem dX5_isFreeNow_2 : decode cX5_isFreeNow 2 = .ok (.iload_n 3, 1) := by decide +kernel
theorem dX5_isFreeNow_3 : decode cX5_isFreeNow 3 = .ok (.iload_n 2, 1) := by decide +kernel
theorem dX5_isFreeNow_4 : decode cX5_isFreeNow 4 = .ok (.iconst 1, 1) := by decide +kernel
theorem dX5_isFreeNow_5 : decode cX5_isFreeNow 5 = .ok (.iload_n 1, 1) := by decide +kernel
theorem dX5_isFreeNow_6 : decode cX5_isFreeNow 6 = .ok (.ishl, 1) := by decide +kernel
theorem dX5_isFreeNow_7 : decode cX5_isFreeNow 7 = .ok (.iadd, 1) := by decide +kernel
theorem dX5_isFreeNow_8 : decode cX5_isFreeNow 8 = .ok (.if_icmp .ge 25, 3) := by decide +kernel
theorem dX5_isFreeNow_11 : decode cX5_isFreeNow 11 = .ok (.aload_n 0, 1) := by decide +kernel
theorem dX5_isFreeNow_12 : decode cX5_isFreeNow 12 = .ok (.iload_n 3, 1) := by decide +kernel
theorem dX5_isFreeNow_13 : decode cX5_isFreeNow 13 = .ok (.aload_n 0, 1) := by decide +kernel
theorem dX5_isFreeNow_14 : decode cX5_isFreeNow 14 = .ok (.getfield 9, 3) := by decide +kernel
theorem dX5_isFreeNow_17 : decode cX5_isFreeNow 17 = .ok (.iconst 0, 1) := by decide +kernel
theorem dX5_isFreeNow_18 : decode cX5_isFreeNow 18 = .ok (.iaload, 1) := by decide +kernel
theorem dX5_isFreeNow_19 : decode cX5_isFreeNow 19 = .ok (.invokevirtual 118, 3) := by decide +kernel
theorem dX5_isFreeNow_22 : decode cX5_isFreeNow 22 = .ok (.ifCond .lt 5, 3) := by decide +kernel
theorem dX5_isFreeNow_25 : decode cX5_isFreeNow 25 = .ok (.iconst 0, 1) := by decide +kernel
theorem dX5_isFreeNow_26 : decode cX5_isFreeNow 26 = .ok (.ireturn, 1) := by decide +kernel
theorem dX5_isFreeNow_27 : decode cX5_isFreeNow 27 = .ok (.iinc 3 1, 3) := by decide +kernel
theorem dX5_isFreeNow_30 : decode cX5_isFreeNow 30 = .ok (.goto (-28), 3) := by decide +kernel
theorem dX5_isFreeNow_33 : decode cX5_isFreeNow 33 = .ok (.iconst 1, 1) := by decide +kernel
theorem dX5_isFreeNow_34 : decode cX5_isFreeNow 34 = .ok (.ireturn, 1) := by decide +kernel
theorem dX5_freeBlocks_0 : decode cX5_freeBlocks 0 = .ok (.aload_n 0, 1) := by decide +kernel
theorem dX5_freeBlocks_1 : decode cX5_freeBlocks 1 = .ok (.iconst 0, 1) := by decide +kernel
theorem dX5_freeBlocks_2 : decode cX5_freeBlocks 2 = .ok (.putfield 22, 3) := by decide +kernel
theorem dX5_freeBlocks_5 : decode cX5_freeBlocks 5 = .ok (.iload_n 1, 1) := by decide +kernel
theorem dX5_freeBlocks_6 : decode cX5_freeBlocks 6 = .ok (.iconst 0, 1) := by decide +kernel
theorem dX5_freeBlocks_7 : decode cX5_freeBlocks 7 = .ok (.iconst 5, 1) := by decide +kernel
theorem dX5_freeBlocks_8 : decode cX5_freeBlocks 8 = .ok (.invokestatic 26, 3) := by decide +kernel
theorem dX5_freeBlocks_11 : decode cX5_freeBlocks 11 = .ok (.ifCond .ne 9, 3) := by decide +kernel
theorem dX5_freeBlocks_14 : decode cX5_freeBlocks 14 = .ok (.aload_n 0, 1) := by decide +kernel
theorem dX5_freeBlocks_15 : decode cX5_freeBlocks 15 = .ok (.iconst 1, 1) := by decide +kernel
theorem dX5_freeBlocks_16 : decode cX5_freeBlocks 16 = .ok (.invokevirtual 85, 3) := by decide +kernel
theorem dX5_freeBlocks_19 : decode cX5_freeBlocks 19 = .ok (.ireturn, 1) := by decide +kernel
theorem dX5_freeBlocks_20 : decode cX5_freeBlocks 20 = .ok (.iconst 0, 1) := by decide +kernel
theorem dX5_freeBlocks_21 : decode cX5_freeBlocks 21 = .ok (.istore_n 2, 1) := by decide +kernel
theorem dX5_freeBlocks_22 : decode cX5_freeBlocks 22 = .ok (.iconst 0, 1) := by decide +kernel
theorem dX5_freeBlocks_23 : decode cX5_freeBlocks 23 = .ok (.istore_n 3, 1) := by decide +kernel
theorem dX5_freeBlocks_24 : decode cX5_freeBlocks 24 = .ok (.iload_n 3, 1) := by decide +kernel
theorem dX5_freeBlocks_25 : decode cX5_freeBlocks 25 = .ok (.bipush 32, 2) := by decide +kernel
theorem dX5_freeBlocks_27 : decode cX5_freeBlocks 27 = .ok (.if_icmp .ge 52, 3) := by decide +kernel
theorem dX5_freeBlocks_30 : decode cX5_freeBlocks 30 = .ok (.iload_n 3, 1) := by decide +kernel
theorem dX5_freeBlocks_31 : decode cX5_freeBlocks 31 = .ok (.iload_n 1, 1) := by decide +kernel
theorem dX5_freeBlocks_32 : decode cX5_freeBlocks 32 = .ok (.iconst 1, 1) := by decide +kernel
theorem dX5_freeBlocks_33 : decode cX5_freeBlocks 33 = .ok (.iadd, 1) := by decide +kernel
theorem dX5_freeBlocks_34 : decode cX5_freeBlocks 34 = .ok (.ishr, 1) := by decide +kernel
theorem dX5_freeBlocks_35 : decode cX5_freeBlocks 35 = .ok (.iload_n 1, 1) := by decide +kernel
theorem dX5_freeBlocks_36 : decode cX5_freeBlocks 36 = .ok (.iconst 1, 1) := by decide +kernel
theorem dX5_freeBlocks_37 : decode cX5_freeBlocks 37 = .ok (.iadd, 1) := by decide +kernel
theorem dX5_freeBlocks_38 : decode cX5_freeBlocks 38 = .ok (.ishl, 1) := by decide +kernel
theorem dX5_freeBlocks_39 : decode cX5_freeBlocks 39 = .ok (.istore 4, 2) := by decide +kernel
theorem dX5_freeBlocks_41 : decode cX5_freeBlocks 41 = .ok (.aload_n 0, 1) := by decide +kernel
theorem dX5_freeBlocks_42 : decode cX5_freeBlocks 42 = .ok (.iload_n 1, 1) := by decide +kernel
theorem dX5_freeBlocks_43 : decode cX5_freeBlocks 43 = .ok (.iload_n 3, 1) := by decide +kernel
theorem dX5_freeBlocks_44 : decode cX5_freeBlocks 44 = .ok (.invokevirtual 124, 3) := by decide +kernel
theorem dX5_freeBlocks_47 : decode cX5_freeBlocks 47 = .ok (.ifCond .eq 23, 3) := by decide +kernel
theorem dX5_freeBlocks_50 : decode cX5_freeBlocks 50 = .ok (.iload_n 1, 1) := by decide +kernel
theorem dX5_freeBlocks_51 : decode cX5_freeBlocks 51 = .ok (.iconst 5, 1) := by decide +kernel
theorem dX5_freeBlocks_52 : decode cX5_freeBlocks 52 = .ok (.if_icmp .eq 15, 3) := by decide +kernel
theorem dX5_freeBlocks_55 : decode cX5_freeBlocks 55 = .ok (.aload_n 0, 1) := by decide +kernel
theorem dX5_freeBlocks_56 : decode cX5_freeBlocks 56 = .ok (.iload_n 1, 1) := by decide +kernel
theorem dX5_freeBlocks_57 : decode cX5_freeBlocks 57 = .ok (.iconst 1, 1) := by decide +kernel
theorem dX5_freeBlocks_58 : decode cX5_freeBlocks 58 = .ok (.iadd, 1) := by decide +kernel
theorem dX5_freeBlocks_59 : decode cX5_freeBlocks 59 = .ok (.iload 4, 2) := by decide +kernel
theorem dX5_freeBlocks_61 : decode cX5_freeBlocks 61 = .ok (.invokevirtual 124, 3) := by decide +kernel
theorem dX5_freeBlocks_64 : decode cX5_freeBlocks 64 = .ok (.ifCond .ne 6, 3) := by decide +kernel
theorem dX5_freeBlocks_67 : decode cX5_freeBlocks 67 = .ok (.iinc 2 1, 3) := by decide +kernel
theorem dX5_freeBlocks_70 : decode cX5_freeBlocks 70 = .ok (.iload_n 3, 1) := by decide +kernel
theorem dX5_freeBlocks_71 : decode cX5_freeBlocks 71 = .ok (.iconst 1, 1) := by decide +kernel
theorem dX5_freeBlocks_72 : decode cX5_freeBlocks 72 = .ok (.iload_n 1, 1) := by decide +kernel
theorem dX5_freeBlocks_73 : decode cX5_freeBlocks 73 = .ok (.ishl, 1) := by decide +kernel
theorem dX5_freeBlocks_74 : decode cX5_freeBlocks 74 = .ok (.iadd, 1) := by decide +kernel
theorem dX5_freeBlocks_75 : decode cX5_freeBlocks 75 = .ok (.istore_n 3, 1) := by decide +kernel
theorem dX5_freeBlocks_76 : decode cX5_freeBlocks 76 = .ok (.goto (-52), 3) := by decide +kernel
theorem dX5_freeBlocks_79 : decode cX5_freeBlocks 79 = .ok (.iload_n 2, 1) := by decide +kernel
theorem dX5_freeBlocks_80 : decode cX5_freeBlocks 80 = .ok (.ireturn, 1) := by decide +kernel
theorem dX5_largest_0 : decode cX5_largest 0 = .ok (.iconst 5, 1) := by decide +kernel
theorem dX5_largest_1 : decode cX5_largest 1 = .ok (.istore_n 1, 1) := by decide +kernel
theorem dX5_largest_2 : decode cX5_largest 2 = .ok (.iload_n 1, 1) := by decide +kernel
theorem dX5_largest_3 : decode cX5_largest 3 = .ok (.ifCond .lt 37, 3) := by decide +kernel
theorem dX5_largest_6 : decode cX5_largest 6 = .ok (.iconst 0, 1) := by decide +kernel
theorem dX5_largest_7 : decode cX5_largest 7 = .ok (.istore_n 2, 1) := by decide +kernel
theorem dX5_largest_8 : decode cX5_largest 8 = .ok (.iload_n 2, 1) := by decide +kernel
theorem dX5_largest_9 : decode cX5_largest 9 = .ok (.bipush 32, 2) := by decide +kernel
theorem dX5_largest_11 : decode cX5_largest 11 = .ok (.if_icmp .ge 23, 3) := by decide +kernel
theorem dX5_largest_14 : decode cX5_largest 14 = .ok (.aload_n 0, 1) := by decide +kernel
theorem dX5_largest_15 : decode cX5_largest 15 = .ok (.iload_n 1, 1) := by decide +kernel
theorem dX5_largest_16 : decode cX5_largest 16 = .ok (.iload_n 2, 1) := by decide +kernel
theorem dX5_largest_17 : decode cX5_largest 17 = .ok (.invokevirtual 124, 3) := by decide +kernel
theorem dX5_largest_20 : decode cX5_largest 20 = .ok (.ifCond .eq 5, 3) := by decide +kernel
theorem dX5_largest_23 : decode cX5_largest 23 = .ok (.iload_n 1, 1) := by decide +kernel
theorem dX5_largest_24 : decode cX5_largest 24 = .ok (.ireturn, 1) := by decide +kernel
theorem dX5_largest_25 : decode cX5_largest 25 = .ok (.iload_n 2, 1) := by decide +kernel
theorem dX5_largest_26 : decode cX5_largest 26 = .ok (.iconst 1, 1) := by decide +kernel
theorem dX5_largest_27 : decode cX5_largest 27 = .ok (.iload_n 1, 1) := by decide +kernel
theorem dX5_largest_28 : decode cX5_largest 28 = .ok (.ishl, 1) := by decide +kernel
theorem dX5_largest_29 : decode cX5_largest 29 = .ok (.iadd, 1) := by decide +kernel
theorem dX5_largest_30 : decode cX5_largest 30 = .ok (.istore_n 2, 1) := by decide +kernel
theorem dX5_largest_31 : decode cX5_largest 31 = .ok (.goto (-23), 3) := by decide +kernel
theorem dX5_largest_34 : decode cX5_largest 34 = .ok (.iinc 1 (-1), 3) := by decide +kernel
theorem dX5_largest_37 : decode cX5_largest 37 = .ok (.goto (-35), 3) := by decide +kernel
theorem dX5_largest_40 : decode cX5_largest 40 = .ok (.iconst (-1), 1) := by decide +kernel
theorem dX5_largest_41 : decode cX5_largest 41 = .ok (.ireturn, 1) := by decide +kernel
theorem dX5_largestFree_0 : decode cX5_largestFree 0 = .ok (.aload_n 0, 1) := by decide +kernel
theorem dX5_largestFree_1 : decode cX5_largestFree 1 = .ok (.iconst 0, 1) := by decide +kernel
theorem dX5_largestFree_2 : decode cX5_largestFree 2 = .ok (.putfield 22, 3) := by decide +kernel
theorem dX5_largestFree_5 : decode cX5_largestFree 5 = .ok (.aload_n 0, 1) := by decide +kernel
theorem dX5_largestFree_6 : decode cX5_largestFree 6 = .ok (.invokevirtual 127, 3) := by decide +kernel
theorem dX5_largestFree_9 : decode cX5_largestFree 9 = .ok (.istore_n 1, 1) := by decide +kernel
theorem dX5_largestFree_10 : decode cX5_largestFree 10 = .ok (.iload_n 1, 1) := by decide +kernel
theorem dX5_largestFree_11 : decode cX5_largestFree 11 = .ok (.ifCond .ge 11, 3) := by decide +kernel
theorem dX5_largestFree_14 : decode cX5_largestFree 14 = .ok (.aload_n 0, 1) := by decide +kernel
theorem dX5_largestFree_15 : decode cX5_largestFree 15 = .ok (.iconst 1, 1) := by decide +kernel
theorem dX5_largestFree_16 : decode cX5_largestFree 16 = .ok (.invokevirtual 85, 3) := by decide +kernel
theorem dX5_largestFree_19 : decode cX5_largestFree 19 = .ok (.goto 4, 3) := by decide +kernel
theorem dX5_largestFree_22 : decode cX5_largestFree 22 = .ok (.iload_n 1, 1) := by decide +kernel
theorem dX5_largestFree_23 : decode cX5_largestFree 23 = .ok (.ireturn, 1) := by decide +kernel
theorem dX5_fragmentation_0 : decode cX5_fragmentation 0 = .ok (.aload_n 0, 1) := by decide +kernel
theorem dX5_fragmentation_1 : decode cX5_fragmentation 1 = .ok (.iconst 0, 1) := by decide +kernel
theorem dX5_fragmentation_2 : decode cX5_fragmentation 2 = .ok (.putfield 22, 3) := by decide +kernel
theorem dX5_fragmentation_5 : decode cX5_fragmentation 5 = .ok (.aload_n 0, 1) := by decide +kernel
theorem dX5_fragmentation_6 : decode cX5_fragmentation 6 = .ok (.invokevirtual 127, 3) := by decide +kernel
theorem dX5_fragmentation_9 : decode cX5_fragmentation 9 = .ok (.istore_n 1, 1) := by decide +kernel
theorem dX5_fragmentation_10 : decode cX5_fragmentation 10 = .ok (.iload_n 1, 1) := by decide +kernel
theorem dX5_fragmentation_11 : decode cX5_fragmentation 11 = .ok (.ifCond .ge 12, 3) := by decide +kernel
theorem dX5_fragmentation_14 : decode cX5_fragmentation 14 = .ok (.aload_n 0, 1) := by decide +kernel
theorem dX5_fragmentation_15 : decode cX5_fragmentation 15 = .ok (.iconst 1, 1) := by decide +kernel
theorem dX5_fragmentation_16 : decode cX5_fragmentation 16 = .ok (.invokevirtual 85, 3) := by decide +kernel
theorem dX5_fragmentation_19 : decode cX5_fragmentation 19 = .ok (.i2d, 1) := by decide +kernel
theorem dX5_fragmentation_20 : decode cX5_fragmentation 20 = .ok (.goto 21, 3) := by decide +kernel
theorem dX5_fragmentation_23 : decode cX5_fragmentation 23 = .ok (.dconst 1, 1) := by decide +kernel
theorem dX5_fragmentation_24 : decode cX5_fragmentation 24 = .ok (.iconst 1, 1) := by decide +kernel
theorem dX5_fragmentation_25 : decode cX5_fragmentation 25 = .ok (.iload_n 1, 1) := by decide +kernel
theorem dX5_fragmentation_26 : decode cX5_fragmentation 26 = .ok (.ishl, 1) := by decide +kernel
theorem dX5_fragmentation_27 : decode cX5_fragmentation 27 = .ok (.i2d, 1) := by decide +kernel
theorem dX5_fragmentation_28 : decode cX5_fragmentation 28 = .ok (.aload_n 0, 1) := by decide +kernel
theorem dX5_fragmentation_29 : decode cX5_fragmentation 29 = .ok (.aload_n 0, 1) := by decide +kernel
theorem dX5_fragmentation_30 : decode cX5_fragmentation 30 = .ok (.getfield 9, 3) := by decide +kernel
theorem dX5_fragmentation_33 : decode cX5_fragmentation 33 = .ok (.iconst 0, 1) := by decide +kernel
theorem dX5_fragmentation_34 : decode cX5_fragmentation 34 = .ok (.iaload, 1) := by decide +kernel
theorem dX5_fragmentation_35 : decode cX5_fragmentation 35 = .ok (.invokevirtual 121, 3) := by decide +kernel
theorem dX5_fragmentation_38 : decode cX5_fragmentation 38 = .ok (.i2d, 1) := by decide +kernel
theorem dX5_fragmentation_39 : decode cX5_fragmentation 39 = .ok (.ddiv, 1) := by decide +kernel
theorem dX5_fragmentation_40 : decode cX5_fragmentation 40 = .ok (.dsub, 1) := by decide +kernel
theorem dX5_fragmentation_41 : decode cX5_fragmentation 41 = .ok (.dreturn, 1) := by decide +kernel
theorem dX5_earliestStart_0 : decode cX5_earliestStart 0 = .ok (.aload_n 0, 1) := by decide +kernel
theorem dX5_earliestStart_1 : decode cX5_earliestStart 1 = .ok (.iconst 0, 1) := by decide +kernel
theorem dX5_earliestStart_2 : decode cX5_earliestStart 2 = .ok (.putfield 22, 3) := by decide +kernel
theorem dX5_earliestStart_5 : decode cX5_earliestStart 5 = .ok (.iload_n 1, 1) := by decide +kernel
theorem dX5_earliestStart_6 : decode cX5_earliestStart 6 = .ok (.iconst 0, 1) := by decide +kernel
theorem dX5_earliestStart_7 : decode cX5_earliestStart 7 = .ok (.iconst 5, 1) := by decide +kernel
theorem dX5_earliestStart_8 : decode cX5_earliestStart 8 = .ok (.invokestatic 26, 3) := by decide +kernel
theorem dX5_earliestStart_11 : decode cX5_earliestStart 11 = .ok (.ifCond .eq 22, 3) := by decide +kernel
theorem dX5_earliestStart_14 : decode cX5_earliestStart 14 = .ok (.iload_n 2, 1) := by decide +kernel
theorem dX5_earliestStart_15 : decode cX5_earliestStart 15 = .ok (.iconst 1, 1) := by decide +kernel
theorem dX5_earliestStart_16 : decode cX5_earliestStart 16 = .ok (.bipush 40, 2) := by decide +kernel
theorem dX5_earliestStart_18 : decode cX5_earliestStart 18 = .ok (.invokestatic 26, 3) := by decide +kernel
theorem dX5_earliestStart_21 : decode cX5_earliestStart 21 = .ok (.ifCond .eq 12, 3) := by decide +kernel
theorem dX5_earliestStart_24 : decode cX5_earliestStart 24 = .ok (.aload_n 0, 1) := by decide +kernel
theorem dX5_earliestStart_25 : decode cX5_earliestStart 25 = .ok (.iload_n 1, 1) := by decide +kernel
theorem dX5_earliestStart_26 : decode cX5_earliestStart 26 = .ok (.iload_n 2, 1) := by decide +kernel
theorem dX5_earliestStart_27 : decode cX5_earliestStart 27 = .ok (.invokevirtual 56, 3) := by decide +kernel
theorem dX5_earliestStart_30 : decode cX5_earliestStart 30 = .ok (.goto 8, 3) := by decide +kernel
theorem dX5_earliestStart_33 : decode cX5_earliestStart 33 = .ok (.aload_n 0, 1) := by decide +kernel
theorem dX5_earliestStart_34 : decode cX5_earliestStart 34 = .ok (.iconst 1, 1) := by decide +kernel
theorem dX5_earliestStart_35 : decode cX5_earliestStart 35 = .ok (.invokevirtual 85, 3) := by decide +kernel
theorem dX5_earliestStart_38 : decode cX5_earliestStart 38 = .ok (.ireturn, 1) := by decide +kernel
theorem dX5_lowestBlock_0 : decode cX5_lowestBlock 0 = .ok (.aload_n 0, 1) := by decide +kernel
theorem dX5_lowestBlock_1 : decode cX5_lowestBlock 1 = .ok (.iconst 0, 1) := by decide +kernel
theorem dX5_lowestBlock_2 : decode cX5_lowestBlock 2 = .ok (.putfield 22, 3) := by decide +kernel
theorem dX5_lowestBlock_5 : decode cX5_lowestBlock 5 = .ok (.iload_n 1, 1) := by decide +kernel
theorem dX5_lowestBlock_6 : decode cX5_lowestBlock 6 = .ok (.iconst 0, 1) := by decide +kernel
theorem dX5_lowestBlock_7 : decode cX5_lowestBlock 7 = .ok (.iconst 5, 1) := by decide +kernel
theorem dX5_lowestBlock_8 : decode cX5_lowestBlock 8 = .ok (.invokestatic 26, 3) := by decide +kernel
theorem dX5_lowestBlock_11 : decode cX5_lowestBlock 11 = .ok (.ifCond .eq 24, 3) := by decide +kernel
theorem dX5_lowestBlock_14 : decode cX5_lowestBlock 14 = .ok (.iload_n 2, 1) := by decide +kernel
theorem dX5_lowestBlock_15 : decode cX5_lowestBlock 15 = .ok (.iconst 0, 1) := by decide +kernel
theorem dX5_lowestBlock_16 : decode cX5_lowestBlock 16 = .ok (.sipush 1000, 3) := by decide +kernel
theorem dX5_lowestBlock_19 : decode cX5_lowestBlock 19 = .ok (.invokestatic 26, 3) := by decide +kernel
theorem dX5_lowestBlock_22 : decode cX5_lowestBlock 22 = .ok (.ifCond .eq 13, 3) := by decide +kernel
theorem dX5_lowestBlock_25 : decode cX5_lowestBlock 25 = .ok (.iload_n 3, 1) := by decide +kernel
theorem dX5_lowestBlock_26 : decode cX5_lowestBlock 26 = .ok (.iconst 1, 1) := by decide +kernel
theorem dX5_lowestBlock_27 : decode cX5_lowestBlock 27 = .ok (.bipush 40, 2) := by decide +kernel
theorem dX5_lowestBlock_29 : decode cX5_lowestBlock 29 = .ok (.invokestatic 26, 3) := by decide +kernel
theorem dX5_lowestBlock_32 : decode cX5_lowestBlock 32 = .ok (.ifCond .ne 9, 3) := by decide +kernel
theorem dX5_lowestBlock_35 : decode cX5_lowestBlock 35 = .ok (.aload_n 0, 1) := by decide +kernel
theorem dX5_lowestBlock_36 : decode cX5_lowestBlock 36 = .ok (.iconst 1, 1) := by decide +kernel
theorem dX5_lowestBlock_37 : decode cX5_lowestBlock 37 = .ok (.invokevirtual 85, 3) := by decide +kernel
theorem dX5_lowestBlock_40 : decode cX5_lowestBlock 40 = .ok (.ireturn, 1) := by decide +kernel
theorem dX5_lowestBlock_41 : decode cX5_lowestBlock 41 = .ok (.aload_n 0, 1) := by decide +kernel
theorem dX5_lowestBlock_42 : decode cX5_lowestBlock 42 = .ok (.iload_n 1, 1) := by decide +kernel
theorem dX5_lowestBlock_43 : decode cX5_lowestBlock 43 = .ok (.iload_n 2, 1) := by decide +kernel
theorem dX5_lowestBlock_44 : decode cX5_lowestBlock 44 = .ok (.iload_n 3, 1) := by decide +kernel
theorem dX5_lowestBlock_45 : decode cX5_lowestBlock 45 = .ok (.invokevirtual 52, 3) := by decide +kernel
theorem dX5_lowestBlock_48 : decode cX5_lowestBlock 48 = .ok (.istore 4, 2) := by decide +kernel
theorem dX5_lowestBlock_50 : decode cX5_lowestBlock 50 = .ok (.iload 4, 2) := by decide +kernel
theorem dX5_lowestBlock_52 : decode cX5_lowestBlock 52 = .ok (.ifCond .ge 11, 3) := by decide +kernel
theorem dX5_lowestBlock_55 : decode cX5_lowestBlock 55 = .ok (.aload_n 0, 1) := by decide +kernel
theorem dX5_lowestBlock_56 : decode cX5_lowestBlock 56 = .ok (.iconst 2, 1) := by decide +kernel
theorem dX5_lowestBlock_57 : decode cX5_lowestBlock 57 = .ok (.invokevirtual 85, 3) := by decide +kernel
theorem dX5_lowestBlock_60 : decode cX5_lowestBlock 60 = .ok (.goto 5, 3) := by decide +kernel
theorem dX5_lowestBlock_63 : decode cX5_lowestBlock 63 = .ok (.iload 4, 2) := by decide +kernel
theorem dX5_lowestBlock_65 : decode cX5_lowestBlock 65 = .ok (.ireturn, 1) := by decide +kernel
theorem dX5_blockStarts_0 : decode cX5_blockStarts 0 = .ok (.aload_n 0, 1) := by decide +kernel
theorem dX5_blockStarts_1 : decode cX5_blockStarts 1 = .ok (.iconst 0, 1) := by decide +kernel
theorem dX5_blockStarts_2 : decode cX5_blockStarts 2 = .ok (.putfield 22, 3) := by decide +kernel
theorem dX5_blockStarts_5 : decode cX5_blockStarts 5 = .ok (.iload_n 1, 1) := by decide +kernel
theorem dX5_blockStarts_6 : decode cX5_blockStarts 6 = .ok (.iconst 0, 1) := by decide +kernel
theorem dX5_blockStarts_7 : decode cX5_blockStarts 7 = .ok (.iconst 5, 1) := by decide +kernel
theorem dX5_blockStarts_8 : decode cX5_blockStarts 8 = .ok (.invokestatic 26, 3) := by decide +kernel
theorem dX5_blockStarts_11 : decode cX5_blockStarts 11 = .ok (.ifCond .eq 21, 3) := by decide +kernel
theorem dX5_blockStarts_14 : decode cX5_blockStarts 14 = .ok (.iload_n 2, 1) := by decide +kernel
theorem dX5_blockStarts_15 : decode cX5_blockStarts 15 = .ok (.iconst 0, 1) := by decide +kernel
theorem dX5_blockStarts_16 : decode cX5_blockStarts 16 = .ok (.bipush 31, 2) := by decide +kernel
theorem dX5_blockStarts_18 : decode cX5_blockStarts 18 = .ok (.invokestatic 26, 3) := by decide +kernel
theorem dX5_blockStarts_21 : decode cX5_blockStarts 21 = .ok (.ifCond .eq 11, 3) := by decide +kernel
theorem dX5_blockStarts_24 : decode cX5_blockStarts 24 = .ok (.iload_n 2, 1) := by decide +kernel
theorem dX5_blockStarts_25 : decode cX5_blockStarts 25 = .ok (.iconst 1, 1) := by decide +kernel
theorem dX5_blockStarts_26 : decode cX5_blockStarts 26 = .ok (.iload_n 1, 1) := by decide +kernel
theorem dX5_blockStarts_27 : decode cX5_blockStarts 27 = .ok (.ishl, 1) := by decide +kernel
theorem dX5_blockStarts_28 : decode cX5_blockStarts 28 = .ok (.irem, 1) := by decide +kernel
theorem dX5_blockStarts_29 : decode cX5_blockStarts 29 = .ok (.ifCond .eq 9, 3) := by decide +kernel
theorem dX5_blockStarts_32 : decode cX5_blockStarts 32 = .ok (.aload_n 0, 1) := by decide +kernel
theorem dX5_blockStarts_33 : decode cX5_blockStarts 33 = .ok (.iconst 1, 1) := by decide +kernel
theorem dX5_blockStarts_34 : decode cX5_blockStarts 34 = .ok (.invokevirtual 85, 3) := by decide +kernel
theorem dX5_blockStarts_37 : decode cX5_blockStarts 37 = .ok (.ireturn, 1) := by decide +kernel
theorem dX5_blockStarts_38 : decode cX5_blockStarts 38 = .ok (.aload_n 0, 1) := by decide +kernel
theorem dX5_blockStarts_39 : decode cX5_blockStarts 39 = .ok (.getfield 9, 3) := by decide +kernel
theorem dX5_blockStarts_42 : decode cX5_blockStarts 42 = .ok (.sipush 545, 3) := by decide +kernel
theorem dX5_blockStarts_45 : decode cX5_blockStarts 45 = .ok (.iload_n 1, 1) := by decide +kernel
theorem dX5_blockStarts_46 : decode cX5_blockStarts 46 = .ok (.iload_n 2, 1) := by decide +kernel
theorem dX5_blockStarts_47 : decode cX5_blockStarts 47 = .ok (.invokestatic 82, 3) := by decide +kernel
theorem dX5_blockStarts_50 : decode cX5_blockStarts 50 = .ok (.iadd, 1) := by decide +kernel
theorem dX5_blockStarts_51 : decode cX5_blockStarts 51 = .ok (.iaload, 1) := by decide +kernel
theorem dX5_blockStarts_52 : decode cX5_blockStarts 52 = .ok (.ireturn, 1) := by decide +kernel
theorem dX5_busiestBlock_0 : decode cX5_busiestBlock 0 = .ok (.aload_n 0, 1) := by decide +kernel
theorem dX5_busiestBlock_1 : decode cX5_busiestBlock 1 = .ok (.iconst 0, 1) := by decide +kernel
theorem dX5_busiestBlock_2 : decode cX5_busiestBlock 2 = .ok (.putfield 22, 3) := by decide +kernel
theorem dX5_busiestBlock_5 : decode cX5_busiestBlock 5 = .ok (.iconst 0, 1) := by decide +kernel
theorem dX5_busiestBlock_6 : decode cX5_busiestBlock 6 = .ok (.istore_n 1, 1) := by decide +kernel
theorem dX5_busiestBlock_7 : decode cX5_busiestBlock 7 = .ok (.iconst 0, 1) := by decide +kernel
theorem dX5_busiestBlock_8 : decode cX5_busiestBlock 8 = .ok (.istore_n 2, 1) := by decide +kernel
theorem dX5_busiestBlock_9 : decode cX5_busiestBlock 9 = .ok (.iconst 0, 1) := by decide +kernel
theorem dX5_busiestBlock_10 : decode cX5_busiestBlock 10 = .ok (.istore_n 3, 1) := by decide +kernel
theorem dX5_busiestBlock_11 : decode cX5_busiestBlock 11 = .ok (.iload_n 3, 1) := by decide +kernel
theorem dX5_busiestBlock_12 : decode cX5_busiestBlock 12 = .ok (.bipush 6, 2) := by decide +kernel
theorem dX5_busiestBlock_14 : decode cX5_busiestBlock 14 = .ok (.if_icmp .ge 76, 3) := by decide +kernel
theorem dX5_busiestBlock_17 : decode cX5_busiestBlock 17 = .ok (.iconst 0, 1) := by decide +kernel
theorem dX5_busiestBlock_18 : decode cX5_busiestBlock 18 = .ok (.istore 4, 2) := by decide +kernel
theorem dX5_busiestBlock_20 : decode cX5_busiestBlock 20 = .ok (.iload 4, 2) := by decide +kernel
theorem dX5_busiestBlock_22 : decode cX5_busiestBlock 22 = .ok (.bipush 32, 2) := by decide +kernel
theorem dX5_busiestBlock_24 : decode cX5_busiestBlock 24 = .ok (.if_icmp .ge 60, 3) := by decide +kernel
theorem dX5_busiestBlock_27 : decode cX5_busiestBlock 27 = .ok (.aload_n 0, 1) := by decide +kernel
theorem dX5_busiestBlock_28 : decode cX5_busiestBlock 28 = .ok (.getfield 9, 3) := by decide +kernel
theorem dX5_busiestBlock_31 : decode cX5_busiestBlock 31 = .ok (.sipush 545, 3) := by decide +kernel
theorem dX5_busiestBlock_34 : decode cX5_busiestBlock 34 = .ok (.iload_n 3, 1) := by decide +kernel
theorem dX5_busiestBlock_35 : decode cX5_busiestBlock 35 = .ok (.iload 4, 2) := by decide +kernel
theorem dX5_busiestBlock_37 : decode cX5_busiestBlock 37 = .ok (.invokestatic 82, 3) := by decide +kernel
theorem dX5_busiestBlock_40 : decode cX5_busiestBlock 40 = .ok (.iadd, 1) := by decide +kernel
theorem dX5_busiestBlock_41 : decode cX5_busiestBlock 41 = .ok (.iaload, 1) := by decide +kernel
theorem dX5_busiestBlock_42 : decode cX5_busiestBlock 42 = .ok (.iload_n 1, 1) := by decide +kernel
theorem dX5_busiestBlock_43 : decode cX5_busiestBlock 43 = .ok (.if_icmp .gt 6, 3) := by decide +kernel
theorem dX5_busiestBlock_46 : decode cX5_busiestBlock 46 = .ok (.goto 27, 3) := by decide +kernel
theorem dX5_busiestBlock_49 : decode cX5_busiestBlock 49 = .ok (.aload_n 0, 1) := by decide +kernel
theorem dX5_busiestBlock_50 : decode cX5_busiestBlock 50 = .ok (.getfield 9, 3) := by decide +kernel
theorem dX5_busiestBlock_53 : decode cX5_busiestBlock 53 = .ok (.sipush 545, 3) := by decide +kernel
theorem dX5_busiestBlock_56 : decode cX5_busiestBlock 56 = .ok (.iload_n 3, 1) := by decide +kernel
theorem dX5_busiestBlock_57 : decode cX5_busiestBlock 57 = .ok (.iload 4, 2) := by decide +kernel
theorem dX5_busiestBlock_59 : decode cX5_busiestBlock 59 = .ok (.invokestatic 82, 3) := by decide +kernel
theorem dX5_busiestBlock_62 : decode cX5_busiestBlock 62 = .ok (.iadd, 1) := by decide +kernel
theorem dX5_busiestBlock_63 : decode cX5_busiestBlock 63 = .ok (.iaload, 1) := by decide +kernel
theorem dX5_busiestBlock_64 : decode cX5_busiestBlock 64 = .ok (.istore_n 1, 1) := by decide +kernel
theorem dX5_busiestBlock_65 : decode cX5_busiestBlock 65 = .ok (.bipush 100, 2) := by decide +kernel
theorem dX5_busiestBlock_67 : decode cX5_busiestBlock 67 = .ok (.iload_n 3, 1) := by decide +kernel
theorem dX5_busiestBlock_68 : decode cX5_busiestBlock 68 = .ok (.imul, 1) := by decide +kernel
theorem dX5_busiestBlock_69 : decode cX5_busiestBlock 69 = .ok (.iload 4, 2) := by decide +kernel
theorem dX5_busiestBlock_71 : decode cX5_busiestBlock 71 = .ok (.iadd, 1) := by decide +kernel
theorem dX5_busiestBlock_72 : decode cX5_busiestBlock 72 = .ok (.istore_n 2, 1) := by decide +kernel
theorem dX5_busiestBlock_73 : decode cX5_busiestBlock 73 = .ok (.iload 4, 2) := by decide +kernel
theorem dX5_busiestBlock_75 : decode cX5_busiestBlock 75 = .ok (.iconst 1, 1) := by decide +kernel
theorem dX5_busiestBlock_76 : decode cX5_busiestBlock 76 = .ok (.iload_n 3, 1) := by decide +kernel
theorem dX5_busiestBlock_77 : decode cX5_busiestBlock 77 = .ok (.ishl, 1) := by decide +kernel
theorem dX5_busiestBlock_78 : decode cX5_busiestBlock 78 = .ok (.iadd, 1) := by decide +kernel
theorem dX5_busiestBlock_79 : decode cX5_busiestBlock 79 = .ok (.istore 4, 2) := by decide +kernel
theorem dX5_busiestBlock_81 : decode cX5_busiestBlock 81 = .ok (.goto (-61), 3) := by decide +kernel
theorem dX5_busiestBlock_84 : decode cX5_busiestBlock 84 = .ok (.iinc 3 1, 3) := by decide +kernel
theorem dX5_busiestBlock_87 : decode cX5_busiestBlock 87 = .ok (.goto (-76), 3) := by decide +kernel
theorem dX5_busiestBlock_90 : decode cX5_busiestBlock 90 = .ok (.iload_n 1, 1) := by decide +kernel
theorem dX5_busiestBlock_91 : decode cX5_busiestBlock 91 = .ok (.ifCond .ne 11, 3) := by decide +kernel
theorem dX5_busiestBlock_94 : decode cX5_busiestBlock 94 = .ok (.aload_n 0, 1) := by decide +kernel
theorem dX5_busiestBlock_95 : decode cX5_busiestBlock 95 = .ok (.iconst 1, 1) := by decide +kernel
theorem dX5_busiestBlock_96 : decode cX5_busiestBlock 96 = .ok (.invokevirtual 85, 3) := by decide +kernel
theorem dX5_busiestBlock_99 : decode cX5_busiestBlock 99 = .ok (.goto 4, 3) := by decide +kernel
theorem dX5_busiestBlock_102 : decode cX5_busiestBlock 102 = .ok (.iload_n 2, 1) := by decide +kernel
theorem dX5_busiestBlock_103 : decode cX5_busiestBlock 103 = .ok (.ireturn, 1) := by decide +kernel
theorem dX5_eventCount_0 : decode cX5_eventCount 0 = .ok (.aload_n 0, 1) := by decide +kernel
theorem dX5_eventCount_1 : decode cX5_eventCount 1 = .ok (.iconst 0, 1) := by decide +kernel
theorem dX5_eventCount_2 : decode cX5_eventCount 2 = .ok (.putfield 22, 3) := by decide +kernel
theorem dX5_eventCount_5 : decode cX5_eventCount 5 = .ok (.aload_n 0, 1) := by decide +kernel
theorem dX5_eventCount_6 : decode cX5_eventCount 6 = .ok (.getfield 9, 3) := by decide +kernel
theorem dX5_eventCount_9 : decode cX5_eventCount 9 = .ok (.iconst 4, 1) := by decide +kernel
theorem dX5_eventCount_10 : decode cX5_eventCount 10 = .ok (.iaload, 1) := by decide +kernel
theorem dX5_eventCount_11 : decode cX5_eventCount 11 = .ok (.ireturn, 1) := by decide +kernel
theorem dX5_event_0 : decode cX5_event 0 = .ok (.aload_n 0, 1) := by decide +kernel
theorem dX5_event_1 : decode cX5_event 1 = .ok (.iconst 0, 1) := by decide +kernel
theorem dX5_event_2 : decode cX5_event 2 = .ok (.putfield 22, 3) := by decide +kernel
theorem dX5_event_5 : decode cX5_event 5 = .ok (.iload_n 1, 1) := by decide +kernel
theorem dX5_event_6 : decode cX5_event 6 = .ok (.iconst 0, 1) := by decide +kernel
theorem dX5_event_7 : decode cX5_event 7 = .ok (.aload_n 0, 1) := by decide +kernel
theorem dX5_event_8 : decode cX5_event 8 = .ok (.getfield 9, 3) := by decide +kernel
theorem dX5_event_11 : decode cX5_event 11 = .ok (.iconst 4, 1) := by decide +kernel
theorem dX5_event_12 : decode cX5_event 12 = .ok (.iaload, 1) := by decide +kernel
theorem dX5_event_13 : decode cX5_event 13 = .ok (.iconst 1, 1) := by decide +kernel
theorem dX5_event_14 : decode cX5_event 14 = .ok (.isub, 1) := by decide +kernel
theorem dX5_event_15 : decode cX5_event 15 = .ok (.invokestatic 26, 3) := by decide +kernel
theorem dX5_event_18 : decode cX5_event 18 = .ok (.ifCond .eq 29, 3) := by decide +kernel
theorem dX5_event_21 : decode cX5_event 21 = .ok (.iload_n 2, 1) := by decide +kernel
theorem dX5_event_22 : decode cX5_event 22 = .ok (.iconst 0, 1) := by decide +kernel
theorem dX5_event_23 : decode cX5_event 23 = .ok (.iconst 2, 1) := by decide +kernel
theorem dX5_event_24 : decode cX5_event 24 = .ok (.invokestatic 26, 3) := by decide +kernel
theorem dX5_event_27 : decode cX5_event 27 = .ok (.ifCond .eq 20, 3) := by decide +kernel
theorem dX5_event_30 : decode cX5_event 30 = .ok (.aload_n 0, 1) := by decide +kernel
theorem dX5_event_31 : decode cX5_event 31 = .ok (.getfield 9, 3) := by decide +kernel
theorem dX5_event_34 : decode cX5_event 34 = .ok (.sipush 365, 3) := by decide +kernel
theorem dX5_event_37 : decode cX5_event 37 = .ok (.iconst 3, 1) := by decide +kernel
theorem dX5_event_38 : decode cX5_event 38 = .ok (.iload_n 1, 1) := by decide +kernel
theorem dX5_event_39 : decode cX5_event 39 = .ok (.imul, 1) := by decide +kernel
theorem dX5_event_40 : decode cX5_event 40 = .ok (.iadd, 1) := by decide +kernel
theorem dX5_event_41 : decode cX5_event 41 = .ok (.iload_n 2, 1) := by decide +kernel
theorem dX5_event_42 : decode cX5_event 42 = .ok (.iadd, 1) := by decide +kernel
theorem dX5_event_43 : decode cX5_event 43 = .ok (.iaload, 1) := by decide +kernel
theorem dX5_event_44 : decode cX5_event 44 = .ok (.goto 8, 3) := by decide +kernel
theorem dX5_event_47 : decode cX5_event 47 = .ok (.aload_n 0, 1) := by decide +kernel
theorem dX5_event_48 : decode cX5_event 48 = .ok (.iconst 1, 1) := by decide +kernel
theorem dX5_event_49 : decode cX5_event 49 = .ok (.invokevirtual 85, 3) := by decide +kernel
theorem dX5_event_52 : decode cX5_event 52 = .ok (.ireturn, 1) := by decide +kernel
theorem dX5_save_0 : decode cX5_save 0 = .ok (.aload_n 0, 1) := by decide +kernel
theorem dX5_save_1 : decode cX5_save 1 = .ok (.iconst 0, 1) := by decide +kernel
theorem dX5_save_2 : decode cX5_save 2 = .ok (.putfield 22, 3) := by decide +kernel
theorem dX5_save_5 : decode cX5_save 5 = .ok (.aload_n 0, 1) := by decide +kernel
theorem dX5_save_6 : decode cX5_save 6 = .ok (.iconst 1, 1) := by decide +kernel
theorem dX5_save_7 : decode cX5_save 7 = .ok (.putfield 130, 3) := by decide +kernel
theorem dX5_save_10 : decode cX5_save 10 = .ok (.iconst 0, 1) := by decide +kernel
theorem dX5_save_11 : decode cX5_save 11 = .ok (.istore_n 1, 1) := by decide +kernel
theorem dX5_save_12 : decode cX5_save 12 = .ok (.iload_n 1, 1) := by decide +kernel
theorem dX5_save_13 : decode cX5_save 13 = .ok (.sipush 609, 3) := by decide +kernel
theorem dX5_save_16 : decode cX5_save 16 = .ok (.if_icmp .ge 21, 3) := by decide +kernel
theorem dX5_save_19 : decode cX5_save 19 = .ok (.aload_n 0, 1) := by decide +kernel
theorem dX5_save_20 : decode cX5_save 20 = .ok (.getfield 13, 3) := by decide +kernel
theorem dX5_save_23 : decode cX5_save 23 = .ok (.iload_n 1, 1) := by decide +kernel
theorem dX5_save_24 : decode cX5_save 24 = .ok (.aload_n 0, 1) := by decide +kernel
theorem dX5_save_25 : decode cX5_save 25 = .ok (.getfield 9, 3) := by decide +kernel
theorem dX5_save_28 : decode cX5_save 28 = .ok (.iload_n 1, 1) := by decide +kernel
theorem dX5_save_29 : decode cX5_save 29 = .ok (.iaload, 1) := by decide +kernel
theorem dX5_save_30 : decode cX5_save 30 = .ok (.iastore, 1) := by decide +kernel
theorem dX5_save_31 : decode cX5_save 31 = .ok (.iinc 1 1, 3) := by decide +kernel
theorem dX5_save_34 : decode cX5_save 34 = .ok (.goto (-22), 3) := by decide +kernel
theorem dX5_save_37 : decode cX5_save 37 = .ok (.return_, 1) := by decide +kernel
theorem dX5_restore_0 : decode cX5_restore 0 = .ok (.aload_n 0, 1) := by decide +kernel
theorem dX5_restore_1 : decode cX5_restore 1 = .ok (.iconst 0, 1) := by decide +kernel
theorem dX5_restore_2 : decode cX5_restore 2 = .ok (.putfield 22, 3) := by decide +kernel
theorem dX5_restore_5 : decode cX5_restore 5 = .ok (.aload_n 0, 1) := by decide +kernel
theorem dX5_restore_6 : decode cX5_restore 6 = .ok (.getfield 130, 3) := by decide +kernel
theorem dX5_restore_9 : decode cX5_restore 9 = .ok (.ifCond .ne 9, 3) := by decide +kernel
theorem dX5_restore_12 : decode cX5_restore 12 = .ok (.aload_n 0, 1) := by decide +kernel
theorem dX5_restore_13 : decode cX5_restore 13 = .ok (.iconst 1, 1) := by decide +kernel
theorem dX5_restore_14 : decode cX5_restore 14 = .ok (.invokevirtual 85, 3) := by decide +kernel
theorem dX5_restore_17 : decode cX5_restore 17 = .ok (.ireturn, 1) := by decide +kernel
theorem dX5_restore_18 : decode cX5_restore 18 = .ok (.iconst 0, 1) := by decide +kernel
theorem dX5_restore_19 : decode cX5_restore 19 = .ok (.istore_n 1, 1) := by decide +kernel
theorem dX5_restore_20 : decode cX5_restore 20 = .ok (.iload_n 1, 1) := by decide +kernel
theorem dX5_restore_21 : decode cX5_restore 21 = .ok (.sipush 609, 3) := by decide +kernel
theorem dX5_restore_24 : decode cX5_restore 24 = .ok (.if_icmp .ge 21, 3) := by decide +kernel
theorem dX5_restore_27 : decode cX5_restore 27 = .ok (.aload_n 0, 1) := by decide +kernel
theorem dX5_restore_28 : decode cX5_restore 28 = .ok (.getfield 9, 3) := by decide +kernel
theorem dX5_restore_31 : decode cX5_restore 31 = .ok (.iload_n 1, 1) := by decide +kernel
theorem dX5_restore_32 : decode cX5_restore 32 = .ok (.aload_n 0, 1) := by decide +kernel
theorem dX5_restore_33 : decode cX5_restore 33 = .ok (.getfield 13, 3) := by decide +kernel
theorem dX5_restore_36 : decode cX5_restore 36 = .ok (.iload_n 1, 1) := by decide +kernel
theorem dX5_restore_37 : decode cX5_restore 37 = .ok (.iaload, 1) := by decide +kernel
theorem dX5_restore_38 : decode cX5_restore 38 = .ok (.iastore, 1) := by decide +kernel
theorem dX5_restore_39 : decode cX5_restore 39 = .ok (.iinc 1 1, 3) := by decide +kernel
theorem dX5_restore_42 : decode cX5_restore 42 = .ok (.goto (-22), 3) := by decide +kernel
theorem dX5_restore_45 : decode cX5_restore 45 = .ok (.aload_n 0, 1) := by decide +kernel
theorem dX5_restore_46 : decode cX5_restore 46 = .ok (.getfield 9, 3) := by decide +kernel
theorem dX5_restore_49 : decode cX5_restore 49 = .ok (.iconst 0, 1) := by decide +kernel
theorem dX5_restore_50 : decode cX5_restore 50 = .ok (.iaload, 1) := by decide +kernel
theorem dX5_restore_51 : decode cX5_restore 51 = .ok (.ireturn, 1) := by decide +kernel
