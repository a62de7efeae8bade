theorem dX0_init_0 : decode cX0_init 0 = .ok (.aload_n 0, 1) := by decide +kernel
theorem dX0_init_1 : decode cX0_init 1 = .ok (.invokespecial 3, 3) := by decide +kernel
theorem dX0_init_4 : decode cX0_init 4 = .ok (.aload_n 0, 1) := by decide +kernel
theorem dX0_init_5 : decode cX0_init 5 = .ok (.new 9, 3) := by decide +kernel
theorem dX0_init_8 : decode cX0_init 8 = .ok (.dup, 1) := by decide +kernel
theorem dX0_init_9 : decode cX0_init 9 = .ok (.invokespecial 11, 3) := by decide +kernel
theorem dX0_init_12 : decode cX0_init 12 = .ok (.putfield 12, 3) := by decide +kernel
theorem dX0_init_15 : decode cX0_init 15 = .ok (.aload_n 0, 1) := by decide +kernel
theorem dX0_init_16 : decode cX0_init 16 = .ok (.new 18, 3) := by decide +kernel
theorem dX0_init_19 : decode cX0_init 19 = .ok (.dup, 1) := by decide +kernel
theorem dX0_init_20 : decode cX0_init 20 = .ok (.invokespecial 20, 3) := by decide +kernel
theorem dX0_init_23 : decode cX0_init 23 = .ok (.putfield 21, 3) := by decide +kernel
theorem dX0_init_26 : decode cX0_init 26 = .ok (.aload_n 0, 1) := by decide +kernel
theorem dX0_init_27 : decode cX0_init 27 = .ok (.new 25, 3) := by decide +kernel
theorem dX0_init_30 : decode cX0_init 30 = .ok (.dup, 1) := by decide +kernel
theorem dX0_init_31 : decode cX0_init 31 = .ok (.invokespecial 27, 3) := by decide +kernel
theorem dX0_init_34 : decode cX0_init 34 = .ok (.putfield 28, 3) := by decide +kernel
theorem dX0_init_37 : decode cX0_init 37 = .ok (.aload_n 0, 1) := by decide +kernel
theorem dX0_init_38 : decode cX0_init 38 = .ok (.bipush 64, 2) := by decide +kernel
theorem dX0_init_40 : decode cX0_init 40 = .ok (.newarray .int, 2) := by decide +kernel
theorem dX0_init_42 : decode cX0_init 42 = .ok (.putfield 32, 3) := by decide +kernel
theorem dX0_init_45 : decode cX0_init 45 = .ok (.aload_n 0, 1) := by decide +kernel
theorem dX0_init_46 : decode cX0_init 46 = .ok (.iconst 0, 1) := by decide +kernel
theorem dX0_init_47 : decode cX0_init 47 = .ok (.putfield 36, 3) := by decide +kernel
theorem dX0_init_50 : decode cX0_init 50 = .ok (.aload_n 0, 1) := by decide +kernel
theorem dX0_init_51 : decode cX0_init 51 = .ok (.iconst 0, 1) := by decide +kernel
theorem dX0_init_52 : decode cX0_init 52 = .ok (.putfield 40, 3) := by decide +kernel
theorem dX0_init_55 : decode cX0_init 55 = .ok (.aload_n 0, 1) := by decide +kernel
theorem dX0_init_56 : decode cX0_init 56 = .ok (.iconst 0, 1) := by decide +kernel
theorem dX0_init_57 : decode cX0_init 57 = .ok (.putfield 43, 3) := by decide +kernel
theorem dX0_init_60 : decode cX0_init 60 = .ok (.aload_n 0, 1) := by decide +kernel
theorem dX0_init_61 : decode cX0_init 61 = .ok (.bipush 24, 2) := by decide +kernel
theorem dX0_init_63 : decode cX0_init 63 = .ok (.newarray .int, 2) := by decide +kernel
theorem dX0_init_65 : decode cX0_init 65 = .ok (.putfield 47, 3) := by decide +kernel
theorem dX0_init_68 : decode cX0_init 68 = .ok (.aload_n 0, 1) := by decide +kernel
theorem dX0_init_69 : decode cX0_init 69 = .ok (.iconst 4, 1) := by decide +kernel
theorem dX0_init_70 : decode cX0_init 70 = .ok (.newarray .int, 2) := by decide +kernel
theorem dX0_init_72 : decode cX0_init 72 = .ok (.putfield 50, 3) := by decide +kernel
theorem dX0_init_75 : decode cX0_init 75 = .ok (.return_, 1) := by decide +kernel
theorem dX0_addJob_0 : decode cX0_addJob 0 = .ok (.aload_n 0, 1) := by decide +kernel
theorem dX0_addJob_1 : decode cX0_addJob 1 = .ok (.getfield 21, 3) := by decide +kernel
theorem dX0_addJob_4 : decode cX0_addJob 4 = .ok (.iload_n 1, 1) := by decide +kernel
theorem dX0_addJob_5 : decode cX0_addJob 5 = .ok (.iload_n 2, 1) := by decide +kernel
theorem dX0_addJob_6 : decode cX0_addJob 6 = .ok (.iload_n 3, 1) := by decide +kernel
theorem dX0_addJob_7 : decode cX0_addJob 7 = .ok (.iload 4, 2) := by decide +kernel
theorem dX0_addJob_9 : decode cX0_addJob 9 = .ok (.aload_n 0, 1) := by decide +kernel
theorem dX0_addJob_10 : decode cX0_addJob 10 = .ok (.getfield 36, 3) := by decide +kernel
theorem dX0_addJob_13 : decode cX0_addJob 13 = .ok (.invokevirtual 53, 3) := by decide +kernel
theorem dX0_addJob_16 : decode cX0_addJob 16 = .ok (.istore 5, 2) := by decide +kernel
theorem dX0_addJob_18 : decode cX0_addJob 18 = .ok (.aload_n 0, 1) := by decide +kernel
theorem dX0_addJob_19 : decode cX0_addJob 19 = .ok (.getfield 28, 3) := by decide +kernel
theorem dX0_addJob_22 : decode cX0_addJob 22 = .ok (.aload_n 0, 1) := by decide +kernel
theorem dX0_addJob_23 : decode cX0_addJob 23 = .ok (.getfield 36, 3) := by decide +kernel
theorem dX0_addJob_26 : decode cX0_addJob 26 = .ok (.iconst 0, 1) := by decide +kernel
theorem dX0_addJob_27 : decode cX0_addJob 27 = .ok (.iload 5, 2) := by decide +kernel
theorem dX0_addJob_29 : decode cX0_addJob 29 = .ok (.invokevirtual 57, 3) := by decide +kernel
theorem dX0_addJob_32 : decode cX0_addJob 32 = .ok (.aload_n 0, 1) := by decide +kernel
theorem dX0_addJob_33 : decode cX0_addJob 33 = .ok (.getfield 21, 3) := by decide +kernel
theorem dX0_addJob_36 : decode cX0_addJob 36 = .ok (.getfield 61, 3) := by decide +kernel
theorem dX0_addJob_39 : decode cX0_addJob 39 = .ok (.iload 5, 2) := by decide +kernel
theorem dX0_addJob_41 : decode cX0_addJob 41 = .ok (.aload_n 0, 1) := by decide +kernel
theorem dX0_addJob_42 : decode cX0_addJob 42 = .ok (.iload 5, 2) := by decide +kernel
theorem dX0_addJob_44 : decode cX0_addJob 44 = .ok (.invokevirtual 64, 3) := by decide +kernel
theorem dX0_addJob_47 : decode cX0_addJob 47 = .ok (.iastore, 1) := by decide +kernel
theorem dX0_addJob_48 : decode cX0_addJob 48 = .ok (.aload_n 0, 1) := by decide +kernel
theorem dX0_addJob_49 : decode cX0_addJob 49 = .ok (.invokevirtual 68, 3) := by decide +kernel
theorem dX0_addJob_52 : decode cX0_addJob 52 = .ok (.aload_n 0, 1) := by decide +kernel
theorem dX0_addJob_53 : decode cX0_addJob 53 = .ok (.getfield 21, 3) := by decide +kernel
theorem dX0_addJob_56 : decode cX0_addJob 56 = .ok (.getfield 61, 3) := by decide +kernel
theorem dX0_addJob_59 : decode cX0_addJob 59 = .ok (.iload 5, 2) := by decide +kernel
theorem dX0_addJob_61 : decode cX0_addJob 61 = .ok (.iaload, 1) := by decide +kernel
theorem dX0_addJob_62 : decode cX0_addJob 62 = .ok (.ireturn, 1) := by decide +kernel
theorem dX0_dropJob_0 : decode cX0_dropJob 0 = .ok (.aload_n 0, 1) := by decide +kernel
theorem dX0_dropJob_1 : decode cX0_dropJob 1 = .ok (.iload_n 1, 1) := by decide +kernel
theorem dX0_dropJob_2 : decode cX0_dropJob 2 = .ok (.iconst 3, 1) := by decide +kernel
theorem dX0_dropJob_3 : decode cX0_dropJob 3 = .ok (.invokevirtual 71, 3) := by decide +kernel
theorem dX0_dropJob_6 : decode cX0_dropJob 6 = .ok (.aload_n 0, 1) := by decide +kernel
theorem dX0_dropJob_7 : decode cX0_dropJob 7 = .ok (.getfield 12, 3) := by decide +kernel
theorem dX0_dropJob_10 : decode cX0_dropJob 10 = .ok (.iload_n 1, 1) := by decide +kernel
theorem dX0_dropJob_11 : decode cX0_dropJob 11 = .ok (.invokevirtual 75, 3) := by decide +kernel
theorem dX0_dropJob_14 : decode cX0_dropJob 14 = .ok (.aload_n 0, 1) := by decide +kernel
theorem dX0_dropJob_15 : decode cX0_dropJob 15 = .ok (.getfield 28, 3) := by decide +kernel
theorem dX0_dropJob_18 : decode cX0_dropJob 18 = .ok (.aload_n 0, 1) := by decide +kernel
theorem dX0_dropJob_19 : decode cX0_dropJob 19 = .ok (.getfield 36, 3) := by decide +kernel
theorem dX0_dropJob_22 : decode cX0_dropJob 22 = .ok (.iconst 3, 1) := by decide +kernel
theorem dX0_dropJob_23 : decode cX0_dropJob 23 = .ok (.iload_n 1, 1) := by decide +kernel
theorem dX0_dropJob_24 : decode cX0_dropJob 24 = .ok (.invokevirtual 57, 3) := by decide +kernel
theorem dX0_dropJob_27 : decode cX0_dropJob 27 = .ok (.aload_n 0, 1) := by decide +kernel
theorem dX0_dropJob_28 : decode cX0_dropJob 28 = .ok (.invokevirtual 79, 3) := by decide +kernel
theorem dX0_dropJob_31 : decode cX0_dropJob 31 = .ok (.aload_n 0, 1) := by decide +kernel
theorem dX0_dropJob_32 : decode cX0_dropJob 32 = .ok (.invokevirtual 68, 3) := by decide +kernel
theorem dX0_dropJob_35 : decode cX0_dropJob 35 = .ok (.return_, 1) := by decide +kernel
theorem dX0_interrupt_0 : decode cX0_interrupt 0 = .ok (.iload_n 2, 1) := by decide +kernel
theorem dX0_interrupt_1 : decode cX0_interrupt 1 = .ok (.aload_n 0, 1) := by decide +kernel
theorem dX0_interrupt_2 : decode cX0_interrupt 2 = .ok (.getfield 36, 3) := by decide +kernel
theorem dX0_interrupt_5 : decode cX0_interrupt 5 = .ok (.aload_n 0, 1) := by decide +kernel
theorem dX0_interrupt_6 : decode cX0_interrupt 6 = .ok (.getfield 12, 3) := by decide +kernel
theorem dX0_interrupt_9 : decode cX0_interrupt 9 = .ok (.getfield 82, 3) := by decide +kernel
theorem dX0_interrupt_12 : decode cX0_interrupt 12 = .ok (.iload_n 1, 1) := by decide +kernel
theorem dX0_interrupt_13 : decode cX0_interrupt 13 = .ok (.iaload, 1) := by decide +kernel
theorem dX0_interrupt_14 : decode cX0_interrupt 14 = .ok (.isub, 1) := by decide +kernel
theorem dX0_interrupt_15 : decode cX0_interrupt 15 = .ok (.isub, 1) := by decide +kernel
theorem dX0_interrupt_16 : decode cX0_interrupt 16 = .ok (.istore_n 3, 1) := by decide +kernel
theorem dX0_interrupt_17 : decode cX0_interrupt 17 = .ok (.aload_n 0, 1) := by decide +kernel
theorem dX0_interrupt_18 : decode cX0_interrupt 18 = .ok (.getfield 21, 3) := by decide +kernel
theorem dX0_interrupt_21 : decode cX0_interrupt 21 = .ok (.getfield 85, 3) := by decide +kernel
theorem dX0_interrupt_24 : decode cX0_interrupt 24 = .ok (.iload_n 1, 1) := by decide +kernel
theorem dX0_interrupt_25 : decode cX0_interrupt 25 = .ok (.dup2, 1) := by decide +kernel
theorem dX0_interrupt_26 : decode cX0_interrupt 26 = .ok (.iaload, 1) := by decide +kernel
theorem dX0_interrupt_27 : decode cX0_interrupt 27 = .ok (.iload_n 3, 1) := by decide +kernel
theorem dX0_interrupt_28 : decode cX0_interrupt 28 = .ok (.iadd, 1) := by decide +kernel
theorem dX0_interrupt_29 : decode cX0_interrupt 29 = .ok (.iastore, 1) := by decide +kernel
theorem dX0_interrupt_30 : decode cX0_interrupt 30 = .ok (.aload_n 0, 1) := by decide +kernel
theorem dX0_interrupt_31 : decode cX0_interrupt 31 = .ok (.getfield 21, 3) := by decide +kernel
theorem dX0_interrupt_34 : decode cX0_interrupt 34 = .ok (.getfield 88, 3) := by decide +kernel
theorem dX0_interrupt_37 : decode cX0_interrupt 37 = .ok (.iload_n 1, 1) := by decide +kernel
theorem dX0_interrupt_38 : decode cX0_interrupt 38 = .ok (.dup2, 1) := by decide +kernel
theorem dX0_interrupt_39 : decode cX0_interrupt 39 = .ok (.iaload, 1) := by decide +kernel
theorem dX0_interrupt_40 : decode cX0_interrupt 40 = .ok (.iload_n 3, 1) := by decide +kernel
theorem dX0_interrupt_41 : decode cX0_interrupt 41 = .ok (.iadd, 1) := by decide +kernel
theorem dX0_interrupt_42 : decode cX0_interrupt 42 = .ok (.iastore, 1) := by decide +kernel
theorem dX0_interrupt_43 : decode cX0_interrupt 43 = .ok (.aload_n 0, 1) := by decide +kernel
theorem dX0_interrupt_44 : decode cX0_interrupt 44 = .ok (.getfield 21, 3) := by decide +kernel
theorem dX0_interrupt_47 : decode cX0_interrupt 47 = .ok (.getfield 91, 3) := by decide +kernel
theorem dX0_interrupt_50 : decode cX0_interrupt 50 = .ok (.iload_n 1, 1) := by decide +kernel
theorem dX0_interrupt_51 : decode cX0_interrupt 51 = .ok (.dup2, 1) := by decide +kernel
theorem dX0_interrupt_52 : decode cX0_interrupt 52 = .ok (.iaload, 1) := by decide +kernel
theorem dX0_interrupt_53 : decode cX0_interrupt 53 = .ok (.iconst 1, 1) := by decide +kernel
theorem dX0_interrupt_54 : decode cX0_interrupt 54 = .ok (.iadd, 1) := by decide +kernel
theorem dX0_interrupt_55 : decode cX0_interrupt 55 = .ok (.iastore, 1) := by decide +kernel
theorem dX0_interrupt_56 : decode cX0_interrupt 56 = .ok (.aload_n 0, 1) := by decide +kernel
theorem dX0_interrupt_57 : decode cX0_interrupt 57 = .ok (.iload_n 1, 1) := by decide +kernel
theorem dX0_interrupt_58 : decode cX0_interrupt 58 = .ok (.iconst 4, 1) := by decide +kernel
theorem dX0_interrupt_59 : decode cX0_interrupt 59 = .ok (.invokevirtual 71, 3) := by decide +kernel
theorem dX0_interrupt_62 : decode cX0_interrupt 62 = .ok (.aload_n 0, 1) := by decide +kernel
theorem dX0_interrupt_63 : decode cX0_interrupt 63 = .ok (.getfield 12, 3) := by decide +kernel
theorem dX0_interrupt_66 : decode cX0_interrupt 66 = .ok (.iload_n 1, 1) := by decide +kernel
theorem dX0_interrupt_67 : decode cX0_interrupt 67 = .ok (.invokevirtual 75, 3) := by decide +kernel
theorem dX0_interrupt_70 : decode cX0_interrupt 70 = .ok (.aload_n 0, 1) := by decide +kernel
theorem dX0_interrupt_71 : decode cX0_interrupt 71 = .ok (.getfield 28, 3) := by decide +kernel
theorem dX0_interrupt_74 : decode cX0_interrupt 74 = .ok (.aload_n 0, 1) := by decide +kernel
theorem dX0_interrupt_75 : decode cX0_interrupt 75 = .ok (.getfield 36, 3) := by decide +kernel
theorem dX0_interrupt_78 : decode cX0_interrupt 78 = .ok (.iconst 4, 1) := by decide +kernel
theorem dX0_interrupt_79 : decode cX0_interrupt 79 = .ok (.iload_n 1, 1) := by decide +kernel
theorem dX0_interrupt_80 : decode cX0_interrupt 80 = .ok (.invokevirtual 57, 3) := by decide +kernel
theorem dX0_interrupt_83 : decode cX0_interrupt 83 = .ok (.aload_n 0, 1) := by decide +kernel
theorem dX0_interrupt_84 : decode cX0_interrupt 84 = .ok (.invokevirtual 79, 3) := by decide +kernel
theorem dX0_interrupt_87 : decode cX0_interrupt 87 = .ok (.aload_n 0, 1) := by decide +kernel
theorem dX0_interrupt_88 : decode cX0_interrupt 88 = .ok (.getfield 21, 3) := by decide +kernel
theorem dX0_interrupt_91 : decode cX0_interrupt 91 = .ok (.getfield 94, 3) := by decide +kernel
theorem dX0_interrupt_94 : decode cX0_interrupt 94 = .ok (.iload_n 1, 1) := by decide +kernel
theorem dX0_interrupt_95 : decode cX0_interrupt 95 = .ok (.iconst 0, 1) := by decide +kernel
theorem dX0_interrupt_96 : decode cX0_interrupt 96 = .ok (.iastore, 1) := by decide +kernel
theorem dX0_interrupt_97 : decode cX0_interrupt 97 = .ok (.aload_n 0, 1) := by decide +kernel
theorem dX0_interrupt_98 : decode cX0_interrupt 98 = .ok (.iload_n 1, 1) := by decide +kernel
theorem dX0_interrupt_99 : decode cX0_interrupt 99 = .ok (.invokevirtual 64, 3) := by decide +kernel
theorem dX0_interrupt_102 : decode cX0_interrupt 102 = .ok (.istore 4, 2) := by decide +kernel
theorem dX0_interrupt_104 : decode cX0_interrupt 104 = .ok (.aload_n 0, 1) := by decide +kernel
theorem dX0_interrupt_105 : decode cX0_interrupt 105 = .ok (.invokevirtual 68, 3) := by decide +kernel
theorem dX0_interrupt_108 : decode cX0_interrupt 108 = .ok (.iload 4, 2) := by decide +kernel
theorem dX0_interrupt_110 : decode cX0_interrupt 110 = .ok (.ireturn, 1) := by decide +kernel
theorem dX0_addReservation_0 : decode cX0_addReservation 0 = .ok (.aload_n 0, 1) := by decide +kernel
theorem dX0_addReservation_1 : decode cX0_addReservation 1 = .ok (.getfield 40, 3) := by decide +kernel
theorem dX0_addReservation_4 : decode cX0_addReservation 4 = .ok (.istore 4, 2) := by decide +kernel
theorem dX0_addReservation_6 : decode cX0_addReservation 6 = .ok (.aload_n 0, 1) := by decide +kernel
theorem dX0_addReservation_7 : decode cX0_addReservation 7 = .ok (.getfield 12, 3) := by decide +kernel
theorem dX0_addReservation_10 : decode cX0_addReservation 10 = .ok (.iload_n 1, 1) := by decide +kernel
theorem dX0_addReservation_11 : decode cX0_addReservation 11 = .ok (.iload_n 2, 1) := by decide +kernel
theorem dX0_addReservation_12 : decode cX0_addReservation 12 = .ok (.iload_n 3, 1) := by decide +kernel
theorem dX0_addReservation_13 : decode cX0_addReservation 13 = .ok (.invokevirtual 97, 3) := by decide +kernel
theorem dX0_addReservation_16 : decode cX0_addReservation 16 = .ok (.istore 5, 2) := by decide +kernel
theorem dX0_addReservation_18 : decode cX0_addReservation 18 = .ok (.aload_n 0, 1) := by decide +kernel
theorem dX0_addReservation_19 : decode cX0_addReservation 19 = .ok (.getfield 12, 3) := by decide +kernel
theorem dX0_addReservation_22 : decode cX0_addReservation 22 = .ok (.bipush 24, 2) := by decide +kernel
theorem dX0_addReservation_24 : decode cX0_addReservation 24 = .ok (.iload 4, 2) := by decide +kernel
theorem dX0_addReservation_26 : decode cX0_addReservation 26 = .ok (.iadd, 1) := by decide +kernel
theorem dX0_addReservation_27 : decode cX0_addReservation 27 = .ok (.iload_n 1, 1) := by decide +kernel
theorem dX0_addReservation_28 : decode cX0_addReservation 28 = .ok (.iload 5, 2) := by decide +kernel
theorem dX0_addReservation_30 : decode cX0_addReservation 30 = .ok (.iload_n 2, 1) := by decide +kernel
theorem dX0_addReservation_31 : decode cX0_addReservation 31 = .ok (.iload_n 3, 1) := by decide +kernel
theorem dX0_addReservation_32 : decode cX0_addReservation 32 = .ok (.invokevirtual 101, 3) := by decide +kernel
theorem dX0_addReservation_35 : decode cX0_addReservation 35 = .ok (.aload_n 0, 1) := by decide +kernel
theorem dX0_addReservation_36 : decode cX0_addReservation 36 = .ok (.dup, 1) := by decide +kernel
theorem dX0_addReservation_37 : decode cX0_addReservation 37 = .ok (.getfield 40, 3) := by decide +kernel
theorem dX0_addReservation_40 : decode cX0_addReservation 40 = .ok (.iconst 1, 1) := by decide +kernel
theorem dX0_addReservation_41 : decode cX0_addReservation 41 = .ok (.iadd, 1) := by decide +kernel
theorem dX0_addReservation_42 : decode cX0_addReservation 42 = .ok (.putfield 40, 3) := by decide +kernel
theorem dX0_addReservation_45 : decode cX0_addReservation 45 = .ok (.iload 4, 2) := by decide +kernel
theorem dX0_addReservation_47 : decode cX0_addReservation 47 = .ok (.ireturn, 1) := by decide +kernel
theorem dX0_dropReservation_0 : decode cX0_dropReservation 0 = .ok (.aload_n 0, 1) := by decide +kernel
theorem dX0_dropReservation_1 : decode cX0_dropReservation 1 = .ok (.getfield 12, 3) := by decide +kernel
theorem dX0_dropReservation_4 : decode cX0_dropReservation 4 = .ok (.bipush 24, 2) := by decide +kernel
theorem dX0_dropReservation_6 : decode cX0_dropReservation 6 = .ok (.iload_n 1, 1) := by decide +kernel
theorem dX0_dropReservation_7 : decode cX0_dropReservation 7 = .ok (.iadd, 1) := by decide +kernel
theorem dX0_dropReservation_8 : decode cX0_dropReservation 8 = .ok (.invokevirtual 75, 3) := by decide +kernel
theorem dX0_dropReservation_11 : decode cX0_dropReservation 11 = .ok (.aload_n 0, 1) := by decide +kernel
theorem dX0_dropReservation_12 : decode cX0_dropReservation 12 = .ok (.invokevirtual 79, 3) := by decide +kernel
theorem dX0_dropReservation_15 : decode cX0_dropReservation 15 = .ok (.aload_n 0, 1) := by decide +kernel
theorem dX0_dropReservation_16 : decode cX0_dropReservation 16 = .ok (.invokevirtual 68, 3) := by decide +kernel
theorem dX0_dropReservation_19 : decode cX0_dropReservation 19 = .ok (.return_, 1) := by decide +kernel
theorem dX0_tick_0 : decode cX0_tick 0 = .ok (.aload_n 0, 1) := by decide +kernel
theorem dX0_tick_1 : decode cX0_tick 1 = .ok (.dup, 1) := by decide +kernel
theorem dX0_tick_2 : decode cX0_tick 2 = .ok (.getfield 36, 3) := by decide +kernel
theorem dX0_tick_5 : decode cX0_tick 5 = .ok (.iconst 1, 1) := by decide +kernel
theorem dX0_tick_6 : decode cX0_tick 6 = .ok (.iadd, 1) := by decide +kernel
theorem dX0_tick_7 : decode cX0_tick 7 = .ok (.putfield 36, 3) := by decide +kernel
theorem dX0_tick_10 : decode cX0_tick 10 = .ok (.aload_n 0, 1) := by decide +kernel
theorem dX0_tick_11 : decode cX0_tick 11 = .ok (.invokevirtual 105, 3) := by decide +kernel
theorem dX0_tick_14 : decode cX0_tick 14 = .ok (.istore_n 1, 1) := by decide +kernel
theorem dX0_tick_15 : decode cX0_tick 15 = .ok (.iload_n 1, 1) := by decide +kernel
theorem dX0_tick_16 : decode cX0_tick 16 = .ok (.ifCond .le 7, 3) := by decide +kernel
theorem dX0_tick_19 : decode cX0_tick 19 = .ok (.aload_n 0, 1) := by decide +kernel
theorem dX0_tick_20 : decode cX0_tick 20 = .ok (.invokevirtual 79, 3) := by decide +kernel
theorem dX0_tick_23 : decode cX0_tick 23 = .ok (.aload_n 0, 1) := by decide +kernel
theorem dX0_tick_24 : decode cX0_tick 24 = .ok (.invokevirtual 68, 3) := by decide +kernel
theorem dX0_tick_27 : decode cX0_tick 27 = .ok (.iload_n 1, 1) := by decide +kernel
theorem dX0_tick_28 : decode cX0_tick 28 = .ok (.ireturn, 1) := by decide +kernel
theorem dX0_finishJobs_0 : decode cX0_finishJobs 0 = .ok (.iconst 0, 1) := by decide +kernel
theorem dX0_finishJobs_1 : decode cX0_finishJobs 1 = .ok (.istore_n 1, 1) := by decide +kernel
theorem dX0_finishJobs_2 : decode cX0_finishJobs 2 = .ok (.iconst 0, 1) := by decide +kernel
theorem dX0_finishJobs_3 : decode cX0_finishJobs 3 = .ok (.istore_n 2, 1) := by decide +kernel
theorem dX0_finishJobs_4 : decode cX0_finishJobs 4 = .ok (.iload_n 2, 1) := by decide +kernel
theorem dX0_finishJobs_5 : decode cX0_finishJobs 5 = .ok (.aload_n 0, 1) := by decide +kernel
theorem dX0_finishJobs_6 : decode cX0_finishJobs 6 = .ok (.getfield 21, 3) := by decide +kernel
theorem dX0_finishJobs_9 : decode cX0_finishJobs 9 = .ok (.getfield 109, 3) := by decide +kernel
theorem dX0_finishJobs_12 : decode cX0_finishJobs 12 = .ok (.if_icmp .ge 91, 3) := by decide +kernel
theorem dX0_finishJobs_15 : decode cX0_finishJobs 15 = .ok (.aload_n 0, 1) := by decide +kernel
theorem dX0_finishJobs_16 : decode cX0_finishJobs 16 = .ok (.getfield 21, 3) := by decide +kernel
theorem dX0_finishJobs_19 : decode cX0_finishJobs 19 = .ok (.getfield 94, 3) := by decide +kernel
theorem dX0_finishJobs_22 : decode cX0_finishJobs 22 = .ok (.iload_n 2, 1) := by decide +kernel
theorem dX0_finishJobs_23 : decode cX0_finishJobs 23 = .ok (.iaload, 1) := by decide +kernel
theorem dX0_finishJobs_24 : decode cX0_finishJobs 24 = .ok (.iconst 1, 1) := by decide +kernel
theorem dX0_finishJobs_25 : decode cX0_finishJobs 25 = .ok (.if_icmp .ne 72, 3) := by decide +kernel
theorem dX0_finishJobs_28 : decode cX0_finishJobs 28 = .ok (.aload_n 0, 1) := by decide +kernel
theorem dX0_finishJobs_29 : decode cX0_finishJobs 29 = .ok (.getfield 36, 3) := by decide +kernel
theorem dX0_finishJobs_32 : decode cX0_finishJobs 32 = .ok (.aload_n 0, 1) := by decide +kernel
theorem dX0_finishJobs_33 : decode cX0_finishJobs 33 = .ok (.getfield 12, 3) := by decide +kernel
theorem dX0_finishJobs_36 : decode cX0_finishJobs 36 = .ok (.getfield 82, 3) := by decide +kernel
theorem dX0_finishJobs_39 : decode cX0_finishJobs 39 = .ok (.iload_n 2, 1) := by decide +kernel
theorem dX0_finishJobs_40 : decode cX0_finishJobs 40 = .ok (.iaload, 1) := by decide +kernel
theorem dX0_finishJobs_41 : decode cX0_finishJobs 41 = .ok (.isub, 1) := by decide +kernel
theorem dX0_finishJobs_42 : decode cX0_finishJobs 42 = .ok (.aload_n 0, 1) := by decide +kernel
theorem dX0_finishJobs_43 : decode cX0_finishJobs 43 = .ok (.getfield 21, 3) := by decide +kernel
theorem dX0_finishJobs_46 : decode cX0_finishJobs 46 = .ok (.getfield 88, 3) := by decide +kernel
theorem dX0_finishJobs_49 : decode cX0_finishJobs 49 = .ok (.iload_n 2, 1) := by decide +kernel
theorem dX0_finishJobs_50 : decode cX0_finishJobs 50 = .ok (.iaload, 1) := by decide +kernel
theorem dX0_finishJobs_51 : decode cX0_finishJobs 51 = .ok (.if_icmp .ne 46, 3) := by decide +kernel
theorem dX0_finishJobs_54 : decode cX0_finishJobs 54 = .ok (.aload_n 0, 1) := by decide +kernel
theorem dX0_finishJobs_55 : decode cX0_finishJobs 55 = .ok (.iload_n 2, 1) := by decide +kernel
theorem dX0_finishJobs_56 : decode cX0_finishJobs 56 = .ok (.iconst 2, 1) := by decide +kernel
theorem dX0_finishJobs_57 : decode cX0_finishJobs 57 = .ok (.invokevirtual 71, 3) := by decide +kernel
theorem dX0_finishJobs_60 : decode cX0_finishJobs 60 = .ok (.aload_n 0, 1) := by decide +kernel
theorem dX0_finishJobs_61 : decode cX0_finishJobs 61 = .ok (.getfield 12, 3) := by decide +kernel
theorem dX0_finishJobs_64 : decode cX0_finishJobs 64 = .ok (.iload_n 2, 1) := by decide +kernel
theorem dX0_finishJobs_65 : decode cX0_finishJobs 65 = .ok (.invokevirtual 75, 3) := by decide +kernel
theorem dX0_finishJobs_68 : decode cX0_finishJobs 68 = .ok (.aload_n 0, 1) := by decide +kernel
theorem dX0_finishJobs_69 : decode cX0_finishJobs 69 = .ok (.getfield 21, 3) := by decide +kernel
theorem dX0_finishJobs_72 : decode cX0_finishJobs 72 = .ok (.getfield 112, 3) := by decide +kernel
theorem dX0_finishJobs_75 : decode cX0_finishJobs 75 = .ok (.iload_n 2, 1) := by decide +kernel
theorem dX0_finishJobs_76 : decode cX0_finishJobs 76 = .ok (.aload_n 0, 1) := by decide +kernel
theorem dX0_finishJobs_77 : decode cX0_finishJobs 77 = .ok (.getfield 36, 3) := by decide +kernel
theorem dX0_finishJobs_80 : decode cX0_finishJobs 80 = .ok (.iastore, 1) := by decide +kernel
theorem dX0_finishJobs_81 : decode cX0_finishJobs 81 = .ok (.aload_n 0, 1) := by decide +kernel
theorem dX0_finishJobs_82 : decode cX0_finishJobs 82 = .ok (.getfield 28, 3) := by decide +kernel
theorem dX0_finishJobs_85 : decode cX0_finishJobs 85 = .ok (.aload_n 0, 1) := by decide +kernel
theorem dX0_finishJobs_86 : decode cX0_finishJobs 86 = .ok (.getfield 36, 3) := by decide +kernel
theorem dX0_finishJobs_89 : decode cX0_finishJobs 89 = .ok (.iconst 2, 1) := by decide +kernel
theorem dX0_finishJobs_90 : decode cX0_finishJobs 90 = .ok (.iload_n 2, 1) := by decide +kernel
theorem dX0_finishJobs_91 : decode cX0_finishJobs 91 = .ok (.invokevirtual 57, 3) := by decide +kernel
theorem dX0_finishJobs_94 : decode cX0_finishJobs 94 = .ok (.iinc 1 1, 3) := by decide +kernel
theorem dX0_finishJobs_97 : decode cX0_finishJobs 97 = .ok (.iinc 2 1, 3) := by decide +kernel
theorem dX0_finishJobs_100 : decode cX0_finishJobs 100 = .ok (.goto (-96), 3) := by decide +kernel
theorem dX0_finishJobs_103 : decode cX0_finishJobs 103 = .ok (.iload_n 1, 1) := by decide +kernel
theorem dX0_finishJobs_104 : decode cX0_finishJobs 104 = .ok (.ireturn, 1) := by decide +kernel
theorem dX0_startJobs_0 : decode cX0_startJobs 0 = .ok (.iconst 0, 1) := by decide +kernel
theorem dX0_startJobs_1 : decode cX0_startJobs 1 = .ok (.istore_n 1, 1) := by decide +kernel
theorem dX0_startJobs_2 : decode cX0_startJobs 2 = .ok (.iload_n 1, 1) := by decide +kernel
theorem dX0_startJobs_3 : decode cX0_startJobs 3 = .ok (.aload_n 0, 1) := by decide +kernel
theorem dX0_startJobs_4 : decode cX0_startJobs 4 = .ok (.getfield 21, 3) := by decide +kernel
theorem dX0_startJobs_7 : decode cX0_startJobs 7 = .ok (.getfield 109, 3) := by decide +kernel
theorem dX0_startJobs_10 : decode cX0_startJobs 10 = .ok (.if_icmp .ge 114, 3) := by decide +kernel
theorem dX0_startJobs_13 : decode cX0_startJobs 13 = .ok (.aload_n 0, 1) := by decide +kernel
theorem dX0_startJobs_14 : decode cX0_startJobs 14 = .ok (.getfield 21, 3) := by decide +kernel
theorem dX0_startJobs_17 : decode cX0_startJobs 17 = .ok (.getfield 94, 3) := by decide +kernel
theorem dX0_startJobs_20 : decode cX0_startJobs 20 = .ok (.iload_n 1, 1) := by decide +kernel
theorem dX0_startJobs_21 : decode cX0_startJobs 21 = .ok (.iaload, 1) := by decide +kernel
theorem dX0_startJobs_22 : decode cX0_startJobs 22 = .ok (.ifCond .ne 96, 3) := by decide +kernel
theorem dX0_startJobs_25 : decode cX0_startJobs 25 = .ok (.aload_n 0, 1) := by decide +kernel
theorem dX0_startJobs_26 : decode cX0_startJobs 26 = .ok (.getfield 12, 3) := by decide +kernel
theorem dX0_startJobs_29 : decode cX0_startJobs 29 = .ok (.getfield 82, 3) := by decide +kernel
theorem dX0_startJobs_32 : decode cX0_startJobs 32 = .ok (.iload_n 1, 1) := by decide +kernel
theorem dX0_startJobs_33 : decode cX0_startJobs 33 = .ok (.iaload, 1) := by decide +kernel
theorem dX0_startJobs_34 : decode cX0_startJobs 34 = .ok (.aload_n 0, 1) := by decide +kernel
theorem dX0_startJobs_35 : decode cX0_startJobs 35 = .ok (.getfield 36, 3) := by decide +kernel
theorem dX0_startJobs_38 : decode cX0_startJobs 38 = .ok (.if_icmp .ne 80, 3) := by decide +kernel
theorem dX0_startJobs_41 : decode cX0_startJobs 41 = .ok (.aload_n 0, 1) := by decide +kernel
theorem dX0_startJobs_42 : decode cX0_startJobs 42 = .ok (.getfield 21, 3) := by decide +kernel
theorem dX0_startJobs_45 : decode cX0_startJobs 45 = .ok (.getfield 94, 3) := by decide +kernel
theorem dX0_startJobs_48 : decode cX0_startJobs 48 = .ok (.iload_n 1, 1) := by decide +kernel
theorem dX0_startJobs_49 : decode cX0_startJobs 49 = .ok (.iconst 1, 1) := by decide +kernel
theorem dX0_startJobs_50 : decode cX0_startJobs 50 = .ok (.iastore, 1) := by decide +kernel
theorem dX0_startJobs_51 : decode cX0_startJobs 51 = .ok (.aload_n 0, 1) := by decide +kernel
theorem dX0_startJobs_52 : decode cX0_startJobs 52 = .ok (.getfield 21, 3) := by decide +kernel
theorem dX0_startJobs_55 : decode cX0_startJobs 55 = .ok (.iload_n 1, 1) := by decide +kernel
theorem dX0_startJobs_56 : decode cX0_startJobs 56 = .ok (.invokevirtual 115, 3) := by decide +kernel
theorem dX0_startJobs_59 : decode cX0_startJobs 59 = .ok (.ifCond .ne 16, 3) := by decide +kernel
theorem dX0_startJobs_62 : decode cX0_startJobs 62 = .ok (.aload_n 0, 1) := by decide +kernel
theorem dX0_startJobs_63 : decode cX0_startJobs 63 = .ok (.getfield 21, 3) := by decide +kernel
theorem dX0_startJobs_66 : decode cX0_startJobs 66 = .ok (.getfield 119, 3) := by decide +kernel
theorem dX0_startJobs_69 : decode cX0_startJobs 69 = .ok (.iload_n 1, 1) := by decide +kernel
theorem dX0_startJobs_70 : decode cX0_startJobs 70 = .ok (.aload_n 0, 1) := by decide +kernel
theorem dX0_startJobs_71 : decode cX0_startJobs 71 = .ok (.getfield 36, 3) := by decide +kernel
theorem dX0_startJobs_74 : decode cX0_startJobs 74 = .ok (.iastore, 1) := by decide +kernel
theorem dX0_startJobs_75 : decode cX0_startJobs 75 = .ok (.aload_n 0, 1) := by decide +kernel
theorem dX0_startJobs_76 : decode cX0_startJobs 76 = .ok (.getfield 32, 3) := by decide +kernel
theorem dX0_startJobs_79 : decode cX0_startJobs 79 = .ok (.aload_n 0, 1) := by decide +kernel
theorem dX0_startJobs_80 : decode cX0_startJobs 80 = .ok (.getfield 21, 3) := by decide +kernel
theorem dX0_startJobs_83 : decode cX0_startJobs 83 = .ok (.getfield 122, 3) := by decide +kernel
theorem dX0_startJobs_86 : decode cX0_startJobs 86 = .ok (.iload_n 1, 1) := by decide +kernel
theorem dX0_startJobs_87 : decode cX0_startJobs 87 = .ok (.iaload, 1) := by decide +kernel
theorem dX0_startJobs_88 : decode cX0_startJobs 88 = .ok (.aload_n 0, 1) := by decide +kernel
theorem dX0_startJobs_89 : decode cX0_startJobs 89 = .ok (.getfield 12, 3) := by decide +kernel
theorem dX0_startJobs_92 : decode cX0_startJobs 92 = .ok (.getfield 125, 3) := by decide +kernel
theorem dX0_startJobs_95 : decode cX0_startJobs 95 = .ok (.iload_n 1, 1) := by decide +kernel
theorem dX0_startJobs_96 : decode cX0_startJobs 96 = .ok (.iaload, 1) := by decide +kernel
theorem dX0_startJobs_97 : decode cX0_startJobs 97 = .ok (.invokestatic 128, 3) := by decide +kernel
theorem dX0_startJobs_100 : decode cX0_startJobs 100 = .ok (.dup2, 1) := by decide +kernel
theorem dX0_startJobs_101 : decode cX0_startJobs 101 = .ok (.iaload, 1) := by decide +kernel
theorem dX0_startJobs_102 : decode cX0_startJobs 102 = .ok (.iconst 1, 1) := by decide +kernel
theorem dX0_startJobs_103 : decode cX0_startJobs 103 = .ok (.iadd, 1) := by decide +kernel
theorem dX0_startJobs_104 : decode cX0_startJobs 104 = .ok (.iastore, 1) := by decide +kernel
theorem dX0_startJobs_105 : decode cX0_startJobs 105 = .ok (.aload_n 0, 1) := by decide +kernel
theorem dX0_startJobs_106 : decode cX0_startJobs 106 = .ok (.getfield 28, 3) := by decide +kernel
theorem dX0_startJobs_109 : decode cX0_startJobs 109 = .ok (.aload_n 0, 1) := by decide +kernel
theorem dX0_startJobs_110 : decode cX0_startJobs 110 = .ok (.getfield 36, 3) := by decide +kernel
theorem dX0_startJobs_113 : decode cX0_startJobs 113 = .ok (.iconst 1, 1) := by decide +kernel
theorem dX0_startJobs_114 : decode cX0_startJobs 114 = .ok (.iload_n 1, 1) := by decide +kernel
theorem dX0_startJobs_115 : decode cX0_startJobs 115 = .ok (.invokevirtual 57, 3) := by decide +kernel
theorem dX0_startJobs_118 : decode cX0_startJobs 118 = .ok (.iinc 1 1, 3) := by decide +kernel
theorem dX0_startJobs_121 : decode cX0_startJobs 121 = .ok (.goto (-119), 3) := by decide +kernel
theorem dX0_startJobs_124 : decode cX0_startJobs 124 = .ok (.return_, 1) := by decide +kernel
theorem dX0_endRun_0 : decode cX0_endRun 0 = .ok (.aload_n 0, 1) := by decide +kernel
theorem dX0_endRun_1 : decode cX0_endRun 1 = .ok (.getfield 21, 3) := by decide +kernel
theorem dX0_endRun_4 : decode cX0_endRun 4 = .ok (.getfield 132, 3) := by decide +kernel
theorem dX0_endRun_7 : decode cX0_endRun 7 = .ok (.iload_n 1, 1) := by decide +kernel
theorem dX0_endRun_8 : decode cX0_endRun 8 = .ok (.aload_n 0, 1) := by decide +kernel
theorem dX0_endRun_9 : decode cX0_endRun 9 = .ok (.iload_n 1, 1) := by decide +kernel
theorem dX0_endRun_10 : decode cX0_endRun 10 = .ok (.invokevirtual 135, 3) := by decide +kernel
theorem dX0_endRun_13 : decode cX0_endRun 13 = .ok (.iastore, 1) := by decide +kernel
theorem dX0_endRun_14 : decode cX0_endRun 14 = .ok (.aload_n 0, 1) := by decide +kernel
theorem dX0_endRun_15 : decode cX0_endRun 15 = .ok (.getfield 21, 3) := by decide +kernel
theorem dX0_endRun_18 : decode cX0_endRun 18 = .ok (.getfield 94, 3) := by decide +kernel
theorem dX0_endRun_21 : decode cX0_endRun 21 = .ok (.iload_n 1, 1) := by decide +kernel
theorem dX0_endRun_22 : decode cX0_endRun 22 = .ok (.iload_n 2, 1) := by decide +kernel
theorem dX0_endRun_23 : decode cX0_endRun 23 = .ok (.iastore, 1) := by decide +kernel
theorem dX0_endRun_24 : decode cX0_endRun 24 = .ok (.return_, 1) := by decide +kernel
theorem dX0_unitsUpToNow_0 : decode cX0_unitsUpToNow 0 = .ok (.aload_n 0, 1) := by decide +kernel
theorem dX0_unitsUpToNow_1 : decode cX0_unitsUpToNow 1 = .ok (.getfield 21, 3) := by decide +kernel
theorem dX0_unitsUpToNow_4 : decode cX0_unitsUpToNow 4 = .ok (.getfield 94, 3) := by decide +kernel
theorem dX0_unitsUpToNow_7 : decode cX0_unitsUpToNow 7 = .ok (.iload_n 1, 1) := by decide +kernel
theorem dX0_unitsUpToNow_8 : decode cX0_unitsUpToNow 8 = .ok (.iaload, 1) := by decide +kernel
theorem dX0_unitsUpToNow_9 : decode cX0_unitsUpToNow 9 = .ok (.iconst 1, 1) := by decide +kernel
theorem dX0_unitsUpToNow_10 : decode cX0_unitsUpToNow 10 = .ok (.if_icmp .ne 20, 3) := by decide +kernel
theorem dX0_unitsUpToNow_13 : decode cX0_unitsUpToNow 13 = .ok (.aload_n 0, 1) := by decide +kernel
theorem dX0_unitsUpToNow_14 : decode cX0_unitsUpToNow 14 = .ok (.getfield 36, 3) := by decide +kernel
theorem dX0_unitsUpToNow_17 : decode cX0_unitsUpToNow 17 = .ok (.aload_n 0, 1) := by decide +kernel
theorem dX0_unitsUpToNow_18 : decode cX0_unitsUpToNow 18 = .ok (.getfield 12, 3) := by decide +kernel
theorem dX0_unitsUpToNow_21 : decode cX0_unitsUpToNow 21 = .ok (.getfield 82, 3) := by decide +kernel
theorem dX0_unitsUpToNow_24 : decode cX0_unitsUpToNow 24 = .ok (.iload_n 1, 1) := by decide +kernel
theorem dX0_unitsUpToNow_25 : decode cX0_unitsUpToNow 25 = .ok (.iaload, 1) := by decide +kernel
theorem dX0_unitsUpToNow_26 : decode cX0_unitsUpToNow 26 = .ok (.isub, 1) := by decide +kernel
theorem dX0_unitsUpToNow_27 : decode cX0_unitsUpToNow 27 = .ok (.goto 4, 3) := by decide +kernel
theorem dX0_unitsUpToNow_30 : decode cX0_unitsUpToNow 30 = .ok (.iconst 0, 1) := by decide +kernel
theorem dX0_unitsUpToNow_31 : decode cX0_unitsUpToNow 31 = .ok (.istore_n 2, 1) := by decide +kernel
theorem dX0_unitsUpToNow_32 : decode cX0_unitsUpToNow 32 = .ok (.aload_n 0, 1) := by decide +kernel
theorem dX0_unitsUpToNow_33 : decode cX0_unitsUpToNow 33 = .ok (.getfield 21, 3) := by decide +kernel
theorem dX0_unitsUpToNow_36 : decode cX0_unitsUpToNow 36 = .ok (.getfield 132, 3) := by decide +kernel
theorem dX0_unitsUpToNow_39 : decode cX0_unitsUpToNow 39 = .ok (.iload_n 1, 1) := by decide +kernel
theorem dX0_unitsUpToNow_40 : decode cX0_unitsUpToNow 40 = .ok (.iaload, 1) := by decide +kernel
theorem dX0_unitsUpToNow_41 : decode cX0_unitsUpToNow 41 = .ok (.iload_n 2, 1) := by decide +kernel
theorem dX0_unitsUpToNow_42 : decode cX0_unitsUpToNow 42 = .ok (.iadd, 1) := by decide +kernel
theorem dX0_unitsUpToNow_43 : decode cX0_unitsUpToNow 43 = .ok (.ireturn, 1) := by decide +kernel
theorem dX0_usageOfUser_0 : decode cX0_usageOfUser 0 = .ok (.iconst 0, 1) := by decide +kernel
theorem dX0_usageOfUser_1 : decode cX0_usageOfUser 1 = .ok (.istore_n 2, 1) := by decide +kernel
theorem dX0_usageOfUser_2 : decode cX0_usageOfUser 2 = .ok (.iconst 0, 1) := by decide +kernel
theorem dX0_usageOfUser_3 : decode cX0_usageOfUser 3 = .ok (.istore_n 3, 1) := by decide +kernel
theorem dX0_usageOfUser_4 : decode cX0_usageOfUser 4 = .ok (.iload_n 3, 1) := by decide +kernel
theorem dX0_usageOfUser_5 : decode cX0_usageOfUser 5 = .ok (.aload_n 0, 1) := by decide +kernel
theorem dX0_usageOfUser_6 : decode cX0_usageOfUser 6 = .ok (.getfield 21, 3) := by decide +kernel
theorem dX0_usageOfUser_9 : decode cX0_usageOfUser 9 = .ok (.getfield 109, 3) := by decide +kernel
theorem dX0_usageOfUser_12 : decode cX0_usageOfUser 12 = .ok (.if_icmp .ge 40, 3) := by decide +kernel
theorem dX0_usageOfUser_15 : decode cX0_usageOfUser 15 = .ok (.aload_n 0, 1) := by decide +kernel
theorem dX0_usageOfUser_16 : decode cX0_usageOfUser 16 = .ok (.getfield 21, 3) := by decide +kernel
theorem dX0_usageOfUser_19 : decode cX0_usageOfUser 19 = .ok (.getfield 138, 3) := by decide +kernel
theorem dX0_usageOfUser_22 : decode cX0_usageOfUser 22 = .ok (.iload_n 3, 1) := by decide +kernel
theorem dX0_usageOfUser_23 : decode cX0_usageOfUser 23 = .ok (.iaload, 1) := by decide +kernel
theorem dX0_usageOfUser_24 : decode cX0_usageOfUser 24 = .ok (.iload_n 1, 1) := by decide +kernel
theorem dX0_usageOfUser_25 : decode cX0_usageOfUser 25 = .ok (.if_icmp .ne 21, 3) := by decide +kernel
theorem dX0_usageOfUser_28 : decode cX0_usageOfUser 28 = .ok (.iload_n 2, 1) := by decide +kernel
theorem dX0_usageOfUser_29 : decode cX0_usageOfUser 29 = .ok (.aload_n 0, 1) := by decide +kernel
theorem dX0_usageOfUser_30 : decode cX0_usageOfUser 30 = .ok (.iload_n 3, 1) := by decide +kernel
theorem dX0_usageOfUser_31 : decode cX0_usageOfUser 31 = .ok (.invokevirtual 135, 3) := by decide +kernel
theorem dX0_usageOfUser_34 : decode cX0_usageOfUser 34 = .ok (.aload_n 0, 1) := by decide +kernel
theorem dX0_usageOfUser_35 : decode cX0_usageOfUser 35 = .ok (.getfield 21, 3) := by decide +kernel
theorem dX0_usageOfUser_38 : decode cX0_usageOfUser 38 = .ok (.getfield 122, 3) := by decide +kernel
theorem dX0_usageOfUser_41 : decode cX0_usageOfUser 41 = .ok (.iload_n 3, 1) := by decide +kernel
theorem dX0_usageOfUser_42 : decode cX0_usageOfUser 42 = .ok (.iaload, 1) := by decide +kernel
theorem dX0_usageOfUser_43 : decode cX0_usageOfUser 43 = .ok (.ishl, 1) := by decide +kernel
theorem dX0_usageOfUser_44 : decode cX0_usageOfUser 44 = .ok (.iadd, 1) := by decide +kernel
theorem dX0_usageOfUser_45 : decode cX0_usageOfUser 45 = .ok (.istore_n 2, 1) := by decide +kernel
theorem dX0_usageOfUser_46 : decode cX0_usageOfUser 46 = .ok (.iinc 3 1, 3) := by decide +kernel
theorem dX0_usageOfUser_49 : decode cX0_usageOfUser 49 = .ok (.goto (-45), 3) := by decide +kernel
theorem dX0_usageOfUser_52 : decode cX0_usageOfUser 52 = .ok (.iload_n 2, 1) := by decide +kernel
theorem dX0_usageOfUser_53 : decode cX0_usageOfUser 53 = .ok (.ireturn, 1) := by decide +kernel
theorem dX0_plan_0 : decode cX0_plan 0 = .ok (.aload_n 0, 1) := by decide +kernel
theorem dX0_plan_1 : decode cX0_plan 1 = .ok (.getfield 21, 3) := by decide +kernel
theorem dX0_plan_4 : decode cX0_plan 4 = .ok (.getfield 122, 3) := by decide +kernel
theorem dX0_plan_7 : decode cX0_plan 7 = .ok (.iload_n 1, 1) := by decide +kernel
theorem dX0_plan_8 : decode cX0_plan 8 = .ok (.iaload, 1) := by decide +kernel
theorem dX0_plan_9 : decode cX0_plan 9 = .ok (.istore_n 2, 1) := by decide +kernel
theorem dX0_plan_10 : decode cX0_plan 10 = .ok (.aload_n 0, 1) := by decide +kernel
theorem dX0_plan_11 : decode cX0_plan 11 = .ok (.getfield 21, 3) := by decide +kernel
theorem dX0_plan_14 : decode cX0_plan 14 = .ok (.getfield 85, 3) := by decide +kernel
theorem dX0_plan_17 : decode cX0_plan 17 = .ok (.iload_n 1, 1) := by decide +kernel
theorem dX0_plan_18 : decode cX0_plan 18 = .ok (.iaload, 1) := by decide +kernel
theorem dX0_plan_19 : decode cX0_plan 19 = .ok (.istore_n 3, 1) := by decide +kernel
theorem dX0_plan_20 : decode cX0_plan 20 = .ok (.aload_n 0, 1) := by decide +kernel
theorem dX0_plan_21 : decode cX0_plan 21 = .ok (.getfield 12, 3) := by decide +kernel
theorem dX0_plan_24 : decode cX0_plan 24 = .ok (.iload_n 2, 1) := by decide +kernel
theorem dX0_plan_25 : decode cX0_plan 25 = .ok (.aload_n 0, 1) := by decide +kernel
theorem dX0_plan_26 : decode cX0_plan 26 = .ok (.getfield 36, 3) := by decide +kernel
theorem dX0_plan_29 : decode cX0_plan 29 = .ok (.iload_n 3, 1) := by decide +kernel
theorem dX0_plan_30 : decode cX0_plan 30 = .ok (.invokevirtual 141, 3) := by decide +kernel
theorem dX0_plan_33 : decode cX0_plan 33 = .ok (.istore 4, 2) := by decide +kernel
theorem dX0_plan_35 : decode cX0_plan 35 = .ok (.aload_n 0, 1) := by decide +kernel
theorem dX0_plan_36 : decode cX0_plan 36 = .ok (.getfield 12, 3) := by decide +kernel
theorem dX0_plan_39 : decode cX0_plan 39 = .ok (.iload_n 1, 1) := by decide +kernel
theorem dX0_plan_40 : decode cX0_plan 40 = .ok (.iload_n 2, 1) := by decide +kernel
theorem dX0_plan_41 : decode cX0_plan 41 = .ok (.aload_n 0, 1) := by decide +kernel
theorem dX0_plan_42 : decode cX0_plan 42 = .ok (.getfield 12, 3) := by decide +kernel
theorem dX0_plan_45 : decode cX0_plan 45 = .ok (.iload_n 2, 1) := by decide +kernel
theorem dX0_plan_46 : decode cX0_plan 46 = .ok (.iload 4, 2) := by decide +kernel
theorem dX0_plan_48 : decode cX0_plan 48 = .ok (.iload_n 3, 1) := by decide +kernel
theorem dX0_plan_49 : decode cX0_plan 49 = .ok (.invokevirtual 97, 3) := by decide +kernel
theorem dX0_plan_52 : decode cX0_plan 52 = .ok (.iload 4, 2) := by decide +kernel
theorem dX0_plan_54 : decode cX0_plan 54 = .ok (.iload_n 3, 1) := by decide +kernel
theorem dX0_plan_55 : decode cX0_plan 55 = .ok (.invokevirtual 101, 3) := by decide +kernel
theorem dX0_plan_58 : decode cX0_plan 58 = .ok (.iload 4, 2) := by decide +kernel
theorem dX0_plan_60 : decode cX0_plan 60 = .ok (.ireturn, 1) := by decide +kernel
theorem dX0_replan_0 : decode cX0_replan 0 = .ok (.aload_n 0, 1) := by decide +kernel
theorem dX0_replan_1 : decode cX0_replan 1 = .ok (.invokevirtual 144, 3) := by decide +kernel
theorem dX0_replan_4 : decode cX0_replan 4 = .ok (.istore_n 1, 1) := by decide +kernel
theorem dX0_replan_5 : decode cX0_replan 5 = .ok (.iconst 0, 1) := by decide +kernel
theorem dX0_replan_6 : decode cX0_replan 6 = .ok (.istore_n 2, 1) := by decide +kernel
theorem dX0_replan_7 : decode cX0_replan 7 = .ok (.iload_n 2, 1) := by decide +kernel
theorem dX0_replan_8 : decode cX0_replan 8 = .ok (.iload_n 1, 1) := by decide +kernel
theorem dX0_replan_9 : decode cX0_replan 9 = .ok (.if_icmp .ge 58, 3) := by decide +kernel
theorem dX0_replan_12 : decode cX0_replan 12 = .ok (.aload_n 0, 1) := by decide +kernel
theorem dX0_replan_13 : decode cX0_replan 13 = .ok (.getfield 47, 3) := by decide +kernel
theorem dX0_replan_16 : decode cX0_replan 16 = .ok (.iload_n 2, 1) := by decide +kernel
theorem dX0_replan_17 : decode cX0_replan 17 = .ok (.iaload, 1) := by decide +kernel
theorem dX0_replan_18 : decode cX0_replan 18 = .ok (.istore_n 3, 1) := by decide +kernel
theorem dX0_replan_19 : decode cX0_replan 19 = .ok (.aload_n 0, 1) := by decide +kernel
theorem dX0_replan_20 : decode cX0_replan 20 = .ok (.getfield 12, 3) := by decide +kernel
theorem dX0_replan_23 : decode cX0_replan 23 = .ok (.getfield 82, 3) := by decide +kernel
theorem dX0_replan_26 : decode cX0_replan 26 = .ok (.iload_n 3, 1) := by decide +kernel
theorem dX0_replan_27 : decode cX0_replan 27 = .ok (.iaload, 1) := by decide +kernel
theorem dX0_replan_28 : decode cX0_replan 28 = .ok (.istore 4, 2) := by decide +kernel
theorem dX0_replan_30 : decode cX0_replan 30 = .ok (.aload_n 0, 1) := by decide +kernel
theorem dX0_replan_31 : decode cX0_replan 31 = .ok (.getfield 12, 3) := by decide +kernel
theorem dX0_replan_34 : decode cX0_replan 34 = .ok (.iload_n 3, 1) := by decide +kernel
theorem dX0_replan_35 : decode cX0_replan 35 = .ok (.invokevirtual 75, 3) := by decide +kernel
theorem dX0_replan_38 : decode cX0_replan 38 = .ok (.aload_n 0, 1) := by decide +kernel
theorem dX0_replan_39 : decode cX0_replan 39 = .ok (.iload_n 3, 1) := by decide +kernel
theorem dX0_replan_40 : decode cX0_replan 40 = .ok (.invokevirtual 64, 3) := by decide +kernel
theorem dX0_replan_43 : decode cX0_replan 43 = .ok (.iload 4, 2) := by decide +kernel
theorem dX0_replan_45 : decode cX0_replan 45 = .ok (.if_icmp .ge 16, 3) := by decide +kernel
theorem dX0_replan_48 : decode cX0_replan 48 = .ok (.aload_n 0, 1) := by decide +kernel
theorem dX0_replan_49 : decode cX0_replan 49 = .ok (.getfield 28, 3) := by decide +kernel
theorem dX0_replan_52 : decode cX0_replan 52 = .ok (.aload_n 0, 1) := by decide +kernel
theorem dX0_replan_53 : decode cX0_replan 53 = .ok (.getfield 36, 3) := by decide +kernel
theorem dX0_replan_56 : decode cX0_replan 56 = .ok (.iconst 5, 1) := by decide +kernel
theorem dX0_replan_57 : decode cX0_replan 57 = .ok (.iload_n 3, 1) := by decide +kernel
theorem dX0_replan_58 : decode cX0_replan 58 = .ok (.invokevirtual 57, 3) := by decide +kernel
theorem dX0_replan_61 : decode cX0_replan 61 = .ok (.iinc 2 1, 3) := by decide +kernel
theorem dX0_replan_64 : decode cX0_replan 64 = .ok (.goto (-57), 3) := by decide +kernel
theorem dX0_replan_67 : decode cX0_replan 67 = .ok (.return_, 1) := by decide +kernel
theorem dX0_queueWaiting_0 : decode cX0_queueWaiting 0 = .ok (.iconst 0, 1) := by decide +kernel
theorem dX0_queueWaiting_1 : decode cX0_queueWaiting 1 = .ok (.istore_n 1, 1) := by decide +kernel
theorem dX0_queueWaiting_2 : decode cX0_queueWaiting 2 = .ok (.iload_n 1, 1) := by decide +kernel
theorem dX0_queueWaiting_3 : decode cX0_queueWaiting 3 = .ok (.iconst 4, 1) := by decide +kernel
theorem dX0_queueWaiting_4 : decode cX0_queueWaiting 4 = .ok (.if_icmp .ge 31, 3) := by decide +kernel
theorem dX0_queueWaiting_7 : decode cX0_queueWaiting 7 = .ok (.aload_n 0, 1) := by decide +kernel
theorem dX0_queueWaiting_8 : decode cX0_queueWaiting 8 = .ok (.getfield 50, 3) := by decide +kernel
theorem dX0_queueWaiting_11 : decode cX0_queueWaiting 11 = .ok (.iload_n 1, 1) := by decide +kernel
theorem dX0_queueWaiting_12 : decode cX0_queueWaiting 12 = .ok (.aload_n 0, 1) := by decide +kernel
theorem dX0_queueWaiting_13 : decode cX0_queueWaiting 13 = .ok (.getfield 43, 3) := by decide +kernel
theorem dX0_queueWaiting_16 : decode cX0_queueWaiting 16 = .ok (.ifCond .eq 11, 3) := by decide +kernel
theorem dX0_queueWaiting_19 : decode cX0_queueWaiting 19 = .ok (.aload_n 0, 1) := by decide +kernel
theorem dX0_queueWaiting_20 : decode cX0_queueWaiting 20 = .ok (.iload_n 1, 1) := by decide +kernel
theorem dX0_queueWaiting_21 : decode cX0_queueWaiting 21 = .ok (.invokevirtual 147, 3) := by decide +kernel
theorem dX0_queueWaiting_24 : decode cX0_queueWaiting 24 = .ok (.goto 4, 3) := by decide +kernel
theorem dX0_queueWaiting_27 : decode cX0_queueWaiting 27 = .ok (.iconst 0, 1) := by decide +kernel
theorem dX0_queueWaiting_28 : decode cX0_queueWaiting 28 = .ok (.iastore, 1) := by decide +kernel
theorem dX0_queueWaiting_29 : decode cX0_queueWaiting 29 = .ok (.iinc 1 1, 3) := by decide +kernel
theorem dX0_queueWaiting_32 : decode cX0_queueWaiting 32 = .ok (.goto (-30), 3) := by decide +kernel
theorem dX0_queueWaiting_35 : decode cX0_queueWaiting 35 = .ok (.iconst 0, 1) := by decide +kernel
theorem dX0_queueWaiting_36 : decode cX0_queueWaiting 36 = .ok (.istore_n 1, 1) := by decide +kernel
theorem dX0_queueWaiting_37 : decode cX0_queueWaiting 37 = .ok (.iconst 0, 1) := by decide +kernel
theorem dX0_queueWaiting_38 : decode cX0_queueWaiting 38 = .ok (.istore_n 2, 1) := by decide +kernel
theorem dX0_queueWaiting_39 : decode cX0_queueWaiting 39 = .ok (.iload_n 2, 1) := by decide +kernel
theorem dX0_queueWaiting_40 : decode cX0_queueWaiting 40 = .ok (.aload_n 0, 1) := by decide +kernel
theorem dX0_queueWaiting_41 : decode cX0_queueWaiting 41 = .ok (.getfield 21, 3) := by decide +kernel
theorem dX0_queueWaiting_44 : decode cX0_queueWaiting 44 = .ok (.getfield 109, 3) := by decide +kernel
theorem dX0_queueWaiting_47 : decode cX0_queueWaiting 47 = .ok (.if_icmp .ge 30, 3) := by decide +kernel
theorem dX0_queueWaiting_50 : decode cX0_queueWaiting 50 = .ok (.aload_n 0, 1) := by decide +kernel
theorem dX0_queueWaiting_51 : decode cX0_queueWaiting 51 = .ok (.getfield 21, 3) := by decide +kernel
theorem dX0_queueWaiting_54 : decode cX0_queueWaiting 54 = .ok (.getfield 94, 3) := by decide +kernel
theorem dX0_queueWaiting_57 : decode cX0_queueWaiting 57 = .ok (.iload_n 2, 1) := by decide +kernel
theorem dX0_queueWaiting_58 : decode cX0_queueWaiting 58 = .ok (.iaload, 1) := by decide +kernel
theorem dX0_queueWaiting_59 : decode cX0_queueWaiting 59 = .ok (.ifCond .ne 12, 3) := by decide +kernel
theorem dX0_queueWaiting_62 : decode cX0_queueWaiting 62 = .ok (.aload_n 0, 1) := by decide +kernel
theorem dX0_queueWaiting_63 : decode cX0_queueWaiting 63 = .ok (.iload_n 2, 1) := by decide +kernel
theorem dX0_queueWaiting_64 : decode cX0_queueWaiting 64 = .ok (.iload_n 1, 1) := by decide +kernel
theorem dX0_queueWaiting_65 : decode cX0_queueWaiting 65 = .ok (.invokevirtual 150, 3) := by decide +kernel
theorem dX0_queueWaiting_68 : decode cX0_queueWaiting 68 = .ok (.iinc 1 1, 3) := by decide +kernel
theorem dX0_queueWaiting_71 : decode cX0_queueWaiting 71 = .ok (.iinc 2 1, 3) := by decide +kernel
theorem dX0_queueWaiting_74 : decode cX0_queueWaiting 74 = .ok (.goto (-35), 3) := by decide +kernel
theorem dX0_queueWaiting_77 : decode cX0_queueWaiting 77 = .ok (.iload_n 1, 1) := by decide +kernel
theorem dX0_queueWaiting_78 : decode cX0_queueWaiting 78 = .ok (.ireturn, 1) := by decide +kernel
theorem dX0_insertIntoQueue_0 : decode cX0_insertIntoQueue 0 = .ok (.iload_n 2, 1) := by decide +kernel
theorem dX0_insertIntoQueue_1 : decode cX0_insertIntoQueue 1 = .ok (.istore_n 3, 1) := by decide +kernel
theorem dX0_insertIntoQueue_2 : decode cX0_insertIntoQueue 2 = .ok (.iload_n 3, 1) := by decide +kernel
theorem dX0_insertIntoQueue_3 : decode cX0_insertIntoQueue 3 = .ok (.ifCond .le 39, 3) := by decide +kernel
theorem dX0_insertIntoQueue_6 : decode cX0_insertIntoQueue 6 = .ok (.aload_n 0, 1) := by decide +kernel
theorem dX0_insertIntoQueue_7 : decode cX0_insertIntoQueue 7 = .ok (.iload_n 1, 1) := by decide +kernel
theorem dX0_insertIntoQueue_8 : decode cX0_insertIntoQueue 8 = .ok (.aload_n 0, 1) := by decide +kernel
theorem dX0_insertIntoQueue_9 : decode cX0_insertIntoQueue 9 = .ok (.getfield 47, 3) := by decide +kernel
theorem dX0_insertIntoQueue_12 : decode cX0_insertIntoQueue 12 = .ok (.iload_n 3, 1) := by decide +kernel
theorem dX0_insertIntoQueue_13 : decode cX0_insertIntoQueue 13 = .ok (.iconst 1, 1) := by decide +kernel
theorem dX0_insertIntoQueue_14 : decode cX0_insertIntoQueue 14 = .ok (.isub, 1) := by decide +kernel
theorem dX0_insertIntoQueue_15 : decode cX0_insertIntoQueue 15 = .ok (.iaload, 1) := by decide +kernel
theorem dX0_insertIntoQueue_16 : decode cX0_insertIntoQueue 16 = .ok (.invokevirtual 153, 3) := by decide +kernel
theorem dX0_insertIntoQueue_19 : decode cX0_insertIntoQueue 19 = .ok (.ifCond .eq 23, 3) := by decide +kernel
theorem dX0_insertIntoQueue_22 : decode cX0_insertIntoQueue 22 = .ok (.aload_n 0, 1) := by decide +kernel
theorem dX0_insertIntoQueue_23 : decode cX0_insertIntoQueue 23 = .ok (.getfield 47, 3) := by decide +kernel
theorem dX0_insertIntoQueue_26 : decode cX0_insertIntoQueue 26 = .ok (.iload_n 3, 1) := by decide +kernel
theorem dX0_insertIntoQueue_27 : decode cX0_insertIntoQueue 27 = .ok (.aload_n 0, 1) := by decide +kernel
theorem dX0_insertIntoQueue_28 : decode cX0_insertIntoQueue 28 = .ok (.getfield 47, 3) := by decide +kernel
theorem dX0_insertIntoQueue_31 : decode cX0_insertIntoQueue 31 = .ok (.iload_n 3, 1) := by decide +kernel
theorem dX0_insertIntoQueue_32 : decode cX0_insertIntoQueue 32 = .ok (.iconst 1, 1) := by decide +kernel
theorem dX0_insertIntoQueue_33 : decode cX0_insertIntoQueue 33 = .ok (.isub, 1) := by decide +kernel
theorem dX0_insertIntoQueue_34 : decode cX0_insertIntoQueue 34 = .ok (.iaload, 1) := by decide +kernel
theorem dX0_insertIntoQueue_35 : decode cX0_insertIntoQueue 35 = .ok (.iastore, 1) := by decide +kernel
theorem dX0_insertIntoQueue_36 : decode cX0_insertIntoQueue 36 = .ok (.iinc 3 (-1), 3) := by decide +kernel
theorem dX0_insertIntoQueue_39 : decode cX0_insertIntoQueue 39 = .ok (.goto (-37), 3) := by decide +kernel
theorem dX0_insertIntoQueue_42 : decode cX0_insertIntoQueue 42 = .ok (.aload_n 0, 1) := by decide +kernel
theorem dX0_insertIntoQueue_43 : decode cX0_insertIntoQueue 43 = .ok (.getfield 47, 3) := by decide +kernel
theorem dX0_insertIntoQueue_46 : decode cX0_insertIntoQueue 46 = .ok (.iload_n 3, 1) := by decide +kernel
theorem dX0_insertIntoQueue_47 : decode cX0_insertIntoQueue 47 = .ok (.iload_n 1, 1) := by decide +kernel
theorem dX0_insertIntoQueue_48 : decode cX0_insertIntoQueue 48 = .ok (.iastore, 1) := by decide +kernel
theorem dX0_insertIntoQueue_49 : decode cX0_insertIntoQueue 49 = .ok (.return_, 1) := by decide +kernel
theorem dX0_goesBefore_0 : decode cX0_goesBefore 0 = .ok (.aload_n 0, 1) := by decide +kernel
theorem dX0_goesBefore_1 : decode cX0_goesBefore 1 = .ok (.getfield 50, 3) := by decide +kernel
theorem dX0_goesBefore_4 : decode cX0_goesBefore 4 = .ok (.aload_n 0, 1) := by decide +kernel
theorem dX0_goesBefore_5 : decode cX0_goesBefore 5 = .ok (.getfield 21, 3) := by decide +kernel
theorem dX0_goesBefore_8 : decode cX0_goesBefore 8 = .ok (.getfield 138, 3) := by decide +kernel
theorem dX0_goesBefore_11 : decode cX0_goesBefore 11 = .ok (.iload_n 1, 1) := by decide +kernel
theorem dX0_goesBefore_12 : decode cX0_goesBefore 12 = .ok (.iaload, 1) := by decide +kernel
theorem dX0_goesBefore_13 : decode cX0_goesBefore 13 = .ok (.iaload, 1) := by decide +kernel
theorem dX0_goesBefore_14 : decode cX0_goesBefore 14 = .ok (.istore_n 3, 1) := by decide +kernel
theorem dX0_goesBefore_15 : decode cX0_goesBefore 15 = .ok (.aload_n 0, 1) := by decide +kernel
theorem dX0_goesBefore_16 : decode cX0_goesBefore 16 = .ok (.getfield 50, 3) := by decide +kernel
theorem dX0_goesBefore_19 : decode cX0_goesBefore 19 = .ok (.aload_n 0, 1) := by decide +kernel
theorem dX0_goesBefore_20 : decode cX0_goesBefore 20 = .ok (.getfield 21, 3) := by decide +kernel
theorem dX0_goesBefore_23 : decode cX0_goesBefore 23 = .ok (.getfield 138, 3) := by decide +kernel
theorem dX0_goesBefore_26 : decode cX0_goesBefore 26 = .ok (.iload_n 2, 1) := by decide +kernel
theorem dX0_goesBefore_27 : decode cX0_goesBefore 27 = .ok (.iaload, 1) := by decide +kernel
theorem dX0_goesBefore_28 : decode cX0_goesBefore 28 = .ok (.iaload, 1) := by decide +kernel
theorem dX0_goesBefore_29 : decode cX0_goesBefore 29 = .ok (.istore 4, 2) := by decide +kernel
theorem dX0_goesBefore_31 : decode cX0_goesBefore 31 = .ok (.iload_n 3, 1) := by decide +kernel
theorem dX0_goesBefore_32 : decode cX0_goesBefore 32 = .ok (.iload 4, 2) := by decide +kernel
theorem dX0_goesBefore_34 : decode cX0_goesBefore 34 = .ok (.if_icmp .eq 15, 3) := by decide +kernel
theorem dX0_goesBefore_37 : decode cX0_goesBefore 37 = .ok (.iload_n 3, 1) := by decide +kernel
theorem dX0_goesBefore_38 : decode cX0_goesBefore 38 = .ok (.iload 4, 2) := by decide +kernel
theorem dX0_goesBefore_40 : decode cX0_goesBefore 40 = .ok (.if_icmp .ge 7, 3) := by decide +kernel
theorem dX0_goesBefore_43 : decode cX0_goesBefore 43 = .ok (.iconst 1, 1) := by decide +kernel
theorem dX0_goesBefore_44 : decode cX0_goesBefore 44 = .ok (.goto 4, 3) := by decide +kernel
theorem dX0_goesBefore_47 : decode cX0_goesBefore 47 = .ok (.iconst 0, 1) := by decide +kernel
theorem dX0_goesBefore_48 : decode cX0_goesBefore 48 = .ok (.ireturn, 1) := by decide +kernel
theorem dX0_goesBefore_49 : decode cX0_goesBefore 49 = .ok (.aload_n 0, 1) := by decide +kernel
theorem dX0_goesBefore_50 : decode cX0_goesBefore 50 = .ok (.getfield 12, 3) := by decide +kernel
theorem dX0_goesBefore_53 : decode cX0_goesBefore 53 = .ok (.getfield 82, 3) := by decide +kernel
theorem dX0_goesBefore_56 : decode cX0_goesBefore 56 = .ok (.iload_n 1, 1) := by decide +kernel
theorem dX0_goesBefore_57 : decode cX0_goesBefore 57 = .ok (.iaload, 1) := by decide +kernel
theorem dX0_goesBefore_58 : decode cX0_goesBefore 58 = .ok (.aload_n 0, 1) := by decide +kernel
theorem dX0_goesBefore_59 : decode cX0_goesBefore 59 = .ok (.getfield 12, 3) := by decide +kernel
theorem dX0_goesBefore_62 : decode cX0_goesBefore 62 = .ok (.getfield 82, 3) := by decide +kernel
theorem dX0_goesBefore_65 : decode cX0_goesBefore 65 = .ok (.iload_n 2, 1) := by decide +kernel
theorem dX0_goesBefore_66 : decode cX0_goesBefore 66 = .ok (.iaload, 1) := by decide +kernel
theorem dX0_goesBefore_67 : decode cX0_goesBefore 67 = .ok (.if_icmp .ge 7, 3) := by decide +kernel
theorem dX0_goesBefore_70 : decode cX0_goesBefore 70 = .ok (.iconst 1, 1) := by decide +kernel
theorem dX0_goesBefore_71 : decode cX0_goesBefore 71 = .ok (.goto 4, 3) := by decide +kernel
theorem dX0_goesBefore_74 : decode cX0_goesBefore 74 = .ok (.iconst 0, 1) := by decide +kernel
theorem dX0_goesBefore_75 : decode cX0_goesBefore 75 = .ok (.ireturn, 1) := by decide +kernel
theorem dX0_copyFrom_0 : decode cX0_copyFrom 0 = .ok (.aload_n 0, 1) := by decide +kernel
theorem dX0_copyFrom_1 : decode cX0_copyFrom 1 = .ok (.getfield 12, 3) := by decide +kernel
theorem dX0_copyFrom_4 : decode cX0_copyFrom 4 = .ok (.aload_n 1, 1) := by decide +kernel
theorem dX0_copyFrom_5 : decode cX0_copyFrom 5 = .ok (.getfield 12, 3) := by decide +kernel
theorem dX0_copyFrom_8 : decode cX0_copyFrom 8 = .ok (.invokevirtual 157, 3) := by decide +kernel
theorem dX0_copyFrom_11 : decode cX0_copyFrom 11 = .ok (.aload_n 0, 1) := by decide +kernel
theorem dX0_copyFrom_12 : decode cX0_copyFrom 12 = .ok (.getfield 21, 3) := by decide +kernel
theorem dX0_copyFrom_15 : decode cX0_copyFrom 15 = .ok (.aload_n 1, 1) := by decide +kernel
theorem dX0_copyFrom_16 : decode cX0_copyFrom 16 = .ok (.getfield 21, 3) := by decide +kernel
theorem dX0_copyFrom_19 : decode cX0_copyFrom 19 = .ok (.invokevirtual 161, 3) := by decide +kernel
theorem dX0_copyFrom_22 : decode cX0_copyFrom 22 = .ok (.aload_n 0, 1) := by decide +kernel
theorem dX0_copyFrom_23 : decode cX0_copyFrom 23 = .ok (.getfield 28, 3) := by decide +kernel
theorem dX0_copyFrom_26 : decode cX0_copyFrom 26 = .ok (.aload_n 1, 1) := by decide +kernel
theorem dX0_copyFrom_27 : decode cX0_copyFrom 27 = .ok (.getfield 28, 3) := by decide +kernel
theorem dX0_copyFrom_30 : decode cX0_copyFrom 30 = .ok (.invokevirtual 164, 3) := by decide +kernel
theorem dX0_copyFrom_33 : decode cX0_copyFrom 33 = .ok (.aload_n 1, 1) := by decide +kernel
theorem dX0_copyFrom_34 : decode cX0_copyFrom 34 = .ok (.getfield 32, 3) := by decide +kernel
theorem dX0_copyFrom_37 : decode cX0_copyFrom 37 = .ok (.iconst 0, 1) := by decide +kernel
theorem dX0_copyFrom_38 : decode cX0_copyFrom 38 = .ok (.aload_n 0, 1) := by decide +kernel
theorem dX0_copyFrom_39 : decode cX0_copyFrom 39 = .ok (.getfield 32, 3) := by decide +kernel
theorem dX0_copyFrom_42 : decode cX0_copyFrom 42 = .ok (.iconst 0, 1) := by decide +kernel
theorem dX0_copyFrom_43 : decode cX0_copyFrom 43 = .ok (.aload_n 0, 1) := by decide +kernel
theorem dX0_copyFrom_44 : decode cX0_copyFrom 44 = .ok (.getfield 32, 3) := by decide +kernel
theorem dX0_copyFrom_47 : decode cX0_copyFrom 47 = .ok (.arraylength, 1) := by decide +kernel
theorem dX0_copyFrom_48 : decode cX0_copyFrom 48 = .ok (.invokestatic 167, 3) := by decide +kernel
theorem dX0_copyFrom_51 : decode cX0_copyFrom 51 = .ok (.aload_n 0, 1) := by decide +kernel
theorem dX0_copyFrom_52 : decode cX0_copyFrom 52 = .ok (.aload_n 1, 1) := by decide +kernel
theorem dX0_copyFrom_53 : decode cX0_copyFrom 53 = .ok (.getfield 36, 3) := by decide +kernel
theorem dX0_copyFrom_56 : decode cX0_copyFrom 56 = .ok (.putfield 36, 3) := by decide +kernel
theorem dX0_copyFrom_59 : decode cX0_copyFrom 59 = .ok (.aload_n 0, 1) := by decide +kernel
theorem dX0_copyFrom_60 : decode cX0_copyFrom 60 = .ok (.aload_n 1, 1) := by decide +kernel
theorem dX0_copyFrom_61 : decode cX0_copyFrom 61 = .ok (.getfield 40, 3) := by decide +kernel
theorem dX0_copyFrom_64 : decode cX0_copyFrom 64 = .ok (.putfield 40, 3) := by decide +kernel
theorem dX0_copyFrom_67 : decode cX0_copyFrom 67 = .ok (.aload_n 0, 1) := by decide +kernel
theorem dX0_copyFrom_68 : decode cX0_copyFrom 68 = .ok (.aload_n 1, 1) := by decide +kernel
theorem dX0_copyFrom_69 : decode cX0_copyFrom 69 = .ok (.getfield 43, 3) := by decide +kernel
theorem dX0_copyFrom_72 : decode cX0_copyFrom 72 = .ok (.putfield 43, 3) := by decide +kernel
theorem dX0_copyFrom_75 : decode cX0_copyFrom 75 = .ok (.return_, 1) := by decide +kernel
theorem dX1_init_0 : decode cX1_init 0 = .ok (.aload_n 0, 1) := by decide +kernel
theorem dX1_init_1 : decode cX1_init 1 = .ok (.invokespecial 3, 3) := by decide +kernel
theorem dX1_init_4 : decode cX1_init 4 = .ok (.aload_n 0, 1) := by decide +kernel
theorem dX1_init_5 : decode cX1_init 5 = .ok (.iconst 0, 1) := by decide +kernel
theorem dX1_init_6 : decode cX1_init 6 = .ok (.putfield 9, 3) := by decide +kernel
theorem dX1_init_9 : decode cX1_init 9 = .ok (.aload_n 0, 1) := by decide +kernel
theorem dX1_init_10 : decode cX1_init 10 = .ok (.iconst 0, 1) := by decide +kernel
theorem dX1_init_11 : decode cX1_init 11 = .ok (.putfield 15, 3) := by decide +kernel
theorem dX1_init_14 : decode cX1_init 14 = .ok (.aload_n 0, 1) := by decide +kernel
theorem dX1_init_15 : decode cX1_init 15 = .ok (.bipush 60, 2) := by decide +kernel
theorem dX1_init_17 : decode cX1_init 17 = .ok (.newarray .int, 2) := by decide +kernel
theorem dX1_init_19 : decode cX1_init 19 = .ok (.putfield 18, 3) := by decide +kernel
theorem dX1_init_22 : decode cX1_init 22 = .ok (.aload_n 0, 1) := by decide +kernel
theorem dX1_init_23 : decode cX1_init 23 = .ok (.bipush 60, 2) := by decide +kernel
theorem dX1_init_25 : decode cX1_init 25 = .ok (.newarray .int, 2) := by decide +kernel
theorem dX1_init_27 : decode cX1_init 27 = .ok (.putfield 22, 3) := by decide +kernel
theorem dX1_init_30 : decode cX1_init 30 = .ok (.aload_n 0, 1) := by decide +kernel
theorem dX1_init_31 : decode cX1_init 31 = .ok (.bipush 60, 2) := by decide +kernel
theorem dX1_init_33 : decode cX1_init 33 = .ok (.newarray .int, 2) := by decide +kernel
theorem dX1_init_35 : decode cX1_init 35 = .ok (.putfield 25, 3) := by decide +kernel
theorem dX1_init_38 : decode cX1_init 38 = .ok (.return_, 1) := by decide +kernel
theorem dX1_note_0 : decode cX1_note 0 = .ok (.aload_n 0, 1) := by decide +kernel
theorem dX1_note_1 : decode cX1_note 1 = .ok (.getfield 15, 3) := by decide +kernel
theorem dX1_note_4 : decode cX1_note 4 = .ok (.aload_n 0, 1) := by decide +kernel
theorem dX1_note_5 : decode cX1_note 5 = .ok (.getfield 9, 3) := by decide +kernel
theorem dX1_note_8 : decode cX1_note 8 = .ok (.iadd, 1) := by decide +kernel
theorem dX1_note_9 : decode cX1_note 9 = .ok (.bipush 60, 2) := by decide +kernel
theorem dX1_note_11 : decode cX1_note 11 = .ok (.irem, 1) := by decide +kernel
theorem dX1_note_12 : decode cX1_note 12 = .ok (.istore 4, 2) := by decide +kernel
theorem dX1_note_14 : decode cX1_note 14 = .ok (.aload_n 0, 1) := by decide +kernel
theorem dX1_note_15 : decode cX1_note 15 = .ok (.getfield 18, 3) := by decide +kernel
theorem dX1_note_18 : decode cX1_note 18 = .ok (.iload 4, 2) := by decide +kernel
theorem dX1_note_20 : decode cX1_note 20 = .ok (.iload_n 1, 1) := by decide +kernel
theorem dX1_note_21 : decode cX1_note 21 = .ok (.iastore, 1) := by decide +kernel
theorem dX1_note_22 : decode cX1_note 22 = .ok (.aload_n 0, 1) := by decide +kernel
theorem dX1_note_23 : decode cX1_note 23 = .ok (.getfield 22, 3) := by decide +kernel
theorem dX1_note_26 : decode cX1_note 26 = .ok (.iload 4, 2) := by decide +kernel
theorem dX1_note_28 : decode cX1_note 28 = .ok (.iload_n 2, 1) := by decide +kernel
theorem dX1_note_29 : decode cX1_note 29 = .ok (.iastore, 1) := by decide +kernel
theorem dX1_note_30 : decode cX1_note 30 = .ok (.aload_n 0, 1) := by decide +kernel
theorem dX1_note_31 : decode cX1_note 31 = .ok (.getfield 25, 3) := by decide +kernel
theorem dX1_note_34 : decode cX1_note 34 = .ok (.iload 4, 2) := by decide +kernel
theorem dX1_note_36 : decode cX1_note 36 = .ok (.iload_n 3, 1) := by decide +kernel
theorem dX1_note_37 : decode cX1_note 37 = .ok (.iastore, 1) := by decide +kernel
theorem dX1_note_38 : decode cX1_note 38 = .ok (.aload_n 0, 1) := by decide +kernel
theorem dX1_note_39 : decode cX1_note 39 = .ok (.getfield 9, 3) := by decide +kernel
theorem dX1_note_42 : decode cX1_note 42 = .ok (.bipush 60, 2) := by decide +kernel
theorem dX1_note_44 : decode cX1_note 44 = .ok (.if_icmp .ge 16, 3) := by decide +kernel
theorem dX1_note_47 : decode cX1_note 47 = .ok (.aload_n 0, 1) := by decide +kernel
theorem dX1_note_48 : decode cX1_note 48 = .ok (.dup, 1) := by decide +kernel
theorem dX1_note_49 : decode cX1_note 49 = .ok (.getfield 9, 3) := by decide +kernel
theorem dX1_note_52 : decode cX1_note 52 = .ok (.iconst 1, 1) := by decide +kernel
theorem dX1_note_53 : decode cX1_note 53 = .ok (.iadd, 1) := by decide +kernel
theorem dX1_note_54 : decode cX1_note 54 = .ok (.putfield 9, 3) := by decide +kernel
theorem dX1_note_57 : decode cX1_note 57 = .ok (.goto 16, 3) := by decide +kernel
theorem dX1_note_60 : decode cX1_note 60 = .ok (.aload_n 0, 1) := by decide +kernel
theorem dX1_note_61 : decode cX1_note 61 = .ok (.aload_n 0, 1) := by decide +kernel
theorem dX1_note_62 : decode cX1_note 62 = .ok (.getfield 15, 3) := by decide +kernel
theorem dX1_note_65 : decode cX1_note 65 = .ok (.iconst 1, 1) := by decide +kernel
theorem dX1_note_66 : decode cX1_note 66 = .ok (.iadd, 1) := by decide +kernel
theorem dX1_note_67 : decode cX1_note 67 = .ok (.bipush 60, 2) := by decide +kernel
theorem dX1_note_69 : decode cX1_note 69 = .ok (.irem, 1) := by decide +kernel
theorem dX1_note_70 : decode cX1_note 70 = .ok (.putfield 15, 3) := by decide +kernel
theorem dX1_note_73 : decode cX1_note 73 = .ok (.return_, 1) := by decide +kernel
theorem dX1_entry_0 : decode cX1_entry 0 = .ok (.aload_n 0, 1) := by decide +kernel
theorem dX1_entry_1 : decode cX1_entry 1 = .ok (.getfield 15, 3) := by decide +kernel
theorem dX1_entry_4 : decode cX1_entry 4 = .ok (.iload_n 1, 1) := by decide +kernel
theorem dX1_entry_5 : decode cX1_entry 5 = .ok (.iadd, 1) := by decide +kernel
theorem dX1_entry_6 : decode cX1_entry 6 = .ok (.bipush 60, 2) := by decide +kernel
theorem dX1_entry_8 : decode cX1_entry 8 = .ok (.irem, 1) := by decide +kernel
theorem dX1_entry_9 : decode cX1_entry 9 = .ok (.istore_n 3, 1) := by decide +kernel
theorem dX1_entry_10 : decode cX1_entry 10 = .ok (.iload_n 2, 1) := by decide +kernel
theorem dX1_entry_11 : decode cX1_entry 11 = .ok (.ifCond .ne 10, 3) := by decide +kernel
theorem dX1_entry_14 : decode cX1_entry 14 = .ok (.aload_n 0, 1) := by decide +kernel
theorem dX1_entry_15 : decode cX1_entry 15 = .ok (.getfield 18, 3) := by decide +kernel
theorem dX1_entry_18 : decode cX1_entry 18 = .ok (.iload_n 3, 1) := by decide +kernel
theorem dX1_entry_19 : decode cX1_entry 19 = .ok (.iaload, 1) := by decide +kernel
theorem dX1_entry_20 : decode cX1_entry 20 = .ok (.ireturn, 1) := by decide +kernel
theorem dX1_entry_21 : decode cX1_entry 21 = .ok (.iload_n 2, 1) := by decide +kernel
theorem dX1_entry_22 : decode cX1_entry 22 = .ok (.iconst 1, 1) := by decide +kernel
theorem dX1_entry_23 : decode cX1_entry 23 = .ok (.if_icmp .ne 12, 3) := by decide +kernel
theorem dX1_entry_26 : decode cX1_entry 26 = .ok (.aload_n 0, 1) := by decide +kernel
theorem dX1_entry_27 : decode cX1_entry 27 = .ok (.getfield 22, 3) := by decide +kernel
theorem dX1_entry_30 : decode cX1_entry 30 = .ok (.iload_n 3, 1) := by decide +kernel
theorem dX1_entry_31 : decode cX1_entry 31 = .ok (.iaload, 1) := by decide +kernel
theorem dX1_entry_32 : decode cX1_entry 32 = .ok (.goto 9, 3) := by decide +kernel
theorem dX1_entry_35 : decode cX1_entry 35 = .ok (.aload_n 0, 1) := by decide +kernel
theorem dX1_entry_36 : decode cX1_entry 36 = .ok (.getfield 25, 3) := by decide +kernel
theorem dX1_entry_39 : decode cX1_entry 39 = .ok (.iload_n 3, 1) := by decide +kernel
theorem dX1_entry_40 : decode cX1_entry 40 = .ok (.iaload, 1) := by decide +kernel
theorem dX1_entry_41 : decode cX1_entry 41 = .ok (.ireturn, 1) := by decide +kernel
theorem dX1_copyFrom_0 : decode cX1_copyFrom 0 = .ok (.aload_n 0, 1) := by decide +kernel
theorem dX1_copyFrom_1 : decode cX1_copyFrom 1 = .ok (.aload_n 1, 1) := by decide +kernel
theorem dX1_copyFrom_2 : decode cX1_copyFrom 2 = .ok (.getfield 9, 3) := by decide +kernel
theorem dX1_copyFrom_5 : decode cX1_copyFrom 5 = .ok (.putfield 9, 3) := by decide +kernel
theorem dX1_copyFrom_8 : decode cX1_copyFrom 8 = .ok (.aload_n 0, 1) := by decide +kernel
theorem dX1_copyFrom_9 : decode cX1_copyFrom 9 = .ok (.aload_n 1, 1) := by decide +kernel
theorem dX1_copyFrom_10 : decode cX1_copyFrom 10 = .ok (.getfield 15, 3) := by decide +kernel
theorem dX1_copyFrom_13 : decode cX1_copyFrom 13 = .ok (.putfield 15, 3) := by decide +kernel
theorem dX1_copyFrom_16 : decode cX1_copyFrom 16 = .ok (.aload_n 1, 1) := by decide +kernel
theorem dX1_copyFrom_17 : decode cX1_copyFrom 17 = .ok (.getfield 18, 3) := by decide +kernel
theorem dX1_copyFrom_20 : decode cX1_copyFrom 20 = .ok (.iconst 0, 1) := by decide +kernel
theorem dX1_copyFrom_21 : decode cX1_copyFrom 21 = .ok (.aload_n 0, 1) := by decide +kernel
theorem dX1_copyFrom_22 : decode cX1_copyFrom 22 = .ok (.getfield 18, 3) := by decide +kernel
theorem dX1_copyFrom_25 : decode cX1_copyFrom 25 = .ok (.iconst 0, 1) := by decide +kernel
theorem dX1_copyFrom_26 : decode cX1_copyFrom 26 = .ok (.bipush 60, 2) := by decide +kernel
theorem dX1_copyFrom_28 : decode cX1_copyFrom 28 = .ok (.invokestatic 28, 3) := by decide +kernel
theorem dX1_copyFrom_31 : decode cX1_copyFrom 31 = .ok (.aload_n 1, 1) := by decide +kernel
theorem dX1_copyFrom_32 : decode cX1_copyFrom 32 = .ok (.getfield 22, 3) := by decide +kernel
theorem dX1_copyFrom_35 : decode cX1_copyFrom 35 = .ok (.iconst 0, 1) := by decide +kernel
theorem dX1_copyFrom_36 : decode cX1_copyFrom 36 = .ok (.aload_n 0, 1) := by decide +kernel
theorem dX1_copyFrom_37 : decode cX1_copyFrom 37 = .ok (.getfield 22, 3) := by decide +kernel
theorem dX1_copyFrom_40 : decode cX1_copyFrom 40 = .ok (.iconst 0, 1) := by decide +kernel
theorem dX1_copyFrom_41 : decode cX1_copyFrom 41 = .ok (.bipush 60, 2) := by decide +kernel
theorem dX1_copyFrom_43 : decode cX1_copyFrom 43 = .ok (.invokestatic 28, 3) := by decide +kernel
theorem dX1_copyFrom_46 : decode cX1_copyFrom 46 = .ok (.aload_n 1, 1) := by decide +kernel
theorem dX1_copyFrom_47 : decode cX1_copyFrom 47 = .ok (.getfield 25, 3) := by decide +kernel
theorem dX1_copyFrom_50 : decode cX1_copyFrom 50 = .ok (.iconst 0, 1) := by decide +kernel
theorem dX1_copyFrom_51 : decode cX1_copyFrom 51 = .ok (.aload_n 0, 1) := by decide +kernel
theorem dX1_copyFrom_52 : decode cX1_copyFrom 52 = .ok (.getfield 25, 3) := by decide +kernel
theorem dX1_copyFrom_55 : decode cX1_copyFrom 55 = .ok (.iconst 0, 1) := by decide +kernel
theorem dX1_copyFrom_56 : decode cX1_copyFrom 56 = .ok (.bipush 60, 2) := by decide +kernel
theorem dX1_copyFrom_58 : decode cX1_copyFrom 58 = .ok (.invokestatic 28, 3) := by decide +kernel
theorem dX1_copyFrom_61 : decode cX1_copyFrom 61 = .ok (.return_, 1) := by decide +kernel
theorem dX2_init_0 : decode cX2_init 0 = .ok (.aload_n 0, 1) := by decide +kernel
theorem dX2_init_1 : decode cX2_init 1 = .ok (.invokespecial 3, 3) := by decide +kernel
theorem dX2_init_4 : decode cX2_init 4 = .ok (.aload_n 0, 1) := by decide +kernel
theorem dX2_init_5 : decode cX2_init 5 = .ok (.iconst 0, 1) := by decide +kernel
theorem dX2_init_6 : decode cX2_init 6 = .ok (.putfield 9, 3) := by decide +kernel
theorem dX2_init_9 : decode cX2_init 9 = .ok (.aload_n 0, 1) := by decide +kernel
theorem dX2_init_10 : decode cX2_init 10 = .ok (.bipush 24, 2) := by decide +kernel
theorem dX2_init_12 : decode cX2_init 12 = .ok (.newarray .int, 2) := by decide +kernel
theorem dX2_init_14 : decode cX2_init 14 = .ok (.putfield 15, 3) := by decide +kernel
theorem dX2_init_17 : decode cX2_init 17 = .ok (.aload_n 0, 1) := by decide +kernel
theorem dX2_init_18 : decode cX2_init 18 = .ok (.bipush 24, 2) := by decide +kernel
theorem dX2_init_20 : decode cX2_init 20 = .ok (.newarray .int, 2) := by decide +kernel
theorem dX2_init_22 : decode cX2_init 22 = .ok (.putfield 19, 3) := by decide +kernel
theorem dX2_init_25 : decode cX2_init 25 = .ok (.aload_n 0, 1) := by decide +kernel
theorem dX2_init_26 : decode cX2_init 26 = .ok (.bipush 24, 2) := by decide +kernel
theorem dX2_init_28 : decode cX2_init 28 = .ok (.newarray .int, 2) := by decide +kernel
theorem dX2_init_30 : decode cX2_init 30 = .ok (.putfield 22, 3) := by decide +kernel
theorem dX2_init_33 : decode cX2_init 33 = .ok (.aload_n 0, 1) := by decide +kernel
theorem dX2_init_34 : decode cX2_init 34 = .ok (.bipush 24, 2) := by decide +kernel
theorem dX2_init_36 : decode cX2_init 36 = .ok (.newarray .int, 2) := by decide +kernel
theorem dX2_init_38 : decode cX2_init 38 = .ok (.putfield 25, 3) := by decide +kernel
theorem dX2_init_41 : decode cX2_init 41 = .ok (.aload_n 0, 1) := by decide +kernel
theorem dX2_init_42 : decode cX2_init 42 = .ok (.bipush 24, 2) := by decide +kernel
theorem dX2_init_44 : decode cX2_init 44 = .ok (.newarray .int, 2) := by decide +kernel
theorem dX2_init_46 : decode cX2_init 46 = .ok (.putfield 28, 3) := by decide +kernel
theorem dX2_init_49 : decode cX2_init 49 = .ok (.aload_n 0, 1) := by decide +kernel
theorem dX2_init_50 : decode cX2_init 50 = .ok (.bipush 24, 2) := by decide +kernel
theorem dX2_init_52 : decode cX2_init 52 = .ok (.newarray .int, 2) := by decide +kernel
theorem dX2_init_54 : decode cX2_init 54 = .ok (.putfield 31, 3) := by decide +kernel
theorem dX2_init_57 : decode cX2_init 57 = .ok (.aload_n 0, 1) := by decide +kernel
theorem dX2_init_58 : decode cX2_init 58 = .ok (.bipush 24, 2) := by decide +kernel
theorem dX2_init_60 : decode cX2_init 60 = .ok (.newarray .int, 2) := by decide +kernel
theorem dX2_init_62 : decode cX2_init 62 = .ok (.putfield 34, 3) := by decide +kernel
theorem dX2_init_65 : decode cX2_init 65 = .ok (.aload_n 0, 1) := by decide +kernel
theorem dX2_init_66 : decode cX2_init 66 = .ok (.bipush 24, 2) := by decide +kernel
theorem dX2_init_68 : decode cX2_init 68 = .ok (.newarray .int, 2) := by decide +kernel
theorem dX2_init_70 : decode cX2_init 70 = .ok (.putfield 37, 3) := by decide +kernel
theorem dX2_init_73 : decode cX2_init 73 = .ok (.aload_n 0, 1) := by decide +kernel
theorem dX2_init_74 : decode cX2_init 74 = .ok (.bipush 24, 2) := by decide +kernel
theorem dX2_init_76 : decode cX2_init 76 = .ok (.newarray .int, 2) := by decide +kernel
theorem dX2_init_78 : decode cX2_init 78 = .ok (.putfield 40, 3) := by decide +kernel
theorem dX2_init_81 : decode cX2_init 81 = .ok (.aload_n 0, 1) := by decide +kernel
theorem dX2_init_82 : decode cX2_init 82 = .ok (.bipush 24, 2) := by decide +kernel
theorem dX2_init_84 : decode cX2_init 84 = .ok (.newarray .int, 2) := by decide +kernel
theorem dX2_init_86 : decode cX2_init 86 = .ok (.putfield 43, 3) := by decide +kernel
theorem dX2_init_89 : decode cX2_init 89 = .ok (.aload_n 0, 1) := by decide +kernel
theorem dX2_init_90 : decode cX2_init 90 = .ok (.bipush 24, 2) := by decide +kernel
theorem dX2_init_92 : decode cX2_init 92 = .ok (.newarray .int, 2) := by decide +kernel
theorem dX2_init_94 : decode cX2_init 94 = .ok (.putfield 46, 3) := by decide +kernel
theorem dX2_init_97 : decode cX2_init 97 = .ok (.aload_n 0, 1) := by decide +kernel
theorem dX2_init_98 : decode cX2_init 98 = .ok (.bipush 24, 2) := by decide +kernel
theorem dX2_init_100 : decode cX2_init 100 = .ok (.newarray .int, 2) := by decide +kernel
theorem dX2_init_102 : decode cX2_init 102 = .ok (.putfield 49, 3) := by decide +kernel
theorem dX2_init_105 : decode cX2_init 105 = .ok (.return_, 1) := by decide +kernel
theorem dX2_wasStarted_0 : decode cX2_wasStarted 0 = .ok (.aload_n 0, 1) := by decide +kernel
theorem dX2_wasStarted_1 : decode cX2_wasStarted 1 = .ok (.getfield 40, 3) := by decide +kernel
theorem dX2_wasStarted_4 : decode cX2_wasStarted 4 = .ok (.iload_n 1, 1) := by decide +kernel
theorem dX2_wasStarted_5 : decode cX2_wasStarted 5 = .ok (.iaload, 1) := by decide +kernel
theorem dX2_wasStarted_6 : decode cX2_wasStarted 6 = .ok (.iconst (-1), 1) := by decide +kernel
theorem dX2_wasStarted_7 : decode cX2_wasStarted 7 = .ok (.if_icmp .eq 7, 3) := by decide +kernel
theorem dX2_wasStarted_10 : decode cX2_wasStarted 10 = .ok (.iconst 1, 1) := by decide +kernel
theorem dX2_wasStarted_11 : decode cX2_wasStarted 11 = .ok (.goto 4, 3) := by decide +kernel
theorem dX2_wasStarted_14 : decode cX2_wasStarted 14 = .ok (.iconst 0, 1) := by decide +kernel
theorem dX2_wasStarted_15 : decode cX2_wasStarted 15 = .ok (.ireturn, 1) := by decide +kernel
theorem dX2_waited_0 : decode cX2_waited 0 = .ok (.aload_n 0, 1) := by decide +kernel
theorem dX2_waited_1 : decode cX2_waited 1 = .ok (.getfield 40, 3) := by decide +kernel
theorem dX2_waited_4 : decode cX2_waited 4 = .ok (.iload_n 1, 1) := by decide +kernel
theorem dX2_waited_5 : decode cX2_waited 5 = .ok (.iaload, 1) := by decide +kernel
theorem dX2_waited_6 : decode cX2_waited 6 = .ok (.aload_n 0, 1) := by decide +kernel
theorem dX2_waited_7 : decode cX2_waited 7 = .ok (.getfield 34, 3) := by decide +kernel
theorem dX2_waited_10 : decode cX2_waited 10 = .ok (.iload_n 1, 1) := by decide +kernel
theorem dX2_waited_11 : decode cX2_waited 11 = .ok (.iaload, 1) := by decide +kernel
theorem dX2_waited_12 : decode cX2_waited 12 = .ok (.isub, 1) := by decide +kernel
theorem dX2_waited_13 : decode cX2_waited 13 = .ok (.ireturn, 1) := by decide +kernel
theorem dX2_append_0 : decode cX2_append 0 = .ok (.aload_n 0, 1) := by decide +kernel
theorem dX2_append_1 : decode cX2_append 1 = .ok (.getfield 9, 3) := by decide +kernel
theorem dX2_append_4 : decode cX2_append 4 = .ok (.istore 6, 2) := by decide +kernel
theorem dX2_append_6 : decode cX2_append 6 = .ok (.aload_n 0, 1) := by decide +kernel
theorem dX2_append_7 : decode cX2_append 7 = .ok (.getfield 15, 3) := by decide +kernel
theorem dX2_append_10 : decode cX2_append 10 = .ok (.iload 6, 2) := by decide +kernel
theorem dX2_append_12 : decode cX2_append 12 = .ok (.iload_n 1, 1) := by decide +kernel
theorem dX2_append_13 : decode cX2_append 13 = .ok (.iastore, 1) := by decide +kernel
theorem dX2_append_14 : decode cX2_append 14 = .ok (.aload_n 0, 1) := by decide +kernel
theorem dX2_append_15 : decode cX2_append 15 = .ok (.getfield 19, 3) := by decide +kernel
theorem dX2_append_18 : decode cX2_append 18 = .ok (.iload 6, 2) := by decide +kernel
theorem dX2_append_20 : decode cX2_append 20 = .ok (.iload_n 2, 1) := by decide +kernel
theorem dX2_append_21 : decode cX2_append 21 = .ok (.iastore, 1) := by decide +kernel
theorem dX2_append_22 : decode cX2_append 22 = .ok (.aload_n 0, 1) := by decide +kernel
theorem dX2_append_23 : decode cX2_append 23 = .ok (.getfield 22, 3) := by decide +kernel
theorem dX2_append_26 : decode cX2_append 26 = .ok (.iload 6, 2) := by decide +kernel
theorem dX2_append_28 : decode cX2_append 28 = .ok (.iload_n 3, 1) := by decide +kernel
theorem dX2_append_29 : decode cX2_append 29 = .ok (.iastore, 1) := by decide +kernel
theorem dX2_append_30 : decode cX2_append 30 = .ok (.aload_n 0, 1) := by decide +kernel
theorem dX2_append_31 : decode cX2_append 31 = .ok (.getfield 25, 3) := by decide +kernel
theorem dX2_append_34 : decode cX2_append 34 = .ok (.iload 6, 2) := by decide +kernel
theorem dX2_append_36 : decode cX2_append 36 = .ok (.iload 4, 2) := by decide +kernel
theorem dX2_append_38 : decode cX2_append 38 = .ok (.iastore, 1) := by decide +kernel
theorem dX2_append_39 : decode cX2_append 39 = .ok (.aload_n 0, 1) := by decide +kernel
theorem dX2_append_40 : decode cX2_append 40 = .ok (.getfield 28, 3) := by decide +kernel
theorem dX2_append_43 : decode cX2_append 43 = .ok (.iload 6, 2) := by decide +kernel
theorem dX2_append_45 : decode cX2_append 45 = .ok (.iconst 0, 1) := by decide +kernel
theorem dX2_append_46 : decode cX2_append 46 = .ok (.iastore, 1) := by decide +kernel
theorem dX2_append_47 : decode cX2_append 47 = .ok (.aload_n 0, 1) := by decide +kernel
theorem dX2_append_48 : decode cX2_append 48 = .ok (.getfield 31, 3) := by decide +kernel
theorem dX2_append_51 : decode cX2_append 51 = .ok (.iload 6, 2) := by decide +kernel
theorem dX2_append_53 : decode cX2_append 53 = .ok (.iload 4, 2) := by decide +kernel
theorem dX2_append_55 : decode cX2_append 55 = .ok (.iastore, 1) := by decide +kernel
theorem dX2_append_56 : decode cX2_append 56 = .ok (.aload_n 0, 1) := by decide +kernel
theorem dX2_append_57 : decode cX2_append 57 = .ok (.getfield 34, 3) := by decide +kernel
theorem dX2_append_60 : decode cX2_append 60 = .ok (.iload 6, 2) := by decide +kernel
theorem dX2_append_62 : decode cX2_append 62 = .ok (.iload 5, 2) := by decide +kernel
theorem dX2_append_64 : decode cX2_append 64 = .ok (.iastore, 1) := by decide +kernel
theorem dX2_append_65 : decode cX2_append 65 = .ok (.aload_n 0, 1) := by decide +kernel
theorem dX2_append_66 : decode cX2_append 66 = .ok (.getfield 37, 3) := by decide +kernel
theorem dX2_append_69 : decode cX2_append 69 = .ok (.iload 6, 2) := by decide +kernel
theorem dX2_append_71 : decode cX2_append 71 = .ok (.iconst (-1), 1) := by decide +kernel
theorem dX2_append_72 : decode cX2_append 72 = .ok (.iastore, 1) := by decide +kernel
theorem dX2_append_73 : decode cX2_append 73 = .ok (.aload_n 0, 1) := by decide +kernel
theorem dX2_append_74 : decode cX2_append 74 = .ok (.getfield 40, 3) := by decide +kernel
theorem dX2_append_77 : decode cX2_append 77 = .ok (.iload 6, 2) := by decide +kernel
theorem dX2_append_79 : decode cX2_append 79 = .ok (.iconst (-1), 1) := by decide +kernel
theorem dX2_append_80 : decode cX2_append 80 = .ok (.iastore, 1) := by decide +kernel
theorem dX2_append_81 : decode cX2_append 81 = .ok (.aload_n 0, 1) := by decide +kernel
theorem dX2_append_82 : decode cX2_append 82 = .ok (.getfield 43, 3) := by decide +kernel
theorem dX2_append_85 : decode cX2_append 85 = .ok (.iload 6, 2) := by decide +kernel
theorem dX2_append_87 : decode cX2_append 87 = .ok (.iconst (-1), 1) := by decide +kernel
theorem dX2_append_88 : decode cX2_append 88 = .ok (.iastore, 1) := by decide +kernel
theorem dX2_append_89 : decode cX2_append 89 = .ok (.aload_n 0, 1) := by decide +kernel
theorem dX2_append_90 : decode cX2_append 90 = .ok (.getfield 46, 3) := by decide +kernel
theorem dX2_append_93 : decode cX2_append 93 = .ok (.iload 6, 2) := by decide +kernel
theorem dX2_append_95 : decode cX2_append 95 = .ok (.iconst 0, 1) := by decide +kernel
theorem dX2_append_96 : decode cX2_append 96 = .ok (.iastore, 1) := by decide +kernel
theorem dX2_append_97 : decode cX2_append 97 = .ok (.aload_n 0, 1) := by decide +kernel
theorem dX2_append_98 : decode cX2_append 98 = .ok (.getfield 49, 3) := by decide +kernel
theorem dX2_append_101 : decode cX2_append 101 = .ok (.iload 6, 2) := by decide +kernel
theorem dX2_append_103 : decode cX2_append 103 = .ok (.iconst 0, 1) := by decide +kernel
theorem dX2_append_104 : decode cX2_append 104 = .ok (.iastore, 1) := by decide +kernel
theorem dX2_append_105 : decode cX2_append 105 = .ok (.aload_n 0, 1) := by decide +kernel
theorem dX2_append_106 : decode cX2_append 106 = .ok (.dup, 1) := by decide +kernel
theorem dX2_append_107 : decode cX2_append 107 = .ok (.getfield 9, 3) := by decide +kernel
theorem dX2_append_110 : decode cX2_append 110 = .ok (.iconst 1, 1) := by decide +kernel
theorem dX2_append_111 : decode cX2_append 111 = .ok (.iadd, 1) := by decide +kernel
theorem dX2_append_112 : decode cX2_append 112 = .ok (.putfield 9, 3) := by decide +kernel
theorem dX2_append_115 : decode cX2_append 115 = .ok (.iload 6, 2) := by decide +kernel
theorem dX2_append_117 : decode cX2_append 117 = .ok (.ireturn, 1) := by decide +kernel
theorem dX2_copyFrom_0 : decode cX2_copyFrom 0 = .ok (.aload_n 0, 1) := by decide +kernel
theorem dX2_copyFrom_1 : decode cX2_copyFrom 1 = .ok (.aload_n 1, 1) := by decide +kernel
theorem dX2_copyFrom_2 : decode cX2_copyFrom 2 = .ok (.getfield 9, 3) := by decide +kernel
theorem dX2_copyFrom_5 : decode cX2_copyFrom 5 = .ok (.putfield 9, 3) := by decide +kernel
theorem dX2_copyFrom_8 : decode cX2_copyFrom 8 = .ok (.aload_n 1, 1) := by decide +kernel
theorem dX2_copyFrom_9 : decode cX2_copyFrom 9 = .ok (.getfield 15, 3) := by decide +kernel
theorem dX2_copyFrom_12 : decode cX2_copyFrom 12 = .ok (.iconst 0, 1) := by decide +kernel
theorem dX2_copyFrom_13 : decode cX2_copyFrom 13 = .ok (.aload_n 0, 1) := by decide +kernel
theorem dX2_copyFrom_14 : decode cX2_copyFrom 14 = .ok (.getfield 15, 3) := by decide +kernel
theorem dX2_copyFrom_17 : decode cX2_copyFrom 17 = .ok (.iconst 0, 1) := by decide +kernel
theorem dX2_copyFrom_18 : decode cX2_copyFrom 18 = .ok (.bipush 24, 2) := by decide +kernel
theorem dX2_copyFrom_20 : decode cX2_copyFrom 20 = .ok (.invokestatic 52, 3) := by decide +kernel
theorem dX2_copyFrom_23 : decode cX2_copyFrom 23 = .ok (.aload_n 1, 1) := by decide +kernel
theorem dX2_copyFrom_24 : decode cX2_copyFrom 24 = .ok (.getfield 19, 3) := by decide +kernel
theorem dX2_copyFrom_27 : decode cX2_copyFrom 27 = .ok (.iconst 0, 1) := by decide +kernel
theorem dX2_copyFrom_28 : decode cX2_copyFrom 28 = .ok (.aload_n 0, 1) := by decide +kernel
theorem dX2_copyFrom_29 : decode cX2_copyFrom 29 = .ok (.getfield 19, 3) := by decide +kernel
theorem dX2_copyFrom_32 : decode cX2_copyFrom 32 = .ok (.iconst 0, 1) := by decide +kernel
theorem dX2_copyFrom_33 : decode cX2_copyFrom 33 = .ok (.bipush 24, 2) := by decide +kernel
theorem dX2_copyFrom_35 : decode cX2_copyFrom 35 = .ok (.invokestatic 52, 3) := by decide +kernel
theorem dX2_copyFrom_38 : decode cX2_copyFrom 38 = .ok (.aload_n 1, 1) := by decide +kernel
theorem dX2_copyFrom_39 : decode cX2_copyFrom 39 = .ok (.getfield 22, 3) := by decide +kernel
theorem dX2_copyFrom_42 : decode cX2_copyFrom 42 = .ok (.iconst 0, 1) := by decide +kernel
theorem dX2_copyFrom_43 : decode cX2_copyFrom 43 = .ok (.aload_n 0, 1) := by decide +kernel
theorem dX2_copyFrom_44 : decode cX2_copyFrom 44 = .ok (.getfield 22, 3) := by decide +kernel
theorem dX2_copyFrom_47 : decode cX2_copyFrom 47 = .ok (.iconst 0, 1) := by decide +kernel
theorem dX2_copyFrom_48 : decode cX2_copyFrom 48 = .ok (.bipush 24, 2) := by decide +kernel
theorem dX2_copyFrom_50 : decode cX2_copyFrom 50 = .ok (.invokestatic 52, 3) := by decide +kernel
theorem dX2_copyFrom_53 : decode cX2_copyFrom 53 = .ok (.aload_n 1, 1) := by decide +kernel
theorem dX2_copyFrom_54 : decode cX2_copyFrom 54 = .ok (.getfield 25, 3) := by decide +kernel
theorem dX2_copyFrom_57 : decode cX2_copyFrom 57 = .ok (.iconst 0, 1) := by decide +kernel
theorem dX2_copyFrom_58 : decode cX2_copyFrom 58 = .ok (.aload_n 0, 1) := by decide +kernel
theorem dX2_copyFrom_59 : decode cX2_copyFrom 59 = .ok (.getfield 25, 3) := by decide +kernel
theorem dX2_copyFrom_62 : decode cX2_copyFrom 62 = .ok (.iconst 0, 1) := by decide +kernel
theorem dX2_copyFrom_63 : decode cX2_copyFrom 63 = .ok (.bipush 24, 2) := by decide +kernel
theorem dX2_copyFrom_65 : decode cX2_copyFrom 65 = .ok (.invokestatic 52, 3) := by decide +kernel
theorem dX2_copyFrom_68 : decode cX2_copyFrom 68 = .ok (.aload_n 1, 1) := by decide +kernel
theorem dX2_copyFrom_69 : decode cX2_copyFrom 69 = .ok (.getfield 28, 3) := by decide +kernel
theorem dX2_copyFrom_72 : decode cX2_copyFrom 72 = .ok (.iconst 0, 1) := by decide +kernel
theorem dX2_copyFrom_73 : decode cX2_copyFrom 73 = .ok (.aload_n 0, 1) := by decide +kernel
theorem dX2_copyFrom_74 : decode cX2_copyFrom 74 = .ok (.getfield 28, 3) := by decide +kernel
theorem dX2_copyFrom_77 : decode cX2_copyFrom 77 = .ok (.iconst 0, 1) := by decide +kernel
theorem dX2_copyFrom_78 : decode cX2_copyFrom 78 = .ok (.bipush 24, 2) := by decide +kernel
theorem dX2_copyFrom_80 : decode cX2_copyFrom 80 = .ok (.invokestatic 52, 3) := by decide +kernel
theorem dX2_copyFrom_83 : decode cX2_copyFrom 83 = .ok (.aload_n 1, 1) := by decide +kernel
theorem dX2_copyFrom_84 : decode cX2_copyFrom 84 = .ok (.getfield 31, 3) := by decide +kernel
theorem dX2_copyFrom_87 : decode cX2_copyFrom 87 = .ok (.iconst 0, 1) := by decide +kernel
theorem dX2_copyFrom_88 : decode cX2_copyFrom 88 = .ok (.aload_n 0, 1) := by decide +kernel
theorem dX2_copyFrom_89 : decode cX2_copyFrom 89 = .ok (.getfield 31, 3) := by decide +kernel
theorem dX2_copyFrom_92 : decode cX2_copyFrom 92 = .ok (.iconst 0, 1) := by decide +kernel
theorem dX2_copyFrom_93 : decode cX2_copyFrom 93 = .ok (.bipush 24, 2) := by decide +kernel
theorem dX2_copyFrom_95 : decode cX2_copyFrom 95 = .ok (.invokestatic 52, 3) := by decide +kernel
theorem dX2_copyFrom_98 : decode cX2_copyFrom 98 = .ok (.aload_n 1, 1) := by decide +kernel
theorem dX2_copyFrom_99 : decode cX2_copyFrom 99 = .ok (.getfield 34, 3) := by decide +kernel
theorem dX2_copyFrom_102 : decode cX2_copyFrom 102 = .ok (.iconst 0, 1) := by decide +kernel
theorem dX2_copyFrom_103 : decode cX2_copyFrom 103 = .ok (.aload_n 0, 1) := by decide +kernel
theorem dX2_copyFrom_104 : decode cX2_copyFrom 104 = .ok (.getfield 34, 3) := by decide +kernel
theorem dX2_copyFrom_107 : decode cX2_copyFrom 107 = .ok (.iconst 0, 1) := by decide +kernel
theorem dX2_copyFrom_108 : decode cX2_copyFrom 108 = .ok (.bipush 24, 2) := by decide +kernel
theorem dX2_copyFrom_110 : decode cX2_copyFrom 110 = .ok (.invokestatic 52, 3) := by decide +kernel
theorem dX2_copyFrom_113 : decode cX2_copyFrom 113 = .ok (.aload_n 1, 1) := by decide +kernel
theorem dX2_copyFrom_114 : decode cX2_copyFrom 114 = .ok (.getfield 37, 3) := by decide +kernel
theorem dX2_copyFrom_117 : decode cX2_copyFrom 117 = .ok (.iconst 0, 1) := by decide +kernel
theorem dX2_copyFrom_118 : decode cX2_copyFrom 118 = .ok (.aload_n 0, 1) := by decide +kernel
theorem dX2_copyFrom_119 : decode cX2_copyFrom 119 = .ok (.getfield 37, 3) := by decide +kernel
theorem dX2_copyFrom_122 : decode cX2_copyFrom 122 = .ok (.iconst 0, 1) := by decide +kernel
theorem dX2_copyFrom_123 : decode cX2_copyFrom 123 = .ok (.bipush 24, 2) := by decide +kernel
theorem dX2_copyFrom_125 : decode cX2_copyFrom 125 = .ok (.invokestatic 52, 3) := by decide +kernel
theorem dX2_copyFrom_128 : decode cX2_copyFrom 128 = .ok (.aload_n 1, 1) := by decide +kernel
theorem dX2_copyFrom_129 : decode cX2_copyFrom 129 = .ok (.getfield 40, 3) := by decide +kernel
theorem dX2_copyFrom_132 : decode cX2_copyFrom 132 = .ok (.iconst 0, 1) := by decide +kernel
theorem dX2_copyFrom_133 : decode cX2_copyFrom 133 = .ok (.aload_n 0, 1) := by decide +kernel
theorem dX2_copyFrom_134 : decode cX2_copyFrom 134 = .ok (.getfield 40, 3) := by decide +kernel
theorem dX2_copyFrom_137 : decode cX2_copyFrom 137 = .ok (.iconst 0, 1) := by decide +kernel
theorem dX2_copyFrom_138 : decode cX2_copyFrom 138 = .ok (.bipush 24, 2) := by decide +kernel
theorem dX2_copyFrom_140 : decode cX2_copyFrom 140 = .ok (.invokestatic 52, 3) := by decide +kernel
theorem dX2_copyFrom_143 : decode cX2_copyFrom 143 = .ok (.aload_n 1, 1) := by decide +kernel
theorem dX2_copyFrom_144 : decode cX2_copyFrom 144 = .ok (.getfield 43, 3) := by decide +kernel
theorem dX2_copyFrom_147 : decode cX2_copyFrom 147 = .ok (.iconst 0, 1) := by decide +kernel
theorem dX2_copyFrom_148 : decode cX2_copyFrom 148 = .ok (.aload_n 0, 1) := by decide +kernel
theorem dX2_copyFrom_149 : decode cX2_copyFrom 149 = .ok (.getfield 43, 3) := by decide +kernel
theorem dX2_copyFrom_152 : decode cX2_copyFrom 152 = .ok (.iconst 0, 1) := by decide +kernel
theorem dX2_copyFrom_153 : decode cX2_copyFrom 153 = .ok (.bipush 24, 2) := by decide +kernel
theorem dX2_copyFrom_155 : decode cX2_copyFrom 155 = .ok (.invokestatic 52, 3) := by decide +kernel
theorem dX2_copyFrom_158 : decode cX2_copyFrom 158 = .ok (.aload_n 1, 1) := by decide +kernel
theorem dX2_copyFrom_159 : decode cX2_copyFrom 159 = .ok (.getfield 46, 3) := by decide +kernel
theorem dX2_copyFrom_162 : decode cX2_copyFrom 162 = .ok (.iconst 0, 1) := by decide +kernel
theorem dX2_copyFrom_163 : decode cX2_copyFrom 163 = .ok (.aload_n 0, 1) := by decide +kernel
theorem dX2_copyFrom_164 : decode cX2_copyFrom 164 = .ok (.getfield 46, 3) := by decide +kernel
theorem dX2_copyFrom_167 : decode cX2_copyFrom 167 = .ok (.iconst 0, 1) := by decide +kernel
theorem dX2_copyFrom_168 : decode cX2_copyFrom 168 = .ok (.bipush 24, 2) := by decide +kernel
theorem dX2_copyFrom_170 : decode cX2_copyFrom 170 = .ok (.invokestatic 52, 3) := by decide +kernel
theorem dX2_copyFrom_173 : decode cX2_copyFrom 173 = .ok (.aload_n 1, 1) := by decide +kernel
theorem dX2_copyFrom_174 : decode cX2_copyFrom 174 = .ok (.getfield 49, 3) := by decide +kernel
theorem dX2_copyFrom_177 : decode cX2_copyFrom 177 = .ok (.iconst 0, 1) := by decide +kernel
theorem dX2_copyFrom_178 : decode cX2_copyFrom 178 = .ok (.aload_n 0, 1) := by decide +kernel
theorem dX2_copyFrom_179 : decode cX2_copyFrom 179 = .ok (.getfield 49, 3) := by decide +kernel
theorem dX2_copyFrom_182 : decode cX2_copyFrom 182 = .ok (.iconst 0, 1) := by decide +kernel
theorem dX2_copyFrom_183 : decode cX2_copyFrom 183 = .ok (.bipush 24, 2) := by decide +kernel
theorem dX2_copyFrom_185 : decode cX2_copyFrom 185 = .ok (.invokestatic 52, 3) := by decide +kernel
theorem dX2_copyFrom_188 : decode cX2_copyFrom 188 = .ok (.return_, 1) := by decide +kernel
theorem dX3_init_0 : decode cX3_init 0 = .ok (.aload_n 0, 1) := by decide +kernel
theorem dX3_init_1 : decode cX3_init 1 = .ok (.invokespecial 3, 3) := by decide +kernel
theorem dX3_init_4 : decode cX3_init 4 = .ok (.aload_n 0, 1) := by decide +kernel
theorem dX3_init_5 : decode cX3_init 5 = .ok (.bipush 30, 2) := by decide +kernel
theorem dX3_init_7 : decode cX3_init 7 = .ok (.newarray .int, 2) := by decide +kernel
theorem dX3_init_9 : decode cX3_init 9 = .ok (.putfield 11, 3) := by decide +kernel
theorem dX3_init_12 : decode cX3_init 12 = .ok (.aload_n 0, 1) := by decide +kernel
theorem dX3_init_13 : decode cX3_init 13 = .ok (.bipush 30, 2) := by decide +kernel
theorem dX3_init_15 : decode cX3_init 15 = .ok (.newarray .int, 2) := by decide +kernel
theorem dX3_init_17 : decode cX3_init 17 = .ok (.putfield 15, 3) := by decide +kernel
theorem dX3_init_20 : decode cX3_init 20 = .ok (.aload_n 0, 1) := by decide +kernel
theorem dX3_init_21 : decode cX3_init 21 = .ok (.bipush 30, 2) := by decide +kernel
theorem dX3_init_23 : decode cX3_init 23 = .ok (.newarray .int, 2) := by decide +kernel
theorem dX3_init_25 : decode cX3_init 25 = .ok (.putfield 18, 3) := by decide +kernel
theorem dX3_init_28 : decode cX3_init 28 = .ok (.aload_n 0, 1) := by decide +kernel
theorem dX3_init_29 : decode cX3_init 29 = .ok (.bipush 30, 2) := by decide +kernel
theorem dX3_init_31 : decode cX3_init 31 = .ok (.newarray .int, 2) := by decide +kernel
theorem dX3_init_33 : decode cX3_init 33 = .ok (.putfield 21, 3) := by decide +kernel
theorem dX3_init_36 : decode cX3_init 36 = .ok (.return_, 1) := by decide +kernel
theorem dX3_give_0 : decode cX3_give 0 = .ok (.aload_n 0, 1) := by decide +kernel
theorem dX3_give_1 : decode cX3_give 1 = .ok (.getfield 11, 3) := by decide +kernel
theorem dX3_give_4 : decode cX3_give 4 = .ok (.iload_n 1, 1) := by decide +kernel
theorem dX3_give_5 : decode cX3_give 5 = .ok (.iload_n 2, 1) := by decide +kernel
theorem dX3_give_6 : decode cX3_give 6 = .ok (.iload_n 3, 1) := by decide +kernel
theorem dX3_give_7 : decode cX3_give 7 = .ok (.invokestatic 24, 3) := by decide +kernel
theorem dX3_give_10 : decode cX3_give 10 = .ok (.iastore, 1) := by decide +kernel
theorem dX3_give_11 : decode cX3_give 11 = .ok (.aload_n 0, 1) := by decide +kernel
theorem dX3_give_12 : decode cX3_give 12 = .ok (.getfield 15, 3) := by decide +kernel
theorem dX3_give_15 : decode cX3_give 15 = .ok (.iload_n 1, 1) := by decide +kernel
theorem dX3_give_16 : decode cX3_give 16 = .ok (.iload_n 3, 1) := by decide +kernel
theorem dX3_give_17 : decode cX3_give 17 = .ok (.iastore, 1) := by decide +kernel
theorem dX3_give_18 : decode cX3_give 18 = .ok (.aload_n 0, 1) := by decide +kernel
theorem dX3_give_19 : decode cX3_give 19 = .ok (.getfield 18, 3) := by decide +kernel
theorem dX3_give_22 : decode cX3_give 22 = .ok (.iload_n 1, 1) := by decide +kernel
theorem dX3_give_23 : decode cX3_give 23 = .ok (.iload 4, 2) := by decide +kernel
theorem dX3_give_25 : decode cX3_give 25 = .ok (.iastore, 1) := by decide +kernel
theorem dX3_give_26 : decode cX3_give 26 = .ok (.aload_n 0, 1) := by decide +kernel
theorem dX3_give_27 : decode cX3_give 27 = .ok (.getfield 21, 3) := by decide +kernel
theorem dX3_give_30 : decode cX3_give 30 = .ok (.iload_n 1, 1) := by decide +kernel
theorem dX3_give_31 : decode cX3_give 31 = .ok (.iload 4, 2) := by decide +kernel
theorem dX3_give_33 : decode cX3_give 33 = .ok (.iload 5, 2) := by decide +kernel
theorem dX3_give_35 : decode cX3_give 35 = .ok (.iadd, 1) := by decide +kernel
theorem dX3_give_36 : decode cX3_give 36 = .ok (.iastore, 1) := by decide +kernel
theorem dX3_give_37 : decode cX3_give 37 = .ok (.return_, 1) := by decide +kernel
theorem dX3_clearSlot_0 : decode cX3_clearSlot 0 = .ok (.aload_n 0, 1) := by decide +kernel
theorem dX3_clearSlot_1 : decode cX3_clearSlot 1 = .ok (.getfield 11, 3) := by decide +kernel
theorem dX3_clearSlot_4 : decode cX3_clearSlot 4 = .ok (.iload_n 1, 1) := by decide +kernel
theorem dX3_clearSlot_5 : decode cX3_clearSlot 5 = .ok (.iconst 0, 1) := by decide +kernel
theorem dX3_clearSlot_6 : decode cX3_clearSlot 6 = .ok (.iastore, 1) := by decide +kernel
theorem dX3_clearSlot_7 : decode cX3_clearSlot 7 = .ok (.return_, 1) := by decide +kernel
theorem dX3_isUsed_0 : decode cX3_isUsed 0 = .ok (.aload_n 0, 1) := by decide +kernel
theorem dX3_isUsed_1 : decode cX3_isUsed 1 = .ok (.getfield 11, 3) := by decide +kernel
theorem dX3_isUsed_4 : decode cX3_isUsed 4 = .ok (.iload_n 1, 1) := by decide +kernel
theorem dX3_isUsed_5 : decode cX3_isUsed 5 = .ok (.iaload, 1) := by decide +kernel
theorem dX3_isUsed_6 : decode cX3_isUsed 6 = .ok (.ifCond .eq 7, 3) := by decide +kernel
theorem dX3_isUsed_9 : decode cX3_isUsed 9 = .ok (.iconst 1, 1) := by decide +kernel
theorem dX3_isUsed_10 : decode cX3_isUsed 10 = .ok (.goto 4, 3) := by decide +kernel
theorem dX3_isUsed_13 : decode cX3_isUsed 13 = .ok (.iconst 0, 1) := by decide +kernel
theorem dX3_isUsed_14 : decode cX3_isUsed 14 = .ok (.ireturn, 1) := by decide +kernel
theorem dX3_takenIn_0 : decode cX3_takenIn 0 = .ok (.iconst 0, 1) := by decide +kernel
theorem dX3_takenIn_1 : decode cX3_takenIn 1 = .ok (.istore_n 3, 1) := by decide +kernel
theorem dX3_takenIn_2 : decode cX3_takenIn 2 = .ok (.iconst 0, 1) := by decide +kernel
theorem dX3_takenIn_3 : decode cX3_takenIn 3 = .ok (.istore 4, 2) := by decide +kernel
theorem dX3_takenIn_5 : decode cX3_takenIn 5 = .ok (.iload 4, 2) := by decide +kernel
theorem dX3_takenIn_7 : decode cX3_takenIn 7 = .ok (.bipush 30, 2) := by decide +kernel
theorem dX3_takenIn_9 : decode cX3_takenIn 9 = .ok (.if_icmp .ge 41, 3) := by decide +kernel
theorem dX3_takenIn_12 : decode cX3_takenIn 12 = .ok (.aload_n 0, 1) := by decide +kernel
theorem dX3_takenIn_13 : decode cX3_takenIn 13 = .ok (.getfield 18, 3) := by decide +kernel
theorem dX3_takenIn_16 : decode cX3_takenIn 16 = .ok (.iload 4, 2) := by decide +kernel
theorem dX3_takenIn_18 : decode cX3_takenIn 18 = .ok (.iaload, 1) := by decide +kernel
theorem dX3_takenIn_19 : decode cX3_takenIn 19 = .ok (.iload_n 2, 1) := by decide +kernel
theorem dX3_takenIn_20 : decode cX3_takenIn 20 = .ok (.if_icmp .gt 24, 3) := by decide +kernel
theorem dX3_takenIn_23 : decode cX3_takenIn 23 = .ok (.aload_n 0, 1) := by decide +kernel
theorem dX3_takenIn_24 : decode cX3_takenIn 24 = .ok (.getfield 21, 3) := by decide +kernel
theorem dX3_takenIn_27 : decode cX3_takenIn 27 = .ok (.iload 4, 2) := by decide +kernel
theorem dX3_takenIn_29 : decode cX3_takenIn 29 = .ok (.iaload, 1) := by decide +kernel
theorem dX3_takenIn_30 : decode cX3_takenIn 30 = .ok (.iload_n 1, 1) := by decide +kernel
theorem dX3_takenIn_31 : decode cX3_takenIn 31 = .ok (.if_icmp .le 13, 3) := by decide +kernel
theorem dX3_takenIn_34 : decode cX3_takenIn 34 = .ok (.iload_n 3, 1) := by decide +kernel
theorem dX3_takenIn_35 : decode cX3_takenIn 35 = .ok (.aload_n 0, 1) := by decide +kernel
theorem dX3_takenIn_36 : decode cX3_takenIn 36 = .ok (.getfield 11, 3) := by decide +kernel
theorem dX3_takenIn_39 : decode cX3_takenIn 39 = .ok (.iload 4, 2) := by decide +kernel
theorem dX3_takenIn_41 : decode cX3_takenIn 41 = .ok (.iaload, 1) := by decide +kernel
theorem dX3_takenIn_42 : decode cX3_takenIn 42 = .ok (.ior, 1) := by decide +kernel
theorem dX3_takenIn_43 : decode cX3_takenIn 43 = .ok (.istore_n 3, 1) := by decide +kernel
theorem dX3_takenIn_44 : decode cX3_takenIn 44 = .ok (.iinc 4 1, 3) := by decide +kernel
theorem dX3_takenIn_47 : decode cX3_takenIn 47 = .ok (.goto (-42), 3) := by decide +kernel
theorem dX3_takenIn_50 : decode cX3_takenIn 50 = .ok (.iload_n 3, 1) := by decide +kernel
theorem dX3_takenIn_51 : decode cX3_takenIn 51 = .ok (.ireturn, 1) := by decide +kernel
theorem dX3_lowestFree_0 : decode cX3_lowestFree 0 = .ok (.aload_n 0, 1) := by decide +kernel
theorem dX3_lowestFree_1 : decode cX3_lowestFree 1 = .ok (.iload_n 2, 1) := by decide +kernel
theorem dX3_lowestFree_2 : decode cX3_lowestFree 2 = .ok (.iload_n 2, 1) := by decide +kernel
theorem dX3_lowestFree_3 : decode cX3_lowestFree 3 = .ok (.iload_n 3, 1) := by decide +kernel
theorem dX3_lowestFree_4 : decode cX3_lowestFree 4 = .ok (.iadd, 1) := by decide +kernel
theorem dX3_lowestFree_5 : decode cX3_lowestFree 5 = .ok (.iconst 1, 1) := by decide +kernel
theorem dX3_lowestFree_6 : decode cX3_lowestFree 6 = .ok (.isub, 1) := by decide +kernel
theorem dX3_lowestFree_7 : decode cX3_lowestFree 7 = .ok (.invokevirtual 28, 3) := by decide +kernel
theorem dX3_lowestFree_10 : decode cX3_lowestFree 10 = .ok (.iload_n 1, 1) := by decide +kernel
theorem dX3_lowestFree_11 : decode cX3_lowestFree 11 = .ok (.invokestatic 31, 3) := by decide +kernel
theorem dX3_lowestFree_14 : decode cX3_lowestFree 14 = .ok (.ireturn, 1) := by decide +kernel
theorem dX3_earliest_0 : decode cX3_earliest 0 = .ok (.iload_n 2, 1) := by decide +kernel
theorem dX3_earliest_1 : decode cX3_earliest 1 = .ok (.istore 4, 2) := by decide +kernel
theorem dX3_earliest_3 : decode cX3_earliest 3 = .ok (.iconst 0, 1) := by decide +kernel
theorem dX3_earliest_4 : decode cX3_earliest 4 = .ok (.istore 5, 2) := by decide +kernel
theorem dX3_earliest_6 : decode cX3_earliest 6 = .ok (.iload 5, 2) := by decide +kernel
theorem dX3_earliest_8 : decode cX3_earliest 8 = .ok (.bipush 30, 2) := by decide +kernel
theorem dX3_earliest_10 : decode cX3_earliest 10 = .ok (.if_icmp .ge 44, 3) := by decide +kernel
theorem dX3_earliest_13 : decode cX3_earliest 13 = .ok (.aload_n 0, 1) := by decide +kernel
theorem dX3_earliest_14 : decode cX3_earliest 14 = .ok (.iload 4, 2) := by decide +kernel
theorem dX3_earliest_16 : decode cX3_earliest 16 = .ok (.iload 4, 2) := by decide +kernel
theorem dX3_earliest_18 : decode cX3_earliest 18 = .ok (.iload_n 3, 1) := by decide +kernel
theorem dX3_earliest_19 : decode cX3_earliest 19 = .ok (.iadd, 1) := by decide +kernel
theorem dX3_earliest_20 : decode cX3_earliest 20 = .ok (.iconst 1, 1) := by decide +kernel
theorem dX3_earliest_21 : decode cX3_earliest 21 = .ok (.isub, 1) := by decide +kernel
theorem dX3_earliest_22 : decode cX3_earliest 22 = .ok (.invokevirtual 28, 3) := by decide +kernel
theorem dX3_earliest_25 : decode cX3_earliest 25 = .ok (.istore 6, 2) := by decide +kernel
theorem dX3_earliest_27 : decode cX3_earliest 27 = .ok (.iload 6, 2) := by decide +kernel
theorem dX3_earliest_29 : decode cX3_earliest 29 = .ok (.iload_n 1, 1) := by decide +kernel
theorem dX3_earliest_30 : decode cX3_earliest 30 = .ok (.invokestatic 31, 3) := by decide +kernel
theorem dX3_earliest_33 : decode cX3_earliest 33 = .ok (.iconst (-1), 1) := by decide +kernel
theorem dX3_earliest_34 : decode cX3_earliest 34 = .ok (.if_icmp .eq 6, 3) := by decide +kernel
theorem dX3_earliest_37 : decode cX3_earliest 37 = .ok (.iload 4, 2) := by decide +kernel
theorem dX3_earliest_39 : decode cX3_earliest 39 = .ok (.ireturn, 1) := by decide +kernel
theorem dX3_earliest_40 : decode cX3_earliest 40 = .ok (.aload_n 0, 1) := by decide +kernel
theorem dX3_earliest_41 : decode cX3_earliest 41 = .ok (.iload 4, 2) := by decide +kernel
theorem dX3_earliest_43 : decode cX3_earliest 43 = .ok (.invokevirtual 34, 3) := by decide +kernel
theorem dX3_earliest_46 : decode cX3_earliest 46 = .ok (.istore 4, 2) := by decide +kernel
theorem dX3_earliest_48 : decode cX3_earliest 48 = .ok (.iinc 5 1, 3) := by decide +kernel
theorem dX3_earliest_51 : decode cX3_earliest 51 = .ok (.goto (-45), 3) := by decide +kernel
theorem dX3_earliest_54 : decode cX3_earliest 54 = .ok (.iload 4, 2) := by decide +kernel
theorem dX3_earliest_56 : decode cX3_earliest 56 = .ok (.ireturn, 1) := by decide +kernel
theorem dX3_nextEnd_0 : decode cX3_nextEnd 0 = .ok (.iload_n 1, 1) := by decide +kernel
theorem dX3_nextEnd_1 : decode cX3_nextEnd 1 = .ok (.istore_n 2, 1) := by decide +kernel
theorem dX3_nextEnd_2 : decode cX3_nextEnd 2 = .ok (.iconst 0, 1) := by decide +kernel
theorem dX3_nextEnd_3 : decode cX3_nextEnd 3 = .ok (.istore_n 3, 1) := by decide +kernel
theorem dX3_nextEnd_4 : decode cX3_nextEnd 4 = .ok (.iload_n 3, 1) := by decide +kernel
theorem dX3_nextEnd_5 : decode cX3_nextEnd 5 = .ok (.bipush 30, 2) := by decide +kernel
theorem dX3_nextEnd_7 : decode cX3_nextEnd 7 = .ok (.if_icmp .ge 50, 3) := by decide +kernel
theorem dX3_nextEnd_10 : decode cX3_nextEnd 10 = .ok (.aload_n 0, 1) := by decide +kernel
theorem dX3_nextEnd_11 : decode cX3_nextEnd 11 = .ok (.getfield 11, 3) := by decide +kernel
theorem dX3_nextEnd_14 : decode cX3_nextEnd 14 = .ok (.iload_n 3, 1) := by decide +kernel
theorem dX3_nextEnd_15 : decode cX3_nextEnd 15 = .ok (.iaload, 1) := by decide +kernel
theorem dX3_nextEnd_16 : decode cX3_nextEnd 16 = .ok (.ifCond .eq 35, 3) := by decide +kernel
theorem dX3_nextEnd_19 : decode cX3_nextEnd 19 = .ok (.aload_n 0, 1) := by decide +kernel
theorem dX3_nextEnd_20 : decode cX3_nextEnd 20 = .ok (.getfield 21, 3) := by decide +kernel
theorem dX3_nextEnd_23 : decode cX3_nextEnd 23 = .ok (.iload_n 3, 1) := by decide +kernel
theorem dX3_nextEnd_24 : decode cX3_nextEnd 24 = .ok (.iaload, 1) := by decide +kernel
theorem dX3_nextEnd_25 : decode cX3_nextEnd 25 = .ok (.iload_n 1, 1) := by decide +kernel
theorem dX3_nextEnd_26 : decode cX3_nextEnd 26 = .ok (.if_icmp .le 25, 3) := by decide +kernel
theorem dX3_nextEnd_29 : decode cX3_nextEnd 29 = .ok (.iload_n 2, 1) := by decide +kernel
theorem dX3_nextEnd_30 : decode cX3_nextEnd 30 = .ok (.iload_n 1, 1) := by decide +kernel
theorem dX3_nextEnd_31 : decode cX3_nextEnd 31 = .ok (.if_icmp .eq 13, 3) := by decide +kernel
theorem dX3_nextEnd_34 : decode cX3_nextEnd 34 = .ok (.aload_n 0, 1) := by decide +kernel
theorem dX3_nextEnd_35 : decode cX3_nextEnd 35 = .ok (.getfield 21, 3) := by decide +kernel
theorem dX3_nextEnd_38 : decode cX3_nextEnd 38 = .ok (.iload_n 3, 1) := by decide +kernel
theorem dX3_nextEnd_39 : decode cX3_nextEnd 39 = .ok (.iaload, 1) := by decide +kernel
theorem dX3_nextEnd_40 : decode cX3_nextEnd 40 = .ok (.iload_n 2, 1) := by decide +kernel
theorem dX3_nextEnd_41 : decode cX3_nextEnd 41 = .ok (.if_icmp .ge 10, 3) := by decide +kernel
theorem dX3_nextEnd_44 : decode cX3_nextEnd 44 = .ok (.aload_n 0, 1) := by decide +kernel
theorem dX3_nextEnd_45 : decode cX3_nextEnd 45 = .ok (.getfield 21, 3) := by decide +kernel
theorem dX3_nextEnd_48 : decode cX3_nextEnd 48 = .ok (.iload_n 3, 1) := by decide +kernel
theorem dX3_nextEnd_49 : decode cX3_nextEnd 49 = .ok (.iaload, 1) := by decide +kernel
theorem dX3_nextEnd_50 : decode cX3_nextEnd 50 = .ok (.istore_n 2, 1) := by decide +kernel
theorem dX3_nextEnd_51 : decode cX3_nextEnd 51 = .ok (.iinc 3 1, 3) := by decide +kernel
theorem dX3_nextEnd_54 : decode cX3_nextEnd 54 = .ok (.goto (-50), 3) := by decide +kernel
theorem dX3_nextEnd_57 : decode cX3_nextEnd 57 = .ok (.iload_n 2, 1) := by decide +kernel
theorem dX3_nextEnd_58 : decode cX3_nextEnd 58 = .ok (.ireturn, 1) := by decide +kernel
theorem dX3_slotAt_0 : decode cX3_slotAt 0 = .ok (.iconst 0, 1) := by decide +kernel
theorem dX3_slotAt_1 : decode cX3_slotAt 1 = .ok (.istore_n 3, 1) := by decide +kernel
theorem dX3_slotAt_2 : decode cX3_slotAt 2 = .ok (.iload_n 3, 1) := by decide +kernel
theorem dX3_slotAt_3 : decode cX3_slotAt 3 = .ok (.bipush 30, 2) := by decide +kernel
theorem dX3_slotAt_5 : decode cX3_slotAt 5 = .ok (.if_icmp .ge 56, 3) := by decide +kernel
theorem dX3_slotAt_8 : decode cX3_slotAt 8 = .ok (.aload_n 0, 1) := by decide +kernel
theorem dX3_slotAt_9 : decode cX3_slotAt 9 = .ok (.getfield 18, 3) := by decide +kernel
theorem dX3_slotAt_12 : decode cX3_slotAt 12 = .ok (.iload_n 3, 1) := by decide +kernel
theorem dX3_slotAt_13 : decode cX3_slotAt 13 = .ok (.iaload, 1) := by decide +kernel
theorem dX3_slotAt_14 : decode cX3_slotAt 14 = .ok (.iload_n 2, 1) := by decide +kernel
theorem dX3_slotAt_15 : decode cX3_slotAt 15 = .ok (.if_icmp .gt 17, 3) := by decide +kernel
theorem dX3_slotAt_18 : decode cX3_slotAt 18 = .ok (.iload_n 2, 1) := by decide +kernel
theorem dX3_slotAt_19 : decode cX3_slotAt 19 = .ok (.aload_n 0, 1) := by decide +kernel
theorem dX3_slotAt_20 : decode cX3_slotAt 20 = .ok (.getfield 21, 3) := by decide +kernel
theorem dX3_slotAt_23 : decode cX3_slotAt 23 = .ok (.iload_n 3, 1) := by decide +kernel
theorem dX3_slotAt_24 : decode cX3_slotAt 24 = .ok (.iaload, 1) := by decide +kernel
theorem dX3_slotAt_25 : decode cX3_slotAt 25 = .ok (.if_icmp .ge 7, 3) := by decide +kernel
theorem dX3_slotAt_28 : decode cX3_slotAt 28 = .ok (.iconst 1, 1) := by decide +kernel
theorem dX3_slotAt_29 : decode cX3_slotAt 29 = .ok (.goto 4, 3) := by decide +kernel
theorem dX3_slotAt_32 : decode cX3_slotAt 32 = .ok (.iconst 0, 1) := by decide +kernel
theorem dX3_slotAt_33 : decode cX3_slotAt 33 = .ok (.istore 4, 2) := by decide +kernel
theorem dX3_slotAt_35 : decode cX3_slotAt 35 = .ok (.iload 4, 2) := by decide +kernel
theorem dX3_slotAt_37 : decode cX3_slotAt 37 = .ok (.ifCond .eq 18, 3) := by decide +kernel
theorem dX3_slotAt_40 : decode cX3_slotAt 40 = .ok (.aload_n 0, 1) := by decide +kernel
theorem dX3_slotAt_41 : decode cX3_slotAt 41 = .ok (.getfield 11, 3) := by decide +kernel
theorem dX3_slotAt_44 : decode cX3_slotAt 44 = .ok (.iload_n 3, 1) := by decide +kernel
theorem dX3_slotAt_45 : decode cX3_slotAt 45 = .ok (.iaload, 1) := by decide +kernel
theorem dX3_slotAt_46 : decode cX3_slotAt 46 = .ok (.iload_n 1, 1) := by decide +kernel
theorem dX3_slotAt_47 : decode cX3_slotAt 47 = .ok (.iushr, 1) := by decide +kernel
theorem dX3_slotAt_48 : decode cX3_slotAt 48 = .ok (.iconst 1, 1) := by decide +kernel
theorem dX3_slotAt_49 : decode cX3_slotAt 49 = .ok (.iand, 1) := by decide +kernel
theorem dX3_slotAt_50 : decode cX3_slotAt 50 = .ok (.ifCond .eq 5, 3) := by decide +kernel
theorem dX3_slotAt_53 : decode cX3_slotAt 53 = .ok (.iload_n 3, 1) := by decide +kernel
theorem dX3_slotAt_54 : decode cX3_slotAt 54 = .ok (.ireturn, 1) := by decide +kernel
theorem dX3_slotAt_55 : decode cX3_slotAt 55 = .ok (.iinc 3 1, 3) := by decide +kernel
theorem dX3_slotAt_58 : decode cX3_slotAt 58 = .ok (.goto (-56), 3) := by decide +kernel
theorem dX3_slotAt_61 : decode cX3_slotAt 61 = .ok (.iconst (-1), 1) := by decide +kernel
theorem dX3_slotAt_62 : decode cX3_slotAt 62 = .ok (.ireturn, 1) := by decide +kernel
theorem dX3_endOfJobs_0 : decode cX3_endOfJobs 0 = .ok (.iconst 0, 1) := by decide +kernel
theorem dX3_endOfJobs_1 : decode cX3_endOfJobs 1 = .ok (.istore_n 1, 1) := by decide +kernel
theorem dX3_endOfJobs_2 : decode cX3_endOfJobs 2 = .ok (.iconst 0, 1) := by decide +kernel
theorem dX3_endOfJobs_3 : decode cX3_endOfJobs 3 = .ok (.istore_n 2, 1) := by decide +kernel
theorem dX3_endOfJobs_4 : decode cX3_endOfJobs 4 = .ok (.iload_n 2, 1) := by decide +kernel
theorem dX3_endOfJobs_5 : decode cX3_endOfJobs 5 = .ok (.bipush 24, 2) := by decide +kernel
theorem dX3_endOfJobs_7 : decode cX3_endOfJobs 7 = .ok (.if_icmp .ge 29, 3) := by decide +kernel
theorem dX3_endOfJobs_10 : decode cX3_endOfJobs 10 = .ok (.aload_n 0, 1) := by decide +kernel
theorem dX3_endOfJobs_11 : decode cX3_endOfJobs 11 = .ok (.getfield 11, 3) := by decide +kernel
theorem dX3_endOfJobs_14 : decode cX3_endOfJobs 14 = .ok (.iload_n 2, 1) := by decide +kernel
theorem dX3_endOfJobs_15 : decode cX3_endOfJobs 15 = .ok (.iaload, 1) := by decide +kernel
theorem dX3_endOfJobs_16 : decode cX3_endOfJobs 16 = .ok (.ifCond .eq 14, 3) := by decide +kernel
theorem dX3_endOfJobs_19 : decode cX3_endOfJobs 19 = .ok (.iload_n 1, 1) := by decide +kernel
theorem dX3_endOfJobs_20 : decode cX3_endOfJobs 20 = .ok (.aload_n 0, 1) := by decide +kernel
theorem dX3_endOfJobs_21 : decode cX3_endOfJobs 21 = .ok (.getfield 21, 3) := by decide +kernel
theorem dX3_endOfJobs_24 : decode cX3_endOfJobs 24 = .ok (.iload_n 2, 1) := by decide +kernel
theorem dX3_endOfJobs_25 : decode cX3_endOfJobs 25 = .ok (.iaload, 1) := by decide +kernel
theorem dX3_endOfJobs_26 : decode cX3_endOfJobs 26 = .ok (.invokestatic 38, 3) := by decide +kernel
theorem dX3_endOfJobs_29 : decode cX3_endOfJobs 29 = .ok (.istore_n 1, 1) := by decide +kernel
theorem dX3_endOfJobs_30 : decode cX3_endOfJobs 30 = .ok (.iinc 2 1, 3) := by decide +kernel
theorem dX3_endOfJobs_33 : decode cX3_endOfJobs 33 = .ok (.goto (-29), 3) := by decide +kernel
theorem dX3_endOfJobs_36 : decode cX3_endOfJobs 36 = .ok (.iload_n 1, 1) := by decide +kernel
theorem dX3_endOfJobs_37 : decode cX3_endOfJobs 37 = .ok (.ireturn, 1) := by decide +kernel
theorem dX3_copyFrom_0 : decode cX3_copyFrom 0 = .ok (.aload_n 1, 1) := by decide +kernel
theorem dX3_copyFrom_1 : decode cX3_copyFrom 1 = .ok (.getfield 11, 3) := by decide +kernel
theorem dX3_copyFrom_4 : decode cX3_copyFrom 4 = .ok (.iconst 0, 1) := by decide +kernel
theorem dX3_copyFrom_5 : decode cX3_copyFrom 5 = .ok (.aload_n 0, 1) := by decide +kernel
theorem dX3_copyFrom_6 : decode cX3_copyFrom 6 = .ok (.getfield 11, 3) := by decide +kernel
theorem dX3_copyFrom_9 : decode cX3_copyFrom 9 = .ok (.iconst 0, 1) := by decide +kernel
theorem dX3_copyFrom_10 : decode cX3_copyFrom 10 = .ok (.bipush 30, 2) := by decide +kernel
theorem dX3_copyFrom_12 : decode cX3_copyFrom 12 = .ok (.invokestatic 43, 3) := by decide +kernel
theorem dX3_copyFrom_15 : decode cX3_copyFrom 15 = .ok (.aload_n 1, 1) := by decide +kernel
theorem dX3_copyFrom_16 : decode cX3_copyFrom 16 = .ok (.getfield 15, 3) := by decide +kernel
theorem dX3_copyFrom_19 : decode cX3_copyFrom 19 = .ok (.iconst 0, 1) := by decide +kernel
theorem dX3_copyFrom_20 : decode cX3_copyFrom 20 = .ok (.aload_n 0, 1) := by decide +kernel
theorem dX3_copyFrom_21 : decode cX3_copyFrom 21 = .ok (.getfield 15, 3) := by decide +kernel
theorem dX3_copyFrom_24 : decode cX3_copyFrom 24 = .ok (.iconst 0, 1) := by decide +kernel
theorem dX3_copyFrom_25 : decode cX3_copyFrom 25 = .ok (.bipush 30, 2) := by decide +kernel
theorem dX3_copyFrom_27 : decode cX3_copyFrom 27 = .ok (.invokestatic 43, 3) := by decide +kernel
theorem dX3_copyFrom_30 : decode cX3_copyFrom 30 = .ok (.aload_n 1, 1) := by decide +kernel
theorem dX3_copyFrom_31 : decode cX3_copyFrom 31 = .ok (.getfield 18, 3) := by decide +kernel
theorem dX3_copyFrom_34 : decode cX3_copyFrom 34 = .ok (.iconst 0, 1) := by decide +kernel
theorem dX3_copyFrom_35 : decode cX3_copyFrom 35 = .ok (.aload_n 0, 1) := by decide +kernel
theorem dX3_copyFrom_36 : decode cX3_copyFrom 36 = .ok (.getfield 18, 3) := by decide +kernel
theorem dX3_copyFrom_39 : decode cX3_copyFrom 39 = .ok (.iconst 0, 1) := by decide +kernel
theorem dX3_copyFrom_40 : decode cX3_copyFrom 40 = .ok (.bipush 30, 2) := by decide +kernel
theorem dX3_copyFrom_42 : decode cX3_copyFrom 42 = .ok (.invokestatic 43, 3) := by decide +kernel
theorem dX3_copyFrom_45 : decode cX3_copyFrom 45 = .ok (.aload_n 1, 1) := by decide +kernel
theorem dX3_copyFrom_46 : decode cX3_copyFrom 46 = .ok (.getfield 21, 3) := by decide +kernel
theorem dX3_copyFrom_49 : decode cX3_copyFrom 49 = .ok (.iconst 0, 1) := by decide +kernel
theorem dX3_copyFrom_50 : decode cX3_copyFrom 50 = .ok (.aload_n 0, 1) := by decide +kernel
theorem dX3_copyFrom_51 : decode cX3_copyFrom 51 = .ok (.getfield 21, 3) := by decide +kernel
theorem dX3_copyFrom_54 : decode cX3_copyFrom 54 = .ok (.iconst 0, 1) := by decide +kernel
theorem dX3_copyFrom_55 : decode cX3_copyFrom 55 = .ok (.bipush 30, 2) := by decide +kernel
theorem dX3_copyFrom_57 : decode cX3_copyFrom 57 = .ok (.invokestatic 43, 3) := by decide +kernel
theorem dX3_copyFrom_60 : decode cX3_copyFrom 60 = .ok (.return_, 1) := by decide +kernel
theorem dX4_init_0 : decode cX4_init 0 = .ok (.aload_n 0, 1) := by decide +kernel
theorem dX4_init_1 : decode cX4_init 1 = .ok (.invokespecial 1, 3) := by decide +kernel
theorem dX4_init_4 : decode cX4_init 4 = .ok (.aload_n 0, 1) := by decide +kernel
theorem dX4_init_5 : decode cX4_init 5 = .ok (.new 7, 3) := by decide +kernel
theorem dX4_init_8 : decode cX4_init 8 = .ok (.dup, 1) := by decide +kernel
theorem dX4_init_9 : decode cX4_init 9 = .ok (.invokespecial 9, 3) := by decide +kernel
theorem dX4_init_12 : decode cX4_init 12 = .ok (.putfield 10, 3) := by decide +kernel
theorem dX4_init_15 : decode cX4_init 15 = .ok (.aload_n 0, 1) := by decide +kernel
theorem dX4_init_16 : decode cX4_init 16 = .ok (.new 7, 3) := by decide +kernel
theorem dX4_init_19 : decode cX4_init 19 = .ok (.dup, 1) := by decide +kernel
theorem dX4_init_20 : decode cX4_init 20 = .ok (.invokespecial 9, 3) := by decide +kernel
theorem dX4_init_23 : decode cX4_init 23 = .ok (.putfield 16, 3) := by decide +kernel
theorem dX4_init_26 : decode cX4_init 26 = .ok (.aload_n 0, 1) := by decide +kernel
theorem dX4_init_27 : decode cX4_init 27 = .ok (.iconst 0, 1) := by decide +kernel
theorem dX4_init_28 : decode cX4_init 28 = .ok (.putfield 19, 3) := by decide +kernel
theorem dX4_init_31 : decode cX4_init 31 = .ok (.aload_n 0, 1) := by decide +kernel
theorem dX4_init_32 : decode cX4_init 32 = .ok (.iconst 0, 1) := by decide +kernel
theorem dX4_init_33 : decode cX4_init 33 = .ok (.putfield 23, 3) := by decide +kernel
theorem dX4_init_36 : decode cX4_init 36 = .ok (.return_, 1) := by decide +kernel
theorem dX4_submit_0 : decode cX4_submit 0 = .ok (.iload_n 1, 1) := by decide +kernel
theorem dX4_submit_1 : decode cX4_submit 1 = .ok (.invokestatic 27, 3) := by decide +kernel
theorem dX4_submit_4 : decode cX4_submit 4 = .ok (.ifCond .eq 29, 3) := by decide +kernel
theorem dX4_submit_7 : decode cX4_submit 7 = .ok (.iload_n 2, 1) := by decide +kernel
theorem dX4_submit_8 : decode cX4_submit 8 = .ok (.invokestatic 31, 3) := by decide +kernel
theorem dX4_submit_11 : decode cX4_submit 11 = .ok (.ifCond .eq 22, 3) := by decide +kernel
theorem dX4_submit_14 : decode cX4_submit 14 = .ok (.iload_n 3, 1) := by decide +kernel
theorem dX4_submit_15 : decode cX4_submit 15 = .ok (.invokestatic 34, 3) := by decide +kernel
theorem dX4_submit_18 : decode cX4_submit 18 = .ok (.ifCond .eq 15, 3) := by decide +kernel
theorem dX4_submit_21 : decode cX4_submit 21 = .ok (.iload 4, 2) := by decide +kernel
theorem dX4_submit_23 : decode cX4_submit 23 = .ok (.iconst 1, 1) := by decide +kernel
theorem dX4_submit_24 : decode cX4_submit 24 = .ok (.if_icmp .lt 9, 3) := by decide +kernel
theorem dX4_submit_27 : decode cX4_submit 27 = .ok (.iload 4, 2) := by decide +kernel
theorem dX4_submit_29 : decode cX4_submit 29 = .ok (.iload_n 3, 1) := by decide +kernel
theorem dX4_submit_30 : decode cX4_submit 30 = .ok (.if_icmp .le 13, 3) := by decide +kernel
theorem dX4_submit_33 : decode cX4_submit 33 = .ok (.new 37, 3) := by decide +kernel
theorem dX4_submit_36 : decode cX4_submit 36 = .ok (.dup, 1) := by decide +kernel
theorem dX4_submit_37 : decode cX4_submit 37 = .ok (.ldc 39, 2) := by decide +kernel
theorem dX4_submit_39 : decode cX4_submit 39 = .ok (.invokespecial 41, 3) := by decide +kernel
theorem dX4_submit_42 : decode cX4_submit 42 = .ok (.athrow, 1) := by decide +kernel
theorem dX4_submit_43 : decode cX4_submit 43 = .ok (.aload_n 0, 1) := by decide +kernel
theorem dX4_submit_44 : decode cX4_submit 44 = .ok (.getfield 10, 3) := by decide +kernel
theorem dX4_submit_47 : decode cX4_submit 47 = .ok (.getfield 44, 3) := by decide +kernel
theorem dX4_submit_50 : decode cX4_submit 50 = .ok (.getfield 48, 3) := by decide +kernel
theorem dX4_submit_53 : decode cX4_submit 53 = .ok (.bipush 24, 2) := by decide +kernel
theorem dX4_submit_55 : decode cX4_submit 55 = .ok (.if_icmp .lt 13, 3) := by decide +kernel
theorem dX4_submit_58 : decode cX4_submit 58 = .ok (.new 53, 3) := by decide +kernel
theorem dX4_submit_61 : decode cX4_submit 61 = .ok (.dup, 1) := by decide +kernel
theorem dX4_submit_62 : decode cX4_submit 62 = .ok (.ldc 55, 2) := by decide +kernel
theorem dX4_submit_64 : decode cX4_submit 64 = .ok (.invokespecial 57, 3) := by decide +kernel
theorem dX4_submit_67 : decode cX4_submit 67 = .ok (.athrow, 1) := by decide +kernel
theorem dX4_submit_68 : decode cX4_submit 68 = .ok (.aload_n 0, 1) := by decide +kernel
theorem dX4_submit_69 : decode cX4_submit 69 = .ok (.getfield 10, 3) := by decide +kernel
theorem dX4_submit_72 : decode cX4_submit 72 = .ok (.iload_n 1, 1) := by decide +kernel
theorem dX4_submit_73 : decode cX4_submit 73 = .ok (.iload_n 2, 1) := by decide +kernel
theorem dX4_submit_74 : decode cX4_submit 74 = .ok (.iload_n 3, 1) := by decide +kernel
theorem dX4_submit_75 : decode cX4_submit 75 = .ok (.iload 4, 2) := by decide +kernel
theorem dX4_submit_77 : decode cX4_submit 77 = .ok (.invokevirtual 58, 3) := by decide +kernel
theorem dX4_submit_80 : decode cX4_submit 80 = .ok (.ireturn, 1) := by decide +kernel
theorem dX4_advance_0 : decode cX4_advance 0 = .ok (.iload_n 1, 1) := by decide +kernel
theorem dX4_advance_1 : decode cX4_advance 1 = .ok (.iconst 1, 1) := by decide +kernel
theorem dX4_advance_2 : decode cX4_advance 2 = .ok (.if_icmp .lt 9, 3) := by decide +kernel
theorem dX4_advance_5 : decode cX4_advance 5 = .ok (.iload_n 1, 1) := by decide +kernel
theorem dX4_advance_6 : decode cX4_advance 6 = .ok (.bipush 50, 2) := by decide +kernel
theorem dX4_advance_8 : decode cX4_advance 8 = .ok (.if_icmp .le 13, 3) := by decide +kernel
theorem dX4_advance_11 : decode cX4_advance 11 = .ok (.new 37, 3) := by decide +kernel
theorem dX4_advance_14 : decode cX4_advance 14 = .ok (.dup, 1) := by decide +kernel
theorem dX4_advance_15 : decode cX4_advance 15 = .ok (.ldc 62, 2) := by decide +kernel
theorem dX4_advance_17 : decode cX4_advance 17 = .ok (.invokespecial 41, 3) := by decide +kernel
theorem dX4_advance_20 : decode cX4_advance 20 = .ok (.athrow, 1) := by decide +kernel
theorem dX4_advance_21 : decode cX4_advance 21 = .ok (.aload_n 0, 1) := by decide +kernel
theorem dX4_advance_22 : decode cX4_advance 22 = .ok (.getfield 10, 3) := by decide +kernel
theorem dX4_advance_25 : decode cX4_advance 25 = .ok (.getfield 64, 3) := by decide +kernel
theorem dX4_advance_28 : decode cX4_advance 28 = .ok (.iload_n 1, 1) := by decide +kernel
theorem dX4_advance_29 : decode cX4_advance 29 = .ok (.iadd, 1) := by decide +kernel
theorem dX4_advance_30 : decode cX4_advance 30 = .ok (.sipush 1000, 3) := by decide +kernel
theorem dX4_advance_33 : decode cX4_advance 33 = .ok (.if_icmp .le 13, 3) := by decide +kernel
theorem dX4_advance_36 : decode cX4_advance 36 = .ok (.new 53, 3) := by decide +kernel
theorem dX4_advance_39 : decode cX4_advance 39 = .ok (.dup, 1) := by decide +kernel
theorem dX4_advance_40 : decode cX4_advance 40 = .ok (.ldc 67, 2) := by decide +kernel
theorem dX4_advance_42 : decode cX4_advance 42 = .ok (.invokespecial 57, 3) := by decide +kernel
theorem dX4_advance_45 : decode cX4_advance 45 = .ok (.athrow, 1) := by decide +kernel
theorem dX4_advance_46 : decode cX4_advance 46 = .ok (.iconst 0, 1) := by decide +kernel
theorem dX4_advance_47 : decode cX4_advance 47 = .ok (.istore_n 2, 1) := by decide +kernel
theorem dX4_advance_48 : decode cX4_advance 48 = .ok (.iconst 0, 1) := by decide +kernel
theorem dX4_advance_49 : decode cX4_advance 49 = .ok (.istore_n 3, 1) := by decide +kernel
theorem dX4_advance_50 : decode cX4_advance 50 = .ok (.iload_n 3, 1) := by decide +kernel
theorem dX4_advance_51 : decode cX4_advance 51 = .ok (.iload_n 1, 1) := by decide +kernel
theorem dX4_advance_52 : decode cX4_advance 52 = .ok (.if_icmp .ge 19, 3) := by decide +kernel
theorem dX4_advance_55 : decode cX4_advance 55 = .ok (.iload_n 2, 1) := by decide +kernel
theorem dX4_advance_56 : decode cX4_advance 56 = .ok (.aload_n 0, 1) := by decide +kernel
theorem dX4_advance_57 : decode cX4_advance 57 = .ok (.getfield 10, 3) := by decide +kernel
theorem dX4_advance_60 : decode cX4_advance 60 = .ok (.invokevirtual 69, 3) := by decide +kernel
theorem dX4_advance_63 : decode cX4_advance 63 = .ok (.iadd, 1) := by decide +kernel
theorem dX4_advance_64 : decode cX4_advance 64 = .ok (.istore_n 2, 1) := by decide +kernel
theorem dX4_advance_65 : decode cX4_advance 65 = .ok (.iinc 3 1, 3) := by decide +kernel
theorem dX4_advance_68 : decode cX4_advance 68 = .ok (.goto (-18), 3) := by decide +kernel
theorem dX4_advance_71 : decode cX4_advance 71 = .ok (.iload_n 2, 1) := by decide +kernel
theorem dX4_advance_72 : decode cX4_advance 72 = .ok (.ireturn, 1) := by decide +kernel
theorem dX4_cancel_0 : decode cX4_cancel 0 = .ok (.aload_n 0, 1) := by decide +kernel
theorem dX4_cancel_1 : decode cX4_cancel 1 = .ok (.iload_n 1, 1) := by decide +kernel
theorem dX4_cancel_2 : decode cX4_cancel 2 = .ok (.invokevirtual 73, 3) := by decide +kernel
theorem dX4_cancel_5 : decode cX4_cancel 5 = .ok (.aload_n 0, 1) := by decide +kernel
theorem dX4_cancel_6 : decode cX4_cancel 6 = .ok (.iload_n 1, 1) := by decide +kernel
theorem dX4_cancel_7 : decode cX4_cancel 7 = .ok (.invokevirtual 77, 3) := by decide +kernel
theorem dX4_cancel_10 : decode cX4_cancel 10 = .ok (.aload_n 0, 1) := by decide +kernel
theorem dX4_cancel_11 : decode cX4_cancel 11 = .ok (.getfield 10, 3) := by decide +kernel
theorem dX4_cancel_14 : decode cX4_cancel 14 = .ok (.getfield 44, 3) := by decide +kernel
theorem dX4_cancel_17 : decode cX4_cancel 17 = .ok (.getfield 80, 3) := by decide +kernel
theorem dX4_cancel_20 : decode cX4_cancel 20 = .ok (.iload_n 1, 1) := by decide +kernel
theorem dX4_cancel_21 : decode cX4_cancel 21 = .ok (.iaload, 1) := by decide +kernel
theorem dX4_cancel_22 : decode cX4_cancel 22 = .ok (.istore_n 2, 1) := by decide +kernel
theorem dX4_cancel_23 : decode cX4_cancel 23 = .ok (.aload_n 0, 1) := by decide +kernel
theorem dX4_cancel_24 : decode cX4_cancel 24 = .ok (.getfield 10, 3) := by decide +kernel
theorem dX4_cancel_27 : decode cX4_cancel 27 = .ok (.iload_n 1, 1) := by decide +kernel
theorem dX4_cancel_28 : decode cX4_cancel 28 = .ok (.invokevirtual 84, 3) := by decide +kernel
theorem dX4_cancel_31 : decode cX4_cancel 31 = .ok (.iload_n 2, 1) := by decide +kernel
theorem dX4_cancel_32 : decode cX4_cancel 32 = .ok (.ireturn, 1) := by decide +kernel
theorem dX4_preempt_0 : decode cX4_preempt 0 = .ok (.aload_n 0, 1) := by decide +kernel
theorem dX4_preempt_1 : decode cX4_preempt 1 = .ok (.iload_n 1, 1) := by decide +kernel
theorem dX4_preempt_2 : decode cX4_preempt 2 = .ok (.invokevirtual 73, 3) := by decide +kernel
theorem dX4_preempt_5 : decode cX4_preempt 5 = .ok (.iload_n 2, 1) := by decide +kernel
theorem dX4_preempt_6 : decode cX4_preempt 6 = .ok (.ifCond .lt 9, 3) := by decide +kernel
theorem dX4_preempt_9 : decode cX4_preempt 9 = .ok (.iload_n 2, 1) := by decide +kernel
theorem dX4_preempt_10 : decode cX4_preempt 10 = .ok (.bipush 9, 2) := by decide +kernel
theorem dX4_preempt_12 : decode cX4_preempt 12 = .ok (.if_icmp .le 13, 3) := by decide +kernel
theorem dX4_preempt_15 : decode cX4_preempt 15 = .ok (.new 37, 3) := by decide +kernel
theorem dX4_preempt_18 : decode cX4_preempt 18 = .ok (.dup, 1) := by decide +kernel
theorem dX4_preempt_19 : decode cX4_preempt 19 = .ok (.ldc 87, 2) := by decide +kernel
theorem dX4_preempt_21 : decode cX4_preempt 21 = .ok (.invokespecial 41, 3) := by decide +kernel
theorem dX4_preempt_24 : decode cX4_preempt 24 = .ok (.athrow, 1) := by decide +kernel
theorem dX4_preempt_25 : decode cX4_preempt 25 = .ok (.aload_n 0, 1) := by decide +kernel
theorem dX4_preempt_26 : decode cX4_preempt 26 = .ok (.getfield 10, 3) := by decide +kernel
theorem dX4_preempt_29 : decode cX4_preempt 29 = .ok (.getfield 44, 3) := by decide +kernel
theorem dX4_preempt_32 : decode cX4_preempt 32 = .ok (.getfield 80, 3) := by decide +kernel
theorem dX4_preempt_35 : decode cX4_preempt 35 = .ok (.iload_n 1, 1) := by decide +kernel
theorem dX4_preempt_36 : decode cX4_preempt 36 = .ok (.iaload, 1) := by decide +kernel
theorem dX4_preempt_37 : decode cX4_preempt 37 = .ok (.iconst 1, 1) := by decide +kernel
theorem dX4_preempt_38 : decode cX4_preempt 38 = .ok (.if_icmp .eq 13, 3) := by decide +kernel
theorem dX4_preempt_41 : decode cX4_preempt 41 = .ok (.new 53, 3) := by decide +kernel
theorem dX4_preempt_44 : decode cX4_preempt 44 = .ok (.dup, 1) := by decide +kernel
theorem dX4_preempt_45 : decode cX4_preempt 45 = .ok (.ldc 89, 2) := by decide +kernel
theorem dX4_preempt_47 : decode cX4_preempt 47 = .ok (.invokespecial 57, 3) := by decide +kernel
theorem dX4_preempt_50 : decode cX4_preempt 50 = .ok (.athrow, 1) := by decide +kernel
theorem dX4_preempt_51 : decode cX4_preempt 51 = .ok (.aload_n 0, 1) := by decide +kernel
theorem dX4_preempt_52 : decode cX4_preempt 52 = .ok (.getfield 10, 3) := by decide +kernel
theorem dX4_preempt_55 : decode cX4_preempt 55 = .ok (.iload_n 1, 1) := by decide +kernel
theorem dX4_preempt_56 : decode cX4_preempt 56 = .ok (.iload_n 2, 1) := by decide +kernel
theorem dX4_preempt_57 : decode cX4_preempt 57 = .ok (.invokevirtual 91, 3) := by decide +kernel
theorem dX4_preempt_60 : decode cX4_preempt 60 = .ok (.ireturn, 1) := by decide +kernel
theorem dX4_reserve_0 : decode cX4_reserve 0 = .ok (.iload_n 1, 1) := by decide +kernel
theorem dX4_reserve_1 : decode cX4_reserve 1 = .ok (.iload_n 2, 1) := by decide +kernel
theorem dX4_reserve_2 : decode cX4_reserve 2 = .ok (.iload_n 3, 1) := by decide +kernel
theorem dX4_reserve_3 : decode cX4_reserve 3 = .ok (.invokestatic 95, 3) := by decide +kernel
theorem dX4_reserve_6 : decode cX4_reserve 6 = .ok (.aload_n 0, 1) := by decide +kernel
theorem dX4_reserve_7 : decode cX4_reserve 7 = .ok (.aload_n 0, 1) := by decide +kernel
theorem dX4_reserve_8 : decode cX4_reserve 8 = .ok (.iload_n 1, 1) := by decide +kernel
theorem dX4_reserve_9 : decode cX4_reserve 9 = .ok (.iload_n 2, 1) := by decide +kernel
theorem dX4_reserve_10 : decode cX4_reserve 10 = .ok (.iload_n 3, 1) := by decide +kernel
theorem dX4_reserve_11 : decode cX4_reserve 11 = .ok (.invokevirtual 99, 3) := by decide +kernel
theorem dX4_reserve_14 : decode cX4_reserve 14 = .ok (.putfield 23, 3) := by decide +kernel
theorem dX4_reserve_17 : decode cX4_reserve 17 = .ok (.aload_n 0, 1) := by decide +kernel
theorem dX4_reserve_18 : decode cX4_reserve 18 = .ok (.getfield 23, 3) := by decide +kernel
theorem dX4_reserve_21 : decode cX4_reserve 21 = .ok (.ifCond .eq 13, 3) := by decide +kernel
theorem dX4_reserve_24 : decode cX4_reserve 24 = .ok (.new 53, 3) := by decide +kernel
theorem dX4_reserve_27 : decode cX4_reserve 27 = .ok (.dup, 1) := by decide +kernel
theorem dX4_reserve_28 : decode cX4_reserve 28 = .ok (.ldc 103, 2) := by decide +kernel
theorem dX4_reserve_30 : decode cX4_reserve 30 = .ok (.invokespecial 57, 3) := by decide +kernel
theorem dX4_reserve_33 : decode cX4_reserve 33 = .ok (.athrow, 1) := by decide +kernel
theorem dX4_reserve_34 : decode cX4_reserve 34 = .ok (.aload_n 0, 1) := by decide +kernel
theorem dX4_reserve_35 : decode cX4_reserve 35 = .ok (.getfield 10, 3) := by decide +kernel
theorem dX4_reserve_38 : decode cX4_reserve 38 = .ok (.iload_n 1, 1) := by decide +kernel
theorem dX4_reserve_39 : decode cX4_reserve 39 = .ok (.iload_n 2, 1) := by decide +kernel
theorem dX4_reserve_40 : decode cX4_reserve 40 = .ok (.iload_n 3, 1) := by decide +kernel
theorem dX4_reserve_41 : decode cX4_reserve 41 = .ok (.invokevirtual 105, 3) := by decide +kernel
theorem dX4_reserve_44 : decode cX4_reserve 44 = .ok (.ireturn, 1) := by decide +kernel
theorem dX4_refusal_0 : decode cX4_refusal 0 = .ok (.aload_n 0, 1) := by decide +kernel
theorem dX4_refusal_1 : decode cX4_refusal 1 = .ok (.getfield 23, 3) := by decide +kernel
theorem dX4_refusal_4 : decode cX4_refusal 4 = .ok (.ireturn, 1) := by decide +kernel
theorem dX4_cancelReservation_0 : decode cX4_cancelReservation 0 = .ok (.aload_n 0, 1) := by decide +kernel
theorem dX4_cancelReservation_1 : decode cX4_cancelReservation 1 = .ok (.iload_n 1, 1) := by decide +kernel
theorem dX4_cancelReservation_2 : decode cX4_cancelReservation 2 = .ok (.invokevirtual 108, 3) := by decide +kernel
theorem dX4_cancelReservation_5 : decode cX4_cancelReservation 5 = .ok (.aload_n 0, 1) := by decide +kernel
theorem dX4_cancelReservation_6 : decode cX4_cancelReservation 6 = .ok (.getfield 10, 3) := by decide +kernel
theorem dX4_cancelReservation_9 : decode cX4_cancelReservation 9 = .ok (.iload_n 1, 1) := by decide +kernel
theorem dX4_cancelReservation_10 : decode cX4_cancelReservation 10 = .ok (.invokevirtual 111, 3) := by decide +kernel
theorem dX4_cancelReservation_13 : decode cX4_cancelReservation 13 = .ok (.return_, 1) := by decide +kernel
theorem dX4_reservedProcessor_0 : decode cX4_reservedProcessor 0 = .ok (.aload_n 0, 1) := by decide +kernel
theorem dX4_reservedProcessor_1 : decode cX4_reservedProcessor 1 = .ok (.iload_n 1, 1) := by decide +kernel
theorem dX4_reservedProcessor_2 : decode cX4_reservedProcessor 2 = .ok (.invokevirtual 108, 3) := by decide +kernel
theorem dX4_reservedProcessor_5 : decode cX4_reservedProcessor 5 = .ok (.aload_n 0, 1) := by decide +kernel
theorem dX4_reservedProcessor_6 : decode cX4_reservedProcessor 6 = .ok (.getfield 10, 3) := by decide +kernel
theorem dX4_reservedProcessor_9 : decode cX4_reservedProcessor 9 = .ok (.getfield 114, 3) := by decide +kernel
theorem dX4_reservedProcessor_12 : decode cX4_reservedProcessor 12 = .ok (.getfield 118, 3) := by decide +kernel
theorem dX4_reservedProcessor_15 : decode cX4_reservedProcessor 15 = .ok (.bipush 24, 2) := by decide +kernel
theorem dX4_reservedProcessor_17 : decode cX4_reservedProcessor 17 = .ok (.iload_n 1, 1) := by decide +kernel
theorem dX4_reservedProcessor_18 : decode cX4_reservedProcessor 18 = .ok (.iadd, 1) := by decide +kernel
theorem dX4_reservedProcessor_19 : decode cX4_reservedProcessor 19 = .ok (.iaload, 1) := by decide +kernel
theorem dX4_reservedProcessor_20 : decode cX4_reservedProcessor 20 = .ok (.ireturn, 1) := by decide +kernel
theorem dX4_setFair_0 : decode cX4_setFair 0 = .ok (.aload_n 0, 1) := by decide +kernel
theorem dX4_setFair_1 : decode cX4_setFair 1 = .ok (.getfield 10, 3) := by decide +kernel
theorem dX4_setFair_4 : decode cX4_setFair 4 = .ok (.getfield 123, 3) := by decide +kernel
theorem dX4_setFair_7 : decode cX4_setFair 7 = .ok (.istore_n 2, 1) := by decide +kernel
theorem dX4_setFair_8 : decode cX4_setFair 8 = .ok (.aload_n 0, 1) := by decide +kernel
theorem dX4_setFair_9 : decode cX4_setFair 9 = .ok (.getfield 10, 3) := by decide +kernel
theorem dX4_setFair_12 : decode cX4_setFair 12 = .ok (.iload_n 1, 1) := by decide +kernel
theorem dX4_setFair_13 : decode cX4_setFair 13 = .ok (.putfield 123, 3) := by decide +kernel
theorem dX4_setFair_16 : decode cX4_setFair 16 = .ok (.iload_n 2, 1) := by decide +kernel
theorem dX4_setFair_17 : decode cX4_setFair 17 = .ok (.ireturn, 1) := by decide +kernel
theorem dX4_clock_0 : decode cX4_clock 0 = .ok (.aload_n 0, 1) := by decide +kernel
theorem dX4_clock_1 : decode cX4_clock 1 = .ok (.getfield 10, 3) := by decide +kernel
theorem dX4_clock_4 : decode cX4_clock 4 = .ok (.getfield 64, 3) := by decide +kernel
theorem dX4_clock_7 : decode cX4_clock 7 = .ok (.ireturn, 1) := by decide +kernel
theorem dX4_jobCount_0 : decode cX4_jobCount 0 = .ok (.aload_n 0, 1) := by decide +kernel
theorem dX4_jobCount_1 : decode cX4_jobCount 1 = .ok (.getfield 10, 3) := by decide +kernel
theorem dX4_jobCount_4 : decode cX4_jobCount 4 = .ok (.getfield 44, 3) := by decide +kernel
theorem dX4_jobCount_7 : decode cX4_jobCount 7 = .ok (.getfield 48, 3) := by decide +kernel
theorem dX4_jobCount_10 : decode cX4_jobCount 10 = .ok (.ireturn, 1) := by decide +kernel
theorem dX4_state_0 : decode cX4_state 0 = .ok (.aload_n 0, 1) := by decide +kernel
theorem dX4_state_1 : decode cX4_state 1 = .ok (.iload_n 1, 1) := by decide +kernel
theorem dX4_state_2 : decode cX4_state 2 = .ok (.invokevirtual 73, 3) := by decide +kernel
theorem dX4_state_5 : decode cX4_state 5 = .ok (.aload_n 0, 1) := by decide +kernel
theorem dX4_state_6 : decode cX4_state 6 = .ok (.getfield 10, 3) := by decide +kernel
theorem dX4_state_9 : decode cX4_state 9 = .ok (.getfield 44, 3) := by decide +kernel
theorem dX4_state_12 : decode cX4_state 12 = .ok (.getfield 80, 3) := by decide +kernel
theorem dX4_state_15 : decode cX4_state 15 = .ok (.iload_n 1, 1) := by decide +kernel
theorem dX4_state_16 : decode cX4_state 16 = .ok (.iaload, 1) := by decide +kernel
theorem dX4_state_17 : decode cX4_state 17 = .ok (.ireturn, 1) := by decide +kernel
theorem dX4_startTime_0 : decode cX4_startTime 0 = .ok (.aload_n 0, 1) := by decide +kernel
theorem dX4_startTime_1 : decode cX4_startTime 1 = .ok (.iload_n 1, 1) := by decide +kernel
theorem dX4_startTime_2 : decode cX4_startTime 2 = .ok (.invokevirtual 73, 3) := by decide +kernel
theorem dX4_startTime_5 : decode cX4_startTime 5 = .ok (.aload_n 0, 1) := by decide +kernel
theorem dX4_startTime_6 : decode cX4_startTime 6 = .ok (.iload_n 1, 1) := by decide +kernel
theorem dX4_startTime_7 : decode cX4_startTime 7 = .ok (.invokevirtual 77, 3) := by decide +kernel
theorem dX4_startTime_10 : decode cX4_startTime 10 = .ok (.aload_n 0, 1) := by decide +kernel
theorem dX4_startTime_11 : decode cX4_startTime 11 = .ok (.getfield 10, 3) := by decide +kernel
theorem dX4_startTime_14 : decode cX4_startTime 14 = .ok (.getfield 114, 3) := by decide +kernel
theorem dX4_startTime_17 : decode cX4_startTime 17 = .ok (.getfield 126, 3) := by decide +kernel
theorem dX4_startTime_20 : decode cX4_startTime 20 = .ok (.iload_n 1, 1) := by decide +kernel
theorem dX4_startTime_21 : decode cX4_startTime 21 = .ok (.iaload, 1) := by decide +kernel
theorem dX4_startTime_22 : decode cX4_startTime 22 = .ok (.ireturn, 1) := by decide +kernel
theorem dX4_firstProcessor_0 : decode cX4_firstProcessor 0 = .ok (.aload_n 0, 1) := by decide +kernel
theorem dX4_firstProcessor_1 : decode cX4_firstProcessor 1 = .ok (.iload_n 1, 1) := by decide +kernel
theorem dX4_firstProcessor_2 : decode cX4_firstProcessor 2 = .ok (.invokevirtual 73, 3) := by decide +kernel
theorem dX4_firstProcessor_5 : decode cX4_firstProcessor 5 = .ok (.aload_n 0, 1) := by decide +kernel
theorem dX4_firstProcessor_6 : decode cX4_firstProcessor 6 = .ok (.iload_n 1, 1) := by decide +kernel
theorem dX4_firstProcessor_7 : decode cX4_firstProcessor 7 = .ok (.invokevirtual 77, 3) := by decide +kernel
theorem dX4_firstProcessor_10 : decode cX4_firstProcessor 10 = .ok (.aload_n 0, 1) := by decide +kernel
theorem dX4_firstProcessor_11 : decode cX4_firstProcessor 11 = .ok (.getfield 10, 3) := by decide +kernel
theorem dX4_firstProcessor_14 : decode cX4_firstProcessor 14 = .ok (.getfield 114, 3) := by decide +kernel
theorem dX4_firstProcessor_17 : decode cX4_firstProcessor 17 = .ok (.getfield 118, 3) := by decide +kernel
theorem dX4_firstProcessor_20 : decode cX4_firstProcessor 20 = .ok (.iload_n 1, 1) := by decide +kernel
theorem dX4_firstProcessor_21 : decode cX4_firstProcessor 21 = .ok (.iaload, 1) := by decide +kernel
theorem dX4_firstProcessor_22 : decode cX4_firstProcessor 22 = .ok (.ireturn, 1) := by decide +kernel
theorem dX4_promise_0 : decode cX4_promise 0 = .ok (.aload_n 0, 1) := by decide +kernel
theorem dX4_promise_1 : decode cX4_promise 1 = .ok (.iload_n 1, 1) := by decide +kernel
theorem dX4_promise_2 : decode cX4_promise 2 = .ok (.invokevirtual 73, 3) := by decide +kernel
theorem dX4_promise_5 : decode cX4_promise 5 = .ok (.aload_n 0, 1) := by decide +kernel
theorem dX4_promise_6 : decode cX4_promise 6 = .ok (.getfield 10, 3) := by decide +kernel
theorem dX4_promise_9 : decode cX4_promise 9 = .ok (.getfield 44, 3) := by decide +kernel
theorem dX4_promise_12 : decode cX4_promise 12 = .ok (.getfield 129, 3) := by decide +kernel
theorem dX4_promise_15 : decode cX4_promise 15 = .ok (.iload_n 1, 1) := by decide +kernel
theorem dX4_promise_16 : decode cX4_promise 16 = .ok (.iaload, 1) := by decide +kernel
theorem dX4_promise_17 : decode cX4_promise 17 = .ok (.ireturn, 1) := by decide +kernel
theorem dX4_finishTime_0 : decode cX4_finishTime 0 = .ok (.aload_n 0, 1) := by decide +kernel
theorem dX4_finishTime_1 : decode cX4_finishTime 1 = .ok (.iload_n 1, 1) := by decide +kernel
theorem dX4_finishTime_2 : decode cX4_finishTime 2 = .ok (.invokevirtual 73, 3) := by decide +kernel
theorem dX4_finishTime_5 : decode cX4_finishTime 5 = .ok (.aload_n 0, 1) := by decide +kernel
theorem dX4_finishTime_6 : decode cX4_finishTime 6 = .ok (.iload_n 1, 1) := by decide +kernel
theorem dX4_finishTime_7 : decode cX4_finishTime 7 = .ok (.invokevirtual 132, 3) := by decide +kernel
theorem dX4_finishTime_10 : decode cX4_finishTime 10 = .ok (.aload_n 0, 1) := by decide +kernel
theorem dX4_finishTime_11 : decode cX4_finishTime 11 = .ok (.getfield 10, 3) := by decide +kernel
theorem dX4_finishTime_14 : decode cX4_finishTime 14 = .ok (.getfield 44, 3) := by decide +kernel
theorem dX4_finishTime_17 : decode cX4_finishTime 17 = .ok (.getfield 135, 3) := by decide +kernel
theorem dX4_finishTime_20 : decode cX4_finishTime 20 = .ok (.iload_n 1, 1) := by decide +kernel
theorem dX4_finishTime_21 : decode cX4_finishTime 21 = .ok (.iaload, 1) := by decide +kernel
theorem dX4_finishTime_22 : decode cX4_finishTime 22 = .ok (.ireturn, 1) := by decide +kernel
theorem dX4_preemptions_0 : decode cX4_preemptions 0 = .ok (.aload_n 0, 1) := by decide +kernel
theorem dX4_preemptions_1 : decode cX4_preemptions 1 = .ok (.iload_n 1, 1) := by decide +kernel
theorem dX4_preemptions_2 : decode cX4_preemptions 2 = .ok (.invokevirtual 73, 3) := by decide +kernel
theorem dX4_preemptions_5 : decode cX4_preemptions 5 = .ok (.aload_n 0, 1) := by decide +kernel
theorem dX4_preemptions_6 : decode cX4_preemptions 6 = .ok (.getfield 10, 3) := by decide +kernel
theorem dX4_preemptions_9 : decode cX4_preemptions 9 = .ok (.getfield 44, 3) := by decide +kernel
theorem dX4_preemptions_12 : decode cX4_preemptions 12 = .ok (.getfield 138, 3) := by decide +kernel
theorem dX4_preemptions_15 : decode cX4_preemptions 15 = .ok (.iload_n 1, 1) := by decide +kernel
theorem dX4_preemptions_16 : decode cX4_preemptions 16 = .ok (.iaload, 1) := by decide +kernel
theorem dX4_preemptions_17 : decode cX4_preemptions 17 = .ok (.ireturn, 1) := by decide +kernel
theorem dX4_waitTime_0 : decode cX4_waitTime 0 = .ok (.aload_n 0, 1) := by decide +kernel
theorem dX4_waitTime_1 : decode cX4_waitTime 1 = .ok (.iload_n 1, 1) := by decide +kernel
theorem dX4_waitTime_2 : decode cX4_waitTime 2 = .ok (.invokevirtual 73, 3) := by decide +kernel
theorem dX4_waitTime_5 : decode cX4_waitTime 5 = .ok (.aload_n 0, 1) := by decide +kernel
theorem dX4_waitTime_6 : decode cX4_waitTime 6 = .ok (.getfield 10, 3) := by decide +kernel
theorem dX4_waitTime_9 : decode cX4_waitTime 9 = .ok (.getfield 44, 3) := by decide +kernel
theorem dX4_waitTime_12 : decode cX4_waitTime 12 = .ok (.iload_n 1, 1) := by decide +kernel
theorem dX4_waitTime_13 : decode cX4_waitTime 13 = .ok (.invokevirtual 141, 3) := by decide +kernel
theorem dX4_waitTime_16 : decode cX4_waitTime 16 = .ok (.ifCond .ne 13, 3) := by decide +kernel
theorem dX4_waitTime_19 : decode cX4_waitTime 19 = .ok (.new 53, 3) := by decide +kernel
theorem dX4_waitTime_22 : decode cX4_waitTime 22 = .ok (.dup, 1) := by decide +kernel
theorem dX4_waitTime_23 : decode cX4_waitTime 23 = .ok (.ldc 144, 2) := by decide +kernel
theorem dX4_waitTime_25 : decode cX4_waitTime 25 = .ok (.invokespecial 57, 3) := by decide +kernel
theorem dX4_waitTime_28 : decode cX4_waitTime 28 = .ok (.athrow, 1) := by decide +kernel
theorem dX4_waitTime_29 : decode cX4_waitTime 29 = .ok (.aload_n 0, 1) := by decide +kernel
theorem dX4_waitTime_30 : decode cX4_waitTime 30 = .ok (.getfield 10, 3) := by decide +kernel
theorem dX4_waitTime_33 : decode cX4_waitTime 33 = .ok (.getfield 44, 3) := by decide +kernel
theorem dX4_waitTime_36 : decode cX4_waitTime 36 = .ok (.iload_n 1, 1) := by decide +kernel
theorem dX4_waitTime_37 : decode cX4_waitTime 37 = .ok (.invokevirtual 146, 3) := by decide +kernel
theorem dX4_waitTime_40 : decode cX4_waitTime 40 = .ok (.ireturn, 1) := by decide +kernel
theorem dX4_averageWait_0 : decode cX4_averageWait 0 = .ok (.iconst 0, 1) := by decide +kernel
theorem dX4_averageWait_1 : decode cX4_averageWait 1 = .ok (.istore_n 1, 1) := by decide +kernel
theorem dX4_averageWait_2 : decode cX4_averageWait 2 = .ok (.iconst 0, 1) := by decide +kernel
theorem dX4_averageWait_3 : decode cX4_averageWait 3 = .ok (.istore_n 2, 1) := by decide +kernel
theorem dX4_averageWait_4 : decode cX4_averageWait 4 = .ok (.iconst 0, 1) := by decide +kernel
theorem dX4_averageWait_5 : decode cX4_averageWait 5 = .ok (.istore_n 3, 1) := by decide +kernel
theorem dX4_averageWait_6 : decode cX4_averageWait 6 = .ok (.iload_n 3, 1) := by decide +kernel
theorem dX4_averageWait_7 : decode cX4_averageWait 7 = .ok (.aload_n 0, 1) := by decide +kernel
theorem dX4_averageWait_8 : decode cX4_averageWait 8 = .ok (.getfield 10, 3) := by decide +kernel
theorem dX4_averageWait_11 : decode cX4_averageWait 11 = .ok (.getfield 44, 3) := by decide +kernel
theorem dX4_averageWait_14 : decode cX4_averageWait 14 = .ok (.getfield 48, 3) := by decide +kernel
theorem dX4_averageWait_17 : decode cX4_averageWait 17 = .ok (.if_icmp .ge 40, 3) := by decide +kernel
theorem dX4_averageWait_20 : decode cX4_averageWait 20 = .ok (.aload_n 0, 1) := by decide +kernel
theorem dX4_averageWait_21 : decode cX4_averageWait 21 = .ok (.getfield 10, 3) := by decide +kernel
theorem dX4_averageWait_24 : decode cX4_averageWait 24 = .ok (.getfield 44, 3) := by decide +kernel
theorem dX4_averageWait_27 : decode cX4_averageWait 27 = .ok (.iload_n 3, 1) := by decide +kernel
theorem dX4_averageWait_28 : decode cX4_averageWait 28 = .ok (.invokevirtual 141, 3) := by decide +kernel
theorem dX4_averageWait_31 : decode cX4_averageWait 31 = .ok (.ifCond .eq 20, 3) := by decide +kernel
theorem dX4_averageWait_34 : decode cX4_averageWait 34 = .ok (.iload_n 1, 1) := by decide +kernel
theorem dX4_averageWait_35 : decode cX4_averageWait 35 = .ok (.aload_n 0, 1) := by decide +kernel
theorem dX4_averageWait_36 : decode cX4_averageWait 36 = .ok (.getfield 10, 3) := by decide +kernel
theorem dX4_averageWait_39 : decode cX4_averageWait 39 = .ok (.getfield 44, 3) := by decide +kernel
theorem dX4_averageWait_42 : decode cX4_averageWait 42 = .ok (.iload_n 3, 1) := by decide +kernel
theorem dX4_averageWait_43 : decode cX4_averageWait 43 = .ok (.invokevirtual 146, 3) := by decide +kernel
theorem dX4_averageWait_46 : decode cX4_averageWait 46 = .ok (.iadd, 1) := by decide +kernel
theorem dX4_averageWait_47 : decode cX4_averageWait 47 = .ok (.istore_n 1, 1) := by decide +kernel
theorem dX4_averageWait_48 : decode cX4_averageWait 48 = .ok (.iinc 2 1, 3) := by decide +kernel
theorem dX4_averageWait_51 : decode cX4_averageWait 51 = .ok (.iinc 3 1, 3) := by decide +kernel
theorem dX4_averageWait_54 : decode cX4_averageWait 54 = .ok (.goto (-48), 3) := by decide +kernel
theorem dX4_averageWait_57 : decode cX4_averageWait 57 = .ok (.iload_n 2, 1) := by decide +kernel
theorem dX4_averageWait_58 : decode cX4_averageWait 58 = .ok (.ifCond .ne 13, 3) := by decide +kernel
theorem dX4_averageWait_61 : decode cX4_averageWait 61 = .ok (.new 150, 3) := by decide +kernel
theorem dX4_averageWait_64 : decode cX4_averageWait 64 = .ok (.dup, 1) := by decide +kernel
theorem dX4_averageWait_65 : decode cX4_averageWait 65 = .ok (.ldc 152, 2) := by decide +kernel
theorem dX4_averageWait_67 : decode cX4_averageWait 67 = .ok (.invokespecial 154, 3) := by decide +kernel
theorem dX4_averageWait_70 : decode cX4_averageWait 70 = .ok (.athrow, 1) := by decide +kernel
theorem dX4_averageWait_71 : decode cX4_averageWait 71 = .ok (.iload_n 1, 1) := by decide +kernel
theorem dX4_averageWait_72 : decode cX4_averageWait 72 = .ok (.i2d, 1) := by decide +kernel
theorem dX4_averageWait_73 : decode cX4_averageWait 73 = .ok (.iload_n 2, 1) := by decide +kernel
theorem dX4_averageWait_74 : decode cX4_averageWait 74 = .ok (.i2d, 1) := by decide +kernel
theorem dX4_averageWait_75 : decode cX4_averageWait 75 = .ok (.ddiv, 1) := by decide +kernel
theorem dX4_averageWait_76 : decode cX4_averageWait 76 = .ok (.dreturn, 1) := by decide +kernel
theorem dX4_slowdown_0 : decode cX4_slowdown 0 = .ok (.aload_n 0, 1) := by decide +kernel
theorem dX4_slowdown_1 : decode cX4_slowdown 1 = .ok (.iload_n 1, 1) := by decide +kernel
theorem dX4_slowdown_2 : decode cX4_slowdown 2 = .ok (.invokevirtual 73, 3) := by decide +kernel
theorem dX4_slowdown_5 : decode cX4_slowdown 5 = .ok (.aload_n 0, 1) := by decide +kernel
theorem dX4_slowdown_6 : decode cX4_slowdown 6 = .ok (.iload_n 1, 1) := by decide +kernel
theorem dX4_slowdown_7 : decode cX4_slowdown 7 = .ok (.invokevirtual 132, 3) := by decide +kernel
theorem dX4_slowdown_10 : decode cX4_slowdown 10 = .ok (.aload_n 0, 1) := by decide +kernel
theorem dX4_slowdown_11 : decode cX4_slowdown 11 = .ok (.getfield 10, 3) := by decide +kernel
theorem dX4_slowdown_14 : decode cX4_slowdown 14 = .ok (.getfield 44, 3) := by decide +kernel
theorem dX4_slowdown_17 : decode cX4_slowdown 17 = .ok (.getfield 135, 3) := by decide +kernel
theorem dX4_slowdown_20 : decode cX4_slowdown 20 = .ok (.iload_n 1, 1) := by decide +kernel
theorem dX4_slowdown_21 : decode cX4_slowdown 21 = .ok (.iaload, 1) := by decide +kernel
theorem dX4_slowdown_22 : decode cX4_slowdown 22 = .ok (.aload_n 0, 1) := by decide +kernel
theorem dX4_slowdown_23 : decode cX4_slowdown 23 = .ok (.getfield 10, 3) := by decide +kernel
theorem dX4_slowdown_26 : decode cX4_slowdown 26 = .ok (.getfield 44, 3) := by decide +kernel
theorem dX4_slowdown_29 : decode cX4_slowdown 29 = .ok (.getfield 155, 3) := by decide +kernel
theorem dX4_slowdown_32 : decode cX4_slowdown 32 = .ok (.iload_n 1, 1) := by decide +kernel
theorem dX4_slowdown_33 : decode cX4_slowdown 33 = .ok (.iaload, 1) := by decide +kernel
theorem dX4_slowdown_34 : decode cX4_slowdown 34 = .ok (.isub, 1) := by decide +kernel
theorem dX4_slowdown_35 : decode cX4_slowdown 35 = .ok (.istore_n 2, 1) := by decide +kernel
theorem dX4_slowdown_36 : decode cX4_slowdown 36 = .ok (.iload_n 2, 1) := by decide +kernel
theorem dX4_slowdown_37 : decode cX4_slowdown 37 = .ok (.i2f, 1) := by decide +kernel
theorem dX4_slowdown_38 : decode cX4_slowdown 38 = .ok (.aload_n 0, 1) := by decide +kernel
theorem dX4_slowdown_39 : decode cX4_slowdown 39 = .ok (.getfield 10, 3) := by decide +kernel
theorem dX4_slowdown_42 : decode cX4_slowdown 42 = .ok (.getfield 44, 3) := by decide +kernel
theorem dX4_slowdown_45 : decode cX4_slowdown 45 = .ok (.getfield 158, 3) := by decide +kernel
theorem dX4_slowdown_48 : decode cX4_slowdown 48 = .ok (.iload_n 1, 1) := by decide +kernel
theorem dX4_slowdown_49 : decode cX4_slowdown 49 = .ok (.iaload, 1) := by decide +kernel
theorem dX4_slowdown_50 : decode cX4_slowdown 50 = .ok (.i2f, 1) := by decide +kernel
theorem dX4_slowdown_51 : decode cX4_slowdown 51 = .ok (.fdiv, 1) := by decide +kernel
theorem dX4_slowdown_52 : decode cX4_slowdown 52 = .ok (.freturn, 1) := by decide +kernel
theorem dX4_usage_0 : decode cX4_usage 0 = .ok (.iload_n 1, 1) := by decide +kernel
theorem dX4_usage_1 : decode cX4_usage 1 = .ok (.invokestatic 27, 3) := by decide +kernel
theorem dX4_usage_4 : decode cX4_usage 4 = .ok (.ifCond .ne 13, 3) := by decide +kernel
theorem dX4_usage_7 : decode cX4_usage 7 = .ok (.new 161, 3) := by decide +kernel
theorem dX4_usage_10 : decode cX4_usage 10 = .ok (.dup, 1) := by decide +kernel
theorem dX4_usage_11 : decode cX4_usage 11 = .ok (.ldc 163, 2) := by decide +kernel
theorem dX4_usage_13 : decode cX4_usage 13 = .ok (.invokespecial 165, 3) := by decide +kernel
theorem dX4_usage_16 : decode cX4_usage 16 = .ok (.athrow, 1) := by decide +kernel
theorem dX4_usage_17 : decode cX4_usage 17 = .ok (.aload_n 0, 1) := by decide +kernel
theorem dX4_usage_18 : decode cX4_usage 18 = .ok (.getfield 10, 3) := by decide +kernel
theorem dX4_usage_21 : decode cX4_usage 21 = .ok (.iload_n 1, 1) := by decide +kernel
theorem dX4_usage_22 : decode cX4_usage 22 = .ok (.invokevirtual 166, 3) := by decide +kernel
theorem dX4_usage_25 : decode cX4_usage 25 = .ok (.ireturn, 1) := by decide +kernel
theorem dX4_utilization_0 : decode cX4_utilization 0 = .ok (.aload_n 0, 1) := by decide +kernel
theorem dX4_utilization_1 : decode cX4_utilization 1 = .ok (.getfield 10, 3) := by decide +kernel
theorem dX4_utilization_4 : decode cX4_utilization 4 = .ok (.getfield 64, 3) := by decide +kernel
theorem dX4_utilization_7 : decode cX4_utilization 7 = .ok (.ifCond .ne 13, 3) := by decide +kernel
theorem dX4_utilization_10 : decode cX4_utilization 10 = .ok (.new 150, 3) := by decide +kernel
theorem dX4_utilization_13 : decode cX4_utilization 13 = .ok (.dup, 1) := by decide +kernel
theorem dX4_utilization_14 : decode cX4_utilization 14 = .ok (.ldc 169, 2) := by decide +kernel
theorem dX4_utilization_16 : decode cX4_utilization 16 = .ok (.invokespecial 154, 3) := by decide +kernel
theorem dX4_utilization_19 : decode cX4_utilization 19 = .ok (.athrow, 1) := by decide +kernel
theorem dX4_utilization_20 : decode cX4_utilization 20 = .ok (.iconst 0, 1) := by decide +kernel
theorem dX4_utilization_21 : decode cX4_utilization 21 = .ok (.istore_n 1, 1) := by decide +kernel
theorem dX4_utilization_22 : decode cX4_utilization 22 = .ok (.iconst 0, 1) := by decide +kernel
theorem dX4_utilization_23 : decode cX4_utilization 23 = .ok (.istore_n 2, 1) := by decide +kernel
theorem dX4_utilization_24 : decode cX4_utilization 24 = .ok (.iload_n 2, 1) := by decide +kernel
theorem dX4_utilization_25 : decode cX4_utilization 25 = .ok (.iconst 4, 1) := by decide +kernel
theorem dX4_utilization_26 : decode cX4_utilization 26 = .ok (.if_icmp .ge 20, 3) := by decide +kernel
theorem dX4_utilization_29 : decode cX4_utilization 29 = .ok (.iload_n 1, 1) := by decide +kernel
theorem dX4_utilization_30 : decode cX4_utilization 30 = .ok (.aload_n 0, 1) := by decide +kernel
theorem dX4_utilization_31 : decode cX4_utilization 31 = .ok (.getfield 10, 3) := by decide +kernel
theorem dX4_utilization_34 : decode cX4_utilization 34 = .ok (.iload_n 2, 1) := by decide +kernel
theorem dX4_utilization_35 : decode cX4_utilization 35 = .ok (.invokevirtual 166, 3) := by decide +kernel
theorem dX4_utilization_38 : decode cX4_utilization 38 = .ok (.iadd, 1) := by decide +kernel
theorem dX4_utilization_39 : decode cX4_utilization 39 = .ok (.istore_n 1, 1) := by decide +kernel
theorem dX4_utilization_40 : decode cX4_utilization 40 = .ok (.iinc 2 1, 3) := by decide +kernel
theorem dX4_utilization_43 : decode cX4_utilization 43 = .ok (.goto (-19), 3) := by decide +kernel
theorem dX4_utilization_46 : decode cX4_utilization 46 = .ok (.iload_n 1, 1) := by decide +kernel
theorem dX4_utilization_47 : decode cX4_utilization 47 = .ok (.i2d, 1) := by decide +kernel
theorem dX4_utilization_48 : decode cX4_utilization 48 = .ok (.bipush 32, 2) := by decide +kernel
theorem dX4_utilization_50 : decode cX4_utilization 50 = .ok (.aload_n 0, 1) := by decide +kernel
theorem dX4_utilization_51 : decode cX4_utilization 51 = .ok (.getfield 10, 3) := by decide +kernel
theorem dX4_utilization_54 : decode cX4_utilization 54 = .ok (.getfield 64, 3) := by decide +kernel
theorem dX4_utilization_57 : decode cX4_utilization 57 = .ok (.imul, 1) := by decide +kernel
theorem dX4_utilization_58 : decode cX4_utilization 58 = .ok (.i2d, 1) := by decide +kernel
theorem dX4_utilization_59 : decode cX4_utilization 59 = .ok (.ddiv, 1) := by decide +kernel
theorem dX4_utilization_60 : decode cX4_utilization 60 = .ok (.dreturn, 1) := by decide +kernel
theorem dX4_makespan_0 : decode cX4_makespan 0 = .ok (.aload_n 0, 1) := by decide +kernel
theorem dX4_makespan_1 : decode cX4_makespan 1 = .ok (.getfield 10, 3) := by decide +kernel
theorem dX4_makespan_4 : decode cX4_makespan 4 = .ok (.getfield 64, 3) := by decide +kernel
theorem dX4_makespan_7 : decode cX4_makespan 7 = .ok (.aload_n 0, 1) := by decide +kernel
theorem dX4_makespan_8 : decode cX4_makespan 8 = .ok (.getfield 10, 3) := by decide +kernel
theorem dX4_makespan_11 : decode cX4_makespan 11 = .ok (.getfield 114, 3) := by decide +kernel
theorem dX4_makespan_14 : decode cX4_makespan 14 = .ok (.invokevirtual 171, 3) := by decide +kernel
theorem dX4_makespan_17 : decode cX4_makespan 17 = .ok (.invokestatic 174, 3) := by decide +kernel
theorem dX4_makespan_20 : decode cX4_makespan 20 = .ok (.ireturn, 1) := by decide +kernel
theorem dX4_ownerAt_0 : decode cX4_ownerAt 0 = .ok (.iload_n 1, 1) := by decide +kernel
theorem dX4_ownerAt_1 : decode cX4_ownerAt 1 = .ok (.ifCond .lt 13, 3) := by decide +kernel
theorem dX4_ownerAt_4 : decode cX4_ownerAt 4 = .ok (.iload_n 1, 1) := by decide +kernel
theorem dX4_ownerAt_5 : decode cX4_ownerAt 5 = .ok (.bipush 32, 2) := by decide +kernel
theorem dX4_ownerAt_7 : decode cX4_ownerAt 7 = .ok (.if_icmp .ge 7, 3) := by decide +kernel
theorem dX4_ownerAt_10 : decode cX4_ownerAt 10 = .ok (.iload_n 2, 1) := by decide +kernel
theorem dX4_ownerAt_11 : decode cX4_ownerAt 11 = .ok (.ifCond .ge 13, 3) := by decide +kernel
theorem dX4_ownerAt_14 : decode cX4_ownerAt 14 = .ok (.new 161, 3) := by decide +kernel
theorem dX4_ownerAt_17 : decode cX4_ownerAt 17 = .ok (.dup, 1) := by decide +kernel
theorem dX4_ownerAt_18 : decode cX4_ownerAt 18 = .ok (.ldc 179, 2) := by decide +kernel
theorem dX4_ownerAt_20 : decode cX4_ownerAt 20 = .ok (.invokespecial 165, 3) := by decide +kernel
theorem dX4_ownerAt_23 : decode cX4_ownerAt 23 = .ok (.athrow, 1) := by decide +kernel
theorem dX4_ownerAt_24 : decode cX4_ownerAt 24 = .ok (.aload_n 0, 1) := by decide +kernel
theorem dX4_ownerAt_25 : decode cX4_ownerAt 25 = .ok (.getfield 10, 3) := by decide +kernel
theorem dX4_ownerAt_28 : decode cX4_ownerAt 28 = .ok (.getfield 114, 3) := by decide +kernel
theorem dX4_ownerAt_31 : decode cX4_ownerAt 31 = .ok (.iload_n 1, 1) := by decide +kernel
theorem dX4_ownerAt_32 : decode cX4_ownerAt 32 = .ok (.iload_n 2, 1) := by decide +kernel
theorem dX4_ownerAt_33 : decode cX4_ownerAt 33 = .ok (.invokevirtual 181, 3) := by decide +kernel
theorem dX4_ownerAt_36 : decode cX4_ownerAt 36 = .ok (.istore_n 3, 1) := by decide +kernel
theorem dX4_ownerAt_37 : decode cX4_ownerAt 37 = .ok (.iload_n 3, 1) := by decide +kernel
theorem dX4_ownerAt_38 : decode cX4_ownerAt 38 = .ok (.iconst (-1), 1) := by decide +kernel
theorem dX4_ownerAt_39 : decode cX4_ownerAt 39 = .ok (.if_icmp .ne 5, 3) := by decide +kernel
theorem dX4_ownerAt_42 : decode cX4_ownerAt 42 = .ok (.iconst (-1), 1) := by decide +kernel
theorem dX4_ownerAt_43 : decode cX4_ownerAt 43 = .ok (.ireturn, 1) := by decide +kernel
theorem dX4_ownerAt_44 : decode cX4_ownerAt 44 = .ok (.iload_n 3, 1) := by decide +kernel
theorem dX4_ownerAt_45 : decode cX4_ownerAt 45 = .ok (.bipush 24, 2) := by decide +kernel
theorem dX4_ownerAt_47 : decode cX4_ownerAt 47 = .ok (.if_icmp .ge 7, 3) := by decide +kernel
theorem dX4_ownerAt_50 : decode cX4_ownerAt 50 = .ok (.iload_n 3, 1) := by decide +kernel
theorem dX4_ownerAt_51 : decode cX4_ownerAt 51 = .ok (.goto 10, 3) := by decide +kernel
theorem dX4_ownerAt_54 : decode cX4_ownerAt 54 = .ok (.bipush 100, 2) := by decide +kernel
theorem dX4_ownerAt_56 : decode cX4_ownerAt 56 = .ok (.iload_n 3, 1) := by decide +kernel
theorem dX4_ownerAt_57 : decode cX4_ownerAt 57 = .ok (.iadd, 1) := by decide +kernel
theorem dX4_ownerAt_58 : decode cX4_ownerAt 58 = .ok (.bipush 24, 2) := by decide +kernel
theorem dX4_ownerAt_60 : decode cX4_ownerAt 60 = .ok (.isub, 1) := by decide +kernel
theorem dX4_ownerAt_61 : decode cX4_ownerAt 61 = .ok (.ireturn, 1) := by decide +kernel
theorem dX4_freeProcessors_0 : decode cX4_freeProcessors 0 = .ok (.iload_n 1, 1) := by decide +kernel
theorem dX4_freeProcessors_1 : decode cX4_freeProcessors 1 = .ok (.ifCond .ge 13, 3) := by decide +kernel
theorem dX4_freeProcessors_4 : decode cX4_freeProcessors 4 = .ok (.new 161, 3) := by decide +kernel
theorem dX4_freeProcessors_7 : decode cX4_freeProcessors 7 = .ok (.dup, 1) := by decide +kernel
theorem dX4_freeProcessors_8 : decode cX4_freeProcessors 8 = .ok (.ldc 184, 2) := by decide +kernel
theorem dX4_freeProcessors_10 : decode cX4_freeProcessors 10 = .ok (.invokespecial 165, 3) := by decide +kernel
theorem dX4_freeProcessors_13 : decode cX4_freeProcessors 13 = .ok (.athrow, 1) := by decide +kernel
theorem dX4_freeProcessors_14 : decode cX4_freeProcessors 14 = .ok (.bipush 32, 2) := by decide +kernel
theorem dX4_freeProcessors_16 : decode cX4_freeProcessors 16 = .ok (.aload_n 0, 1) := by decide +kernel
theorem dX4_freeProcessors_17 : decode cX4_freeProcessors 17 = .ok (.getfield 10, 3) := by decide +kernel
theorem dX4_freeProcessors_20 : decode cX4_freeProcessors 20 = .ok (.getfield 114, 3) := by decide +kernel
theorem dX4_freeProcessors_23 : decode cX4_freeProcessors 23 = .ok (.iload_n 1, 1) := by decide +kernel
theorem dX4_freeProcessors_24 : decode cX4_freeProcessors 24 = .ok (.iload_n 1, 1) := by decide +kernel
theorem dX4_freeProcessors_25 : decode cX4_freeProcessors 25 = .ok (.invokevirtual 186, 3) := by decide +kernel
theorem dX4_freeProcessors_28 : decode cX4_freeProcessors 28 = .ok (.invokestatic 189, 3) := by decide +kernel
theorem dX4_freeProcessors_31 : decode cX4_freeProcessors 31 = .ok (.isub, 1) := by decide +kernel
theorem dX4_freeProcessors_32 : decode cX4_freeProcessors 32 = .ok (.ireturn, 1) := by decide +kernel
theorem dX4_freeBlocks_0 : decode cX4_freeBlocks 0 = .ok (.iload_n 1, 1) := by decide +kernel
theorem dX4_freeBlocks_1 : decode cX4_freeBlocks 1 = .ok (.invokestatic 31, 3) := by decide +kernel
theorem dX4_freeBlocks_4 : decode cX4_freeBlocks 4 = .ok (.ifCond .ne 13, 3) := by decide +kernel
theorem dX4_freeBlocks_7 : decode cX4_freeBlocks 7 = .ok (.new 161, 3) := by decide +kernel
theorem dX4_freeBlocks_10 : decode cX4_freeBlocks 10 = .ok (.dup, 1) := by decide +kernel
theorem dX4_freeBlocks_11 : decode cX4_freeBlocks 11 = .ok (.ldc 194, 2) := by decide +kernel
theorem dX4_freeBlocks_13 : decode cX4_freeBlocks 13 = .ok (.invokespecial 165, 3) := by decide +kernel
theorem dX4_freeBlocks_16 : decode cX4_freeBlocks 16 = .ok (.athrow, 1) := by decide +kernel
theorem dX4_freeBlocks_17 : decode cX4_freeBlocks 17 = .ok (.aload_n 0, 1) := by decide +kernel
theorem dX4_freeBlocks_18 : decode cX4_freeBlocks 18 = .ok (.invokevirtual 196, 3) := by decide +kernel
theorem dX4_freeBlocks_21 : decode cX4_freeBlocks 21 = .ok (.istore_n 2, 1) := by decide +kernel
theorem dX4_freeBlocks_22 : decode cX4_freeBlocks 22 = .ok (.iconst 0, 1) := by decide +kernel
theorem dX4_freeBlocks_23 : decode cX4_freeBlocks 23 = .ok (.istore_n 3, 1) := by decide +kernel
theorem dX4_freeBlocks_24 : decode cX4_freeBlocks 24 = .ok (.iconst 0, 1) := by decide +kernel
theorem dX4_freeBlocks_25 : decode cX4_freeBlocks 25 = .ok (.istore 4, 2) := by decide +kernel
theorem dX4_freeBlocks_27 : decode cX4_freeBlocks 27 = .ok (.iload 4, 2) := by decide +kernel
theorem dX4_freeBlocks_29 : decode cX4_freeBlocks 29 = .ok (.bipush 32, 2) := by decide +kernel
theorem dX4_freeBlocks_31 : decode cX4_freeBlocks 31 = .ok (.iload_n 1, 1) := by decide +kernel
theorem dX4_freeBlocks_32 : decode cX4_freeBlocks 32 = .ok (.ishr, 1) := by decide +kernel
theorem dX4_freeBlocks_33 : decode cX4_freeBlocks 33 = .ok (.if_icmp .ge 53, 3) := by decide +kernel
theorem dX4_freeBlocks_36 : decode cX4_freeBlocks 36 = .ok (.iload_n 1, 1) := by decide +kernel
theorem dX4_freeBlocks_37 : decode cX4_freeBlocks 37 = .ok (.iconst 5, 1) := by decide +kernel
theorem dX4_freeBlocks_38 : decode cX4_freeBlocks 38 = .ok (.if_icmp .ge 21, 3) := by decide +kernel
theorem dX4_freeBlocks_41 : decode cX4_freeBlocks 41 = .ok (.iload_n 2, 1) := by decide +kernel
theorem dX4_freeBlocks_42 : decode cX4_freeBlocks 42 = .ok (.iload_n 1, 1) := by decide +kernel
theorem dX4_freeBlocks_43 : decode cX4_freeBlocks 43 = .ok (.iconst 1, 1) := by decide +kernel
theorem dX4_freeBlocks_44 : decode cX4_freeBlocks 44 = .ok (.iadd, 1) := by decide +kernel
theorem dX4_freeBlocks_45 : decode cX4_freeBlocks 45 = .ok (.iload 4, 2) := by decide +kernel
theorem dX4_freeBlocks_47 : decode cX4_freeBlocks 47 = .ok (.iconst 1, 1) := by decide +kernel
theorem dX4_freeBlocks_48 : decode cX4_freeBlocks 48 = .ok (.ishr, 1) := by decide +kernel
theorem dX4_freeBlocks_49 : decode cX4_freeBlocks 49 = .ok (.invokestatic 199, 3) := by decide +kernel
theorem dX4_freeBlocks_52 : decode cX4_freeBlocks 52 = .ok (.ifCond .eq 7, 3) := by decide +kernel
theorem dX4_freeBlocks_55 : decode cX4_freeBlocks 55 = .ok (.iconst 1, 1) := by decide +kernel
theorem dX4_freeBlocks_56 : decode cX4_freeBlocks 56 = .ok (.goto 4, 3) := by decide +kernel
theorem dX4_freeBlocks_59 : decode cX4_freeBlocks 59 = .ok (.iconst 0, 1) := by decide +kernel
theorem dX4_freeBlocks_60 : decode cX4_freeBlocks 60 = .ok (.istore 5, 2) := by decide +kernel
theorem dX4_freeBlocks_62 : decode cX4_freeBlocks 62 = .ok (.iload_n 2, 1) := by decide +kernel
theorem dX4_freeBlocks_63 : decode cX4_freeBlocks 63 = .ok (.iload_n 1, 1) := by decide +kernel
theorem dX4_freeBlocks_64 : decode cX4_freeBlocks 64 = .ok (.iload 4, 2) := by decide +kernel
theorem dX4_freeBlocks_66 : decode cX4_freeBlocks 66 = .ok (.invokestatic 199, 3) := by decide +kernel
theorem dX4_freeBlocks_69 : decode cX4_freeBlocks 69 = .ok (.ifCond .eq 11, 3) := by decide +kernel
theorem dX4_freeBlocks_72 : decode cX4_freeBlocks 72 = .ok (.iload 5, 2) := by decide +kernel
theorem dX4_freeBlocks_74 : decode cX4_freeBlocks 74 = .ok (.ifCond .ne 6, 3) := by decide +kernel
theorem dX4_freeBlocks_77 : decode cX4_freeBlocks 77 = .ok (.iinc 3 1, 3) := by decide +kernel
theorem dX4_freeBlocks_80 : decode cX4_freeBlocks 80 = .ok (.iinc 4 1, 3) := by decide +kernel
theorem dX4_freeBlocks_83 : decode cX4_freeBlocks 83 = .ok (.goto (-56), 3) := by decide +kernel
theorem dX4_freeBlocks_86 : decode cX4_freeBlocks 86 = .ok (.iload_n 3, 1) := by decide +kernel
theorem dX4_freeBlocks_87 : decode cX4_freeBlocks 87 = .ok (.ireturn, 1) := by decide +kernel
theorem dX4_largestFree_0 : decode cX4_largestFree 0 = .ok (.aload_n 0, 1) := by decide +kernel
theorem dX4_largestFree_1 : decode cX4_largestFree 1 = .ok (.invokevirtual 196, 3) := by decide +kernel
theorem dX4_largestFree_4 : decode cX4_largestFree 4 = .ok (.invokestatic 203, 3) := by decide +kernel
theorem dX4_largestFree_7 : decode cX4_largestFree 7 = .ok (.istore_n 1, 1) := by decide +kernel
theorem dX4_largestFree_8 : decode cX4_largestFree 8 = .ok (.iload_n 1, 1) := by decide +kernel
theorem dX4_largestFree_9 : decode cX4_largestFree 9 = .ok (.iconst (-1), 1) := by decide +kernel
theorem dX4_largestFree_10 : decode cX4_largestFree 10 = .ok (.if_icmp .ne 13, 3) := by decide +kernel
theorem dX4_largestFree_13 : decode cX4_largestFree 13 = .ok (.new 206, 3) := by decide +kernel
theorem dX4_largestFree_16 : decode cX4_largestFree 16 = .ok (.dup, 1) := by decide +kernel
theorem dX4_largestFree_17 : decode cX4_largestFree 17 = .ok (.ldc 208, 2) := by decide +kernel
theorem dX4_largestFree_19 : decode cX4_largestFree 19 = .ok (.invokespecial 210, 3) := by decide +kernel
theorem dX4_largestFree_22 : decode cX4_largestFree 22 = .ok (.athrow, 1) := by decide +kernel
theorem dX4_largestFree_23 : decode cX4_largestFree 23 = .ok (.iload_n 1, 1) := by decide +kernel
theorem dX4_largestFree_24 : decode cX4_largestFree 24 = .ok (.ireturn, 1) := by decide +kernel
theorem dX4_fragmentation_0 : decode cX4_fragmentation 0 = .ok (.aload_n 0, 1) := by decide +kernel
theorem dX4_fragmentation_1 : decode cX4_fragmentation 1 = .ok (.invokevirtual 196, 3) := by decide +kernel
theorem dX4_fragmentation_4 : decode cX4_fragmentation 4 = .ok (.istore_n 1, 1) := by decide +kernel
theorem dX4_fragmentation_5 : decode cX4_fragmentation 5 = .ok (.iload_n 1, 1) := by decide +kernel
theorem dX4_fragmentation_6 : decode cX4_fragmentation 6 = .ok (.invokestatic 203, 3) := by decide +kernel
theorem dX4_fragmentation_9 : decode cX4_fragmentation 9 = .ok (.istore_n 2, 1) := by decide +kernel
theorem dX4_fragmentation_10 : decode cX4_fragmentation 10 = .ok (.bipush 32, 2) := by decide +kernel
theorem dX4_fragmentation_12 : decode cX4_fragmentation 12 = .ok (.iload_n 1, 1) := by decide +kernel
theorem dX4_fragmentation_13 : decode cX4_fragmentation 13 = .ok (.invokestatic 189, 3) := by decide +kernel
theorem dX4_fragmentation_16 : decode cX4_fragmentation 16 = .ok (.isub, 1) := by decide +kernel
theorem dX4_fragmentation_17 : decode cX4_fragmentation 17 = .ok (.istore_n 3, 1) := by decide +kernel
theorem dX4_fragmentation_18 : decode cX4_fragmentation 18 = .ok (.iload_n 2, 1) := by decide +kernel
theorem dX4_fragmentation_19 : decode cX4_fragmentation 19 = .ok (.iconst (-1), 1) := by decide +kernel
theorem dX4_fragmentation_20 : decode cX4_fragmentation 20 = .ok (.if_icmp .eq 7, 3) := by decide +kernel
theorem dX4_fragmentation_23 : decode cX4_fragmentation 23 = .ok (.iload_n 3, 1) := by decide +kernel
theorem dX4_fragmentation_24 : decode cX4_fragmentation 24 = .ok (.ifCond .ne 13, 3) := by decide +kernel
theorem dX4_fragmentation_27 : decode cX4_fragmentation 27 = .ok (.new 206, 3) := by decide +kernel
theorem dX4_fragmentation_30 : decode cX4_fragmentation 30 = .ok (.dup, 1) := by decide +kernel
theorem dX4_fragmentation_31 : decode cX4_fragmentation 31 = .ok (.ldc 208, 2) := by decide +kernel
theorem dX4_fragmentation_33 : decode cX4_fragmentation 33 = .ok (.invokespecial 210, 3) := by decide +kernel
theorem dX4_fragmentation_36 : decode cX4_fragmentation 36 = .ok (.athrow, 1) := by decide +kernel
theorem dX4_fragmentation_37 : decode cX4_fragmentation 37 = .ok (.dconst 1, 1) := by decide +kernel
theorem dX4_fragmentation_38 : decode cX4_fragmentation 38 = .ok (.iconst 1, 1) := by decide +kernel
theorem dX4_fragmentation_39 : decode cX4_fragmentation 39 = .ok (.iload_n 2, 1) := by decide +kernel
theorem dX4_fragmentation_40 : decode cX4_fragmentation 40 = .ok (.ishl, 1) := by decide +kernel
theorem dX4_fragmentation_41 : decode cX4_fragmentation 41 = .ok (.i2d, 1) := by decide +kernel
theorem dX4_fragmentation_42 : decode cX4_fragmentation 42 = .ok (.iload_n 3, 1) := by decide +kernel
theorem dX4_fragmentation_43 : decode cX4_fragmentation 43 = .ok (.i2d, 1) := by decide +kernel
theorem dX4_fragmentation_44 : decode cX4_fragmentation 44 = .ok (.ddiv, 1) := by decide +kernel
theorem dX4_fragmentation_45 : decode cX4_fragmentation 45 = .ok (.dsub, 1) := by decide +kernel
theorem dX4_fragmentation_46 : decode cX4_fragmentation 46 = .ok (.dreturn, 1) := by decide +kernel
theorem dX4_earliestStart_0 : decode cX4_earliestStart 0 = .ok (.iload_n 1, 1) := by decide +kernel
theorem dX4_earliestStart_1 : decode cX4_earliestStart 1 = .ok (.invokestatic 31, 3) := by decide +kernel
theorem dX4_earliestStart_4 : decode cX4_earliestStart 4 = .ok (.ifCond .eq 10, 3) := by decide +kernel
theorem dX4_earliestStart_7 : decode cX4_earliestStart 7 = .ok (.iload_n 2, 1) := by decide +kernel
theorem dX4_earliestStart_8 : decode cX4_earliestStart 8 = .ok (.invokestatic 34, 3) := by decide +kernel
theorem dX4_earliestStart_11 : decode cX4_earliestStart 11 = .ok (.ifCond .ne 13, 3) := by decide +kernel
theorem dX4_earliestStart_14 : decode cX4_earliestStart 14 = .ok (.new 37, 3) := by decide +kernel
theorem dX4_earliestStart_17 : decode cX4_earliestStart 17 = .ok (.dup, 1) := by decide +kernel
theorem dX4_earliestStart_18 : decode cX4_earliestStart 18 = .ok (.ldc 39, 2) := by decide +kernel
theorem dX4_earliestStart_20 : decode cX4_earliestStart 20 = .ok (.invokespecial 41, 3) := by decide +kernel
theorem dX4_earliestStart_23 : decode cX4_earliestStart 23 = .ok (.athrow, 1) := by decide +kernel
theorem dX4_earliestStart_24 : decode cX4_earliestStart 24 = .ok (.aload_n 0, 1) := by decide +kernel
theorem dX4_earliestStart_25 : decode cX4_earliestStart 25 = .ok (.getfield 10, 3) := by decide +kernel
theorem dX4_earliestStart_28 : decode cX4_earliestStart 28 = .ok (.getfield 114, 3) := by decide +kernel
theorem dX4_earliestStart_31 : decode cX4_earliestStart 31 = .ok (.iload_n 1, 1) := by decide +kernel
theorem dX4_earliestStart_32 : decode cX4_earliestStart 32 = .ok (.aload_n 0, 1) := by decide +kernel
theorem dX4_earliestStart_33 : decode cX4_earliestStart 33 = .ok (.getfield 10, 3) := by decide +kernel
theorem dX4_earliestStart_36 : decode cX4_earliestStart 36 = .ok (.getfield 64, 3) := by decide +kernel
theorem dX4_earliestStart_39 : decode cX4_earliestStart 39 = .ok (.iload_n 2, 1) := by decide +kernel
theorem dX4_earliestStart_40 : decode cX4_earliestStart 40 = .ok (.invokevirtual 211, 3) := by decide +kernel
theorem dX4_earliestStart_43 : decode cX4_earliestStart 43 = .ok (.ireturn, 1) := by decide +kernel
theorem dX4_lowestBlock_0 : decode cX4_lowestBlock 0 = .ok (.iload_n 1, 1) := by decide +kernel
theorem dX4_lowestBlock_1 : decode cX4_lowestBlock 1 = .ok (.iload_n 2, 1) := by decide +kernel
theorem dX4_lowestBlock_2 : decode cX4_lowestBlock 2 = .ok (.iload_n 3, 1) := by decide +kernel
theorem dX4_lowestBlock_3 : decode cX4_lowestBlock 3 = .ok (.invokestatic 95, 3) := by decide +kernel
theorem dX4_lowestBlock_6 : decode cX4_lowestBlock 6 = .ok (.aload_n 0, 1) := by decide +kernel
theorem dX4_lowestBlock_7 : decode cX4_lowestBlock 7 = .ok (.getfield 10, 3) := by decide +kernel
theorem dX4_lowestBlock_10 : decode cX4_lowestBlock 10 = .ok (.getfield 114, 3) := by decide +kernel
theorem dX4_lowestBlock_13 : decode cX4_lowestBlock 13 = .ok (.iload_n 1, 1) := by decide +kernel
theorem dX4_lowestBlock_14 : decode cX4_lowestBlock 14 = .ok (.iload_n 2, 1) := by decide +kernel
theorem dX4_lowestBlock_15 : decode cX4_lowestBlock 15 = .ok (.iload_n 3, 1) := by decide +kernel
theorem dX4_lowestBlock_16 : decode cX4_lowestBlock 16 = .ok (.invokevirtual 214, 3) := by decide +kernel
theorem dX4_lowestBlock_19 : decode cX4_lowestBlock 19 = .ok (.istore 4, 2) := by decide +kernel
theorem dX4_lowestBlock_21 : decode cX4_lowestBlock 21 = .ok (.iload 4, 2) := by decide +kernel
theorem dX4_lowestBlock_23 : decode cX4_lowestBlock 23 = .ok (.iconst (-1), 1) := by decide +kernel
theorem dX4_lowestBlock_24 : decode cX4_lowestBlock 24 = .ok (.if_icmp .ne 13, 3) := by decide +kernel
theorem dX4_lowestBlock_27 : decode cX4_lowestBlock 27 = .ok (.new 206, 3) := by decide +kernel
theorem dX4_lowestBlock_30 : decode cX4_lowestBlock 30 = .ok (.dup, 1) := by decide +kernel
theorem dX4_lowestBlock_31 : decode cX4_lowestBlock 31 = .ok (.ldc 217, 2) := by decide +kernel
theorem dX4_lowestBlock_33 : decode cX4_lowestBlock 33 = .ok (.invokespecial 210, 3) := by decide +kernel
theorem dX4_lowestBlock_36 : decode cX4_lowestBlock 36 = .ok (.athrow, 1) := by decide +kernel
theorem dX4_lowestBlock_37 : decode cX4_lowestBlock 37 = .ok (.iload 4, 2) := by decide +kernel
theorem dX4_lowestBlock_39 : decode cX4_lowestBlock 39 = .ok (.ireturn, 1) := by decide +kernel
theorem dX4_blockStarts_0 : decode cX4_blockStarts 0 = .ok (.iload_n 1, 1) := by decide +kernel
theorem dX4_blockStarts_1 : decode cX4_blockStarts 1 = .ok (.iload_n 2, 1) := by decide +kernel
theorem dX4_blockStarts_2 : decode cX4_blockStarts 2 = .ok (.invokestatic 219, 3) := by decide +kernel
theorem dX4_blockStarts_5 : decode cX4_blockStarts 5 = .ok (.ifCond .ne 13, 3) := by decide +kernel
theorem dX4_blockStarts_8 : decode cX4_blockStarts 8 = .ok (.new 37, 3) := by decide +kernel
theorem dX4_blockStarts_11 : decode cX4_blockStarts 11 = .ok (.dup, 1) := by decide +kernel
theorem dX4_blockStarts_12 : decode cX4_blockStarts 12 = .ok (.ldc 223, 2) := by decide +kernel
theorem dX4_blockStarts_14 : decode cX4_blockStarts 14 = .ok (.invokespecial 41, 3) := by decide +kernel
theorem dX4_blockStarts_17 : decode cX4_blockStarts 17 = .ok (.athrow, 1) := by decide +kernel
theorem dX4_blockStarts_18 : decode cX4_blockStarts 18 = .ok (.aload_n 0, 1) := by decide +kernel
theorem dX4_blockStarts_19 : decode cX4_blockStarts 19 = .ok (.getfield 10, 3) := by decide +kernel
theorem dX4_blockStarts_22 : decode cX4_blockStarts 22 = .ok (.getfield 225, 3) := by decide +kernel
theorem dX4_blockStarts_25 : decode cX4_blockStarts 25 = .ok (.iload_n 1, 1) := by decide +kernel
theorem dX4_blockStarts_26 : decode cX4_blockStarts 26 = .ok (.iload_n 2, 1) := by decide +kernel
theorem dX4_blockStarts_27 : decode cX4_blockStarts 27 = .ok (.invokestatic 228, 3) := by decide +kernel
theorem dX4_blockStarts_30 : decode cX4_blockStarts 30 = .ok (.iaload, 1) := by decide +kernel
theorem dX4_blockStarts_31 : decode cX4_blockStarts 31 = .ok (.ireturn, 1) := by decide +kernel
theorem dX4_busiestBlock_0 : decode cX4_busiestBlock 0 = .ok (.iconst 0, 1) := by decide +kernel
theorem dX4_busiestBlock_1 : decode cX4_busiestBlock 1 = .ok (.istore_n 1, 1) := by decide +kernel
theorem dX4_busiestBlock_2 : decode cX4_busiestBlock 2 = .ok (.iconst (-1), 1) := by decide +kernel
theorem dX4_busiestBlock_3 : decode cX4_busiestBlock 3 = .ok (.istore_n 2, 1) := by decide +kernel
theorem dX4_busiestBlock_4 : decode cX4_busiestBlock 4 = .ok (.iconst 0, 1) := by decide +kernel
theorem dX4_busiestBlock_5 : decode cX4_busiestBlock 5 = .ok (.istore_n 3, 1) := by decide +kernel
theorem dX4_busiestBlock_6 : decode cX4_busiestBlock 6 = .ok (.iload_n 3, 1) := by decide +kernel
theorem dX4_busiestBlock_7 : decode cX4_busiestBlock 7 = .ok (.iconst 5, 1) := by decide +kernel
theorem dX4_busiestBlock_8 : decode cX4_busiestBlock 8 = .ok (.if_icmp .gt 66, 3) := by decide +kernel
theorem dX4_busiestBlock_11 : decode cX4_busiestBlock 11 = .ok (.iconst 0, 1) := by decide +kernel
theorem dX4_busiestBlock_12 : decode cX4_busiestBlock 12 = .ok (.istore 4, 2) := by decide +kernel
theorem dX4_busiestBlock_14 : decode cX4_busiestBlock 14 = .ok (.iload 4, 2) := by decide +kernel
theorem dX4_busiestBlock_16 : decode cX4_busiestBlock 16 = .ok (.bipush 32, 2) := by decide +kernel
theorem dX4_busiestBlock_18 : decode cX4_busiestBlock 18 = .ok (.iload_n 3, 1) := by decide +kernel
theorem dX4_busiestBlock_19 : decode cX4_busiestBlock 19 = .ok (.ishr, 1) := by decide +kernel
theorem dX4_busiestBlock_20 : decode cX4_busiestBlock 20 = .ok (.if_icmp .ge 48, 3) := by decide +kernel
theorem dX4_busiestBlock_23 : decode cX4_busiestBlock 23 = .ok (.iload 4, 2) := by decide +kernel
theorem dX4_busiestBlock_25 : decode cX4_busiestBlock 25 = .ok (.iload_n 3, 1) := by decide +kernel
theorem dX4_busiestBlock_26 : decode cX4_busiestBlock 26 = .ok (.ishl, 1) := by decide +kernel
theorem dX4_busiestBlock_27 : decode cX4_busiestBlock 27 = .ok (.istore 5, 2) := by decide +kernel
theorem dX4_busiestBlock_29 : decode cX4_busiestBlock 29 = .ok (.aload_n 0, 1) := by decide +kernel
theorem dX4_busiestBlock_30 : decode cX4_busiestBlock 30 = .ok (.getfield 10, 3) := by decide +kernel
theorem dX4_busiestBlock_33 : decode cX4_busiestBlock 33 = .ok (.getfield 225, 3) := by decide +kernel
theorem dX4_busiestBlock_36 : decode cX4_busiestBlock 36 = .ok (.iload_n 3, 1) := by decide +kernel
theorem dX4_busiestBlock_37 : decode cX4_busiestBlock 37 = .ok (.iload 5, 2) := by decide +kernel
theorem dX4_busiestBlock_39 : decode cX4_busiestBlock 39 = .ok (.invokestatic 228, 3) := by decide +kernel
theorem dX4_busiestBlock_42 : decode cX4_busiestBlock 42 = .ok (.iaload, 1) := by decide +kernel
theorem dX4_busiestBlock_43 : decode cX4_busiestBlock 43 = .ok (.istore 6, 2) := by decide +kernel
theorem dX4_busiestBlock_45 : decode cX4_busiestBlock 45 = .ok (.iload 6, 2) := by decide +kernel
theorem dX4_busiestBlock_47 : decode cX4_busiestBlock 47 = .ok (.iload_n 1, 1) := by decide +kernel
theorem dX4_busiestBlock_48 : decode cX4_busiestBlock 48 = .ok (.if_icmp .le 14, 3) := by decide +kernel
theorem dX4_busiestBlock_51 : decode cX4_busiestBlock 51 = .ok (.iload 6, 2) := by decide +kernel
theorem dX4_busiestBlock_53 : decode cX4_busiestBlock 53 = .ok (.istore_n 1, 1) := by decide +kernel
theorem dX4_busiestBlock_54 : decode cX4_busiestBlock 54 = .ok (.bipush 100, 2) := by decide +kernel
theorem dX4_busiestBlock_56 : decode cX4_busiestBlock 56 = .ok (.iload_n 3, 1) := by decide +kernel
theorem dX4_busiestBlock_57 : decode cX4_busiestBlock 57 = .ok (.imul, 1) := by decide +kernel
theorem dX4_busiestBlock_58 : decode cX4_busiestBlock 58 = .ok (.iload 5, 2) := by decide +kernel
theorem dX4_busiestBlock_60 : decode cX4_busiestBlock 60 = .ok (.iadd, 1) := by decide +kernel
theorem dX4_busiestBlock_61 : decode cX4_busiestBlock 61 = .ok (.istore_n 2, 1) := by decide +kernel
theorem dX4_busiestBlock_62 : decode cX4_busiestBlock 62 = .ok (.iinc 4 1, 3) := by decide +kernel
theorem dX4_busiestBlock_65 : decode cX4_busiestBlock 65 = .ok (.goto (-51), 3) := by decide +kernel
theorem dX4_busiestBlock_68 : decode cX4_busiestBlock 68 = .ok (.iinc 3 1, 3) := by decide +kernel
theorem dX4_busiestBlock_71 : decode cX4_busiestBlock 71 = .ok (.goto (-65), 3) := by decide +kernel
theorem dX4_busiestBlock_74 : decode cX4_busiestBlock 74 = .ok (.iload_n 2, 1) := by decide +kernel
theorem dX4_busiestBlock_75 : decode cX4_busiestBlock 75 = .ok (.iconst (-1), 1) := by decide +kernel
theorem dX4_busiestBlock_76 : decode cX4_busiestBlock 76 = .ok (.if_icmp .ne 13, 3) := by decide +kernel
theorem dX4_busiestBlock_79 : decode cX4_busiestBlock 79 = .ok (.new 206, 3) := by decide +kernel
theorem dX4_busiestBlock_82 : decode cX4_busiestBlock 82 = .ok (.dup, 1) := by decide +kernel
theorem dX4_busiestBlock_83 : decode cX4_busiestBlock 83 = .ok (.ldc 152, 2) := by decide +kernel
theorem dX4_busiestBlock_85 : decode cX4_busiestBlock 85 = .ok (.invokespecial 210, 3) := by decide +kernel
theorem dX4_busiestBlock_88 : decode cX4_busiestBlock 88 = .ok (.athrow, 1) := by decide +kernel
theorem dX4_busiestBlock_89 : decode cX4_busiestBlock 89 = .ok (.iload_n 2, 1) := by decide +kernel
theorem dX4_busiestBlock_90 : decode cX4_busiestBlock 90 = .ok (.ireturn, 1) := by decide +kernel
theorem dX4_eventCount_0 : decode cX4_eventCount 0 = .ok (.aload_n 0, 1) := by decide +kernel
theorem dX4_eventCount_1 : decode cX4_eventCount 1 = .ok (.getfield 10, 3) := by decide +kernel
theorem dX4_eventCount_4 : decode cX4_eventCount 4 = .ok (.getfield 231, 3) := by decide +kernel
theorem dX4_eventCount_7 : decode cX4_eventCount 7 = .ok (.getfield 235, 3) := by decide +kernel
theorem dX4_eventCount_10 : decode cX4_eventCount 10 = .ok (.ireturn, 1) := by decide +kernel
theorem dX4_event_0 : decode cX4_event 0 = .ok (.iload_n 1, 1) := by decide +kernel
theorem dX4_event_1 : decode cX4_event 1 = .ok (.ifCond .lt 26, 3) := by decide +kernel
theorem dX4_event_4 : decode cX4_event 4 = .ok (.iload_n 1, 1) := by decide +kernel
theorem dX4_event_5 : decode cX4_event 5 = .ok (.aload_n 0, 1) := by decide +kernel
theorem dX4_event_6 : decode cX4_event 6 = .ok (.getfield 10, 3) := by decide +kernel
theorem dX4_event_9 : decode cX4_event 9 = .ok (.getfield 231, 3) := by decide +kernel
theorem dX4_event_12 : decode cX4_event 12 = .ok (.getfield 235, 3) := by decide +kernel
theorem dX4_event_15 : decode cX4_event 15 = .ok (.if_icmp .ge 12, 3) := by decide +kernel
theorem dX4_event_18 : decode cX4_event 18 = .ok (.iload_n 2, 1) := by decide +kernel
theorem dX4_event_19 : decode cX4_event 19 = .ok (.ifCond .lt 8, 3) := by decide +kernel
theorem dX4_event_22 : decode cX4_event 22 = .ok (.iload_n 2, 1) := by decide +kernel
theorem dX4_event_23 : decode cX4_event 23 = .ok (.iconst 2, 1) := by decide +kernel
theorem dX4_event_24 : decode cX4_event 24 = .ok (.if_icmp .le 13, 3) := by decide +kernel
theorem dX4_event_27 : decode cX4_event 27 = .ok (.new 161, 3) := by decide +kernel
theorem dX4_event_30 : decode cX4_event 30 = .ok (.dup, 1) := by decide +kernel
theorem dX4_event_31 : decode cX4_event 31 = .ok (.ldc 238, 2) := by decide +kernel
theorem dX4_event_33 : decode cX4_event 33 = .ok (.invokespecial 165, 3) := by decide +kernel
theorem dX4_event_36 : decode cX4_event 36 = .ok (.athrow, 1) := by decide +kernel
theorem dX4_event_37 : decode cX4_event 37 = .ok (.aload_n 0, 1) := by decide +kernel
theorem dX4_event_38 : decode cX4_event 38 = .ok (.getfield 10, 3) := by decide +kernel
theorem dX4_event_41 : decode cX4_event 41 = .ok (.getfield 231, 3) := by decide +kernel
theorem dX4_event_44 : decode cX4_event 44 = .ok (.iload_n 1, 1) := by decide +kernel
theorem dX4_event_45 : decode cX4_event 45 = .ok (.iload_n 2, 1) := by decide +kernel
theorem dX4_event_46 : decode cX4_event 46 = .ok (.invokevirtual 240, 3) := by decide +kernel
theorem dX4_event_49 : decode cX4_event 49 = .ok (.ireturn, 1) := by decide +kernel
theorem dX4_save_0 : decode cX4_save 0 = .ok (.aload_n 0, 1) := by decide +kernel
theorem dX4_save_1 : decode cX4_save 1 = .ok (.getfield 16, 3) := by decide +kernel
theorem dX4_save_4 : decode cX4_save 4 = .ok (.aload_n 0, 1) := by decide +kernel
theorem dX4_save_5 : decode cX4_save 5 = .ok (.getfield 10, 3) := by decide +kernel
theorem dX4_save_8 : decode cX4_save 8 = .ok (.invokevirtual 243, 3) := by decide +kernel
theorem dX4_save_11 : decode cX4_save 11 = .ok (.aload_n 0, 1) := by decide +kernel
theorem dX4_save_12 : decode cX4_save 12 = .ok (.iconst 1, 1) := by decide +kernel
theorem dX4_save_13 : decode cX4_save 13 = .ok (.putfield 19, 3) := by decide +kernel
theorem dX4_save_16 : decode cX4_save 16 = .ok (.return_, 1) := by decide +kernel
theorem dX4_restore_0 : decode cX4_restore 0 = .ok (.aload_n 0, 1) := by decide +kernel
theorem dX4_restore_1 : decode cX4_restore 1 = .ok (.getfield 19, 3) := by decide +kernel
theorem dX4_restore_4 : decode cX4_restore 4 = .ok (.ifCond .ne 13, 3) := by decide +kernel
theorem dX4_restore_7 : decode cX4_restore 7 = .ok (.new 53, 3) := by decide +kernel
theorem dX4_restore_10 : decode cX4_restore 10 = .ok (.dup, 1) := by decide +kernel
theorem dX4_restore_11 : decode cX4_restore 11 = .ok (.ldc 247, 2) := by decide +kernel
theorem dX4_restore_13 : decode cX4_restore 13 = .ok (.invokespecial 57, 3) := by decide +kernel
theorem dX4_restore_16 : decode cX4_restore 16 = .ok (.athrow, 1) := by decide +kernel
theorem dX4_restore_17 : decode cX4_restore 17 = .ok (.aload_n 0, 1) := by decide +kernel
theorem dX4_restore_18 : decode cX4_restore 18 = .ok (.getfield 10, 3) := by decide +kernel
theorem dX4_restore_21 : decode cX4_restore 21 = .ok (.aload_n 0, 1) := by decide +kernel
theorem dX4_restore_22 : decode cX4_restore 22 = .ok (.getfield 16, 3) := by decide +kernel
theorem dX4_restore_25 : decode cX4_restore 25 = .ok (.invokevirtual 243, 3) := by decide +kernel
theorem dX4_restore_28 : decode cX4_restore 28 = .ok (.aload_n 0, 1) := by decide +kernel
theorem dX4_restore_29 : decode cX4_restore 29 = .ok (.getfield 10, 3) := by decide +kernel
theorem dX4_restore_32 : decode cX4_restore 32 = .ok (.getfield 64, 3) := by decide +kernel
theorem dX4_restore_35 : decode cX4_restore 35 = .ok (.ireturn, 1) := by decide +kernel
theorem dX4_checkJob_0 : decode cX4_checkJob 0 = .ok (.iload_n 1, 1) := by decide +kernel
theorem dX4_checkJob_1 : decode cX4_checkJob 1 = .ok (.ifCond .lt 17, 3) := by decide +kernel
theorem dX4_checkJob_4 : decode cX4_checkJob 4 = .ok (.iload_n 1, 1) := by decide +kernel
theorem dX4_checkJob_5 : decode cX4_checkJob 5 = .ok (.aload_n 0, 1) := by decide +kernel
theorem dX4_checkJob_6 : decode cX4_checkJob 6 = .ok (.getfield 10, 3) := by decide +kernel
theorem dX4_checkJob_9 : decode cX4_checkJob 9 = .ok (.getfield 44, 3) := by decide +kernel
theorem dX4_checkJob_12 : decode cX4_checkJob 12 = .ok (.getfield 48, 3) := by decide +kernel
theorem dX4_checkJob_15 : decode cX4_checkJob 15 = .ok (.if_icmp .lt 13, 3) := by decide +kernel
theorem dX4_checkJob_18 : decode cX4_checkJob 18 = .ok (.new 161, 3) := by decide +kernel
theorem dX4_checkJob_21 : decode cX4_checkJob 21 = .ok (.dup, 1) := by decide +kernel
theorem dX4_checkJob_22 : decode cX4_checkJob 22 = .ok (.ldc 249, 2) := by decide +kernel
theorem dX4_checkJob_24 : decode cX4_checkJob 24 = .ok (.invokespecial 165, 3) := by decide +kernel
theorem dX4_checkJob_27 : decode cX4_checkJob 27 = .ok (.athrow, 1) := by decide +kernel
theorem dX4_checkJob_28 : decode cX4_checkJob 28 = .ok (.return_, 1) := by decide +kernel
theorem dX4_checkAllocated_0 : decode cX4_checkAllocated 0 = .ok (.aload_n 0, 1) := by decide +kernel
theorem dX4_checkAllocated_1 : decode cX4_checkAllocated 1 = .ok (.getfield 10, 3) := by decide +kernel
theorem dX4_checkAllocated_4 : decode cX4_checkAllocated 4 = .ok (.getfield 44, 3) := by decide +kernel
theorem dX4_checkAllocated_7 : decode cX4_checkAllocated 7 = .ok (.getfield 80, 3) := by decide +kernel
theorem dX4_checkAllocated_10 : decode cX4_checkAllocated 10 = .ok (.iload_n 1, 1) := by decide +kernel
theorem dX4_checkAllocated_11 : decode cX4_checkAllocated 11 = .ok (.iaload, 1) := by decide +kernel
theorem dX4_checkAllocated_12 : decode cX4_checkAllocated 12 = .ok (.istore_n 2, 1) := by decide +kernel
theorem dX4_checkAllocated_13 : decode cX4_checkAllocated 13 = .ok (.iload_n 2, 1) := by decide +kernel
theorem dX4_checkAllocated_14 : decode cX4_checkAllocated 14 = .ok (.ifCond .eq 18, 3) := by decide +kernel
theorem dX4_checkAllocated_17 : decode cX4_checkAllocated 17 = .ok (.iload_n 2, 1) := by decide +kernel
theorem dX4_checkAllocated_18 : decode cX4_checkAllocated 18 = .ok (.iconst 1, 1) := by decide +kernel
theorem dX4_checkAllocated_19 : decode cX4_checkAllocated 19 = .ok (.if_icmp .eq 13, 3) := by decide +kernel
theorem dX4_checkAllocated_22 : decode cX4_checkAllocated 22 = .ok (.new 53, 3) := by decide +kernel
theorem dX4_checkAllocated_25 : decode cX4_checkAllocated 25 = .ok (.dup, 1) := by decide +kernel
theorem dX4_checkAllocated_26 : decode cX4_checkAllocated 26 = .ok (.ldc 251, 2) := by decide +kernel
theorem dX4_checkAllocated_28 : decode cX4_checkAllocated 28 = .ok (.invokespecial 57, 3) := by decide +kernel
theorem dX4_checkAllocated_31 : decode cX4_checkAllocated 31 = .ok (.athrow, 1) := by decide +kernel
theorem dX4_checkAllocated_32 : decode cX4_checkAllocated 32 = .ok (.return_, 1) := by decide +kernel
theorem dX4_checkFinished_0 : decode cX4_checkFinished 0 = .ok (.aload_n 0, 1) := by decide +kernel
theorem dX4_checkFinished_1 : decode cX4_checkFinished 1 = .ok (.getfield 10, 3) := by decide +kernel
theorem dX4_checkFinished_4 : decode cX4_checkFinished 4 = .ok (.getfield 44, 3) := by decide +kernel
theorem dX4_checkFinished_7 : decode cX4_checkFinished 7 = .ok (.getfield 80, 3) := by decide +kernel
theorem dX4_checkFinished_10 : decode cX4_checkFinished 10 = .ok (.iload_n 1, 1) := by decide +kernel
theorem dX4_checkFinished_11 : decode cX4_checkFinished 11 = .ok (.iaload, 1) := by decide +kernel
theorem dX4_checkFinished_12 : decode cX4_checkFinished 12 = .ok (.iconst 2, 1) := by decide +kernel
theorem dX4_checkFinished_13 : decode cX4_checkFinished 13 = .ok (.if_icmp .eq 13, 3) := by decide +kernel
theorem dX4_checkFinished_16 : decode cX4_checkFinished 16 = .ok (.new 53, 3) := by decide +kernel
theorem dX4_checkFinished_19 : decode cX4_checkFinished 19 = .ok (.dup, 1) := by decide +kernel
theorem dX4_checkFinished_20 : decode cX4_checkFinished 20 = .ok (.ldc 253, 2) := by decide +kernel
theorem dX4_checkFinished_22 : decode cX4_checkFinished 22 = .ok (.invokespecial 57, 3) := by decide +kernel
theorem dX4_checkFinished_25 : decode cX4_checkFinished 25 = .ok (.athrow, 1) := by decide +kernel
theorem dX4_checkFinished_26 : decode cX4_checkFinished 26 = .ok (.return_, 1) := by decide +kernel
theorem dX4_checkReservation_0 : decode cX4_checkReservation 0 = .ok (.iload_n 1, 1) := by decide +kernel
theorem dX4_checkReservation_1 : decode cX4_checkReservation 1 = .ok (.ifCond .lt 14, 3) := by decide +kernel
theorem dX4_checkReservation_4 : decode cX4_checkReservation 4 = .ok (.iload_n 1, 1) := by decide +kernel
theorem dX4_checkReservation_5 : decode cX4_checkReservation 5 = .ok (.aload_n 0, 1) := by decide +kernel
theorem dX4_checkReservation_6 : decode cX4_checkReservation 6 = .ok (.getfield 10, 3) := by decide +kernel
theorem dX4_checkReservation_9 : decode cX4_checkReservation 9 = .ok (.getfield 255, 3) := by decide +kernel
theorem dX4_checkReservation_12 : decode cX4_checkReservation 12 = .ok (.if_icmp .lt 14, 3) := by decide +kernel
theorem dX4_checkReservation_15 : decode cX4_checkReservation 15 = .ok (.new 161, 3) := by decide +kernel
theorem dX4_checkReservation_18 : decode cX4_checkReservation 18 = .ok (.dup, 1) := by decide +kernel
theorem dX4_checkReservation_19 : decode cX4_checkReservation 19 = .ok (.ldc_w 258, 3) := by decide +kernel
theorem dX4_checkReservation_22 : decode cX4_checkReservation 22 = .ok (.invokespecial 165, 3) := by decide +kernel
theorem dX4_checkReservation_25 : decode cX4_checkReservation 25 = .ok (.athrow, 1) := by decide +kernel
theorem dX4_checkReservation_26 : decode cX4_checkReservation 26 = .ok (.aload_n 0, 1) := by decide +kernel
theorem dX4_checkReservation_27 : decode cX4_checkReservation 27 = .ok (.getfield 10, 3) := by decide +kernel
theorem dX4_checkReservation_30 : decode cX4_checkReservation 30 = .ok (.getfield 114, 3) := by decide +kernel
theorem dX4_checkReservation_33 : decode cX4_checkReservation 33 = .ok (.bipush 24, 2) := by decide +kernel
theorem dX4_checkReservation_35 : decode cX4_checkReservation 35 = .ok (.iload_n 1, 1) := by decide +kernel
theorem dX4_checkReservation_36 : decode cX4_checkReservation 36 = .ok (.iadd, 1) := by decide +kernel
theorem dX4_checkReservation_37 : decode cX4_checkReservation 37 = .ok (.invokevirtual 260, 3) := by decide +kernel
theorem dX4_checkReservation_40 : decode cX4_checkReservation 40 = .ok (.ifCond .ne 14, 3) := by decide +kernel
theorem dX4_checkReservation_43 : decode cX4_checkReservation 43 = .ok (.new 53, 3) := by decide +kernel
theorem dX4_checkReservation_46 : decode cX4_checkReservation 46 = .ok (.dup, 1) := by decide +kernel
theorem dX4_checkReservation_47 : decode cX4_checkReservation 47 = .ok (.ldc_w 263, 3) := by decide +kernel
theorem dX4_checkReservation_50 : decode cX4_checkReservation 50 = .ok (.invokespecial 57, 3) := by decide +kernel
theorem dX4_checkReservation_53 : decode cX4_checkReservation 53 = .ok (.athrow, 1) := by decide +kernel
theorem dX4_checkReservation_54 : decode cX4_checkReservation 54 = .ok (.return_, 1) := by decide +kernel
theorem dX4_checkInterval_0 : decode cX4_checkInterval 0 = .ok (.iload_n 0, 1) := by decide +kernel
theorem dX4_checkInterval_1 : decode cX4_checkInterval 1 = .ok (.invokestatic 31, 3) := by decide +kernel
theorem dX4_checkInterval_4 : decode cX4_checkInterval 4 = .ok (.ifCond .eq 21, 3) := by decide +kernel
theorem dX4_checkInterval_7 : decode cX4_checkInterval 7 = .ok (.iload_n 1, 1) := by decide +kernel
theorem dX4_checkInterval_8 : decode cX4_checkInterval 8 = .ok (.ifCond .lt 17, 3) := by decide +kernel
theorem dX4_checkInterval_11 : decode cX4_checkInterval 11 = .ok (.iload_n 1, 1) := by decide +kernel
theorem dX4_checkInterval_12 : decode cX4_checkInterval 12 = .ok (.sipush 1000, 3) := by decide +kernel
theorem dX4_checkInterval_15 : decode cX4_checkInterval 15 = .ok (.if_icmp .gt 10, 3) := by decide +kernel
theorem dX4_checkInterval_18 : decode cX4_checkInterval 18 = .ok (.iload_n 2, 1) := by decide +kernel
theorem dX4_checkInterval_19 : decode cX4_checkInterval 19 = .ok (.invokestatic 34, 3) := by decide +kernel
theorem dX4_checkInterval_22 : decode cX4_checkInterval 22 = .ok (.ifCond .ne 13, 3) := by decide +kernel
theorem dX4_checkInterval_25 : decode cX4_checkInterval 25 = .ok (.new 37, 3) := by decide +kernel
theorem dX4_checkInterval_28 : decode cX4_checkInterval 28 = .ok (.dup, 1) := by decide +kernel
theorem dX4_checkInterval_29 : decode cX4_checkInterval 29 = .ok (.ldc 39, 2) := by decide +kernel
theorem dX4_checkInterval_31 : decode cX4_checkInterval 31 = .ok (.invokespecial 41, 3) := by decide +kernel
theorem dX4_checkInterval_34 : decode cX4_checkInterval 34 = .ok (.athrow, 1) := by decide +kernel
theorem dX4_checkInterval_35 : decode cX4_checkInterval 35 = .ok (.return_, 1) := by decide +kernel
theorem dX4_reasonToRefuse_0 : decode cX4_reasonToRefuse 0 = .ok (.iload_n 2, 1) := by decide +kernel
theorem dX4_reasonToRefuse_1 : decode cX4_reasonToRefuse 1 = .ok (.aload_n 0, 1) := by decide +kernel
theorem dX4_reasonToRefuse_2 : decode cX4_reasonToRefuse 2 = .ok (.getfield 10, 3) := by decide +kernel
theorem dX4_reasonToRefuse_5 : decode cX4_reasonToRefuse 5 = .ok (.getfield 64, 3) := by decide +kernel
theorem dX4_reasonToRefuse_8 : decode cX4_reasonToRefuse 8 = .ok (.if_icmp .ge 5, 3) := by decide +kernel
theorem dX4_reasonToRefuse_11 : decode cX4_reasonToRefuse 11 = .ok (.iconst 1, 1) := by decide +kernel
theorem dX4_reasonToRefuse_12 : decode cX4_reasonToRefuse 12 = .ok (.ireturn, 1) := by decide +kernel
theorem dX4_reasonToRefuse_13 : decode cX4_reasonToRefuse 13 = .ok (.aload_n 0, 1) := by decide +kernel
theorem dX4_reasonToRefuse_14 : decode cX4_reasonToRefuse 14 = .ok (.getfield 10, 3) := by decide +kernel
theorem dX4_reasonToRefuse_17 : decode cX4_reasonToRefuse 17 = .ok (.getfield 255, 3) := by decide +kernel
theorem dX4_reasonToRefuse_20 : decode cX4_reasonToRefuse 20 = .ok (.bipush 6, 2) := by decide +kernel
theorem dX4_reasonToRefuse_22 : decode cX4_reasonToRefuse 22 = .ok (.if_icmp .lt 5, 3) := by decide +kernel
theorem dX4_reasonToRefuse_25 : decode cX4_reasonToRefuse 25 = .ok (.iconst 2, 1) := by decide +kernel
theorem dX4_reasonToRefuse_26 : decode cX4_reasonToRefuse 26 = .ok (.ireturn, 1) := by decide +kernel
theorem dX4_reasonToRefuse_27 : decode cX4_reasonToRefuse 27 = .ok (.aload_n 0, 1) := by decide +kernel
theorem dX4_reasonToRefuse_28 : decode cX4_reasonToRefuse 28 = .ok (.getfield 10, 3) := by decide +kernel
theorem dX4_reasonToRefuse_31 : decode cX4_reasonToRefuse 31 = .ok (.getfield 114, 3) := by decide +kernel
theorem dX4_reasonToRefuse_34 : decode cX4_reasonToRefuse 34 = .ok (.iload_n 1, 1) := by decide +kernel
theorem dX4_reasonToRefuse_35 : decode cX4_reasonToRefuse 35 = .ok (.iload_n 2, 1) := by decide +kernel
theorem dX4_reasonToRefuse_36 : decode cX4_reasonToRefuse 36 = .ok (.iload_n 3, 1) := by decide +kernel
theorem dX4_reasonToRefuse_37 : decode cX4_reasonToRefuse 37 = .ok (.invokevirtual 214, 3) := by decide +kernel
theorem dX4_reasonToRefuse_40 : decode cX4_reasonToRefuse 40 = .ok (.iconst (-1), 1) := by decide +kernel
theorem dX4_reasonToRefuse_41 : decode cX4_reasonToRefuse 41 = .ok (.if_icmp .ne 5, 3) := by decide +kernel
theorem dX4_reasonToRefuse_44 : decode cX4_reasonToRefuse 44 = .ok (.iconst 3, 1) := by decide +kernel
theorem dX4_reasonToRefuse_45 : decode cX4_reasonToRefuse 45 = .ok (.ireturn, 1) := by decide +kernel
theorem dX4_reasonToRefuse_46 : decode cX4_reasonToRefuse 46 = .ok (.iconst 0, 1) := by decide +kernel
theorem dX4_reasonToRefuse_47 : decode cX4_reasonToRefuse 47 = .ok (.ireturn, 1) := by decide +kernel
theorem dX4_takenNow_0 : decode cX4_takenNow 0 = .ok (.aload_n 0, 1) := by decide +kernel
theorem dX4_takenNow_1 : decode cX4_takenNow 1 = .ok (.getfield 10, 3) := by decide +kernel
theorem dX4_takenNow_4 : decode cX4_takenNow 4 = .ok (.getfield 114, 3) := by decide +kernel
theorem dX4_takenNow_7 : decode cX4_takenNow 7 = .ok (.aload_n 0, 1) := by decide +kernel
theorem dX4_takenNow_8 : decode cX4_takenNow 8 = .ok (.getfield 10, 3) := by decide +kernel
theorem dX4_takenNow_11 : decode cX4_takenNow 11 = .ok (.getfield 64, 3) := by decide +kernel
theorem dX4_takenNow_14 : decode cX4_takenNow 14 = .ok (.aload_n 0, 1) := by decide +kernel
theorem dX4_takenNow_15 : decode cX4_takenNow 15 = .ok (.getfield 10, 3) := by decide +kernel
theorem dX4_takenNow_18 : decode cX4_takenNow 18 = .ok (.getfield 64, 3) := by decide +kernel
theorem dX4_takenNow_21 : decode cX4_takenNow 21 = .ok (.invokevirtual 186, 3) := by decide +kernel
theorem dX4_takenNow_24 : decode cX4_takenNow 24 = .ok (.ireturn, 1) := by decide +kernel
theorem dX4_isUser_0 : decode cX4_isUser 0 = .ok (.iload_n 0, 1) := by decide +kernel
theorem dX4_isUser_1 : decode cX4_isUser 1 = .ok (.ifCond .lt 12, 3) := by decide +kernel
theorem dX4_isUser_4 : decode cX4_isUser 4 = .ok (.iload_n 0, 1) := by decide +kernel
theorem dX4_isUser_5 : decode cX4_isUser 5 = .ok (.iconst 4, 1) := by decide +kernel
theorem dX4_isUser_6 : decode cX4_isUser 6 = .ok (.if_icmp .ge 7, 3) := by decide +kernel
theorem dX4_isUser_9 : decode cX4_isUser 9 = .ok (.iconst 1, 1) := by decide +kernel
theorem dX4_isUser_10 : decode cX4_isUser 10 = .ok (.goto 4, 3) := by decide +kernel
theorem dX4_isUser_13 : decode cX4_isUser 13 = .ok (.iconst 0, 1) := by decide +kernel
theorem dX4_isUser_14 : decode cX4_isUser 14 = .ok (.ireturn, 1) := by decide +kernel
theorem dX4_isOrder_0 : decode cX4_isOrder 0 = .ok (.iload_n 0, 1) := by decide +kernel
theorem dX4_isOrder_1 : decode cX4_isOrder 1 = .ok (.ifCond .lt 12, 3) := by decide +kernel
theorem dX4_isOrder_4 : decode cX4_isOrder 4 = .ok (.iload_n 0, 1) := by decide +kernel
theorem dX4_isOrder_5 : decode cX4_isOrder 5 = .ok (.iconst 5, 1) := by decide +kernel
theorem dX4_isOrder_6 : decode cX4_isOrder 6 = .ok (.if_icmp .gt 7, 3) := by decide +kernel
theorem dX4_isOrder_9 : decode cX4_isOrder 9 = .ok (.iconst 1, 1) := by decide +kernel
theorem dX4_isOrder_10 : decode cX4_isOrder 10 = .ok (.goto 4, 3) := by decide +kernel
theorem dX4_isOrder_13 : decode cX4_isOrder 13 = .ok (.iconst 0, 1) := by decide +kernel
theorem dX4_isOrder_14 : decode cX4_isOrder 14 = .ok (.ireturn, 1) := by decide +kernel
theorem dX4_isLength_0 : decode cX4_isLength 0 = .ok (.iload_n 0, 1) := by decide +kernel
theorem dX4_isLength_1 : decode cX4_isLength 1 = .ok (.iconst 1, 1) := by decide +kernel
theorem dX4_isLength_2 : decode cX4_isLength 2 = .ok (.if_icmp .lt 13, 3) := by decide +kernel
theorem dX4_isLength_5 : decode cX4_isLength 5 = .ok (.iload_n 0, 1) := by decide +kernel
theorem dX4_isLength_6 : decode cX4_isLength 6 = .ok (.bipush 40, 2) := by decide +kernel
theorem dX4_isLength_8 : decode cX4_isLength 8 = .ok (.if_icmp .gt 7, 3) := by decide +kernel
theorem dX4_isLength_11 : decode cX4_isLength 11 = .ok (.iconst 1, 1) := by decide +kernel
theorem dX4_isLength_12 : decode cX4_isLength 12 = .ok (.goto 4, 3) := by decide +kernel
theorem dX4_isLength_15 : decode cX4_isLength 15 = .ok (.iconst 0, 1) := by decide +kernel
theorem dX4_isLength_16 : decode cX4_isLength 16 = .ok (.ireturn, 1) := by decide +kernel
theorem dX4_isBlock_0 : decode cX4_isBlock 0 = .ok (.iload_n 0, 1) := by decide +kernel
theorem dX4_isBlock_1 : decode cX4_isBlock 1 = .ok (.invokestatic 31, 3) := by decide +kernel
theorem dX4_isBlock_4 : decode cX4_isBlock 4 = .ok (.ifCond .eq 27, 3) := by decide +kernel
theorem dX4_isBlock_7 : decode cX4_isBlock 7 = .ok (.iload_n 1, 1) := by decide +kernel
theorem dX4_isBlock_8 : decode cX4_isBlock 8 = .ok (.ifCond .lt 23, 3) := by decide +kernel
theorem dX4_isBlock_11 : decode cX4_isBlock 11 = .ok (.iload_n 1, 1) := by decide +kernel
theorem dX4_isBlock_12 : decode cX4_isBlock 12 = .ok (.bipush 32, 2) := by decide +kernel
theorem dX4_isBlock_14 : decode cX4_isBlock 14 = .ok (.if_icmp .ge 17, 3) := by decide +kernel
theorem dX4_isBlock_17 : decode cX4_isBlock 17 = .ok (.iload_n 1, 1) := by decide +kernel
theorem dX4_isBlock_18 : decode cX4_isBlock 18 = .ok (.iconst 1, 1) := by decide +kernel
theorem dX4_isBlock_19 : decode cX4_isBlock 19 = .ok (.iload_n 0, 1) := by decide +kernel
theorem dX4_isBlock_20 : decode cX4_isBlock 20 = .ok (.ishl, 1) := by decide +kernel
theorem dX4_isBlock_21 : decode cX4_isBlock 21 = .ok (.iconst 1, 1) := by decide +kernel
theorem dX4_isBlock_22 : decode cX4_isBlock 22 = .ok (.isub, 1) := by decide +kernel
theorem dX4_isBlock_23 : decode cX4_isBlock 23 = .ok (.iand, 1) := by decide +kernel
theorem dX4_isBlock_24 : decode cX4_isBlock 24 = .ok (.ifCond .ne 7, 3) := by decide +kernel
theorem dX4_isBlock_27 : decode cX4_isBlock 27 = .ok (.iconst 1, 1) := by decide +kernel
theorem dX4_isBlock_28 : decode cX4_isBlock 28 = .ok (.goto 4, 3) := by decide +kernel
theorem dX4_isBlock_31 : decode cX4_isBlock 31 = .ok (.iconst 0, 1) := by decide +kernel
theorem dX4_isBlock_32 : decode cX4_isBlock 32 = .ok (.ireturn, 1) := by decide +kernel
theorem dX4_blockMask_0 : decode cX4_blockMask 0 = .ok (.iconst (-1), 1) := by decide +kernel
theorem dX4_blockMask_1 : decode cX4_blockMask 1 = .ok (.bipush 32, 2) := by decide +kernel
theorem dX4_blockMask_3 : decode cX4_blockMask 3 = .ok (.iconst 1, 1) := by decide +kernel
theorem dX4_blockMask_4 : decode cX4_blockMask 4 = .ok (.iload_n 0, 1) := by decide +kernel
theorem dX4_blockMask_5 : decode cX4_blockMask 5 = .ok (.ishl, 1) := by decide +kernel
theorem dX4_blockMask_6 : decode cX4_blockMask 6 = .ok (.isub, 1) := by decide +kernel
theorem dX4_blockMask_7 : decode cX4_blockMask 7 = .ok (.iushr, 1) := by decide +kernel
theorem dX4_blockMask_8 : decode cX4_blockMask 8 = .ok (.iload_n 1, 1) := by decide +kernel
theorem dX4_blockMask_9 : decode cX4_blockMask 9 = .ok (.ishl, 1) := by decide +kernel
theorem dX4_blockMask_10 : decode cX4_blockMask 10 = .ok (.ireturn, 1) := by decide +kernel
theorem dX4_blockIndex_0 : decode cX4_blockIndex 0 = .ok (.bipush 32, 2) := by decide +kernel
theorem dX4_blockIndex_2 : decode cX4_blockIndex 2 = .ok (.iload_n 1, 1) := by decide +kernel
theorem dX4_blockIndex_3 : decode cX4_blockIndex 3 = .ok (.iadd, 1) := by decide +kernel
theorem dX4_blockIndex_4 : decode cX4_blockIndex 4 = .ok (.iload_n 0, 1) := by decide +kernel
theorem dX4_blockIndex_5 : decode cX4_blockIndex 5 = .ok (.ishr, 1) := by decide +kernel
theorem dX4_blockIndex_6 : decode cX4_blockIndex 6 = .ok (.ireturn, 1) := by decide +kernel
theorem dX4_isClear_0 : decode cX4_isClear 0 = .ok (.iload_n 0, 1) := by decide +kernel
theorem dX4_isClear_1 : decode cX4_isClear 1 = .ok (.iload_n 1, 1) := by decide +kernel
theorem dX4_isClear_2 : decode cX4_isClear 2 = .ok (.iload_n 2, 1) := by decide +kernel
theorem dX4_isClear_3 : decode cX4_isClear 3 = .ok (.iload_n 1, 1) := by decide +kernel
theorem dX4_isClear_4 : decode cX4_isClear 4 = .ok (.ishl, 1) := by decide +kernel
theorem dX4_isClear_5 : decode cX4_isClear 5 = .ok (.invokestatic 265, 3) := by decide +kernel
theorem dX4_isClear_8 : decode cX4_isClear 8 = .ok (.iand, 1) := by decide +kernel
theorem dX4_isClear_9 : decode cX4_isClear 9 = .ok (.ifCond .ne 7, 3) := by decide +kernel
theorem dX4_isClear_12 : decode cX4_isClear 12 = .ok (.iconst 1, 1) := by decide +kernel
theorem dX4_isClear_13 : decode cX4_isClear 13 = .ok (.goto 4, 3) := by decide +kernel
theorem dX4_isClear_16 : decode cX4_isClear 16 = .ok (.iconst 0, 1) := by decide +kernel
theorem dX4_isClear_17 : decode cX4_isClear 17 = .ok (.ireturn, 1) := by decide +kernel
theorem dX4_lowestClear_0 : decode cX4_lowestClear 0 = .ok (.iload_n 1, 1) := by decide +kernel
theorem dX4_lowestClear_1 : decode cX4_lowestClear 1 = .ok (.iconst 0, 1) := by decide +kernel
theorem dX4_lowestClear_2 : decode cX4_lowestClear 2 = .ok (.invokestatic 265, 3) := by decide +kernel
theorem dX4_lowestClear_5 : decode cX4_lowestClear 5 = .ok (.istore_n 2, 1) := by decide +kernel
theorem dX4_lowestClear_6 : decode cX4_lowestClear 6 = .ok (.iconst 0, 1) := by decide +kernel
theorem dX4_lowestClear_7 : decode cX4_lowestClear 7 = .ok (.istore_n 3, 1) := by decide +kernel
theorem dX4_lowestClear_8 : decode cX4_lowestClear 8 = .ok (.iload_n 3, 1) := by decide +kernel
theorem dX4_lowestClear_9 : decode cX4_lowestClear 9 = .ok (.bipush 32, 2) := by decide +kernel
theorem dX4_lowestClear_11 : decode cX4_lowestClear 11 = .ok (.iload_n 1, 1) := by decide +kernel
theorem dX4_lowestClear_12 : decode cX4_lowestClear 12 = .ok (.ishr, 1) := by decide +kernel
theorem dX4_lowestClear_13 : decode cX4_lowestClear 13 = .ok (.if_icmp .ge 26, 3) := by decide +kernel
theorem dX4_lowestClear_16 : decode cX4_lowestClear 16 = .ok (.iload_n 3, 1) := by decide +kernel
theorem dX4_lowestClear_17 : decode cX4_lowestClear 17 = .ok (.iload_n 1, 1) := by decide +kernel
theorem dX4_lowestClear_18 : decode cX4_lowestClear 18 = .ok (.ishl, 1) := by decide +kernel
theorem dX4_lowestClear_19 : decode cX4_lowestClear 19 = .ok (.istore 4, 2) := by decide +kernel
theorem dX4_lowestClear_21 : decode cX4_lowestClear 21 = .ok (.iload_n 0, 1) := by decide +kernel
theorem dX4_lowestClear_22 : decode cX4_lowestClear 22 = .ok (.iload_n 2, 1) := by decide +kernel
theorem dX4_lowestClear_23 : decode cX4_lowestClear 23 = .ok (.iload 4, 2) := by decide +kernel
theorem dX4_lowestClear_25 : decode cX4_lowestClear 25 = .ok (.ishl, 1) := by decide +kernel
theorem dX4_lowestClear_26 : decode cX4_lowestClear 26 = .ok (.iand, 1) := by decide +kernel
theorem dX4_lowestClear_27 : decode cX4_lowestClear 27 = .ok (.ifCond .ne 6, 3) := by decide +kernel
theorem dX4_lowestClear_30 : decode cX4_lowestClear 30 = .ok (.iload 4, 2) := by decide +kernel
theorem dX4_lowestClear_32 : decode cX4_lowestClear 32 = .ok (.ireturn, 1) := by decide +kernel
theorem dX4_lowestClear_33 : decode cX4_lowestClear 33 = .ok (.iinc 3 1, 3) := by decide +kernel
theorem dX4_lowestClear_36 : decode cX4_lowestClear 36 = .ok (.goto (-28), 3) := by decide +kernel
theorem dX4_lowestClear_39 : decode cX4_lowestClear 39 = .ok (.iconst (-1), 1) := by decide +kernel
theorem dX4_lowestClear_40 : decode cX4_lowestClear 40 = .ok (.ireturn, 1) := by decide +kernel
theorem dX4_largestClearOrder_0 : decode cX4_largestClearOrder 0 = .ok (.iconst 5, 1) := by decide +kernel
theorem dX4_largestClearOrder_1 : decode cX4_largestClearOrder 1 = .ok (.istore_n 1, 1) := by decide +kernel
theorem dX4_largestClearOrder_2 : decode cX4_largestClearOrder 2 = .ok (.iload_n 1, 1) := by decide +kernel
theorem dX4_largestClearOrder_3 : decode cX4_largestClearOrder 3 = .ok (.ifCond .lt 20, 3) := by decide +kernel
theorem dX4_largestClearOrder_6 : decode cX4_largestClearOrder 6 = .ok (.iload_n 0, 1) := by decide +kernel
theorem dX4_largestClearOrder_7 : decode cX4_largestClearOrder 7 = .ok (.iload_n 1, 1) := by decide +kernel
theorem dX4_largestClearOrder_8 : decode cX4_largestClearOrder 8 = .ok (.invokestatic 268, 3) := by decide +kernel
theorem dX4_largestClearOrder_11 : decode cX4_largestClearOrder 11 = .ok (.iconst (-1), 1) := by decide +kernel
theorem dX4_largestClearOrder_12 : decode cX4_largestClearOrder 12 = .ok (.if_icmp .eq 5, 3) := by decide +kernel
theorem dX4_largestClearOrder_15 : decode cX4_largestClearOrder 15 = .ok (.iload_n 1, 1) := by decide +kernel
theorem dX4_largestClearOrder_16 : decode cX4_largestClearOrder 16 = .ok (.ireturn, 1) := by decide +kernel
theorem dX4_largestClearOrder_17 : decode cX4_largestClearOrder 17 = .ok (.iinc 1 (-1), 3) := by decide +kernel
theorem dX4_largestClearOrder_20 : decode cX4_largestClearOrder 20 = .ok (.goto (-18), 3) := by decide +kernel
theorem dX4_largestClearOrder_23 : decode cX4_largestClearOrder 23 = .ok (.iconst (-1), 1) := by decide +kernel
theorem dX4_largestClearOrder_24 : decode cX4_largestClearOrder 24 = .ok (.ireturn, 1) := by decide +kernel
theorem dJx00060_init_a7421_0 : decode cJx00060_init_a7421 0 = .ok (.aload_n 0, 1) := by decide +kernel
theorem dJx00060_init_a7421_1 : decode cJx00060_init_a7421 1 = .ok (.aload_n 1, 1) := by decide +kernel
theorem dJx00060_init_a7421_2 : decode cJx00060_init_a7421 2 = .ok (.invokespecial 7, 3) := by decide +kernel
theorem dJx00060_init_a7421_5 : decode cJx00060_init_a7421 5 = .ok (.return_, 1) := by decide +kernel
theorem dJ6_bitCount_0f7a4_0 : decode cJ6_bitCount_0f7a4 0 = .ok (.iload_n 0, 1) := by decide +kernel
theorem dJ6_bitCount_0f7a4_1 : decode cJ6_bitCount_0f7a4 1 = .ok (.iload_n 0, 1) := by decide +kernel
theorem dJ6_bitCount_0f7a4_2 : decode cJ6_bitCount_0f7a4 2 = .ok (.iconst 1, 1) := by decide +kernel
theorem dJ6_bitCount_0f7a4_3 : decode cJ6_bitCount_0f7a4 3 = .ok (.iushr, 1) := by decide +kernel
theorem dJ6_bitCount_0f7a4_4 : decode cJ6_bitCount_0f7a4 4 = .ok (.ldc_w 265, 3) := by decide +kernel
theorem dJ6_bitCount_0f7a4_7 : decode cJ6_bitCount_0f7a4 7 = .ok (.iand, 1) := by decide +kernel
theorem dJ6_bitCount_0f7a4_8 : decode cJ6_bitCount_0f7a4 8 = .ok (.isub, 1) := by decide +kernel
theorem dJ6_bitCount_0f7a4_9 : decode cJ6_bitCount_0f7a4 9 = .ok (.istore_n 0, 1) := by decide +kernel
theorem dJ6_bitCount_0f7a4_10 : decode cJ6_bitCount_0f7a4 10 = .ok (.iload_n 0, 1) := by decide +kernel
theorem dJ6_bitCount_0f7a4_11 : decode cJ6_bitCount_0f7a4 11 = .ok (.ldc_w 266, 3) := by decide +kernel
theorem dJ6_bitCount_0f7a4_14 : decode cJ6_bitCount_0f7a4 14 = .ok (.iand, 1) := by decide +kernel
theorem dJ6_bitCount_0f7a4_15 : decode cJ6_bitCount_0f7a4 15 = .ok (.iload_n 0, 1) := by decide +kernel
theorem dJ6_bitCount_0f7a4_16 : decode cJ6_bitCount_0f7a4 16 = .ok (.iconst 2, 1) := by decide +kernel
theorem dJ6_bitCount_0f7a4_17 : decode cJ6_bitCount_0f7a4 17 = .ok (.iushr, 1) := by decide +kernel
theorem dJ6_bitCount_0f7a4_18 : decode cJ6_bitCount_0f7a4 18 = .ok (.ldc_w 266, 3) := by decide +kernel
theorem dJ6_bitCount_0f7a4_21 : decode cJ6_bitCount_0f7a4 21 = .ok (.iand, 1) := by decide +kernel
theorem dJ6_bitCount_0f7a4_22 : decode cJ6_bitCount_0f7a4 22 = .ok (.iadd, 1) := by decide +kernel
theorem dJ6_bitCount_0f7a4_23 : decode cJ6_bitCount_0f7a4 23 = .ok (.istore_n 0, 1) := by decide +kernel
theorem dJ6_bitCount_0f7a4_24 : decode cJ6_bitCount_0f7a4 24 = .ok (.iload_n 0, 1) := by decide +kernel
theorem dJ6_bitCount_0f7a4_25 : decode cJ6_bitCount_0f7a4 25 = .ok (.iload_n 0, 1) := by decide +kernel
theorem dJ6_bitCount_0f7a4_26 : decode cJ6_bitCount_0f7a4 26 = .ok (.iconst 4, 1) := by decide +kernel
theorem dJ6_bitCount_0f7a4_27 : decode cJ6_bitCount_0f7a4 27 = .ok (.iushr, 1) := by decide +kernel
theorem dJ6_bitCount_0f7a4_28 : decode cJ6_bitCount_0f7a4 28 = .ok (.iadd, 1) := by decide +kernel
theorem dJ6_bitCount_0f7a4_29 : decode cJ6_bitCount_0f7a4 29 = .ok (.ldc_w 267, 3) := by decide +kernel
theorem dJ6_bitCount_0f7a4_32 : decode cJ6_bitCount_0f7a4 32 = .ok (.iand, 1) := by decide +kernel
theorem dJ6_bitCount_0f7a4_33 : decode cJ6_bitCount_0f7a4 33 = .ok (.istore_n 0, 1) := by decide +kernel
theorem dJ6_bitCount_0f7a4_34 : decode cJ6_bitCount_0f7a4 34 = .ok (.iload_n 0, 1) := by decide +kernel
theorem dJ6_bitCount_0f7a4_35 : decode cJ6_bitCount_0f7a4 35 = .ok (.iload_n 0, 1) := by decide +kernel
theorem dJ6_bitCount_0f7a4_36 : decode cJ6_bitCount_0f7a4 36 = .ok (.bipush 8, 2) := by decide +kernel
theorem dJ6_bitCount_0f7a4_38 : decode cJ6_bitCount_0f7a4 38 = .ok (.iushr, 1) := by decide +kernel
theorem dJ6_bitCount_0f7a4_39 : decode cJ6_bitCount_0f7a4 39 = .ok (.iadd, 1) := by decide +kernel
theorem dJ6_bitCount_0f7a4_40 : decode cJ6_bitCount_0f7a4 40 = .ok (.istore_n 0, 1) := by decide +kernel
theorem dJ6_bitCount_0f7a4_41 : decode cJ6_bitCount_0f7a4 41 = .ok (.iload_n 0, 1) := by decide +kernel
theorem dJ6_bitCount_0f7a4_42 : decode cJ6_bitCount_0f7a4 42 = .ok (.iload_n 0, 1) := by decide +kernel
theorem dJ6_bitCount_0f7a4_43 : decode cJ6_bitCount_0f7a4 43 = .ok (.bipush 16, 2) := by decide +kernel
theorem dJ6_bitCount_0f7a4_45 : decode cJ6_bitCount_0f7a4 45 = .ok (.iushr, 1) := by decide +kernel
theorem dJ6_bitCount_0f7a4_46 : decode cJ6_bitCount_0f7a4 46 = .ok (.iadd, 1) := by decide +kernel
theorem dJ6_bitCount_0f7a4_47 : decode cJ6_bitCount_0f7a4 47 = .ok (.istore_n 0, 1) := by decide +kernel
theorem dJ6_bitCount_0f7a4_48 : decode cJ6_bitCount_0f7a4 48 = .ok (.iload_n 0, 1) := by decide +kernel
theorem dJ6_bitCount_0f7a4_49 : decode cJ6_bitCount_0f7a4 49 = .ok (.bipush 63, 2) := by decide +kernel
theorem dJ6_bitCount_0f7a4_51 : decode cJ6_bitCount_0f7a4 51 = .ok (.iand, 1) := by decide +kernel
theorem dJ6_bitCount_0f7a4_52 : decode cJ6_bitCount_0f7a4 52 = .ok (.ireturn, 1) := by decide +kernel
theorem dJ9_max_7cf53_0 : decode cJ9_max_7cf53 0 = .ok (.iload_n 0, 1) := by decide +kernel
theorem dJ9_max_7cf53_1 : decode cJ9_max_7cf53 1 = .ok (.iload_n 1, 1) := by decide +kernel
theorem dJ9_max_7cf53_2 : decode cJ9_max_7cf53 2 = .ok (.if_icmp .lt 7, 3) := by decide +kernel
theorem dJ9_max_7cf53_5 : decode cJ9_max_7cf53 5 = .ok (.iload_n 0, 1) := by decide +kernel
theorem dJ9_max_7cf53_6 : decode cJ9_max_7cf53 6 = .ok (.goto 4, 3) := by decide +kernel
theorem dJ9_max_7cf53_9 : decode cJ9_max_7cf53 9 = .ok (.iload_n 1, 1) := by decide +kernel
theorem dJ9_max_7cf53_10 : decode cJ9_max_7cf53 10 = .ok (.ireturn, 1) := by decide +kernel
