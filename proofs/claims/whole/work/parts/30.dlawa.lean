theorem dL_submit_0 : decode cL_submit 0 = .ok (.aload 5, 2) := by decide +kernel
theorem dL_submit_2 : decode cL_submit 2 = .ok (.iconst 0, 1) := by decide +kernel
theorem dL_submit_3 : decode cL_submit 3 = .ok (.aload_n 0, 1) := by decide +kernel
theorem dL_submit_4 : decode cL_submit 4 = .ok (.iload_n 1, 1) := by decide +kernel
theorem dL_submit_5 : decode cL_submit 5 = .ok (.iload_n 2, 1) := by decide +kernel
theorem dL_submit_6 : decode cL_submit 6 = .ok (.iload_n 3, 1) := by decide +kernel
theorem dL_submit_7 : decode cL_submit 7 = .ok (.iload 4, 2) := by decide +kernel
theorem dL_submit_9 : decode cL_submit 9 = .ok (.invokevirtual 7, 3) := by decide +kernel
theorem dL_submit_12 : decode cL_submit 12 = .ok (.i2l, 1) := by decide +kernel
theorem dL_submit_13 : decode cL_submit 13 = .ok (.lastore, 1) := by decide +kernel
theorem dL_submit_14 : decode cL_submit 14 = .ok (.goto 11, 3) := by decide +kernel
theorem dL_submit_17 : decode cL_submit 17 = .ok (.astore 6, 2) := by decide +kernel
theorem dL_submit_19 : decode cL_submit 19 = .ok (.iconst 1, 1) := by decide +kernel
theorem dL_submit_20 : decode cL_submit 20 = .ok (.ireturn, 1) := by decide +kernel
theorem dL_submit_21 : decode cL_submit 21 = .ok (.astore 6, 2) := by decide +kernel
theorem dL_submit_23 : decode cL_submit 23 = .ok (.iconst 2, 1) := by decide +kernel
theorem dL_submit_24 : decode cL_submit 24 = .ok (.ireturn, 1) := by decide +kernel
theorem dL_submit_25 : decode cL_submit 25 = .ok (.iconst 0, 1) := by decide +kernel
theorem dL_submit_26 : decode cL_submit 26 = .ok (.ireturn, 1) := by decide +kernel
theorem dL_advance_0 : decode cL_advance 0 = .ok (.aload_n 2, 1) := by decide +kernel
theorem dL_advance_1 : decode cL_advance 1 = .ok (.iconst 0, 1) := by decide +kernel
theorem dL_advance_2 : decode cL_advance 2 = .ok (.aload_n 0, 1) := by decide +kernel
theorem dL_advance_3 : decode cL_advance 3 = .ok (.iload_n 1, 1) := by decide +kernel
theorem dL_advance_4 : decode cL_advance 4 = .ok (.invokevirtual 17, 3) := by decide +kernel
theorem dL_advance_7 : decode cL_advance 7 = .ok (.i2l, 1) := by decide +kernel
theorem dL_advance_8 : decode cL_advance 8 = .ok (.lastore, 1) := by decide +kernel
theorem dL_advance_9 : decode cL_advance 9 = .ok (.goto 9, 3) := by decide +kernel
theorem dL_advance_12 : decode cL_advance 12 = .ok (.astore_n 3, 1) := by decide +kernel
theorem dL_advance_13 : decode cL_advance 13 = .ok (.iconst 1, 1) := by decide +kernel
theorem dL_advance_14 : decode cL_advance 14 = .ok (.ireturn, 1) := by decide +kernel
theorem dL_advance_15 : decode cL_advance 15 = .ok (.astore_n 3, 1) := by decide +kernel
theorem dL_advance_16 : decode cL_advance 16 = .ok (.iconst 2, 1) := by decide +kernel
theorem dL_advance_17 : decode cL_advance 17 = .ok (.ireturn, 1) := by decide +kernel
theorem dL_advance_18 : decode cL_advance 18 = .ok (.iconst 0, 1) := by decide +kernel
theorem dL_advance_19 : decode cL_advance 19 = .ok (.ireturn, 1) := by decide +kernel
theorem dL_cancel_0 : decode cL_cancel 0 = .ok (.aload_n 2, 1) := by decide +kernel
theorem dL_cancel_1 : decode cL_cancel 1 = .ok (.iconst 0, 1) := by decide +kernel
theorem dL_cancel_2 : decode cL_cancel 2 = .ok (.aload_n 0, 1) := by decide +kernel
theorem dL_cancel_3 : decode cL_cancel 3 = .ok (.iload_n 1, 1) := by decide +kernel
theorem dL_cancel_4 : decode cL_cancel 4 = .ok (.invokevirtual 21, 3) := by decide +kernel
theorem dL_cancel_7 : decode cL_cancel 7 = .ok (.i2l, 1) := by decide +kernel
theorem dL_cancel_8 : decode cL_cancel 8 = .ok (.lastore, 1) := by decide +kernel
theorem dL_cancel_9 : decode cL_cancel 9 = .ok (.goto 9, 3) := by decide +kernel
theorem dL_cancel_12 : decode cL_cancel 12 = .ok (.astore_n 3, 1) := by decide +kernel
theorem dL_cancel_13 : decode cL_cancel 13 = .ok (.iconst 1, 1) := by decide +kernel
theorem dL_cancel_14 : decode cL_cancel 14 = .ok (.ireturn, 1) := by decide +kernel
theorem dL_cancel_15 : decode cL_cancel 15 = .ok (.astore_n 3, 1) := by decide +kernel
theorem dL_cancel_16 : decode cL_cancel 16 = .ok (.iconst 2, 1) := by decide +kernel
theorem dL_cancel_17 : decode cL_cancel 17 = .ok (.ireturn, 1) := by decide +kernel
theorem dL_cancel_18 : decode cL_cancel 18 = .ok (.iconst 0, 1) := by decide +kernel
theorem dL_cancel_19 : decode cL_cancel 19 = .ok (.ireturn, 1) := by decide +kernel
theorem dL_preempt_0 : decode cL_preempt 0 = .ok (.aload_n 3, 1) := by decide +kernel
theorem dL_preempt_1 : decode cL_preempt 1 = .ok (.iconst 0, 1) := by decide +kernel
theorem dL_preempt_2 : decode cL_preempt 2 = .ok (.aload_n 0, 1) := by decide +kernel
theorem dL_preempt_3 : decode cL_preempt 3 = .ok (.iload_n 1, 1) := by decide +kernel
theorem dL_preempt_4 : decode cL_preempt 4 = .ok (.iload_n 2, 1) := by decide +kernel
theorem dL_preempt_5 : decode cL_preempt 5 = .ok (.invokevirtual 26, 3) := by decide +kernel
theorem dL_preempt_8 : decode cL_preempt 8 = .ok (.i2l, 1) := by decide +kernel
theorem dL_preempt_9 : decode cL_preempt 9 = .ok (.lastore, 1) := by decide +kernel
theorem dL_preempt_10 : decode cL_preempt 10 = .ok (.goto 15, 3) := by decide +kernel
theorem dL_preempt_13 : decode cL_preempt 13 = .ok (.astore 4, 2) := by decide +kernel
theorem dL_preempt_15 : decode cL_preempt 15 = .ok (.iconst 1, 1) := by decide +kernel
theorem dL_preempt_16 : decode cL_preempt 16 = .ok (.ireturn, 1) := by decide +kernel
theorem dL_preempt_17 : decode cL_preempt 17 = .ok (.astore 4, 2) := by decide +kernel
theorem dL_preempt_19 : decode cL_preempt 19 = .ok (.iconst 2, 1) := by decide +kernel
theorem dL_preempt_20 : decode cL_preempt 20 = .ok (.ireturn, 1) := by decide +kernel
theorem dL_preempt_21 : decode cL_preempt 21 = .ok (.astore 4, 2) := by decide +kernel
theorem dL_preempt_23 : decode cL_preempt 23 = .ok (.iconst 3, 1) := by decide +kernel
theorem dL_preempt_24 : decode cL_preempt 24 = .ok (.ireturn, 1) := by decide +kernel
theorem dL_preempt_25 : decode cL_preempt 25 = .ok (.iconst 0, 1) := by decide +kernel
theorem dL_preempt_26 : decode cL_preempt 26 = .ok (.ireturn, 1) := by decide +kernel
theorem dL_reserve_0 : decode cL_reserve 0 = .ok (.aload 4, 2) := by decide +kernel
theorem dL_reserve_2 : decode cL_reserve 2 = .ok (.iconst 0, 1) := by decide +kernel
theorem dL_reserve_3 : decode cL_reserve 3 = .ok (.aload_n 0, 1) := by decide +kernel
theorem dL_reserve_4 : decode cL_reserve 4 = .ok (.iload_n 1, 1) := by decide +kernel
theorem dL_reserve_5 : decode cL_reserve 5 = .ok (.iload_n 2, 1) := by decide +kernel
theorem dL_reserve_6 : decode cL_reserve 6 = .ok (.iload_n 3, 1) := by decide +kernel
theorem dL_reserve_7 : decode cL_reserve 7 = .ok (.invokevirtual 30, 3) := by decide +kernel
theorem dL_reserve_10 : decode cL_reserve 10 = .ok (.i2l, 1) := by decide +kernel
theorem dL_reserve_11 : decode cL_reserve 11 = .ok (.lastore, 1) := by decide +kernel
theorem dL_reserve_12 : decode cL_reserve 12 = .ok (.goto 11, 3) := by decide +kernel
theorem dL_reserve_15 : decode cL_reserve 15 = .ok (.astore 5, 2) := by decide +kernel
theorem dL_reserve_17 : decode cL_reserve 17 = .ok (.iconst 1, 1) := by decide +kernel
theorem dL_reserve_18 : decode cL_reserve 18 = .ok (.ireturn, 1) := by decide +kernel
theorem dL_reserve_19 : decode cL_reserve 19 = .ok (.astore 5, 2) := by decide +kernel
theorem dL_reserve_21 : decode cL_reserve 21 = .ok (.iconst 2, 1) := by decide +kernel
theorem dL_reserve_22 : decode cL_reserve 22 = .ok (.ireturn, 1) := by decide +kernel
theorem dL_reserve_23 : decode cL_reserve 23 = .ok (.iconst 0, 1) := by decide +kernel
theorem dL_reserve_24 : decode cL_reserve 24 = .ok (.ireturn, 1) := by decide +kernel
theorem dL_cancelReservation_0 : decode cL_cancelReservation 0 = .ok (.aload_n 0, 1) := by decide +kernel
theorem dL_cancelReservation_1 : decode cL_cancelReservation 1 = .ok (.iload_n 1, 1) := by decide +kernel
theorem dL_cancelReservation_2 : decode cL_cancelReservation 2 = .ok (.invokevirtual 34, 3) := by decide +kernel
theorem dL_cancelReservation_5 : decode cL_cancelReservation 5 = .ok (.goto 9, 3) := by decide +kernel
theorem dL_cancelReservation_8 : decode cL_cancelReservation 8 = .ok (.astore_n 2, 1) := by decide +kernel
theorem dL_cancelReservation_9 : decode cL_cancelReservation 9 = .ok (.iconst 1, 1) := by decide +kernel
theorem dL_cancelReservation_10 : decode cL_cancelReservation 10 = .ok (.ireturn, 1) := by decide +kernel
theorem dL_cancelReservation_11 : decode cL_cancelReservation 11 = .ok (.astore_n 2, 1) := by decide +kernel
theorem dL_cancelReservation_12 : decode cL_cancelReservation 12 = .ok (.iconst 2, 1) := by decide +kernel
theorem dL_cancelReservation_13 : decode cL_cancelReservation 13 = .ok (.ireturn, 1) := by decide +kernel
theorem dL_cancelReservation_14 : decode cL_cancelReservation 14 = .ok (.iconst 0, 1) := by decide +kernel
theorem dL_cancelReservation_15 : decode cL_cancelReservation 15 = .ok (.ireturn, 1) := by decide +kernel
theorem dL_reservedProcessor_0 : decode cL_reservedProcessor 0 = .ok (.aload_n 2, 1) := by decide +kernel
theorem dL_reservedProcessor_1 : decode cL_reservedProcessor 1 = .ok (.iconst 0, 1) := by decide +kernel
theorem dL_reservedProcessor_2 : decode cL_reservedProcessor 2 = .ok (.aload_n 0, 1) := by decide +kernel
theorem dL_reservedProcessor_3 : decode cL_reservedProcessor 3 = .ok (.iload_n 1, 1) := by decide +kernel
theorem dL_reservedProcessor_4 : decode cL_reservedProcessor 4 = .ok (.invokevirtual 38, 3) := by decide +kernel
theorem dL_reservedProcessor_7 : decode cL_reservedProcessor 7 = .ok (.i2l, 1) := by decide +kernel
theorem dL_reservedProcessor_8 : decode cL_reservedProcessor 8 = .ok (.lastore, 1) := by decide +kernel
theorem dL_reservedProcessor_9 : decode cL_reservedProcessor 9 = .ok (.goto 9, 3) := by decide +kernel
theorem dL_reservedProcessor_12 : decode cL_reservedProcessor 12 = .ok (.astore_n 3, 1) := by decide +kernel
theorem dL_reservedProcessor_13 : decode cL_reservedProcessor 13 = .ok (.iconst 1, 1) := by decide +kernel
theorem dL_reservedProcessor_14 : decode cL_reservedProcessor 14 = .ok (.ireturn, 1) := by decide +kernel
theorem dL_reservedProcessor_15 : decode cL_reservedProcessor 15 = .ok (.astore_n 3, 1) := by decide +kernel
theorem dL_reservedProcessor_16 : decode cL_reservedProcessor 16 = .ok (.iconst 2, 1) := by decide +kernel
theorem dL_reservedProcessor_17 : decode cL_reservedProcessor 17 = .ok (.ireturn, 1) := by decide +kernel
theorem dL_reservedProcessor_18 : decode cL_reservedProcessor 18 = .ok (.iconst 0, 1) := by decide +kernel
theorem dL_reservedProcessor_19 : decode cL_reservedProcessor 19 = .ok (.ireturn, 1) := by decide +kernel
theorem dL_state_0 : decode cL_state 0 = .ok (.aload_n 2, 1) := by decide +kernel
theorem dL_state_1 : decode cL_state 1 = .ok (.iconst 0, 1) := by decide +kernel
theorem dL_state_2 : decode cL_state 2 = .ok (.aload_n 0, 1) := by decide +kernel
theorem dL_state_3 : decode cL_state 3 = .ok (.iload_n 1, 1) := by decide +kernel
theorem dL_state_4 : decode cL_state 4 = .ok (.invokevirtual 41, 3) := by decide +kernel
theorem dL_state_7 : decode cL_state 7 = .ok (.i2l, 1) := by decide +kernel
theorem dL_state_8 : decode cL_state 8 = .ok (.lastore, 1) := by decide +kernel
theorem dL_state_9 : decode cL_state 9 = .ok (.goto 6, 3) := by decide +kernel
theorem dL_state_12 : decode cL_state 12 = .ok (.astore_n 3, 1) := by decide +kernel
theorem dL_state_13 : decode cL_state 13 = .ok (.iconst 1, 1) := by decide +kernel
theorem dL_state_14 : decode cL_state 14 = .ok (.ireturn, 1) := by decide +kernel
theorem dL_state_15 : decode cL_state 15 = .ok (.iconst 0, 1) := by decide +kernel
theorem dL_state_16 : decode cL_state 16 = .ok (.ireturn, 1) := by decide +kernel
theorem dL_startTime_0 : decode cL_startTime 0 = .ok (.aload_n 2, 1) := by decide +kernel
theorem dL_startTime_1 : decode cL_startTime 1 = .ok (.iconst 0, 1) := by decide +kernel
theorem dL_startTime_2 : decode cL_startTime 2 = .ok (.aload_n 0, 1) := by decide +kernel
theorem dL_startTime_3 : decode cL_startTime 3 = .ok (.iload_n 1, 1) := by decide +kernel
theorem dL_startTime_4 : decode cL_startTime 4 = .ok (.invokevirtual 44, 3) := by decide +kernel
theorem dL_startTime_7 : decode cL_startTime 7 = .ok (.i2l, 1) := by decide +kernel
theorem dL_startTime_8 : decode cL_startTime 8 = .ok (.lastore, 1) := by decide +kernel
theorem dL_startTime_9 : decode cL_startTime 9 = .ok (.goto 9, 3) := by decide +kernel
theorem dL_startTime_12 : decode cL_startTime 12 = .ok (.astore_n 3, 1) := by decide +kernel
theorem dL_startTime_13 : decode cL_startTime 13 = .ok (.iconst 1, 1) := by decide +kernel
theorem dL_startTime_14 : decode cL_startTime 14 = .ok (.ireturn, 1) := by decide +kernel
theorem dL_startTime_15 : decode cL_startTime 15 = .ok (.astore_n 3, 1) := by decide +kernel
theorem dL_startTime_16 : decode cL_startTime 16 = .ok (.iconst 2, 1) := by decide +kernel
theorem dL_startTime_17 : decode cL_startTime 17 = .ok (.ireturn, 1) := by decide +kernel
theorem dL_startTime_18 : decode cL_startTime 18 = .ok (.iconst 0, 1) := by decide +kernel
theorem dL_startTime_19 : decode cL_startTime 19 = .ok (.ireturn, 1) := by decide +kernel
theorem dL_firstProcessor_0 : decode cL_firstProcessor 0 = .ok (.aload_n 2, 1) := by decide +kernel
theorem dL_firstProcessor_1 : decode cL_firstProcessor 1 = .ok (.iconst 0, 1) := by decide +kernel
theorem dL_firstProcessor_2 : decode cL_firstProcessor 2 = .ok (.aload_n 0, 1) := by decide +kernel
theorem dL_firstProcessor_3 : decode cL_firstProcessor 3 = .ok (.iload_n 1, 1) := by decide +kernel
theorem dL_firstProcessor_4 : decode cL_firstProcessor 4 = .ok (.invokevirtual 47, 3) := by decide +kernel
theorem dL_firstProcessor_7 : decode cL_firstProcessor 7 = .ok (.i2l, 1) := by decide +kernel
theorem dL_firstProcessor_8 : decode cL_firstProcessor 8 = .ok (.lastore, 1) := by decide +kernel
theorem dL_firstProcessor_9 : decode cL_firstProcessor 9 = .ok (.goto 9, 3) := by decide +kernel
theorem dL_firstProcessor_12 : decode cL_firstProcessor 12 = .ok (.astore_n 3, 1) := by decide +kernel
theorem dL_firstProcessor_13 : decode cL_firstProcessor 13 = .ok (.iconst 1, 1) := by decide +kernel
theorem dL_firstProcessor_14 : decode cL_firstProcessor 14 = .ok (.ireturn, 1) := by decide +kernel
theorem dL_firstProcessor_15 : decode cL_firstProcessor 15 = .ok (.astore_n 3, 1) := by decide +kernel
theorem dL_firstProcessor_16 : decode cL_firstProcessor 16 = .ok (.iconst 2, 1) := by decide +kernel
theorem dL_firstProcessor_17 : decode cL_firstProcessor 17 = .ok (.ireturn, 1) := by decide +kernel
theorem dL_firstProcessor_18 : decode cL_firstProcessor 18 = .ok (.iconst 0, 1) := by decide +kernel
theorem dL_firstProcessor_19 : decode cL_firstProcessor 19 = .ok (.ireturn, 1) := by decide +kernel
theorem dL_promise_0 : decode cL_promise 0 = .ok (.aload_n 2, 1) := by decide +kernel
theorem dL_promise_1 : decode cL_promise 1 = .ok (.iconst 0, 1) := by decide +kernel
theorem dL_promise_2 : decode cL_promise 2 = .ok (.aload_n 0, 1) := by decide +kernel
theorem dL_promise_3 : decode cL_promise 3 = .ok (.iload_n 1, 1) := by decide +kernel
theorem dL_promise_4 : decode cL_promise 4 = .ok (.invokevirtual 50, 3) := by decide +kernel
theorem dL_promise_7 : decode cL_promise 7 = .ok (.i2l, 1) := by decide +kernel
theorem dL_promise_8 : decode cL_promise 8 = .ok (.lastore, 1) := by decide +kernel
theorem dL_promise_9 : decode cL_promise 9 = .ok (.goto 6, 3) := by decide +kernel
theorem dL_promise_12 : decode cL_promise 12 = .ok (.astore_n 3, 1) := by decide +kernel
theorem dL_promise_13 : decode cL_promise 13 = .ok (.iconst 1, 1) := by decide +kernel
theorem dL_promise_14 : decode cL_promise 14 = .ok (.ireturn, 1) := by decide +kernel
theorem dL_promise_15 : decode cL_promise 15 = .ok (.iconst 0, 1) := by decide +kernel
theorem dL_promise_16 : decode cL_promise 16 = .ok (.ireturn, 1) := by decide +kernel
theorem dL_finishTime_0 : decode cL_finishTime 0 = .ok (.aload_n 2, 1) := by decide +kernel
theorem dL_finishTime_1 : decode cL_finishTime 1 = .ok (.iconst 0, 1) := by decide +kernel
theorem dL_finishTime_2 : decode cL_finishTime 2 = .ok (.aload_n 0, 1) := by decide +kernel
theorem dL_finishTime_3 : decode cL_finishTime 3 = .ok (.iload_n 1, 1) := by decide +kernel
theorem dL_finishTime_4 : decode cL_finishTime 4 = .ok (.invokevirtual 53, 3) := by decide +kernel
theorem dL_finishTime_7 : decode cL_finishTime 7 = .ok (.i2l, 1) := by decide +kernel
theorem dL_finishTime_8 : decode cL_finishTime 8 = .ok (.lastore, 1) := by decide +kernel
theorem dL_finishTime_9 : decode cL_finishTime 9 = .ok (.goto 9, 3) := by decide +kernel
theorem dL_finishTime_12 : decode cL_finishTime 12 = .ok (.astore_n 3, 1) := by decide +kernel
theorem dL_finishTime_13 : decode cL_finishTime 13 = .ok (.iconst 1, 1) := by decide +kernel
theorem dL_finishTime_14 : decode cL_finishTime 14 = .ok (.ireturn, 1) := by decide +kernel
theorem dL_finishTime_15 : decode cL_finishTime 15 = .ok (.astore_n 3, 1) := by decide +kernel
theorem dL_finishTime_16 : decode cL_finishTime 16 = .ok (.iconst 2, 1) := by decide +kernel
theorem dL_finishTime_17 : decode cL_finishTime 17 = .ok (.ireturn, 1) := by decide +kernel
theorem dL_finishTime_18 : decode cL_finishTime 18 = .ok (.iconst 0, 1) := by decide +kernel
theorem dL_finishTime_19 : decode cL_finishTime 19 = .ok (.ireturn, 1) := by decide +kernel
theorem dL_preemptions_0 : decode cL_preemptions 0 = .ok (.aload_n 2, 1) := by decide +kernel
theorem dL_preemptions_1 : decode cL_preemptions 1 = .ok (.iconst 0, 1) := by decide +kernel
theorem dL_preemptions_2 : decode cL_preemptions 2 = .ok (.aload_n 0, 1) := by decide +kernel
theorem dL_preemptions_3 : decode cL_preemptions 3 = .ok (.iload_n 1, 1) := by decide +kernel
theorem dL_preemptions_4 : decode cL_preemptions 4 = .ok (.invokevirtual 56, 3) := by decide +kernel
theorem dL_preemptions_7 : decode cL_preemptions 7 = .ok (.i2l, 1) := by decide +kernel
theorem dL_preemptions_8 : decode cL_preemptions 8 = .ok (.lastore, 1) := by decide +kernel
theorem dL_preemptions_9 : decode cL_preemptions 9 = .ok (.goto 6, 3) := by decide +kernel
theorem dL_preemptions_12 : decode cL_preemptions 12 = .ok (.astore_n 3, 1) := by decide +kernel
theorem dL_preemptions_13 : decode cL_preemptions 13 = .ok (.iconst 1, 1) := by decide +kernel
theorem dL_preemptions_14 : decode cL_preemptions 14 = .ok (.ireturn, 1) := by decide +kernel
theorem dL_preemptions_15 : decode cL_preemptions 15 = .ok (.iconst 0, 1) := by decide +kernel
theorem dL_preemptions_16 : decode cL_preemptions 16 = .ok (.ireturn, 1) := by decide +kernel
theorem dL_waitTime_0 : decode cL_waitTime 0 = .ok (.aload_n 2, 1) := by decide +kernel
theorem dL_waitTime_1 : decode cL_waitTime 1 = .ok (.iconst 0, 1) := by decide +kernel
theorem dL_waitTime_2 : decode cL_waitTime 2 = .ok (.aload_n 0, 1) := by decide +kernel
theorem dL_waitTime_3 : decode cL_waitTime 3 = .ok (.iload_n 1, 1) := by decide +kernel
theorem dL_waitTime_4 : decode cL_waitTime 4 = .ok (.invokevirtual 59, 3) := by decide +kernel
theorem dL_waitTime_7 : decode cL_waitTime 7 = .ok (.i2l, 1) := by decide +kernel
theorem dL_waitTime_8 : decode cL_waitTime 8 = .ok (.lastore, 1) := by decide +kernel
theorem dL_waitTime_9 : decode cL_waitTime 9 = .ok (.goto 9, 3) := by decide +kernel
theorem dL_waitTime_12 : decode cL_waitTime 12 = .ok (.astore_n 3, 1) := by decide +kernel
theorem dL_waitTime_13 : decode cL_waitTime 13 = .ok (.iconst 1, 1) := by decide +kernel
theorem dL_waitTime_14 : decode cL_waitTime 14 = .ok (.ireturn, 1) := by decide +kernel
theorem dL_waitTime_15 : decode cL_waitTime 15 = .ok (.astore_n 3, 1) := by decide +kernel
theorem dL_waitTime_16 : decode cL_waitTime 16 = .ok (.iconst 2, 1) := by decide +kernel
theorem dL_waitTime_17 : decode cL_waitTime 17 = .ok (.ireturn, 1) := by decide +kernel
theorem dL_waitTime_18 : decode cL_waitTime 18 = .ok (.iconst 0, 1) := by decide +kernel
theorem dL_waitTime_19 : decode cL_waitTime 19 = .ok (.ireturn, 1) := by decide +kernel
theorem dL_averageWait_0 : decode cL_averageWait 0 = .ok (.aload_n 1, 1) := by decide +kernel
theorem dL_averageWait_1 : decode cL_averageWait 1 = .ok (.iconst 0, 1) := by decide +kernel
theorem dL_averageWait_2 : decode cL_averageWait 2 = .ok (.aload_n 0, 1) := by decide +kernel
theorem dL_averageWait_3 : decode cL_averageWait 3 = .ok (.invokevirtual 62, 3) := by decide +kernel
theorem dL_averageWait_6 : decode cL_averageWait 6 = .ok (.dastore, 1) := by decide +kernel
theorem dL_averageWait_7 : decode cL_averageWait 7 = .ok (.goto 6, 3) := by decide +kernel
theorem dL_averageWait_10 : decode cL_averageWait 10 = .ok (.astore_n 2, 1) := by decide +kernel
theorem dL_averageWait_11 : decode cL_averageWait 11 = .ok (.iconst 1, 1) := by decide +kernel
theorem dL_averageWait_12 : decode cL_averageWait 12 = .ok (.ireturn, 1) := by decide +kernel
theorem dL_averageWait_13 : decode cL_averageWait 13 = .ok (.iconst 0, 1) := by decide +kernel
theorem dL_averageWait_14 : decode cL_averageWait 14 = .ok (.ireturn, 1) := by decide +kernel
theorem dL_slowdown_0 : decode cL_slowdown 0 = .ok (.aload_n 2, 1) := by decide +kernel
theorem dL_slowdown_1 : decode cL_slowdown 1 = .ok (.iconst 0, 1) := by decide +kernel
theorem dL_slowdown_2 : decode cL_slowdown 2 = .ok (.aload_n 0, 1) := by decide +kernel
theorem dL_slowdown_3 : decode cL_slowdown 3 = .ok (.iload_n 1, 1) := by decide +kernel
theorem dL_slowdown_4 : decode cL_slowdown 4 = .ok (.invokevirtual 68, 3) := by decide +kernel
theorem dL_slowdown_7 : decode cL_slowdown 7 = .ok (.f2d, 1) := by decide +kernel
theorem dL_slowdown_8 : decode cL_slowdown 8 = .ok (.dastore, 1) := by decide +kernel
theorem dL_slowdown_9 : decode cL_slowdown 9 = .ok (.goto 9, 3) := by decide +kernel
theorem dL_slowdown_12 : decode cL_slowdown 12 = .ok (.astore_n 3, 1) := by decide +kernel
theorem dL_slowdown_13 : decode cL_slowdown 13 = .ok (.iconst 1, 1) := by decide +kernel
theorem dL_slowdown_14 : decode cL_slowdown 14 = .ok (.ireturn, 1) := by decide +kernel
theorem dL_slowdown_15 : decode cL_slowdown 15 = .ok (.astore_n 3, 1) := by decide +kernel
theorem dL_slowdown_16 : decode cL_slowdown 16 = .ok (.iconst 2, 1) := by decide +kernel
theorem dL_slowdown_17 : decode cL_slowdown 17 = .ok (.ireturn, 1) := by decide +kernel
theorem dL_slowdown_18 : decode cL_slowdown 18 = .ok (.iconst 0, 1) := by decide +kernel
theorem dL_slowdown_19 : decode cL_slowdown 19 = .ok (.ireturn, 1) := by decide +kernel
theorem dL_usage_0 : decode cL_usage 0 = .ok (.aload_n 2, 1) := by decide +kernel
theorem dL_usage_1 : decode cL_usage 1 = .ok (.iconst 0, 1) := by decide +kernel
theorem dL_usage_2 : decode cL_usage 2 = .ok (.aload_n 0, 1) := by decide +kernel
theorem dL_usage_3 : decode cL_usage 3 = .ok (.iload_n 1, 1) := by decide +kernel
theorem dL_usage_4 : decode cL_usage 4 = .ok (.invokevirtual 72, 3) := by decide +kernel
theorem dL_usage_7 : decode cL_usage 7 = .ok (.i2l, 1) := by decide +kernel
theorem dL_usage_8 : decode cL_usage 8 = .ok (.lastore, 1) := by decide +kernel
theorem dL_usage_9 : decode cL_usage 9 = .ok (.goto 6, 3) := by decide +kernel
theorem dL_usage_12 : decode cL_usage 12 = .ok (.astore_n 3, 1) := by decide +kernel
theorem dL_usage_13 : decode cL_usage 13 = .ok (.iconst 1, 1) := by decide +kernel
theorem dL_usage_14 : decode cL_usage 14 = .ok (.ireturn, 1) := by decide +kernel
theorem dL_usage_15 : decode cL_usage 15 = .ok (.iconst 0, 1) := by decide +kernel
theorem dL_usage_16 : decode cL_usage 16 = .ok (.ireturn, 1) := by decide +kernel
theorem dL_utilization_0 : decode cL_utilization 0 = .ok (.aload_n 1, 1) := by decide +kernel
theorem dL_utilization_1 : decode cL_utilization 1 = .ok (.iconst 0, 1) := by decide +kernel
theorem dL_utilization_2 : decode cL_utilization 2 = .ok (.aload_n 0, 1) := by decide +kernel
theorem dL_utilization_3 : decode cL_utilization 3 = .ok (.invokevirtual 75, 3) := by decide +kernel
theorem dL_utilization_6 : decode cL_utilization 6 = .ok (.dastore, 1) := by decide +kernel
theorem dL_utilization_7 : decode cL_utilization 7 = .ok (.goto 6, 3) := by decide +kernel
theorem dL_utilization_10 : decode cL_utilization 10 = .ok (.astore_n 2, 1) := by decide +kernel
theorem dL_utilization_11 : decode cL_utilization 11 = .ok (.iconst 1, 1) := by decide +kernel
theorem dL_utilization_12 : decode cL_utilization 12 = .ok (.ireturn, 1) := by decide +kernel
theorem dL_utilization_13 : decode cL_utilization 13 = .ok (.iconst 0, 1) := by decide +kernel
theorem dL_utilization_14 : decode cL_utilization 14 = .ok (.ireturn, 1) := by decide +kernel
theorem dL_ownerAt_0 : decode cL_ownerAt 0 = .ok (.aload_n 3, 1) := by decide +kernel
theorem dL_ownerAt_1 : decode cL_ownerAt 1 = .ok (.iconst 0, 1) := by decide +kernel
theorem dL_ownerAt_2 : decode cL_ownerAt 2 = .ok (.aload_n 0, 1) := by decide +kernel
theorem dL_ownerAt_3 : decode cL_ownerAt 3 = .ok (.iload_n 1, 1) := by decide +kernel
theorem dL_ownerAt_4 : decode cL_ownerAt 4 = .ok (.iload_n 2, 1) := by decide +kernel
theorem dL_ownerAt_5 : decode cL_ownerAt 5 = .ok (.invokevirtual 78, 3) := by decide +kernel
theorem dL_ownerAt_8 : decode cL_ownerAt 8 = .ok (.i2l, 1) := by decide +kernel
theorem dL_ownerAt_9 : decode cL_ownerAt 9 = .ok (.lastore, 1) := by decide +kernel
theorem dL_ownerAt_10 : decode cL_ownerAt 10 = .ok (.goto 7, 3) := by decide +kernel
theorem dL_ownerAt_13 : decode cL_ownerAt 13 = .ok (.astore 4, 2) := by decide +kernel
theorem dL_ownerAt_15 : decode cL_ownerAt 15 = .ok (.iconst 1, 1) := by decide +kernel
theorem dL_ownerAt_16 : decode cL_ownerAt 16 = .ok (.ireturn, 1) := by decide +kernel
theorem dL_ownerAt_17 : decode cL_ownerAt 17 = .ok (.iconst 0, 1) := by decide +kernel
theorem dL_ownerAt_18 : decode cL_ownerAt 18 = .ok (.ireturn, 1) := by decide +kernel
theorem dL_freeProcessors_0 : decode cL_freeProcessors 0 = .ok (.aload_n 2, 1) := by decide +kernel
theorem dL_freeProcessors_1 : decode cL_freeProcessors 1 = .ok (.iconst 0, 1) := by decide +kernel
theorem dL_freeProcessors_2 : decode cL_freeProcessors 2 = .ok (.aload_n 0, 1) := by decide +kernel
theorem dL_freeProcessors_3 : decode cL_freeProcessors 3 = .ok (.iload_n 1, 1) := by decide +kernel
theorem dL_freeProcessors_4 : decode cL_freeProcessors 4 = .ok (.invokevirtual 81, 3) := by decide +kernel
theorem dL_freeProcessors_7 : decode cL_freeProcessors 7 = .ok (.i2l, 1) := by decide +kernel
theorem dL_freeProcessors_8 : decode cL_freeProcessors 8 = .ok (.lastore, 1) := by decide +kernel
theorem dL_freeProcessors_9 : decode cL_freeProcessors 9 = .ok (.goto 6, 3) := by decide +kernel
theorem dL_freeProcessors_12 : decode cL_freeProcessors 12 = .ok (.astore_n 3, 1) := by decide +kernel
theorem dL_freeProcessors_13 : decode cL_freeProcessors 13 = .ok (.iconst 1, 1) := by decide +kernel
theorem dL_freeProcessors_14 : decode cL_freeProcessors 14 = .ok (.ireturn, 1) := by decide +kernel
theorem dL_freeProcessors_15 : decode cL_freeProcessors 15 = .ok (.iconst 0, 1) := by decide +kernel
theorem dL_freeProcessors_16 : decode cL_freeProcessors 16 = .ok (.ireturn, 1) := by decide +kernel
theorem dL_freeBlocks_0 : decode cL_freeBlocks 0 = .ok (.aload_n 2, 1) := by decide +kernel
theorem dL_freeBlocks_1 : decode cL_freeBlocks 1 = .ok (.iconst 0, 1) := by decide +kernel
theorem dL_freeBlocks_2 : decode cL_freeBlocks 2 = .ok (.aload_n 0, 1) := by decide +kernel
theorem dL_freeBlocks_3 : decode cL_freeBlocks 3 = .ok (.iload_n 1, 1) := by decide +kernel
theorem dL_freeBlocks_4 : decode cL_freeBlocks 4 = .ok (.invokevirtual 84, 3) := by decide +kernel
theorem dL_freeBlocks_7 : decode cL_freeBlocks 7 = .ok (.i2l, 1) := by decide +kernel
theorem dL_freeBlocks_8 : decode cL_freeBlocks 8 = .ok (.lastore, 1) := by decide +kernel
theorem dL_freeBlocks_9 : decode cL_freeBlocks 9 = .ok (.goto 6, 3) := by decide +kernel
theorem dL_freeBlocks_12 : decode cL_freeBlocks 12 = .ok (.astore_n 3, 1) := by decide +kernel
theorem dL_freeBlocks_13 : decode cL_freeBlocks 13 = .ok (.iconst 1, 1) := by decide +kernel
theorem dL_freeBlocks_14 : decode cL_freeBlocks 14 = .ok (.ireturn, 1) := by decide +kernel
theorem dL_freeBlocks_15 : decode cL_freeBlocks 15 = .ok (.iconst 0, 1) := by decide +kernel
theorem dL_freeBlocks_16 : decode cL_freeBlocks 16 = .ok (.ireturn, 1) := by decide +kernel
theorem dL_largestFree_0 : decode cL_largestFree 0 = .ok (.aload_n 1, 1) := by decide +kernel
theorem dL_largestFree_1 : decode cL_largestFree 1 = .ok (.iconst 0, 1) := by decide +kernel
theorem dL_largestFree_2 : decode cL_largestFree 2 = .ok (.aload_n 0, 1) := by decide +kernel
theorem dL_largestFree_3 : decode cL_largestFree 3 = .ok (.invokevirtual 87, 3) := by decide +kernel
theorem dL_largestFree_6 : decode cL_largestFree 6 = .ok (.i2l, 1) := by decide +kernel
theorem dL_largestFree_7 : decode cL_largestFree 7 = .ok (.lastore, 1) := by decide +kernel
theorem dL_largestFree_8 : decode cL_largestFree 8 = .ok (.goto 6, 3) := by decide +kernel
theorem dL_largestFree_11 : decode cL_largestFree 11 = .ok (.astore_n 2, 1) := by decide +kernel
theorem dL_largestFree_12 : decode cL_largestFree 12 = .ok (.iconst 1, 1) := by decide +kernel
theorem dL_largestFree_13 : decode cL_largestFree 13 = .ok (.ireturn, 1) := by decide +kernel
theorem dL_largestFree_14 : decode cL_largestFree 14 = .ok (.iconst 0, 1) := by decide +kernel
theorem dL_largestFree_15 : decode cL_largestFree 15 = .ok (.ireturn, 1) := by decide +kernel
theorem dL_fragmentation_0 : decode cL_fragmentation 0 = .ok (.aload_n 1, 1) := by decide +kernel
theorem dL_fragmentation_1 : decode cL_fragmentation 1 = .ok (.iconst 0, 1) := by decide +kernel
theorem dL_fragmentation_2 : decode cL_fragmentation 2 = .ok (.aload_n 0, 1) := by decide +kernel
theorem dL_fragmentation_3 : decode cL_fragmentation 3 = .ok (.invokevirtual 93, 3) := by decide +kernel
theorem dL_fragmentation_6 : decode cL_fragmentation 6 = .ok (.dastore, 1) := by decide +kernel
theorem dL_fragmentation_7 : decode cL_fragmentation 7 = .ok (.goto 6, 3) := by decide +kernel
theorem dL_fragmentation_10 : decode cL_fragmentation 10 = .ok (.astore_n 2, 1) := by decide +kernel
theorem dL_fragmentation_11 : decode cL_fragmentation 11 = .ok (.iconst 1, 1) := by decide +kernel
theorem dL_fragmentation_12 : decode cL_fragmentation 12 = .ok (.ireturn, 1) := by decide +kernel
theorem dL_fragmentation_13 : decode cL_fragmentation 13 = .ok (.iconst 0, 1) := by decide +kernel
theorem dL_fragmentation_14 : decode cL_fragmentation 14 = .ok (.ireturn, 1) := by decide +kernel
theorem dL_earliestStart_0 : decode cL_earliestStart 0 = .ok (.aload_n 3, 1) := by decide +kernel
theorem dL_earliestStart_1 : decode cL_earliestStart 1 = .ok (.iconst 0, 1) := by decide +kernel
theorem dL_earliestStart_2 : decode cL_earliestStart 2 = .ok (.aload_n 0, 1) := by decide +kernel
theorem dL_earliestStart_3 : decode cL_earliestStart 3 = .ok (.iload_n 1, 1) := by decide +kernel
theorem dL_earliestStart_4 : decode cL_earliestStart 4 = .ok (.iload_n 2, 1) := by decide +kernel
theorem dL_earliestStart_5 : decode cL_earliestStart 5 = .ok (.invokevirtual 96, 3) := by decide +kernel
theorem dL_earliestStart_8 : decode cL_earliestStart 8 = .ok (.i2l, 1) := by decide +kernel
theorem dL_earliestStart_9 : decode cL_earliestStart 9 = .ok (.lastore, 1) := by decide +kernel
theorem dL_earliestStart_10 : decode cL_earliestStart 10 = .ok (.goto 7, 3) := by decide +kernel
theorem dL_earliestStart_13 : decode cL_earliestStart 13 = .ok (.astore 4, 2) := by decide +kernel
theorem dL_earliestStart_15 : decode cL_earliestStart 15 = .ok (.iconst 1, 1) := by decide +kernel
theorem dL_earliestStart_16 : decode cL_earliestStart 16 = .ok (.ireturn, 1) := by decide +kernel
theorem dL_earliestStart_17 : decode cL_earliestStart 17 = .ok (.iconst 0, 1) := by decide +kernel
theorem dL_earliestStart_18 : decode cL_earliestStart 18 = .ok (.ireturn, 1) := by decide +kernel
theorem dL_lowestBlock_0 : decode cL_lowestBlock 0 = .ok (.aload 4, 2) := by decide +kernel
theorem dL_lowestBlock_2 : decode cL_lowestBlock 2 = .ok (.iconst 0, 1) := by decide +kernel
theorem dL_lowestBlock_3 : decode cL_lowestBlock 3 = .ok (.aload_n 0, 1) := by decide +kernel
theorem dL_lowestBlock_4 : decode cL_lowestBlock 4 = .ok (.iload_n 1, 1) := by decide +kernel
theorem dL_lowestBlock_5 : decode cL_lowestBlock 5 = .ok (.iload_n 2, 1) := by decide +kernel
theorem dL_lowestBlock_6 : decode cL_lowestBlock 6 = .ok (.iload_n 3, 1) := by decide +kernel
theorem dL_lowestBlock_7 : decode cL_lowestBlock 7 = .ok (.invokevirtual 99, 3) := by decide +kernel
theorem dL_lowestBlock_10 : decode cL_lowestBlock 10 = .ok (.i2l, 1) := by decide +kernel
theorem dL_lowestBlock_11 : decode cL_lowestBlock 11 = .ok (.lastore, 1) := by decide +kernel
theorem dL_lowestBlock_12 : decode cL_lowestBlock 12 = .ok (.goto 11, 3) := by decide +kernel
theorem dL_lowestBlock_15 : decode cL_lowestBlock 15 = .ok (.astore 5, 2) := by decide +kernel
theorem dL_lowestBlock_17 : decode cL_lowestBlock 17 = .ok (.iconst 1, 1) := by decide +kernel
theorem dL_lowestBlock_18 : decode cL_lowestBlock 18 = .ok (.ireturn, 1) := by decide +kernel
theorem dL_lowestBlock_19 : decode cL_lowestBlock 19 = .ok (.astore 5, 2) := by decide +kernel
theorem dL_lowestBlock_21 : decode cL_lowestBlock 21 = .ok (.iconst 2, 1) := by decide +kernel
theorem dL_lowestBlock_22 : decode cL_lowestBlock 22 = .ok (.ireturn, 1) := by decide +kernel
theorem dL_lowestBlock_23 : decode cL_lowestBlock 23 = .ok (.iconst 0, 1) := by decide +kernel
theorem dL_lowestBlock_24 : decode cL_lowestBlock 24 = .ok (.ireturn, 1) := by decide +kernel
theorem dL_blockStarts_0 : decode cL_blockStarts 0 = .ok (.aload_n 3, 1) := by decide +kernel
theorem dL_blockStarts_1 : decode cL_blockStarts 1 = .ok (.iconst 0, 1) := by decide +kernel
theorem dL_blockStarts_2 : decode cL_blockStarts 2 = .ok (.aload_n 0, 1) := by decide +kernel
theorem dL_blockStarts_3 : decode cL_blockStarts 3 = .ok (.iload_n 1, 1) := by decide +kernel
theorem dL_blockStarts_4 : decode cL_blockStarts 4 = .ok (.iload_n 2, 1) := by decide +kernel
theorem dL_blockStarts_5 : decode cL_blockStarts 5 = .ok (.invokevirtual 102, 3) := by decide +kernel
theorem dL_blockStarts_8 : decode cL_blockStarts 8 = .ok (.i2l, 1) := by decide +kernel
theorem dL_blockStarts_9 : decode cL_blockStarts 9 = .ok (.lastore, 1) := by decide +kernel
theorem dL_blockStarts_10 : decode cL_blockStarts 10 = .ok (.goto 7, 3) := by decide +kernel
theorem dL_blockStarts_13 : decode cL_blockStarts 13 = .ok (.astore 4, 2) := by decide +kernel
theorem dL_blockStarts_15 : decode cL_blockStarts 15 = .ok (.iconst 1, 1) := by decide +kernel
theorem dL_blockStarts_16 : decode cL_blockStarts 16 = .ok (.ireturn, 1) := by decide +kernel
theorem dL_blockStarts_17 : decode cL_blockStarts 17 = .ok (.iconst 0, 1) := by decide +kernel
theorem dL_blockStarts_18 : decode cL_blockStarts 18 = .ok (.ireturn, 1) := by decide +kernel
theorem dL_busiestBlock_0 : decode cL_busiestBlock 0 = .ok (.aload_n 1, 1) := by decide +kernel
theorem dL_busiestBlock_1 : decode cL_busiestBlock 1 = .ok (.iconst 0, 1) := by decide +kernel
theorem dL_busiestBlock_2 : decode cL_busiestBlock 2 = .ok (.aload_n 0, 1) := by decide +kernel
theorem dL_busiestBlock_3 : decode cL_busiestBlock 3 = .ok (.invokevirtual 105, 3) := by decide +kernel
theorem dL_busiestBlock_6 : decode cL_busiestBlock 6 = .ok (.i2l, 1) := by decide +kernel
theorem dL_busiestBlock_7 : decode cL_busiestBlock 7 = .ok (.lastore, 1) := by decide +kernel
theorem dL_busiestBlock_8 : decode cL_busiestBlock 8 = .ok (.goto 6, 3) := by decide +kernel
theorem dL_busiestBlock_11 : decode cL_busiestBlock 11 = .ok (.astore_n 2, 1) := by decide +kernel
theorem dL_busiestBlock_12 : decode cL_busiestBlock 12 = .ok (.iconst 1, 1) := by decide +kernel
theorem dL_busiestBlock_13 : decode cL_busiestBlock 13 = .ok (.ireturn, 1) := by decide +kernel
theorem dL_busiestBlock_14 : decode cL_busiestBlock 14 = .ok (.iconst 0, 1) := by decide +kernel
theorem dL_busiestBlock_15 : decode cL_busiestBlock 15 = .ok (.ireturn, 1) := by decide +kernel
theorem dL_event_0 : decode cL_event 0 = .ok (.aload_n 3, 1) := by decide +kernel
theorem dL_event_1 : decode cL_event 1 = .ok (.iconst 0, 1) := by decide +kernel
theorem dL_event_2 : decode cL_event 2 = .ok (.aload_n 0, 1) := by decide +kernel
theorem dL_event_3 : decode cL_event 3 = .ok (.iload_n 1, 1) := by decide +kernel
theorem dL_event_4 : decode cL_event 4 = .ok (.iload_n 2, 1) := by decide +kernel
theorem dL_event_5 : decode cL_event 5 = .ok (.invokevirtual 108, 3) := by decide +kernel
theorem dL_event_8 : decode cL_event 8 = .ok (.i2l, 1) := by decide +kernel
theorem dL_event_9 : decode cL_event 9 = .ok (.lastore, 1) := by decide +kernel
theorem dL_event_10 : decode cL_event 10 = .ok (.goto 7, 3) := by decide +kernel
theorem dL_event_13 : decode cL_event 13 = .ok (.astore 4, 2) := by decide +kernel
theorem dL_event_15 : decode cL_event 15 = .ok (.iconst 1, 1) := by decide +kernel
theorem dL_event_16 : decode cL_event 16 = .ok (.ireturn, 1) := by decide +kernel
theorem dL_event_17 : decode cL_event 17 = .ok (.iconst 0, 1) := by decide +kernel
theorem dL_event_18 : decode cL_event 18 = .ok (.ireturn, 1) := by decide +kernel
theorem dL_restore_0 : decode cL_restore 0 = .ok (.aload_n 1, 1) := by decide +kernel
theorem dL_restore_1 : decode cL_restore 1 = .ok (.iconst 0, 1) := by decide +kernel
theorem dL_restore_2 : decode cL_restore 2 = .ok (.aload_n 0, 1) := by decide +kernel
theorem dL_restore_3 : decode cL_restore 3 = .ok (.invokevirtual 111, 3) := by decide +kernel
theorem dL_restore_6 : decode cL_restore 6 = .ok (.i2l, 1) := by decide +kernel
theorem dL_restore_7 : decode cL_restore 7 = .ok (.lastore, 1) := by decide +kernel
theorem dL_restore_8 : decode cL_restore 8 = .ok (.goto 6, 3) := by decide +kernel
theorem dL_restore_11 : decode cL_restore 11 = .ok (.astore_n 2, 1) := by decide +kernel
theorem dL_restore_12 : decode cL_restore 12 = .ok (.iconst 1, 1) := by decide +kernel
theorem dL_restore_13 : decode cL_restore 13 = .ok (.ireturn, 1) := by decide +kernel
theorem dL_restore_14 : decode cL_restore 14 = .ok (.iconst 0, 1) := by decide +kernel
theorem dL_restore_15 : decode cL_restore 15 = .ok (.ireturn, 1) := by decide +kernel
