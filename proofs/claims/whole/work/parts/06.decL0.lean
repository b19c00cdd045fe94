theorem dL_addPlayer_0 : decode cL_addPlayer 0 = .ok (.aload_n 2, 1) := by decide +kernel
theorem dL_addPlayer_1 : decode cL_addPlayer 1 = .ok (.iconst 0, 1) := by decide +kernel
theorem dL_addPlayer_2 : decode cL_addPlayer 2 = .ok (.aload_n 0, 1) := by decide +kernel
theorem dL_addPlayer_3 : decode cL_addPlayer 3 = .ok (.iload_n 1, 1) := by decide +kernel
theorem dL_addPlayer_4 : decode cL_addPlayer 4 = .ok (.invokevirtual 7, 3) := by decide +kernel
theorem dL_addPlayer_7 : decode cL_addPlayer 7 = .ok (.i2l, 1) := by decide +kernel
theorem dL_addPlayer_8 : decode cL_addPlayer 8 = .ok (.lastore, 1) := by decide +kernel
theorem dL_addPlayer_9 : decode cL_addPlayer 9 = .ok (.goto 9, 3) := by decide +kernel
theorem dL_addPlayer_12 : decode cL_addPlayer 12 = .ok (.astore_n 3, 1) := by decide +kernel
theorem dL_addPlayer_13 : decode cL_addPlayer 13 = .ok (.iconst 1, 1) := by decide +kernel
theorem dL_addPlayer_14 : decode cL_addPlayer 14 = .ok (.ireturn, 1) := by decide +kernel
theorem dL_addPlayer_15 : decode cL_addPlayer 15 = .ok (.astore_n 3, 1) := by decide +kernel
theorem dL_addPlayer_16 : decode cL_addPlayer 16 = .ok (.iconst 2, 1) := by decide +kernel
theorem dL_addPlayer_17 : decode cL_addPlayer 17 = .ok (.ireturn, 1) := by decide +kernel
theorem dL_addPlayer_18 : decode cL_addPlayer 18 = .ok (.iconst 0, 1) := by decide +kernel
theorem dL_addPlayer_19 : decode cL_addPlayer 19 = .ok (.ireturn, 1) := by decide +kernel
theorem dL_open_0 : decode cL_open 0 = .ok (.aload_n 3, 1) := by decide +kernel
theorem dL_open_1 : decode cL_open 1 = .ok (.iconst 0, 1) := by decide +kernel
theorem dL_open_2 : decode cL_open 2 = .ok (.aload_n 0, 1) := by decide +kernel
theorem dL_open_3 : decode cL_open 3 = .ok (.iload_n 1, 1) := by decide +kernel
theorem dL_open_4 : decode cL_open 4 = .ok (.iload_n 2, 1) := by decide +kernel
theorem dL_open_5 : decode cL_open 5 = .ok (.invokevirtual 17, 3) := by decide +kernel
theorem dL_open_8 : decode cL_open 8 = .ok (.i2l, 1) := by decide +kernel
theorem dL_open_9 : decode cL_open 9 = .ok (.lastore, 1) := by decide +kernel
theorem dL_open_10 : decode cL_open 10 = .ok (.goto 15, 3) := by decide +kernel
theorem dL_open_13 : decode cL_open 13 = .ok (.astore 4, 2) := by decide +kernel
theorem dL_open_15 : decode cL_open 15 = .ok (.iconst 1, 1) := by decide +kernel
theorem dL_open_16 : decode cL_open 16 = .ok (.ireturn, 1) := by decide +kernel
theorem dL_open_17 : decode cL_open 17 = .ok (.astore 4, 2) := by decide +kernel
theorem dL_open_19 : decode cL_open 19 = .ok (.iconst 2, 1) := by decide +kernel
theorem dL_open_20 : decode cL_open 20 = .ok (.ireturn, 1) := by decide +kernel
theorem dL_open_21 : decode cL_open 21 = .ok (.astore 4, 2) := by decide +kernel
theorem dL_open_23 : decode cL_open 23 = .ok (.iconst 3, 1) := by decide +kernel
theorem dL_open_24 : decode cL_open 24 = .ok (.ireturn, 1) := by decide +kernel
theorem dL_open_25 : decode cL_open 25 = .ok (.iconst 0, 1) := by decide +kernel
theorem dL_open_26 : decode cL_open 26 = .ok (.ireturn, 1) := by decide +kernel
theorem dL_push_0 : decode cL_push 0 = .ok (.aload_n 3, 1) := by decide +kernel
theorem dL_push_1 : decode cL_push 1 = .ok (.iconst 0, 1) := by decide +kernel
theorem dL_push_2 : decode cL_push 2 = .ok (.aload_n 0, 1) := by decide +kernel
theorem dL_push_3 : decode cL_push 3 = .ok (.iload_n 1, 1) := by decide +kernel
theorem dL_push_4 : decode cL_push 4 = .ok (.iload_n 2, 1) := by decide +kernel
theorem dL_push_5 : decode cL_push 5 = .ok (.invokevirtual 23, 3) := by decide +kernel
theorem dL_push_8 : decode cL_push 8 = .ok (.i2l, 1) := by decide +kernel
theorem dL_push_9 : decode cL_push 9 = .ok (.lastore, 1) := by decide +kernel
theorem dL_push_10 : decode cL_push 10 = .ok (.goto 15, 3) := by decide +kernel
theorem dL_push_13 : decode cL_push 13 = .ok (.astore 4, 2) := by decide +kernel
theorem dL_push_15 : decode cL_push 15 = .ok (.iconst 1, 1) := by decide +kernel
theorem dL_push_16 : decode cL_push 16 = .ok (.ireturn, 1) := by decide +kernel
theorem dL_push_17 : decode cL_push 17 = .ok (.astore 4, 2) := by decide +kernel
theorem dL_push_19 : decode cL_push 19 = .ok (.iconst 2, 1) := by decide +kernel
theorem dL_push_20 : decode cL_push 20 = .ok (.ireturn, 1) := by decide +kernel
theorem dL_push_21 : decode cL_push 21 = .ok (.astore 4, 2) := by decide +kernel
theorem dL_push_23 : decode cL_push 23 = .ok (.iconst 3, 1) := by decide +kernel
theorem dL_push_24 : decode cL_push 24 = .ok (.ireturn, 1) := by decide +kernel
theorem dL_push_25 : decode cL_push 25 = .ok (.iconst 0, 1) := by decide +kernel
theorem dL_push_26 : decode cL_push 26 = .ok (.ireturn, 1) := by decide +kernel
theorem dL_at_0 : decode cL_at 0 = .ok (.aload 4, 2) := by decide +kernel
theorem dL_at_2 : decode cL_at 2 = .ok (.iconst 0, 1) := by decide +kernel
theorem dL_at_3 : decode cL_at 3 = .ok (.aload_n 0, 1) := by decide +kernel
theorem dL_at_4 : decode cL_at 4 = .ok (.iload_n 1, 1) := by decide +kernel
theorem dL_at_5 : decode cL_at 5 = .ok (.iload_n 2, 1) := by decide +kernel
theorem dL_at_6 : decode cL_at 6 = .ok (.iload_n 3, 1) := by decide +kernel
theorem dL_at_7 : decode cL_at 7 = .ok (.invokevirtual 28, 3) := by decide +kernel
theorem dL_at_10 : decode cL_at 10 = .ok (.i2l, 1) := by decide +kernel
theorem dL_at_11 : decode cL_at 11 = .ok (.lastore, 1) := by decide +kernel
theorem dL_at_12 : decode cL_at 12 = .ok (.goto 11, 3) := by decide +kernel
theorem dL_at_15 : decode cL_at 15 = .ok (.astore 5, 2) := by decide +kernel
theorem dL_at_17 : decode cL_at 17 = .ok (.iconst 1, 1) := by decide +kernel
theorem dL_at_18 : decode cL_at 18 = .ok (.ireturn, 1) := by decide +kernel
theorem dL_at_19 : decode cL_at 19 = .ok (.astore 5, 2) := by decide +kernel
theorem dL_at_21 : decode cL_at 21 = .ok (.iconst 2, 1) := by decide +kernel
theorem dL_at_22 : decode cL_at 22 = .ok (.ireturn, 1) := by decide +kernel
theorem dL_at_23 : decode cL_at 23 = .ok (.iconst 0, 1) := by decide +kernel
theorem dL_at_24 : decode cL_at 24 = .ok (.ireturn, 1) := by decide +kernel
theorem dL_score_0 : decode cL_score 0 = .ok (.aload_n 2, 1) := by decide +kernel
theorem dL_score_1 : decode cL_score 1 = .ok (.iconst 0, 1) := by decide +kernel
theorem dL_score_2 : decode cL_score 2 = .ok (.aload_n 0, 1) := by decide +kernel
theorem dL_score_3 : decode cL_score 3 = .ok (.iload_n 1, 1) := by decide +kernel
theorem dL_score_4 : decode cL_score 4 = .ok (.invokevirtual 32, 3) := by decide +kernel
theorem dL_score_7 : decode cL_score 7 = .ok (.i2l, 1) := by decide +kernel
theorem dL_score_8 : decode cL_score 8 = .ok (.lastore, 1) := by decide +kernel
theorem dL_score_9 : decode cL_score 9 = .ok (.goto 6, 3) := by decide +kernel
theorem dL_score_12 : decode cL_score 12 = .ok (.astore_n 3, 1) := by decide +kernel
theorem dL_score_13 : decode cL_score 13 = .ok (.iconst 1, 1) := by decide +kernel
theorem dL_score_14 : decode cL_score 14 = .ok (.ireturn, 1) := by decide +kernel
theorem dL_score_15 : decode cL_score 15 = .ok (.iconst 0, 1) := by decide +kernel
theorem dL_score_16 : decode cL_score 16 = .ok (.ireturn, 1) := by decide +kernel
theorem dL_pushes_0 : decode cL_pushes 0 = .ok (.aload_n 2, 1) := by decide +kernel
theorem dL_pushes_1 : decode cL_pushes 1 = .ok (.iconst 0, 1) := by decide +kernel
theorem dL_pushes_2 : decode cL_pushes 2 = .ok (.aload_n 0, 1) := by decide +kernel
theorem dL_pushes_3 : decode cL_pushes 3 = .ok (.iload_n 1, 1) := by decide +kernel
theorem dL_pushes_4 : decode cL_pushes 4 = .ok (.invokevirtual 35, 3) := by decide +kernel
theorem dL_pushes_7 : decode cL_pushes 7 = .ok (.i2l, 1) := by decide +kernel
theorem dL_pushes_8 : decode cL_pushes 8 = .ok (.lastore, 1) := by decide +kernel
theorem dL_pushes_9 : decode cL_pushes 9 = .ok (.goto 6, 3) := by decide +kernel
theorem dL_pushes_12 : decode cL_pushes 12 = .ok (.astore_n 3, 1) := by decide +kernel
theorem dL_pushes_13 : decode cL_pushes 13 = .ok (.iconst 1, 1) := by decide +kernel
theorem dL_pushes_14 : decode cL_pushes 14 = .ok (.ireturn, 1) := by decide +kernel
theorem dL_pushes_15 : decode cL_pushes 15 = .ok (.iconst 0, 1) := by decide +kernel
theorem dL_pushes_16 : decode cL_pushes 16 = .ok (.ireturn, 1) := by decide +kernel
theorem dL_canPush_0 : decode cL_canPush 0 = .ok (.aload_n 3, 1) := by decide +kernel
theorem dL_canPush_1 : decode cL_canPush 1 = .ok (.iconst 0, 1) := by decide +kernel
theorem dL_canPush_2 : decode cL_canPush 2 = .ok (.aload_n 0, 1) := by decide +kernel
theorem dL_canPush_3 : decode cL_canPush 3 = .ok (.iload_n 1, 1) := by decide +kernel
theorem dL_canPush_4 : decode cL_canPush 4 = .ok (.iload_n 2, 1) := by decide +kernel
theorem dL_canPush_5 : decode cL_canPush 5 = .ok (.invokevirtual 38, 3) := by decide +kernel
theorem dL_canPush_8 : decode cL_canPush 8 = .ok (.ifCond .eq 7, 3) := by decide +kernel
theorem dL_canPush_11 : decode cL_canPush 11 = .ok (.lconst 1, 1) := by decide +kernel
theorem dL_canPush_12 : decode cL_canPush 12 = .ok (.goto 4, 3) := by decide +kernel
theorem dL_canPush_15 : decode cL_canPush 15 = .ok (.lconst 0, 1) := by decide +kernel
theorem dL_canPush_16 : decode cL_canPush 16 = .ok (.lastore, 1) := by decide +kernel
theorem dL_canPush_17 : decode cL_canPush 17 = .ok (.goto 11, 3) := by decide +kernel
theorem dL_canPush_20 : decode cL_canPush 20 = .ok (.astore 4, 2) := by decide +kernel
theorem dL_canPush_22 : decode cL_canPush 22 = .ok (.iconst 1, 1) := by decide +kernel
theorem dL_canPush_23 : decode cL_canPush 23 = .ok (.ireturn, 1) := by decide +kernel
theorem dL_canPush_24 : decode cL_canPush 24 = .ok (.astore 4, 2) := by decide +kernel
theorem dL_canPush_26 : decode cL_canPush 26 = .ok (.iconst 2, 1) := by decide +kernel
theorem dL_canPush_27 : decode cL_canPush 27 = .ok (.ireturn, 1) := by decide +kernel
theorem dL_canPush_28 : decode cL_canPush 28 = .ok (.iconst 0, 1) := by decide +kernel
theorem dL_canPush_29 : decode cL_canPush 29 = .ok (.ireturn, 1) := by decide +kernel
theorem dL_isOver_0 : decode cL_isOver 0 = .ok (.aload_n 2, 1) := by decide +kernel
theorem dL_isOver_1 : decode cL_isOver 1 = .ok (.iconst 0, 1) := by decide +kernel
theorem dL_isOver_2 : decode cL_isOver 2 = .ok (.aload_n 0, 1) := by decide +kernel
theorem dL_isOver_3 : decode cL_isOver 3 = .ok (.iload_n 1, 1) := by decide +kernel
theorem dL_isOver_4 : decode cL_isOver 4 = .ok (.invokevirtual 42, 3) := by decide +kernel
theorem dL_isOver_7 : decode cL_isOver 7 = .ok (.ifCond .eq 7, 3) := by decide +kernel
theorem dL_isOver_10 : decode cL_isOver 10 = .ok (.lconst 1, 1) := by decide +kernel
theorem dL_isOver_11 : decode cL_isOver 11 = .ok (.goto 4, 3) := by decide +kernel
theorem dL_isOver_14 : decode cL_isOver 14 = .ok (.lconst 0, 1) := by decide +kernel
theorem dL_isOver_15 : decode cL_isOver 15 = .ok (.lastore, 1) := by decide +kernel
theorem dL_isOver_16 : decode cL_isOver 16 = .ok (.goto 6, 3) := by decide +kernel
theorem dL_isOver_19 : decode cL_isOver 19 = .ok (.astore_n 3, 1) := by decide +kernel
theorem dL_isOver_20 : decode cL_isOver 20 = .ok (.iconst 1, 1) := by decide +kernel
theorem dL_isOver_21 : decode cL_isOver 21 = .ok (.ireturn, 1) := by decide +kernel
theorem dL_isOver_22 : decode cL_isOver 22 = .ok (.iconst 0, 1) := by decide +kernel
theorem dL_isOver_23 : decode cL_isOver 23 = .ok (.ireturn, 1) := by decide +kernel
theorem dL_price_0 : decode cL_price 0 = .ok (.aload_n 3, 1) := by decide +kernel
theorem dL_price_1 : decode cL_price 1 = .ok (.iconst 0, 1) := by decide +kernel
theorem dL_price_2 : decode cL_price 2 = .ok (.aload_n 0, 1) := by decide +kernel
theorem dL_price_3 : decode cL_price 3 = .ok (.iload_n 1, 1) := by decide +kernel
theorem dL_price_4 : decode cL_price 4 = .ok (.iload_n 2, 1) := by decide +kernel
theorem dL_price_5 : decode cL_price 5 = .ok (.invokevirtual 46, 3) := by decide +kernel
theorem dL_price_8 : decode cL_price 8 = .ok (.i2l, 1) := by decide +kernel
theorem dL_price_9 : decode cL_price 9 = .ok (.lastore, 1) := by decide +kernel
theorem dL_price_10 : decode cL_price 10 = .ok (.goto 15, 3) := by decide +kernel
theorem dL_price_13 : decode cL_price 13 = .ok (.astore 4, 2) := by decide +kernel
theorem dL_price_15 : decode cL_price 15 = .ok (.iconst 1, 1) := by decide +kernel
theorem dL_price_16 : decode cL_price 16 = .ok (.ireturn, 1) := by decide +kernel
theorem dL_price_17 : decode cL_price 17 = .ok (.astore 4, 2) := by decide +kernel
theorem dL_price_19 : decode cL_price 19 = .ok (.iconst 2, 1) := by decide +kernel
theorem dL_price_20 : decode cL_price 20 = .ok (.ireturn, 1) := by decide +kernel
theorem dL_price_21 : decode cL_price 21 = .ok (.astore 4, 2) := by decide +kernel
theorem dL_price_23 : decode cL_price 23 = .ok (.iconst 3, 1) := by decide +kernel
theorem dL_price_24 : decode cL_price 24 = .ok (.ireturn, 1) := by decide +kernel
theorem dL_price_25 : decode cL_price 25 = .ok (.iconst 0, 1) := by decide +kernel
theorem dL_price_26 : decode cL_price 26 = .ok (.ireturn, 1) := by decide +kernel
theorem dL_hint_0 : decode cL_hint 0 = .ok (.aload_n 3, 1) := by decide +kernel
theorem dL_hint_1 : decode cL_hint 1 = .ok (.iconst 0, 1) := by decide +kernel
theorem dL_hint_2 : decode cL_hint 2 = .ok (.aload_n 0, 1) := by decide +kernel
theorem dL_hint_3 : decode cL_hint 3 = .ok (.iload_n 1, 1) := by decide +kernel
theorem dL_hint_4 : decode cL_hint 4 = .ok (.iload_n 2, 1) := by decide +kernel
theorem dL_hint_5 : decode cL_hint 5 = .ok (.invokevirtual 49, 3) := by decide +kernel
theorem dL_hint_8 : decode cL_hint 8 = .ok (.i2l, 1) := by decide +kernel
theorem dL_hint_9 : decode cL_hint 9 = .ok (.lastore, 1) := by decide +kernel
theorem dL_hint_10 : decode cL_hint 10 = .ok (.goto 23, 3) := by decide +kernel
theorem dL_hint_13 : decode cL_hint 13 = .ok (.astore 4, 2) := by decide +kernel
theorem dL_hint_15 : decode cL_hint 15 = .ok (.iconst 1, 1) := by decide +kernel
theorem dL_hint_16 : decode cL_hint 16 = .ok (.ireturn, 1) := by decide +kernel
theorem dL_hint_17 : decode cL_hint 17 = .ok (.astore 4, 2) := by decide +kernel
theorem dL_hint_19 : decode cL_hint 19 = .ok (.iconst 2, 1) := by decide +kernel
theorem dL_hint_20 : decode cL_hint 20 = .ok (.ireturn, 1) := by decide +kernel
theorem dL_hint_21 : decode cL_hint 21 = .ok (.astore 4, 2) := by decide +kernel
theorem dL_hint_23 : decode cL_hint 23 = .ok (.iconst 3, 1) := by decide +kernel
theorem dL_hint_24 : decode cL_hint 24 = .ok (.ireturn, 1) := by decide +kernel
theorem dL_hint_25 : decode cL_hint 25 = .ok (.astore 4, 2) := by decide +kernel
theorem dL_hint_27 : decode cL_hint 27 = .ok (.iconst 4, 1) := by decide +kernel
theorem dL_hint_28 : decode cL_hint 28 = .ok (.ireturn, 1) := by decide +kernel
theorem dL_hint_29 : decode cL_hint 29 = .ok (.astore 4, 2) := by decide +kernel
theorem dL_hint_31 : decode cL_hint 31 = .ok (.iconst 5, 1) := by decide +kernel
theorem dL_hint_32 : decode cL_hint 32 = .ok (.ireturn, 1) := by decide +kernel
theorem dL_hint_33 : decode cL_hint 33 = .ok (.iconst 0, 1) := by decide +kernel
theorem dL_hint_34 : decode cL_hint 34 = .ok (.ireturn, 1) := by decide +kernel
theorem dL_worth_0 : decode cL_worth 0 = .ok (.aload_n 3, 1) := by decide +kernel
theorem dL_worth_1 : decode cL_worth 1 = .ok (.iconst 0, 1) := by decide +kernel
theorem dL_worth_2 : decode cL_worth 2 = .ok (.aload_n 0, 1) := by decide +kernel
theorem dL_worth_3 : decode cL_worth 3 = .ok (.iload_n 1, 1) := by decide +kernel
theorem dL_worth_4 : decode cL_worth 4 = .ok (.iload_n 2, 1) := by decide +kernel
theorem dL_worth_5 : decode cL_worth 5 = .ok (.invokevirtual 54, 3) := by decide +kernel
theorem dL_worth_8 : decode cL_worth 8 = .ok (.i2l, 1) := by decide +kernel
theorem dL_worth_9 : decode cL_worth 9 = .ok (.lastore, 1) := by decide +kernel
theorem dL_worth_10 : decode cL_worth 10 = .ok (.goto 11, 3) := by decide +kernel
theorem dL_worth_13 : decode cL_worth 13 = .ok (.astore 4, 2) := by decide +kernel
theorem dL_worth_15 : decode cL_worth 15 = .ok (.iconst 1, 1) := by decide +kernel
theorem dL_worth_16 : decode cL_worth 16 = .ok (.ireturn, 1) := by decide +kernel
theorem dL_worth_17 : decode cL_worth 17 = .ok (.astore 4, 2) := by decide +kernel
theorem dL_worth_19 : decode cL_worth 19 = .ok (.iconst 2, 1) := by decide +kernel
theorem dL_worth_20 : decode cL_worth 20 = .ok (.ireturn, 1) := by decide +kernel
theorem dL_worth_21 : decode cL_worth 21 = .ok (.iconst 0, 1) := by decide +kernel
theorem dL_worth_22 : decode cL_worth 22 = .ok (.ireturn, 1) := by decide +kernel
theorem dL_money_0 : decode cL_money 0 = .ok (.aload_n 2, 1) := by decide +kernel
theorem dL_money_1 : decode cL_money 1 = .ok (.iconst 0, 1) := by decide +kernel
theorem dL_money_2 : decode cL_money 2 = .ok (.aload_n 0, 1) := by decide +kernel
theorem dL_money_3 : decode cL_money 3 = .ok (.iload_n 1, 1) := by decide +kernel
theorem dL_money_4 : decode cL_money 4 = .ok (.invokevirtual 57, 3) := by decide +kernel
theorem dL_money_7 : decode cL_money 7 = .ok (.i2l, 1) := by decide +kernel
theorem dL_money_8 : decode cL_money 8 = .ok (.lastore, 1) := by decide +kernel
theorem dL_money_9 : decode cL_money 9 = .ok (.goto 6, 3) := by decide +kernel
theorem dL_money_12 : decode cL_money 12 = .ok (.astore_n 3, 1) := by decide +kernel
theorem dL_money_13 : decode cL_money 13 = .ok (.iconst 1, 1) := by decide +kernel
theorem dL_money_14 : decode cL_money 14 = .ok (.ireturn, 1) := by decide +kernel
theorem dL_money_15 : decode cL_money 15 = .ok (.iconst 0, 1) := by decide +kernel
theorem dL_money_16 : decode cL_money 16 = .ok (.ireturn, 1) := by decide +kernel
theorem dL_setRoom_0 : decode cL_setRoom 0 = .ok (.aload_n 2, 1) := by decide +kernel
theorem dL_setRoom_1 : decode cL_setRoom 1 = .ok (.iconst 0, 1) := by decide +kernel
theorem dL_setRoom_2 : decode cL_setRoom 2 = .ok (.aload_n 0, 1) := by decide +kernel
theorem dL_setRoom_3 : decode cL_setRoom 3 = .ok (.iload_n 1, 1) := by decide +kernel
theorem dL_setRoom_4 : decode cL_setRoom 4 = .ok (.invokevirtual 60, 3) := by decide +kernel
theorem dL_setRoom_7 : decode cL_setRoom 7 = .ok (.i2l, 1) := by decide +kernel
theorem dL_setRoom_8 : decode cL_setRoom 8 = .ok (.lastore, 1) := by decide +kernel
theorem dL_setRoom_9 : decode cL_setRoom 9 = .ok (.goto 9, 3) := by decide +kernel
theorem dL_setRoom_12 : decode cL_setRoom 12 = .ok (.astore_n 3, 1) := by decide +kernel
theorem dL_setRoom_13 : decode cL_setRoom 13 = .ok (.iconst 1, 1) := by decide +kernel
theorem dL_setRoom_14 : decode cL_setRoom 14 = .ok (.ireturn, 1) := by decide +kernel
theorem dL_setRoom_15 : decode cL_setRoom 15 = .ok (.astore_n 3, 1) := by decide +kernel
theorem dL_setRoom_16 : decode cL_setRoom 16 = .ok (.iconst 2, 1) := by decide +kernel
theorem dL_setRoom_17 : decode cL_setRoom 17 = .ok (.ireturn, 1) := by decide +kernel
theorem dL_setRoom_18 : decode cL_setRoom 18 = .ok (.iconst 0, 1) := by decide +kernel
theorem dL_setRoom_19 : decode cL_setRoom 19 = .ok (.ireturn, 1) := by decide +kernel
theorem dL_isCached_0 : decode cL_isCached 0 = .ok (.aload_n 3, 1) := by decide +kernel
theorem dL_isCached_1 : decode cL_isCached 1 = .ok (.iconst 0, 1) := by decide +kernel
theorem dL_isCached_2 : decode cL_isCached 2 = .ok (.aload_n 0, 1) := by decide +kernel
theorem dL_isCached_3 : decode cL_isCached 3 = .ok (.iload_n 1, 1) := by decide +kernel
theorem dL_isCached_4 : decode cL_isCached 4 = .ok (.iload_n 2, 1) := by decide +kernel
theorem dL_isCached_5 : decode cL_isCached 5 = .ok (.invokevirtual 63, 3) := by decide +kernel
theorem dL_isCached_8 : decode cL_isCached 8 = .ok (.ifCond .eq 7, 3) := by decide +kernel
theorem dL_isCached_11 : decode cL_isCached 11 = .ok (.lconst 1, 1) := by decide +kernel
theorem dL_isCached_12 : decode cL_isCached 12 = .ok (.goto 4, 3) := by decide +kernel
theorem dL_isCached_15 : decode cL_isCached 15 = .ok (.lconst 0, 1) := by decide +kernel
theorem dL_isCached_16 : decode cL_isCached 16 = .ok (.lastore, 1) := by decide +kernel
theorem dL_isCached_17 : decode cL_isCached 17 = .ok (.goto 11, 3) := by decide +kernel
theorem dL_isCached_20 : decode cL_isCached 20 = .ok (.astore 4, 2) := by decide +kernel
theorem dL_isCached_22 : decode cL_isCached 22 = .ok (.iconst 1, 1) := by decide +kernel
theorem dL_isCached_23 : decode cL_isCached 23 = .ok (.ireturn, 1) := by decide +kernel
theorem dL_isCached_24 : decode cL_isCached 24 = .ok (.astore 4, 2) := by decide +kernel
theorem dL_isCached_26 : decode cL_isCached 26 = .ok (.iconst 2, 1) := by decide +kernel
theorem dL_isCached_27 : decode cL_isCached 27 = .ok (.ireturn, 1) := by decide +kernel
theorem dL_isCached_28 : decode cL_isCached 28 = .ok (.iconst 0, 1) := by decide +kernel
theorem dL_isCached_29 : decode cL_isCached 29 = .ok (.ireturn, 1) := by decide +kernel
theorem dL_pin_0 : decode cL_pin 0 = .ok (.aload_n 3, 1) := by decide +kernel
theorem dL_pin_1 : decode cL_pin 1 = .ok (.iconst 0, 1) := by decide +kernel
theorem dL_pin_2 : decode cL_pin 2 = .ok (.aload_n 0, 1) := by decide +kernel
theorem dL_pin_3 : decode cL_pin 3 = .ok (.iload_n 1, 1) := by decide +kernel
theorem dL_pin_4 : decode cL_pin 4 = .ok (.iload_n 2, 1) := by decide +kernel
theorem dL_pin_5 : decode cL_pin 5 = .ok (.invokevirtual 66, 3) := by decide +kernel
theorem dL_pin_8 : decode cL_pin 8 = .ok (.i2l, 1) := by decide +kernel
theorem dL_pin_9 : decode cL_pin 9 = .ok (.lastore, 1) := by decide +kernel
theorem dL_pin_10 : decode cL_pin 10 = .ok (.goto 19, 3) := by decide +kernel
theorem dL_pin_13 : decode cL_pin 13 = .ok (.astore 4, 2) := by decide +kernel
theorem dL_pin_15 : decode cL_pin 15 = .ok (.iconst 1, 1) := by decide +kernel
theorem dL_pin_16 : decode cL_pin 16 = .ok (.ireturn, 1) := by decide +kernel
theorem dL_pin_17 : decode cL_pin 17 = .ok (.astore 4, 2) := by decide +kernel
theorem dL_pin_19 : decode cL_pin 19 = .ok (.iconst 2, 1) := by decide +kernel
theorem dL_pin_20 : decode cL_pin 20 = .ok (.ireturn, 1) := by decide +kernel
theorem dL_pin_21 : decode cL_pin 21 = .ok (.astore 4, 2) := by decide +kernel
theorem dL_pin_23 : decode cL_pin 23 = .ok (.iconst 3, 1) := by decide +kernel
theorem dL_pin_24 : decode cL_pin 24 = .ok (.ireturn, 1) := by decide +kernel
theorem dL_pin_25 : decode cL_pin 25 = .ok (.astore 4, 2) := by decide +kernel
theorem dL_pin_27 : decode cL_pin 27 = .ok (.iconst 4, 1) := by decide +kernel
theorem dL_pin_28 : decode cL_pin 28 = .ok (.ireturn, 1) := by decide +kernel
theorem dL_pin_29 : decode cL_pin 29 = .ok (.iconst 0, 1) := by decide +kernel
theorem dL_pin_30 : decode cL_pin 30 = .ok (.ireturn, 1) := by decide +kernel
theorem dL_unpin_0 : decode cL_unpin 0 = .ok (.aload_n 2, 1) := by decide +kernel
theorem dL_unpin_1 : decode cL_unpin 1 = .ok (.iconst 0, 1) := by decide +kernel
theorem dL_unpin_2 : decode cL_unpin 2 = .ok (.aload_n 0, 1) := by decide +kernel
theorem dL_unpin_3 : decode cL_unpin 3 = .ok (.iload_n 1, 1) := by decide +kernel
theorem dL_unpin_4 : decode cL_unpin 4 = .ok (.invokevirtual 69, 3) := by decide +kernel
theorem dL_unpin_7 : decode cL_unpin 7 = .ok (.i2l, 1) := by decide +kernel
theorem dL_unpin_8 : decode cL_unpin 8 = .ok (.lastore, 1) := by decide +kernel
theorem dL_unpin_9 : decode cL_unpin 9 = .ok (.goto 6, 3) := by decide +kernel
theorem dL_unpin_12 : decode cL_unpin 12 = .ok (.astore_n 3, 1) := by decide +kernel
theorem dL_unpin_13 : decode cL_unpin 13 = .ok (.iconst 1, 1) := by decide +kernel
theorem dL_unpin_14 : decode cL_unpin 14 = .ok (.ireturn, 1) := by decide +kernel
theorem dL_unpin_15 : decode cL_unpin 15 = .ok (.iconst 0, 1) := by decide +kernel
theorem dL_unpin_16 : decode cL_unpin 16 = .ok (.ireturn, 1) := by decide +kernel
theorem dL_follows_0 : decode cL_follows 0 = .ok (.aload_n 2, 1) := by decide +kernel
theorem dL_follows_1 : decode cL_follows 1 = .ok (.iconst 0, 1) := by decide +kernel
theorem dL_follows_2 : decode cL_follows 2 = .ok (.aload_n 0, 1) := by decide +kernel
theorem dL_follows_3 : decode cL_follows 3 = .ok (.iload_n 1, 1) := by decide +kernel
theorem dL_follows_4 : decode cL_follows 4 = .ok (.invokevirtual 72, 3) := by decide +kernel
theorem dL_follows_7 : decode cL_follows 7 = .ok (.i2l, 1) := by decide +kernel
theorem dL_follows_8 : decode cL_follows 8 = .ok (.lastore, 1) := by decide +kernel
theorem dL_follows_9 : decode cL_follows 9 = .ok (.goto 6, 3) := by decide +kernel
theorem dL_follows_12 : decode cL_follows 12 = .ok (.astore_n 3, 1) := by decide +kernel
theorem dL_follows_13 : decode cL_follows 13 = .ok (.iconst 1, 1) := by decide +kernel
theorem dL_follows_14 : decode cL_follows 14 = .ok (.ireturn, 1) := by decide +kernel
theorem dL_follows_15 : decode cL_follows 15 = .ok (.iconst 0, 1) := by decide +kernel
theorem dL_follows_16 : decode cL_follows 16 = .ok (.ireturn, 1) := by decide +kernel
theorem dL_setLimit_0 : decode cL_setLimit 0 = .ok (.aload_n 2, 1) := by decide +kernel
theorem dL_setLimit_1 : decode cL_setLimit 1 = .ok (.iconst 0, 1) := by decide +kernel
theorem dL_setLimit_2 : decode cL_setLimit 2 = .ok (.aload_n 0, 1) := by decide +kernel
theorem dL_setLimit_3 : decode cL_setLimit 3 = .ok (.iload_n 1, 1) := by decide +kernel
theorem dL_setLimit_4 : decode cL_setLimit 4 = .ok (.invokevirtual 75, 3) := by decide +kernel
theorem dL_setLimit_7 : decode cL_setLimit 7 = .ok (.i2l, 1) := by decide +kernel
theorem dL_setLimit_8 : decode cL_setLimit 8 = .ok (.lastore, 1) := by decide +kernel
theorem dL_setLimit_9 : decode cL_setLimit 9 = .ok (.goto 6, 3) := by decide +kernel
theorem dL_setLimit_12 : decode cL_setLimit 12 = .ok (.astore_n 3, 1) := by decide +kernel
theorem dL_setLimit_13 : decode cL_setLimit 13 = .ok (.iconst 1, 1) := by decide +kernel
theorem dL_setLimit_14 : decode cL_setLimit 14 = .ok (.ireturn, 1) := by decide +kernel
theorem dL_setLimit_15 : decode cL_setLimit 15 = .ok (.iconst 0, 1) := by decide +kernel
theorem dL_setLimit_16 : decode cL_setLimit 16 = .ok (.ireturn, 1) := by decide +kernel
theorem dL_judge_0 : decode cL_judge 0 = .ok (.aload_n 2, 1) := by decide +kernel
theorem dL_judge_1 : decode cL_judge 1 = .ok (.iconst 0, 1) := by decide +kernel
theorem dL_judge_2 : decode cL_judge 2 = .ok (.aload_n 0, 1) := by decide +kernel
theorem dL_judge_3 : decode cL_judge 3 = .ok (.iload_n 1, 1) := by decide +kernel
theorem dL_judge_4 : decode cL_judge 4 = .ok (.invokevirtual 78, 3) := by decide +kernel
theorem dL_judge_7 : decode cL_judge 7 = .ok (.i2l, 1) := by decide +kernel
theorem dL_judge_8 : decode cL_judge 8 = .ok (.lastore, 1) := by decide +kernel
theorem dL_judge_9 : decode cL_judge 9 = .ok (.goto 9, 3) := by decide +kernel
theorem dL_judge_12 : decode cL_judge 12 = .ok (.astore_n 3, 1) := by decide +kernel
theorem dL_judge_13 : decode cL_judge 13 = .ok (.iconst 1, 1) := by decide +kernel
theorem dL_judge_14 : decode cL_judge 14 = .ok (.ireturn, 1) := by decide +kernel
theorem dL_judge_15 : decode cL_judge 15 = .ok (.astore_n 3, 1) := by decide +kernel
theorem dL_judge_16 : decode cL_judge 16 = .ok (.iconst 2, 1) := by decide +kernel
theorem dL_judge_17 : decode cL_judge 17 = .ok (.ireturn, 1) := by decide +kernel
theorem dL_judge_18 : decode cL_judge 18 = .ok (.iconst 0, 1) := by decide +kernel
theorem dL_judge_19 : decode cL_judge 19 = .ok (.ireturn, 1) := by decide +kernel
theorem dL_isVoid_0 : decode cL_isVoid 0 = .ok (.aload_n 2, 1) := by decide +kernel
theorem dL_isVoid_1 : decode cL_isVoid 1 = .ok (.iconst 0, 1) := by decide +kernel
theorem dL_isVoid_2 : decode cL_isVoid 2 = .ok (.aload_n 0, 1) := by decide +kernel
theorem dL_isVoid_3 : decode cL_isVoid 3 = .ok (.iload_n 1, 1) := by decide +kernel
theorem dL_isVoid_4 : decode cL_isVoid 4 = .ok (.invokevirtual 81, 3) := by decide +kernel
theorem dL_isVoid_7 : decode cL_isVoid 7 = .ok (.ifCond .eq 7, 3) := by decide +kernel
theorem dL_isVoid_10 : decode cL_isVoid 10 = .ok (.lconst 1, 1) := by decide +kernel
theorem dL_isVoid_11 : decode cL_isVoid 11 = .ok (.goto 4, 3) := by decide +kernel
theorem dL_isVoid_14 : decode cL_isVoid 14 = .ok (.lconst 0, 1) := by decide +kernel
theorem dL_isVoid_15 : decode cL_isVoid 15 = .ok (.lastore, 1) := by decide +kernel
theorem dL_isVoid_16 : decode cL_isVoid 16 = .ok (.goto 6, 3) := by decide +kernel
theorem dL_isVoid_19 : decode cL_isVoid 19 = .ok (.astore_n 3, 1) := by decide +kernel
theorem dL_isVoid_20 : decode cL_isVoid 20 = .ok (.iconst 1, 1) := by decide +kernel
theorem dL_isVoid_21 : decode cL_isVoid 21 = .ok (.ireturn, 1) := by decide +kernel
theorem dL_isVoid_22 : decode cL_isVoid 22 = .ok (.iconst 0, 1) := by decide +kernel
theorem dL_isVoid_23 : decode cL_isVoid 23 = .ok (.ireturn, 1) := by decide +kernel
theorem dL_playerOf_0 : decode cL_playerOf 0 = .ok (.aload_n 2, 1) := by decide +kernel
theorem dL_playerOf_1 : decode cL_playerOf 1 = .ok (.iconst 0, 1) := by decide +kernel
theorem dL_playerOf_2 : decode cL_playerOf 2 = .ok (.aload_n 0, 1) := by decide +kernel
theorem dL_playerOf_3 : decode cL_playerOf 3 = .ok (.iload_n 1, 1) := by decide +kernel
theorem dL_playerOf_4 : decode cL_playerOf 4 = .ok (.invokevirtual 84, 3) := by decide +kernel
theorem dL_playerOf_7 : decode cL_playerOf 7 = .ok (.i2l, 1) := by decide +kernel
theorem dL_playerOf_8 : decode cL_playerOf 8 = .ok (.lastore, 1) := by decide +kernel
theorem dL_playerOf_9 : decode cL_playerOf 9 = .ok (.goto 6, 3) := by decide +kernel
theorem dL_playerOf_12 : decode cL_playerOf 12 = .ok (.astore_n 3, 1) := by decide +kernel
theorem dL_playerOf_13 : decode cL_playerOf 13 = .ok (.iconst 1, 1) := by decide +kernel
theorem dL_playerOf_14 : decode cL_playerOf 14 = .ok (.ireturn, 1) := by decide +kernel
theorem dL_playerOf_15 : decode cL_playerOf 15 = .ok (.iconst 0, 1) := by decide +kernel
theorem dL_playerOf_16 : decode cL_playerOf 16 = .ok (.ireturn, 1) := by decide +kernel
theorem dL_pushOf_0 : decode cL_pushOf 0 = .ok (.aload_n 2, 1) := by decide +kernel
theorem dL_pushOf_1 : decode cL_pushOf 1 = .ok (.iconst 0, 1) := by decide +kernel
theorem dL_pushOf_2 : decode cL_pushOf 2 = .ok (.aload_n 0, 1) := by decide +kernel
theorem dL_pushOf_3 : decode cL_pushOf 3 = .ok (.iload_n 1, 1) := by decide +kernel
theorem dL_pushOf_4 : decode cL_pushOf 4 = .ok (.invokevirtual 87, 3) := by decide +kernel
theorem dL_pushOf_7 : decode cL_pushOf 7 = .ok (.i2l, 1) := by decide +kernel
theorem dL_pushOf_8 : decode cL_pushOf 8 = .ok (.lastore, 1) := by decide +kernel
theorem dL_pushOf_9 : decode cL_pushOf 9 = .ok (.goto 6, 3) := by decide +kernel
theorem dL_pushOf_12 : decode cL_pushOf 12 = .ok (.astore_n 3, 1) := by decide +kernel
theorem dL_pushOf_13 : decode cL_pushOf 13 = .ok (.iconst 1, 1) := by decide +kernel
theorem dL_pushOf_14 : decode cL_pushOf 14 = .ok (.ireturn, 1) := by decide +kernel
theorem dL_pushOf_15 : decode cL_pushOf 15 = .ok (.iconst 0, 1) := by decide +kernel
theorem dL_pushOf_16 : decode cL_pushOf 16 = .ok (.ireturn, 1) := by decide +kernel
theorem dL_hitShare_0 : decode cL_hitShare 0 = .ok (.aload_n 1, 1) := by decide +kernel
theorem dL_hitShare_1 : decode cL_hitShare 1 = .ok (.iconst 0, 1) := by decide +kernel
theorem dL_hitShare_2 : decode cL_hitShare 2 = .ok (.aload_n 0, 1) := by decide +kernel
theorem dL_hitShare_3 : decode cL_hitShare 3 = .ok (.invokevirtual 90, 3) := by decide +kernel
theorem dL_hitShare_6 : decode cL_hitShare 6 = .ok (.f2d, 1) := by decide +kernel
theorem dL_hitShare_7 : decode cL_hitShare 7 = .ok (.dastore, 1) := by decide +kernel
theorem dL_hitShare_8 : decode cL_hitShare 8 = .ok (.goto 6, 3) := by decide +kernel
theorem dL_hitShare_11 : decode cL_hitShare 11 = .ok (.astore_n 2, 1) := by decide +kernel
theorem dL_hitShare_12 : decode cL_hitShare 12 = .ok (.iconst 1, 1) := by decide +kernel
theorem dL_hitShare_13 : decode cL_hitShare 13 = .ok (.ireturn, 1) := by decide +kernel
theorem dL_hitShare_14 : decode cL_hitShare 14 = .ok (.iconst 0, 1) := by decide +kernel
theorem dL_hitShare_15 : decode cL_hitShare 15 = .ok (.ireturn, 1) := by decide +kernel
theorem dL_meanPrice_0 : decode cL_meanPrice 0 = .ok (.aload_n 1, 1) := by decide +kernel
theorem dL_meanPrice_1 : decode cL_meanPrice 1 = .ok (.iconst 0, 1) := by decide +kernel
theorem dL_meanPrice_2 : decode cL_meanPrice 2 = .ok (.aload_n 0, 1) := by decide +kernel
theorem dL_meanPrice_3 : decode cL_meanPrice 3 = .ok (.invokevirtual 96, 3) := by decide +kernel
theorem dL_meanPrice_6 : decode cL_meanPrice 6 = .ok (.dastore, 1) := by decide +kernel
theorem dL_meanPrice_7 : decode cL_meanPrice 7 = .ok (.goto 6, 3) := by decide +kernel
theorem dL_meanPrice_10 : decode cL_meanPrice 10 = .ok (.astore_n 2, 1) := by decide +kernel
theorem dL_meanPrice_11 : decode cL_meanPrice 11 = .ok (.iconst 1, 1) := by decide +kernel
theorem dL_meanPrice_12 : decode cL_meanPrice 12 = .ok (.ireturn, 1) := by decide +kernel
theorem dL_meanPrice_13 : decode cL_meanPrice 13 = .ok (.iconst 0, 1) := by decide +kernel
theorem dL_meanPrice_14 : decode cL_meanPrice 14 = .ok (.ireturn, 1) := by decide +kernel
theorem dL_law_0 : decode cL_law 0 = .ok (.new 8, 3) := by decide +kernel
theorem dL_law_3 : decode cL_law 3 = .ok (.dup, 1) := by decide +kernel
theorem dL_law_4 : decode cL_law 4 = .ok (.invokespecial 100, 3) := by decide +kernel
theorem dL_law_7 : decode cL_law 7 = .ok (.astore_n 1, 1) := by decide +kernel
theorem dL_law_8 : decode cL_law 8 = .ok (.new 101, 3) := by decide +kernel
theorem dL_law_11 : decode cL_law 11 = .ok (.dup, 1) := by decide +kernel
theorem dL_law_12 : decode cL_law 12 = .ok (.invokespecial 103, 3) := by decide +kernel
theorem dL_law_15 : decode cL_law 15 = .ok (.astore_n 2, 1) := by decide +kernel
theorem dL_law_16 : decode cL_law 16 = .ok (.iconst 1, 1) := by decide +kernel
theorem dL_law_17 : decode cL_law 17 = .ok (.newarray .long, 2) := by decide +kernel
theorem dL_law_19 : decode cL_law 19 = .ok (.astore_n 3, 1) := by decide +kernel
theorem dL_law_20 : decode cL_law 20 = .ok (.iconst 1, 1) := by decide +kernel
theorem dL_law_21 : decode cL_law 21 = .ok (.newarray .double, 2) := by decide +kernel
theorem dL_law_23 : decode cL_law 23 = .ok (.astore 4, 2) := by decide +kernel
theorem dL_law_25 : decode cL_law 25 = .ok (.iconst 0, 1) := by decide +kernel
theorem dL_law_26 : decode cL_law 26 = .ok (.istore 5, 2) := by decide +kernel
theorem dL_law_28 : decode cL_law 28 = .ok (.iload 5, 2) := by decide +kernel
theorem dL_law_30 : decode cL_law 30 = .ok (.aload_n 0, 1) := by decide +kernel
theorem dL_law_31 : decode cL_law 31 = .ok (.arraylength, 1) := by decide +kernel
theorem dL_law_32 : decode cL_law 32 = .ok (.iconst 4, 1) := by decide +kernel
theorem dL_law_33 : decode cL_law 33 = .ok (.isub, 1) := by decide +kernel
theorem dL_law_34 : decode cL_law 34 = .ok (.if_icmp .gt 1725, 3) := by decide +kernel
theorem dL_law_37 : decode cL_law 37 = .ok (.aload_n 0, 1) := by decide +kernel
theorem dL_law_38 : decode cL_law 38 = .ok (.iload 5, 2) := by decide +kernel
theorem dL_law_40 : decode cL_law 40 = .ok (.iaload, 1) := by decide +kernel
theorem dL_law_41 : decode cL_law 41 = .ok (.bipush 31, 2) := by decide +kernel
theorem dL_law_43 : decode cL_law 43 = .ok (.iand, 1) := by decide +kernel
theorem dL_law_44 : decode cL_law 44 = .ok (.tableswitch 1709 0 28 #[132, 188, 256, 324, 404, 460, 516, 591, 654, 722, 790, 858, 914, 970, 983, 1058, 1126, 1182, 1195, 1251, 1307, 1363, 1426, 1439, 1495, 1551, 1565, 1631, 1696], 132) := by decide +kernel
theorem dL_law_176 : decode cL_law 176 = .ok (.aload_n 1, 1) := by decide +kernel
theorem dL_law_177 : decode cL_law 177 = .ok (.aload_n 0, 1) := by decide +kernel
theorem dL_law_178 : decode cL_law 178 = .ok (.iload 5, 2) := by decide +kernel
theorem dL_law_180 : decode cL_law 180 = .ok (.iconst 1, 1) := by decide +kernel
theorem dL_law_181 : decode cL_law 181 = .ok (.iadd, 1) := by decide +kernel
theorem dL_law_182 : decode cL_law 182 = .ok (.iaload, 1) := by decide +kernel
theorem dL_law_183 : decode cL_law 183 = .ok (.aload_n 3, 1) := by decide +kernel
theorem dL_law_184 : decode cL_law 184 = .ok (.invokestatic 104, 3) := by decide +kernel
theorem dL_law_187 : decode cL_law 187 = .ok (.istore 6, 2) := by decide +kernel
theorem dL_law_189 : decode cL_law 189 = .ok (.aload_n 2, 1) := by decide +kernel
theorem dL_law_190 : decode cL_law 190 = .ok (.aload_n 0, 1) := by decide +kernel
theorem dL_law_191 : decode cL_law 191 = .ok (.iload 5, 2) := by decide +kernel
theorem dL_law_193 : decode cL_law 193 = .ok (.iconst 1, 1) := by decide +kernel
theorem dL_law_194 : decode cL_law 194 = .ok (.iadd, 1) := by decide +kernel
theorem dL_law_195 : decode cL_law 195 = .ok (.iaload, 1) := by decide +kernel
theorem dL_law_196 : decode cL_law 196 = .ok (.invokevirtual 109, 3) := by decide +kernel
theorem dL_law_199 : decode cL_law 199 = .ok (.istore 7, 2) := by decide +kernel
theorem dL_law_201 : decode cL_law 201 = .ok (.aload_n 2, 1) := by decide +kernel
theorem dL_law_202 : decode cL_law 202 = .ok (.invokevirtual 110, 3) := by decide +kernel
theorem dL_law_205 : decode cL_law 205 = .ok (.iload 6, 2) := by decide +kernel
theorem dL_law_207 : decode cL_law 207 = .ok (.if_icmp .eq 5, 3) := by decide +kernel
theorem dL_law_210 : decode cL_law 210 = .ok (.iconst 0, 1) := by decide +kernel
theorem dL_law_211 : decode cL_law 211 = .ok (.ireturn, 1) := by decide +kernel
theorem dL_law_212 : decode cL_law 212 = .ok (.iload 6, 2) := by decide +kernel
theorem dL_law_214 : decode cL_law 214 = .ok (.ifCond .ne 15, 3) := by decide +kernel
theorem dL_law_217 : decode cL_law 217 = .ok (.aload_n 3, 1) := by decide +kernel
theorem dL_law_218 : decode cL_law 218 = .ok (.iconst 0, 1) := by decide +kernel
theorem dL_law_219 : decode cL_law 219 = .ok (.laload, 1) := by decide +kernel
theorem dL_law_220 : decode cL_law 220 = .ok (.iload 7, 2) := by decide +kernel
theorem dL_law_222 : decode cL_law 222 = .ok (.i2l, 1) := by decide +kernel
theorem dL_law_223 : decode cL_law 223 = .ok (.lcmp, 1) := by decide +kernel
theorem dL_law_224 : decode cL_law 224 = .ok (.ifCond .eq 5, 3) := by decide +kernel
theorem dL_law_227 : decode cL_law 227 = .ok (.iconst 0, 1) := by decide +kernel
theorem dL_law_228 : decode cL_law 228 = .ok (.ireturn, 1) := by decide +kernel
theorem dL_law_229 : decode cL_law 229 = .ok (.goto 1524, 3) := by decide +kernel
theorem dL_law_232 : decode cL_law 232 = .ok (.aload_n 1, 1) := by decide +kernel
theorem dL_law_233 : decode cL_law 233 = .ok (.aload_n 0, 1) := by decide +kernel
theorem dL_law_234 : decode cL_law 234 = .ok (.iload 5, 2) := by decide +kernel
theorem dL_law_236 : decode cL_law 236 = .ok (.iconst 1, 1) := by decide +kernel
theorem dL_law_237 : decode cL_law 237 = .ok (.iadd, 1) := by decide +kernel
theorem dL_law_238 : decode cL_law 238 = .ok (.iaload, 1) := by decide +kernel
theorem dL_law_239 : decode cL_law 239 = .ok (.aload_n 0, 1) := by decide +kernel
theorem dL_law_240 : decode cL_law 240 = .ok (.iload 5, 2) := by decide +kernel
theorem dL_law_242 : decode cL_law 242 = .ok (.iconst 2, 1) := by decide +kernel
theorem dL_law_243 : decode cL_law 243 = .ok (.iadd, 1) := by decide +kernel
theorem dL_law_244 : decode cL_law 244 = .ok (.iaload, 1) := by decide +kernel
theorem dL_law_245 : decode cL_law 245 = .ok (.aload_n 3, 1) := by decide +kernel
theorem dL_law_246 : decode cL_law 246 = .ok (.invokestatic 114, 3) := by decide +kernel
theorem dL_law_249 : decode cL_law 249 = .ok (.istore 6, 2) := by decide +kernel
theorem dL_law_251 : decode cL_law 251 = .ok (.aload_n 2, 1) := by decide +kernel
theorem dL_law_252 : decode cL_law 252 = .ok (.aload_n 0, 1) := by decide +kernel
theorem dL_law_253 : decode cL_law 253 = .ok (.iload 5, 2) := by decide +kernel
theorem dL_law_255 : decode cL_law 255 = .ok (.iconst 1, 1) := by decide +kernel
theorem dL_law_256 : decode cL_law 256 = .ok (.iadd, 1) := by decide +kernel
theorem dL_law_257 : decode cL_law 257 = .ok (.iaload, 1) := by decide +kernel
theorem dL_law_258 : decode cL_law 258 = .ok (.aload_n 0, 1) := by decide +kernel
theorem dL_law_259 : decode cL_law 259 = .ok (.iload 5, 2) := by decide +kernel
theorem dL_law_261 : decode cL_law 261 = .ok (.iconst 2, 1) := by decide +kernel
theorem dL_law_262 : decode cL_law 262 = .ok (.iadd, 1) := by decide +kernel
theorem dL_law_263 : decode cL_law 263 = .ok (.iaload, 1) := by decide +kernel
theorem dL_law_264 : decode cL_law 264 = .ok (.invokevirtual 117, 3) := by decide +kernel
theorem dL_law_267 : decode cL_law 267 = .ok (.istore 7, 2) := by decide +kernel
theorem dL_law_269 : decode cL_law 269 = .ok (.aload_n 2, 1) := by decide +kernel
theorem dL_law_270 : decode cL_law 270 = .ok (.invokevirtual 110, 3) := by decide +kernel
theorem dL_law_273 : decode cL_law 273 = .ok (.iload 6, 2) := by decide +kernel
theorem dL_law_275 : decode cL_law 275 = .ok (.if_icmp .eq 5, 3) := by decide +kernel
theorem dL_law_278 : decode cL_law 278 = .ok (.iconst 0, 1) := by decide +kernel
theorem dL_law_279 : decode cL_law 279 = .ok (.ireturn, 1) := by decide +kernel
theorem dL_law_280 : decode cL_law 280 = .ok (.iload 6, 2) := by decide +kernel
theorem dL_law_282 : decode cL_law 282 = .ok (.ifCond .ne 15, 3) := by decide +kernel
theorem dL_law_285 : decode cL_law 285 = .ok (.aload_n 3, 1) := by decide +kernel
theorem dL_law_286 : decode cL_law 286 = .ok (.iconst 0, 1) := by decide +kernel
theorem dL_law_287 : decode cL_law 287 = .ok (.laload, 1) := by decide +kernel
theorem dL_law_288 : decode cL_law 288 = .ok (.iload 7, 2) := by decide +kernel
theorem dL_law_290 : decode cL_law 290 = .ok (.i2l, 1) := by decide +kernel
theorem dL_law_291 : decode cL_law 291 = .ok (.lcmp, 1) := by decide +kernel
theorem dL_law_292 : decode cL_law 292 = .ok (.ifCond .eq 5, 3) := by decide +kernel
theorem dL_law_295 : decode cL_law 295 = .ok (.iconst 0, 1) := by decide +kernel
theorem dL_law_296 : decode cL_law 296 = .ok (.ireturn, 1) := by decide +kernel
theorem dL_law_297 : decode cL_law 297 = .ok (.goto 1456, 3) := by decide +kernel
theorem dL_law_300 : decode cL_law 300 = .ok (.aload_n 1, 1) := by decide +kernel
