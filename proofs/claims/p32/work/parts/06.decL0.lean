theorem dL_cell_0 : decode cL_cell 0 = .ok (.aload_n 0, 1) := by decide +kernel
theorem dL_cell_1 : decode cL_cell 1 = .ok (.arraylength, 1) := by decide +kernel
theorem dL_cell_2 : decode cL_cell 2 = .ok (.ifCond .ne 13, 3) := by decide +kernel
theorem dL_cell_5 : decode cL_cell 5 = .ok (.bipush 71, 2) := by decide +kernel
theorem dL_cell_7 : decode cL_cell 7 = .ok (.iload_n 1, 1) := by decide +kernel
theorem dL_cell_8 : decode cL_cell 8 = .ok (.imul, 1) := by decide +kernel
theorem dL_cell_9 : decode cL_cell 9 = .ok (.bipush 13, 2) := by decide +kernel
theorem dL_cell_11 : decode cL_cell 11 = .ok (.iadd, 1) := by decide +kernel
theorem dL_cell_12 : decode cL_cell 12 = .ok (.goto 12, 3) := by decide +kernel
theorem dL_cell_15 : decode cL_cell 15 = .ok (.aload_n 0, 1) := by decide +kernel
theorem dL_cell_16 : decode cL_cell 16 = .ok (.iload_n 1, 1) := by decide +kernel
theorem dL_cell_17 : decode cL_cell 17 = .ok (.ldc 7, 2) := by decide +kernel
theorem dL_cell_19 : decode cL_cell 19 = .ok (.iand, 1) := by decide +kernel
theorem dL_cell_20 : decode cL_cell 20 = .ok (.aload_n 0, 1) := by decide +kernel
theorem dL_cell_21 : decode cL_cell 21 = .ok (.arraylength, 1) := by decide +kernel
theorem dL_cell_22 : decode cL_cell 22 = .ok (.irem, 1) := by decide +kernel
theorem dL_cell_23 : decode cL_cell 23 = .ok (.iaload, 1) := by decide +kernel
theorem dL_cell_24 : decode cL_cell 24 = .ok (.ireturn, 1) := by decide +kernel
theorem dL_addPlayer_0 : decode cL_addPlayer 0 = .ok (.aload_n 0, 1) := by decide +kernel
theorem dL_addPlayer_1 : decode cL_addPlayer 1 = .ok (.iload_n 1, 1) := by decide +kernel
theorem dL_addPlayer_2 : decode cL_addPlayer 2 = .ok (.invokevirtual 8, 3) := by decide +kernel
theorem dL_addPlayer_5 : decode cL_addPlayer 5 = .ok (.ireturn, 1) := by decide +kernel
theorem dL_addPlayer_6 : decode cL_addPlayer 6 = .ok (.astore_n 2, 1) := by decide +kernel
theorem dL_addPlayer_7 : decode cL_addPlayer 7 = .ok (.iconst (-1), 1) := by decide +kernel
theorem dL_addPlayer_8 : decode cL_addPlayer 8 = .ok (.ireturn, 1) := by decide +kernel
theorem dL_addPlayer_9 : decode cL_addPlayer 9 = .ok (.astore_n 2, 1) := by decide +kernel
theorem dL_addPlayer_10 : decode cL_addPlayer 10 = .ok (.bipush (-2), 2) := by decide +kernel
theorem dL_addPlayer_12 : decode cL_addPlayer 12 = .ok (.ireturn, 1) := by decide +kernel
theorem dL_open_0 : decode cL_open 0 = .ok (.aload_n 0, 1) := by decide +kernel
theorem dL_open_1 : decode cL_open 1 = .ok (.iload_n 1, 1) := by decide +kernel
theorem dL_open_2 : decode cL_open 2 = .ok (.iload_n 2, 1) := by decide +kernel
theorem dL_open_3 : decode cL_open 3 = .ok (.invokevirtual 18, 3) := by decide +kernel
theorem dL_open_6 : decode cL_open 6 = .ok (.ireturn, 1) := by decide +kernel
theorem dL_open_7 : decode cL_open 7 = .ok (.astore_n 3, 1) := by decide +kernel
theorem dL_open_8 : decode cL_open 8 = .ok (.iconst (-1), 1) := by decide +kernel
theorem dL_open_9 : decode cL_open 9 = .ok (.ireturn, 1) := by decide +kernel
theorem dL_open_10 : decode cL_open 10 = .ok (.astore_n 3, 1) := by decide +kernel
theorem dL_open_11 : decode cL_open 11 = .ok (.bipush (-2), 2) := by decide +kernel
theorem dL_open_13 : decode cL_open 13 = .ok (.ireturn, 1) := by decide +kernel
theorem dL_open_14 : decode cL_open 14 = .ok (.astore_n 3, 1) := by decide +kernel
theorem dL_open_15 : decode cL_open 15 = .ok (.bipush (-3), 2) := by decide +kernel
theorem dL_open_17 : decode cL_open 17 = .ok (.ireturn, 1) := by decide +kernel
theorem dL_push_0 : decode cL_push 0 = .ok (.aload_n 0, 1) := by decide +kernel
theorem dL_push_1 : decode cL_push 1 = .ok (.iload_n 1, 1) := by decide +kernel
theorem dL_push_2 : decode cL_push 2 = .ok (.iload_n 2, 1) := by decide +kernel
theorem dL_push_3 : decode cL_push 3 = .ok (.invokevirtual 24, 3) := by decide +kernel
theorem dL_push_6 : decode cL_push 6 = .ok (.ireturn, 1) := by decide +kernel
theorem dL_push_7 : decode cL_push 7 = .ok (.astore_n 3, 1) := by decide +kernel
theorem dL_push_8 : decode cL_push 8 = .ok (.iconst (-1), 1) := by decide +kernel
theorem dL_push_9 : decode cL_push 9 = .ok (.ireturn, 1) := by decide +kernel
theorem dL_push_10 : decode cL_push 10 = .ok (.astore_n 3, 1) := by decide +kernel
theorem dL_push_11 : decode cL_push 11 = .ok (.bipush (-2), 2) := by decide +kernel
theorem dL_push_13 : decode cL_push 13 = .ok (.ireturn, 1) := by decide +kernel
theorem dL_push_14 : decode cL_push 14 = .ok (.astore_n 3, 1) := by decide +kernel
theorem dL_push_15 : decode cL_push 15 = .ok (.bipush (-3), 2) := by decide +kernel
theorem dL_push_17 : decode cL_push 17 = .ok (.ireturn, 1) := by decide +kernel
theorem dL_at_0 : decode cL_at 0 = .ok (.aload_n 0, 1) := by decide +kernel
theorem dL_at_1 : decode cL_at 1 = .ok (.iload_n 1, 1) := by decide +kernel
theorem dL_at_2 : decode cL_at 2 = .ok (.iload_n 2, 1) := by decide +kernel
theorem dL_at_3 : decode cL_at 3 = .ok (.iload_n 3, 1) := by decide +kernel
theorem dL_at_4 : decode cL_at 4 = .ok (.invokevirtual 29, 3) := by decide +kernel
theorem dL_at_7 : decode cL_at 7 = .ok (.ireturn, 1) := by decide +kernel
theorem dL_at_8 : decode cL_at 8 = .ok (.astore 4, 2) := by decide +kernel
theorem dL_at_10 : decode cL_at 10 = .ok (.iconst (-1), 1) := by decide +kernel
theorem dL_at_11 : decode cL_at 11 = .ok (.ireturn, 1) := by decide +kernel
theorem dL_at_12 : decode cL_at 12 = .ok (.astore 4, 2) := by decide +kernel
theorem dL_at_14 : decode cL_at 14 = .ok (.bipush (-2), 2) := by decide +kernel
theorem dL_at_16 : decode cL_at 16 = .ok (.ireturn, 1) := by decide +kernel
theorem dL_score_0 : decode cL_score 0 = .ok (.aload_n 0, 1) := by decide +kernel
theorem dL_score_1 : decode cL_score 1 = .ok (.iload_n 1, 1) := by decide +kernel
theorem dL_score_2 : decode cL_score 2 = .ok (.invokevirtual 33, 3) := by decide +kernel
theorem dL_score_5 : decode cL_score 5 = .ok (.ireturn, 1) := by decide +kernel
theorem dL_score_6 : decode cL_score 6 = .ok (.astore_n 2, 1) := by decide +kernel
theorem dL_score_7 : decode cL_score 7 = .ok (.iconst (-1), 1) := by decide +kernel
theorem dL_score_8 : decode cL_score 8 = .ok (.ireturn, 1) := by decide +kernel
theorem dL_pushes_0 : decode cL_pushes 0 = .ok (.aload_n 0, 1) := by decide +kernel
theorem dL_pushes_1 : decode cL_pushes 1 = .ok (.iload_n 1, 1) := by decide +kernel
theorem dL_pushes_2 : decode cL_pushes 2 = .ok (.invokevirtual 36, 3) := by decide +kernel
theorem dL_pushes_5 : decode cL_pushes 5 = .ok (.ireturn, 1) := by decide +kernel
theorem dL_pushes_6 : decode cL_pushes 6 = .ok (.astore_n 2, 1) := by decide +kernel
theorem dL_pushes_7 : decode cL_pushes 7 = .ok (.iconst (-1), 1) := by decide +kernel
theorem dL_pushes_8 : decode cL_pushes 8 = .ok (.ireturn, 1) := by decide +kernel
theorem dL_canPush_0 : decode cL_canPush 0 = .ok (.aload_n 0, 1) := by decide +kernel
theorem dL_canPush_1 : decode cL_canPush 1 = .ok (.iload_n 1, 1) := by decide +kernel
theorem dL_canPush_2 : decode cL_canPush 2 = .ok (.iload_n 2, 1) := by decide +kernel
theorem dL_canPush_3 : decode cL_canPush 3 = .ok (.invokevirtual 39, 3) := by decide +kernel
theorem dL_canPush_6 : decode cL_canPush 6 = .ok (.ifCond .eq 7, 3) := by decide +kernel
theorem dL_canPush_9 : decode cL_canPush 9 = .ok (.iconst 1, 1) := by decide +kernel
theorem dL_canPush_10 : decode cL_canPush 10 = .ok (.goto 4, 3) := by decide +kernel
theorem dL_canPush_13 : decode cL_canPush 13 = .ok (.iconst 0, 1) := by decide +kernel
theorem dL_canPush_14 : decode cL_canPush 14 = .ok (.ireturn, 1) := by decide +kernel
theorem dL_canPush_15 : decode cL_canPush 15 = .ok (.astore_n 3, 1) := by decide +kernel
theorem dL_canPush_16 : decode cL_canPush 16 = .ok (.iconst (-1), 1) := by decide +kernel
theorem dL_canPush_17 : decode cL_canPush 17 = .ok (.ireturn, 1) := by decide +kernel
theorem dL_canPush_18 : decode cL_canPush 18 = .ok (.astore_n 3, 1) := by decide +kernel
theorem dL_canPush_19 : decode cL_canPush 19 = .ok (.bipush (-2), 2) := by decide +kernel
theorem dL_canPush_21 : decode cL_canPush 21 = .ok (.ireturn, 1) := by decide +kernel
theorem dL_isOver_0 : decode cL_isOver 0 = .ok (.aload_n 0, 1) := by decide +kernel
theorem dL_isOver_1 : decode cL_isOver 1 = .ok (.iload_n 1, 1) := by decide +kernel
theorem dL_isOver_2 : decode cL_isOver 2 = .ok (.invokevirtual 43, 3) := by decide +kernel
theorem dL_isOver_5 : decode cL_isOver 5 = .ok (.ifCond .eq 7, 3) := by decide +kernel
theorem dL_isOver_8 : decode cL_isOver 8 = .ok (.iconst 1, 1) := by decide +kernel
theorem dL_isOver_9 : decode cL_isOver 9 = .ok (.goto 4, 3) := by decide +kernel
theorem dL_isOver_12 : decode cL_isOver 12 = .ok (.iconst 0, 1) := by decide +kernel
theorem dL_isOver_13 : decode cL_isOver 13 = .ok (.ireturn, 1) := by decide +kernel
theorem dL_isOver_14 : decode cL_isOver 14 = .ok (.astore_n 2, 1) := by decide +kernel
theorem dL_isOver_15 : decode cL_isOver 15 = .ok (.iconst (-1), 1) := by decide +kernel
theorem dL_isOver_16 : decode cL_isOver 16 = .ok (.ireturn, 1) := by decide +kernel
theorem dL_price_0 : decode cL_price 0 = .ok (.aload_n 0, 1) := by decide +kernel
theorem dL_price_1 : decode cL_price 1 = .ok (.iload_n 1, 1) := by decide +kernel
theorem dL_price_2 : decode cL_price 2 = .ok (.iload_n 2, 1) := by decide +kernel
theorem dL_price_3 : decode cL_price 3 = .ok (.invokevirtual 47, 3) := by decide +kernel
theorem dL_price_6 : decode cL_price 6 = .ok (.ireturn, 1) := by decide +kernel
theorem dL_price_7 : decode cL_price 7 = .ok (.astore_n 3, 1) := by decide +kernel
theorem dL_price_8 : decode cL_price 8 = .ok (.iconst (-1), 1) := by decide +kernel
theorem dL_price_9 : decode cL_price 9 = .ok (.ireturn, 1) := by decide +kernel
theorem dL_price_10 : decode cL_price 10 = .ok (.astore_n 3, 1) := by decide +kernel
theorem dL_price_11 : decode cL_price 11 = .ok (.bipush (-2), 2) := by decide +kernel
theorem dL_price_13 : decode cL_price 13 = .ok (.ireturn, 1) := by decide +kernel
theorem dL_price_14 : decode cL_price 14 = .ok (.astore_n 3, 1) := by decide +kernel
theorem dL_price_15 : decode cL_price 15 = .ok (.bipush (-3), 2) := by decide +kernel
theorem dL_price_17 : decode cL_price 17 = .ok (.ireturn, 1) := by decide +kernel
theorem dL_hint_0 : decode cL_hint 0 = .ok (.aload_n 0, 1) := by decide +kernel
theorem dL_hint_1 : decode cL_hint 1 = .ok (.iload_n 1, 1) := by decide +kernel
theorem dL_hint_2 : decode cL_hint 2 = .ok (.iload_n 2, 1) := by decide +kernel
theorem dL_hint_3 : decode cL_hint 3 = .ok (.invokevirtual 50, 3) := by decide +kernel
theorem dL_hint_6 : decode cL_hint 6 = .ok (.ireturn, 1) := by decide +kernel
theorem dL_hint_7 : decode cL_hint 7 = .ok (.astore_n 3, 1) := by decide +kernel
theorem dL_hint_8 : decode cL_hint 8 = .ok (.iconst (-1), 1) := by decide +kernel
theorem dL_hint_9 : decode cL_hint 9 = .ok (.ireturn, 1) := by decide +kernel
theorem dL_hint_10 : decode cL_hint 10 = .ok (.astore_n 3, 1) := by decide +kernel
theorem dL_hint_11 : decode cL_hint 11 = .ok (.bipush (-2), 2) := by decide +kernel
theorem dL_hint_13 : decode cL_hint 13 = .ok (.ireturn, 1) := by decide +kernel
theorem dL_hint_14 : decode cL_hint 14 = .ok (.astore_n 3, 1) := by decide +kernel
theorem dL_hint_15 : decode cL_hint 15 = .ok (.bipush (-3), 2) := by decide +kernel
theorem dL_hint_17 : decode cL_hint 17 = .ok (.ireturn, 1) := by decide +kernel
theorem dL_hint_18 : decode cL_hint 18 = .ok (.astore_n 3, 1) := by decide +kernel
theorem dL_hint_19 : decode cL_hint 19 = .ok (.bipush (-4), 2) := by decide +kernel
theorem dL_hint_21 : decode cL_hint 21 = .ok (.ireturn, 1) := by decide +kernel
theorem dL_hint_22 : decode cL_hint 22 = .ok (.astore_n 3, 1) := by decide +kernel
theorem dL_hint_23 : decode cL_hint 23 = .ok (.bipush (-5), 2) := by decide +kernel
theorem dL_hint_25 : decode cL_hint 25 = .ok (.ireturn, 1) := by decide +kernel
theorem dL_worth_0 : decode cL_worth 0 = .ok (.aload_n 0, 1) := by decide +kernel
theorem dL_worth_1 : decode cL_worth 1 = .ok (.iload_n 1, 1) := by decide +kernel
theorem dL_worth_2 : decode cL_worth 2 = .ok (.iload_n 2, 1) := by decide +kernel
theorem dL_worth_3 : decode cL_worth 3 = .ok (.invokevirtual 55, 3) := by decide +kernel
theorem dL_worth_6 : decode cL_worth 6 = .ok (.ireturn, 1) := by decide +kernel
theorem dL_worth_7 : decode cL_worth 7 = .ok (.astore_n 3, 1) := by decide +kernel
theorem dL_worth_8 : decode cL_worth 8 = .ok (.iconst (-1), 1) := by decide +kernel
theorem dL_worth_9 : decode cL_worth 9 = .ok (.ireturn, 1) := by decide +kernel
theorem dL_worth_10 : decode cL_worth 10 = .ok (.astore_n 3, 1) := by decide +kernel
theorem dL_worth_11 : decode cL_worth 11 = .ok (.bipush (-2), 2) := by decide +kernel
theorem dL_worth_13 : decode cL_worth 13 = .ok (.ireturn, 1) := by decide +kernel
theorem dL_money_0 : decode cL_money 0 = .ok (.aload_n 0, 1) := by decide +kernel
theorem dL_money_1 : decode cL_money 1 = .ok (.iload_n 1, 1) := by decide +kernel
theorem dL_money_2 : decode cL_money 2 = .ok (.invokevirtual 58, 3) := by decide +kernel
theorem dL_money_5 : decode cL_money 5 = .ok (.ireturn, 1) := by decide +kernel
theorem dL_money_6 : decode cL_money 6 = .ok (.astore_n 2, 1) := by decide +kernel
theorem dL_money_7 : decode cL_money 7 = .ok (.iconst (-1), 1) := by decide +kernel
theorem dL_money_8 : decode cL_money 8 = .ok (.ireturn, 1) := by decide +kernel
theorem dL_setRoom_0 : decode cL_setRoom 0 = .ok (.aload_n 0, 1) := by decide +kernel
theorem dL_setRoom_1 : decode cL_setRoom 1 = .ok (.iload_n 1, 1) := by decide +kernel
theorem dL_setRoom_2 : decode cL_setRoom 2 = .ok (.invokevirtual 61, 3) := by decide +kernel
theorem dL_setRoom_5 : decode cL_setRoom 5 = .ok (.ireturn, 1) := by decide +kernel
theorem dL_setRoom_6 : decode cL_setRoom 6 = .ok (.astore_n 2, 1) := by decide +kernel
theorem dL_setRoom_7 : decode cL_setRoom 7 = .ok (.iconst (-1), 1) := by decide +kernel
theorem dL_setRoom_8 : decode cL_setRoom 8 = .ok (.ireturn, 1) := by decide +kernel
theorem dL_setRoom_9 : decode cL_setRoom 9 = .ok (.astore_n 2, 1) := by decide +kernel
theorem dL_setRoom_10 : decode cL_setRoom 10 = .ok (.bipush (-2), 2) := by decide +kernel
theorem dL_setRoom_12 : decode cL_setRoom 12 = .ok (.ireturn, 1) := by decide +kernel
theorem dL_isCached_0 : decode cL_isCached 0 = .ok (.aload_n 0, 1) := by decide +kernel
theorem dL_isCached_1 : decode cL_isCached 1 = .ok (.iload_n 1, 1) := by decide +kernel
theorem dL_isCached_2 : decode cL_isCached 2 = .ok (.iload_n 2, 1) := by decide +kernel
theorem dL_isCached_3 : decode cL_isCached 3 = .ok (.invokevirtual 64, 3) := by decide +kernel
theorem dL_isCached_6 : decode cL_isCached 6 = .ok (.ifCond .eq 7, 3) := by decide +kernel
theorem dL_isCached_9 : decode cL_isCached 9 = .ok (.iconst 1, 1) := by decide +kernel
theorem dL_isCached_10 : decode cL_isCached 10 = .ok (.goto 4, 3) := by decide +kernel
theorem dL_isCached_13 : decode cL_isCached 13 = .ok (.iconst 0, 1) := by decide +kernel
theorem dL_isCached_14 : decode cL_isCached 14 = .ok (.ireturn, 1) := by decide +kernel
theorem dL_isCached_15 : decode cL_isCached 15 = .ok (.astore_n 3, 1) := by decide +kernel
theorem dL_isCached_16 : decode cL_isCached 16 = .ok (.iconst (-1), 1) := by decide +kernel
theorem dL_isCached_17 : decode cL_isCached 17 = .ok (.ireturn, 1) := by decide +kernel
theorem dL_isCached_18 : decode cL_isCached 18 = .ok (.astore_n 3, 1) := by decide +kernel
theorem dL_isCached_19 : decode cL_isCached 19 = .ok (.bipush (-2), 2) := by decide +kernel
theorem dL_isCached_21 : decode cL_isCached 21 = .ok (.ireturn, 1) := by decide +kernel
theorem dL_pin_0 : decode cL_pin 0 = .ok (.aload_n 0, 1) := by decide +kernel
theorem dL_pin_1 : decode cL_pin 1 = .ok (.iload_n 1, 1) := by decide +kernel
theorem dL_pin_2 : decode cL_pin 2 = .ok (.iload_n 2, 1) := by decide +kernel
theorem dL_pin_3 : decode cL_pin 3 = .ok (.invokevirtual 67, 3) := by decide +kernel
theorem dL_pin_6 : decode cL_pin 6 = .ok (.ireturn, 1) := by decide +kernel
theorem dL_pin_7 : decode cL_pin 7 = .ok (.astore_n 3, 1) := by decide +kernel
theorem dL_pin_8 : decode cL_pin 8 = .ok (.iconst (-1), 1) := by decide +kernel
theorem dL_pin_9 : decode cL_pin 9 = .ok (.ireturn, 1) := by decide +kernel
theorem dL_pin_10 : decode cL_pin 10 = .ok (.astore_n 3, 1) := by decide +kernel
theorem dL_pin_11 : decode cL_pin 11 = .ok (.bipush (-2), 2) := by decide +kernel
theorem dL_pin_13 : decode cL_pin 13 = .ok (.ireturn, 1) := by decide +kernel
theorem dL_pin_14 : decode cL_pin 14 = .ok (.astore_n 3, 1) := by decide +kernel
theorem dL_pin_15 : decode cL_pin 15 = .ok (.bipush (-3), 2) := by decide +kernel
theorem dL_pin_17 : decode cL_pin 17 = .ok (.ireturn, 1) := by decide +kernel
theorem dL_pin_18 : decode cL_pin 18 = .ok (.astore_n 3, 1) := by decide +kernel
theorem dL_pin_19 : decode cL_pin 19 = .ok (.bipush (-4), 2) := by decide +kernel
theorem dL_pin_21 : decode cL_pin 21 = .ok (.ireturn, 1) := by decide +kernel
theorem dL_unpin_0 : decode cL_unpin 0 = .ok (.aload_n 0, 1) := by decide +kernel
theorem dL_unpin_1 : decode cL_unpin 1 = .ok (.iload_n 1, 1) := by decide +kernel
theorem dL_unpin_2 : decode cL_unpin 2 = .ok (.invokevirtual 70, 3) := by decide +kernel
theorem dL_unpin_5 : decode cL_unpin 5 = .ok (.ireturn, 1) := by decide +kernel
theorem dL_unpin_6 : decode cL_unpin 6 = .ok (.astore_n 2, 1) := by decide +kernel
theorem dL_unpin_7 : decode cL_unpin 7 = .ok (.iconst (-1), 1) := by decide +kernel
theorem dL_unpin_8 : decode cL_unpin 8 = .ok (.ireturn, 1) := by decide +kernel
theorem dL_follows_0 : decode cL_follows 0 = .ok (.aload_n 0, 1) := by decide +kernel
theorem dL_follows_1 : decode cL_follows 1 = .ok (.iload_n 1, 1) := by decide +kernel
theorem dL_follows_2 : decode cL_follows 2 = .ok (.invokevirtual 73, 3) := by decide +kernel
theorem dL_follows_5 : decode cL_follows 5 = .ok (.ireturn, 1) := by decide +kernel
theorem dL_follows_6 : decode cL_follows 6 = .ok (.astore_n 2, 1) := by decide +kernel
theorem dL_follows_7 : decode cL_follows 7 = .ok (.iconst (-1), 1) := by decide +kernel
theorem dL_follows_8 : decode cL_follows 8 = .ok (.ireturn, 1) := by decide +kernel
theorem dL_setLimit_0 : decode cL_setLimit 0 = .ok (.aload_n 0, 1) := by decide +kernel
theorem dL_setLimit_1 : decode cL_setLimit 1 = .ok (.iload_n 1, 1) := by decide +kernel
theorem dL_setLimit_2 : decode cL_setLimit 2 = .ok (.invokevirtual 76, 3) := by decide +kernel
theorem dL_setLimit_5 : decode cL_setLimit 5 = .ok (.ireturn, 1) := by decide +kernel
theorem dL_setLimit_6 : decode cL_setLimit 6 = .ok (.astore_n 2, 1) := by decide +kernel
theorem dL_setLimit_7 : decode cL_setLimit 7 = .ok (.iconst (-1), 1) := by decide +kernel
theorem dL_setLimit_8 : decode cL_setLimit 8 = .ok (.ireturn, 1) := by decide +kernel
theorem dL_judge_0 : decode cL_judge 0 = .ok (.aload_n 0, 1) := by decide +kernel
theorem dL_judge_1 : decode cL_judge 1 = .ok (.iload_n 1, 1) := by decide +kernel
theorem dL_judge_2 : decode cL_judge 2 = .ok (.invokevirtual 79, 3) := by decide +kernel
theorem dL_judge_5 : decode cL_judge 5 = .ok (.ireturn, 1) := by decide +kernel
theorem dL_judge_6 : decode cL_judge 6 = .ok (.astore_n 2, 1) := by decide +kernel
theorem dL_judge_7 : decode cL_judge 7 = .ok (.iconst (-1), 1) := by decide +kernel
theorem dL_judge_8 : decode cL_judge 8 = .ok (.ireturn, 1) := by decide +kernel
theorem dL_judge_9 : decode cL_judge 9 = .ok (.astore_n 2, 1) := by decide +kernel
theorem dL_judge_10 : decode cL_judge 10 = .ok (.bipush (-2), 2) := by decide +kernel
theorem dL_judge_12 : decode cL_judge 12 = .ok (.ireturn, 1) := by decide +kernel
theorem dL_isVoid_0 : decode cL_isVoid 0 = .ok (.aload_n 0, 1) := by decide +kernel
theorem dL_isVoid_1 : decode cL_isVoid 1 = .ok (.iload_n 1, 1) := by decide +kernel
theorem dL_isVoid_2 : decode cL_isVoid 2 = .ok (.invokevirtual 82, 3) := by decide +kernel
theorem dL_isVoid_5 : decode cL_isVoid 5 = .ok (.ifCond .eq 7, 3) := by decide +kernel
theorem dL_isVoid_8 : decode cL_isVoid 8 = .ok (.iconst 1, 1) := by decide +kernel
theorem dL_isVoid_9 : decode cL_isVoid 9 = .ok (.goto 4, 3) := by decide +kernel
theorem dL_isVoid_12 : decode cL_isVoid 12 = .ok (.iconst 0, 1) := by decide +kernel
theorem dL_isVoid_13 : decode cL_isVoid 13 = .ok (.ireturn, 1) := by decide +kernel
theorem dL_isVoid_14 : decode cL_isVoid 14 = .ok (.astore_n 2, 1) := by decide +kernel
theorem dL_isVoid_15 : decode cL_isVoid 15 = .ok (.iconst (-1), 1) := by decide +kernel
theorem dL_isVoid_16 : decode cL_isVoid 16 = .ok (.ireturn, 1) := by decide +kernel
theorem dL_playerOf_0 : decode cL_playerOf 0 = .ok (.aload_n 0, 1) := by decide +kernel
theorem dL_playerOf_1 : decode cL_playerOf 1 = .ok (.iload_n 1, 1) := by decide +kernel
theorem dL_playerOf_2 : decode cL_playerOf 2 = .ok (.invokevirtual 85, 3) := by decide +kernel
theorem dL_playerOf_5 : decode cL_playerOf 5 = .ok (.ireturn, 1) := by decide +kernel
theorem dL_playerOf_6 : decode cL_playerOf 6 = .ok (.astore_n 2, 1) := by decide +kernel
theorem dL_playerOf_7 : decode cL_playerOf 7 = .ok (.iconst (-1), 1) := by decide +kernel
theorem dL_playerOf_8 : decode cL_playerOf 8 = .ok (.ireturn, 1) := by decide +kernel
theorem dL_hitShare_0 : decode cL_hitShare 0 = .ok (.aload_n 0, 1) := by decide +kernel
theorem dL_hitShare_1 : decode cL_hitShare 1 = .ok (.invokevirtual 91, 3) := by decide +kernel
theorem dL_hitShare_4 : decode cL_hitShare 4 = .ok (.freturn, 1) := by decide +kernel
theorem dL_hitShare_5 : decode cL_hitShare 5 = .ok (.astore_n 1, 1) := by decide +kernel
theorem dL_hitShare_6 : decode cL_hitShare 6 = .ok (.ldc 97, 2) := by decide +kernel
theorem dL_hitShare_8 : decode cL_hitShare 8 = .ok (.freturn, 1) := by decide +kernel
theorem dL_meanPrice_0 : decode cL_meanPrice 0 = .ok (.aload_n 0, 1) := by decide +kernel
theorem dL_meanPrice_1 : decode cL_meanPrice 1 = .ok (.invokevirtual 98, 3) := by decide +kernel
theorem dL_meanPrice_4 : decode cL_meanPrice 4 = .ok (.dreturn, 1) := by decide +kernel
theorem dL_meanPrice_5 : decode cL_meanPrice 5 = .ok (.astore_n 1, 1) := by decide +kernel
theorem dL_meanPrice_6 : decode cL_meanPrice 6 = .ok (.ldc2_w 102, 3) := by decide +kernel
theorem dL_meanPrice_9 : decode cL_meanPrice 9 = .ok (.dreturn, 1) := by decide +kernel
theorem dL_acts_0 : decode cL_acts 0 = .ok (.aload_n 2, 1) := by decide +kernel
theorem dL_acts_1 : decode cL_acts 1 = .ok (.bipush 40, 2) := by decide +kernel
theorem dL_acts_3 : decode cL_acts 3 = .ok (.invokevirtual 104, 3) := by decide +kernel
theorem dL_acts_6 : decode cL_acts 6 = .ok (.ifCond .ne 7, 3) := by decide +kernel
theorem dL_acts_9 : decode cL_acts 9 = .ok (.iconst 1, 1) := by decide +kernel
theorem dL_acts_10 : decode cL_acts 10 = .ok (.goto 4, 3) := by decide +kernel
theorem dL_acts_13 : decode cL_acts 13 = .ok (.iconst 0, 1) := by decide +kernel
theorem dL_acts_14 : decode cL_acts 14 = .ok (.istore_n 3, 1) := by decide +kernel
theorem dL_acts_15 : decode cL_acts 15 = .ok (.iload_n 3, 1) := by decide +kernel
theorem dL_acts_16 : decode cL_acts 16 = .ok (.ifCond .eq 8, 3) := by decide +kernel
theorem dL_acts_19 : decode cL_acts 19 = .ok (.bipush 8, 2) := by decide +kernel
theorem dL_acts_21 : decode cL_acts 21 = .ok (.goto 8, 3) := by decide +kernel
theorem dL_acts_24 : decode cL_acts 24 = .ok (.aload_n 2, 1) := by decide +kernel
theorem dL_acts_25 : decode cL_acts 25 = .ok (.iconst 4, 1) := by decide +kernel
theorem dL_acts_26 : decode cL_acts 26 = .ok (.invokevirtual 104, 3) := by decide +kernel
theorem dL_acts_29 : decode cL_acts 29 = .ok (.istore 4, 2) := by decide +kernel
theorem dL_acts_31 : decode cL_acts 31 = .ok (.iload_n 3, 1) := by decide +kernel
theorem dL_acts_32 : decode cL_acts 32 = .ok (.ifCond .eq 7, 3) := by decide +kernel
theorem dL_acts_35 : decode cL_acts 35 = .ok (.iconst 5, 1) := by decide +kernel
theorem dL_acts_36 : decode cL_acts 36 = .ok (.goto 10, 3) := by decide +kernel
theorem dL_acts_39 : decode cL_acts 39 = .ok (.iconst 1, 1) := by decide +kernel
theorem dL_acts_40 : decode cL_acts 40 = .ok (.aload_n 2, 1) := by decide +kernel
theorem dL_acts_41 : decode cL_acts 41 = .ok (.iconst 3, 1) := by decide +kernel
theorem dL_acts_42 : decode cL_acts 42 = .ok (.invokevirtual 104, 3) := by decide +kernel
theorem dL_acts_45 : decode cL_acts 45 = .ok (.iadd, 1) := by decide +kernel
theorem dL_acts_46 : decode cL_acts 46 = .ok (.istore 5, 2) := by decide +kernel
theorem dL_acts_48 : decode cL_acts 48 = .ok (.iload_n 1, 1) := by decide +kernel
theorem dL_acts_49 : decode cL_acts 49 = .ok (.bipush 16, 2) := by decide +kernel
theorem dL_acts_51 : decode cL_acts 51 = .ok (.irem, 1) := by decide +kernel
theorem dL_acts_52 : decode cL_acts 52 = .ok (.tableswitch 212 0 14 #[76, 108, 108, 108, 108, 128, 128, 128, 137, 137, 154, 175, 175, 184, 191], 76) := by decide +kernel
theorem dL_acts_128 : decode cL_acts 128 = .ok (.aload_n 0, 1) := by decide +kernel
theorem dL_acts_129 : decode cL_acts 129 = .ok (.aload_n 2, 1) := by decide +kernel
theorem dL_acts_130 : decode cL_acts 130 = .ok (.iload_n 3, 1) := by decide +kernel
theorem dL_acts_131 : decode cL_acts 131 = .ok (.ifCond .eq 7, 3) := by decide +kernel
theorem dL_acts_134 : decode cL_acts 134 = .ok (.iconst 4, 1) := by decide +kernel
theorem dL_acts_135 : decode cL_acts 135 = .ok (.goto 4, 3) := by decide +kernel
theorem dL_acts_138 : decode cL_acts 138 = .ok (.iconst 2, 1) := by decide +kernel
theorem dL_acts_139 : decode cL_acts 139 = .ok (.invokevirtual 104, 3) := by decide +kernel
theorem dL_acts_142 : decode cL_acts 142 = .ok (.iload_n 3, 1) := by decide +kernel
theorem dL_acts_143 : decode cL_acts 143 = .ok (.ifCond .eq 7, 3) := by decide +kernel
theorem dL_acts_146 : decode cL_acts 146 = .ok (.iconst (-1), 1) := by decide +kernel
theorem dL_acts_147 : decode cL_acts 147 = .ok (.goto 9, 3) := by decide +kernel
theorem dL_acts_150 : decode cL_acts 150 = .ok (.aload_n 2, 1) := by decide +kernel
theorem dL_acts_151 : decode cL_acts 151 = .ok (.bipush 9, 2) := by decide +kernel
theorem dL_acts_153 : decode cL_acts 153 = .ok (.invokevirtual 104, 3) := by decide +kernel
theorem dL_acts_156 : decode cL_acts 156 = .ok (.invokestatic 109, 3) := by decide +kernel
theorem dL_acts_159 : decode cL_acts 159 = .ok (.ireturn, 1) := by decide +kernel
theorem dL_acts_160 : decode cL_acts 160 = .ok (.aload_n 0, 1) := by decide +kernel
theorem dL_acts_161 : decode cL_acts 161 = .ok (.iload 4, 2) := by decide +kernel
theorem dL_acts_163 : decode cL_acts 163 = .ok (.iload_n 3, 1) := by decide +kernel
theorem dL_acts_164 : decode cL_acts 164 = .ok (.ifCond .eq 7, 3) := by decide +kernel
theorem dL_acts_167 : decode cL_acts 167 = .ok (.iconst 4, 1) := by decide +kernel
theorem dL_acts_168 : decode cL_acts 168 = .ok (.goto 8, 3) := by decide +kernel
theorem dL_acts_171 : decode cL_acts 171 = .ok (.aload_n 2, 1) := by decide +kernel
theorem dL_acts_172 : decode cL_acts 172 = .ok (.iconst 4, 1) := by decide +kernel
theorem dL_acts_173 : decode cL_acts 173 = .ok (.invokevirtual 104, 3) := by decide +kernel
theorem dL_acts_176 : decode cL_acts 176 = .ok (.invokestatic 114, 3) := by decide +kernel
theorem dL_acts_179 : decode cL_acts 179 = .ok (.ireturn, 1) := by decide +kernel
theorem dL_acts_180 : decode cL_acts 180 = .ok (.aload_n 0, 1) := by decide +kernel
theorem dL_acts_181 : decode cL_acts 181 = .ok (.iload 4, 2) := by decide +kernel
theorem dL_acts_183 : decode cL_acts 183 = .ok (.iload 5, 2) := by decide +kernel
theorem dL_acts_185 : decode cL_acts 185 = .ok (.invokestatic 116, 3) := by decide +kernel
theorem dL_acts_188 : decode cL_acts 188 = .ok (.ireturn, 1) := by decide +kernel
theorem dL_acts_189 : decode cL_acts 189 = .ok (.aload_n 0, 1) := by decide +kernel
theorem dL_acts_190 : decode cL_acts 190 = .ok (.aload_n 2, 1) := by decide +kernel
theorem dL_acts_191 : decode cL_acts 191 = .ok (.iconst 4, 1) := by decide +kernel
theorem dL_acts_192 : decode cL_acts 192 = .ok (.invokevirtual 104, 3) := by decide +kernel
theorem dL_acts_195 : decode cL_acts 195 = .ok (.iconst 1, 1) := by decide +kernel
theorem dL_acts_196 : decode cL_acts 196 = .ok (.aload_n 2, 1) := by decide +kernel
theorem dL_acts_197 : decode cL_acts 197 = .ok (.iconst 3, 1) := by decide +kernel
theorem dL_acts_198 : decode cL_acts 198 = .ok (.invokevirtual 104, 3) := by decide +kernel
theorem dL_acts_201 : decode cL_acts 201 = .ok (.iadd, 1) := by decide +kernel
theorem dL_acts_202 : decode cL_acts 202 = .ok (.invokestatic 118, 3) := by decide +kernel
theorem dL_acts_205 : decode cL_acts 205 = .ok (.ireturn, 1) := by decide +kernel
theorem dL_acts_206 : decode cL_acts 206 = .ok (.aload_n 0, 1) := by decide +kernel
theorem dL_acts_207 : decode cL_acts 207 = .ok (.iload_n 3, 1) := by decide +kernel
theorem dL_acts_208 : decode cL_acts 208 = .ok (.ifCond .eq 7, 3) := by decide +kernel
theorem dL_acts_211 : decode cL_acts 211 = .ok (.iconst 0, 1) := by decide +kernel
theorem dL_acts_212 : decode cL_acts 212 = .ok (.goto 11, 3) := by decide +kernel
theorem dL_acts_215 : decode cL_acts 215 = .ok (.iconst 1, 1) := by decide +kernel
theorem dL_acts_216 : decode cL_acts 216 = .ok (.aload_n 2, 1) := by decide +kernel
theorem dL_acts_217 : decode cL_acts 217 = .ok (.bipush 30, 2) := by decide +kernel
theorem dL_acts_219 : decode cL_acts 219 = .ok (.invokevirtual 104, 3) := by decide +kernel
theorem dL_acts_222 : decode cL_acts 222 = .ok (.iadd, 1) := by decide +kernel
theorem dL_acts_223 : decode cL_acts 223 = .ok (.invokestatic 121, 3) := by decide +kernel
theorem dL_acts_226 : decode cL_acts 226 = .ok (.ireturn, 1) := by decide +kernel
theorem dL_acts_227 : decode cL_acts 227 = .ok (.aload_n 0, 1) := by decide +kernel
theorem dL_acts_228 : decode cL_acts 228 = .ok (.iload 4, 2) := by decide +kernel
theorem dL_acts_230 : decode cL_acts 230 = .ok (.iload 5, 2) := by decide +kernel
theorem dL_acts_232 : decode cL_acts 232 = .ok (.invokestatic 124, 3) := by decide +kernel
theorem dL_acts_235 : decode cL_acts 235 = .ok (.ireturn, 1) := by decide +kernel
theorem dL_acts_236 : decode cL_acts 236 = .ok (.aload_n 0, 1) := by decide +kernel
theorem dL_acts_237 : decode cL_acts 237 = .ok (.iload 4, 2) := by decide +kernel
theorem dL_acts_239 : decode cL_acts 239 = .ok (.invokestatic 126, 3) := by decide +kernel
theorem dL_acts_242 : decode cL_acts 242 = .ok (.ireturn, 1) := by decide +kernel
theorem dL_acts_243 : decode cL_acts 243 = .ok (.aload_n 0, 1) := by decide +kernel
theorem dL_acts_244 : decode cL_acts 244 = .ok (.iload_n 3, 1) := by decide +kernel
theorem dL_acts_245 : decode cL_acts 245 = .ok (.ifCond .eq 8, 3) := by decide +kernel
theorem dL_acts_248 : decode cL_acts 248 = .ok (.bipush 10, 2) := by decide +kernel
theorem dL_acts_250 : decode cL_acts 250 = .ok (.goto 10, 3) := by decide +kernel
theorem dL_acts_253 : decode cL_acts 253 = .ok (.iconst 1, 1) := by decide +kernel
theorem dL_acts_254 : decode cL_acts 254 = .ok (.aload_n 2, 1) := by decide +kernel
theorem dL_acts_255 : decode cL_acts 255 = .ok (.iconst 4, 1) := by decide +kernel
theorem dL_acts_256 : decode cL_acts 256 = .ok (.invokevirtual 104, 3) := by decide +kernel
theorem dL_acts_259 : decode cL_acts 259 = .ok (.iadd, 1) := by decide +kernel
theorem dL_acts_260 : decode cL_acts 260 = .ok (.invokestatic 128, 3) := by decide +kernel
theorem dL_acts_263 : decode cL_acts 263 = .ok (.ireturn, 1) := by decide +kernel
theorem dL_acts_264 : decode cL_acts 264 = .ok (.aload_n 0, 1) := by decide +kernel
theorem dL_acts_265 : decode cL_acts 265 = .ok (.iload 4, 2) := by decide +kernel
theorem dL_acts_267 : decode cL_acts 267 = .ok (.invokestatic 130, 3) := by decide +kernel
theorem dL_acts_270 : decode cL_acts 270 = .ok (.iconst (-1), 1) := by decide +kernel
theorem dL_acts_271 : decode cL_acts 271 = .ok (.if_icmp .ne 7, 3) := by decide +kernel
theorem dL_acts_274 : decode cL_acts 274 = .ok (.iconst 0, 1) := by decide +kernel
theorem dL_acts_275 : decode cL_acts 275 = .ok (.goto 4, 3) := by decide +kernel
theorem dL_acts_278 : decode cL_acts 278 = .ok (.iconst 1, 1) := by decide +kernel
theorem dL_acts_279 : decode cL_acts 279 = .ok (.ireturn, 1) := by decide +kernel
theorem dL_leads_0 : decode cL_leads 0 = .ok (.aload_n 0, 1) := by decide +kernel
theorem dL_leads_1 : decode cL_leads 1 = .ok (.iload_n 1, 1) := by decide +kernel
theorem dL_leads_2 : decode cL_leads 2 = .ok (.iload_n 2, 1) := by decide +kernel
theorem dL_leads_3 : decode cL_leads 3 = .ok (.invokestatic 132, 3) := by decide +kernel
theorem dL_leads_6 : decode cL_leads 6 = .ok (.istore_n 3, 1) := by decide +kernel
theorem dL_leads_7 : decode cL_leads 7 = .ok (.aload_n 0, 1) := by decide +kernel
theorem dL_leads_8 : decode cL_leads 8 = .ok (.iload_n 1, 1) := by decide +kernel
theorem dL_leads_9 : decode cL_leads 9 = .ok (.iload_n 2, 1) := by decide +kernel
theorem dL_leads_10 : decode cL_leads 10 = .ok (.invokestatic 134, 3) := by decide +kernel
theorem dL_leads_13 : decode cL_leads 13 = .ok (.istore 4, 2) := by decide +kernel
theorem dL_leads_15 : decode cL_leads 15 = .ok (.aload_n 0, 1) := by decide +kernel
theorem dL_leads_16 : decode cL_leads 16 = .ok (.iload_n 1, 1) := by decide +kernel
theorem dL_leads_17 : decode cL_leads 17 = .ok (.iload_n 2, 1) := by decide +kernel
theorem dL_leads_18 : decode cL_leads 18 = .ok (.invokestatic 116, 3) := by decide +kernel
theorem dL_leads_21 : decode cL_leads 21 = .ok (.istore 5, 2) := by decide +kernel
theorem dL_leads_23 : decode cL_leads 23 = .ok (.iload 5, 2) := by decide +kernel
theorem dL_leads_25 : decode cL_leads 25 = .ok (.ifCond .ge 5, 3) := by decide +kernel
theorem dL_leads_28 : decode cL_leads 28 = .ok (.iconst (-1), 1) := by decide +kernel
theorem dL_leads_29 : decode cL_leads 29 = .ok (.ireturn, 1) := by decide +kernel
theorem dL_leads_30 : decode cL_leads 30 = .ok (.iload 4, 2) := by decide +kernel
theorem dL_leads_32 : decode cL_leads 32 = .ok (.iconst 1, 1) := by decide +kernel
theorem dL_leads_33 : decode cL_leads 33 = .ok (.if_icmp .lt 27, 3) := by decide +kernel
theorem dL_leads_36 : decode cL_leads 36 = .ok (.aload_n 0, 1) := by decide +kernel
theorem dL_leads_37 : decode cL_leads 37 = .ok (.iload_n 1, 1) := by decide +kernel
theorem dL_leads_38 : decode cL_leads 38 = .ok (.iload 5, 2) := by decide +kernel
theorem dL_leads_40 : decode cL_leads 40 = .ok (.invokestatic 136, 3) := by decide +kernel
theorem dL_leads_43 : decode cL_leads 43 = .ok (.iconst 1, 1) := by decide +kernel
theorem dL_leads_44 : decode cL_leads 44 = .ok (.if_icmp .ne 16, 3) := by decide +kernel
theorem dL_leads_47 : decode cL_leads 47 = .ok (.aload_n 0, 1) := by decide +kernel
theorem dL_leads_48 : decode cL_leads 48 = .ok (.iload_n 1, 1) := by decide +kernel
theorem dL_leads_49 : decode cL_leads 49 = .ok (.iload_n 2, 1) := by decide +kernel
theorem dL_leads_50 : decode cL_leads 50 = .ok (.invokestatic 138, 3) := by decide +kernel
theorem dL_leads_53 : decode cL_leads 53 = .ok (.ifCond .lt 7, 3) := by decide +kernel
theorem dL_leads_56 : decode cL_leads 56 = .ok (.iconst 1, 1) := by decide +kernel
theorem dL_leads_57 : decode cL_leads 57 = .ok (.goto 4, 3) := by decide +kernel
theorem dL_leads_60 : decode cL_leads 60 = .ok (.iconst 0, 1) := by decide +kernel
theorem dL_leads_61 : decode cL_leads 61 = .ok (.istore 6, 2) := by decide +kernel
theorem dL_leads_63 : decode cL_leads 63 = .ok (.iconst 0, 1) := by decide +kernel
theorem dL_leads_64 : decode cL_leads 64 = .ok (.istore 7, 2) := by decide +kernel
theorem dL_leads_66 : decode cL_leads 66 = .ok (.iload 7, 2) := by decide +kernel
theorem dL_leads_68 : decode cL_leads 68 = .ok (.iload 5, 2) := by decide +kernel
theorem dL_leads_70 : decode cL_leads 70 = .ok (.if_icmp .ge 29, 3) := by decide +kernel
theorem dL_leads_73 : decode cL_leads 73 = .ok (.iload 6, 2) := by decide +kernel
theorem dL_leads_75 : decode cL_leads 75 = .ok (.aload_n 0, 1) := by decide +kernel
theorem dL_leads_76 : decode cL_leads 76 = .ok (.iload_n 1, 1) := by decide +kernel
theorem dL_leads_77 : decode cL_leads 77 = .ok (.iload 7, 2) := by decide +kernel
theorem dL_leads_79 : decode cL_leads 79 = .ok (.invokestatic 136, 3) := by decide +kernel
theorem dL_leads_82 : decode cL_leads 82 = .ok (.ifCond .lt 7, 3) := by decide +kernel
theorem dL_leads_85 : decode cL_leads 85 = .ok (.iconst 1, 1) := by decide +kernel
theorem dL_leads_86 : decode cL_leads 86 = .ok (.goto 4, 3) := by decide +kernel
theorem dL_leads_89 : decode cL_leads 89 = .ok (.iconst 0, 1) := by decide +kernel
theorem dL_leads_90 : decode cL_leads 90 = .ok (.iand, 1) := by decide +kernel
theorem dL_leads_91 : decode cL_leads 91 = .ok (.istore 6, 2) := by decide +kernel
theorem dL_leads_93 : decode cL_leads 93 = .ok (.iinc 7 1, 3) := by decide +kernel
theorem dL_leads_96 : decode cL_leads 96 = .ok (.goto (-30), 3) := by decide +kernel
theorem dL_leads_99 : decode cL_leads 99 = .ok (.aload_n 0, 1) := by decide +kernel
theorem dL_leads_100 : decode cL_leads 100 = .ok (.iload_n 1, 1) := by decide +kernel
theorem dL_leads_101 : decode cL_leads 101 = .ok (.iload 5, 2) := by decide +kernel
theorem dL_leads_103 : decode cL_leads 103 = .ok (.invokestatic 114, 3) := by decide +kernel
theorem dL_leads_106 : decode cL_leads 106 = .ok (.istore 7, 2) := by decide +kernel
theorem dL_leads_108 : decode cL_leads 108 = .ok (.iload 6, 2) := by decide +kernel
theorem dL_leads_110 : decode cL_leads 110 = .ok (.ifCond .eq 27, 3) := by decide +kernel
theorem dL_leads_113 : decode cL_leads 113 = .ok (.iload 7, 2) := by decide +kernel
theorem dL_leads_115 : decode cL_leads 115 = .ok (.ifCond .lt 22, 3) := by decide +kernel
theorem dL_leads_118 : decode cL_leads 118 = .ok (.iload 7, 2) := by decide +kernel
theorem dL_leads_120 : decode cL_leads 120 = .ok (.aload_n 0, 1) := by decide +kernel
theorem dL_leads_121 : decode cL_leads 121 = .ok (.iload_n 1, 1) := by decide +kernel
theorem dL_leads_122 : decode cL_leads 122 = .ok (.iload_n 2, 1) := by decide +kernel
theorem dL_leads_123 : decode cL_leads 123 = .ok (.iconst 1, 1) := by decide +kernel
theorem dL_leads_124 : decode cL_leads 124 = .ok (.isub, 1) := by decide +kernel
theorem dL_leads_125 : decode cL_leads 125 = .ok (.invokestatic 132, 3) := by decide +kernel
theorem dL_leads_128 : decode cL_leads 128 = .ok (.iadd, 1) := by decide +kernel
theorem dL_leads_129 : decode cL_leads 129 = .ok (.iload_n 3, 1) := by decide +kernel
theorem dL_leads_130 : decode cL_leads 130 = .ok (.if_icmp .ne 7, 3) := by decide +kernel
theorem dL_leads_133 : decode cL_leads 133 = .ok (.iconst 1, 1) := by decide +kernel
theorem dL_leads_134 : decode cL_leads 134 = .ok (.goto 5, 3) := by decide +kernel
theorem dL_leads_137 : decode cL_leads 137 = .ok (.bipush (-99), 2) := by decide +kernel
theorem dL_leads_139 : decode cL_leads 139 = .ok (.ireturn, 1) := by decide +kernel
theorem dL_told_0 : decode cL_told 0 = .ok (.new 140, 3) := by decide +kernel
theorem dL_told_3 : decode cL_told 3 = .ok (.dup, 1) := by decide +kernel
theorem dL_told_4 : decode cL_told 4 = .ok (.invokespecial 142, 3) := by decide +kernel
theorem dL_told_7 : decode cL_told 7 = .ok (.astore_n 1, 1) := by decide +kernel
theorem dL_told_8 : decode cL_told 8 = .ok (.aload_n 1, 1) := by decide +kernel
theorem dL_told_9 : decode cL_told 9 = .ok (.aload_n 0, 1) := by decide +kernel
theorem dL_told_10 : decode cL_told 10 = .ok (.invokevirtual 143, 3) := by decide +kernel
theorem dL_told_13 : decode cL_told 13 = .ok (.invokevirtual 147, 3) := by decide +kernel
theorem dL_told_16 : decode cL_told 16 = .ok (.bipush 47, 2) := by decide +kernel
theorem dL_told_18 : decode cL_told 18 = .ok (.invokevirtual 151, 3) := by decide +kernel
theorem dL_told_21 : decode cL_told 21 = .ok (.aload_n 0, 1) := by decide +kernel
theorem dL_told_22 : decode cL_told 22 = .ok (.invokevirtual 154, 3) := by decide +kernel
theorem dL_told_25 : decode cL_told 25 = .ok (.invokevirtual 147, 3) := by decide +kernel
theorem dL_told_28 : decode cL_told 28 = .ok (.bipush 47, 2) := by decide +kernel
theorem dL_told_30 : decode cL_told 30 = .ok (.invokevirtual 151, 3) := by decide +kernel
theorem dL_told_33 : decode cL_told 33 = .ok (.aload_n 0, 1) := by decide +kernel
theorem dL_told_34 : decode cL_told 34 = .ok (.invokevirtual 157, 3) := by decide +kernel
theorem dL_told_37 : decode cL_told 37 = .ok (.invokevirtual 147, 3) := by decide +kernel
theorem dL_told_40 : decode cL_told 40 = .ok (.bipush 47, 2) := by decide +kernel
theorem dL_told_42 : decode cL_told 42 = .ok (.invokevirtual 151, 3) := by decide +kernel
theorem dL_told_45 : decode cL_told 45 = .ok (.aload_n 0, 1) := by decide +kernel
theorem dL_told_46 : decode cL_told 46 = .ok (.invokevirtual 160, 3) := by decide +kernel
theorem dL_told_49 : decode cL_told 49 = .ok (.invokevirtual 164, 3) := by decide +kernel
theorem dL_told_52 : decode cL_told 52 = .ok (.bipush 47, 2) := by decide +kernel
theorem dL_told_54 : decode cL_told 54 = .ok (.invokevirtual 151, 3) := by decide +kernel
theorem dL_told_57 : decode cL_told 57 = .ok (.aload_n 0, 1) := by decide +kernel
theorem dL_told_58 : decode cL_told 58 = .ok (.invokestatic 167, 3) := by decide +kernel
theorem dL_told_61 : decode cL_told 61 = .ok (.invokevirtual 170, 3) := by decide +kernel
theorem dL_told_64 : decode cL_told 64 = .ok (.bipush 47, 2) := by decide +kernel
theorem dL_told_66 : decode cL_told 66 = .ok (.invokevirtual 151, 3) := by decide +kernel
theorem dL_told_69 : decode cL_told 69 = .ok (.aload_n 0, 1) := by decide +kernel
theorem dL_told_70 : decode cL_told 70 = .ok (.invokestatic 173, 3) := by decide +kernel
theorem dL_told_73 : decode cL_told 73 = .ok (.invokevirtual 176, 3) := by decide +kernel
theorem dL_told_76 : decode cL_told 76 = .ok (.pop, 1) := by decide +kernel
theorem dL_told_77 : decode cL_told 77 = .ok (.iconst 0, 1) := by decide +kernel
theorem dL_told_78 : decode cL_told 78 = .ok (.istore_n 2, 1) := by decide +kernel
theorem dL_told_79 : decode cL_told 79 = .ok (.iload_n 2, 1) := by decide +kernel
theorem dL_told_80 : decode cL_told 80 = .ok (.bipush 8, 2) := by decide +kernel
theorem dL_told_82 : decode cL_told 82 = .ok (.if_icmp .ge 78, 3) := by decide +kernel
theorem dL_told_85 : decode cL_told 85 = .ok (.aload_n 1, 1) := by decide +kernel
theorem dL_told_86 : decode cL_told 86 = .ok (.bipush 44, 2) := by decide +kernel
theorem dL_told_88 : decode cL_told 88 = .ok (.invokevirtual 151, 3) := by decide +kernel
theorem dL_told_91 : decode cL_told 91 = .ok (.aload_n 0, 1) := by decide +kernel
