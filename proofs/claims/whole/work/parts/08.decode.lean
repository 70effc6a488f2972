theorem d_LW_cell_0 : decode b_LW_cell 0 = .ok (.iload_n 1, 1) := by decide +kernel
theorem d_LW_cell_1 : decode b_LW_cell 1 = .ok (.aload_n 0, 1) := by decide +kernel
theorem d_LW_cell_2 : decode b_LW_cell 2 = .ok (.arraylength, 1) := by decide +kernel
theorem d_LW_cell_3 : decode b_LW_cell 3 = .ok (.if_icmp .ge 9, 3) := by decide +kernel
theorem d_LW_cell_6 : decode b_LW_cell 6 = .ok (.aload_n 0, 1) := by decide +kernel
theorem d_LW_cell_7 : decode b_LW_cell 7 = .ok (.iload_n 1, 1) := by decide +kernel
theorem d_LW_cell_8 : decode b_LW_cell 8 = .ok (.iaload, 1) := by decide +kernel
theorem d_LW_cell_9 : decode b_LW_cell 9 = .ok (.goto 4, 3) := by decide +kernel
theorem d_LW_cell_12 : decode b_LW_cell 12 = .ok (.iconst 0, 1) := by decide +kernel
theorem d_LW_cell_13 : decode b_LW_cell 13 = .ok (.ireturn, 1) := by decide +kernel
theorem d_LW_route_0 : decode b_LW_route 0 = .ok (.aload 4, 2) := by decide +kernel
theorem d_LW_route_2 : decode b_LW_route 2 = .ok (.iconst 0, 1) := by decide +kernel
theorem d_LW_route_3 : decode b_LW_route 3 = .ok (.aload_n 0, 1) := by decide +kernel
theorem d_LW_route_4 : decode b_LW_route 4 = .ok (.iload_n 1, 1) := by decide +kernel
theorem d_LW_route_5 : decode b_LW_route 5 = .ok (.iload_n 2, 1) := by decide +kernel
theorem d_LW_route_6 : decode b_LW_route 6 = .ok (.iload_n 3, 1) := by decide +kernel
theorem d_LW_route_7 : decode b_LW_route 7 = .ok (.invokevirtual 7, 3) := by decide +kernel
theorem d_LW_route_10 : decode b_LW_route 10 = .ok (.i2l, 1) := by decide +kernel
theorem d_LW_route_11 : decode b_LW_route 11 = .ok (.lastore, 1) := by decide +kernel
theorem d_LW_route_12 : decode b_LW_route 12 = .ok (.goto 11, 3) := by decide +kernel
theorem d_LW_route_15 : decode b_LW_route 15 = .ok (.astore 5, 2) := by decide +kernel
theorem d_LW_route_17 : decode b_LW_route 17 = .ok (.iconst 1, 1) := by decide +kernel
theorem d_LW_route_18 : decode b_LW_route 18 = .ok (.ireturn, 1) := by decide +kernel
theorem d_LW_route_19 : decode b_LW_route 19 = .ok (.astore 5, 2) := by decide +kernel
theorem d_LW_route_21 : decode b_LW_route 21 = .ok (.iconst 2, 1) := by decide +kernel
theorem d_LW_route_22 : decode b_LW_route 22 = .ok (.ireturn, 1) := by decide +kernel
theorem d_LW_route_23 : decode b_LW_route 23 = .ok (.iconst 0, 1) := by decide +kernel
theorem d_LW_route_24 : decode b_LW_route 24 = .ok (.ireturn, 1) := by decide +kernel
theorem d_LW_unroute_0 : decode b_LW_unroute 0 = .ok (.aload_n 3, 1) := by decide +kernel
theorem d_LW_unroute_1 : decode b_LW_unroute 1 = .ok (.iconst 0, 1) := by decide +kernel
theorem d_LW_unroute_2 : decode b_LW_unroute 2 = .ok (.aload_n 0, 1) := by decide +kernel
theorem d_LW_unroute_3 : decode b_LW_unroute 3 = .ok (.iload_n 1, 1) := by decide +kernel
theorem d_LW_unroute_4 : decode b_LW_unroute 4 = .ok (.iload_n 2, 1) := by decide +kernel
theorem d_LW_unroute_5 : decode b_LW_unroute 5 = .ok (.invokevirtual 17, 3) := by decide +kernel
theorem d_LW_unroute_8 : decode b_LW_unroute 8 = .ok (.i2l, 1) := by decide +kernel
theorem d_LW_unroute_9 : decode b_LW_unroute 9 = .ok (.lastore, 1) := by decide +kernel
theorem d_LW_unroute_10 : decode b_LW_unroute 10 = .ok (.goto 7, 3) := by decide +kernel
theorem d_LW_unroute_13 : decode b_LW_unroute 13 = .ok (.astore 4, 2) := by decide +kernel
theorem d_LW_unroute_15 : decode b_LW_unroute 15 = .ok (.iconst 1, 1) := by decide +kernel
theorem d_LW_unroute_16 : decode b_LW_unroute 16 = .ok (.ireturn, 1) := by decide +kernel
theorem d_LW_unroute_17 : decode b_LW_unroute 17 = .ok (.iconst 0, 1) := by decide +kernel
theorem d_LW_unroute_18 : decode b_LW_unroute 18 = .ok (.ireturn, 1) := by decide +kernel
theorem d_LW_account_0 : decode b_LW_account 0 = .ok (.aload_n 2, 1) := by decide +kernel
theorem d_LW_account_1 : decode b_LW_account 1 = .ok (.iconst 0, 1) := by decide +kernel
theorem d_LW_account_2 : decode b_LW_account 2 = .ok (.aload_n 0, 1) := by decide +kernel
theorem d_LW_account_3 : decode b_LW_account 3 = .ok (.iload_n 1, 1) := by decide +kernel
theorem d_LW_account_4 : decode b_LW_account 4 = .ok (.invokevirtual 21, 3) := by decide +kernel
theorem d_LW_account_7 : decode b_LW_account 7 = .ok (.i2l, 1) := by decide +kernel
theorem d_LW_account_8 : decode b_LW_account 8 = .ok (.lastore, 1) := by decide +kernel
theorem d_LW_account_9 : decode b_LW_account 9 = .ok (.goto 9, 3) := by decide +kernel
theorem d_LW_account_12 : decode b_LW_account 12 = .ok (.astore_n 3, 1) := by decide +kernel
theorem d_LW_account_13 : decode b_LW_account 13 = .ok (.iconst 1, 1) := by decide +kernel
theorem d_LW_account_14 : decode b_LW_account 14 = .ok (.ireturn, 1) := by decide +kernel
theorem d_LW_account_15 : decode b_LW_account 15 = .ok (.astore_n 3, 1) := by decide +kernel
theorem d_LW_account_16 : decode b_LW_account 16 = .ok (.iconst 2, 1) := by decide +kernel
theorem d_LW_account_17 : decode b_LW_account 17 = .ok (.ireturn, 1) := by decide +kernel
theorem d_LW_account_18 : decode b_LW_account 18 = .ok (.iconst 0, 1) := by decide +kernel
theorem d_LW_account_19 : decode b_LW_account 19 = .ok (.ireturn, 1) := by decide +kernel
theorem d_LW_card_0 : decode b_LW_card 0 = .ok (.aload 4, 2) := by decide +kernel
theorem d_LW_card_2 : decode b_LW_card 2 = .ok (.iconst 0, 1) := by decide +kernel
theorem d_LW_card_3 : decode b_LW_card 3 = .ok (.aload_n 0, 1) := by decide +kernel
theorem d_LW_card_4 : decode b_LW_card 4 = .ok (.lload_n 1, 1) := by decide +kernel
theorem d_LW_card_5 : decode b_LW_card 5 = .ok (.iload_n 3, 1) := by decide +kernel
theorem d_LW_card_6 : decode b_LW_card 6 = .ok (.invokevirtual 25, 3) := by decide +kernel
theorem d_LW_card_9 : decode b_LW_card 9 = .ok (.i2l, 1) := by decide +kernel
theorem d_LW_card_10 : decode b_LW_card 10 = .ok (.lastore, 1) := by decide +kernel
theorem d_LW_card_11 : decode b_LW_card 11 = .ok (.goto 11, 3) := by decide +kernel
theorem d_LW_card_14 : decode b_LW_card 14 = .ok (.astore 5, 2) := by decide +kernel
theorem d_LW_card_16 : decode b_LW_card 16 = .ok (.iconst 1, 1) := by decide +kernel
theorem d_LW_card_17 : decode b_LW_card 17 = .ok (.ireturn, 1) := by decide +kernel
theorem d_LW_card_18 : decode b_LW_card 18 = .ok (.astore 5, 2) := by decide +kernel
theorem d_LW_card_20 : decode b_LW_card 20 = .ok (.iconst 2, 1) := by decide +kernel
theorem d_LW_card_21 : decode b_LW_card 21 = .ok (.ireturn, 1) := by decide +kernel
theorem d_LW_card_22 : decode b_LW_card 22 = .ok (.iconst 0, 1) := by decide +kernel
theorem d_LW_card_23 : decode b_LW_card 23 = .ok (.ireturn, 1) := by decide +kernel
theorem d_LW_block_0 : decode b_LW_block 0 = .ok (.aload_n 3, 1) := by decide +kernel
theorem d_LW_block_1 : decode b_LW_block 1 = .ok (.iconst 0, 1) := by decide +kernel
theorem d_LW_block_2 : decode b_LW_block 2 = .ok (.aload_n 0, 1) := by decide +kernel
theorem d_LW_block_3 : decode b_LW_block 3 = .ok (.iload_n 1, 1) := by decide +kernel
theorem d_LW_block_4 : decode b_LW_block 4 = .ok (.iload_n 2, 1) := by decide +kernel
theorem d_LW_block_5 : decode b_LW_block 5 = .ok (.invokevirtual 29, 3) := by decide +kernel
theorem d_LW_block_8 : decode b_LW_block 8 = .ok (.ifCond .eq 7, 3) := by decide +kernel
theorem d_LW_block_11 : decode b_LW_block 11 = .ok (.lconst 1, 1) := by decide +kernel
theorem d_LW_block_12 : decode b_LW_block 12 = .ok (.goto 4, 3) := by decide +kernel
theorem d_LW_block_15 : decode b_LW_block 15 = .ok (.lconst 0, 1) := by decide +kernel
theorem d_LW_block_16 : decode b_LW_block 16 = .ok (.lastore, 1) := by decide +kernel
theorem d_LW_block_17 : decode b_LW_block 17 = .ok (.goto 7, 3) := by decide +kernel
theorem d_LW_block_20 : decode b_LW_block 20 = .ok (.astore 4, 2) := by decide +kernel
theorem d_LW_block_22 : decode b_LW_block 22 = .ok (.iconst 1, 1) := by decide +kernel
theorem d_LW_block_23 : decode b_LW_block 23 = .ok (.ireturn, 1) := by decide +kernel
theorem d_LW_block_24 : decode b_LW_block 24 = .ok (.iconst 0, 1) := by decide +kernel
theorem d_LW_block_25 : decode b_LW_block 25 = .ok (.ireturn, 1) := by decide +kernel
theorem d_LW_whose_0 : decode b_LW_whose 0 = .ok (.aload_n 3, 1) := by decide +kernel
theorem d_LW_whose_1 : decode b_LW_whose 1 = .ok (.iconst 0, 1) := by decide +kernel
theorem d_LW_whose_2 : decode b_LW_whose 2 = .ok (.aload_n 0, 1) := by decide +kernel
theorem d_LW_whose_3 : decode b_LW_whose 3 = .ok (.lload_n 1, 1) := by decide +kernel
theorem d_LW_whose_4 : decode b_LW_whose 4 = .ok (.invokevirtual 33, 3) := by decide +kernel
theorem d_LW_whose_7 : decode b_LW_whose 7 = .ok (.i2l, 1) := by decide +kernel
theorem d_LW_whose_8 : decode b_LW_whose 8 = .ok (.lastore, 1) := by decide +kernel
theorem d_LW_whose_9 : decode b_LW_whose 9 = .ok (.goto 7, 3) := by decide +kernel
theorem d_LW_whose_12 : decode b_LW_whose 12 = .ok (.astore 4, 2) := by decide +kernel
theorem d_LW_whose_14 : decode b_LW_whose 14 = .ok (.iconst 1, 1) := by decide +kernel
theorem d_LW_whose_15 : decode b_LW_whose 15 = .ok (.ireturn, 1) := by decide +kernel
theorem d_LW_whose_16 : decode b_LW_whose 16 = .ok (.iconst 0, 1) := by decide +kernel
theorem d_LW_whose_17 : decode b_LW_whose 17 = .ok (.ireturn, 1) := by decide +kernel
theorem d_LW_good_0 : decode b_LW_good 0 = .ok (.aload_n 3, 1) := by decide +kernel
theorem d_LW_good_1 : decode b_LW_good 1 = .ok (.iconst 0, 1) := by decide +kernel
theorem d_LW_good_2 : decode b_LW_good 2 = .ok (.aload_n 0, 1) := by decide +kernel
theorem d_LW_good_3 : decode b_LW_good 3 = .ok (.lload_n 1, 1) := by decide +kernel
theorem d_LW_good_4 : decode b_LW_good 4 = .ok (.invokevirtual 37, 3) := by decide +kernel
theorem d_LW_good_7 : decode b_LW_good 7 = .ok (.ifCond .eq 7, 3) := by decide +kernel
theorem d_LW_good_10 : decode b_LW_good 10 = .ok (.lconst 1, 1) := by decide +kernel
theorem d_LW_good_11 : decode b_LW_good 11 = .ok (.goto 4, 3) := by decide +kernel
theorem d_LW_good_14 : decode b_LW_good 14 = .ok (.lconst 0, 1) := by decide +kernel
theorem d_LW_good_15 : decode b_LW_good 15 = .ok (.lastore, 1) := by decide +kernel
theorem d_LW_good_16 : decode b_LW_good 16 = .ok (.goto 7, 3) := by decide +kernel
theorem d_LW_good_19 : decode b_LW_good 19 = .ok (.astore 4, 2) := by decide +kernel
theorem d_LW_good_21 : decode b_LW_good 21 = .ok (.iconst 1, 1) := by decide +kernel
theorem d_LW_good_22 : decode b_LW_good 22 = .ok (.ireturn, 1) := by decide +kernel
theorem d_LW_good_23 : decode b_LW_good 23 = .ok (.iconst 0, 1) := by decide +kernel
theorem d_LW_good_24 : decode b_LW_good 24 = .ok (.ireturn, 1) := by decide +kernel
theorem d_LW_digit_0 : decode b_LW_digit 0 = .ok (.aload_n 3, 1) := by decide +kernel
theorem d_LW_digit_1 : decode b_LW_digit 1 = .ok (.iconst 0, 1) := by decide +kernel
theorem d_LW_digit_2 : decode b_LW_digit 2 = .ok (.aload_n 0, 1) := by decide +kernel
theorem d_LW_digit_3 : decode b_LW_digit 3 = .ok (.lload_n 1, 1) := by decide +kernel
theorem d_LW_digit_4 : decode b_LW_digit 4 = .ok (.invokevirtual 41, 3) := by decide +kernel
theorem d_LW_digit_7 : decode b_LW_digit 7 = .ok (.i2l, 1) := by decide +kernel
theorem d_LW_digit_8 : decode b_LW_digit 8 = .ok (.lastore, 1) := by decide +kernel
theorem d_LW_digit_9 : decode b_LW_digit 9 = .ok (.goto 7, 3) := by decide +kernel
theorem d_LW_digit_12 : decode b_LW_digit 12 = .ok (.astore 4, 2) := by decide +kernel
theorem d_LW_digit_14 : decode b_LW_digit 14 = .ok (.iconst 1, 1) := by decide +kernel
theorem d_LW_digit_15 : decode b_LW_digit 15 = .ok (.ireturn, 1) := by decide +kernel
theorem d_LW_digit_16 : decode b_LW_digit 16 = .ok (.iconst 0, 1) := by decide +kernel
theorem d_LW_digit_17 : decode b_LW_digit 17 = .ok (.ireturn, 1) := by decide +kernel
theorem d_LW_use_0 : decode b_LW_use 0 = .ok (.aload 4, 2) := by decide +kernel
theorem d_LW_use_2 : decode b_LW_use 2 = .ok (.iconst 0, 1) := by decide +kernel
theorem d_LW_use_3 : decode b_LW_use 3 = .ok (.aload_n 0, 1) := by decide +kernel
theorem d_LW_use_4 : decode b_LW_use 4 = .ok (.lload_n 1, 1) := by decide +kernel
theorem d_LW_use_5 : decode b_LW_use 5 = .ok (.iload_n 3, 1) := by decide +kernel
theorem d_LW_use_6 : decode b_LW_use 6 = .ok (.invokevirtual 44, 3) := by decide +kernel
theorem d_LW_use_9 : decode b_LW_use 9 = .ok (.i2l, 1) := by decide +kernel
theorem d_LW_use_10 : decode b_LW_use 10 = .ok (.lastore, 1) := by decide +kernel
theorem d_LW_use_11 : decode b_LW_use 11 = .ok (.goto 7, 3) := by decide +kernel
theorem d_LW_use_14 : decode b_LW_use 14 = .ok (.astore 5, 2) := by decide +kernel
theorem d_LW_use_16 : decode b_LW_use 16 = .ok (.iconst 1, 1) := by decide +kernel
theorem d_LW_use_17 : decode b_LW_use 17 = .ok (.ireturn, 1) := by decide +kernel
theorem d_LW_use_18 : decode b_LW_use 18 = .ok (.iconst 0, 1) := by decide +kernel
theorem d_LW_use_19 : decode b_LW_use 19 = .ok (.ireturn, 1) := by decide +kernel
theorem d_LW_used_0 : decode b_LW_used 0 = .ok (.aload_n 3, 1) := by decide +kernel
theorem d_LW_used_1 : decode b_LW_used 1 = .ok (.iconst 0, 1) := by decide +kernel
theorem d_LW_used_2 : decode b_LW_used 2 = .ok (.aload_n 0, 1) := by decide +kernel
theorem d_LW_used_3 : decode b_LW_used 3 = .ok (.iload_n 1, 1) := by decide +kernel
theorem d_LW_used_4 : decode b_LW_used 4 = .ok (.iload_n 2, 1) := by decide +kernel
theorem d_LW_used_5 : decode b_LW_used 5 = .ok (.invokevirtual 47, 3) := by decide +kernel
theorem d_LW_used_8 : decode b_LW_used 8 = .ok (.i2l, 1) := by decide +kernel
theorem d_LW_used_9 : decode b_LW_used 9 = .ok (.lastore, 1) := by decide +kernel
theorem d_LW_used_10 : decode b_LW_used 10 = .ok (.goto 7, 3) := by decide +kernel
theorem d_LW_used_13 : decode b_LW_used 13 = .ok (.astore 4, 2) := by decide +kernel
theorem d_LW_used_15 : decode b_LW_used 15 = .ok (.iconst 1, 1) := by decide +kernel
theorem d_LW_used_16 : decode b_LW_used 16 = .ok (.ireturn, 1) := by decide +kernel
theorem d_LW_used_17 : decode b_LW_used 17 = .ok (.iconst 0, 1) := by decide +kernel
theorem d_LW_used_18 : decode b_LW_used 18 = .ok (.ireturn, 1) := by decide +kernel
theorem d_LW_told_0 : decode b_LW_told 0 = .ok (.aload_n 3, 1) := by decide +kernel
theorem d_LW_told_1 : decode b_LW_told 1 = .ok (.iconst 0, 1) := by decide +kernel
theorem d_LW_told_2 : decode b_LW_told 2 = .ok (.aload_n 0, 1) := by decide +kernel
theorem d_LW_told_3 : decode b_LW_told 3 = .ok (.iload_n 1, 1) := by decide +kernel
theorem d_LW_told_4 : decode b_LW_told 4 = .ok (.iload_n 2, 1) := by decide +kernel
theorem d_LW_told_5 : decode b_LW_told 5 = .ok (.invokevirtual 50, 3) := by decide +kernel
theorem d_LW_told_8 : decode b_LW_told 8 = .ok (.lastore, 1) := by decide +kernel
theorem d_LW_told_9 : decode b_LW_told 9 = .ok (.goto 7, 3) := by decide +kernel
theorem d_LW_told_12 : decode b_LW_told 12 = .ok (.astore 4, 2) := by decide +kernel
theorem d_LW_told_14 : decode b_LW_told 14 = .ok (.iconst 1, 1) := by decide +kernel
theorem d_LW_told_15 : decode b_LW_told 15 = .ok (.ireturn, 1) := by decide +kernel
theorem d_LW_told_16 : decode b_LW_told 16 = .ok (.iconst 0, 1) := by decide +kernel
theorem d_LW_told_17 : decode b_LW_told 17 = .ok (.ireturn, 1) := by decide +kernel
theorem d_LW_law_0 : decode code 0 = .ok (.new 8, 3) := by decide +kernel
theorem d_LW_law_3 : decode code 3 = .ok (.dup, 1) := by decide +kernel
theorem d_LW_law_4 : decode code 4 = .ok (.aload_n 0, 1) := by decide +kernel
theorem d_LW_law_5 : decode code 5 = .ok (.iconst 0, 1) := by decide +kernel
theorem d_LW_law_6 : decode code 6 = .ok (.invokestatic 54, 3) := by decide +kernel
theorem d_LW_law_9 : decode code 9 = .ok (.aload_n 0, 1) := by decide +kernel
theorem d_LW_law_10 : decode code 10 = .ok (.iconst 1, 1) := by decide +kernel
theorem d_LW_law_11 : decode code 11 = .ok (.invokestatic 54, 3) := by decide +kernel
theorem d_LW_law_14 : decode code 14 = .ok (.invokespecial 60, 3) := by decide +kernel
theorem d_LW_law_17 : decode code 17 = .ok (.astore_n 1, 1) := by decide +kernel
theorem d_LW_law_18 : decode code 18 = .ok (.new 63, 3) := by decide +kernel
theorem d_LW_law_21 : decode code 21 = .ok (.dup, 1) := by decide +kernel
theorem d_LW_law_22 : decode code 22 = .ok (.aload_n 0, 1) := by decide +kernel
theorem d_LW_law_23 : decode code 23 = .ok (.iconst 0, 1) := by decide +kernel
theorem d_LW_law_24 : decode code 24 = .ok (.invokestatic 54, 3) := by decide +kernel
theorem d_LW_law_27 : decode code 27 = .ok (.aload_n 0, 1) := by decide +kernel
theorem d_LW_law_28 : decode code 28 = .ok (.iconst 1, 1) := by decide +kernel
theorem d_LW_law_29 : decode code 29 = .ok (.invokestatic 54, 3) := by decide +kernel
theorem d_LW_law_32 : decode code 32 = .ok (.invokespecial 65, 3) := by decide +kernel
theorem d_LW_law_35 : decode code 35 = .ok (.astore_n 2, 1) := by decide +kernel
theorem d_LW_law_36 : decode code 36 = .ok (.iconst 1, 1) := by decide +kernel
theorem d_LW_law_37 : decode code 37 = .ok (.newarray .long, 2) := by decide +kernel
theorem d_LW_law_39 : decode code 39 = .ok (.astore_n 3, 1) := by decide +kernel
theorem d_LW_law_40 : decode code 40 = .ok (.iconst 2, 1) := by decide +kernel
theorem d_LW_law_41 : decode code 41 = .ok (.istore 4, 2) := by decide +kernel
theorem d_LW_law_43 : decode code 43 = .ok (.iload 4, 2) := by decide +kernel
theorem d_LW_law_45 : decode code 45 = .ok (.aload_n 0, 1) := by decide +kernel
theorem d_LW_law_46 : decode code 46 = .ok (.arraylength, 1) := by decide +kernel
theorem d_LW_law_47 : decode code 47 = .ok (.iconst 4, 1) := by decide +kernel
theorem d_LW_law_48 : decode code 48 = .ok (.isub, 1) := by decide +kernel
theorem d_LW_law_49 : decode code 49 = .ok (.if_icmp .gt 991, 3) := by decide +kernel
theorem d_LW_law_52 : decode code 52 = .ok (.aload_n 0, 1) := by decide +kernel
theorem d_LW_law_53 : decode code 53 = .ok (.iload 4, 2) := by decide +kernel
theorem d_LW_law_55 : decode code 55 = .ok (.iaload, 1) := by decide +kernel
theorem d_LW_law_56 : decode code 56 = .ok (.bipush 15, 2) := by decide +kernel
theorem d_LW_law_58 : decode code 58 = .ok (.iand, 1) := by decide +kernel
theorem d_LW_law_59 : decode code 59 = .ok (.tableswitch 975 0 11 #[61, 141, 209, 222, 278, 378, 469, 557, 652, 740, 840, 908], 61) := by decide +kernel
theorem d_LW_law_120 : decode code 120 = .ok (.aload_n 1, 1) := by decide +kernel
theorem d_LW_law_121 : decode code 121 = .ok (.aload_n 0, 1) := by decide +kernel
theorem d_LW_law_122 : decode code 122 = .ok (.iload 4, 2) := by decide +kernel
theorem d_LW_law_124 : decode code 124 = .ok (.iconst 1, 1) := by decide +kernel
theorem d_LW_law_125 : decode code 125 = .ok (.iadd, 1) := by decide +kernel
theorem d_LW_law_126 : decode code 126 = .ok (.iaload, 1) := by decide +kernel
theorem d_LW_law_127 : decode code 127 = .ok (.aload_n 0, 1) := by decide +kernel
theorem d_LW_law_128 : decode code 128 = .ok (.iload 4, 2) := by decide +kernel
theorem d_LW_law_130 : decode code 130 = .ok (.iconst 2, 1) := by decide +kernel
theorem d_LW_law_131 : decode code 131 = .ok (.iadd, 1) := by decide +kernel
theorem d_LW_law_132 : decode code 132 = .ok (.iaload, 1) := by decide +kernel
theorem d_LW_law_133 : decode code 133 = .ok (.aload_n 0, 1) := by decide +kernel
theorem d_LW_law_134 : decode code 134 = .ok (.iload 4, 2) := by decide +kernel
theorem d_LW_law_136 : decode code 136 = .ok (.iconst 3, 1) := by decide +kernel
theorem d_LW_law_137 : decode code 137 = .ok (.iadd, 1) := by decide +kernel
theorem d_LW_law_138 : decode code 138 = .ok (.iaload, 1) := by decide +kernel
theorem d_LW_law_139 : decode code 139 = .ok (.aload_n 3, 1) := by decide +kernel
theorem d_LW_law_140 : decode code 140 = .ok (.invokestatic 66, 3) := by decide +kernel
theorem d_LW_law_143 : decode code 143 = .ok (.istore 5, 2) := by decide +kernel
theorem d_LW_law_145 : decode code 145 = .ok (.aload_n 2, 1) := by decide +kernel
theorem d_LW_law_146 : decode code 146 = .ok (.aload_n 0, 1) := by decide +kernel
theorem d_LW_law_147 : decode code 147 = .ok (.iload 4, 2) := by decide +kernel
theorem d_LW_law_149 : decode code 149 = .ok (.iconst 1, 1) := by decide +kernel
theorem d_LW_law_150 : decode code 150 = .ok (.iadd, 1) := by decide +kernel
theorem d_LW_law_151 : decode code 151 = .ok (.iaload, 1) := by decide +kernel
theorem d_LW_law_152 : decode code 152 = .ok (.aload_n 0, 1) := by decide +kernel
theorem d_LW_law_153 : decode code 153 = .ok (.iload 4, 2) := by decide +kernel
theorem d_LW_law_155 : decode code 155 = .ok (.iconst 2, 1) := by decide +kernel
theorem d_LW_law_156 : decode code 156 = .ok (.iadd, 1) := by decide +kernel
theorem d_LW_law_157 : decode code 157 = .ok (.iaload, 1) := by decide +kernel
theorem d_LW_law_158 : decode code 158 = .ok (.aload_n 0, 1) := by decide +kernel
theorem d_LW_law_159 : decode code 159 = .ok (.iload 4, 2) := by decide +kernel
theorem d_LW_law_161 : decode code 161 = .ok (.iconst 3, 1) := by decide +kernel
theorem d_LW_law_162 : decode code 162 = .ok (.iadd, 1) := by decide +kernel
theorem d_LW_law_163 : decode code 163 = .ok (.iaload, 1) := by decide +kernel
theorem d_LW_law_164 : decode code 164 = .ok (.invokevirtual 69, 3) := by decide +kernel
theorem d_LW_law_167 : decode code 167 = .ok (.istore 6, 2) := by decide +kernel
theorem d_LW_law_169 : decode code 169 = .ok (.aload_n 2, 1) := by decide +kernel
theorem d_LW_law_170 : decode code 170 = .ok (.invokevirtual 70, 3) := by decide +kernel
theorem d_LW_law_173 : decode code 173 = .ok (.iload 5, 2) := by decide +kernel
theorem d_LW_law_175 : decode code 175 = .ok (.if_icmp .eq 5, 3) := by decide +kernel
theorem d_LW_law_178 : decode code 178 = .ok (.iconst 0, 1) := by decide +kernel
theorem d_LW_law_179 : decode code 179 = .ok (.ireturn, 1) := by decide +kernel
theorem d_LW_law_180 : decode code 180 = .ok (.iload 5, 2) := by decide +kernel
theorem d_LW_law_182 : decode code 182 = .ok (.ifCond .ne 15, 3) := by decide +kernel
theorem d_LW_law_185 : decode code 185 = .ok (.aload_n 3, 1) := by decide +kernel
theorem d_LW_law_186 : decode code 186 = .ok (.iconst 0, 1) := by decide +kernel
theorem d_LW_law_187 : decode code 187 = .ok (.laload, 1) := by decide +kernel
theorem d_LW_law_188 : decode code 188 = .ok (.iload 6, 2) := by decide +kernel
theorem d_LW_law_190 : decode code 190 = .ok (.i2l, 1) := by decide +kernel
theorem d_LW_law_191 : decode code 191 = .ok (.lcmp, 1) := by decide +kernel
theorem d_LW_law_192 : decode code 192 = .ok (.ifCond .eq 5, 3) := by decide +kernel
theorem d_LW_law_195 : decode code 195 = .ok (.iconst 0, 1) := by decide +kernel
theorem d_LW_law_196 : decode code 196 = .ok (.ireturn, 1) := by decide +kernel
theorem d_LW_law_197 : decode code 197 = .ok (.goto 837, 3) := by decide +kernel
theorem d_LW_law_200 : decode code 200 = .ok (.aload_n 1, 1) := by decide +kernel
theorem d_LW_law_201 : decode code 201 = .ok (.aload_n 0, 1) := by decide +kernel
theorem d_LW_law_202 : decode code 202 = .ok (.iload 4, 2) := by decide +kernel
theorem d_LW_law_204 : decode code 204 = .ok (.iconst 1, 1) := by decide +kernel
theorem d_LW_law_205 : decode code 205 = .ok (.iadd, 1) := by decide +kernel
theorem d_LW_law_206 : decode code 206 = .ok (.iaload, 1) := by decide +kernel
theorem d_LW_law_207 : decode code 207 = .ok (.aload_n 0, 1) := by decide +kernel
theorem d_LW_law_208 : decode code 208 = .ok (.iload 4, 2) := by decide +kernel
theorem d_LW_law_210 : decode code 210 = .ok (.iconst 2, 1) := by decide +kernel
theorem d_LW_law_211 : decode code 211 = .ok (.iadd, 1) := by decide +kernel
theorem d_LW_law_212 : decode code 212 = .ok (.iaload, 1) := by decide +kernel
theorem d_LW_law_213 : decode code 213 = .ok (.aload_n 3, 1) := by decide +kernel
theorem d_LW_law_214 : decode code 214 = .ok (.invokestatic 74, 3) := by decide +kernel
theorem d_LW_law_217 : decode code 217 = .ok (.istore 5, 2) := by decide +kernel
theorem d_LW_law_219 : decode code 219 = .ok (.aload_n 2, 1) := by decide +kernel
theorem d_LW_law_220 : decode code 220 = .ok (.aload_n 0, 1) := by decide +kernel
theorem d_LW_law_221 : decode code 221 = .ok (.iload 4, 2) := by decide +kernel
theorem d_LW_law_223 : decode code 223 = .ok (.iconst 1, 1) := by decide +kernel
theorem d_LW_law_224 : decode code 224 = .ok (.iadd, 1) := by decide +kernel
theorem d_LW_law_225 : decode code 225 = .ok (.iaload, 1) := by decide +kernel
theorem d_LW_law_226 : decode code 226 = .ok (.aload_n 0, 1) := by decide +kernel
theorem d_LW_law_227 : decode code 227 = .ok (.iload 4, 2) := by decide +kernel
theorem d_LW_law_229 : decode code 229 = .ok (.iconst 2, 1) := by decide +kernel
theorem d_LW_law_230 : decode code 230 = .ok (.iadd, 1) := by decide +kernel
theorem d_LW_law_231 : decode code 231 = .ok (.iaload, 1) := by decide +kernel
theorem d_LW_law_232 : decode code 232 = .ok (.invokevirtual 77, 3) := by decide +kernel
theorem d_LW_law_235 : decode code 235 = .ok (.istore 6, 2) := by decide +kernel
theorem d_LW_law_237 : decode code 237 = .ok (.aload_n 2, 1) := by decide +kernel
theorem d_LW_law_238 : decode code 238 = .ok (.invokevirtual 70, 3) := by decide +kernel
theorem d_LW_law_241 : decode code 241 = .ok (.iload 5, 2) := by decide +kernel
theorem d_LW_law_243 : decode code 243 = .ok (.if_icmp .eq 5, 3) := by decide +kernel
theorem d_LW_law_246 : decode code 246 = .ok (.iconst 0, 1) := by decide +kernel
theorem d_LW_law_247 : decode code 247 = .ok (.ireturn, 1) := by decide +kernel
theorem d_LW_law_248 : decode code 248 = .ok (.iload 5, 2) := by decide +kernel
theorem d_LW_law_250 : decode code 250 = .ok (.ifCond .ne 15, 3) := by decide +kernel
theorem d_LW_law_253 : decode code 253 = .ok (.aload_n 3, 1) := by decide +kernel
theorem d_LW_law_254 : decode code 254 = .ok (.iconst 0, 1) := by decide +kernel
theorem d_LW_law_255 : decode code 255 = .ok (.laload, 1) := by decide +kernel
theorem d_LW_law_256 : decode code 256 = .ok (.iload 6, 2) := by decide +kernel
theorem d_LW_law_258 : decode code 258 = .ok (.i2l, 1) := by decide +kernel
theorem d_LW_law_259 : decode code 259 = .ok (.lcmp, 1) := by decide +kernel
theorem d_LW_law_260 : decode code 260 = .ok (.ifCond .eq 5, 3) := by decide +kernel
theorem d_LW_law_263 : decode code 263 = .ok (.iconst 0, 1) := by decide +kernel
theorem d_LW_law_264 : decode code 264 = .ok (.ireturn, 1) := by decide +kernel
theorem d_LW_law_265 : decode code 265 = .ok (.goto 769, 3) := by decide +kernel
theorem d_LW_law_268 : decode code 268 = .ok (.aload_n 1, 1) := by decide +kernel
theorem d_LW_law_269 : decode code 269 = .ok (.invokevirtual 78, 3) := by decide +kernel
theorem d_LW_law_272 : decode code 272 = .ok (.aload_n 2, 1) := by decide +kernel
theorem d_LW_law_273 : decode code 273 = .ok (.invokevirtual 81, 3) := by decide +kernel
theorem d_LW_law_276 : decode code 276 = .ok (.if_icmp .eq 758, 3) := by decide +kernel
theorem d_LW_law_279 : decode code 279 = .ok (.iconst 0, 1) := by decide +kernel
theorem d_LW_law_280 : decode code 280 = .ok (.ireturn, 1) := by decide +kernel
theorem d_LW_law_281 : decode code 281 = .ok (.aload_n 1, 1) := by decide +kernel
theorem d_LW_law_282 : decode code 282 = .ok (.aload_n 0, 1) := by decide +kernel
theorem d_LW_law_283 : decode code 283 = .ok (.iload 4, 2) := by decide +kernel
theorem d_LW_law_285 : decode code 285 = .ok (.iconst 1, 1) := by decide +kernel
theorem d_LW_law_286 : decode code 286 = .ok (.iadd, 1) := by decide +kernel
theorem d_LW_law_287 : decode code 287 = .ok (.iaload, 1) := by decide +kernel
theorem d_LW_law_288 : decode code 288 = .ok (.aload_n 3, 1) := by decide +kernel
theorem d_LW_law_289 : decode code 289 = .ok (.invokestatic 82, 3) := by decide +kernel
theorem d_LW_law_292 : decode code 292 = .ok (.istore 5, 2) := by decide +kernel
theorem d_LW_law_294 : decode code 294 = .ok (.aload_n 2, 1) := by decide +kernel
theorem d_LW_law_295 : decode code 295 = .ok (.aload_n 0, 1) := by decide +kernel
theorem d_LW_law_296 : decode code 296 = .ok (.iload 4, 2) := by decide +kernel
theorem d_LW_law_298 : decode code 298 = .ok (.iconst 1, 1) := by decide +kernel
theorem d_LW_law_299 : decode code 299 = .ok (.iadd, 1) := by decide +kernel
theorem d_LW_law_300 : decode code 300 = .ok (.iaload, 1) := by decide +kernel
theorem d_LW_law_301 : decode code 301 = .ok (.invokevirtual 85, 3) := by decide +kernel
theorem d_LW_law_304 : decode code 304 = .ok (.istore 6, 2) := by decide +kernel
theorem d_LW_law_306 : decode code 306 = .ok (.aload_n 2, 1) := by decide +kernel
theorem d_LW_law_307 : decode code 307 = .ok (.invokevirtual 70, 3) := by decide +kernel
theorem d_LW_law_310 : decode code 310 = .ok (.iload 5, 2) := by decide +kernel
theorem d_LW_law_312 : decode code 312 = .ok (.if_icmp .eq 5, 3) := by decide +kernel
theorem d_LW_law_315 : decode code 315 = .ok (.iconst 0, 1) := by decide +kernel
theorem d_LW_law_316 : decode code 316 = .ok (.ireturn, 1) := by decide +kernel
theorem d_LW_law_317 : decode code 317 = .ok (.iload 5, 2) := by decide +kernel
theorem d_LW_law_319 : decode code 319 = .ok (.ifCond .ne 15, 3) := by decide +kernel
theorem d_LW_law_322 : decode code 322 = .ok (.aload_n 3, 1) := by decide +kernel
theorem d_LW_law_323 : decode code 323 = .ok (.iconst 0, 1) := by decide +kernel
theorem d_LW_law_324 : decode code 324 = .ok (.laload, 1) := by decide +kernel
theorem d_LW_law_325 : decode code 325 = .ok (.iload 6, 2) := by decide +kernel
theorem d_LW_law_327 : decode code 327 = .ok (.i2l, 1) := by decide +kernel
theorem d_LW_law_328 : decode code 328 = .ok (.lcmp, 1) := by decide +kernel
theorem d_LW_law_329 : decode code 329 = .ok (.ifCond .eq 5, 3) := by decide +kernel
theorem d_LW_law_332 : decode code 332 = .ok (.iconst 0, 1) := by decide +kernel
theorem d_LW_law_333 : decode code 333 = .ok (.ireturn, 1) := by decide +kernel
theorem d_LW_law_334 : decode code 334 = .ok (.goto 700, 3) := by decide +kernel
theorem d_LW_law_337 : decode code 337 = .ok (.aload_n 1, 1) := by decide +kernel
theorem d_LW_law_338 : decode code 338 = .ok (.aload_n 0, 1) := by decide +kernel
theorem d_LW_law_339 : decode code 339 = .ok (.iload 4, 2) := by decide +kernel
theorem d_LW_law_341 : decode code 341 = .ok (.iconst 1, 1) := by decide +kernel
theorem d_LW_law_342 : decode code 342 = .ok (.iadd, 1) := by decide +kernel
theorem d_LW_law_343 : decode code 343 = .ok (.iaload, 1) := by decide +kernel
theorem d_LW_law_344 : decode code 344 = .ok (.i2l, 1) := by decide +kernel
theorem d_LW_law_345 : decode code 345 = .ok (.bipush 32, 2) := by decide +kernel
theorem d_LW_law_347 : decode code 347 = .ok (.lshl, 1) := by decide +kernel
theorem d_LW_law_348 : decode code 348 = .ok (.aload_n 0, 1) := by decide +kernel
theorem d_LW_law_349 : decode code 349 = .ok (.iload 4, 2) := by decide +kernel
theorem d_LW_law_351 : decode code 351 = .ok (.iconst 2, 1) := by decide +kernel
theorem d_LW_law_352 : decode code 352 = .ok (.iadd, 1) := by decide +kernel
theorem d_LW_law_353 : decode code 353 = .ok (.iaload, 1) := by decide +kernel
theorem d_LW_law_354 : decode code 354 = .ok (.i2l, 1) := by decide +kernel
theorem d_LW_law_355 : decode code 355 = .ok (.ldc2_w 86, 3) := by decide +kernel
theorem d_LW_law_358 : decode code 358 = .ok (.land, 1) := by decide +kernel
theorem d_LW_law_359 : decode code 359 = .ok (.lor, 1) := by decide +kernel
theorem d_LW_law_360 : decode code 360 = .ok (.aload_n 0, 1) := by decide +kernel
theorem d_LW_law_361 : decode code 361 = .ok (.iload 4, 2) := by decide +kernel
theorem d_LW_law_363 : decode code 363 = .ok (.iconst 3, 1) := by decide +kernel
theorem d_LW_law_364 : decode code 364 = .ok (.iadd, 1) := by decide +kernel
theorem d_LW_law_365 : decode code 365 = .ok (.iaload, 1) := by decide +kernel
theorem d_LW_law_366 : decode code 366 = .ok (.aload_n 3, 1) := by decide +kernel
theorem d_LW_law_367 : decode code 367 = .ok (.invokestatic 88, 3) := by decide +kernel
theorem d_LW_law_370 : decode code 370 = .ok (.istore 5, 2) := by decide +kernel
theorem d_LW_law_372 : decode code 372 = .ok (.aload_n 2, 1) := by decide +kernel
theorem d_LW_law_373 : decode code 373 = .ok (.aload_n 0, 1) := by decide +kernel
theorem d_LW_law_374 : decode code 374 = .ok (.iload 4, 2) := by decide +kernel
theorem d_LW_law_376 : decode code 376 = .ok (.iconst 1, 1) := by decide +kernel
theorem d_LW_law_377 : decode code 377 = .ok (.iadd, 1) := by decide +kernel
theorem d_LW_law_378 : decode code 378 = .ok (.iaload, 1) := by decide +kernel
theorem d_LW_law_379 : decode code 379 = .ok (.i2l, 1) := by decide +kernel
theorem d_LW_law_380 : decode code 380 = .ok (.bipush 32, 2) := by decide +kernel
theorem d_LW_law_382 : decode code 382 = .ok (.lshl, 1) := by decide +kernel
theorem d_LW_law_383 : decode code 383 = .ok (.aload_n 0, 1) := by decide +kernel
theorem d_LW_law_384 : decode code 384 = .ok (.iload 4, 2) := by decide +kernel
theorem d_LW_law_386 : decode code 386 = .ok (.iconst 2, 1) := by decide +kernel
theorem d_LW_law_387 : decode code 387 = .ok (.iadd, 1) := by decide +kernel
theorem d_LW_law_388 : decode code 388 = .ok (.iaload, 1) := by decide +kernel
theorem d_LW_law_389 : decode code 389 = .ok (.i2l, 1) := by decide +kernel
theorem d_LW_law_390 : decode code 390 = .ok (.ldc2_w 86, 3) := by decide +kernel
theorem d_LW_law_393 : decode code 393 = .ok (.land, 1) := by decide +kernel
theorem d_LW_law_394 : decode code 394 = .ok (.lor, 1) := by decide +kernel
theorem d_LW_law_395 : decode code 395 = .ok (.aload_n 0, 1) := by decide +kernel
theorem d_LW_law_396 : decode code 396 = .ok (.iload 4, 2) := by decide +kernel
theorem d_LW_law_398 : decode code 398 = .ok (.iconst 3, 1) := by decide +kernel
theorem d_LW_law_399 : decode code 399 = .ok (.iadd, 1) := by decide +kernel
theorem d_LW_law_400 : decode code 400 = .ok (.iaload, 1) := by decide +kernel
theorem d_LW_law_401 : decode code 401 = .ok (.invokevirtual 91, 3) := by decide +kernel
theorem d_LW_law_404 : decode code 404 = .ok (.istore 6, 2) := by decide +kernel
theorem d_LW_law_406 : decode code 406 = .ok (.aload_n 2, 1) := by decide +kernel
theorem d_LW_law_407 : decode code 407 = .ok (.invokevirtual 70, 3) := by decide +kernel
theorem d_LW_law_410 : decode code 410 = .ok (.iload 5, 2) := by decide +kernel
theorem d_LW_law_412 : decode code 412 = .ok (.if_icmp .eq 5, 3) := by decide +kernel
theorem d_LW_law_415 : decode code 415 = .ok (.iconst 0, 1) := by decide +kernel
theorem d_LW_law_416 : decode code 416 = .ok (.ireturn, 1) := by decide +kernel
theorem d_LW_law_417 : decode code 417 = .ok (.iload 5, 2) := by decide +kernel
theorem d_LW_law_419 : decode code 419 = .ok (.ifCond .ne 15, 3) := by decide +kernel
theorem d_LW_law_422 : decode code 422 = .ok (.aload_n 3, 1) := by decide +kernel
theorem d_LW_law_423 : decode code 423 = .ok (.iconst 0, 1) := by decide +kernel
theorem d_LW_law_424 : decode code 424 = .ok (.laload, 1) := by decide +kernel
theorem d_LW_law_425 : decode code 425 = .ok (.iload 6, 2) := by decide +kernel
theorem d_LW_law_427 : decode code 427 = .ok (.i2l, 1) := by decide +kernel
theorem d_LW_law_428 : decode code 428 = .ok (.lcmp, 1) := by decide +kernel
theorem d_LW_law_429 : decode code 429 = .ok (.ifCond .eq 5, 3) := by decide +kernel
theorem d_LW_law_432 : decode code 432 = .ok (.iconst 0, 1) := by decide +kernel
theorem d_LW_law_433 : decode code 433 = .ok (.ireturn, 1) := by decide +kernel
theorem d_LW_law_434 : decode code 434 = .ok (.goto 600, 3) := by decide +kernel
theorem d_LW_law_437 : decode code 437 = .ok (.aload_n 1, 1) := by decide +kernel
theorem d_LW_law_438 : decode code 438 = .ok (.aload_n 0, 1) := by decide +kernel
theorem d_LW_law_439 : decode code 439 = .ok (.iload 4, 2) := by decide +kernel
theorem d_LW_law_441 : decode code 441 = .ok (.iconst 1, 1) := by decide +kernel
theorem d_LW_law_442 : decode code 442 = .ok (.iadd, 1) := by decide +kernel
theorem d_LW_law_443 : decode code 443 = .ok (.iaload, 1) := by decide +kernel
theorem d_LW_law_444 : decode code 444 = .ok (.aload_n 0, 1) := by decide +kernel
theorem d_LW_law_445 : decode code 445 = .ok (.iload 4, 2) := by decide +kernel
theorem d_LW_law_447 : decode code 447 = .ok (.iconst 2, 1) := by decide +kernel
theorem d_LW_law_448 : decode code 448 = .ok (.iadd, 1) := by decide +kernel
theorem d_LW_law_449 : decode code 449 = .ok (.iaload, 1) := by decide +kernel
theorem d_LW_law_450 : decode code 450 = .ok (.ifCond .eq 7, 3) := by decide +kernel
theorem d_LW_law_453 : decode code 453 = .ok (.iconst 1, 1) := by decide +kernel
theorem d_LW_law_454 : decode code 454 = .ok (.goto 4, 3) := by decide +kernel
theorem d_LW_law_457 : decode code 457 = .ok (.iconst 0, 1) := by decide +kernel
theorem d_LW_law_458 : decode code 458 = .ok (.aload_n 3, 1) := by decide +kernel
theorem d_LW_law_459 : decode code 459 = .ok (.invokestatic 92, 3) := by decide +kernel
theorem d_LW_law_462 : decode code 462 = .ok (.istore 5, 2) := by decide +kernel
theorem d_LW_law_464 : decode code 464 = .ok (.aload_n 2, 1) := by decide +kernel
theorem d_LW_law_465 : decode code 465 = .ok (.aload_n 0, 1) := by decide +kernel
theorem d_LW_law_466 : decode code 466 = .ok (.iload 4, 2) := by decide +kernel
theorem d_LW_law_468 : decode code 468 = .ok (.iconst 1, 1) := by decide +kernel
theorem d_LW_law_469 : decode code 469 = .ok (.iadd, 1) := by decide +kernel
theorem d_LW_law_470 : decode code 470 = .ok (.iaload, 1) := by decide +kernel
theorem d_LW_law_471 : decode code 471 = .ok (.aload_n 0, 1) := by decide +kernel
theorem d_LW_law_472 : decode code 472 = .ok (.iload 4, 2) := by decide +kernel
theorem d_LW_law_474 : decode code 474 = .ok (.iconst 2, 1) := by decide +kernel
theorem d_LW_law_475 : decode code 475 = .ok (.iadd, 1) := by decide +kernel
theorem d_LW_law_476 : decode code 476 = .ok (.iaload, 1) := by decide +kernel
theorem d_LW_law_477 : decode code 477 = .ok (.ifCond .eq 7, 3) := by decide +kernel
theorem d_LW_law_480 : decode code 480 = .ok (.iconst 1, 1) := by decide +kernel
theorem d_LW_law_481 : decode code 481 = .ok (.goto 4, 3) := by decide +kernel
theorem d_LW_law_484 : decode code 484 = .ok (.iconst 0, 1) := by decide +kernel
theorem d_LW_law_485 : decode code 485 = .ok (.invokevirtual 95, 3) := by decide +kernel
theorem d_LW_law_488 : decode code 488 = .ok (.istore 6, 2) := by decide +kernel
theorem d_LW_law_490 : decode code 490 = .ok (.aload_n 2, 1) := by decide +kernel
theorem d_LW_law_491 : decode code 491 = .ok (.invokevirtual 70, 3) := by decide +kernel
theorem d_LW_law_494 : decode code 494 = .ok (.iload 5, 2) := by decide +kernel
theorem d_LW_law_496 : decode code 496 = .ok (.if_icmp .eq 5, 3) := by decide +kernel
theorem d_LW_law_499 : decode code 499 = .ok (.iconst 0, 1) := by decide +kernel
theorem d_LW_law_500 : decode code 500 = .ok (.ireturn, 1) := by decide +kernel
theorem d_LW_law_501 : decode code 501 = .ok (.iload 5, 2) := by decide +kernel
theorem d_LW_law_503 : decode code 503 = .ok (.ifCond .ne 22, 3) := by decide +kernel
theorem d_LW_law_506 : decode code 506 = .ok (.aload_n 3, 1) := by decide +kernel
theorem d_LW_law_507 : decode code 507 = .ok (.iconst 0, 1) := by decide +kernel
theorem d_LW_law_508 : decode code 508 = .ok (.laload, 1) := by decide +kernel
theorem d_LW_law_509 : decode code 509 = .ok (.iload 6, 2) := by decide +kernel
theorem d_LW_law_511 : decode code 511 = .ok (.ifCond .eq 7, 3) := by decide +kernel
theorem d_LW_law_514 : decode code 514 = .ok (.lconst 1, 1) := by decide +kernel
theorem d_LW_law_515 : decode code 515 = .ok (.goto 4, 3) := by decide +kernel
theorem d_LW_law_518 : decode code 518 = .ok (.lconst 0, 1) := by decide +kernel
theorem d_LW_law_519 : decode code 519 = .ok (.lcmp, 1) := by decide +kernel
theorem d_LW_law_520 : decode code 520 = .ok (.ifCond .eq 5, 3) := by decide +kernel
theorem d_LW_law_523 : decode code 523 = .ok (.iconst 0, 1) := by decide +kernel
theorem d_LW_law_524 : decode code 524 = .ok (.ireturn, 1) := by decide +kernel
theorem d_LW_law_525 : decode code 525 = .ok (.goto 509, 3) := by decide +kernel
theorem d_LW_law_528 : decode code 528 = .ok (.aload_n 1, 1) := by decide +kernel
theorem d_LW_law_529 : decode code 529 = .ok (.aload_n 0, 1) := by decide +kernel
theorem d_LW_law_530 : decode code 530 = .ok (.iload 4, 2) := by decide +kernel
theorem d_LW_law_532 : decode code 532 = .ok (.iconst 1, 1) := by decide +kernel
theorem d_LW_law_533 : decode code 533 = .ok (.iadd, 1) := by decide +kernel
theorem d_LW_law_534 : decode code 534 = .ok (.iaload, 1) := by decide +kernel
theorem d_LW_law_535 : decode code 535 = .ok (.i2l, 1) := by decide +kernel
theorem d_LW_law_536 : decode code 536 = .ok (.bipush 32, 2) := by decide +kernel
theorem d_LW_law_538 : decode code 538 = .ok (.lshl, 1) := by decide +kernel
theorem d_LW_law_539 : decode code 539 = .ok (.aload_n 0, 1) := by decide +kernel
theorem d_LW_law_540 : decode code 540 = .ok (.iload 4, 2) := by decide +kernel
theorem d_LW_law_542 : decode code 542 = .ok (.iconst 2, 1) := by decide +kernel
theorem d_LW_law_543 : decode code 543 = .ok (.iadd, 1) := by decide +kernel
theorem d_LW_law_544 : decode code 544 = .ok (.iaload, 1) := by decide +kernel
theorem d_LW_law_545 : decode code 545 = .ok (.i2l, 1) := by decide +kernel
theorem d_LW_law_546 : decode code 546 = .ok (.ldc2_w 86, 3) := by decide +kernel
theorem d_LW_law_549 : decode code 549 = .ok (.land, 1) := by decide +kernel
theorem d_LW_law_550 : decode code 550 = .ok (.lor, 1) := by decide +kernel
theorem d_LW_law_551 : decode code 551 = .ok (.aload_n 3, 1) := by decide +kernel
theorem d_LW_law_552 : decode code 552 = .ok (.invokestatic 96, 3) := by decide +kernel
theorem d_LW_law_555 : decode code 555 = .ok (.istore 5, 2) := by decide +kernel
theorem d_LW_law_557 : decode code 557 = .ok (.aload_n 2, 1) := by decide +kernel
theorem d_LW_law_558 : decode code 558 = .ok (.aload_n 0, 1) := by decide +kernel
theorem d_LW_law_559 : decode code 559 = .ok (.iload 4, 2) := by decide +kernel
theorem d_LW_law_561 : decode code 561 = .ok (.iconst 1, 1) := by decide +kernel
theorem d_LW_law_562 : decode code 562 = .ok (.iadd, 1) := by decide +kernel
theorem d_LW_law_563 : decode code 563 = .ok (.iaload, 1) := by decide +kernel
theorem d_LW_law_564 : decode code 564 = .ok (.i2l, 1) := by decide +kernel
theorem d_LW_law_565 : decode code 565 = .ok (.bipush 32, 2) := by decide +kernel
theorem d_LW_law_567 : decode code 567 = .ok (.lshl, 1) := by decide +kernel
theorem d_LW_law_568 : decode code 568 = .ok (.aload_n 0, 1) := by decide +kernel
theorem d_LW_law_569 : decode code 569 = .ok (.iload 4, 2) := by decide +kernel
theorem d_LW_law_571 : decode code 571 = .ok (.iconst 2, 1) := by decide +kernel
theorem d_LW_law_572 : decode code 572 = .ok (.iadd, 1) := by decide +kernel
theorem d_LW_law_573 : decode code 573 = .ok (.iaload, 1) := by decide +kernel
theorem d_LW_law_574 : decode code 574 = .ok (.i2l, 1) := by decide +kernel
theorem d_LW_law_575 : decode code 575 = .ok (.ldc2_w 86, 3) := by decide +kernel
theorem d_LW_law_578 : decode code 578 = .ok (.land, 1) := by decide +kernel
theorem d_LW_law_579 : decode code 579 = .ok (.lor, 1) := by decide +kernel
theorem d_LW_law_580 : decode code 580 = .ok (.invokevirtual 99, 3) := by decide +kernel
theorem d_LW_law_583 : decode code 583 = .ok (.istore 6, 2) := by decide +kernel
theorem d_LW_law_585 : decode code 585 = .ok (.aload_n 2, 1) := by decide +kernel
theorem d_LW_law_586 : decode code 586 = .ok (.invokevirtual 70, 3) := by decide +kernel
theorem d_LW_law_589 : decode code 589 = .ok (.iload 5, 2) := by decide +kernel
theorem d_LW_law_591 : decode code 591 = .ok (.if_icmp .eq 5, 3) := by decide +kernel
theorem d_LW_law_594 : decode code 594 = .ok (.iconst 0, 1) := by decide +kernel
theorem d_LW_law_595 : decode code 595 = .ok (.ireturn, 1) := by decide +kernel
theorem d_LW_law_596 : decode code 596 = .ok (.iload 5, 2) := by decide +kernel
theorem d_LW_law_598 : decode code 598 = .ok (.ifCond .ne 15, 3) := by decide +kernel
theorem d_LW_law_601 : decode code 601 = .ok (.aload_n 3, 1) := by decide +kernel
theorem d_LW_law_602 : decode code 602 = .ok (.iconst 0, 1) := by decide +kernel
theorem d_LW_law_603 : decode code 603 = .ok (.laload, 1) := by decide +kernel
theorem d_LW_law_604 : decode code 604 = .ok (.iload 6, 2) := by decide +kernel
theorem d_LW_law_606 : decode code 606 = .ok (.i2l, 1) := by decide +kernel
theorem d_LW_law_607 : decode code 607 = .ok (.lcmp, 1) := by decide +kernel
theorem d_LW_law_608 : decode code 608 = .ok (.ifCond .eq 5, 3) := by decide +kernel
theorem d_LW_law_611 : decode code 611 = .ok (.iconst 0, 1) := by decide +kernel
theorem d_LW_law_612 : decode code 612 = .ok (.ireturn, 1) := by decide +kernel
theorem d_LW_law_613 : decode code 613 = .ok (.goto 421, 3) := by decide +kernel
theorem d_LW_law_616 : decode code 616 = .ok (.aload_n 1, 1) := by decide +kernel
theorem d_LW_law_617 : decode code 617 = .ok (.aload_n 0, 1) := by decide +kernel
theorem d_LW_law_618 : decode code 618 = .ok (.iload 4, 2) := by decide +kernel
theorem d_LW_law_620 : decode code 620 = .ok (.iconst 1, 1) := by decide +kernel
theorem d_LW_law_621 : decode code 621 = .ok (.iadd, 1) := by decide +kernel
theorem d_LW_law_622 : decode code 622 = .ok (.iaload, 1) := by decide +kernel
theorem d_LW_law_623 : decode code 623 = .ok (.i2l, 1) := by decide +kernel
theorem d_LW_law_624 : decode code 624 = .ok (.bipush 32, 2) := by decide +kernel
theorem d_LW_law_626 : decode code 626 = .ok (.lshl, 1) := by decide +kernel
theorem d_LW_law_627 : decode code 627 = .ok (.aload_n 0, 1) := by decide +kernel
theorem d_LW_law_628 : decode code 628 = .ok (.iload 4, 2) := by decide +kernel
theorem d_LW_law_630 : decode code 630 = .ok (.iconst 2, 1) := by decide +kernel
theorem d_LW_law_631 : decode code 631 = .ok (.iadd, 1) := by decide +kernel
theorem d_LW_law_632 : decode code 632 = .ok (.iaload, 1) := by decide +kernel
theorem d_LW_law_633 : decode code 633 = .ok (.i2l, 1) := by decide +kernel
theorem d_LW_law_634 : decode code 634 = .ok (.ldc2_w 86, 3) := by decide +kernel
theorem d_LW_law_637 : decode code 637 = .ok (.land, 1) := by decide +kernel
theorem d_LW_law_638 : decode code 638 = .ok (.lor, 1) := by decide +kernel
theorem d_LW_law_639 : decode code 639 = .ok (.aload_n 3, 1) := by decide +kernel
theorem d_LW_law_640 : decode code 640 = .ok (.invokestatic 100, 3) := by decide +kernel
theorem d_LW_law_643 : decode code 643 = .ok (.istore 5, 2) := by decide +kernel
theorem d_LW_law_645 : decode code 645 = .ok (.aload_n 2, 1) := by decide +kernel
theorem d_LW_law_646 : decode code 646 = .ok (.aload_n 0, 1) := by decide +kernel
theorem d_LW_law_647 : decode code 647 = .ok (.iload 4, 2) := by decide +kernel
theorem d_LW_law_649 : decode code 649 = .ok (.iconst 1, 1) := by decide +kernel
theorem d_LW_law_650 : decode code 650 = .ok (.iadd, 1) := by decide +kernel
theorem d_LW_law_651 : decode code 651 = .ok (.iaload, 1) := by decide +kernel
theorem d_LW_law_652 : decode code 652 = .ok (.i2l, 1) := by decide +kernel
theorem d_LW_law_653 : decode code 653 = .ok (.bipush 32, 2) := by decide +kernel
theorem d_LW_law_655 : decode code 655 = .ok (.lshl, 1) := by decide +kernel
theorem d_LW_law_656 : decode code 656 = .ok (.aload_n 0, 1) := by decide +kernel
theorem d_LW_law_657 : decode code 657 = .ok (.iload 4, 2) := by decide +kernel
theorem d_LW_law_659 : decode code 659 = .ok (.iconst 2, 1) := by decide +kernel
theorem d_LW_law_660 : decode code 660 = .ok (.iadd, 1) := by decide +kernel
theorem d_LW_law_661 : decode code 661 = .ok (.iaload, 1) := by decide +kernel
theorem d_LW_law_662 : decode code 662 = .ok (.i2l, 1) := by decide +kernel
theorem d_LW_law_663 : decode code 663 = .ok (.ldc2_w 86, 3) := by decide +kernel
theorem d_LW_law_666 : decode code 666 = .ok (.land, 1) := by decide +kernel
theorem d_LW_law_667 : decode code 667 = .ok (.lor, 1) := by decide +kernel
theorem d_LW_law_668 : decode code 668 = .ok (.invokevirtual 102, 3) := by decide +kernel
theorem d_LW_law_671 : decode code 671 = .ok (.istore 6, 2) := by decide +kernel
theorem d_LW_law_673 : decode code 673 = .ok (.aload_n 2, 1) := by decide +kernel
theorem d_LW_law_674 : decode code 674 = .ok (.invokevirtual 70, 3) := by decide +kernel
theorem d_LW_law_677 : decode code 677 = .ok (.iload 5, 2) := by decide +kernel
theorem d_LW_law_679 : decode code 679 = .ok (.if_icmp .eq 5, 3) := by decide +kernel
theorem d_LW_law_682 : decode code 682 = .ok (.iconst 0, 1) := by decide +kernel
theorem d_LW_law_683 : decode code 683 = .ok (.ireturn, 1) := by decide +kernel
theorem d_LW_law_684 : decode code 684 = .ok (.iload 5, 2) := by decide +kernel
theorem d_LW_law_686 : decode code 686 = .ok (.ifCond .ne 22, 3) := by decide +kernel
theorem d_LW_law_689 : decode code 689 = .ok (.aload_n 3, 1) := by decide +kernel
theorem d_LW_law_690 : decode code 690 = .ok (.iconst 0, 1) := by decide +kernel
theorem d_LW_law_691 : decode code 691 = .ok (.laload, 1) := by decide +kernel
theorem d_LW_law_692 : decode code 692 = .ok (.iload 6, 2) := by decide +kernel
theorem d_LW_law_694 : decode code 694 = .ok (.ifCond .eq 7, 3) := by decide +kernel
theorem d_LW_law_697 : decode code 697 = .ok (.lconst 1, 1) := by decide +kernel
theorem d_LW_law_698 : decode code 698 = .ok (.goto 4, 3) := by decide +kernel
theorem d_LW_law_701 : decode code 701 = .ok (.lconst 0, 1) := by decide +kernel
theorem d_LW_law_702 : decode code 702 = .ok (.lcmp, 1) := by decide +kernel
theorem d_LW_law_703 : decode code 703 = .ok (.ifCond .eq 5, 3) := by decide +kernel
theorem d_LW_law_706 : decode code 706 = .ok (.iconst 0, 1) := by decide +kernel
theorem d_LW_law_707 : decode code 707 = .ok (.ireturn, 1) := by decide +kernel
theorem d_LW_law_708 : decode code 708 = .ok (.goto 326, 3) := by decide +kernel
theorem d_LW_law_711 : decode code 711 = .ok (.aload_n 1, 1) := by decide +kernel
theorem d_LW_law_712 : decode code 712 = .ok (.aload_n 0, 1) := by decide +kernel
theorem d_LW_law_713 : decode code 713 = .ok (.iload 4, 2) := by decide +kernel
theorem d_LW_law_715 : decode code 715 = .ok (.iconst 1, 1) := by decide +kernel
theorem d_LW_law_716 : decode code 716 = .ok (.iadd, 1) := by decide +kernel
theorem d_LW_law_717 : decode code 717 = .ok (.iaload, 1) := by decide +kernel
theorem d_LW_law_718 : decode code 718 = .ok (.i2l, 1) := by decide +kernel
theorem d_LW_law_719 : decode code 719 = .ok (.bipush 32, 2) := by decide +kernel
theorem d_LW_law_721 : decode code 721 = .ok (.lshl, 1) := by decide +kernel
theorem d_LW_law_722 : decode code 722 = .ok (.aload_n 0, 1) := by decide +kernel
theorem d_LW_law_723 : decode code 723 = .ok (.iload 4, 2) := by decide +kernel
theorem d_LW_law_725 : decode code 725 = .ok (.iconst 2, 1) := by decide +kernel
theorem d_LW_law_726 : decode code 726 = .ok (.iadd, 1) := by decide +kernel
theorem d_LW_law_727 : decode code 727 = .ok (.iaload, 1) := by decide +kernel
theorem d_LW_law_728 : decode code 728 = .ok (.i2l, 1) := by decide +kernel
theorem d_LW_law_729 : decode code 729 = .ok (.ldc2_w 86, 3) := by decide +kernel
theorem d_LW_law_732 : decode code 732 = .ok (.land, 1) := by decide +kernel
theorem d_LW_law_733 : decode code 733 = .ok (.lor, 1) := by decide +kernel
theorem d_LW_law_734 : decode code 734 = .ok (.aload_n 3, 1) := by decide +kernel
theorem d_LW_law_735 : decode code 735 = .ok (.invokestatic 103, 3) := by decide +kernel
theorem d_LW_law_738 : decode code 738 = .ok (.istore 5, 2) := by decide +kernel
theorem d_LW_law_740 : decode code 740 = .ok (.aload_n 2, 1) := by decide +kernel
theorem d_LW_law_741 : decode code 741 = .ok (.aload_n 0, 1) := by decide +kernel
theorem d_LW_law_742 : decode code 742 = .ok (.iload 4, 2) := by decide +kernel
theorem d_LW_law_744 : decode code 744 = .ok (.iconst 1, 1) := by decide +kernel
theorem d_LW_law_745 : decode code 745 = .ok (.iadd, 1) := by decide +kernel
theorem d_LW_law_746 : decode code 746 = .ok (.iaload, 1) := by decide +kernel
theorem d_LW_law_747 : decode code 747 = .ok (.i2l, 1) := by decide +kernel
theorem d_LW_law_748 : decode code 748 = .ok (.bipush 32, 2) := by decide +kernel
theorem d_LW_law_750 : decode code 750 = .ok (.lshl, 1) := by decide +kernel
theorem d_LW_law_751 : decode code 751 = .ok (.aload_n 0, 1) := by decide +kernel
theorem d_LW_law_752 : decode code 752 = .ok (.iload 4, 2) := by decide +kernel
theorem d_LW_law_754 : decode code 754 = .ok (.iconst 2, 1) := by decide +kernel
theorem d_LW_law_755 : decode code 755 = .ok (.iadd, 1) := by decide +kernel
theorem d_LW_law_756 : decode code 756 = .ok (.iaload, 1) := by decide +kernel
theorem d_LW_law_757 : decode code 757 = .ok (.i2l, 1) := by decide +kernel
theorem d_LW_law_758 : decode code 758 = .ok (.ldc2_w 86, 3) := by decide +kernel
theorem d_LW_law_761 : decode code 761 = .ok (.land, 1) := by decide +kernel
theorem d_LW_law_762 : decode code 762 = .ok (.lor, 1) := by decide +kernel
theorem d_LW_law_763 : decode code 763 = .ok (.invokevirtual 105, 3) := by decide +kernel
theorem d_LW_law_766 : decode code 766 = .ok (.istore 6, 2) := by decide +kernel
theorem d_LW_law_768 : decode code 768 = .ok (.aload_n 2, 1) := by decide +kernel
theorem d_LW_law_769 : decode code 769 = .ok (.invokevirtual 70, 3) := by decide +kernel
theorem d_LW_law_772 : decode code 772 = .ok (.iload 5, 2) := by decide +kernel
theorem d_LW_law_774 : decode code 774 = .ok (.if_icmp .eq 5, 3) := by decide +kernel
theorem d_LW_law_777 : decode code 777 = .ok (.iconst 0, 1) := by decide +kernel
theorem d_LW_law_778 : decode code 778 = .ok (.ireturn, 1) := by decide +kernel
theorem d_LW_law_779 : decode code 779 = .ok (.iload 5, 2) := by decide +kernel
theorem d_LW_law_781 : decode code 781 = .ok (.ifCond .ne 15, 3) := by decide +kernel
theorem d_LW_law_784 : decode code 784 = .ok (.aload_n 3, 1) := by decide +kernel
theorem d_LW_law_785 : decode code 785 = .ok (.iconst 0, 1) := by decide +kernel
theorem d_LW_law_786 : decode code 786 = .ok (.laload, 1) := by decide +kernel
theorem d_LW_law_787 : decode code 787 = .ok (.iload 6, 2) := by decide +kernel
theorem d_LW_law_789 : decode code 789 = .ok (.i2l, 1) := by decide +kernel
theorem d_LW_law_790 : decode code 790 = .ok (.lcmp, 1) := by decide +kernel
theorem d_LW_law_791 : decode code 791 = .ok (.ifCond .eq 5, 3) := by decide +kernel
theorem d_LW_law_794 : decode code 794 = .ok (.iconst 0, 1) := by decide +kernel
theorem d_LW_law_795 : decode code 795 = .ok (.ireturn, 1) := by decide +kernel
theorem d_LW_law_796 : decode code 796 = .ok (.goto 238, 3) := by decide +kernel
theorem d_LW_law_799 : decode code 799 = .ok (.aload_n 1, 1) := by decide +kernel
theorem d_LW_law_800 : decode code 800 = .ok (.aload_n 0, 1) := by decide +kernel
theorem d_LW_law_801 : decode code 801 = .ok (.iload 4, 2) := by decide +kernel
theorem d_LW_law_803 : decode code 803 = .ok (.iconst 1, 1) := by decide +kernel
theorem d_LW_law_804 : decode code 804 = .ok (.iadd, 1) := by decide +kernel
theorem d_LW_law_805 : decode code 805 = .ok (.iaload, 1) := by decide +kernel
theorem d_LW_law_806 : decode code 806 = .ok (.i2l, 1) := by decide +kernel
theorem d_LW_law_807 : decode code 807 = .ok (.bipush 32, 2) := by decide +kernel
theorem d_LW_law_809 : decode code 809 = .ok (.lshl, 1) := by decide +kernel
theorem d_LW_law_810 : decode code 810 = .ok (.aload_n 0, 1) := by decide +kernel
theorem d_LW_law_811 : decode code 811 = .ok (.iload 4, 2) := by decide +kernel
theorem d_LW_law_813 : decode code 813 = .ok (.iconst 2, 1) := by decide +kernel
theorem d_LW_law_814 : decode code 814 = .ok (.iadd, 1) := by decide +kernel
theorem d_LW_law_815 : decode code 815 = .ok (.iaload, 1) := by decide +kernel
theorem d_LW_law_816 : decode code 816 = .ok (.i2l, 1) := by decide +kernel
theorem d_LW_law_817 : decode code 817 = .ok (.ldc2_w 86, 3) := by decide +kernel
theorem d_LW_law_820 : decode code 820 = .ok (.land, 1) := by decide +kernel
theorem d_LW_law_821 : decode code 821 = .ok (.lor, 1) := by decide +kernel
theorem d_LW_law_822 : decode code 822 = .ok (.aload_n 0, 1) := by decide +kernel
theorem d_LW_law_823 : decode code 823 = .ok (.iload 4, 2) := by decide +kernel
theorem d_LW_law_825 : decode code 825 = .ok (.iconst 3, 1) := by decide +kernel
theorem d_LW_law_826 : decode code 826 = .ok (.iadd, 1) := by decide +kernel
theorem d_LW_law_827 : decode code 827 = .ok (.iaload, 1) := by decide +kernel
theorem d_LW_law_828 : decode code 828 = .ok (.aload_n 3, 1) := by decide +kernel
theorem d_LW_law_829 : decode code 829 = .ok (.invokestatic 106, 3) := by decide +kernel
theorem d_LW_law_832 : decode code 832 = .ok (.istore 5, 2) := by decide +kernel
theorem d_LW_law_834 : decode code 834 = .ok (.aload_n 2, 1) := by decide +kernel
theorem d_LW_law_835 : decode code 835 = .ok (.aload_n 0, 1) := by decide +kernel
theorem d_LW_law_836 : decode code 836 = .ok (.iload 4, 2) := by decide +kernel
theorem d_LW_law_838 : decode code 838 = .ok (.iconst 1, 1) := by decide +kernel
theorem d_LW_law_839 : decode code 839 = .ok (.iadd, 1) := by decide +kernel
theorem d_LW_law_840 : decode code 840 = .ok (.iaload, 1) := by decide +kernel
theorem d_LW_law_841 : decode code 841 = .ok (.i2l, 1) := by decide +kernel
theorem d_LW_law_842 : decode code 842 = .ok (.bipush 32, 2) := by decide +kernel
theorem d_LW_law_844 : decode code 844 = .ok (.lshl, 1) := by decide +kernel
theorem d_LW_law_845 : decode code 845 = .ok (.aload_n 0, 1) := by decide +kernel
theorem d_LW_law_846 : decode code 846 = .ok (.iload 4, 2) := by decide +kernel
theorem d_LW_law_848 : decode code 848 = .ok (.iconst 2, 1) := by decide +kernel
theorem d_LW_law_849 : decode code 849 = .ok (.iadd, 1) := by decide +kernel
theorem d_LW_law_850 : decode code 850 = .ok (.iaload, 1) := by decide +kernel
theorem d_LW_law_851 : decode code 851 = .ok (.i2l, 1) := by decide +kernel
theorem d_LW_law_852 : decode code 852 = .ok (.ldc2_w 86, 3) := by decide +kernel
theorem d_LW_law_855 : decode code 855 = .ok (.land, 1) := by decide +kernel
theorem d_LW_law_856 : decode code 856 = .ok (.lor, 1) := by decide +kernel
theorem d_LW_law_857 : decode code 857 = .ok (.aload_n 0, 1) := by decide +kernel
theorem d_LW_law_858 : decode code 858 = .ok (.iload 4, 2) := by decide +kernel
theorem d_LW_law_860 : decode code 860 = .ok (.iconst 3, 1) := by decide +kernel
theorem d_LW_law_861 : decode code 861 = .ok (.iadd, 1) := by decide +kernel
theorem d_LW_law_862 : decode code 862 = .ok (.iaload, 1) := by decide +kernel
theorem d_LW_law_863 : decode code 863 = .ok (.invokevirtual 108, 3) := by decide +kernel
theorem d_LW_law_866 : decode code 866 = .ok (.istore 6, 2) := by decide +kernel
theorem d_LW_law_868 : decode code 868 = .ok (.aload_n 2, 1) := by decide +kernel
theorem d_LW_law_869 : decode code 869 = .ok (.invokevirtual 70, 3) := by decide +kernel
theorem d_LW_law_872 : decode code 872 = .ok (.iload 5, 2) := by decide +kernel
theorem d_LW_law_874 : decode code 874 = .ok (.if_icmp .eq 5, 3) := by decide +kernel
theorem d_LW_law_877 : decode code 877 = .ok (.iconst 0, 1) := by decide +kernel
theorem d_LW_law_878 : decode code 878 = .ok (.ireturn, 1) := by decide +kernel
theorem d_LW_law_879 : decode code 879 = .ok (.iload 5, 2) := by decide +kernel
theorem d_LW_law_881 : decode code 881 = .ok (.ifCond .ne 15, 3) := by decide +kernel
theorem d_LW_law_884 : decode code 884 = .ok (.aload_n 3, 1) := by decide +kernel
theorem d_LW_law_885 : decode code 885 = .ok (.iconst 0, 1) := by decide +kernel
theorem d_LW_law_886 : decode code 886 = .ok (.laload, 1) := by decide +kernel
theorem d_LW_law_887 : decode code 887 = .ok (.iload 6, 2) := by decide +kernel
theorem d_LW_law_889 : decode code 889 = .ok (.i2l, 1) := by decide +kernel
theorem d_LW_law_890 : decode code 890 = .ok (.lcmp, 1) := by decide +kernel
theorem d_LW_law_891 : decode code 891 = .ok (.ifCond .eq 5, 3) := by decide +kernel
theorem d_LW_law_894 : decode code 894 = .ok (.iconst 0, 1) := by decide +kernel
theorem d_LW_law_895 : decode code 895 = .ok (.ireturn, 1) := by decide +kernel
theorem d_LW_law_896 : decode code 896 = .ok (.goto 138, 3) := by decide +kernel
theorem d_LW_law_899 : decode code 899 = .ok (.aload_n 1, 1) := by decide +kernel
theorem d_LW_law_900 : decode code 900 = .ok (.aload_n 0, 1) := by decide +kernel
theorem d_LW_law_901 : decode code 901 = .ok (.iload 4, 2) := by decide +kernel
theorem d_LW_law_903 : decode code 903 = .ok (.iconst 1, 1) := by decide +kernel
theorem d_LW_law_904 : decode code 904 = .ok (.iadd, 1) := by decide +kernel
theorem d_LW_law_905 : decode code 905 = .ok (.iaload, 1) := by decide +kernel
theorem d_LW_law_906 : decode code 906 = .ok (.aload_n 0, 1) := by decide +kernel
theorem d_LW_law_907 : decode code 907 = .ok (.iload 4, 2) := by decide +kernel
theorem d_LW_law_909 : decode code 909 = .ok (.iconst 2, 1) := by decide +kernel
theorem d_LW_law_910 : decode code 910 = .ok (.iadd, 1) := by decide +kernel
theorem d_LW_law_911 : decode code 911 = .ok (.iaload, 1) := by decide +kernel
theorem d_LW_law_912 : decode code 912 = .ok (.aload_n 3, 1) := by decide +kernel
theorem d_LW_law_913 : decode code 913 = .ok (.invokestatic 109, 3) := by decide +kernel
theorem d_LW_law_916 : decode code 916 = .ok (.istore 5, 2) := by decide +kernel
theorem d_LW_law_918 : decode code 918 = .ok (.aload_n 2, 1) := by decide +kernel
theorem d_LW_law_919 : decode code 919 = .ok (.aload_n 0, 1) := by decide +kernel
theorem d_LW_law_920 : decode code 920 = .ok (.iload 4, 2) := by decide +kernel
theorem d_LW_law_922 : decode code 922 = .ok (.iconst 1, 1) := by decide +kernel
theorem d_LW_law_923 : decode code 923 = .ok (.iadd, 1) := by decide +kernel
theorem d_LW_law_924 : decode code 924 = .ok (.iaload, 1) := by decide +kernel
theorem d_LW_law_925 : decode code 925 = .ok (.aload_n 0, 1) := by decide +kernel
theorem d_LW_law_926 : decode code 926 = .ok (.iload 4, 2) := by decide +kernel
theorem d_LW_law_928 : decode code 928 = .ok (.iconst 2, 1) := by decide +kernel
theorem d_LW_law_929 : decode code 929 = .ok (.iadd, 1) := by decide +kernel
theorem d_LW_law_930 : decode code 930 = .ok (.iaload, 1) := by decide +kernel
theorem d_LW_law_931 : decode code 931 = .ok (.invokevirtual 111, 3) := by decide +kernel
theorem d_LW_law_934 : decode code 934 = .ok (.istore 6, 2) := by decide +kernel
theorem d_LW_law_936 : decode code 936 = .ok (.aload_n 2, 1) := by decide +kernel
theorem d_LW_law_937 : decode code 937 = .ok (.invokevirtual 70, 3) := by decide +kernel
theorem d_LW_law_940 : decode code 940 = .ok (.iload 5, 2) := by decide +kernel
theorem d_LW_law_942 : decode code 942 = .ok (.if_icmp .eq 5, 3) := by decide +kernel
theorem d_LW_law_945 : decode code 945 = .ok (.iconst 0, 1) := by decide +kernel
theorem d_LW_law_946 : decode code 946 = .ok (.ireturn, 1) := by decide +kernel
theorem d_LW_law_947 : decode code 947 = .ok (.iload 5, 2) := by decide +kernel
theorem d_LW_law_949 : decode code 949 = .ok (.ifCond .ne 15, 3) := by decide +kernel
theorem d_LW_law_952 : decode code 952 = .ok (.aload_n 3, 1) := by decide +kernel
theorem d_LW_law_953 : decode code 953 = .ok (.iconst 0, 1) := by decide +kernel
theorem d_LW_law_954 : decode code 954 = .ok (.laload, 1) := by decide +kernel
theorem d_LW_law_955 : decode code 955 = .ok (.iload 6, 2) := by decide +kernel
theorem d_LW_law_957 : decode code 957 = .ok (.i2l, 1) := by decide +kernel
theorem d_LW_law_958 : decode code 958 = .ok (.lcmp, 1) := by decide +kernel
theorem d_LW_law_959 : decode code 959 = .ok (.ifCond .eq 5, 3) := by decide +kernel
theorem d_LW_law_962 : decode code 962 = .ok (.iconst 0, 1) := by decide +kernel
theorem d_LW_law_963 : decode code 963 = .ok (.ireturn, 1) := by decide +kernel
theorem d_LW_law_964 : decode code 964 = .ok (.goto 70, 3) := by decide +kernel
theorem d_LW_law_967 : decode code 967 = .ok (.aload_n 1, 1) := by decide +kernel
theorem d_LW_law_968 : decode code 968 = .ok (.aload_n 0, 1) := by decide +kernel
theorem d_LW_law_969 : decode code 969 = .ok (.iload 4, 2) := by decide +kernel
theorem d_LW_law_971 : decode code 971 = .ok (.iconst 1, 1) := by decide +kernel
theorem d_LW_law_972 : decode code 972 = .ok (.iadd, 1) := by decide +kernel
theorem d_LW_law_973 : decode code 973 = .ok (.iaload, 1) := by decide +kernel
theorem d_LW_law_974 : decode code 974 = .ok (.aload_n 0, 1) := by decide +kernel
theorem d_LW_law_975 : decode code 975 = .ok (.iload 4, 2) := by decide +kernel
theorem d_LW_law_977 : decode code 977 = .ok (.iconst 2, 1) := by decide +kernel
theorem d_LW_law_978 : decode code 978 = .ok (.iadd, 1) := by decide +kernel
theorem d_LW_law_979 : decode code 979 = .ok (.iaload, 1) := by decide +kernel
theorem d_LW_law_980 : decode code 980 = .ok (.aload_n 3, 1) := by decide +kernel
theorem d_LW_law_981 : decode code 981 = .ok (.invokestatic 112, 3) := by decide +kernel
theorem d_LW_law_984 : decode code 984 = .ok (.istore 5, 2) := by decide +kernel
theorem d_LW_law_986 : decode code 986 = .ok (.aload_n 2, 1) := by decide +kernel
theorem d_LW_law_987 : decode code 987 = .ok (.aload_n 0, 1) := by decide +kernel
theorem d_LW_law_988 : decode code 988 = .ok (.iload 4, 2) := by decide +kernel
theorem d_LW_law_990 : decode code 990 = .ok (.iconst 1, 1) := by decide +kernel
theorem d_LW_law_991 : decode code 991 = .ok (.iadd, 1) := by decide +kernel
theorem d_LW_law_992 : decode code 992 = .ok (.iaload, 1) := by decide +kernel
theorem d_LW_law_993 : decode code 993 = .ok (.aload_n 0, 1) := by decide +kernel
theorem d_LW_law_994 : decode code 994 = .ok (.iload 4, 2) := by decide +kernel
theorem d_LW_law_996 : decode code 996 = .ok (.iconst 2, 1) := by decide +kernel
theorem d_LW_law_997 : decode code 997 = .ok (.iadd, 1) := by decide +kernel
theorem d_LW_law_998 : decode code 998 = .ok (.iaload, 1) := by decide +kernel
theorem d_LW_law_999 : decode code 999 = .ok (.invokevirtual 114, 3) := by decide +kernel
theorem d_LW_law_1002 : decode code 1002 = .ok (.lstore 6, 2) := by decide +kernel
theorem d_LW_law_1004 : decode code 1004 = .ok (.aload_n 2, 1) := by decide +kernel
theorem d_LW_law_1005 : decode code 1005 = .ok (.invokevirtual 70, 3) := by decide +kernel
theorem d_LW_law_1008 : decode code 1008 = .ok (.iload 5, 2) := by decide +kernel
theorem d_LW_law_1010 : decode code 1010 = .ok (.if_icmp .eq 5, 3) := by decide +kernel
theorem d_LW_law_1013 : decode code 1013 = .ok (.iconst 0, 1) := by decide +kernel
theorem d_LW_law_1014 : decode code 1014 = .ok (.ireturn, 1) := by decide +kernel
theorem d_LW_law_1015 : decode code 1015 = .ok (.iload 5, 2) := by decide +kernel
theorem d_LW_law_1017 : decode code 1017 = .ok (.ifCond .ne 14, 3) := by decide +kernel
theorem d_LW_law_1020 : decode code 1020 = .ok (.aload_n 3, 1) := by decide +kernel
theorem d_LW_law_1021 : decode code 1021 = .ok (.iconst 0, 1) := by decide +kernel
theorem d_LW_law_1022 : decode code 1022 = .ok (.laload, 1) := by decide +kernel
theorem d_LW_law_1023 : decode code 1023 = .ok (.lload 6, 2) := by decide +kernel
theorem d_LW_law_1025 : decode code 1025 = .ok (.lcmp, 1) := by decide +kernel
theorem d_LW_law_1026 : decode code 1026 = .ok (.ifCond .eq 5, 3) := by decide +kernel
theorem d_LW_law_1029 : decode code 1029 = .ok (.iconst 0, 1) := by decide +kernel
theorem d_LW_law_1030 : decode code 1030 = .ok (.ireturn, 1) := by decide +kernel
theorem d_LW_law_1031 : decode code 1031 = .ok (.goto 3, 3) := by decide +kernel
theorem d_LW_law_1034 : decode code 1034 = .ok (.iinc 4 4, 3) := by decide +kernel
theorem d_LW_law_1037 : decode code 1037 = .ok (.goto (-994), 3) := by decide +kernel
theorem d_LW_law_1040 : decode code 1040 = .ok (.iconst 1, 1) := by decide +kernel
theorem d_LW_law_1041 : decode code 1041 = .ok (.ireturn, 1) := by decide +kernel
