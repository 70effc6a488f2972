theorem d_AT_init_0 : decode b_AT_init 0 = .ok (.aload_n 0, 1) := by decide +kernel
theorem d_AT_init_1 : decode b_AT_init 1 = .ok (.invokespecial 3, 3) := by decide +kernel
theorem d_AT_init_4 : decode b_AT_init 4 = .ok (.aload_n 0, 1) := by decide +kernel
theorem d_AT_init_5 : decode b_AT_init 5 = .ok (.bipush 64, 2) := by decide +kernel
theorem d_AT_init_7 : decode b_AT_init 7 = .ok (.newarray .int, 2) := by decide +kernel
theorem d_AT_init_9 : decode b_AT_init 9 = .ok (.putfield 11, 3) := by decide +kernel
theorem d_AT_init_12 : decode b_AT_init 12 = .ok (.aload_n 0, 1) := by decide +kernel
theorem d_AT_init_13 : decode b_AT_init 13 = .ok (.sipush 512, 3) := by decide +kernel
theorem d_AT_init_16 : decode b_AT_init 16 = .ok (.newarray .int, 2) := by decide +kernel
theorem d_AT_init_18 : decode b_AT_init 18 = .ok (.putfield 15, 3) := by decide +kernel
theorem d_AT_init_21 : decode b_AT_init 21 = .ok (.aload_n 0, 1) := by decide +kernel
theorem d_AT_init_22 : decode b_AT_init 22 = .ok (.bipush 64, 2) := by decide +kernel
theorem d_AT_init_24 : decode b_AT_init 24 = .ok (.newarray .int, 2) := by decide +kernel
theorem d_AT_init_26 : decode b_AT_init 26 = .ok (.putfield 18, 3) := by decide +kernel
theorem d_AT_init_29 : decode b_AT_init 29 = .ok (.aload_n 0, 1) := by decide +kernel
theorem d_AT_init_30 : decode b_AT_init 30 = .ok (.iconst 0, 1) := by decide +kernel
theorem d_AT_init_31 : decode b_AT_init 31 = .ok (.putfield 21, 3) := by decide +kernel
theorem d_AT_init_34 : decode b_AT_init 34 = .ok (.aload_n 0, 1) := by decide +kernel
theorem d_AT_init_35 : decode b_AT_init 35 = .ok (.getfield 15, 3) := by decide +kernel
theorem d_AT_init_38 : decode b_AT_init 38 = .ok (.sipush (-5001), 3) := by decide +kernel
theorem d_AT_init_41 : decode b_AT_init 41 = .ok (.invokestatic 25, 3) := by decide +kernel
theorem d_AT_init_44 : decode b_AT_init 44 = .ok (.return_, 1) := by decide +kernel
theorem d_AT_isFull_0 : decode b_AT_isFull 0 = .ok (.aload_n 0, 1) := by decide +kernel
theorem d_AT_isFull_1 : decode b_AT_isFull 1 = .ok (.getfield 21, 3) := by decide +kernel
theorem d_AT_isFull_4 : decode b_AT_isFull 4 = .ok (.bipush 64, 2) := by decide +kernel
theorem d_AT_isFull_6 : decode b_AT_isFull 6 = .ok (.if_icmp .lt 7, 3) := by decide +kernel
theorem d_AT_isFull_9 : decode b_AT_isFull 9 = .ok (.iconst 1, 1) := by decide +kernel
theorem d_AT_isFull_10 : decode b_AT_isFull 10 = .ok (.goto 4, 3) := by decide +kernel
theorem d_AT_isFull_13 : decode b_AT_isFull 13 = .ok (.iconst 0, 1) := by decide +kernel
theorem d_AT_isFull_14 : decode b_AT_isFull 14 = .ok (.ireturn, 1) := by decide +kernel
theorem d_AT_has_0 : decode b_AT_has 0 = .ok (.iload_n 1, 1) := by decide +kernel
theorem d_AT_has_1 : decode b_AT_has 1 = .ok (.ifCond .lt 21, 3) := by decide +kernel
theorem d_AT_has_4 : decode b_AT_has 4 = .ok (.iload_n 1, 1) := by decide +kernel
theorem d_AT_has_5 : decode b_AT_has 5 = .ok (.aload_n 0, 1) := by decide +kernel
theorem d_AT_has_6 : decode b_AT_has 6 = .ok (.getfield 21, 3) := by decide +kernel
theorem d_AT_has_9 : decode b_AT_has 9 = .ok (.if_icmp .ge 13, 3) := by decide +kernel
theorem d_AT_has_12 : decode b_AT_has 12 = .ok (.iload_n 1, 1) := by decide +kernel
theorem d_AT_has_13 : decode b_AT_has 13 = .ok (.bipush 64, 2) := by decide +kernel
theorem d_AT_has_15 : decode b_AT_has 15 = .ok (.if_icmp .ge 7, 3) := by decide +kernel
theorem d_AT_has_18 : decode b_AT_has 18 = .ok (.iconst 1, 1) := by decide +kernel
theorem d_AT_has_19 : decode b_AT_has 19 = .ok (.goto 4, 3) := by decide +kernel
theorem d_AT_has_22 : decode b_AT_has 22 = .ok (.iconst 0, 1) := by decide +kernel
theorem d_AT_has_23 : decode b_AT_has 23 = .ok (.ireturn, 1) := by decide +kernel
theorem d_AT_add_0 : decode b_AT_add 0 = .ok (.aload_n 0, 1) := by decide +kernel
theorem d_AT_add_1 : decode b_AT_add 1 = .ok (.getfield 21, 3) := by decide +kernel
theorem d_AT_add_4 : decode b_AT_add 4 = .ok (.ifCond .lt 12, 3) := by decide +kernel
theorem d_AT_add_7 : decode b_AT_add 7 = .ok (.aload_n 0, 1) := by decide +kernel
theorem d_AT_add_8 : decode b_AT_add 8 = .ok (.getfield 21, 3) := by decide +kernel
theorem d_AT_add_11 : decode b_AT_add 11 = .ok (.bipush 64, 2) := by decide +kernel
theorem d_AT_add_13 : decode b_AT_add 13 = .ok (.if_icmp .lt 5, 3) := by decide +kernel
theorem d_AT_add_16 : decode b_AT_add 16 = .ok (.iconst (-1), 1) := by decide +kernel
theorem d_AT_add_17 : decode b_AT_add 17 = .ok (.ireturn, 1) := by decide +kernel
theorem d_AT_add_18 : decode b_AT_add 18 = .ok (.aload_n 0, 1) := by decide +kernel
theorem d_AT_add_19 : decode b_AT_add 19 = .ok (.getfield 11, 3) := by decide +kernel
theorem d_AT_add_22 : decode b_AT_add 22 = .ok (.aload_n 0, 1) := by decide +kernel
theorem d_AT_add_23 : decode b_AT_add 23 = .ok (.getfield 21, 3) := by decide +kernel
theorem d_AT_add_26 : decode b_AT_add 26 = .ok (.iload_n 1, 1) := by decide +kernel
theorem d_AT_add_27 : decode b_AT_add 27 = .ok (.iastore, 1) := by decide +kernel
theorem d_AT_add_28 : decode b_AT_add 28 = .ok (.aload_n 0, 1) := by decide +kernel
theorem d_AT_add_29 : decode b_AT_add 29 = .ok (.dup, 1) := by decide +kernel
theorem d_AT_add_30 : decode b_AT_add 30 = .ok (.getfield 21, 3) := by decide +kernel
theorem d_AT_add_33 : decode b_AT_add 33 = .ok (.iconst 1, 1) := by decide +kernel
theorem d_AT_add_34 : decode b_AT_add 34 = .ok (.iadd, 1) := by decide +kernel
theorem d_AT_add_35 : decode b_AT_add 35 = .ok (.putfield 21, 3) := by decide +kernel
theorem d_AT_add_38 : decode b_AT_add 38 = .ok (.aload_n 0, 1) := by decide +kernel
theorem d_AT_add_39 : decode b_AT_add 39 = .ok (.getfield 21, 3) := by decide +kernel
theorem d_AT_add_42 : decode b_AT_add 42 = .ok (.iconst 1, 1) := by decide +kernel
theorem d_AT_add_43 : decode b_AT_add 43 = .ok (.isub, 1) := by decide +kernel
theorem d_AT_add_44 : decode b_AT_add 44 = .ok (.ireturn, 1) := by decide +kernel
theorem d_AT_issuerOf_0 : decode b_AT_issuerOf 0 = .ok (.aload_n 0, 1) := by decide +kernel
theorem d_AT_issuerOf_1 : decode b_AT_issuerOf 1 = .ok (.iload_n 1, 1) := by decide +kernel
theorem d_AT_issuerOf_2 : decode b_AT_issuerOf 2 = .ok (.invokevirtual 31, 3) := by decide +kernel
theorem d_AT_issuerOf_5 : decode b_AT_issuerOf 5 = .ok (.ifCond .eq 12, 3) := by decide +kernel
theorem d_AT_issuerOf_8 : decode b_AT_issuerOf 8 = .ok (.aload_n 0, 1) := by decide +kernel
theorem d_AT_issuerOf_9 : decode b_AT_issuerOf 9 = .ok (.getfield 11, 3) := by decide +kernel
theorem d_AT_issuerOf_12 : decode b_AT_issuerOf 12 = .ok (.iload_n 1, 1) := by decide +kernel
theorem d_AT_issuerOf_13 : decode b_AT_issuerOf 13 = .ok (.iaload, 1) := by decide +kernel
theorem d_AT_issuerOf_14 : decode b_AT_issuerOf 14 = .ok (.goto 4, 3) := by decide +kernel
theorem d_AT_issuerOf_17 : decode b_AT_issuerOf 17 = .ok (.iconst (-1), 1) := by decide +kernel
theorem d_AT_issuerOf_18 : decode b_AT_issuerOf 18 = .ok (.ireturn, 1) := by decide +kernel
theorem d_AT_usesSince_0 : decode b_AT_usesSince 0 = .ok (.aload_n 0, 1) := by decide +kernel
theorem d_AT_usesSince_1 : decode b_AT_usesSince 1 = .ok (.iload_n 1, 1) := by decide +kernel
theorem d_AT_usesSince_2 : decode b_AT_usesSince 2 = .ok (.invokevirtual 31, 3) := by decide +kernel
theorem d_AT_usesSince_5 : decode b_AT_usesSince 5 = .ok (.ifCond .ne 5, 3) := by decide +kernel
theorem d_AT_usesSince_8 : decode b_AT_usesSince 8 = .ok (.iconst 0, 1) := by decide +kernel
theorem d_AT_usesSince_9 : decode b_AT_usesSince 9 = .ok (.ireturn, 1) := by decide +kernel
theorem d_AT_usesSince_10 : decode b_AT_usesSince 10 = .ok (.iconst 0, 1) := by decide +kernel
theorem d_AT_usesSince_11 : decode b_AT_usesSince 11 = .ok (.istore_n 3, 1) := by decide +kernel
theorem d_AT_usesSince_12 : decode b_AT_usesSince 12 = .ok (.iload_n 1, 1) := by decide +kernel
theorem d_AT_usesSince_13 : decode b_AT_usesSince 13 = .ok (.bipush 8, 2) := by decide +kernel
theorem d_AT_usesSince_15 : decode b_AT_usesSince 15 = .ok (.imul, 1) := by decide +kernel
theorem d_AT_usesSince_16 : decode b_AT_usesSince 16 = .ok (.istore 4, 2) := by decide +kernel
theorem d_AT_usesSince_18 : decode b_AT_usesSince 18 = .ok (.iload 4, 2) := by decide +kernel
theorem d_AT_usesSince_20 : decode b_AT_usesSince 20 = .ok (.istore 5, 2) := by decide +kernel
theorem d_AT_usesSince_22 : decode b_AT_usesSince 22 = .ok (.iload 5, 2) := by decide +kernel
theorem d_AT_usesSince_24 : decode b_AT_usesSince 24 = .ok (.iload 4, 2) := by decide +kernel
theorem d_AT_usesSince_26 : decode b_AT_usesSince 26 = .ok (.bipush 8, 2) := by decide +kernel
theorem d_AT_usesSince_28 : decode b_AT_usesSince 28 = .ok (.iadd, 1) := by decide +kernel
theorem d_AT_usesSince_29 : decode b_AT_usesSince 29 = .ok (.if_icmp .ge 23, 3) := by decide +kernel
theorem d_AT_usesSince_32 : decode b_AT_usesSince 32 = .ok (.aload_n 0, 1) := by decide +kernel
theorem d_AT_usesSince_33 : decode b_AT_usesSince 33 = .ok (.getfield 15, 3) := by decide +kernel
theorem d_AT_usesSince_36 : decode b_AT_usesSince 36 = .ok (.iload 5, 2) := by decide +kernel
theorem d_AT_usesSince_38 : decode b_AT_usesSince 38 = .ok (.iaload, 1) := by decide +kernel
theorem d_AT_usesSince_39 : decode b_AT_usesSince 39 = .ok (.iload_n 2, 1) := by decide +kernel
theorem d_AT_usesSince_40 : decode b_AT_usesSince 40 = .ok (.if_icmp .lt 6, 3) := by decide +kernel
theorem d_AT_usesSince_43 : decode b_AT_usesSince 43 = .ok (.iinc 3 1, 3) := by decide +kernel
theorem d_AT_usesSince_46 : decode b_AT_usesSince 46 = .ok (.iinc 5 1, 3) := by decide +kernel
theorem d_AT_usesSince_49 : decode b_AT_usesSince 49 = .ok (.goto (-27), 3) := by decide +kernel
theorem d_AT_usesSince_52 : decode b_AT_usesSince 52 = .ok (.iload_n 3, 1) := by decide +kernel
theorem d_AT_usesSince_53 : decode b_AT_usesSince 53 = .ok (.ireturn, 1) := by decide +kernel
theorem d_AT_noteUse_0 : decode b_AT_noteUse 0 = .ok (.aload_n 0, 1) := by decide +kernel
theorem d_AT_noteUse_1 : decode b_AT_noteUse 1 = .ok (.iload_n 1, 1) := by decide +kernel
theorem d_AT_noteUse_2 : decode b_AT_noteUse 2 = .ok (.invokevirtual 31, 3) := by decide +kernel
theorem d_AT_noteUse_5 : decode b_AT_noteUse 5 = .ok (.ifCond .ne 4, 3) := by decide +kernel
theorem d_AT_noteUse_8 : decode b_AT_noteUse 8 = .ok (.return_, 1) := by decide +kernel
theorem d_AT_noteUse_9 : decode b_AT_noteUse 9 = .ok (.aload_n 0, 1) := by decide +kernel
theorem d_AT_noteUse_10 : decode b_AT_noteUse 10 = .ok (.getfield 18, 3) := by decide +kernel
theorem d_AT_noteUse_13 : decode b_AT_noteUse 13 = .ok (.iload_n 1, 1) := by decide +kernel
theorem d_AT_noteUse_14 : decode b_AT_noteUse 14 = .ok (.iaload, 1) := by decide +kernel
theorem d_AT_noteUse_15 : decode b_AT_noteUse 15 = .ok (.istore_n 3, 1) := by decide +kernel
theorem d_AT_noteUse_16 : decode b_AT_noteUse 16 = .ok (.iload_n 3, 1) := by decide +kernel
theorem d_AT_noteUse_17 : decode b_AT_noteUse 17 = .ok (.ifCond .lt 33, 3) := by decide +kernel
theorem d_AT_noteUse_20 : decode b_AT_noteUse 20 = .ok (.iload_n 3, 1) := by decide +kernel
theorem d_AT_noteUse_21 : decode b_AT_noteUse 21 = .ok (.bipush 8, 2) := by decide +kernel
theorem d_AT_noteUse_23 : decode b_AT_noteUse 23 = .ok (.if_icmp .ge 27, 3) := by decide +kernel
theorem d_AT_noteUse_26 : decode b_AT_noteUse 26 = .ok (.aload_n 0, 1) := by decide +kernel
theorem d_AT_noteUse_27 : decode b_AT_noteUse 27 = .ok (.getfield 15, 3) := by decide +kernel
theorem d_AT_noteUse_30 : decode b_AT_noteUse 30 = .ok (.iload_n 1, 1) := by decide +kernel
theorem d_AT_noteUse_31 : decode b_AT_noteUse 31 = .ok (.bipush 8, 2) := by decide +kernel
theorem d_AT_noteUse_33 : decode b_AT_noteUse 33 = .ok (.imul, 1) := by decide +kernel
theorem d_AT_noteUse_34 : decode b_AT_noteUse 34 = .ok (.iload_n 3, 1) := by decide +kernel
theorem d_AT_noteUse_35 : decode b_AT_noteUse 35 = .ok (.iadd, 1) := by decide +kernel
theorem d_AT_noteUse_36 : decode b_AT_noteUse 36 = .ok (.iload_n 2, 1) := by decide +kernel
theorem d_AT_noteUse_37 : decode b_AT_noteUse 37 = .ok (.iastore, 1) := by decide +kernel
theorem d_AT_noteUse_38 : decode b_AT_noteUse 38 = .ok (.aload_n 0, 1) := by decide +kernel
theorem d_AT_noteUse_39 : decode b_AT_noteUse 39 = .ok (.getfield 18, 3) := by decide +kernel
theorem d_AT_noteUse_42 : decode b_AT_noteUse 42 = .ok (.iload_n 1, 1) := by decide +kernel
theorem d_AT_noteUse_43 : decode b_AT_noteUse 43 = .ok (.iload_n 3, 1) := by decide +kernel
theorem d_AT_noteUse_44 : decode b_AT_noteUse 44 = .ok (.iconst 1, 1) := by decide +kernel
theorem d_AT_noteUse_45 : decode b_AT_noteUse 45 = .ok (.iadd, 1) := by decide +kernel
theorem d_AT_noteUse_46 : decode b_AT_noteUse 46 = .ok (.bipush 8, 2) := by decide +kernel
theorem d_AT_noteUse_48 : decode b_AT_noteUse 48 = .ok (.irem, 1) := by decide +kernel
theorem d_AT_noteUse_49 : decode b_AT_noteUse 49 = .ok (.iastore, 1) := by decide +kernel
theorem d_AT_noteUse_50 : decode b_AT_noteUse 50 = .ok (.return_, 1) := by decide +kernel
theorem d_CT_init_0 : decode b_CT_init 0 = .ok (.aload_n 0, 1) := by decide +kernel
theorem d_CT_init_1 : decode b_CT_init 1 = .ok (.invokespecial 3, 3) := by decide +kernel
theorem d_CT_init_4 : decode b_CT_init 4 = .ok (.aload_n 0, 1) := by decide +kernel
theorem d_CT_init_5 : decode b_CT_init 5 = .ok (.bipush 100, 2) := by decide +kernel
theorem d_CT_init_7 : decode b_CT_init 7 = .ok (.newarray .long, 2) := by decide +kernel
theorem d_CT_init_9 : decode b_CT_init 9 = .ok (.putfield 11, 3) := by decide +kernel
theorem d_CT_init_12 : decode b_CT_init 12 = .ok (.aload_n 0, 1) := by decide +kernel
theorem d_CT_init_13 : decode b_CT_init 13 = .ok (.bipush 100, 2) := by decide +kernel
theorem d_CT_init_15 : decode b_CT_init 15 = .ok (.newarray .int, 2) := by decide +kernel
theorem d_CT_init_17 : decode b_CT_init 17 = .ok (.putfield 15, 3) := by decide +kernel
theorem d_CT_init_20 : decode b_CT_init 20 = .ok (.aload_n 0, 1) := by decide +kernel
theorem d_CT_init_21 : decode b_CT_init 21 = .ok (.bipush 100, 2) := by decide +kernel
theorem d_CT_init_23 : decode b_CT_init 23 = .ok (.newarray .boolean, 2) := by decide +kernel
theorem d_CT_init_25 : decode b_CT_init 25 = .ok (.putfield 19, 3) := by decide +kernel
theorem d_CT_init_28 : decode b_CT_init 28 = .ok (.aload_n 0, 1) := by decide +kernel
theorem d_CT_init_29 : decode b_CT_init 29 = .ok (.iconst 0, 1) := by decide +kernel
theorem d_CT_init_30 : decode b_CT_init 30 = .ok (.putfield 23, 3) := by decide +kernel
theorem d_CT_init_33 : decode b_CT_init 33 = .ok (.return_, 1) := by decide +kernel
theorem d_CT_isFull_0 : decode b_CT_isFull 0 = .ok (.aload_n 0, 1) := by decide +kernel
theorem d_CT_isFull_1 : decode b_CT_isFull 1 = .ok (.getfield 23, 3) := by decide +kernel
theorem d_CT_isFull_4 : decode b_CT_isFull 4 = .ok (.bipush 100, 2) := by decide +kernel
theorem d_CT_isFull_6 : decode b_CT_isFull 6 = .ok (.if_icmp .lt 7, 3) := by decide +kernel
theorem d_CT_isFull_9 : decode b_CT_isFull 9 = .ok (.iconst 1, 1) := by decide +kernel
theorem d_CT_isFull_10 : decode b_CT_isFull 10 = .ok (.goto 4, 3) := by decide +kernel
theorem d_CT_isFull_13 : decode b_CT_isFull 13 = .ok (.iconst 0, 1) := by decide +kernel
theorem d_CT_isFull_14 : decode b_CT_isFull 14 = .ok (.ireturn, 1) := by decide +kernel
theorem d_CT_has_0 : decode b_CT_has 0 = .ok (.iload_n 1, 1) := by decide +kernel
theorem d_CT_has_1 : decode b_CT_has 1 = .ok (.ifCond .lt 21, 3) := by decide +kernel
theorem d_CT_has_4 : decode b_CT_has 4 = .ok (.iload_n 1, 1) := by decide +kernel
theorem d_CT_has_5 : decode b_CT_has 5 = .ok (.aload_n 0, 1) := by decide +kernel
theorem d_CT_has_6 : decode b_CT_has 6 = .ok (.getfield 23, 3) := by decide +kernel
theorem d_CT_has_9 : decode b_CT_has 9 = .ok (.if_icmp .ge 13, 3) := by decide +kernel
theorem d_CT_has_12 : decode b_CT_has 12 = .ok (.iload_n 1, 1) := by decide +kernel
theorem d_CT_has_13 : decode b_CT_has 13 = .ok (.bipush 100, 2) := by decide +kernel
theorem d_CT_has_15 : decode b_CT_has 15 = .ok (.if_icmp .ge 7, 3) := by decide +kernel
theorem d_CT_has_18 : decode b_CT_has 18 = .ok (.iconst 1, 1) := by decide +kernel
theorem d_CT_has_19 : decode b_CT_has 19 = .ok (.goto 4, 3) := by decide +kernel
theorem d_CT_has_22 : decode b_CT_has 22 = .ok (.iconst 0, 1) := by decide +kernel
theorem d_CT_has_23 : decode b_CT_has 23 = .ok (.ireturn, 1) := by decide +kernel
theorem d_CT_find_0 : decode b_CT_find 0 = .ok (.iconst 0, 1) := by decide +kernel
theorem d_CT_find_1 : decode b_CT_find 1 = .ok (.istore_n 3, 1) := by decide +kernel
theorem d_CT_find_2 : decode b_CT_find 2 = .ok (.iload_n 3, 1) := by decide +kernel
theorem d_CT_find_3 : decode b_CT_find 3 = .ok (.aload_n 0, 1) := by decide +kernel
theorem d_CT_find_4 : decode b_CT_find 4 = .ok (.getfield 23, 3) := by decide +kernel
theorem d_CT_find_7 : decode b_CT_find 7 = .ok (.if_icmp .ge 28, 3) := by decide +kernel
theorem d_CT_find_10 : decode b_CT_find 10 = .ok (.iload_n 3, 1) := by decide +kernel
theorem d_CT_find_11 : decode b_CT_find 11 = .ok (.bipush 100, 2) := by decide +kernel
theorem d_CT_find_13 : decode b_CT_find 13 = .ok (.if_icmp .ge 22, 3) := by decide +kernel
theorem d_CT_find_16 : decode b_CT_find 16 = .ok (.aload_n 0, 1) := by decide +kernel
theorem d_CT_find_17 : decode b_CT_find 17 = .ok (.getfield 11, 3) := by decide +kernel
theorem d_CT_find_20 : decode b_CT_find 20 = .ok (.iload_n 3, 1) := by decide +kernel
theorem d_CT_find_21 : decode b_CT_find 21 = .ok (.laload, 1) := by decide +kernel
theorem d_CT_find_22 : decode b_CT_find 22 = .ok (.lload_n 1, 1) := by decide +kernel
theorem d_CT_find_23 : decode b_CT_find 23 = .ok (.lcmp, 1) := by decide +kernel
theorem d_CT_find_24 : decode b_CT_find 24 = .ok (.ifCond .ne 5, 3) := by decide +kernel
theorem d_CT_find_27 : decode b_CT_find 27 = .ok (.iload_n 3, 1) := by decide +kernel
theorem d_CT_find_28 : decode b_CT_find 28 = .ok (.ireturn, 1) := by decide +kernel
theorem d_CT_find_29 : decode b_CT_find 29 = .ok (.iinc 3 1, 3) := by decide +kernel
theorem d_CT_find_32 : decode b_CT_find 32 = .ok (.goto (-30), 3) := by decide +kernel
theorem d_CT_find_35 : decode b_CT_find 35 = .ok (.iconst (-1), 1) := by decide +kernel
theorem d_CT_find_36 : decode b_CT_find 36 = .ok (.ireturn, 1) := by decide +kernel
theorem d_CT_add_0 : decode b_CT_add 0 = .ok (.aload_n 0, 1) := by decide +kernel
theorem d_CT_add_1 : decode b_CT_add 1 = .ok (.getfield 23, 3) := by decide +kernel
theorem d_CT_add_4 : decode b_CT_add 4 = .ok (.ifCond .lt 12, 3) := by decide +kernel
theorem d_CT_add_7 : decode b_CT_add 7 = .ok (.aload_n 0, 1) := by decide +kernel
theorem d_CT_add_8 : decode b_CT_add 8 = .ok (.getfield 23, 3) := by decide +kernel
theorem d_CT_add_11 : decode b_CT_add 11 = .ok (.bipush 100, 2) := by decide +kernel
theorem d_CT_add_13 : decode b_CT_add 13 = .ok (.if_icmp .lt 5, 3) := by decide +kernel
theorem d_CT_add_16 : decode b_CT_add 16 = .ok (.iconst (-1), 1) := by decide +kernel
theorem d_CT_add_17 : decode b_CT_add 17 = .ok (.ireturn, 1) := by decide +kernel
theorem d_CT_add_18 : decode b_CT_add 18 = .ok (.aload_n 0, 1) := by decide +kernel
theorem d_CT_add_19 : decode b_CT_add 19 = .ok (.getfield 11, 3) := by decide +kernel
theorem d_CT_add_22 : decode b_CT_add 22 = .ok (.aload_n 0, 1) := by decide +kernel
theorem d_CT_add_23 : decode b_CT_add 23 = .ok (.getfield 23, 3) := by decide +kernel
theorem d_CT_add_26 : decode b_CT_add 26 = .ok (.lload_n 1, 1) := by decide +kernel
theorem d_CT_add_27 : decode b_CT_add 27 = .ok (.lastore, 1) := by decide +kernel
theorem d_CT_add_28 : decode b_CT_add 28 = .ok (.aload_n 0, 1) := by decide +kernel
theorem d_CT_add_29 : decode b_CT_add 29 = .ok (.getfield 15, 3) := by decide +kernel
theorem d_CT_add_32 : decode b_CT_add 32 = .ok (.aload_n 0, 1) := by decide +kernel
theorem d_CT_add_33 : decode b_CT_add 33 = .ok (.getfield 23, 3) := by decide +kernel
theorem d_CT_add_36 : decode b_CT_add 36 = .ok (.iload_n 3, 1) := by decide +kernel
theorem d_CT_add_37 : decode b_CT_add 37 = .ok (.iastore, 1) := by decide +kernel
theorem d_CT_add_38 : decode b_CT_add 38 = .ok (.aload_n 0, 1) := by decide +kernel
theorem d_CT_add_39 : decode b_CT_add 39 = .ok (.dup, 1) := by decide +kernel
theorem d_CT_add_40 : decode b_CT_add 40 = .ok (.getfield 23, 3) := by decide +kernel
theorem d_CT_add_43 : decode b_CT_add 43 = .ok (.iconst 1, 1) := by decide +kernel
theorem d_CT_add_44 : decode b_CT_add 44 = .ok (.iadd, 1) := by decide +kernel
theorem d_CT_add_45 : decode b_CT_add 45 = .ok (.putfield 23, 3) := by decide +kernel
theorem d_CT_add_48 : decode b_CT_add 48 = .ok (.aload_n 0, 1) := by decide +kernel
theorem d_CT_add_49 : decode b_CT_add 49 = .ok (.getfield 23, 3) := by decide +kernel
theorem d_CT_add_52 : decode b_CT_add 52 = .ok (.iconst 1, 1) := by decide +kernel
theorem d_CT_add_53 : decode b_CT_add 53 = .ok (.isub, 1) := by decide +kernel
theorem d_CT_add_54 : decode b_CT_add 54 = .ok (.ireturn, 1) := by decide +kernel
theorem d_CT_numberOf_0 : decode b_CT_numberOf 0 = .ok (.aload_n 0, 1) := by decide +kernel
theorem d_CT_numberOf_1 : decode b_CT_numberOf 1 = .ok (.iload_n 1, 1) := by decide +kernel
theorem d_CT_numberOf_2 : decode b_CT_numberOf 2 = .ok (.invokevirtual 27, 3) := by decide +kernel
theorem d_CT_numberOf_5 : decode b_CT_numberOf 5 = .ok (.ifCond .eq 12, 3) := by decide +kernel
theorem d_CT_numberOf_8 : decode b_CT_numberOf 8 = .ok (.aload_n 0, 1) := by decide +kernel
theorem d_CT_numberOf_9 : decode b_CT_numberOf 9 = .ok (.getfield 11, 3) := by decide +kernel
theorem d_CT_numberOf_12 : decode b_CT_numberOf 12 = .ok (.iload_n 1, 1) := by decide +kernel
theorem d_CT_numberOf_13 : decode b_CT_numberOf 13 = .ok (.laload, 1) := by decide +kernel
theorem d_CT_numberOf_14 : decode b_CT_numberOf 14 = .ok (.goto 4, 3) := by decide +kernel
theorem d_CT_numberOf_17 : decode b_CT_numberOf 17 = .ok (.lconst 0, 1) := by decide +kernel
theorem d_CT_numberOf_18 : decode b_CT_numberOf 18 = .ok (.lreturn, 1) := by decide +kernel
theorem d_CT_accountOf_0 : decode b_CT_accountOf 0 = .ok (.aload_n 0, 1) := by decide +kernel
theorem d_CT_accountOf_1 : decode b_CT_accountOf 1 = .ok (.iload_n 1, 1) := by decide +kernel
theorem d_CT_accountOf_2 : decode b_CT_accountOf 2 = .ok (.invokevirtual 27, 3) := by decide +kernel
theorem d_CT_accountOf_5 : decode b_CT_accountOf 5 = .ok (.ifCond .eq 12, 3) := by decide +kernel
theorem d_CT_accountOf_8 : decode b_CT_accountOf 8 = .ok (.aload_n 0, 1) := by decide +kernel
theorem d_CT_accountOf_9 : decode b_CT_accountOf 9 = .ok (.getfield 15, 3) := by decide +kernel
theorem d_CT_accountOf_12 : decode b_CT_accountOf 12 = .ok (.iload_n 1, 1) := by decide +kernel
theorem d_CT_accountOf_13 : decode b_CT_accountOf 13 = .ok (.iaload, 1) := by decide +kernel
theorem d_CT_accountOf_14 : decode b_CT_accountOf 14 = .ok (.goto 4, 3) := by decide +kernel
theorem d_CT_accountOf_17 : decode b_CT_accountOf 17 = .ok (.iconst (-1), 1) := by decide +kernel
theorem d_CT_accountOf_18 : decode b_CT_accountOf 18 = .ok (.ireturn, 1) := by decide +kernel
theorem d_CT_isBlocked_0 : decode b_CT_isBlocked 0 = .ok (.aload_n 0, 1) := by decide +kernel
theorem d_CT_isBlocked_1 : decode b_CT_isBlocked 1 = .ok (.iload_n 1, 1) := by decide +kernel
theorem d_CT_isBlocked_2 : decode b_CT_isBlocked 2 = .ok (.invokevirtual 27, 3) := by decide +kernel
theorem d_CT_isBlocked_5 : decode b_CT_isBlocked 5 = .ok (.ifCond .eq 16, 3) := by decide +kernel
theorem d_CT_isBlocked_8 : decode b_CT_isBlocked 8 = .ok (.aload_n 0, 1) := by decide +kernel
theorem d_CT_isBlocked_9 : decode b_CT_isBlocked 9 = .ok (.getfield 19, 3) := by decide +kernel
theorem d_CT_isBlocked_12 : decode b_CT_isBlocked 12 = .ok (.iload_n 1, 1) := by decide +kernel
theorem d_CT_isBlocked_13 : decode b_CT_isBlocked 13 = .ok (.baload, 1) := by decide +kernel
theorem d_CT_isBlocked_14 : decode b_CT_isBlocked 14 = .ok (.ifCond .eq 7, 3) := by decide +kernel
theorem d_CT_isBlocked_17 : decode b_CT_isBlocked 17 = .ok (.iconst 1, 1) := by decide +kernel
theorem d_CT_isBlocked_18 : decode b_CT_isBlocked 18 = .ok (.goto 4, 3) := by decide +kernel
theorem d_CT_isBlocked_21 : decode b_CT_isBlocked 21 = .ok (.iconst 0, 1) := by decide +kernel
theorem d_CT_isBlocked_22 : decode b_CT_isBlocked 22 = .ok (.ireturn, 1) := by decide +kernel
theorem d_CT_setBlocked_0 : decode b_CT_setBlocked 0 = .ok (.aload_n 0, 1) := by decide +kernel
theorem d_CT_setBlocked_1 : decode b_CT_setBlocked 1 = .ok (.iload_n 1, 1) := by decide +kernel
theorem d_CT_setBlocked_2 : decode b_CT_setBlocked 2 = .ok (.invokevirtual 31, 3) := by decide +kernel
theorem d_CT_setBlocked_5 : decode b_CT_setBlocked 5 = .ok (.istore_n 3, 1) := by decide +kernel
theorem d_CT_setBlocked_6 : decode b_CT_setBlocked 6 = .ok (.aload_n 0, 1) := by decide +kernel
theorem d_CT_setBlocked_7 : decode b_CT_setBlocked 7 = .ok (.iload_n 1, 1) := by decide +kernel
theorem d_CT_setBlocked_8 : decode b_CT_setBlocked 8 = .ok (.invokevirtual 27, 3) := by decide +kernel
theorem d_CT_setBlocked_11 : decode b_CT_setBlocked 11 = .ok (.ifCond .eq 10, 3) := by decide +kernel
theorem d_CT_setBlocked_14 : decode b_CT_setBlocked 14 = .ok (.aload_n 0, 1) := by decide +kernel
theorem d_CT_setBlocked_15 : decode b_CT_setBlocked 15 = .ok (.getfield 19, 3) := by decide +kernel
theorem d_CT_setBlocked_18 : decode b_CT_setBlocked 18 = .ok (.iload_n 1, 1) := by decide +kernel
theorem d_CT_setBlocked_19 : decode b_CT_setBlocked 19 = .ok (.iload_n 2, 1) := by decide +kernel
theorem d_CT_setBlocked_20 : decode b_CT_setBlocked 20 = .ok (.bastore, 1) := by decide +kernel
theorem d_CT_setBlocked_21 : decode b_CT_setBlocked 21 = .ok (.iload_n 3, 1) := by decide +kernel
theorem d_CT_setBlocked_22 : decode b_CT_setBlocked 22 = .ok (.ireturn, 1) := by decide +kernel
theorem d_RT_init_0 : decode b_RT_init 0 = .ok (.aload_n 0, 1) := by decide +kernel
theorem d_RT_init_1 : decode b_RT_init 1 = .ok (.invokespecial 3, 3) := by decide +kernel
theorem d_RT_init_4 : decode b_RT_init 4 = .ok (.aload_n 0, 1) := by decide +kernel
theorem d_RT_init_5 : decode b_RT_init 5 = .ok (.bipush 40, 2) := by decide +kernel
theorem d_RT_init_7 : decode b_RT_init 7 = .ok (.newarray .int, 2) := by decide +kernel
theorem d_RT_init_9 : decode b_RT_init 9 = .ok (.putfield 11, 3) := by decide +kernel
theorem d_RT_init_12 : decode b_RT_init 12 = .ok (.aload_n 0, 1) := by decide +kernel
theorem d_RT_init_13 : decode b_RT_init 13 = .ok (.bipush 40, 2) := by decide +kernel
theorem d_RT_init_15 : decode b_RT_init 15 = .ok (.newarray .int, 2) := by decide +kernel
theorem d_RT_init_17 : decode b_RT_init 17 = .ok (.putfield 15, 3) := by decide +kernel
theorem d_RT_init_20 : decode b_RT_init 20 = .ok (.aload_n 0, 1) := by decide +kernel
theorem d_RT_init_21 : decode b_RT_init 21 = .ok (.bipush 40, 2) := by decide +kernel
theorem d_RT_init_23 : decode b_RT_init 23 = .ok (.newarray .int, 2) := by decide +kernel
theorem d_RT_init_25 : decode b_RT_init 25 = .ok (.putfield 18, 3) := by decide +kernel
theorem d_RT_init_28 : decode b_RT_init 28 = .ok (.aload_n 0, 1) := by decide +kernel
theorem d_RT_init_29 : decode b_RT_init 29 = .ok (.iconst 0, 1) := by decide +kernel
theorem d_RT_init_30 : decode b_RT_init 30 = .ok (.putfield 21, 3) := by decide +kernel
theorem d_RT_init_33 : decode b_RT_init 33 = .ok (.return_, 1) := by decide +kernel
theorem d_RT_isFull_0 : decode b_RT_isFull 0 = .ok (.aload_n 0, 1) := by decide +kernel
theorem d_RT_isFull_1 : decode b_RT_isFull 1 = .ok (.getfield 21, 3) := by decide +kernel
theorem d_RT_isFull_4 : decode b_RT_isFull 4 = .ok (.bipush 40, 2) := by decide +kernel
theorem d_RT_isFull_6 : decode b_RT_isFull 6 = .ok (.if_icmp .lt 7, 3) := by decide +kernel
theorem d_RT_isFull_9 : decode b_RT_isFull 9 = .ok (.iconst 1, 1) := by decide +kernel
theorem d_RT_isFull_10 : decode b_RT_isFull 10 = .ok (.goto 4, 3) := by decide +kernel
theorem d_RT_isFull_13 : decode b_RT_isFull 13 = .ok (.iconst 0, 1) := by decide +kernel
theorem d_RT_isFull_14 : decode b_RT_isFull 14 = .ok (.ireturn, 1) := by decide +kernel
theorem d_RT_find_0 : decode b_RT_find 0 = .ok (.iconst 0, 1) := by decide +kernel
theorem d_RT_find_1 : decode b_RT_find 1 = .ok (.istore 4, 2) := by decide +kernel
theorem d_RT_find_3 : decode b_RT_find 3 = .ok (.iload 4, 2) := by decide +kernel
theorem d_RT_find_5 : decode b_RT_find 5 = .ok (.aload_n 0, 1) := by decide +kernel
theorem d_RT_find_6 : decode b_RT_find 6 = .ok (.getfield 21, 3) := by decide +kernel
theorem d_RT_find_9 : decode b_RT_find 9 = .ok (.if_icmp .ge 43, 3) := by decide +kernel
theorem d_RT_find_12 : decode b_RT_find 12 = .ok (.iload 4, 2) := by decide +kernel
theorem d_RT_find_14 : decode b_RT_find 14 = .ok (.bipush 40, 2) := by decide +kernel
theorem d_RT_find_16 : decode b_RT_find 16 = .ok (.if_icmp .ge 36, 3) := by decide +kernel
theorem d_RT_find_19 : decode b_RT_find 19 = .ok (.aload_n 0, 1) := by decide +kernel
theorem d_RT_find_20 : decode b_RT_find 20 = .ok (.getfield 15, 3) := by decide +kernel
theorem d_RT_find_23 : decode b_RT_find 23 = .ok (.iload 4, 2) := by decide +kernel
theorem d_RT_find_25 : decode b_RT_find 25 = .ok (.iaload, 1) := by decide +kernel
theorem d_RT_find_26 : decode b_RT_find 26 = .ok (.iload_n 3, 1) := by decide +kernel
theorem d_RT_find_27 : decode b_RT_find 27 = .ok (.if_icmp .ne 19, 3) := by decide +kernel
theorem d_RT_find_30 : decode b_RT_find 30 = .ok (.aload_n 0, 1) := by decide +kernel
theorem d_RT_find_31 : decode b_RT_find 31 = .ok (.getfield 11, 3) := by decide +kernel
theorem d_RT_find_34 : decode b_RT_find 34 = .ok (.iload 4, 2) := by decide +kernel
theorem d_RT_find_36 : decode b_RT_find 36 = .ok (.iaload, 1) := by decide +kernel
theorem d_RT_find_37 : decode b_RT_find 37 = .ok (.i2l, 1) := by decide +kernel
theorem d_RT_find_38 : decode b_RT_find 38 = .ok (.lload_n 1, 1) := by decide +kernel
theorem d_RT_find_39 : decode b_RT_find 39 = .ok (.lcmp, 1) := by decide +kernel
theorem d_RT_find_40 : decode b_RT_find 40 = .ok (.ifCond .ne 6, 3) := by decide +kernel
theorem d_RT_find_43 : decode b_RT_find 43 = .ok (.iload 4, 2) := by decide +kernel
theorem d_RT_find_45 : decode b_RT_find 45 = .ok (.ireturn, 1) := by decide +kernel
theorem d_RT_find_46 : decode b_RT_find 46 = .ok (.iinc 4 1, 3) := by decide +kernel
theorem d_RT_find_49 : decode b_RT_find 49 = .ok (.goto (-46), 3) := by decide +kernel
theorem d_RT_find_52 : decode b_RT_find 52 = .ok (.iconst (-1), 1) := by decide +kernel
theorem d_RT_find_53 : decode b_RT_find 53 = .ok (.ireturn, 1) := by decide +kernel
theorem d_RT_add_0 : decode b_RT_add 0 = .ok (.aload_n 0, 1) := by decide +kernel
theorem d_RT_add_1 : decode b_RT_add 1 = .ok (.getfield 21, 3) := by decide +kernel
theorem d_RT_add_4 : decode b_RT_add 4 = .ok (.ifCond .lt 52, 3) := by decide +kernel
theorem d_RT_add_7 : decode b_RT_add 7 = .ok (.aload_n 0, 1) := by decide +kernel
theorem d_RT_add_8 : decode b_RT_add 8 = .ok (.getfield 21, 3) := by decide +kernel
theorem d_RT_add_11 : decode b_RT_add 11 = .ok (.bipush 40, 2) := by decide +kernel
theorem d_RT_add_13 : decode b_RT_add 13 = .ok (.if_icmp .ge 43, 3) := by decide +kernel
theorem d_RT_add_16 : decode b_RT_add 16 = .ok (.aload_n 0, 1) := by decide +kernel
theorem d_RT_add_17 : decode b_RT_add 17 = .ok (.getfield 11, 3) := by decide +kernel
theorem d_RT_add_20 : decode b_RT_add 20 = .ok (.aload_n 0, 1) := by decide +kernel
theorem d_RT_add_21 : decode b_RT_add 21 = .ok (.getfield 21, 3) := by decide +kernel
theorem d_RT_add_24 : decode b_RT_add 24 = .ok (.iload_n 2, 1) := by decide +kernel
theorem d_RT_add_25 : decode b_RT_add 25 = .ok (.iastore, 1) := by decide +kernel
theorem d_RT_add_26 : decode b_RT_add 26 = .ok (.aload_n 0, 1) := by decide +kernel
theorem d_RT_add_27 : decode b_RT_add 27 = .ok (.getfield 15, 3) := by decide +kernel
theorem d_RT_add_30 : decode b_RT_add 30 = .ok (.aload_n 0, 1) := by decide +kernel
theorem d_RT_add_31 : decode b_RT_add 31 = .ok (.getfield 21, 3) := by decide +kernel
theorem d_RT_add_34 : decode b_RT_add 34 = .ok (.iload_n 3, 1) := by decide +kernel
theorem d_RT_add_35 : decode b_RT_add 35 = .ok (.iastore, 1) := by decide +kernel
theorem d_RT_add_36 : decode b_RT_add 36 = .ok (.aload_n 0, 1) := by decide +kernel
theorem d_RT_add_37 : decode b_RT_add 37 = .ok (.getfield 18, 3) := by decide +kernel
theorem d_RT_add_40 : decode b_RT_add 40 = .ok (.aload_n 0, 1) := by decide +kernel
theorem d_RT_add_41 : decode b_RT_add 41 = .ok (.getfield 21, 3) := by decide +kernel
theorem d_RT_add_44 : decode b_RT_add 44 = .ok (.iload_n 1, 1) := by decide +kernel
theorem d_RT_add_45 : decode b_RT_add 45 = .ok (.iastore, 1) := by decide +kernel
theorem d_RT_add_46 : decode b_RT_add 46 = .ok (.aload_n 0, 1) := by decide +kernel
theorem d_RT_add_47 : decode b_RT_add 47 = .ok (.dup, 1) := by decide +kernel
theorem d_RT_add_48 : decode b_RT_add 48 = .ok (.getfield 21, 3) := by decide +kernel
theorem d_RT_add_51 : decode b_RT_add 51 = .ok (.iconst 1, 1) := by decide +kernel
theorem d_RT_add_52 : decode b_RT_add 52 = .ok (.iadd, 1) := by decide +kernel
theorem d_RT_add_53 : decode b_RT_add 53 = .ok (.putfield 21, 3) := by decide +kernel
theorem d_RT_add_56 : decode b_RT_add 56 = .ok (.return_, 1) := by decide +kernel
theorem d_RT_redirect_0 : decode b_RT_redirect 0 = .ok (.aload_n 0, 1) := by decide +kernel
theorem d_RT_redirect_1 : decode b_RT_redirect 1 = .ok (.iload_n 1, 1) := by decide +kernel
theorem d_RT_redirect_2 : decode b_RT_redirect 2 = .ok (.invokevirtual 25, 3) := by decide +kernel
theorem d_RT_redirect_5 : decode b_RT_redirect 5 = .ok (.ifCond .ne 5, 3) := by decide +kernel
theorem d_RT_redirect_8 : decode b_RT_redirect 8 = .ok (.iconst (-1), 1) := by decide +kernel
theorem d_RT_redirect_9 : decode b_RT_redirect 9 = .ok (.ireturn, 1) := by decide +kernel
theorem d_RT_redirect_10 : decode b_RT_redirect 10 = .ok (.aload_n 0, 1) := by decide +kernel
theorem d_RT_redirect_11 : decode b_RT_redirect 11 = .ok (.getfield 18, 3) := by decide +kernel
theorem d_RT_redirect_14 : decode b_RT_redirect 14 = .ok (.iload_n 1, 1) := by decide +kernel
theorem d_RT_redirect_15 : decode b_RT_redirect 15 = .ok (.iaload, 1) := by decide +kernel
theorem d_RT_redirect_16 : decode b_RT_redirect 16 = .ok (.istore_n 3, 1) := by decide +kernel
theorem d_RT_redirect_17 : decode b_RT_redirect 17 = .ok (.aload_n 0, 1) := by decide +kernel
theorem d_RT_redirect_18 : decode b_RT_redirect 18 = .ok (.getfield 18, 3) := by decide +kernel
theorem d_RT_redirect_21 : decode b_RT_redirect 21 = .ok (.iload_n 1, 1) := by decide +kernel
theorem d_RT_redirect_22 : decode b_RT_redirect 22 = .ok (.iload_n 2, 1) := by decide +kernel
theorem d_RT_redirect_23 : decode b_RT_redirect 23 = .ok (.iastore, 1) := by decide +kernel
theorem d_RT_redirect_24 : decode b_RT_redirect 24 = .ok (.iload_n 3, 1) := by decide +kernel
theorem d_RT_redirect_25 : decode b_RT_redirect 25 = .ok (.ireturn, 1) := by decide +kernel
theorem d_RT_remove_0 : decode b_RT_remove 0 = .ok (.aload_n 0, 1) := by decide +kernel
theorem d_RT_remove_1 : decode b_RT_remove 1 = .ok (.getfield 21, 3) := by decide +kernel
theorem d_RT_remove_4 : decode b_RT_remove 4 = .ok (.iconst 1, 1) := by decide +kernel
theorem d_RT_remove_5 : decode b_RT_remove 5 = .ok (.isub, 1) := by decide +kernel
theorem d_RT_remove_6 : decode b_RT_remove 6 = .ok (.istore_n 2, 1) := by decide +kernel
theorem d_RT_remove_7 : decode b_RT_remove 7 = .ok (.aload_n 0, 1) := by decide +kernel
theorem d_RT_remove_8 : decode b_RT_remove 8 = .ok (.iload_n 1, 1) := by decide +kernel
theorem d_RT_remove_9 : decode b_RT_remove 9 = .ok (.invokevirtual 25, 3) := by decide +kernel
theorem d_RT_remove_12 : decode b_RT_remove 12 = .ok (.ifCond .eq 11, 3) := by decide +kernel
theorem d_RT_remove_15 : decode b_RT_remove 15 = .ok (.aload_n 0, 1) := by decide +kernel
theorem d_RT_remove_16 : decode b_RT_remove 16 = .ok (.iload_n 2, 1) := by decide +kernel
theorem d_RT_remove_17 : decode b_RT_remove 17 = .ok (.invokevirtual 25, 3) := by decide +kernel
theorem d_RT_remove_20 : decode b_RT_remove 20 = .ok (.ifCond .ne 5, 3) := by decide +kernel
theorem d_RT_remove_23 : decode b_RT_remove 23 = .ok (.iconst (-1), 1) := by decide +kernel
theorem d_RT_remove_24 : decode b_RT_remove 24 = .ok (.ireturn, 1) := by decide +kernel
theorem d_RT_remove_25 : decode b_RT_remove 25 = .ok (.aload_n 0, 1) := by decide +kernel
theorem d_RT_remove_26 : decode b_RT_remove 26 = .ok (.getfield 18, 3) := by decide +kernel
theorem d_RT_remove_29 : decode b_RT_remove 29 = .ok (.iload_n 1, 1) := by decide +kernel
theorem d_RT_remove_30 : decode b_RT_remove 30 = .ok (.iaload, 1) := by decide +kernel
theorem d_RT_remove_31 : decode b_RT_remove 31 = .ok (.istore_n 3, 1) := by decide +kernel
theorem d_RT_remove_32 : decode b_RT_remove 32 = .ok (.aload_n 0, 1) := by decide +kernel
theorem d_RT_remove_33 : decode b_RT_remove 33 = .ok (.getfield 11, 3) := by decide +kernel
theorem d_RT_remove_36 : decode b_RT_remove 36 = .ok (.iload_n 1, 1) := by decide +kernel
theorem d_RT_remove_37 : decode b_RT_remove 37 = .ok (.aload_n 0, 1) := by decide +kernel
theorem d_RT_remove_38 : decode b_RT_remove 38 = .ok (.getfield 11, 3) := by decide +kernel
theorem d_RT_remove_41 : decode b_RT_remove 41 = .ok (.iload_n 2, 1) := by decide +kernel
theorem d_RT_remove_42 : decode b_RT_remove 42 = .ok (.iaload, 1) := by decide +kernel
theorem d_RT_remove_43 : decode b_RT_remove 43 = .ok (.iastore, 1) := by decide +kernel
theorem d_RT_remove_44 : decode b_RT_remove 44 = .ok (.aload_n 0, 1) := by decide +kernel
theorem d_RT_remove_45 : decode b_RT_remove 45 = .ok (.getfield 15, 3) := by decide +kernel
theorem d_RT_remove_48 : decode b_RT_remove 48 = .ok (.iload_n 1, 1) := by decide +kernel
theorem d_RT_remove_49 : decode b_RT_remove 49 = .ok (.aload_n 0, 1) := by decide +kernel
theorem d_RT_remove_50 : decode b_RT_remove 50 = .ok (.getfield 15, 3) := by decide +kernel
theorem d_RT_remove_53 : decode b_RT_remove 53 = .ok (.iload_n 2, 1) := by decide +kernel
theorem d_RT_remove_54 : decode b_RT_remove 54 = .ok (.iaload, 1) := by decide +kernel
theorem d_RT_remove_55 : decode b_RT_remove 55 = .ok (.iastore, 1) := by decide +kernel
theorem d_RT_remove_56 : decode b_RT_remove 56 = .ok (.aload_n 0, 1) := by decide +kernel
theorem d_RT_remove_57 : decode b_RT_remove 57 = .ok (.getfield 18, 3) := by decide +kernel
theorem d_RT_remove_60 : decode b_RT_remove 60 = .ok (.iload_n 1, 1) := by decide +kernel
theorem d_RT_remove_61 : decode b_RT_remove 61 = .ok (.aload_n 0, 1) := by decide +kernel
theorem d_RT_remove_62 : decode b_RT_remove 62 = .ok (.getfield 18, 3) := by decide +kernel
theorem d_RT_remove_65 : decode b_RT_remove 65 = .ok (.iload_n 2, 1) := by decide +kernel
theorem d_RT_remove_66 : decode b_RT_remove 66 = .ok (.iaload, 1) := by decide +kernel
theorem d_RT_remove_67 : decode b_RT_remove 67 = .ok (.iastore, 1) := by decide +kernel
theorem d_RT_remove_68 : decode b_RT_remove 68 = .ok (.aload_n 0, 1) := by decide +kernel
theorem d_RT_remove_69 : decode b_RT_remove 69 = .ok (.iload_n 2, 1) := by decide +kernel
theorem d_RT_remove_70 : decode b_RT_remove 70 = .ok (.putfield 21, 3) := by decide +kernel
theorem d_RT_remove_73 : decode b_RT_remove 73 = .ok (.iload_n 3, 1) := by decide +kernel
theorem d_RT_remove_74 : decode b_RT_remove 74 = .ok (.ireturn, 1) := by decide +kernel
theorem d_RT_issuerFor_0 : decode b_RT_issuerFor 0 = .ok (.lload_n 1, 1) := by decide +kernel
theorem d_RT_issuerFor_1 : decode b_RT_issuerFor 1 = .ok (.lstore_n 3, 1) := by decide +kernel
theorem d_RT_issuerFor_2 : decode b_RT_issuerFor 2 = .ok (.lload_n 1, 1) := by decide +kernel
theorem d_RT_issuerFor_3 : decode b_RT_issuerFor 3 = .ok (.invokestatic 29, 3) := by decide +kernel
theorem d_RT_issuerFor_6 : decode b_RT_issuerFor 6 = .ok (.istore 5, 2) := by decide +kernel
theorem d_RT_issuerFor_8 : decode b_RT_issuerFor 8 = .ok (.iload 5, 2) := by decide +kernel
theorem d_RT_issuerFor_10 : decode b_RT_issuerFor 10 = .ok (.ifCond .le 52, 3) := by decide +kernel
theorem d_RT_issuerFor_13 : decode b_RT_issuerFor 13 = .ok (.iload 5, 2) := by decide +kernel
theorem d_RT_issuerFor_15 : decode b_RT_issuerFor 15 = .ok (.bipush 8, 2) := by decide +kernel
theorem d_RT_issuerFor_17 : decode b_RT_issuerFor 17 = .ok (.if_icmp .le 7, 3) := by decide +kernel
theorem d_RT_issuerFor_20 : decode b_RT_issuerFor 20 = .ok (.iconst (-1), 1) := by decide +kernel
theorem d_RT_issuerFor_21 : decode b_RT_issuerFor 21 = .ok (.goto 10, 3) := by decide +kernel
theorem d_RT_issuerFor_24 : decode b_RT_issuerFor 24 = .ok (.aload_n 0, 1) := by decide +kernel
theorem d_RT_issuerFor_25 : decode b_RT_issuerFor 25 = .ok (.lload_n 3, 1) := by decide +kernel
theorem d_RT_issuerFor_26 : decode b_RT_issuerFor 26 = .ok (.iload 5, 2) := by decide +kernel
theorem d_RT_issuerFor_28 : decode b_RT_issuerFor 28 = .ok (.invokevirtual 33, 3) := by decide +kernel
theorem d_RT_issuerFor_31 : decode b_RT_issuerFor 31 = .ok (.istore 6, 2) := by decide +kernel
theorem d_RT_issuerFor_33 : decode b_RT_issuerFor 33 = .ok (.aload_n 0, 1) := by decide +kernel
theorem d_RT_issuerFor_34 : decode b_RT_issuerFor 34 = .ok (.iload 6, 2) := by decide +kernel
theorem d_RT_issuerFor_36 : decode b_RT_issuerFor 36 = .ok (.invokevirtual 25, 3) := by decide +kernel
theorem d_RT_issuerFor_39 : decode b_RT_issuerFor 39 = .ok (.ifCond .eq 11, 3) := by decide +kernel
theorem d_RT_issuerFor_42 : decode b_RT_issuerFor 42 = .ok (.aload_n 0, 1) := by decide +kernel
theorem d_RT_issuerFor_43 : decode b_RT_issuerFor 43 = .ok (.getfield 18, 3) := by decide +kernel
theorem d_RT_issuerFor_46 : decode b_RT_issuerFor 46 = .ok (.iload 6, 2) := by decide +kernel
theorem d_RT_issuerFor_48 : decode b_RT_issuerFor 48 = .ok (.iaload, 1) := by decide +kernel
theorem d_RT_issuerFor_49 : decode b_RT_issuerFor 49 = .ok (.ireturn, 1) := by decide +kernel
theorem d_RT_issuerFor_50 : decode b_RT_issuerFor 50 = .ok (.lload_n 3, 1) := by decide +kernel
theorem d_RT_issuerFor_51 : decode b_RT_issuerFor 51 = .ok (.ldc2_w 37, 3) := by decide +kernel
theorem d_RT_issuerFor_54 : decode b_RT_issuerFor 54 = .ok (.ldiv, 1) := by decide +kernel
theorem d_RT_issuerFor_55 : decode b_RT_issuerFor 55 = .ok (.lstore_n 3, 1) := by decide +kernel
theorem d_RT_issuerFor_56 : decode b_RT_issuerFor 56 = .ok (.iinc 5 (-1), 3) := by decide +kernel
theorem d_RT_issuerFor_59 : decode b_RT_issuerFor 59 = .ok (.goto (-51), 3) := by decide +kernel
theorem d_RT_issuerFor_62 : decode b_RT_issuerFor 62 = .ok (.iconst (-1), 1) := by decide +kernel
theorem d_RT_issuerFor_63 : decode b_RT_issuerFor 63 = .ok (.ireturn, 1) := by decide +kernel
theorem d_RT_has_0 : decode b_RT_has 0 = .ok (.iload_n 1, 1) := by decide +kernel
theorem d_RT_has_1 : decode b_RT_has 1 = .ok (.ifCond .lt 21, 3) := by decide +kernel
theorem d_RT_has_4 : decode b_RT_has 4 = .ok (.iload_n 1, 1) := by decide +kernel
theorem d_RT_has_5 : decode b_RT_has 5 = .ok (.aload_n 0, 1) := by decide +kernel
theorem d_RT_has_6 : decode b_RT_has 6 = .ok (.getfield 21, 3) := by decide +kernel
theorem d_RT_has_9 : decode b_RT_has 9 = .ok (.if_icmp .ge 13, 3) := by decide +kernel
theorem d_RT_has_12 : decode b_RT_has 12 = .ok (.iload_n 1, 1) := by decide +kernel
theorem d_RT_has_13 : decode b_RT_has 13 = .ok (.bipush 40, 2) := by decide +kernel
theorem d_RT_has_15 : decode b_RT_has 15 = .ok (.if_icmp .ge 7, 3) := by decide +kernel
theorem d_RT_has_18 : decode b_RT_has 18 = .ok (.iconst 1, 1) := by decide +kernel
theorem d_RT_has_19 : decode b_RT_has 19 = .ok (.goto 4, 3) := by decide +kernel
theorem d_RT_has_22 : decode b_RT_has 22 = .ok (.iconst 0, 1) := by decide +kernel
theorem d_RT_has_23 : decode b_RT_has 23 = .ok (.ireturn, 1) := by decide +kernel
theorem d_CD_init_0 : decode b_CD_init 0 = .ok (.aload_n 0, 1) := by decide +kernel
theorem d_CD_init_1 : decode b_CD_init 1 = .ok (.invokespecial 1, 3) := by decide +kernel
theorem d_CD_init_4 : decode b_CD_init 4 = .ok (.aload_n 0, 1) := by decide +kernel
theorem d_CD_init_5 : decode b_CD_init 5 = .ok (.iconst 1, 1) := by decide +kernel
theorem d_CD_init_6 : decode b_CD_init 6 = .ok (.iload_n 1, 1) := by decide +kernel
theorem d_CD_init_7 : decode b_CD_init 7 = .ok (.sipush 5000, 3) := by decide +kernel
theorem d_CD_init_10 : decode b_CD_init 10 = .ok (.invokestatic 9, 3) := by decide +kernel
theorem d_CD_init_13 : decode b_CD_init 13 = .ok (.invokestatic 15, 3) := by decide +kernel
theorem d_CD_init_16 : decode b_CD_init 16 = .ok (.putfield 18, 3) := by decide +kernel
theorem d_CD_init_19 : decode b_CD_init 19 = .ok (.aload_n 0, 1) := by decide +kernel
theorem d_CD_init_20 : decode b_CD_init 20 = .ok (.iconst 1, 1) := by decide +kernel
theorem d_CD_init_21 : decode b_CD_init 21 = .ok (.iload_n 2, 1) := by decide +kernel
theorem d_CD_init_22 : decode b_CD_init 22 = .ok (.bipush 8, 2) := by decide +kernel
theorem d_CD_init_24 : decode b_CD_init 24 = .ok (.invokestatic 9, 3) := by decide +kernel
theorem d_CD_init_27 : decode b_CD_init 27 = .ok (.invokestatic 15, 3) := by decide +kernel
theorem d_CD_init_30 : decode b_CD_init 30 = .ok (.putfield 22, 3) := by decide +kernel
theorem d_CD_init_33 : decode b_CD_init 33 = .ok (.aload_n 0, 1) := by decide +kernel
theorem d_CD_init_34 : decode b_CD_init 34 = .ok (.new 25, 3) := by decide +kernel
theorem d_CD_init_37 : decode b_CD_init 37 = .ok (.dup, 1) := by decide +kernel
theorem d_CD_init_38 : decode b_CD_init 38 = .ok (.invokespecial 27, 3) := by decide +kernel
theorem d_CD_init_41 : decode b_CD_init 41 = .ok (.putfield 28, 3) := by decide +kernel
theorem d_CD_init_44 : decode b_CD_init 44 = .ok (.aload_n 0, 1) := by decide +kernel
theorem d_CD_init_45 : decode b_CD_init 45 = .ok (.new 32, 3) := by decide +kernel
theorem d_CD_init_48 : decode b_CD_init 48 = .ok (.dup, 1) := by decide +kernel
theorem d_CD_init_49 : decode b_CD_init 49 = .ok (.invokespecial 34, 3) := by decide +kernel
theorem d_CD_init_52 : decode b_CD_init 52 = .ok (.putfield 35, 3) := by decide +kernel
theorem d_CD_init_55 : decode b_CD_init 55 = .ok (.aload_n 0, 1) := by decide +kernel
theorem d_CD_init_56 : decode b_CD_init 56 = .ok (.new 39, 3) := by decide +kernel
theorem d_CD_init_59 : decode b_CD_init 59 = .ok (.dup, 1) := by decide +kernel
theorem d_CD_init_60 : decode b_CD_init 60 = .ok (.invokespecial 41, 3) := by decide +kernel
theorem d_CD_init_63 : decode b_CD_init 63 = .ok (.putfield 42, 3) := by decide +kernel
theorem d_CD_init_66 : decode b_CD_init 66 = .ok (.aload_n 0, 1) := by decide +kernel
theorem d_CD_init_67 : decode b_CD_init 67 = .ok (.iconst 0, 1) := by decide +kernel
theorem d_CD_init_68 : decode b_CD_init 68 = .ok (.putfield 46, 3) := by decide +kernel
theorem d_CD_init_71 : decode b_CD_init 71 = .ok (.return_, 1) := by decide +kernel
theorem d_CD_route_0 : decode b_CD_route 0 = .ok (.iload_n 1, 1) := by decide +kernel
theorem d_CD_route_1 : decode b_CD_route 1 = .ok (.invokestatic 49, 3) := by decide +kernel
theorem d_CD_route_4 : decode b_CD_route 4 = .ok (.iload_n 2, 1) := by decide +kernel
theorem d_CD_route_5 : decode b_CD_route 5 = .ok (.iload_n 3, 1) := by decide +kernel
theorem d_CD_route_6 : decode b_CD_route 6 = .ok (.invokestatic 53, 3) := by decide +kernel
theorem d_CD_route_9 : decode b_CD_route 9 = .ok (.aload_n 0, 1) := by decide +kernel
theorem d_CD_route_10 : decode b_CD_route 10 = .ok (.getfield 28, 3) := by decide +kernel
theorem d_CD_route_13 : decode b_CD_route 13 = .ok (.iload_n 2, 1) := by decide +kernel
theorem d_CD_route_14 : decode b_CD_route 14 = .ok (.i2l, 1) := by decide +kernel
theorem d_CD_route_15 : decode b_CD_route 15 = .ok (.iload_n 3, 1) := by decide +kernel
theorem d_CD_route_16 : decode b_CD_route 16 = .ok (.invokevirtual 57, 3) := by decide +kernel
theorem d_CD_route_19 : decode b_CD_route 19 = .ok (.istore 4, 2) := by decide +kernel
theorem d_CD_route_21 : decode b_CD_route 21 = .ok (.iload 4, 2) := by decide +kernel
theorem d_CD_route_23 : decode b_CD_route 23 = .ok (.iconst (-1), 1) := by decide +kernel
theorem d_CD_route_24 : decode b_CD_route 24 = .ok (.if_icmp .eq 14, 3) := by decide +kernel
theorem d_CD_route_27 : decode b_CD_route 27 = .ok (.aload_n 0, 1) := by decide +kernel
theorem d_CD_route_28 : decode b_CD_route 28 = .ok (.getfield 28, 3) := by decide +kernel
theorem d_CD_route_31 : decode b_CD_route 31 = .ok (.iload 4, 2) := by decide +kernel
theorem d_CD_route_33 : decode b_CD_route 33 = .ok (.iload_n 1, 1) := by decide +kernel
theorem d_CD_route_34 : decode b_CD_route 34 = .ok (.invokevirtual 61, 3) := by decide +kernel
theorem d_CD_route_37 : decode b_CD_route 37 = .ok (.ireturn, 1) := by decide +kernel
theorem d_CD_route_38 : decode b_CD_route 38 = .ok (.aload_n 0, 1) := by decide +kernel
theorem d_CD_route_39 : decode b_CD_route 39 = .ok (.getfield 28, 3) := by decide +kernel
theorem d_CD_route_42 : decode b_CD_route 42 = .ok (.invokevirtual 64, 3) := by decide +kernel
theorem d_CD_route_45 : decode b_CD_route 45 = .ok (.ifCond .eq 13, 3) := by decide +kernel
theorem d_CD_route_48 : decode b_CD_route 48 = .ok (.new 68, 3) := by decide +kernel
theorem d_CD_route_51 : decode b_CD_route 51 = .ok (.dup, 1) := by decide +kernel
theorem d_CD_route_52 : decode b_CD_route 52 = .ok (.ldc 70, 2) := by decide +kernel
theorem d_CD_route_54 : decode b_CD_route 54 = .ok (.invokespecial 72, 3) := by decide +kernel
theorem d_CD_route_57 : decode b_CD_route 57 = .ok (.athrow, 1) := by decide +kernel
theorem d_CD_route_58 : decode b_CD_route 58 = .ok (.aload_n 0, 1) := by decide +kernel
theorem d_CD_route_59 : decode b_CD_route 59 = .ok (.getfield 28, 3) := by decide +kernel
theorem d_CD_route_62 : decode b_CD_route 62 = .ok (.iload_n 1, 1) := by decide +kernel
theorem d_CD_route_63 : decode b_CD_route 63 = .ok (.iload_n 2, 1) := by decide +kernel
theorem d_CD_route_64 : decode b_CD_route 64 = .ok (.iload_n 3, 1) := by decide +kernel
theorem d_CD_route_65 : decode b_CD_route 65 = .ok (.invokevirtual 75, 3) := by decide +kernel
theorem d_CD_route_68 : decode b_CD_route 68 = .ok (.iconst (-1), 1) := by decide +kernel
theorem d_CD_route_69 : decode b_CD_route 69 = .ok (.ireturn, 1) := by decide +kernel
theorem d_CD_unroute_0 : decode b_CD_unroute 0 = .ok (.iload_n 1, 1) := by decide +kernel
theorem d_CD_unroute_1 : decode b_CD_unroute 1 = .ok (.iload_n 2, 1) := by decide +kernel
theorem d_CD_unroute_2 : decode b_CD_unroute 2 = .ok (.invokestatic 53, 3) := by decide +kernel
theorem d_CD_unroute_5 : decode b_CD_unroute 5 = .ok (.aload_n 0, 1) := by decide +kernel
theorem d_CD_unroute_6 : decode b_CD_unroute 6 = .ok (.getfield 28, 3) := by decide +kernel
theorem d_CD_unroute_9 : decode b_CD_unroute 9 = .ok (.iload_n 1, 1) := by decide +kernel
theorem d_CD_unroute_10 : decode b_CD_unroute 10 = .ok (.i2l, 1) := by decide +kernel
theorem d_CD_unroute_11 : decode b_CD_unroute 11 = .ok (.iload_n 2, 1) := by decide +kernel
theorem d_CD_unroute_12 : decode b_CD_unroute 12 = .ok (.invokevirtual 57, 3) := by decide +kernel
theorem d_CD_unroute_15 : decode b_CD_unroute 15 = .ok (.istore_n 3, 1) := by decide +kernel
theorem d_CD_unroute_16 : decode b_CD_unroute 16 = .ok (.iload_n 3, 1) := by decide +kernel
theorem d_CD_unroute_17 : decode b_CD_unroute 17 = .ok (.iconst (-1), 1) := by decide +kernel
theorem d_CD_unroute_18 : decode b_CD_unroute 18 = .ok (.if_icmp .ne 7, 3) := by decide +kernel
theorem d_CD_unroute_21 : decode b_CD_unroute 21 = .ok (.iconst (-1), 1) := by decide +kernel
theorem d_CD_unroute_22 : decode b_CD_unroute 22 = .ok (.goto 11, 3) := by decide +kernel
theorem d_CD_unroute_25 : decode b_CD_unroute 25 = .ok (.aload_n 0, 1) := by decide +kernel
theorem d_CD_unroute_26 : decode b_CD_unroute 26 = .ok (.getfield 28, 3) := by decide +kernel
theorem d_CD_unroute_29 : decode b_CD_unroute 29 = .ok (.iload_n 3, 1) := by decide +kernel
theorem d_CD_unroute_30 : decode b_CD_unroute 30 = .ok (.invokevirtual 79, 3) := by decide +kernel
theorem d_CD_unroute_33 : decode b_CD_unroute 33 = .ok (.ireturn, 1) := by decide +kernel
theorem d_CD_routes_0 : decode b_CD_routes 0 = .ok (.aload_n 0, 1) := by decide +kernel
theorem d_CD_routes_1 : decode b_CD_routes 1 = .ok (.getfield 28, 3) := by decide +kernel
theorem d_CD_routes_4 : decode b_CD_routes 4 = .ok (.getfield 83, 3) := by decide +kernel
theorem d_CD_routes_7 : decode b_CD_routes 7 = .ok (.ireturn, 1) := by decide +kernel
theorem d_CD_account_0 : decode b_CD_account 0 = .ok (.iload_n 1, 1) := by decide +kernel
theorem d_CD_account_1 : decode b_CD_account 1 = .ok (.invokestatic 49, 3) := by decide +kernel
theorem d_CD_account_4 : decode b_CD_account 4 = .ok (.aload_n 0, 1) := by decide +kernel
theorem d_CD_account_5 : decode b_CD_account 5 = .ok (.getfield 35, 3) := by decide +kernel
theorem d_CD_account_8 : decode b_CD_account 8 = .ok (.invokevirtual 86, 3) := by decide +kernel
theorem d_CD_account_11 : decode b_CD_account 11 = .ok (.ifCond .eq 13, 3) := by decide +kernel
theorem d_CD_account_14 : decode b_CD_account 14 = .ok (.new 68, 3) := by decide +kernel
theorem d_CD_account_17 : decode b_CD_account 17 = .ok (.dup, 1) := by decide +kernel
theorem d_CD_account_18 : decode b_CD_account 18 = .ok (.ldc 87, 2) := by decide +kernel
theorem d_CD_account_20 : decode b_CD_account 20 = .ok (.invokespecial 72, 3) := by decide +kernel
theorem d_CD_account_23 : decode b_CD_account 23 = .ok (.athrow, 1) := by decide +kernel
theorem d_CD_account_24 : decode b_CD_account 24 = .ok (.aload_n 0, 1) := by decide +kernel
theorem d_CD_account_25 : decode b_CD_account 25 = .ok (.getfield 35, 3) := by decide +kernel
theorem d_CD_account_28 : decode b_CD_account 28 = .ok (.iload_n 1, 1) := by decide +kernel
theorem d_CD_account_29 : decode b_CD_account 29 = .ok (.invokevirtual 89, 3) := by decide +kernel
theorem d_CD_account_32 : decode b_CD_account 32 = .ok (.ireturn, 1) := by decide +kernel
theorem d_CD_card_0 : decode b_CD_card 0 = .ok (.lload_n 1, 1) := by decide +kernel
theorem d_CD_card_1 : decode b_CD_card 1 = .ok (.bipush 12, 2) := by decide +kernel
theorem d_CD_card_3 : decode b_CD_card 3 = .ok (.bipush 18, 2) := by decide +kernel
theorem d_CD_card_5 : decode b_CD_card 5 = .ok (.invokestatic 91, 3) := by decide +kernel
theorem d_CD_card_8 : decode b_CD_card 8 = .ok (.aload_n 0, 1) := by decide +kernel
theorem d_CD_card_9 : decode b_CD_card 9 = .ok (.iload_n 3, 1) := by decide +kernel
theorem d_CD_card_10 : decode b_CD_card 10 = .ok (.invokevirtual 95, 3) := by decide +kernel
theorem d_CD_card_13 : decode b_CD_card 13 = .ok (.aload_n 0, 1) := by decide +kernel
theorem d_CD_card_14 : decode b_CD_card 14 = .ok (.getfield 42, 3) := by decide +kernel
theorem d_CD_card_17 : decode b_CD_card 17 = .ok (.invokevirtual 98, 3) := by decide +kernel
theorem d_CD_card_20 : decode b_CD_card 20 = .ok (.ifCond .eq 13, 3) := by decide +kernel
theorem d_CD_card_23 : decode b_CD_card 23 = .ok (.new 68, 3) := by decide +kernel
theorem d_CD_card_26 : decode b_CD_card 26 = .ok (.dup, 1) := by decide +kernel
theorem d_CD_card_27 : decode b_CD_card 27 = .ok (.ldc 99, 2) := by decide +kernel
theorem d_CD_card_29 : decode b_CD_card 29 = .ok (.invokespecial 72, 3) := by decide +kernel
theorem d_CD_card_32 : decode b_CD_card 32 = .ok (.athrow, 1) := by decide +kernel
theorem d_CD_card_33 : decode b_CD_card 33 = .ok (.lload_n 1, 1) := by decide +kernel
theorem d_CD_card_34 : decode b_CD_card 34 = .ok (.invokestatic 101, 3) := by decide +kernel
theorem d_CD_card_37 : decode b_CD_card 37 = .ok (.ifCond .ne 6, 3) := by decide +kernel
theorem d_CD_card_40 : decode b_CD_card 40 = .ok (.bipush (-5), 2) := by decide +kernel
theorem d_CD_card_42 : decode b_CD_card 42 = .ok (.ireturn, 1) := by decide +kernel
theorem d_CD_card_43 : decode b_CD_card 43 = .ok (.aload_n 0, 1) := by decide +kernel
theorem d_CD_card_44 : decode b_CD_card 44 = .ok (.getfield 28, 3) := by decide +kernel
theorem d_CD_card_47 : decode b_CD_card 47 = .ok (.lload_n 1, 1) := by decide +kernel
theorem d_CD_card_48 : decode b_CD_card 48 = .ok (.invokevirtual 105, 3) := by decide +kernel
theorem d_CD_card_51 : decode b_CD_card 51 = .ok (.istore 4, 2) := by decide +kernel
theorem d_CD_card_53 : decode b_CD_card 53 = .ok (.iload 4, 2) := by decide +kernel
theorem d_CD_card_55 : decode b_CD_card 55 = .ok (.iconst (-1), 1) := by decide +kernel
theorem d_CD_card_56 : decode b_CD_card 56 = .ok (.if_icmp .ne 6, 3) := by decide +kernel
theorem d_CD_card_59 : decode b_CD_card 59 = .ok (.bipush (-6), 2) := by decide +kernel
theorem d_CD_card_61 : decode b_CD_card 61 = .ok (.ireturn, 1) := by decide +kernel
theorem d_CD_card_62 : decode b_CD_card 62 = .ok (.iload 4, 2) := by decide +kernel
theorem d_CD_card_64 : decode b_CD_card 64 = .ok (.aload_n 0, 1) := by decide +kernel
theorem d_CD_card_65 : decode b_CD_card 65 = .ok (.getfield 35, 3) := by decide +kernel
theorem d_CD_card_68 : decode b_CD_card 68 = .ok (.iload_n 3, 1) := by decide +kernel
theorem d_CD_card_69 : decode b_CD_card 69 = .ok (.invokevirtual 109, 3) := by decide +kernel
theorem d_CD_card_72 : decode b_CD_card 72 = .ok (.if_icmp .eq 6, 3) := by decide +kernel
theorem d_CD_card_75 : decode b_CD_card 75 = .ok (.bipush (-7), 2) := by decide +kernel
theorem d_CD_card_77 : decode b_CD_card 77 = .ok (.ireturn, 1) := by decide +kernel
theorem d_CD_card_78 : decode b_CD_card 78 = .ok (.aload_n 0, 1) := by decide +kernel
theorem d_CD_card_79 : decode b_CD_card 79 = .ok (.getfield 42, 3) := by decide +kernel
theorem d_CD_card_82 : decode b_CD_card 82 = .ok (.lload_n 1, 1) := by decide +kernel
theorem d_CD_card_83 : decode b_CD_card 83 = .ok (.invokevirtual 112, 3) := by decide +kernel
theorem d_CD_card_86 : decode b_CD_card 86 = .ok (.iconst (-1), 1) := by decide +kernel
theorem d_CD_card_87 : decode b_CD_card 87 = .ok (.if_icmp .eq 6, 3) := by decide +kernel
theorem d_CD_card_90 : decode b_CD_card 90 = .ok (.bipush (-8), 2) := by decide +kernel
theorem d_CD_card_92 : decode b_CD_card 92 = .ok (.ireturn, 1) := by decide +kernel
theorem d_CD_card_93 : decode b_CD_card 93 = .ok (.aload_n 0, 1) := by decide +kernel
theorem d_CD_card_94 : decode b_CD_card 94 = .ok (.getfield 42, 3) := by decide +kernel
theorem d_CD_card_97 : decode b_CD_card 97 = .ok (.lload_n 1, 1) := by decide +kernel
theorem d_CD_card_98 : decode b_CD_card 98 = .ok (.iload_n 3, 1) := by decide +kernel
theorem d_CD_card_99 : decode b_CD_card 99 = .ok (.invokevirtual 114, 3) := by decide +kernel
theorem d_CD_card_102 : decode b_CD_card 102 = .ok (.ireturn, 1) := by decide +kernel
theorem d_CD_block_0 : decode b_CD_block 0 = .ok (.aload_n 0, 1) := by decide +kernel
theorem d_CD_block_1 : decode b_CD_block 1 = .ok (.iload_n 1, 1) := by decide +kernel
theorem d_CD_block_2 : decode b_CD_block 2 = .ok (.invokevirtual 116, 3) := by decide +kernel
theorem d_CD_block_5 : decode b_CD_block 5 = .ok (.aload_n 0, 1) := by decide +kernel
theorem d_CD_block_6 : decode b_CD_block 6 = .ok (.getfield 42, 3) := by decide +kernel
theorem d_CD_block_9 : decode b_CD_block 9 = .ok (.iload_n 1, 1) := by decide +kernel
theorem d_CD_block_10 : decode b_CD_block 10 = .ok (.iload_n 2, 1) := by decide +kernel
theorem d_CD_block_11 : decode b_CD_block 11 = .ok (.invokevirtual 119, 3) := by decide +kernel
theorem d_CD_block_14 : decode b_CD_block 14 = .ok (.ireturn, 1) := by decide +kernel
theorem d_CD_whose_0 : decode b_CD_whose 0 = .ok (.lload_n 1, 1) := by decide +kernel
theorem d_CD_whose_1 : decode b_CD_whose 1 = .ok (.iconst 1, 1) := by decide +kernel
theorem d_CD_whose_2 : decode b_CD_whose 2 = .ok (.bipush 18, 2) := by decide +kernel
theorem d_CD_whose_4 : decode b_CD_whose 4 = .ok (.invokestatic 91, 3) := by decide +kernel
theorem d_CD_whose_7 : decode b_CD_whose 7 = .ok (.aload_n 0, 1) := by decide +kernel
theorem d_CD_whose_8 : decode b_CD_whose 8 = .ok (.getfield 28, 3) := by decide +kernel
theorem d_CD_whose_11 : decode b_CD_whose 11 = .ok (.lload_n 1, 1) := by decide +kernel
theorem d_CD_whose_12 : decode b_CD_whose 12 = .ok (.invokevirtual 105, 3) := by decide +kernel
theorem d_CD_whose_15 : decode b_CD_whose 15 = .ok (.ireturn, 1) := by decide +kernel
theorem d_CD_good_0 : decode b_CD_good 0 = .ok (.lload_n 1, 1) := by decide +kernel
theorem d_CD_good_1 : decode b_CD_good 1 = .ok (.iconst 1, 1) := by decide +kernel
theorem d_CD_good_2 : decode b_CD_good 2 = .ok (.bipush 18, 2) := by decide +kernel
theorem d_CD_good_4 : decode b_CD_good 4 = .ok (.invokestatic 91, 3) := by decide +kernel
theorem d_CD_good_7 : decode b_CD_good 7 = .ok (.lload_n 1, 1) := by decide +kernel
theorem d_CD_good_8 : decode b_CD_good 8 = .ok (.invokestatic 101, 3) := by decide +kernel
theorem d_CD_good_11 : decode b_CD_good 11 = .ok (.ireturn, 1) := by decide +kernel
theorem d_CD_digit_0 : decode b_CD_digit 0 = .ok (.lload_n 1, 1) := by decide +kernel
theorem d_CD_digit_1 : decode b_CD_digit 1 = .ok (.iconst 1, 1) := by decide +kernel
theorem d_CD_digit_2 : decode b_CD_digit 2 = .ok (.bipush 17, 2) := by decide +kernel
theorem d_CD_digit_4 : decode b_CD_digit 4 = .ok (.invokestatic 91, 3) := by decide +kernel
theorem d_CD_digit_7 : decode b_CD_digit 7 = .ok (.bipush 10, 2) := by decide +kernel
theorem d_CD_digit_9 : decode b_CD_digit 9 = .ok (.lload_n 1, 1) := by decide +kernel
theorem d_CD_digit_10 : decode b_CD_digit 10 = .ok (.ldc2_w 123, 3) := by decide +kernel
theorem d_CD_digit_13 : decode b_CD_digit 13 = .ok (.lmul, 1) := by decide +kernel
theorem d_CD_digit_14 : decode b_CD_digit 14 = .ok (.invokestatic 125, 3) := by decide +kernel
theorem d_CD_digit_17 : decode b_CD_digit 17 = .ok (.bipush 10, 2) := by decide +kernel
theorem d_CD_digit_19 : decode b_CD_digit 19 = .ok (.irem, 1) := by decide +kernel
theorem d_CD_digit_20 : decode b_CD_digit 20 = .ok (.isub, 1) := by decide +kernel
theorem d_CD_digit_21 : decode b_CD_digit 21 = .ok (.bipush 10, 2) := by decide +kernel
theorem d_CD_digit_23 : decode b_CD_digit 23 = .ok (.irem, 1) := by decide +kernel
theorem d_CD_digit_24 : decode b_CD_digit 24 = .ok (.ireturn, 1) := by decide +kernel
theorem d_CD_use_0 : decode b_CD_use 0 = .ok (.lload_n 1, 1) := by decide +kernel
theorem d_CD_use_1 : decode b_CD_use 1 = .ok (.iconst 1, 1) := by decide +kernel
theorem d_CD_use_2 : decode b_CD_use 2 = .ok (.bipush 18, 2) := by decide +kernel
theorem d_CD_use_4 : decode b_CD_use 4 = .ok (.invokestatic 91, 3) := by decide +kernel
theorem d_CD_use_7 : decode b_CD_use 7 = .ok (.aload_n 0, 1) := by decide +kernel
theorem d_CD_use_8 : decode b_CD_use 8 = .ok (.iload_n 3, 1) := by decide +kernel
theorem d_CD_use_9 : decode b_CD_use 9 = .ok (.invokevirtual 128, 3) := by decide +kernel
theorem d_CD_use_12 : decode b_CD_use 12 = .ok (.aload_n 0, 1) := by decide +kernel
theorem d_CD_use_13 : decode b_CD_use 13 = .ok (.iload_n 3, 1) := by decide +kernel
theorem d_CD_use_14 : decode b_CD_use 14 = .ok (.putfield 46, 3) := by decide +kernel
theorem d_CD_use_17 : decode b_CD_use 17 = .ok (.aload_n 0, 1) := by decide +kernel
theorem d_CD_use_18 : decode b_CD_use 18 = .ok (.getfield 28, 3) := by decide +kernel
theorem d_CD_use_21 : decode b_CD_use 21 = .ok (.lload_n 1, 1) := by decide +kernel
theorem d_CD_use_22 : decode b_CD_use 22 = .ok (.invokevirtual 105, 3) := by decide +kernel
theorem d_CD_use_25 : decode b_CD_use 25 = .ok (.iconst (-1), 1) := by decide +kernel
theorem d_CD_use_26 : decode b_CD_use 26 = .ok (.if_icmp .ne 6, 3) := by decide +kernel
theorem d_CD_use_29 : decode b_CD_use 29 = .ok (.bipush 92, 2) := by decide +kernel
theorem d_CD_use_31 : decode b_CD_use 31 = .ok (.ireturn, 1) := by decide +kernel
theorem d_CD_use_32 : decode b_CD_use 32 = .ok (.lload_n 1, 1) := by decide +kernel
theorem d_CD_use_33 : decode b_CD_use 33 = .ok (.invokestatic 101, 3) := by decide +kernel
theorem d_CD_use_36 : decode b_CD_use 36 = .ok (.ifCond .eq 14, 3) := by decide +kernel
theorem d_CD_use_39 : decode b_CD_use 39 = .ok (.aload_n 0, 1) := by decide +kernel
theorem d_CD_use_40 : decode b_CD_use 40 = .ok (.getfield 42, 3) := by decide +kernel
theorem d_CD_use_43 : decode b_CD_use 43 = .ok (.lload_n 1, 1) := by decide +kernel
theorem d_CD_use_44 : decode b_CD_use 44 = .ok (.invokevirtual 112, 3) := by decide +kernel
theorem d_CD_use_47 : decode b_CD_use 47 = .ok (.goto 4, 3) := by decide +kernel
theorem d_CD_use_50 : decode b_CD_use 50 = .ok (.iconst (-1), 1) := by decide +kernel
theorem d_CD_use_51 : decode b_CD_use 51 = .ok (.istore 4, 2) := by decide +kernel
theorem d_CD_use_53 : decode b_CD_use 53 = .ok (.iload 4, 2) := by decide +kernel
theorem d_CD_use_55 : decode b_CD_use 55 = .ok (.iconst (-1), 1) := by decide +kernel
theorem d_CD_use_56 : decode b_CD_use 56 = .ok (.if_icmp .ne 6, 3) := by decide +kernel
theorem d_CD_use_59 : decode b_CD_use 59 = .ok (.bipush 14, 2) := by decide +kernel
theorem d_CD_use_61 : decode b_CD_use 61 = .ok (.ireturn, 1) := by decide +kernel
theorem d_CD_use_62 : decode b_CD_use 62 = .ok (.aload_n 0, 1) := by decide +kernel
theorem d_CD_use_63 : decode b_CD_use 63 = .ok (.getfield 42, 3) := by decide +kernel
theorem d_CD_use_66 : decode b_CD_use 66 = .ok (.iload 4, 2) := by decide +kernel
theorem d_CD_use_68 : decode b_CD_use 68 = .ok (.invokevirtual 131, 3) := by decide +kernel
theorem d_CD_use_71 : decode b_CD_use 71 = .ok (.ifCond .eq 6, 3) := by decide +kernel
theorem d_CD_use_74 : decode b_CD_use 74 = .ok (.bipush 62, 2) := by decide +kernel
theorem d_CD_use_76 : decode b_CD_use 76 = .ok (.ireturn, 1) := by decide +kernel
theorem d_CD_use_77 : decode b_CD_use 77 = .ok (.aload_n 0, 1) := by decide +kernel
theorem d_CD_use_78 : decode b_CD_use 78 = .ok (.getfield 42, 3) := by decide +kernel
theorem d_CD_use_81 : decode b_CD_use 81 = .ok (.iload 4, 2) := by decide +kernel
theorem d_CD_use_83 : decode b_CD_use 83 = .ok (.invokevirtual 135, 3) := by decide +kernel
theorem d_CD_use_86 : decode b_CD_use 86 = .ok (.istore 5, 2) := by decide +kernel
theorem d_CD_use_88 : decode b_CD_use 88 = .ok (.aload_n 0, 1) := by decide +kernel
theorem d_CD_use_89 : decode b_CD_use 89 = .ok (.getfield 35, 3) := by decide +kernel
theorem d_CD_use_92 : decode b_CD_use 92 = .ok (.iload 5, 2) := by decide +kernel
theorem d_CD_use_94 : decode b_CD_use 94 = .ok (.iload_n 3, 1) := by decide +kernel
theorem d_CD_use_95 : decode b_CD_use 95 = .ok (.aload_n 0, 1) := by decide +kernel
theorem d_CD_use_96 : decode b_CD_use 96 = .ok (.getfield 18, 3) := by decide +kernel
theorem d_CD_use_99 : decode b_CD_use 99 = .ok (.isub, 1) := by decide +kernel
theorem d_CD_use_100 : decode b_CD_use 100 = .ok (.invokevirtual 138, 3) := by decide +kernel
theorem d_CD_use_103 : decode b_CD_use 103 = .ok (.aload_n 0, 1) := by decide +kernel
theorem d_CD_use_104 : decode b_CD_use 104 = .ok (.getfield 22, 3) := by decide +kernel
theorem d_CD_use_107 : decode b_CD_use 107 = .ok (.if_icmp .lt 6, 3) := by decide +kernel
theorem d_CD_use_110 : decode b_CD_use 110 = .ok (.bipush 65, 2) := by decide +kernel
theorem d_CD_use_112 : decode b_CD_use 112 = .ok (.ireturn, 1) := by decide +kernel
theorem d_CD_use_113 : decode b_CD_use 113 = .ok (.aload_n 0, 1) := by decide +kernel
theorem d_CD_use_114 : decode b_CD_use 114 = .ok (.getfield 35, 3) := by decide +kernel
theorem d_CD_use_117 : decode b_CD_use 117 = .ok (.iload 5, 2) := by decide +kernel
theorem d_CD_use_119 : decode b_CD_use 119 = .ok (.iload_n 3, 1) := by decide +kernel
theorem d_CD_use_120 : decode b_CD_use 120 = .ok (.invokevirtual 141, 3) := by decide +kernel
theorem d_CD_use_123 : decode b_CD_use 123 = .ok (.iconst 0, 1) := by decide +kernel
theorem d_CD_use_124 : decode b_CD_use 124 = .ok (.ireturn, 1) := by decide +kernel
theorem d_CD_used_0 : decode b_CD_used 0 = .ok (.aload_n 0, 1) := by decide +kernel
theorem d_CD_used_1 : decode b_CD_used 1 = .ok (.iload_n 1, 1) := by decide +kernel
theorem d_CD_used_2 : decode b_CD_used 2 = .ok (.invokevirtual 95, 3) := by decide +kernel
theorem d_CD_used_5 : decode b_CD_used 5 = .ok (.aload_n 0, 1) := by decide +kernel
theorem d_CD_used_6 : decode b_CD_used 6 = .ok (.iload_n 2, 1) := by decide +kernel
theorem d_CD_used_7 : decode b_CD_used 7 = .ok (.invokevirtual 128, 3) := by decide +kernel
theorem d_CD_used_10 : decode b_CD_used 10 = .ok (.aload_n 0, 1) := by decide +kernel
theorem d_CD_used_11 : decode b_CD_used 11 = .ok (.getfield 35, 3) := by decide +kernel
theorem d_CD_used_14 : decode b_CD_used 14 = .ok (.iload_n 1, 1) := by decide +kernel
theorem d_CD_used_15 : decode b_CD_used 15 = .ok (.iload_n 2, 1) := by decide +kernel
theorem d_CD_used_16 : decode b_CD_used 16 = .ok (.aload_n 0, 1) := by decide +kernel
theorem d_CD_used_17 : decode b_CD_used 17 = .ok (.getfield 18, 3) := by decide +kernel
theorem d_CD_used_20 : decode b_CD_used 20 = .ok (.isub, 1) := by decide +kernel
theorem d_CD_used_21 : decode b_CD_used 21 = .ok (.invokevirtual 138, 3) := by decide +kernel
theorem d_CD_used_24 : decode b_CD_used 24 = .ok (.ireturn, 1) := by decide +kernel
theorem d_CD_told_0 : decode b_CD_told 0 = .ok (.aload_n 0, 1) := by decide +kernel
theorem d_CD_told_1 : decode b_CD_told 1 = .ok (.iload_n 1, 1) := by decide +kernel
theorem d_CD_told_2 : decode b_CD_told 2 = .ok (.invokevirtual 116, 3) := by decide +kernel
theorem d_CD_told_5 : decode b_CD_told 5 = .ok (.iload_n 2, 1) := by decide +kernel
theorem d_CD_told_6 : decode b_CD_told 6 = .ok (.tableswitch 87 0 3 #[30, 40, 53, 70], 30) := by decide +kernel
theorem d_CD_told_36 : decode b_CD_told 36 = .ok (.aload_n 0, 1) := by decide +kernel
theorem d_CD_told_37 : decode b_CD_told 37 = .ok (.getfield 42, 3) := by decide +kernel
theorem d_CD_told_40 : decode b_CD_told 40 = .ok (.iload_n 1, 1) := by decide +kernel
theorem d_CD_told_41 : decode b_CD_told 41 = .ok (.invokevirtual 135, 3) := by decide +kernel
theorem d_CD_told_44 : decode b_CD_told 44 = .ok (.i2l, 1) := by decide +kernel
theorem d_CD_told_45 : decode b_CD_told 45 = .ok (.lreturn, 1) := by decide +kernel
theorem d_CD_told_46 : decode b_CD_told 46 = .ok (.aload_n 0, 1) := by decide +kernel
theorem d_CD_told_47 : decode b_CD_told 47 = .ok (.getfield 42, 3) := by decide +kernel
theorem d_CD_told_50 : decode b_CD_told 50 = .ok (.iload_n 1, 1) := by decide +kernel
theorem d_CD_told_51 : decode b_CD_told 51 = .ok (.invokevirtual 144, 3) := by decide +kernel
theorem d_CD_told_54 : decode b_CD_told 54 = .ok (.invokestatic 148, 3) := by decide +kernel
theorem d_CD_told_57 : decode b_CD_told 57 = .ok (.i2l, 1) := by decide +kernel
theorem d_CD_told_58 : decode b_CD_told 58 = .ok (.lreturn, 1) := by decide +kernel
theorem d_CD_told_59 : decode b_CD_told 59 = .ok (.aload_n 0, 1) := by decide +kernel
theorem d_CD_told_60 : decode b_CD_told 60 = .ok (.getfield 42, 3) := by decide +kernel
theorem d_CD_told_63 : decode b_CD_told 63 = .ok (.iload_n 1, 1) := by decide +kernel
theorem d_CD_told_64 : decode b_CD_told 64 = .ok (.invokevirtual 131, 3) := by decide +kernel
theorem d_CD_told_67 : decode b_CD_told 67 = .ok (.ifCond .eq 7, 3) := by decide +kernel
theorem d_CD_told_70 : decode b_CD_told 70 = .ok (.lconst 1, 1) := by decide +kernel
theorem d_CD_told_71 : decode b_CD_told 71 = .ok (.goto 4, 3) := by decide +kernel
theorem d_CD_told_74 : decode b_CD_told 74 = .ok (.lconst 0, 1) := by decide +kernel
theorem d_CD_told_75 : decode b_CD_told 75 = .ok (.lreturn, 1) := by decide +kernel
theorem d_CD_told_76 : decode b_CD_told 76 = .ok (.aload_n 0, 1) := by decide +kernel
theorem d_CD_told_77 : decode b_CD_told 77 = .ok (.getfield 28, 3) := by decide +kernel
theorem d_CD_told_80 : decode b_CD_told 80 = .ok (.aload_n 0, 1) := by decide +kernel
theorem d_CD_told_81 : decode b_CD_told 81 = .ok (.getfield 42, 3) := by decide +kernel
theorem d_CD_told_84 : decode b_CD_told 84 = .ok (.iload_n 1, 1) := by decide +kernel
theorem d_CD_told_85 : decode b_CD_told 85 = .ok (.invokevirtual 144, 3) := by decide +kernel
theorem d_CD_told_88 : decode b_CD_told 88 = .ok (.invokevirtual 105, 3) := by decide +kernel
theorem d_CD_told_91 : decode b_CD_told 91 = .ok (.i2l, 1) := by decide +kernel
theorem d_CD_told_92 : decode b_CD_told 92 = .ok (.lreturn, 1) := by decide +kernel
theorem d_CD_told_93 : decode b_CD_told 93 = .ok (.new 151, 3) := by decide +kernel
theorem d_CD_told_96 : decode b_CD_told 96 = .ok (.dup, 1) := by decide +kernel
theorem d_CD_told_97 : decode b_CD_told 97 = .ok (.ldc 153, 2) := by decide +kernel
theorem d_CD_told_99 : decode b_CD_told 99 = .ok (.invokespecial 155, 3) := by decide +kernel
theorem d_CD_told_102 : decode b_CD_told 102 = .ok (.athrow, 1) := by decide +kernel
theorem d_CD_requireIssuer_0 : decode b_CD_requireIssuer 0 = .ok (.iload_n 0, 1) := by decide +kernel
theorem d_CD_requireIssuer_1 : decode b_CD_requireIssuer 1 = .ok (.ifCond .lt 9, 3) := by decide +kernel
theorem d_CD_requireIssuer_4 : decode b_CD_requireIssuer 4 = .ok (.iload_n 0, 1) := by decide +kernel
theorem d_CD_requireIssuer_5 : decode b_CD_requireIssuer 5 = .ok (.bipush 6, 2) := by decide +kernel
theorem d_CD_requireIssuer_7 : decode b_CD_requireIssuer 7 = .ok (.if_icmp .lt 13, 3) := by decide +kernel
theorem d_CD_requireIssuer_10 : decode b_CD_requireIssuer 10 = .ok (.new 151, 3) := by decide +kernel
theorem d_CD_requireIssuer_13 : decode b_CD_requireIssuer 13 = .ok (.dup, 1) := by decide +kernel
theorem d_CD_requireIssuer_14 : decode b_CD_requireIssuer 14 = .ok (.ldc 156, 2) := by decide +kernel
theorem d_CD_requireIssuer_16 : decode b_CD_requireIssuer 16 = .ok (.invokespecial 155, 3) := by decide +kernel
theorem d_CD_requireIssuer_19 : decode b_CD_requireIssuer 19 = .ok (.athrow, 1) := by decide +kernel
theorem d_CD_requireIssuer_20 : decode b_CD_requireIssuer 20 = .ok (.return_, 1) := by decide +kernel
theorem d_CD_requirePrefix_0 : decode b_CD_requirePrefix 0 = .ok (.iload_n 1, 1) := by decide +kernel
theorem d_CD_requirePrefix_1 : decode b_CD_requirePrefix 1 = .ok (.iconst 1, 1) := by decide +kernel
theorem d_CD_requirePrefix_2 : decode b_CD_requirePrefix 2 = .ok (.if_icmp .lt 9, 3) := by decide +kernel
theorem d_CD_requirePrefix_5 : decode b_CD_requirePrefix 5 = .ok (.iload_n 1, 1) := by decide +kernel
theorem d_CD_requirePrefix_6 : decode b_CD_requirePrefix 6 = .ok (.bipush 8, 2) := by decide +kernel
theorem d_CD_requirePrefix_8 : decode b_CD_requirePrefix 8 = .ok (.if_icmp .le 13, 3) := by decide +kernel
theorem d_CD_requirePrefix_11 : decode b_CD_requirePrefix 11 = .ok (.new 151, 3) := by decide +kernel
theorem d_CD_requirePrefix_14 : decode b_CD_requirePrefix 14 = .ok (.dup, 1) := by decide +kernel
theorem d_CD_requirePrefix_15 : decode b_CD_requirePrefix 15 = .ok (.ldc 158, 2) := by decide +kernel
theorem d_CD_requirePrefix_17 : decode b_CD_requirePrefix 17 = .ok (.invokespecial 155, 3) := by decide +kernel
theorem d_CD_requirePrefix_20 : decode b_CD_requirePrefix 20 = .ok (.athrow, 1) := by decide +kernel
theorem d_CD_requirePrefix_21 : decode b_CD_requirePrefix 21 = .ok (.iload_n 0, 1) := by decide +kernel
theorem d_CD_requirePrefix_22 : decode b_CD_requirePrefix 22 = .ok (.ifCond .lt 12, 3) := by decide +kernel
theorem d_CD_requirePrefix_25 : decode b_CD_requirePrefix 25 = .ok (.iload_n 0, 1) := by decide +kernel
theorem d_CD_requirePrefix_26 : decode b_CD_requirePrefix 26 = .ok (.i2l, 1) := by decide +kernel
theorem d_CD_requirePrefix_27 : decode b_CD_requirePrefix 27 = .ok (.invokestatic 148, 3) := by decide +kernel
theorem d_CD_requirePrefix_30 : decode b_CD_requirePrefix 30 = .ok (.iload_n 1, 1) := by decide +kernel
theorem d_CD_requirePrefix_31 : decode b_CD_requirePrefix 31 = .ok (.if_icmp .le 13, 3) := by decide +kernel
theorem d_CD_requirePrefix_34 : decode b_CD_requirePrefix 34 = .ok (.new 151, 3) := by decide +kernel
theorem d_CD_requirePrefix_37 : decode b_CD_requirePrefix 37 = .ok (.dup, 1) := by decide +kernel
theorem d_CD_requirePrefix_38 : decode b_CD_requirePrefix 38 = .ok (.ldc 160, 2) := by decide +kernel
theorem d_CD_requirePrefix_40 : decode b_CD_requirePrefix 40 = .ok (.invokespecial 155, 3) := by decide +kernel
theorem d_CD_requirePrefix_43 : decode b_CD_requirePrefix 43 = .ok (.athrow, 1) := by decide +kernel
theorem d_CD_requirePrefix_44 : decode b_CD_requirePrefix 44 = .ok (.return_, 1) := by decide +kernel
theorem d_CD_requireDigits_0 : decode b_CD_requireDigits 0 = .ok (.lload_n 0, 1) := by decide +kernel
theorem d_CD_requireDigits_1 : decode b_CD_requireDigits 1 = .ok (.invokestatic 148, 3) := by decide +kernel
theorem d_CD_requireDigits_4 : decode b_CD_requireDigits 4 = .ok (.istore 4, 2) := by decide +kernel
theorem d_CD_requireDigits_6 : decode b_CD_requireDigits 6 = .ok (.iload 4, 2) := by decide +kernel
theorem d_CD_requireDigits_8 : decode b_CD_requireDigits 8 = .ok (.iload_n 2, 1) := by decide +kernel
theorem d_CD_requireDigits_9 : decode b_CD_requireDigits 9 = .ok (.if_icmp .lt 9, 3) := by decide +kernel
theorem d_CD_requireDigits_12 : decode b_CD_requireDigits 12 = .ok (.iload 4, 2) := by decide +kernel
theorem d_CD_requireDigits_14 : decode b_CD_requireDigits 14 = .ok (.iload_n 3, 1) := by decide +kernel
theorem d_CD_requireDigits_15 : decode b_CD_requireDigits 15 = .ok (.if_icmp .le 13, 3) := by decide +kernel
theorem d_CD_requireDigits_18 : decode b_CD_requireDigits 18 = .ok (.new 151, 3) := by decide +kernel
theorem d_CD_requireDigits_21 : decode b_CD_requireDigits 21 = .ok (.dup, 1) := by decide +kernel
theorem d_CD_requireDigits_22 : decode b_CD_requireDigits 22 = .ok (.ldc 162, 2) := by decide +kernel
theorem d_CD_requireDigits_24 : decode b_CD_requireDigits 24 = .ok (.invokespecial 155, 3) := by decide +kernel
theorem d_CD_requireDigits_27 : decode b_CD_requireDigits 27 = .ok (.athrow, 1) := by decide +kernel
theorem d_CD_requireDigits_28 : decode b_CD_requireDigits 28 = .ok (.return_, 1) := by decide +kernel
theorem d_CD_requireAccount_0 : decode b_CD_requireAccount 0 = .ok (.aload_n 0, 1) := by decide +kernel
theorem d_CD_requireAccount_1 : decode b_CD_requireAccount 1 = .ok (.getfield 35, 3) := by decide +kernel
theorem d_CD_requireAccount_4 : decode b_CD_requireAccount 4 = .ok (.iload_n 1, 1) := by decide +kernel
theorem d_CD_requireAccount_5 : decode b_CD_requireAccount 5 = .ok (.invokevirtual 164, 3) := by decide +kernel
theorem d_CD_requireAccount_8 : decode b_CD_requireAccount 8 = .ok (.ifCond .ne 13, 3) := by decide +kernel
theorem d_CD_requireAccount_11 : decode b_CD_requireAccount 11 = .ok (.new 151, 3) := by decide +kernel
theorem d_CD_requireAccount_14 : decode b_CD_requireAccount 14 = .ok (.dup, 1) := by decide +kernel
theorem d_CD_requireAccount_15 : decode b_CD_requireAccount 15 = .ok (.ldc 167, 2) := by decide +kernel
theorem d_CD_requireAccount_17 : decode b_CD_requireAccount 17 = .ok (.invokespecial 155, 3) := by decide +kernel
theorem d_CD_requireAccount_20 : decode b_CD_requireAccount 20 = .ok (.athrow, 1) := by decide +kernel
theorem d_CD_requireAccount_21 : decode b_CD_requireAccount 21 = .ok (.return_, 1) := by decide +kernel
theorem d_CD_requireCard_0 : decode b_CD_requireCard 0 = .ok (.aload_n 0, 1) := by decide +kernel
theorem d_CD_requireCard_1 : decode b_CD_requireCard 1 = .ok (.getfield 42, 3) := by decide +kernel
theorem d_CD_requireCard_4 : decode b_CD_requireCard 4 = .ok (.iload_n 1, 1) := by decide +kernel
theorem d_CD_requireCard_5 : decode b_CD_requireCard 5 = .ok (.invokevirtual 169, 3) := by decide +kernel
theorem d_CD_requireCard_8 : decode b_CD_requireCard 8 = .ok (.ifCond .ne 13, 3) := by decide +kernel
theorem d_CD_requireCard_11 : decode b_CD_requireCard 11 = .ok (.new 151, 3) := by decide +kernel
theorem d_CD_requireCard_14 : decode b_CD_requireCard 14 = .ok (.dup, 1) := by decide +kernel
theorem d_CD_requireCard_15 : decode b_CD_requireCard 15 = .ok (.ldc 170, 2) := by decide +kernel
theorem d_CD_requireCard_17 : decode b_CD_requireCard 17 = .ok (.invokespecial 155, 3) := by decide +kernel
theorem d_CD_requireCard_20 : decode b_CD_requireCard 20 = .ok (.athrow, 1) := by decide +kernel
theorem d_CD_requireCard_21 : decode b_CD_requireCard 21 = .ok (.return_, 1) := by decide +kernel
theorem d_CD_requireTime_0 : decode b_CD_requireTime 0 = .ok (.iload_n 1, 1) := by decide +kernel
theorem d_CD_requireTime_1 : decode b_CD_requireTime 1 = .ok (.aload_n 0, 1) := by decide +kernel
theorem d_CD_requireTime_2 : decode b_CD_requireTime 2 = .ok (.getfield 46, 3) := by decide +kernel
theorem d_CD_requireTime_5 : decode b_CD_requireTime 5 = .ok (.if_icmp .ge 13, 3) := by decide +kernel
theorem d_CD_requireTime_8 : decode b_CD_requireTime 8 = .ok (.new 151, 3) := by decide +kernel
theorem d_CD_requireTime_11 : decode b_CD_requireTime 11 = .ok (.dup, 1) := by decide +kernel
theorem d_CD_requireTime_12 : decode b_CD_requireTime 12 = .ok (.ldc 172, 2) := by decide +kernel
theorem d_CD_requireTime_14 : decode b_CD_requireTime 14 = .ok (.invokespecial 155, 3) := by decide +kernel
theorem d_CD_requireTime_17 : decode b_CD_requireTime 17 = .ok (.athrow, 1) := by decide +kernel
theorem d_CD_requireTime_18 : decode b_CD_requireTime 18 = .ok (.return_, 1) := by decide +kernel
theorem d_CD_digitsOf_0 : decode b_CD_digitsOf 0 = .ok (.iconst 0, 1) := by decide +kernel
theorem d_CD_digitsOf_1 : decode b_CD_digitsOf 1 = .ok (.istore_n 2, 1) := by decide +kernel
theorem d_CD_digitsOf_2 : decode b_CD_digitsOf 2 = .ok (.lload_n 0, 1) := by decide +kernel
theorem d_CD_digitsOf_3 : decode b_CD_digitsOf 3 = .ok (.lstore_n 3, 1) := by decide +kernel
theorem d_CD_digitsOf_4 : decode b_CD_digitsOf 4 = .ok (.iload_n 2, 1) := by decide +kernel
theorem d_CD_digitsOf_5 : decode b_CD_digitsOf 5 = .ok (.bipush 19, 2) := by decide +kernel
theorem d_CD_digitsOf_7 : decode b_CD_digitsOf 7 = .ok (.if_icmp .ge 21, 3) := by decide +kernel
theorem d_CD_digitsOf_10 : decode b_CD_digitsOf 10 = .ok (.lload_n 3, 1) := by decide +kernel
theorem d_CD_digitsOf_11 : decode b_CD_digitsOf 11 = .ok (.lconst 0, 1) := by decide +kernel
theorem d_CD_digitsOf_12 : decode b_CD_digitsOf 12 = .ok (.lcmp, 1) := by decide +kernel
theorem d_CD_digitsOf_13 : decode b_CD_digitsOf 13 = .ok (.ifCond .le 15, 3) := by decide +kernel
theorem d_CD_digitsOf_16 : decode b_CD_digitsOf 16 = .ok (.lload_n 3, 1) := by decide +kernel
theorem d_CD_digitsOf_17 : decode b_CD_digitsOf 17 = .ok (.ldc2_w 123, 3) := by decide +kernel
theorem d_CD_digitsOf_20 : decode b_CD_digitsOf 20 = .ok (.ldiv, 1) := by decide +kernel
theorem d_CD_digitsOf_21 : decode b_CD_digitsOf 21 = .ok (.lstore_n 3, 1) := by decide +kernel
theorem d_CD_digitsOf_22 : decode b_CD_digitsOf 22 = .ok (.iinc 2 1, 3) := by decide +kernel
theorem d_CD_digitsOf_25 : decode b_CD_digitsOf 25 = .ok (.goto (-21), 3) := by decide +kernel
theorem d_CD_digitsOf_28 : decode b_CD_digitsOf 28 = .ok (.iload_n 2, 1) := by decide +kernel
theorem d_CD_digitsOf_29 : decode b_CD_digitsOf 29 = .ok (.ireturn, 1) := by decide +kernel
theorem d_CD_isGood_0 : decode b_CD_isGood 0 = .ok (.lload_n 0, 1) := by decide +kernel
theorem d_CD_isGood_1 : decode b_CD_isGood 1 = .ok (.invokestatic 125, 3) := by decide +kernel
theorem d_CD_isGood_4 : decode b_CD_isGood 4 = .ok (.bipush 10, 2) := by decide +kernel
theorem d_CD_isGood_6 : decode b_CD_isGood 6 = .ok (.irem, 1) := by decide +kernel
theorem d_CD_isGood_7 : decode b_CD_isGood 7 = .ok (.ifCond .ne 7, 3) := by decide +kernel
theorem d_CD_isGood_10 : decode b_CD_isGood 10 = .ok (.iconst 1, 1) := by decide +kernel
theorem d_CD_isGood_11 : decode b_CD_isGood 11 = .ok (.goto 4, 3) := by decide +kernel
theorem d_CD_isGood_14 : decode b_CD_isGood 14 = .ok (.iconst 0, 1) := by decide +kernel
theorem d_CD_isGood_15 : decode b_CD_isGood 15 = .ok (.ireturn, 1) := by decide +kernel
theorem d_CD_checkSum_0 : decode b_CD_checkSum 0 = .ok (.iconst 0, 1) := by decide +kernel
theorem d_CD_checkSum_1 : decode b_CD_checkSum 1 = .ok (.istore_n 2, 1) := by decide +kernel
theorem d_CD_checkSum_2 : decode b_CD_checkSum 2 = .ok (.lload_n 0, 1) := by decide +kernel
theorem d_CD_checkSum_3 : decode b_CD_checkSum 3 = .ok (.lstore_n 3, 1) := by decide +kernel
theorem d_CD_checkSum_4 : decode b_CD_checkSum 4 = .ok (.iconst 0, 1) := by decide +kernel
theorem d_CD_checkSum_5 : decode b_CD_checkSum 5 = .ok (.istore 5, 2) := by decide +kernel
theorem d_CD_checkSum_7 : decode b_CD_checkSum 7 = .ok (.iload 5, 2) := by decide +kernel
theorem d_CD_checkSum_9 : decode b_CD_checkSum 9 = .ok (.bipush 19, 2) := by decide +kernel
theorem d_CD_checkSum_11 : decode b_CD_checkSum 11 = .ok (.if_icmp .ge 49, 3) := by decide +kernel
theorem d_CD_checkSum_14 : decode b_CD_checkSum 14 = .ok (.lload_n 3, 1) := by decide +kernel
theorem d_CD_checkSum_15 : decode b_CD_checkSum 15 = .ok (.lconst 0, 1) := by decide +kernel
theorem d_CD_checkSum_16 : decode b_CD_checkSum 16 = .ok (.lcmp, 1) := by decide +kernel
theorem d_CD_checkSum_17 : decode b_CD_checkSum 17 = .ok (.ifCond .le 43, 3) := by decide +kernel
theorem d_CD_checkSum_20 : decode b_CD_checkSum 20 = .ok (.lload_n 3, 1) := by decide +kernel
theorem d_CD_checkSum_21 : decode b_CD_checkSum 21 = .ok (.ldc2_w 123, 3) := by decide +kernel
theorem d_CD_checkSum_24 : decode b_CD_checkSum 24 = .ok (.lrem, 1) := by decide +kernel
theorem d_CD_checkSum_25 : decode b_CD_checkSum 25 = .ok (.l2i, 1) := by decide +kernel
theorem d_CD_checkSum_26 : decode b_CD_checkSum 26 = .ok (.istore 6, 2) := by decide +kernel
theorem d_CD_checkSum_28 : decode b_CD_checkSum 28 = .ok (.iload_n 2, 1) := by decide +kernel
theorem d_CD_checkSum_29 : decode b_CD_checkSum 29 = .ok (.iload 5, 2) := by decide +kernel
theorem d_CD_checkSum_31 : decode b_CD_checkSum 31 = .ok (.iconst 2, 1) := by decide +kernel
theorem d_CD_checkSum_32 : decode b_CD_checkSum 32 = .ok (.irem, 1) := by decide +kernel
theorem d_CD_checkSum_33 : decode b_CD_checkSum 33 = .ok (.ifCond .ne 8, 3) := by decide +kernel
theorem d_CD_checkSum_36 : decode b_CD_checkSum 36 = .ok (.iload 6, 2) := by decide +kernel
theorem d_CD_checkSum_38 : decode b_CD_checkSum 38 = .ok (.goto 8, 3) := by decide +kernel
theorem d_CD_checkSum_41 : decode b_CD_checkSum 41 = .ok (.iload 6, 2) := by decide +kernel
theorem d_CD_checkSum_43 : decode b_CD_checkSum 43 = .ok (.invokestatic 174, 3) := by decide +kernel
theorem d_CD_checkSum_46 : decode b_CD_checkSum 46 = .ok (.iadd, 1) := by decide +kernel
theorem d_CD_checkSum_47 : decode b_CD_checkSum 47 = .ok (.istore_n 2, 1) := by decide +kernel
theorem d_CD_checkSum_48 : decode b_CD_checkSum 48 = .ok (.lload_n 3, 1) := by decide +kernel
theorem d_CD_checkSum_49 : decode b_CD_checkSum 49 = .ok (.ldc2_w 123, 3) := by decide +kernel
theorem d_CD_checkSum_52 : decode b_CD_checkSum 52 = .ok (.ldiv, 1) := by decide +kernel
theorem d_CD_checkSum_53 : decode b_CD_checkSum 53 = .ok (.lstore_n 3, 1) := by decide +kernel
theorem d_CD_checkSum_54 : decode b_CD_checkSum 54 = .ok (.iinc 5 1, 3) := by decide +kernel
theorem d_CD_checkSum_57 : decode b_CD_checkSum 57 = .ok (.goto (-50), 3) := by decide +kernel
theorem d_CD_checkSum_60 : decode b_CD_checkSum 60 = .ok (.iload_n 2, 1) := by decide +kernel
theorem d_CD_checkSum_61 : decode b_CD_checkSum 61 = .ok (.ireturn, 1) := by decide +kernel
theorem d_CD_doubled_0 : decode b_CD_doubled 0 = .ok (.iconst 2, 1) := by decide +kernel
theorem d_CD_doubled_1 : decode b_CD_doubled 1 = .ok (.iload_n 0, 1) := by decide +kernel
theorem d_CD_doubled_2 : decode b_CD_doubled 2 = .ok (.imul, 1) := by decide +kernel
theorem d_CD_doubled_3 : decode b_CD_doubled 3 = .ok (.istore_n 1, 1) := by decide +kernel
theorem d_CD_doubled_4 : decode b_CD_doubled 4 = .ok (.iload_n 1, 1) := by decide +kernel
theorem d_CD_doubled_5 : decode b_CD_doubled 5 = .ok (.bipush 9, 2) := by decide +kernel
theorem d_CD_doubled_7 : decode b_CD_doubled 7 = .ok (.if_icmp .le 10, 3) := by decide +kernel
theorem d_CD_doubled_10 : decode b_CD_doubled 10 = .ok (.iload_n 1, 1) := by decide +kernel
theorem d_CD_doubled_11 : decode b_CD_doubled 11 = .ok (.bipush 9, 2) := by decide +kernel
theorem d_CD_doubled_13 : decode b_CD_doubled 13 = .ok (.isub, 1) := by decide +kernel
theorem d_CD_doubled_14 : decode b_CD_doubled 14 = .ok (.goto 4, 3) := by decide +kernel
theorem d_CD_doubled_17 : decode b_CD_doubled 17 = .ok (.iload_n 1, 1) := by decide +kernel
theorem d_CD_doubled_18 : decode b_CD_doubled 18 = .ok (.ireturn, 1) := by decide +kernel
