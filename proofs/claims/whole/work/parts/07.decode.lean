theorem d_MO_init_0 : decode b_MO_init 0 = .ok (.aload_n 0, 1) := by decide +kernel
theorem d_MO_init_1 : decode b_MO_init 1 = .ok (.invokespecial 1, 3) := by decide +kernel
theorem d_MO_init_4 : decode b_MO_init 4 = .ok (.aload_n 0, 1) := by decide +kernel
theorem d_MO_init_5 : decode b_MO_init 5 = .ok (.bipush 40, 2) := by decide +kernel
theorem d_MO_init_7 : decode b_MO_init 7 = .ok (.newarray .int, 2) := by decide +kernel
theorem d_MO_init_9 : decode b_MO_init 9 = .ok (.putfield 7, 3) := by decide +kernel
theorem d_MO_init_12 : decode b_MO_init 12 = .ok (.aload_n 0, 1) := by decide +kernel
theorem d_MO_init_13 : decode b_MO_init 13 = .ok (.bipush 40, 2) := by decide +kernel
theorem d_MO_init_15 : decode b_MO_init 15 = .ok (.newarray .int, 2) := by decide +kernel
theorem d_MO_init_17 : decode b_MO_init 17 = .ok (.putfield 13, 3) := by decide +kernel
theorem d_MO_init_20 : decode b_MO_init 20 = .ok (.aload_n 0, 1) := by decide +kernel
theorem d_MO_init_21 : decode b_MO_init 21 = .ok (.bipush 40, 2) := by decide +kernel
theorem d_MO_init_23 : decode b_MO_init 23 = .ok (.newarray .int, 2) := by decide +kernel
theorem d_MO_init_25 : decode b_MO_init 25 = .ok (.putfield 16, 3) := by decide +kernel
theorem d_MO_init_28 : decode b_MO_init 28 = .ok (.aload_n 0, 1) := by decide +kernel
theorem d_MO_init_29 : decode b_MO_init 29 = .ok (.bipush 64, 2) := by decide +kernel
theorem d_MO_init_31 : decode b_MO_init 31 = .ok (.newarray .int, 2) := by decide +kernel
theorem d_MO_init_33 : decode b_MO_init 33 = .ok (.putfield 19, 3) := by decide +kernel
theorem d_MO_init_36 : decode b_MO_init 36 = .ok (.aload_n 0, 1) := by decide +kernel
theorem d_MO_init_37 : decode b_MO_init 37 = .ok (.bipush 64, 2) := by decide +kernel
theorem d_MO_init_39 : decode b_MO_init 39 = .ok (.newarray .int, 2) := by decide +kernel
theorem d_MO_init_41 : decode b_MO_init 41 = .ok (.putfield 22, 3) := by decide +kernel
theorem d_MO_init_44 : decode b_MO_init 44 = .ok (.aload_n 0, 1) := by decide +kernel
theorem d_MO_init_45 : decode b_MO_init 45 = .ok (.sipush 512, 3) := by decide +kernel
theorem d_MO_init_48 : decode b_MO_init 48 = .ok (.newarray .int, 2) := by decide +kernel
theorem d_MO_init_50 : decode b_MO_init 50 = .ok (.putfield 25, 3) := by decide +kernel
theorem d_MO_init_53 : decode b_MO_init 53 = .ok (.aload_n 0, 1) := by decide +kernel
theorem d_MO_init_54 : decode b_MO_init 54 = .ok (.bipush 100, 2) := by decide +kernel
theorem d_MO_init_56 : decode b_MO_init 56 = .ok (.newarray .long, 2) := by decide +kernel
theorem d_MO_init_58 : decode b_MO_init 58 = .ok (.putfield 28, 3) := by decide +kernel
theorem d_MO_init_61 : decode b_MO_init 61 = .ok (.aload_n 0, 1) := by decide +kernel
theorem d_MO_init_62 : decode b_MO_init 62 = .ok (.bipush 100, 2) := by decide +kernel
theorem d_MO_init_64 : decode b_MO_init 64 = .ok (.newarray .int, 2) := by decide +kernel
theorem d_MO_init_66 : decode b_MO_init 66 = .ok (.putfield 32, 3) := by decide +kernel
theorem d_MO_init_69 : decode b_MO_init 69 = .ok (.aload_n 0, 1) := by decide +kernel
theorem d_MO_init_70 : decode b_MO_init 70 = .ok (.bipush 100, 2) := by decide +kernel
theorem d_MO_init_72 : decode b_MO_init 72 = .ok (.newarray .boolean, 2) := by decide +kernel
theorem d_MO_init_74 : decode b_MO_init 74 = .ok (.putfield 35, 3) := by decide +kernel
theorem d_MO_init_77 : decode b_MO_init 77 = .ok (.aload_n 0, 1) := by decide +kernel
theorem d_MO_init_78 : decode b_MO_init 78 = .ok (.iload_n 1, 1) := by decide +kernel
theorem d_MO_init_79 : decode b_MO_init 79 = .ok (.iconst 1, 1) := by decide +kernel
theorem d_MO_init_80 : decode b_MO_init 80 = .ok (.if_icmp .ge 7, 3) := by decide +kernel
theorem d_MO_init_83 : decode b_MO_init 83 = .ok (.iconst 1, 1) := by decide +kernel
theorem d_MO_init_84 : decode b_MO_init 84 = .ok (.goto 17, 3) := by decide +kernel
theorem d_MO_init_87 : decode b_MO_init 87 = .ok (.iload_n 1, 1) := by decide +kernel
theorem d_MO_init_88 : decode b_MO_init 88 = .ok (.sipush 5000, 3) := by decide +kernel
theorem d_MO_init_91 : decode b_MO_init 91 = .ok (.if_icmp .le 9, 3) := by decide +kernel
theorem d_MO_init_94 : decode b_MO_init 94 = .ok (.sipush 5000, 3) := by decide +kernel
theorem d_MO_init_97 : decode b_MO_init 97 = .ok (.goto 4, 3) := by decide +kernel
theorem d_MO_init_100 : decode b_MO_init 100 = .ok (.iload_n 1, 1) := by decide +kernel
theorem d_MO_init_101 : decode b_MO_init 101 = .ok (.putfield 39, 3) := by decide +kernel
theorem d_MO_init_104 : decode b_MO_init 104 = .ok (.aload_n 0, 1) := by decide +kernel
theorem d_MO_init_105 : decode b_MO_init 105 = .ok (.iload_n 2, 1) := by decide +kernel
theorem d_MO_init_106 : decode b_MO_init 106 = .ok (.iconst 1, 1) := by decide +kernel
theorem d_MO_init_107 : decode b_MO_init 107 = .ok (.if_icmp .ge 7, 3) := by decide +kernel
theorem d_MO_init_110 : decode b_MO_init 110 = .ok (.iconst 1, 1) := by decide +kernel
theorem d_MO_init_111 : decode b_MO_init 111 = .ok (.goto 15, 3) := by decide +kernel
theorem d_MO_init_114 : decode b_MO_init 114 = .ok (.iload_n 2, 1) := by decide +kernel
theorem d_MO_init_115 : decode b_MO_init 115 = .ok (.bipush 8, 2) := by decide +kernel
theorem d_MO_init_117 : decode b_MO_init 117 = .ok (.if_icmp .le 8, 3) := by decide +kernel
theorem d_MO_init_120 : decode b_MO_init 120 = .ok (.bipush 8, 2) := by decide +kernel
theorem d_MO_init_122 : decode b_MO_init 122 = .ok (.goto 4, 3) := by decide +kernel
theorem d_MO_init_125 : decode b_MO_init 125 = .ok (.iload_n 2, 1) := by decide +kernel
theorem d_MO_init_126 : decode b_MO_init 126 = .ok (.putfield 43, 3) := by decide +kernel
theorem d_MO_init_129 : decode b_MO_init 129 = .ok (.return_, 1) := by decide +kernel
theorem d_MO_thrown_0 : decode b_MO_thrown 0 = .ok (.aload_n 0, 1) := by decide +kernel
theorem d_MO_thrown_1 : decode b_MO_thrown 1 = .ok (.getfield 46, 3) := by decide +kernel
theorem d_MO_thrown_4 : decode b_MO_thrown 4 = .ok (.ireturn, 1) := by decide +kernel
theorem d_MO_goes_0 : decode b_MO_goes 0 = .ok (.aload_n 0, 1) := by decide +kernel
theorem d_MO_goes_1 : decode b_MO_goes 1 = .ok (.iload_n 1, 1) := by decide +kernel
theorem d_MO_goes_2 : decode b_MO_goes 2 = .ok (.ifCond .ne 7, 3) := by decide +kernel
theorem d_MO_goes_5 : decode b_MO_goes 5 = .ok (.iconst 1, 1) := by decide +kernel
theorem d_MO_goes_6 : decode b_MO_goes 6 = .ok (.goto 12, 3) := by decide +kernel
theorem d_MO_goes_9 : decode b_MO_goes 9 = .ok (.iload_n 2, 1) := by decide +kernel
theorem d_MO_goes_10 : decode b_MO_goes 10 = .ok (.ifCond .ne 7, 3) := by decide +kernel
theorem d_MO_goes_13 : decode b_MO_goes 13 = .ok (.iconst 2, 1) := by decide +kernel
theorem d_MO_goes_14 : decode b_MO_goes 14 = .ok (.goto 4, 3) := by decide +kernel
theorem d_MO_goes_17 : decode b_MO_goes 17 = .ok (.iconst 0, 1) := by decide +kernel
theorem d_MO_goes_18 : decode b_MO_goes 18 = .ok (.putfield 46, 3) := by decide +kernel
theorem d_MO_goes_21 : decode b_MO_goes 21 = .ok (.aload_n 0, 1) := by decide +kernel
theorem d_MO_goes_22 : decode b_MO_goes 22 = .ok (.getfield 46, 3) := by decide +kernel
theorem d_MO_goes_25 : decode b_MO_goes 25 = .ok (.ifCond .ne 7, 3) := by decide +kernel
theorem d_MO_goes_28 : decode b_MO_goes 28 = .ok (.iconst 1, 1) := by decide +kernel
theorem d_MO_goes_29 : decode b_MO_goes 29 = .ok (.goto 4, 3) := by decide +kernel
theorem d_MO_goes_32 : decode b_MO_goes 32 = .ok (.iconst 0, 1) := by decide +kernel
theorem d_MO_goes_33 : decode b_MO_goes 33 = .ok (.ireturn, 1) := by decide +kernel
theorem d_MO_width_0 : decode b_MO_width 0 = .ok (.iconst 0, 1) := by decide +kernel
theorem d_MO_width_1 : decode b_MO_width 1 = .ok (.istore_n 2, 1) := by decide +kernel
theorem d_MO_width_2 : decode b_MO_width 2 = .ok (.lload_n 0, 1) := by decide +kernel
theorem d_MO_width_3 : decode b_MO_width 3 = .ok (.lstore_n 3, 1) := by decide +kernel
theorem d_MO_width_4 : decode b_MO_width 4 = .ok (.lload_n 3, 1) := by decide +kernel
theorem d_MO_width_5 : decode b_MO_width 5 = .ok (.lconst 0, 1) := by decide +kernel
theorem d_MO_width_6 : decode b_MO_width 6 = .ok (.lcmp, 1) := by decide +kernel
theorem d_MO_width_7 : decode b_MO_width 7 = .ok (.ifCond .le 15, 3) := by decide +kernel
theorem d_MO_width_10 : decode b_MO_width 10 = .ok (.lload_n 3, 1) := by decide +kernel
theorem d_MO_width_11 : decode b_MO_width 11 = .ok (.ldc2_w 49, 3) := by decide +kernel
theorem d_MO_width_14 : decode b_MO_width 14 = .ok (.ldiv, 1) := by decide +kernel
theorem d_MO_width_15 : decode b_MO_width 15 = .ok (.lstore_n 3, 1) := by decide +kernel
theorem d_MO_width_16 : decode b_MO_width 16 = .ok (.iinc 2 1, 3) := by decide +kernel
theorem d_MO_width_19 : decode b_MO_width 19 = .ok (.goto (-15), 3) := by decide +kernel
theorem d_MO_width_22 : decode b_MO_width 22 = .ok (.iload_n 2, 1) := by decide +kernel
theorem d_MO_width_23 : decode b_MO_width 23 = .ok (.ifCond .ne 7, 3) := by decide +kernel
theorem d_MO_width_26 : decode b_MO_width 26 = .ok (.iconst 1, 1) := by decide +kernel
theorem d_MO_width_27 : decode b_MO_width 27 = .ok (.goto 4, 3) := by decide +kernel
theorem d_MO_width_30 : decode b_MO_width 30 = .ok (.iload_n 2, 1) := by decide +kernel
theorem d_MO_width_31 : decode b_MO_width 31 = .ok (.ireturn, 1) := by decide +kernel
theorem d_MO_isNumber_0 : decode b_MO_isNumber 0 = .ok (.lload_n 0, 1) := by decide +kernel
theorem d_MO_isNumber_1 : decode b_MO_isNumber 1 = .ok (.lconst 1, 1) := by decide +kernel
theorem d_MO_isNumber_2 : decode b_MO_isNumber 2 = .ok (.lcmp, 1) := by decide +kernel
theorem d_MO_isNumber_3 : decode b_MO_isNumber 3 = .ok (.ifCond .lt 15, 3) := by decide +kernel
theorem d_MO_isNumber_6 : decode b_MO_isNumber 6 = .ok (.lload_n 0, 1) := by decide +kernel
theorem d_MO_isNumber_7 : decode b_MO_isNumber 7 = .ok (.invokestatic 51, 3) := by decide +kernel
theorem d_MO_isNumber_10 : decode b_MO_isNumber 10 = .ok (.iload_n 2, 1) := by decide +kernel
theorem d_MO_isNumber_11 : decode b_MO_isNumber 11 = .ok (.if_icmp .gt 7, 3) := by decide +kernel
theorem d_MO_isNumber_14 : decode b_MO_isNumber 14 = .ok (.iconst 1, 1) := by decide +kernel
theorem d_MO_isNumber_15 : decode b_MO_isNumber 15 = .ok (.goto 4, 3) := by decide +kernel
theorem d_MO_isNumber_18 : decode b_MO_isNumber 18 = .ok (.iconst 0, 1) := by decide +kernel
theorem d_MO_isNumber_19 : decode b_MO_isNumber 19 = .ok (.ireturn, 1) := by decide +kernel
theorem d_MO_front_0 : decode b_MO_front 0 = .ok (.lload_n 0, 1) := by decide +kernel
theorem d_MO_front_1 : decode b_MO_front 1 = .ok (.lstore_n 3, 1) := by decide +kernel
theorem d_MO_front_2 : decode b_MO_front 2 = .ok (.lload_n 0, 1) := by decide +kernel
theorem d_MO_front_3 : decode b_MO_front 3 = .ok (.invokestatic 51, 3) := by decide +kernel
theorem d_MO_front_6 : decode b_MO_front 6 = .ok (.istore 5, 2) := by decide +kernel
theorem d_MO_front_8 : decode b_MO_front 8 = .ok (.iload 5, 2) := by decide +kernel
theorem d_MO_front_10 : decode b_MO_front 10 = .ok (.iload_n 2, 1) := by decide +kernel
theorem d_MO_front_11 : decode b_MO_front 11 = .ok (.if_icmp .le 15, 3) := by decide +kernel
theorem d_MO_front_14 : decode b_MO_front 14 = .ok (.lload_n 3, 1) := by decide +kernel
theorem d_MO_front_15 : decode b_MO_front 15 = .ok (.ldc2_w 49, 3) := by decide +kernel
theorem d_MO_front_18 : decode b_MO_front 18 = .ok (.ldiv, 1) := by decide +kernel
theorem d_MO_front_19 : decode b_MO_front 19 = .ok (.lstore_n 3, 1) := by decide +kernel
theorem d_MO_front_20 : decode b_MO_front 20 = .ok (.iinc 5 (-1), 3) := by decide +kernel
theorem d_MO_front_23 : decode b_MO_front 23 = .ok (.goto (-15), 3) := by decide +kernel
theorem d_MO_front_26 : decode b_MO_front 26 = .ok (.lload_n 3, 1) := by decide +kernel
theorem d_MO_front_27 : decode b_MO_front 27 = .ok (.lreturn, 1) := by decide +kernel
theorem d_MO_isPrefix_0 : decode b_MO_isPrefix 0 = .ok (.iload_n 0, 1) := by decide +kernel
theorem d_MO_isPrefix_1 : decode b_MO_isPrefix 1 = .ok (.ifCond .lt 27, 3) := by decide +kernel
theorem d_MO_isPrefix_4 : decode b_MO_isPrefix 4 = .ok (.iload_n 1, 1) := by decide +kernel
theorem d_MO_isPrefix_5 : decode b_MO_isPrefix 5 = .ok (.iconst 1, 1) := by decide +kernel
theorem d_MO_isPrefix_6 : decode b_MO_isPrefix 6 = .ok (.if_icmp .lt 22, 3) := by decide +kernel
theorem d_MO_isPrefix_9 : decode b_MO_isPrefix 9 = .ok (.iload_n 1, 1) := by decide +kernel
theorem d_MO_isPrefix_10 : decode b_MO_isPrefix 10 = .ok (.bipush 8, 2) := by decide +kernel
theorem d_MO_isPrefix_12 : decode b_MO_isPrefix 12 = .ok (.if_icmp .gt 16, 3) := by decide +kernel
theorem d_MO_isPrefix_15 : decode b_MO_isPrefix 15 = .ok (.iload_n 0, 1) := by decide +kernel
theorem d_MO_isPrefix_16 : decode b_MO_isPrefix 16 = .ok (.i2l, 1) := by decide +kernel
theorem d_MO_isPrefix_17 : decode b_MO_isPrefix 17 = .ok (.invokestatic 51, 3) := by decide +kernel
theorem d_MO_isPrefix_20 : decode b_MO_isPrefix 20 = .ok (.iload_n 1, 1) := by decide +kernel
theorem d_MO_isPrefix_21 : decode b_MO_isPrefix 21 = .ok (.if_icmp .gt 7, 3) := by decide +kernel
theorem d_MO_isPrefix_24 : decode b_MO_isPrefix 24 = .ok (.iconst 1, 1) := by decide +kernel
theorem d_MO_isPrefix_25 : decode b_MO_isPrefix 25 = .ok (.goto 4, 3) := by decide +kernel
theorem d_MO_isPrefix_28 : decode b_MO_isPrefix 28 = .ok (.iconst 0, 1) := by decide +kernel
theorem d_MO_isPrefix_29 : decode b_MO_isPrefix 29 = .ok (.ireturn, 1) := by decide +kernel
theorem d_MO_placeOf_0 : decode b_MO_placeOf 0 = .ok (.iconst 0, 1) := by decide +kernel
theorem d_MO_placeOf_1 : decode b_MO_placeOf 1 = .ok (.istore_n 3, 1) := by decide +kernel
theorem d_MO_placeOf_2 : decode b_MO_placeOf 2 = .ok (.iload_n 3, 1) := by decide +kernel
theorem d_MO_placeOf_3 : decode b_MO_placeOf 3 = .ok (.aload_n 0, 1) := by decide +kernel
theorem d_MO_placeOf_4 : decode b_MO_placeOf 4 = .ok (.getfield 55, 3) := by decide +kernel
theorem d_MO_placeOf_7 : decode b_MO_placeOf 7 = .ok (.if_icmp .ge 29, 3) := by decide +kernel
theorem d_MO_placeOf_10 : decode b_MO_placeOf 10 = .ok (.aload_n 0, 1) := by decide +kernel
theorem d_MO_placeOf_11 : decode b_MO_placeOf 11 = .ok (.getfield 7, 3) := by decide +kernel
theorem d_MO_placeOf_14 : decode b_MO_placeOf 14 = .ok (.iload_n 3, 1) := by decide +kernel
theorem d_MO_placeOf_15 : decode b_MO_placeOf 15 = .ok (.iaload, 1) := by decide +kernel
theorem d_MO_placeOf_16 : decode b_MO_placeOf 16 = .ok (.iload_n 1, 1) := by decide +kernel
theorem d_MO_placeOf_17 : decode b_MO_placeOf 17 = .ok (.if_icmp .ne 13, 3) := by decide +kernel
theorem d_MO_placeOf_20 : decode b_MO_placeOf 20 = .ok (.aload_n 0, 1) := by decide +kernel
theorem d_MO_placeOf_21 : decode b_MO_placeOf 21 = .ok (.getfield 13, 3) := by decide +kernel
theorem d_MO_placeOf_24 : decode b_MO_placeOf 24 = .ok (.iload_n 3, 1) := by decide +kernel
theorem d_MO_placeOf_25 : decode b_MO_placeOf 25 = .ok (.iaload, 1) := by decide +kernel
theorem d_MO_placeOf_26 : decode b_MO_placeOf 26 = .ok (.iload_n 2, 1) := by decide +kernel
theorem d_MO_placeOf_27 : decode b_MO_placeOf 27 = .ok (.if_icmp .eq 9, 3) := by decide +kernel
theorem d_MO_placeOf_30 : decode b_MO_placeOf 30 = .ok (.iinc 3 1, 3) := by decide +kernel
theorem d_MO_placeOf_33 : decode b_MO_placeOf 33 = .ok (.goto (-31), 3) := by decide +kernel
theorem d_MO_placeOf_36 : decode b_MO_placeOf 36 = .ok (.iload_n 3, 1) := by decide +kernel
theorem d_MO_placeOf_37 : decode b_MO_placeOf 37 = .ok (.ireturn, 1) := by decide +kernel
theorem d_MO_route_0 : decode b_MO_route 0 = .ok (.aload_n 0, 1) := by decide +kernel
theorem d_MO_route_1 : decode b_MO_route 1 = .ok (.iload_n 2, 1) := by decide +kernel
theorem d_MO_route_2 : decode b_MO_route 2 = .ok (.iload_n 3, 1) := by decide +kernel
theorem d_MO_route_3 : decode b_MO_route 3 = .ok (.invokevirtual 58, 3) := by decide +kernel
theorem d_MO_route_6 : decode b_MO_route 6 = .ok (.istore 4, 2) := by decide +kernel
theorem d_MO_route_8 : decode b_MO_route 8 = .ok (.aload_n 0, 1) := by decide +kernel
theorem d_MO_route_9 : decode b_MO_route 9 = .ok (.iload_n 1, 1) := by decide +kernel
theorem d_MO_route_10 : decode b_MO_route 10 = .ok (.ifCond .lt 21, 3) := by decide +kernel
theorem d_MO_route_13 : decode b_MO_route 13 = .ok (.iload_n 1, 1) := by decide +kernel
theorem d_MO_route_14 : decode b_MO_route 14 = .ok (.bipush 6, 2) := by decide +kernel
theorem d_MO_route_16 : decode b_MO_route 16 = .ok (.if_icmp .ge 15, 3) := by decide +kernel
theorem d_MO_route_19 : decode b_MO_route 19 = .ok (.iload_n 2, 1) := by decide +kernel
theorem d_MO_route_20 : decode b_MO_route 20 = .ok (.iload_n 3, 1) := by decide +kernel
theorem d_MO_route_21 : decode b_MO_route 21 = .ok (.invokestatic 62, 3) := by decide +kernel
theorem d_MO_route_24 : decode b_MO_route 24 = .ok (.ifCond .eq 7, 3) := by decide +kernel
theorem d_MO_route_27 : decode b_MO_route 27 = .ok (.iconst 1, 1) := by decide +kernel
theorem d_MO_route_28 : decode b_MO_route 28 = .ok (.goto 4, 3) := by decide +kernel
theorem d_MO_route_31 : decode b_MO_route 31 = .ok (.iconst 0, 1) := by decide +kernel
theorem d_MO_route_32 : decode b_MO_route 32 = .ok (.iload 4, 2) := by decide +kernel
theorem d_MO_route_34 : decode b_MO_route 34 = .ok (.bipush 40, 2) := by decide +kernel
theorem d_MO_route_36 : decode b_MO_route 36 = .ok (.if_icmp .ge 7, 3) := by decide +kernel
theorem d_MO_route_39 : decode b_MO_route 39 = .ok (.iconst 1, 1) := by decide +kernel
theorem d_MO_route_40 : decode b_MO_route 40 = .ok (.goto 4, 3) := by decide +kernel
theorem d_MO_route_43 : decode b_MO_route 43 = .ok (.iconst 0, 1) := by decide +kernel
theorem d_MO_route_44 : decode b_MO_route 44 = .ok (.invokevirtual 66, 3) := by decide +kernel
theorem d_MO_route_47 : decode b_MO_route 47 = .ok (.ifCond .ne 5, 3) := by decide +kernel
theorem d_MO_route_50 : decode b_MO_route 50 = .ok (.iconst 0, 1) := by decide +kernel
theorem d_MO_route_51 : decode b_MO_route 51 = .ok (.ireturn, 1) := by decide +kernel
theorem d_MO_route_52 : decode b_MO_route 52 = .ok (.iload 4, 2) := by decide +kernel
theorem d_MO_route_54 : decode b_MO_route 54 = .ok (.aload_n 0, 1) := by decide +kernel
theorem d_MO_route_55 : decode b_MO_route 55 = .ok (.getfield 55, 3) := by decide +kernel
theorem d_MO_route_58 : decode b_MO_route 58 = .ok (.if_icmp .ge 13, 3) := by decide +kernel
theorem d_MO_route_61 : decode b_MO_route 61 = .ok (.aload_n 0, 1) := by decide +kernel
theorem d_MO_route_62 : decode b_MO_route 62 = .ok (.getfield 16, 3) := by decide +kernel
theorem d_MO_route_65 : decode b_MO_route 65 = .ok (.iload 4, 2) := by decide +kernel
theorem d_MO_route_67 : decode b_MO_route 67 = .ok (.iaload, 1) := by decide +kernel
theorem d_MO_route_68 : decode b_MO_route 68 = .ok (.goto 4, 3) := by decide +kernel
theorem d_MO_route_71 : decode b_MO_route 71 = .ok (.iconst (-1), 1) := by decide +kernel
theorem d_MO_route_72 : decode b_MO_route 72 = .ok (.istore 5, 2) := by decide +kernel
theorem d_MO_route_74 : decode b_MO_route 74 = .ok (.aload_n 0, 1) := by decide +kernel
theorem d_MO_route_75 : decode b_MO_route 75 = .ok (.getfield 7, 3) := by decide +kernel
theorem d_MO_route_78 : decode b_MO_route 78 = .ok (.iload 4, 2) := by decide +kernel
theorem d_MO_route_80 : decode b_MO_route 80 = .ok (.iload_n 2, 1) := by decide +kernel
theorem d_MO_route_81 : decode b_MO_route 81 = .ok (.iastore, 1) := by decide +kernel
theorem d_MO_route_82 : decode b_MO_route 82 = .ok (.aload_n 0, 1) := by decide +kernel
theorem d_MO_route_83 : decode b_MO_route 83 = .ok (.getfield 13, 3) := by decide +kernel
theorem d_MO_route_86 : decode b_MO_route 86 = .ok (.iload 4, 2) := by decide +kernel
theorem d_MO_route_88 : decode b_MO_route 88 = .ok (.iload_n 3, 1) := by decide +kernel
theorem d_MO_route_89 : decode b_MO_route 89 = .ok (.iastore, 1) := by decide +kernel
theorem d_MO_route_90 : decode b_MO_route 90 = .ok (.aload_n 0, 1) := by decide +kernel
theorem d_MO_route_91 : decode b_MO_route 91 = .ok (.getfield 16, 3) := by decide +kernel
theorem d_MO_route_94 : decode b_MO_route 94 = .ok (.iload 4, 2) := by decide +kernel
theorem d_MO_route_96 : decode b_MO_route 96 = .ok (.iload_n 1, 1) := by decide +kernel
theorem d_MO_route_97 : decode b_MO_route 97 = .ok (.iastore, 1) := by decide +kernel
theorem d_MO_route_98 : decode b_MO_route 98 = .ok (.aload_n 0, 1) := by decide +kernel
theorem d_MO_route_99 : decode b_MO_route 99 = .ok (.dup, 1) := by decide +kernel
theorem d_MO_route_100 : decode b_MO_route 100 = .ok (.getfield 55, 3) := by decide +kernel
theorem d_MO_route_103 : decode b_MO_route 103 = .ok (.iload 4, 2) := by decide +kernel
theorem d_MO_route_105 : decode b_MO_route 105 = .ok (.aload_n 0, 1) := by decide +kernel
theorem d_MO_route_106 : decode b_MO_route 106 = .ok (.getfield 55, 3) := by decide +kernel
theorem d_MO_route_109 : decode b_MO_route 109 = .ok (.if_icmp .ne 7, 3) := by decide +kernel
theorem d_MO_route_112 : decode b_MO_route 112 = .ok (.iconst 1, 1) := by decide +kernel
theorem d_MO_route_113 : decode b_MO_route 113 = .ok (.goto 4, 3) := by decide +kernel
theorem d_MO_route_116 : decode b_MO_route 116 = .ok (.iconst 0, 1) := by decide +kernel
theorem d_MO_route_117 : decode b_MO_route 117 = .ok (.iadd, 1) := by decide +kernel
theorem d_MO_route_118 : decode b_MO_route 118 = .ok (.putfield 55, 3) := by decide +kernel
theorem d_MO_route_121 : decode b_MO_route 121 = .ok (.iload 5, 2) := by decide +kernel
theorem d_MO_route_123 : decode b_MO_route 123 = .ok (.ireturn, 1) := by decide +kernel
theorem d_MO_unroute_0 : decode b_MO_unroute 0 = .ok (.aload_n 0, 1) := by decide +kernel
theorem d_MO_unroute_1 : decode b_MO_unroute 1 = .ok (.iload_n 1, 1) := by decide +kernel
theorem d_MO_unroute_2 : decode b_MO_unroute 2 = .ok (.iload_n 2, 1) := by decide +kernel
theorem d_MO_unroute_3 : decode b_MO_unroute 3 = .ok (.invokestatic 62, 3) := by decide +kernel
theorem d_MO_unroute_6 : decode b_MO_unroute 6 = .ok (.iconst 1, 1) := by decide +kernel
theorem d_MO_unroute_7 : decode b_MO_unroute 7 = .ok (.invokevirtual 66, 3) := by decide +kernel
theorem d_MO_unroute_10 : decode b_MO_unroute 10 = .ok (.ifCond .ne 5, 3) := by decide +kernel
theorem d_MO_unroute_13 : decode b_MO_unroute 13 = .ok (.iconst 0, 1) := by decide +kernel
theorem d_MO_unroute_14 : decode b_MO_unroute 14 = .ok (.ireturn, 1) := by decide +kernel
theorem d_MO_unroute_15 : decode b_MO_unroute 15 = .ok (.aload_n 0, 1) := by decide +kernel
theorem d_MO_unroute_16 : decode b_MO_unroute 16 = .ok (.iload_n 1, 1) := by decide +kernel
theorem d_MO_unroute_17 : decode b_MO_unroute 17 = .ok (.iload_n 2, 1) := by decide +kernel
theorem d_MO_unroute_18 : decode b_MO_unroute 18 = .ok (.invokevirtual 58, 3) := by decide +kernel
theorem d_MO_unroute_21 : decode b_MO_unroute 21 = .ok (.istore_n 3, 1) := by decide +kernel
theorem d_MO_unroute_22 : decode b_MO_unroute 22 = .ok (.iload_n 3, 1) := by decide +kernel
theorem d_MO_unroute_23 : decode b_MO_unroute 23 = .ok (.aload_n 0, 1) := by decide +kernel
theorem d_MO_unroute_24 : decode b_MO_unroute 24 = .ok (.getfield 55, 3) := by decide +kernel
theorem d_MO_unroute_27 : decode b_MO_unroute 27 = .ok (.if_icmp .ne 5, 3) := by decide +kernel
theorem d_MO_unroute_30 : decode b_MO_unroute 30 = .ok (.iconst (-1), 1) := by decide +kernel
theorem d_MO_unroute_31 : decode b_MO_unroute 31 = .ok (.ireturn, 1) := by decide +kernel
theorem d_MO_unroute_32 : decode b_MO_unroute 32 = .ok (.aload_n 0, 1) := by decide +kernel
theorem d_MO_unroute_33 : decode b_MO_unroute 33 = .ok (.getfield 16, 3) := by decide +kernel
theorem d_MO_unroute_36 : decode b_MO_unroute 36 = .ok (.iload_n 3, 1) := by decide +kernel
theorem d_MO_unroute_37 : decode b_MO_unroute 37 = .ok (.iaload, 1) := by decide +kernel
theorem d_MO_unroute_38 : decode b_MO_unroute 38 = .ok (.istore 4, 2) := by decide +kernel
theorem d_MO_unroute_40 : decode b_MO_unroute 40 = .ok (.aload_n 0, 1) := by decide +kernel
theorem d_MO_unroute_41 : decode b_MO_unroute 41 = .ok (.dup, 1) := by decide +kernel
theorem d_MO_unroute_42 : decode b_MO_unroute 42 = .ok (.getfield 55, 3) := by decide +kernel
theorem d_MO_unroute_45 : decode b_MO_unroute 45 = .ok (.iconst 1, 1) := by decide +kernel
theorem d_MO_unroute_46 : decode b_MO_unroute 46 = .ok (.isub, 1) := by decide +kernel
theorem d_MO_unroute_47 : decode b_MO_unroute 47 = .ok (.putfield 55, 3) := by decide +kernel
theorem d_MO_unroute_50 : decode b_MO_unroute 50 = .ok (.aload_n 0, 1) := by decide +kernel
theorem d_MO_unroute_51 : decode b_MO_unroute 51 = .ok (.getfield 7, 3) := by decide +kernel
theorem d_MO_unroute_54 : decode b_MO_unroute 54 = .ok (.iload_n 3, 1) := by decide +kernel
theorem d_MO_unroute_55 : decode b_MO_unroute 55 = .ok (.aload_n 0, 1) := by decide +kernel
theorem d_MO_unroute_56 : decode b_MO_unroute 56 = .ok (.getfield 7, 3) := by decide +kernel
theorem d_MO_unroute_59 : decode b_MO_unroute 59 = .ok (.aload_n 0, 1) := by decide +kernel
theorem d_MO_unroute_60 : decode b_MO_unroute 60 = .ok (.getfield 55, 3) := by decide +kernel
theorem d_MO_unroute_63 : decode b_MO_unroute 63 = .ok (.iaload, 1) := by decide +kernel
theorem d_MO_unroute_64 : decode b_MO_unroute 64 = .ok (.iastore, 1) := by decide +kernel
theorem d_MO_unroute_65 : decode b_MO_unroute 65 = .ok (.aload_n 0, 1) := by decide +kernel
theorem d_MO_unroute_66 : decode b_MO_unroute 66 = .ok (.getfield 13, 3) := by decide +kernel
theorem d_MO_unroute_69 : decode b_MO_unroute 69 = .ok (.iload_n 3, 1) := by decide +kernel
theorem d_MO_unroute_70 : decode b_MO_unroute 70 = .ok (.aload_n 0, 1) := by decide +kernel
theorem d_MO_unroute_71 : decode b_MO_unroute 71 = .ok (.getfield 13, 3) := by decide +kernel
theorem d_MO_unroute_74 : decode b_MO_unroute 74 = .ok (.aload_n 0, 1) := by decide +kernel
theorem d_MO_unroute_75 : decode b_MO_unroute 75 = .ok (.getfield 55, 3) := by decide +kernel
theorem d_MO_unroute_78 : decode b_MO_unroute 78 = .ok (.iaload, 1) := by decide +kernel
theorem d_MO_unroute_79 : decode b_MO_unroute 79 = .ok (.iastore, 1) := by decide +kernel
theorem d_MO_unroute_80 : decode b_MO_unroute 80 = .ok (.aload_n 0, 1) := by decide +kernel
theorem d_MO_unroute_81 : decode b_MO_unroute 81 = .ok (.getfield 16, 3) := by decide +kernel
theorem d_MO_unroute_84 : decode b_MO_unroute 84 = .ok (.iload_n 3, 1) := by decide +kernel
theorem d_MO_unroute_85 : decode b_MO_unroute 85 = .ok (.aload_n 0, 1) := by decide +kernel
theorem d_MO_unroute_86 : decode b_MO_unroute 86 = .ok (.getfield 16, 3) := by decide +kernel
theorem d_MO_unroute_89 : decode b_MO_unroute 89 = .ok (.aload_n 0, 1) := by decide +kernel
theorem d_MO_unroute_90 : decode b_MO_unroute 90 = .ok (.getfield 55, 3) := by decide +kernel
theorem d_MO_unroute_93 : decode b_MO_unroute 93 = .ok (.iaload, 1) := by decide +kernel
theorem d_MO_unroute_94 : decode b_MO_unroute 94 = .ok (.iastore, 1) := by decide +kernel
theorem d_MO_unroute_95 : decode b_MO_unroute 95 = .ok (.iload 4, 2) := by decide +kernel
theorem d_MO_unroute_97 : decode b_MO_unroute 97 = .ok (.ireturn, 1) := by decide +kernel
theorem d_MO_routes_0 : decode b_MO_routes 0 = .ok (.aload_n 0, 1) := by decide +kernel
theorem d_MO_routes_1 : decode b_MO_routes 1 = .ok (.iconst 0, 1) := by decide +kernel
theorem d_MO_routes_2 : decode b_MO_routes 2 = .ok (.putfield 46, 3) := by decide +kernel
theorem d_MO_routes_5 : decode b_MO_routes 5 = .ok (.aload_n 0, 1) := by decide +kernel
theorem d_MO_routes_6 : decode b_MO_routes 6 = .ok (.getfield 55, 3) := by decide +kernel
theorem d_MO_routes_9 : decode b_MO_routes 9 = .ok (.ireturn, 1) := by decide +kernel
theorem d_MO_routed_0 : decode b_MO_routed 0 = .ok (.iconst (-1), 1) := by decide +kernel
theorem d_MO_routed_1 : decode b_MO_routed 1 = .ok (.istore_n 3, 1) := by decide +kernel
theorem d_MO_routed_2 : decode b_MO_routed 2 = .ok (.iconst 0, 1) := by decide +kernel
theorem d_MO_routed_3 : decode b_MO_routed 3 = .ok (.istore 4, 2) := by decide +kernel
theorem d_MO_routed_5 : decode b_MO_routed 5 = .ok (.iconst 0, 1) := by decide +kernel
theorem d_MO_routed_6 : decode b_MO_routed 6 = .ok (.istore 5, 2) := by decide +kernel
theorem d_MO_routed_8 : decode b_MO_routed 8 = .ok (.iload 5, 2) := by decide +kernel
theorem d_MO_routed_10 : decode b_MO_routed 10 = .ok (.aload_n 0, 1) := by decide +kernel
theorem d_MO_routed_11 : decode b_MO_routed 11 = .ok (.getfield 55, 3) := by decide +kernel
theorem d_MO_routed_14 : decode b_MO_routed 14 = .ok (.if_icmp .ge 75, 3) := by decide +kernel
theorem d_MO_routed_17 : decode b_MO_routed 17 = .ok (.aload_n 0, 1) := by decide +kernel
theorem d_MO_routed_18 : decode b_MO_routed 18 = .ok (.getfield 13, 3) := by decide +kernel
theorem d_MO_routed_21 : decode b_MO_routed 21 = .ok (.iload 5, 2) := by decide +kernel
theorem d_MO_routed_23 : decode b_MO_routed 23 = .ok (.iaload, 1) := by decide +kernel
theorem d_MO_routed_24 : decode b_MO_routed 24 = .ok (.iload 4, 2) := by decide +kernel
theorem d_MO_routed_26 : decode b_MO_routed 26 = .ok (.if_icmp .le 57, 3) := by decide +kernel
theorem d_MO_routed_29 : decode b_MO_routed 29 = .ok (.aload_n 0, 1) := by decide +kernel
theorem d_MO_routed_30 : decode b_MO_routed 30 = .ok (.getfield 13, 3) := by decide +kernel
theorem d_MO_routed_33 : decode b_MO_routed 33 = .ok (.iload 5, 2) := by decide +kernel
theorem d_MO_routed_35 : decode b_MO_routed 35 = .ok (.iaload, 1) := by decide +kernel
theorem d_MO_routed_36 : decode b_MO_routed 36 = .ok (.lload_n 1, 1) := by decide +kernel
theorem d_MO_routed_37 : decode b_MO_routed 37 = .ok (.invokestatic 51, 3) := by decide +kernel
theorem d_MO_routed_40 : decode b_MO_routed 40 = .ok (.if_icmp .gt 43, 3) := by decide +kernel
theorem d_MO_routed_43 : decode b_MO_routed 43 = .ok (.lload_n 1, 1) := by decide +kernel
theorem d_MO_routed_44 : decode b_MO_routed 44 = .ok (.aload_n 0, 1) := by decide +kernel
theorem d_MO_routed_45 : decode b_MO_routed 45 = .ok (.getfield 13, 3) := by decide +kernel
theorem d_MO_routed_48 : decode b_MO_routed 48 = .ok (.iload 5, 2) := by decide +kernel
theorem d_MO_routed_50 : decode b_MO_routed 50 = .ok (.iaload, 1) := by decide +kernel
theorem d_MO_routed_51 : decode b_MO_routed 51 = .ok (.invokestatic 70, 3) := by decide +kernel
theorem d_MO_routed_54 : decode b_MO_routed 54 = .ok (.aload_n 0, 1) := by decide +kernel
theorem d_MO_routed_55 : decode b_MO_routed 55 = .ok (.getfield 7, 3) := by decide +kernel
theorem d_MO_routed_58 : decode b_MO_routed 58 = .ok (.iload 5, 2) := by decide +kernel
theorem d_MO_routed_60 : decode b_MO_routed 60 = .ok (.iaload, 1) := by decide +kernel
theorem d_MO_routed_61 : decode b_MO_routed 61 = .ok (.i2l, 1) := by decide +kernel
theorem d_MO_routed_62 : decode b_MO_routed 62 = .ok (.lcmp, 1) := by decide +kernel
theorem d_MO_routed_63 : decode b_MO_routed 63 = .ok (.ifCond .ne 20, 3) := by decide +kernel
theorem d_MO_routed_66 : decode b_MO_routed 66 = .ok (.aload_n 0, 1) := by decide +kernel
theorem d_MO_routed_67 : decode b_MO_routed 67 = .ok (.getfield 13, 3) := by decide +kernel
theorem d_MO_routed_70 : decode b_MO_routed 70 = .ok (.iload 5, 2) := by decide +kernel
theorem d_MO_routed_72 : decode b_MO_routed 72 = .ok (.iaload, 1) := by decide +kernel
theorem d_MO_routed_73 : decode b_MO_routed 73 = .ok (.istore 4, 2) := by decide +kernel
theorem d_MO_routed_75 : decode b_MO_routed 75 = .ok (.aload_n 0, 1) := by decide +kernel
theorem d_MO_routed_76 : decode b_MO_routed 76 = .ok (.getfield 16, 3) := by decide +kernel
theorem d_MO_routed_79 : decode b_MO_routed 79 = .ok (.iload 5, 2) := by decide +kernel
theorem d_MO_routed_81 : decode b_MO_routed 81 = .ok (.iaload, 1) := by decide +kernel
theorem d_MO_routed_82 : decode b_MO_routed 82 = .ok (.istore_n 3, 1) := by decide +kernel
theorem d_MO_routed_83 : decode b_MO_routed 83 = .ok (.iinc 5 1, 3) := by decide +kernel
theorem d_MO_routed_86 : decode b_MO_routed 86 = .ok (.goto (-78), 3) := by decide +kernel
theorem d_MO_routed_89 : decode b_MO_routed 89 = .ok (.iload_n 3, 1) := by decide +kernel
theorem d_MO_routed_90 : decode b_MO_routed 90 = .ok (.ireturn, 1) := by decide +kernel
theorem d_MO_whose_0 : decode b_MO_whose 0 = .ok (.aload_n 0, 1) := by decide +kernel
theorem d_MO_whose_1 : decode b_MO_whose 1 = .ok (.lload_n 1, 1) := by decide +kernel
theorem d_MO_whose_2 : decode b_MO_whose 2 = .ok (.bipush 18, 2) := by decide +kernel
theorem d_MO_whose_4 : decode b_MO_whose 4 = .ok (.invokestatic 74, 3) := by decide +kernel
theorem d_MO_whose_7 : decode b_MO_whose 7 = .ok (.iconst 1, 1) := by decide +kernel
theorem d_MO_whose_8 : decode b_MO_whose 8 = .ok (.invokevirtual 66, 3) := by decide +kernel
theorem d_MO_whose_11 : decode b_MO_whose 11 = .ok (.ifCond .eq 11, 3) := by decide +kernel
theorem d_MO_whose_14 : decode b_MO_whose 14 = .ok (.aload_n 0, 1) := by decide +kernel
theorem d_MO_whose_15 : decode b_MO_whose 15 = .ok (.lload_n 1, 1) := by decide +kernel
theorem d_MO_whose_16 : decode b_MO_whose 16 = .ok (.invokevirtual 78, 3) := by decide +kernel
theorem d_MO_whose_19 : decode b_MO_whose 19 = .ok (.goto 4, 3) := by decide +kernel
theorem d_MO_whose_22 : decode b_MO_whose 22 = .ok (.iconst 0, 1) := by decide +kernel
theorem d_MO_whose_23 : decode b_MO_whose 23 = .ok (.ireturn, 1) := by decide +kernel
theorem d_MO_sum_0 : decode b_MO_sum 0 = .ok (.iconst 0, 1) := by decide +kernel
theorem d_MO_sum_1 : decode b_MO_sum 1 = .ok (.istore_n 3, 1) := by decide +kernel
theorem d_MO_sum_2 : decode b_MO_sum 2 = .ok (.lload_n 0, 1) := by decide +kernel
theorem d_MO_sum_3 : decode b_MO_sum 3 = .ok (.lstore 4, 2) := by decide +kernel
theorem d_MO_sum_5 : decode b_MO_sum 5 = .ok (.iload_n 2, 1) := by decide +kernel
theorem d_MO_sum_6 : decode b_MO_sum 6 = .ok (.istore 6, 2) := by decide +kernel
theorem d_MO_sum_8 : decode b_MO_sum 8 = .ok (.lload 4, 2) := by decide +kernel
theorem d_MO_sum_10 : decode b_MO_sum 10 = .ok (.lconst 0, 1) := by decide +kernel
theorem d_MO_sum_11 : decode b_MO_sum 11 = .ok (.lcmp, 1) := by decide +kernel
theorem d_MO_sum_12 : decode b_MO_sum 12 = .ok (.ifCond .le 68, 3) := by decide +kernel
theorem d_MO_sum_15 : decode b_MO_sum 15 = .ok (.lload 4, 2) := by decide +kernel
theorem d_MO_sum_17 : decode b_MO_sum 17 = .ok (.ldc2_w 49, 3) := by decide +kernel
theorem d_MO_sum_20 : decode b_MO_sum 20 = .ok (.lrem, 1) := by decide +kernel
theorem d_MO_sum_21 : decode b_MO_sum 21 = .ok (.l2i, 1) := by decide +kernel
theorem d_MO_sum_22 : decode b_MO_sum 22 = .ok (.istore 7, 2) := by decide +kernel
theorem d_MO_sum_24 : decode b_MO_sum 24 = .ok (.iload_n 3, 1) := by decide +kernel
theorem d_MO_sum_25 : decode b_MO_sum 25 = .ok (.iload 6, 2) := by decide +kernel
theorem d_MO_sum_27 : decode b_MO_sum 27 = .ok (.ifCond .ne 8, 3) := by decide +kernel
theorem d_MO_sum_30 : decode b_MO_sum 30 = .ok (.iload 7, 2) := by decide +kernel
theorem d_MO_sum_32 : decode b_MO_sum 32 = .ok (.goto 23, 3) := by decide +kernel
theorem d_MO_sum_35 : decode b_MO_sum 35 = .ok (.iload 7, 2) := by decide +kernel
theorem d_MO_sum_37 : decode b_MO_sum 37 = .ok (.iconst 5, 1) := by decide +kernel
theorem d_MO_sum_38 : decode b_MO_sum 38 = .ok (.if_icmp .ge 10, 3) := by decide +kernel
theorem d_MO_sum_41 : decode b_MO_sum 41 = .ok (.iconst 2, 1) := by decide +kernel
theorem d_MO_sum_42 : decode b_MO_sum 42 = .ok (.iload 7, 2) := by decide +kernel
theorem d_MO_sum_44 : decode b_MO_sum 44 = .ok (.imul, 1) := by decide +kernel
theorem d_MO_sum_45 : decode b_MO_sum 45 = .ok (.goto 10, 3) := by decide +kernel
theorem d_MO_sum_48 : decode b_MO_sum 48 = .ok (.iconst 2, 1) := by decide +kernel
theorem d_MO_sum_49 : decode b_MO_sum 49 = .ok (.iload 7, 2) := by decide +kernel
theorem d_MO_sum_51 : decode b_MO_sum 51 = .ok (.imul, 1) := by decide +kernel
theorem d_MO_sum_52 : decode b_MO_sum 52 = .ok (.bipush 9, 2) := by decide +kernel
theorem d_MO_sum_54 : decode b_MO_sum 54 = .ok (.isub, 1) := by decide +kernel
theorem d_MO_sum_55 : decode b_MO_sum 55 = .ok (.iadd, 1) := by decide +kernel
theorem d_MO_sum_56 : decode b_MO_sum 56 = .ok (.istore_n 3, 1) := by decide +kernel
theorem d_MO_sum_57 : decode b_MO_sum 57 = .ok (.iload 6, 2) := by decide +kernel
theorem d_MO_sum_59 : decode b_MO_sum 59 = .ok (.ifCond .ne 7, 3) := by decide +kernel
theorem d_MO_sum_62 : decode b_MO_sum 62 = .ok (.iconst 1, 1) := by decide +kernel
theorem d_MO_sum_63 : decode b_MO_sum 63 = .ok (.goto 4, 3) := by decide +kernel
theorem d_MO_sum_66 : decode b_MO_sum 66 = .ok (.iconst 0, 1) := by decide +kernel
theorem d_MO_sum_67 : decode b_MO_sum 67 = .ok (.istore 6, 2) := by decide +kernel
theorem d_MO_sum_69 : decode b_MO_sum 69 = .ok (.lload 4, 2) := by decide +kernel
theorem d_MO_sum_71 : decode b_MO_sum 71 = .ok (.ldc2_w 49, 3) := by decide +kernel
theorem d_MO_sum_74 : decode b_MO_sum 74 = .ok (.ldiv, 1) := by decide +kernel
theorem d_MO_sum_75 : decode b_MO_sum 75 = .ok (.lstore 4, 2) := by decide +kernel
theorem d_MO_sum_77 : decode b_MO_sum 77 = .ok (.goto (-69), 3) := by decide +kernel
theorem d_MO_sum_80 : decode b_MO_sum 80 = .ok (.iload_n 3, 1) := by decide +kernel
theorem d_MO_sum_81 : decode b_MO_sum 81 = .ok (.ireturn, 1) := by decide +kernel
theorem d_MO_good_0 : decode b_MO_good 0 = .ok (.aload_n 0, 1) := by decide +kernel
theorem d_MO_good_1 : decode b_MO_good 1 = .ok (.lload_n 1, 1) := by decide +kernel
theorem d_MO_good_2 : decode b_MO_good 2 = .ok (.bipush 18, 2) := by decide +kernel
theorem d_MO_good_4 : decode b_MO_good 4 = .ok (.invokestatic 74, 3) := by decide +kernel
theorem d_MO_good_7 : decode b_MO_good 7 = .ok (.iconst 1, 1) := by decide +kernel
theorem d_MO_good_8 : decode b_MO_good 8 = .ok (.invokevirtual 66, 3) := by decide +kernel
theorem d_MO_good_11 : decode b_MO_good 11 = .ok (.ifCond .eq 18, 3) := by decide +kernel
theorem d_MO_good_14 : decode b_MO_good 14 = .ok (.lload_n 1, 1) := by decide +kernel
theorem d_MO_good_15 : decode b_MO_good 15 = .ok (.iconst 0, 1) := by decide +kernel
theorem d_MO_good_16 : decode b_MO_good 16 = .ok (.invokestatic 81, 3) := by decide +kernel
theorem d_MO_good_19 : decode b_MO_good 19 = .ok (.bipush 10, 2) := by decide +kernel
theorem d_MO_good_21 : decode b_MO_good 21 = .ok (.irem, 1) := by decide +kernel
theorem d_MO_good_22 : decode b_MO_good 22 = .ok (.ifCond .ne 7, 3) := by decide +kernel
theorem d_MO_good_25 : decode b_MO_good 25 = .ok (.iconst 1, 1) := by decide +kernel
theorem d_MO_good_26 : decode b_MO_good 26 = .ok (.goto 4, 3) := by decide +kernel
theorem d_MO_good_29 : decode b_MO_good 29 = .ok (.iconst 0, 1) := by decide +kernel
theorem d_MO_good_30 : decode b_MO_good 30 = .ok (.ireturn, 1) := by decide +kernel
theorem d_MO_digit_0 : decode b_MO_digit 0 = .ok (.aload_n 0, 1) := by decide +kernel
theorem d_MO_digit_1 : decode b_MO_digit 1 = .ok (.lload_n 1, 1) := by decide +kernel
theorem d_MO_digit_2 : decode b_MO_digit 2 = .ok (.bipush 17, 2) := by decide +kernel
theorem d_MO_digit_4 : decode b_MO_digit 4 = .ok (.invokestatic 74, 3) := by decide +kernel
theorem d_MO_digit_7 : decode b_MO_digit 7 = .ok (.iconst 1, 1) := by decide +kernel
theorem d_MO_digit_8 : decode b_MO_digit 8 = .ok (.invokevirtual 66, 3) := by decide +kernel
theorem d_MO_digit_11 : decode b_MO_digit 11 = .ok (.ifCond .ne 5, 3) := by decide +kernel
theorem d_MO_digit_14 : decode b_MO_digit 14 = .ok (.iconst 0, 1) := by decide +kernel
theorem d_MO_digit_15 : decode b_MO_digit 15 = .ok (.ireturn, 1) := by decide +kernel
theorem d_MO_digit_16 : decode b_MO_digit 16 = .ok (.iconst 0, 1) := by decide +kernel
theorem d_MO_digit_17 : decode b_MO_digit 17 = .ok (.istore_n 3, 1) := by decide +kernel
theorem d_MO_digit_18 : decode b_MO_digit 18 = .ok (.ldc2_w 49, 3) := by decide +kernel
theorem d_MO_digit_21 : decode b_MO_digit 21 = .ok (.lload_n 1, 1) := by decide +kernel
theorem d_MO_digit_22 : decode b_MO_digit 22 = .ok (.lmul, 1) := by decide +kernel
theorem d_MO_digit_23 : decode b_MO_digit 23 = .ok (.iload_n 3, 1) := by decide +kernel
theorem d_MO_digit_24 : decode b_MO_digit 24 = .ok (.i2l, 1) := by decide +kernel
theorem d_MO_digit_25 : decode b_MO_digit 25 = .ok (.ladd, 1) := by decide +kernel
theorem d_MO_digit_26 : decode b_MO_digit 26 = .ok (.iconst 0, 1) := by decide +kernel
theorem d_MO_digit_27 : decode b_MO_digit 27 = .ok (.invokestatic 81, 3) := by decide +kernel
theorem d_MO_digit_30 : decode b_MO_digit 30 = .ok (.bipush 10, 2) := by decide +kernel
theorem d_MO_digit_32 : decode b_MO_digit 32 = .ok (.irem, 1) := by decide +kernel
theorem d_MO_digit_33 : decode b_MO_digit 33 = .ok (.ifCond .eq 9, 3) := by decide +kernel
theorem d_MO_digit_36 : decode b_MO_digit 36 = .ok (.iinc 3 1, 3) := by decide +kernel
theorem d_MO_digit_39 : decode b_MO_digit 39 = .ok (.goto (-21), 3) := by decide +kernel
theorem d_MO_digit_42 : decode b_MO_digit 42 = .ok (.iload_n 3, 1) := by decide +kernel
theorem d_MO_digit_43 : decode b_MO_digit 43 = .ok (.ireturn, 1) := by decide +kernel
theorem d_MO_account_0 : decode b_MO_account 0 = .ok (.aload_n 0, 1) := by decide +kernel
theorem d_MO_account_1 : decode b_MO_account 1 = .ok (.iload_n 1, 1) := by decide +kernel
theorem d_MO_account_2 : decode b_MO_account 2 = .ok (.ifCond .lt 13, 3) := by decide +kernel
theorem d_MO_account_5 : decode b_MO_account 5 = .ok (.iload_n 1, 1) := by decide +kernel
theorem d_MO_account_6 : decode b_MO_account 6 = .ok (.bipush 6, 2) := by decide +kernel
theorem d_MO_account_8 : decode b_MO_account 8 = .ok (.if_icmp .ge 7, 3) := by decide +kernel
theorem d_MO_account_11 : decode b_MO_account 11 = .ok (.iconst 1, 1) := by decide +kernel
theorem d_MO_account_12 : decode b_MO_account 12 = .ok (.goto 4, 3) := by decide +kernel
theorem d_MO_account_15 : decode b_MO_account 15 = .ok (.iconst 0, 1) := by decide +kernel
theorem d_MO_account_16 : decode b_MO_account 16 = .ok (.aload_n 0, 1) := by decide +kernel
theorem d_MO_account_17 : decode b_MO_account 17 = .ok (.getfield 85, 3) := by decide +kernel
theorem d_MO_account_20 : decode b_MO_account 20 = .ok (.bipush 64, 2) := by decide +kernel
theorem d_MO_account_22 : decode b_MO_account 22 = .ok (.if_icmp .ge 7, 3) := by decide +kernel
theorem d_MO_account_25 : decode b_MO_account 25 = .ok (.iconst 1, 1) := by decide +kernel
theorem d_MO_account_26 : decode b_MO_account 26 = .ok (.goto 4, 3) := by decide +kernel
theorem d_MO_account_29 : decode b_MO_account 29 = .ok (.iconst 0, 1) := by decide +kernel
theorem d_MO_account_30 : decode b_MO_account 30 = .ok (.invokevirtual 66, 3) := by decide +kernel
theorem d_MO_account_33 : decode b_MO_account 33 = .ok (.ifCond .ne 5, 3) := by decide +kernel
theorem d_MO_account_36 : decode b_MO_account 36 = .ok (.iconst 0, 1) := by decide +kernel
theorem d_MO_account_37 : decode b_MO_account 37 = .ok (.ireturn, 1) := by decide +kernel
theorem d_MO_account_38 : decode b_MO_account 38 = .ok (.aload_n 0, 1) := by decide +kernel
theorem d_MO_account_39 : decode b_MO_account 39 = .ok (.getfield 19, 3) := by decide +kernel
theorem d_MO_account_42 : decode b_MO_account 42 = .ok (.aload_n 0, 1) := by decide +kernel
theorem d_MO_account_43 : decode b_MO_account 43 = .ok (.getfield 85, 3) := by decide +kernel
theorem d_MO_account_46 : decode b_MO_account 46 = .ok (.iload_n 1, 1) := by decide +kernel
theorem d_MO_account_47 : decode b_MO_account 47 = .ok (.iastore, 1) := by decide +kernel
theorem d_MO_account_48 : decode b_MO_account 48 = .ok (.aload_n 0, 1) := by decide +kernel
theorem d_MO_account_49 : decode b_MO_account 49 = .ok (.dup, 1) := by decide +kernel
theorem d_MO_account_50 : decode b_MO_account 50 = .ok (.getfield 85, 3) := by decide +kernel
theorem d_MO_account_53 : decode b_MO_account 53 = .ok (.iconst 1, 1) := by decide +kernel
theorem d_MO_account_54 : decode b_MO_account 54 = .ok (.iadd, 1) := by decide +kernel
theorem d_MO_account_55 : decode b_MO_account 55 = .ok (.putfield 85, 3) := by decide +kernel
theorem d_MO_account_58 : decode b_MO_account 58 = .ok (.aload_n 0, 1) := by decide +kernel
theorem d_MO_account_59 : decode b_MO_account 59 = .ok (.getfield 85, 3) := by decide +kernel
theorem d_MO_account_62 : decode b_MO_account 62 = .ok (.iconst 1, 1) := by decide +kernel
theorem d_MO_account_63 : decode b_MO_account 63 = .ok (.isub, 1) := by decide +kernel
theorem d_MO_account_64 : decode b_MO_account 64 = .ok (.ireturn, 1) := by decide +kernel
theorem d_MO_cardOf_0 : decode b_MO_cardOf 0 = .ok (.iconst (-1), 1) := by decide +kernel
theorem d_MO_cardOf_1 : decode b_MO_cardOf 1 = .ok (.istore_n 3, 1) := by decide +kernel
theorem d_MO_cardOf_2 : decode b_MO_cardOf 2 = .ok (.iconst 0, 1) := by decide +kernel
theorem d_MO_cardOf_3 : decode b_MO_cardOf 3 = .ok (.istore 4, 2) := by decide +kernel
theorem d_MO_cardOf_5 : decode b_MO_cardOf 5 = .ok (.iload 4, 2) := by decide +kernel
theorem d_MO_cardOf_7 : decode b_MO_cardOf 7 = .ok (.aload_n 0, 1) := by decide +kernel
theorem d_MO_cardOf_8 : decode b_MO_cardOf 8 = .ok (.getfield 88, 3) := by decide +kernel
theorem d_MO_cardOf_11 : decode b_MO_cardOf 11 = .ok (.if_icmp .ge 28, 3) := by decide +kernel
theorem d_MO_cardOf_14 : decode b_MO_cardOf 14 = .ok (.aload_n 0, 1) := by decide +kernel
theorem d_MO_cardOf_15 : decode b_MO_cardOf 15 = .ok (.getfield 28, 3) := by decide +kernel
theorem d_MO_cardOf_18 : decode b_MO_cardOf 18 = .ok (.iload 4, 2) := by decide +kernel
theorem d_MO_cardOf_20 : decode b_MO_cardOf 20 = .ok (.laload, 1) := by decide +kernel
theorem d_MO_cardOf_21 : decode b_MO_cardOf 21 = .ok (.lload_n 1, 1) := by decide +kernel
theorem d_MO_cardOf_22 : decode b_MO_cardOf 22 = .ok (.lcmp, 1) := by decide +kernel
theorem d_MO_cardOf_23 : decode b_MO_cardOf 23 = .ok (.ifCond .ne 8, 3) := by decide +kernel
theorem d_MO_cardOf_26 : decode b_MO_cardOf 26 = .ok (.iload 4, 2) := by decide +kernel
theorem d_MO_cardOf_28 : decode b_MO_cardOf 28 = .ok (.goto 4, 3) := by decide +kernel
theorem d_MO_cardOf_31 : decode b_MO_cardOf 31 = .ok (.iload_n 3, 1) := by decide +kernel
theorem d_MO_cardOf_32 : decode b_MO_cardOf 32 = .ok (.istore_n 3, 1) := by decide +kernel
theorem d_MO_cardOf_33 : decode b_MO_cardOf 33 = .ok (.iinc 4 1, 3) := by decide +kernel
theorem d_MO_cardOf_36 : decode b_MO_cardOf 36 = .ok (.goto (-31), 3) := by decide +kernel
theorem d_MO_cardOf_39 : decode b_MO_cardOf 39 = .ok (.iload_n 3, 1) := by decide +kernel
theorem d_MO_cardOf_40 : decode b_MO_cardOf 40 = .ok (.ireturn, 1) := by decide +kernel
theorem d_MO_card_0 : decode b_MO_card 0 = .ok (.aload_n 0, 1) := by decide +kernel
theorem d_MO_card_1 : decode b_MO_card 1 = .ok (.lload_n 1, 1) := by decide +kernel
theorem d_MO_card_2 : decode b_MO_card 2 = .ok (.bipush 18, 2) := by decide +kernel
theorem d_MO_card_4 : decode b_MO_card 4 = .ok (.invokestatic 74, 3) := by decide +kernel
theorem d_MO_card_7 : decode b_MO_card 7 = .ok (.ifCond .eq 28, 3) := by decide +kernel
theorem d_MO_card_10 : decode b_MO_card 10 = .ok (.lload_n 1, 1) := by decide +kernel
theorem d_MO_card_11 : decode b_MO_card 11 = .ok (.invokestatic 51, 3) := by decide +kernel
theorem d_MO_card_14 : decode b_MO_card 14 = .ok (.bipush 12, 2) := by decide +kernel
theorem d_MO_card_16 : decode b_MO_card 16 = .ok (.if_icmp .lt 19, 3) := by decide +kernel
theorem d_MO_card_19 : decode b_MO_card 19 = .ok (.iload_n 3, 1) := by decide +kernel
theorem d_MO_card_20 : decode b_MO_card 20 = .ok (.ifCond .lt 15, 3) := by decide +kernel
theorem d_MO_card_23 : decode b_MO_card 23 = .ok (.iload_n 3, 1) := by decide +kernel
theorem d_MO_card_24 : decode b_MO_card 24 = .ok (.aload_n 0, 1) := by decide +kernel
theorem d_MO_card_25 : decode b_MO_card 25 = .ok (.getfield 85, 3) := by decide +kernel
theorem d_MO_card_28 : decode b_MO_card 28 = .ok (.if_icmp .ge 7, 3) := by decide +kernel
theorem d_MO_card_31 : decode b_MO_card 31 = .ok (.iconst 1, 1) := by decide +kernel
theorem d_MO_card_32 : decode b_MO_card 32 = .ok (.goto 4, 3) := by decide +kernel
theorem d_MO_card_35 : decode b_MO_card 35 = .ok (.iconst 0, 1) := by decide +kernel
theorem d_MO_card_36 : decode b_MO_card 36 = .ok (.aload_n 0, 1) := by decide +kernel
theorem d_MO_card_37 : decode b_MO_card 37 = .ok (.getfield 88, 3) := by decide +kernel
theorem d_MO_card_40 : decode b_MO_card 40 = .ok (.bipush 100, 2) := by decide +kernel
theorem d_MO_card_42 : decode b_MO_card 42 = .ok (.if_icmp .ge 7, 3) := by decide +kernel
theorem d_MO_card_45 : decode b_MO_card 45 = .ok (.iconst 1, 1) := by decide +kernel
theorem d_MO_card_46 : decode b_MO_card 46 = .ok (.goto 4, 3) := by decide +kernel
theorem d_MO_card_49 : decode b_MO_card 49 = .ok (.iconst 0, 1) := by decide +kernel
theorem d_MO_card_50 : decode b_MO_card 50 = .ok (.invokevirtual 66, 3) := by decide +kernel
theorem d_MO_card_53 : decode b_MO_card 53 = .ok (.ifCond .ne 5, 3) := by decide +kernel
theorem d_MO_card_56 : decode b_MO_card 56 = .ok (.iconst 0, 1) := by decide +kernel
theorem d_MO_card_57 : decode b_MO_card 57 = .ok (.ireturn, 1) := by decide +kernel
theorem d_MO_card_58 : decode b_MO_card 58 = .ok (.lload_n 1, 1) := by decide +kernel
theorem d_MO_card_59 : decode b_MO_card 59 = .ok (.iconst 0, 1) := by decide +kernel
theorem d_MO_card_60 : decode b_MO_card 60 = .ok (.invokestatic 81, 3) := by decide +kernel
theorem d_MO_card_63 : decode b_MO_card 63 = .ok (.bipush 10, 2) := by decide +kernel
theorem d_MO_card_65 : decode b_MO_card 65 = .ok (.irem, 1) := by decide +kernel
theorem d_MO_card_66 : decode b_MO_card 66 = .ok (.ifCond .eq 6, 3) := by decide +kernel
theorem d_MO_card_69 : decode b_MO_card 69 = .ok (.bipush (-5), 2) := by decide +kernel
theorem d_MO_card_71 : decode b_MO_card 71 = .ok (.ireturn, 1) := by decide +kernel
theorem d_MO_card_72 : decode b_MO_card 72 = .ok (.aload_n 0, 1) := by decide +kernel
theorem d_MO_card_73 : decode b_MO_card 73 = .ok (.lload_n 1, 1) := by decide +kernel
theorem d_MO_card_74 : decode b_MO_card 74 = .ok (.invokevirtual 78, 3) := by decide +kernel
theorem d_MO_card_77 : decode b_MO_card 77 = .ok (.istore 4, 2) := by decide +kernel
theorem d_MO_card_79 : decode b_MO_card 79 = .ok (.iload 4, 2) := by decide +kernel
theorem d_MO_card_81 : decode b_MO_card 81 = .ok (.ifCond .ge 6, 3) := by decide +kernel
theorem d_MO_card_84 : decode b_MO_card 84 = .ok (.bipush (-6), 2) := by decide +kernel
theorem d_MO_card_86 : decode b_MO_card 86 = .ok (.ireturn, 1) := by decide +kernel
theorem d_MO_card_87 : decode b_MO_card 87 = .ok (.iload 4, 2) := by decide +kernel
theorem d_MO_card_89 : decode b_MO_card 89 = .ok (.aload_n 0, 1) := by decide +kernel
theorem d_MO_card_90 : decode b_MO_card 90 = .ok (.getfield 19, 3) := by decide +kernel
theorem d_MO_card_93 : decode b_MO_card 93 = .ok (.iload_n 3, 1) := by decide +kernel
theorem d_MO_card_94 : decode b_MO_card 94 = .ok (.iaload, 1) := by decide +kernel
theorem d_MO_card_95 : decode b_MO_card 95 = .ok (.if_icmp .eq 6, 3) := by decide +kernel
theorem d_MO_card_98 : decode b_MO_card 98 = .ok (.bipush (-7), 2) := by decide +kernel
theorem d_MO_card_100 : decode b_MO_card 100 = .ok (.ireturn, 1) := by decide +kernel
theorem d_MO_card_101 : decode b_MO_card 101 = .ok (.aload_n 0, 1) := by decide +kernel
theorem d_MO_card_102 : decode b_MO_card 102 = .ok (.lload_n 1, 1) := by decide +kernel
theorem d_MO_card_103 : decode b_MO_card 103 = .ok (.invokevirtual 91, 3) := by decide +kernel
theorem d_MO_card_106 : decode b_MO_card 106 = .ok (.ifCond .lt 6, 3) := by decide +kernel
theorem d_MO_card_109 : decode b_MO_card 109 = .ok (.bipush (-8), 2) := by decide +kernel
theorem d_MO_card_111 : decode b_MO_card 111 = .ok (.ireturn, 1) := by decide +kernel
theorem d_MO_card_112 : decode b_MO_card 112 = .ok (.aload_n 0, 1) := by decide +kernel
theorem d_MO_card_113 : decode b_MO_card 113 = .ok (.getfield 28, 3) := by decide +kernel
theorem d_MO_card_116 : decode b_MO_card 116 = .ok (.aload_n 0, 1) := by decide +kernel
theorem d_MO_card_117 : decode b_MO_card 117 = .ok (.getfield 88, 3) := by decide +kernel
theorem d_MO_card_120 : decode b_MO_card 120 = .ok (.lload_n 1, 1) := by decide +kernel
theorem d_MO_card_121 : decode b_MO_card 121 = .ok (.lastore, 1) := by decide +kernel
theorem d_MO_card_122 : decode b_MO_card 122 = .ok (.aload_n 0, 1) := by decide +kernel
theorem d_MO_card_123 : decode b_MO_card 123 = .ok (.getfield 32, 3) := by decide +kernel
theorem d_MO_card_126 : decode b_MO_card 126 = .ok (.aload_n 0, 1) := by decide +kernel
theorem d_MO_card_127 : decode b_MO_card 127 = .ok (.getfield 88, 3) := by decide +kernel
theorem d_MO_card_130 : decode b_MO_card 130 = .ok (.iload_n 3, 1) := by decide +kernel
theorem d_MO_card_131 : decode b_MO_card 131 = .ok (.iastore, 1) := by decide +kernel
theorem d_MO_card_132 : decode b_MO_card 132 = .ok (.aload_n 0, 1) := by decide +kernel
theorem d_MO_card_133 : decode b_MO_card 133 = .ok (.dup, 1) := by decide +kernel
theorem d_MO_card_134 : decode b_MO_card 134 = .ok (.getfield 88, 3) := by decide +kernel
theorem d_MO_card_137 : decode b_MO_card 137 = .ok (.iconst 1, 1) := by decide +kernel
theorem d_MO_card_138 : decode b_MO_card 138 = .ok (.iadd, 1) := by decide +kernel
theorem d_MO_card_139 : decode b_MO_card 139 = .ok (.putfield 88, 3) := by decide +kernel
theorem d_MO_card_142 : decode b_MO_card 142 = .ok (.aload_n 0, 1) := by decide +kernel
theorem d_MO_card_143 : decode b_MO_card 143 = .ok (.getfield 88, 3) := by decide +kernel
theorem d_MO_card_146 : decode b_MO_card 146 = .ok (.iconst 1, 1) := by decide +kernel
theorem d_MO_card_147 : decode b_MO_card 147 = .ok (.isub, 1) := by decide +kernel
theorem d_MO_card_148 : decode b_MO_card 148 = .ok (.ireturn, 1) := by decide +kernel
theorem d_MO_block_0 : decode b_MO_block 0 = .ok (.aload_n 0, 1) := by decide +kernel
theorem d_MO_block_1 : decode b_MO_block 1 = .ok (.iload_n 1, 1) := by decide +kernel
theorem d_MO_block_2 : decode b_MO_block 2 = .ok (.ifCond .lt 15, 3) := by decide +kernel
theorem d_MO_block_5 : decode b_MO_block 5 = .ok (.iload_n 1, 1) := by decide +kernel
theorem d_MO_block_6 : decode b_MO_block 6 = .ok (.aload_n 0, 1) := by decide +kernel
theorem d_MO_block_7 : decode b_MO_block 7 = .ok (.getfield 88, 3) := by decide +kernel
theorem d_MO_block_10 : decode b_MO_block 10 = .ok (.if_icmp .ge 7, 3) := by decide +kernel
theorem d_MO_block_13 : decode b_MO_block 13 = .ok (.iconst 1, 1) := by decide +kernel
theorem d_MO_block_14 : decode b_MO_block 14 = .ok (.goto 4, 3) := by decide +kernel
theorem d_MO_block_17 : decode b_MO_block 17 = .ok (.iconst 0, 1) := by decide +kernel
theorem d_MO_block_18 : decode b_MO_block 18 = .ok (.iconst 1, 1) := by decide +kernel
theorem d_MO_block_19 : decode b_MO_block 19 = .ok (.invokevirtual 66, 3) := by decide +kernel
theorem d_MO_block_22 : decode b_MO_block 22 = .ok (.ifCond .ne 5, 3) := by decide +kernel
theorem d_MO_block_25 : decode b_MO_block 25 = .ok (.iconst 0, 1) := by decide +kernel
theorem d_MO_block_26 : decode b_MO_block 26 = .ok (.ireturn, 1) := by decide +kernel
theorem d_MO_block_27 : decode b_MO_block 27 = .ok (.aload_n 0, 1) := by decide +kernel
theorem d_MO_block_28 : decode b_MO_block 28 = .ok (.getfield 35, 3) := by decide +kernel
theorem d_MO_block_31 : decode b_MO_block 31 = .ok (.iload_n 1, 1) := by decide +kernel
theorem d_MO_block_32 : decode b_MO_block 32 = .ok (.baload, 1) := by decide +kernel
theorem d_MO_block_33 : decode b_MO_block 33 = .ok (.istore_n 3, 1) := by decide +kernel
theorem d_MO_block_34 : decode b_MO_block 34 = .ok (.aload_n 0, 1) := by decide +kernel
theorem d_MO_block_35 : decode b_MO_block 35 = .ok (.getfield 35, 3) := by decide +kernel
theorem d_MO_block_38 : decode b_MO_block 38 = .ok (.iload_n 1, 1) := by decide +kernel
theorem d_MO_block_39 : decode b_MO_block 39 = .ok (.iload_n 2, 1) := by decide +kernel
theorem d_MO_block_40 : decode b_MO_block 40 = .ok (.bastore, 1) := by decide +kernel
theorem d_MO_block_41 : decode b_MO_block 41 = .ok (.iload_n 3, 1) := by decide +kernel
theorem d_MO_block_42 : decode b_MO_block 42 = .ok (.ireturn, 1) := by decide +kernel
theorem d_MO_since_0 : decode b_MO_since 0 = .ok (.iconst 0, 1) := by decide +kernel
theorem d_MO_since_1 : decode b_MO_since 1 = .ok (.istore_n 3, 1) := by decide +kernel
theorem d_MO_since_2 : decode b_MO_since 2 = .ok (.iconst 0, 1) := by decide +kernel
theorem d_MO_since_3 : decode b_MO_since 3 = .ok (.istore 4, 2) := by decide +kernel
theorem d_MO_since_5 : decode b_MO_since 5 = .ok (.iload 4, 2) := by decide +kernel
theorem d_MO_since_7 : decode b_MO_since 7 = .ok (.aload_n 0, 1) := by decide +kernel
theorem d_MO_since_8 : decode b_MO_since 8 = .ok (.getfield 22, 3) := by decide +kernel
theorem d_MO_since_11 : decode b_MO_since 11 = .ok (.iload_n 1, 1) := by decide +kernel
theorem d_MO_since_12 : decode b_MO_since 12 = .ok (.iaload, 1) := by decide +kernel
theorem d_MO_since_13 : decode b_MO_since 13 = .ok (.if_icmp .ge 38, 3) := by decide +kernel
theorem d_MO_since_16 : decode b_MO_since 16 = .ok (.iload_n 3, 1) := by decide +kernel
theorem d_MO_since_17 : decode b_MO_since 17 = .ok (.aload_n 0, 1) := by decide +kernel
theorem d_MO_since_18 : decode b_MO_since 18 = .ok (.getfield 25, 3) := by decide +kernel
theorem d_MO_since_21 : decode b_MO_since 21 = .ok (.bipush 8, 2) := by decide +kernel
theorem d_MO_since_23 : decode b_MO_since 23 = .ok (.iload_n 1, 1) := by decide +kernel
theorem d_MO_since_24 : decode b_MO_since 24 = .ok (.imul, 1) := by decide +kernel
theorem d_MO_since_25 : decode b_MO_since 25 = .ok (.iload 4, 2) := by decide +kernel
theorem d_MO_since_27 : decode b_MO_since 27 = .ok (.iadd, 1) := by decide +kernel
theorem d_MO_since_28 : decode b_MO_since 28 = .ok (.iaload, 1) := by decide +kernel
theorem d_MO_since_29 : decode b_MO_since 29 = .ok (.iload_n 2, 1) := by decide +kernel
theorem d_MO_since_30 : decode b_MO_since 30 = .ok (.aload_n 0, 1) := by decide +kernel
theorem d_MO_since_31 : decode b_MO_since 31 = .ok (.getfield 39, 3) := by decide +kernel
theorem d_MO_since_34 : decode b_MO_since 34 = .ok (.isub, 1) := by decide +kernel
theorem d_MO_since_35 : decode b_MO_since 35 = .ok (.if_icmp .lt 7, 3) := by decide +kernel
theorem d_MO_since_38 : decode b_MO_since 38 = .ok (.iconst 1, 1) := by decide +kernel
theorem d_MO_since_39 : decode b_MO_since 39 = .ok (.goto 4, 3) := by decide +kernel
theorem d_MO_since_42 : decode b_MO_since 42 = .ok (.iconst 0, 1) := by decide +kernel
theorem d_MO_since_43 : decode b_MO_since 43 = .ok (.iadd, 1) := by decide +kernel
theorem d_MO_since_44 : decode b_MO_since 44 = .ok (.istore_n 3, 1) := by decide +kernel
theorem d_MO_since_45 : decode b_MO_since 45 = .ok (.iinc 4 1, 3) := by decide +kernel
theorem d_MO_since_48 : decode b_MO_since 48 = .ok (.goto (-43), 3) := by decide +kernel
theorem d_MO_since_51 : decode b_MO_since 51 = .ok (.iload_n 3, 1) := by decide +kernel
theorem d_MO_since_52 : decode b_MO_since 52 = .ok (.ireturn, 1) := by decide +kernel
theorem d_MO_use_0 : decode b_MO_use 0 = .ok (.aload_n 0, 1) := by decide +kernel
theorem d_MO_use_1 : decode b_MO_use 1 = .ok (.lload_n 1, 1) := by decide +kernel
theorem d_MO_use_2 : decode b_MO_use 2 = .ok (.bipush 18, 2) := by decide +kernel
theorem d_MO_use_4 : decode b_MO_use 4 = .ok (.invokestatic 74, 3) := by decide +kernel
theorem d_MO_use_7 : decode b_MO_use 7 = .ok (.ifCond .eq 15, 3) := by decide +kernel
theorem d_MO_use_10 : decode b_MO_use 10 = .ok (.iload_n 3, 1) := by decide +kernel
theorem d_MO_use_11 : decode b_MO_use 11 = .ok (.aload_n 0, 1) := by decide +kernel
theorem d_MO_use_12 : decode b_MO_use 12 = .ok (.getfield 94, 3) := by decide +kernel
theorem d_MO_use_15 : decode b_MO_use 15 = .ok (.if_icmp .lt 7, 3) := by decide +kernel
theorem d_MO_use_18 : decode b_MO_use 18 = .ok (.iconst 1, 1) := by decide +kernel
theorem d_MO_use_19 : decode b_MO_use 19 = .ok (.goto 4, 3) := by decide +kernel
theorem d_MO_use_22 : decode b_MO_use 22 = .ok (.iconst 0, 1) := by decide +kernel
theorem d_MO_use_23 : decode b_MO_use 23 = .ok (.iconst 1, 1) := by decide +kernel
theorem d_MO_use_24 : decode b_MO_use 24 = .ok (.invokevirtual 66, 3) := by decide +kernel
theorem d_MO_use_27 : decode b_MO_use 27 = .ok (.ifCond .ne 5, 3) := by decide +kernel
theorem d_MO_use_30 : decode b_MO_use 30 = .ok (.iconst 0, 1) := by decide +kernel
theorem d_MO_use_31 : decode b_MO_use 31 = .ok (.ireturn, 1) := by decide +kernel
theorem d_MO_use_32 : decode b_MO_use 32 = .ok (.aload_n 0, 1) := by decide +kernel
theorem d_MO_use_33 : decode b_MO_use 33 = .ok (.iload_n 3, 1) := by decide +kernel
theorem d_MO_use_34 : decode b_MO_use 34 = .ok (.putfield 94, 3) := by decide +kernel
theorem d_MO_use_37 : decode b_MO_use 37 = .ok (.aload_n 0, 1) := by decide +kernel
theorem d_MO_use_38 : decode b_MO_use 38 = .ok (.lload_n 1, 1) := by decide +kernel
theorem d_MO_use_39 : decode b_MO_use 39 = .ok (.invokevirtual 78, 3) := by decide +kernel
theorem d_MO_use_42 : decode b_MO_use 42 = .ok (.ifCond .ge 6, 3) := by decide +kernel
theorem d_MO_use_45 : decode b_MO_use 45 = .ok (.bipush 92, 2) := by decide +kernel
theorem d_MO_use_47 : decode b_MO_use 47 = .ok (.ireturn, 1) := by decide +kernel
theorem d_MO_use_48 : decode b_MO_use 48 = .ok (.aload_n 0, 1) := by decide +kernel
theorem d_MO_use_49 : decode b_MO_use 49 = .ok (.lload_n 1, 1) := by decide +kernel
theorem d_MO_use_50 : decode b_MO_use 50 = .ok (.invokevirtual 91, 3) := by decide +kernel
theorem d_MO_use_53 : decode b_MO_use 53 = .ok (.istore 4, 2) := by decide +kernel
theorem d_MO_use_55 : decode b_MO_use 55 = .ok (.iload 4, 2) := by decide +kernel
theorem d_MO_use_57 : decode b_MO_use 57 = .ok (.ifCond .ge 6, 3) := by decide +kernel
theorem d_MO_use_60 : decode b_MO_use 60 = .ok (.bipush 14, 2) := by decide +kernel
theorem d_MO_use_62 : decode b_MO_use 62 = .ok (.ireturn, 1) := by decide +kernel
theorem d_MO_use_63 : decode b_MO_use 63 = .ok (.aload_n 0, 1) := by decide +kernel
theorem d_MO_use_64 : decode b_MO_use 64 = .ok (.getfield 35, 3) := by decide +kernel
theorem d_MO_use_67 : decode b_MO_use 67 = .ok (.iload 4, 2) := by decide +kernel
theorem d_MO_use_69 : decode b_MO_use 69 = .ok (.baload, 1) := by decide +kernel
theorem d_MO_use_70 : decode b_MO_use 70 = .ok (.ifCond .eq 6, 3) := by decide +kernel
theorem d_MO_use_73 : decode b_MO_use 73 = .ok (.bipush 62, 2) := by decide +kernel
theorem d_MO_use_75 : decode b_MO_use 75 = .ok (.ireturn, 1) := by decide +kernel
theorem d_MO_use_76 : decode b_MO_use 76 = .ok (.aload_n 0, 1) := by decide +kernel
theorem d_MO_use_77 : decode b_MO_use 77 = .ok (.getfield 32, 3) := by decide +kernel
theorem d_MO_use_80 : decode b_MO_use 80 = .ok (.iload 4, 2) := by decide +kernel
theorem d_MO_use_82 : decode b_MO_use 82 = .ok (.iaload, 1) := by decide +kernel
theorem d_MO_use_83 : decode b_MO_use 83 = .ok (.istore 5, 2) := by decide +kernel
theorem d_MO_use_85 : decode b_MO_use 85 = .ok (.aload_n 0, 1) := by decide +kernel
theorem d_MO_use_86 : decode b_MO_use 86 = .ok (.iload 5, 2) := by decide +kernel
theorem d_MO_use_88 : decode b_MO_use 88 = .ok (.iload_n 3, 1) := by decide +kernel
theorem d_MO_use_89 : decode b_MO_use 89 = .ok (.invokevirtual 97, 3) := by decide +kernel
theorem d_MO_use_92 : decode b_MO_use 92 = .ok (.aload_n 0, 1) := by decide +kernel
theorem d_MO_use_93 : decode b_MO_use 93 = .ok (.getfield 43, 3) := by decide +kernel
theorem d_MO_use_96 : decode b_MO_use 96 = .ok (.if_icmp .lt 6, 3) := by decide +kernel
theorem d_MO_use_99 : decode b_MO_use 99 = .ok (.bipush 65, 2) := by decide +kernel
theorem d_MO_use_101 : decode b_MO_use 101 = .ok (.ireturn, 1) := by decide +kernel
theorem d_MO_use_102 : decode b_MO_use 102 = .ok (.aload_n 0, 1) := by decide +kernel
theorem d_MO_use_103 : decode b_MO_use 103 = .ok (.getfield 22, 3) := by decide +kernel
theorem d_MO_use_106 : decode b_MO_use 106 = .ok (.iload 5, 2) := by decide +kernel
theorem d_MO_use_108 : decode b_MO_use 108 = .ok (.iaload, 1) := by decide +kernel
theorem d_MO_use_109 : decode b_MO_use 109 = .ok (.bipush 8, 2) := by decide +kernel
theorem d_MO_use_111 : decode b_MO_use 111 = .ok (.if_icmp .ne 58, 3) := by decide +kernel
theorem d_MO_use_114 : decode b_MO_use 114 = .ok (.iconst 1, 1) := by decide +kernel
theorem d_MO_use_115 : decode b_MO_use 115 = .ok (.istore 6, 2) := by decide +kernel
theorem d_MO_use_117 : decode b_MO_use 117 = .ok (.iload 6, 2) := by decide +kernel
theorem d_MO_use_119 : decode b_MO_use 119 = .ok (.bipush 8, 2) := by decide +kernel
theorem d_MO_use_121 : decode b_MO_use 121 = .ok (.if_icmp .ge 37, 3) := by decide +kernel
theorem d_MO_use_124 : decode b_MO_use 124 = .ok (.aload_n 0, 1) := by decide +kernel
theorem d_MO_use_125 : decode b_MO_use 125 = .ok (.getfield 25, 3) := by decide +kernel
theorem d_MO_use_128 : decode b_MO_use 128 = .ok (.bipush 8, 2) := by decide +kernel
theorem d_MO_use_130 : decode b_MO_use 130 = .ok (.iload 5, 2) := by decide +kernel
theorem d_MO_use_132 : decode b_MO_use 132 = .ok (.imul, 1) := by decide +kernel
theorem d_MO_use_133 : decode b_MO_use 133 = .ok (.iload 6, 2) := by decide +kernel
theorem d_MO_use_135 : decode b_MO_use 135 = .ok (.iadd, 1) := by decide +kernel
theorem d_MO_use_136 : decode b_MO_use 136 = .ok (.iconst 1, 1) := by decide +kernel
theorem d_MO_use_137 : decode b_MO_use 137 = .ok (.isub, 1) := by decide +kernel
theorem d_MO_use_138 : decode b_MO_use 138 = .ok (.aload_n 0, 1) := by decide +kernel
theorem d_MO_use_139 : decode b_MO_use 139 = .ok (.getfield 25, 3) := by decide +kernel
theorem d_MO_use_142 : decode b_MO_use 142 = .ok (.bipush 8, 2) := by decide +kernel
theorem d_MO_use_144 : decode b_MO_use 144 = .ok (.iload 5, 2) := by decide +kernel
theorem d_MO_use_146 : decode b_MO_use 146 = .ok (.imul, 1) := by decide +kernel
theorem d_MO_use_147 : decode b_MO_use 147 = .ok (.iload 6, 2) := by decide +kernel
theorem d_MO_use_149 : decode b_MO_use 149 = .ok (.iadd, 1) := by decide +kernel
theorem d_MO_use_150 : decode b_MO_use 150 = .ok (.iaload, 1) := by decide +kernel
theorem d_MO_use_151 : decode b_MO_use 151 = .ok (.iastore, 1) := by decide +kernel
theorem d_MO_use_152 : decode b_MO_use 152 = .ok (.iinc 6 1, 3) := by decide +kernel
theorem d_MO_use_155 : decode b_MO_use 155 = .ok (.goto (-38), 3) := by decide +kernel
theorem d_MO_use_158 : decode b_MO_use 158 = .ok (.aload_n 0, 1) := by decide +kernel
theorem d_MO_use_159 : decode b_MO_use 159 = .ok (.getfield 22, 3) := by decide +kernel
theorem d_MO_use_162 : decode b_MO_use 162 = .ok (.iload 5, 2) := by decide +kernel
theorem d_MO_use_164 : decode b_MO_use 164 = .ok (.dup2, 1) := by decide +kernel
theorem d_MO_use_165 : decode b_MO_use 165 = .ok (.iaload, 1) := by decide +kernel
theorem d_MO_use_166 : decode b_MO_use 166 = .ok (.iconst 1, 1) := by decide +kernel
theorem d_MO_use_167 : decode b_MO_use 167 = .ok (.isub, 1) := by decide +kernel
theorem d_MO_use_168 : decode b_MO_use 168 = .ok (.iastore, 1) := by decide +kernel
theorem d_MO_use_169 : decode b_MO_use 169 = .ok (.aload_n 0, 1) := by decide +kernel
theorem d_MO_use_170 : decode b_MO_use 170 = .ok (.getfield 25, 3) := by decide +kernel
theorem d_MO_use_173 : decode b_MO_use 173 = .ok (.bipush 8, 2) := by decide +kernel
theorem d_MO_use_175 : decode b_MO_use 175 = .ok (.iload 5, 2) := by decide +kernel
theorem d_MO_use_177 : decode b_MO_use 177 = .ok (.imul, 1) := by decide +kernel
theorem d_MO_use_178 : decode b_MO_use 178 = .ok (.aload_n 0, 1) := by decide +kernel
theorem d_MO_use_179 : decode b_MO_use 179 = .ok (.getfield 22, 3) := by decide +kernel
theorem d_MO_use_182 : decode b_MO_use 182 = .ok (.iload 5, 2) := by decide +kernel
theorem d_MO_use_184 : decode b_MO_use 184 = .ok (.iaload, 1) := by decide +kernel
theorem d_MO_use_185 : decode b_MO_use 185 = .ok (.iadd, 1) := by decide +kernel
theorem d_MO_use_186 : decode b_MO_use 186 = .ok (.iload_n 3, 1) := by decide +kernel
theorem d_MO_use_187 : decode b_MO_use 187 = .ok (.iastore, 1) := by decide +kernel
theorem d_MO_use_188 : decode b_MO_use 188 = .ok (.aload_n 0, 1) := by decide +kernel
theorem d_MO_use_189 : decode b_MO_use 189 = .ok (.getfield 22, 3) := by decide +kernel
theorem d_MO_use_192 : decode b_MO_use 192 = .ok (.iload 5, 2) := by decide +kernel
theorem d_MO_use_194 : decode b_MO_use 194 = .ok (.dup2, 1) := by decide +kernel
theorem d_MO_use_195 : decode b_MO_use 195 = .ok (.iaload, 1) := by decide +kernel
theorem d_MO_use_196 : decode b_MO_use 196 = .ok (.iconst 1, 1) := by decide +kernel
theorem d_MO_use_197 : decode b_MO_use 197 = .ok (.iadd, 1) := by decide +kernel
theorem d_MO_use_198 : decode b_MO_use 198 = .ok (.iastore, 1) := by decide +kernel
theorem d_MO_use_199 : decode b_MO_use 199 = .ok (.iconst 0, 1) := by decide +kernel
theorem d_MO_use_200 : decode b_MO_use 200 = .ok (.ireturn, 1) := by decide +kernel
theorem d_MO_used_0 : decode b_MO_used 0 = .ok (.aload_n 0, 1) := by decide +kernel
theorem d_MO_used_1 : decode b_MO_used 1 = .ok (.iload_n 1, 1) := by decide +kernel
theorem d_MO_used_2 : decode b_MO_used 2 = .ok (.ifCond .lt 23, 3) := by decide +kernel
theorem d_MO_used_5 : decode b_MO_used 5 = .ok (.iload_n 1, 1) := by decide +kernel
theorem d_MO_used_6 : decode b_MO_used 6 = .ok (.aload_n 0, 1) := by decide +kernel
theorem d_MO_used_7 : decode b_MO_used 7 = .ok (.getfield 85, 3) := by decide +kernel
theorem d_MO_used_10 : decode b_MO_used 10 = .ok (.if_icmp .ge 15, 3) := by decide +kernel
theorem d_MO_used_13 : decode b_MO_used 13 = .ok (.iload_n 2, 1) := by decide +kernel
theorem d_MO_used_14 : decode b_MO_used 14 = .ok (.aload_n 0, 1) := by decide +kernel
theorem d_MO_used_15 : decode b_MO_used 15 = .ok (.getfield 94, 3) := by decide +kernel
theorem d_MO_used_18 : decode b_MO_used 18 = .ok (.if_icmp .lt 7, 3) := by decide +kernel
theorem d_MO_used_21 : decode b_MO_used 21 = .ok (.iconst 1, 1) := by decide +kernel
theorem d_MO_used_22 : decode b_MO_used 22 = .ok (.goto 4, 3) := by decide +kernel
theorem d_MO_used_25 : decode b_MO_used 25 = .ok (.iconst 0, 1) := by decide +kernel
theorem d_MO_used_26 : decode b_MO_used 26 = .ok (.iconst 1, 1) := by decide +kernel
theorem d_MO_used_27 : decode b_MO_used 27 = .ok (.invokevirtual 66, 3) := by decide +kernel
theorem d_MO_used_30 : decode b_MO_used 30 = .ok (.ifCond .eq 12, 3) := by decide +kernel
theorem d_MO_used_33 : decode b_MO_used 33 = .ok (.aload_n 0, 1) := by decide +kernel
theorem d_MO_used_34 : decode b_MO_used 34 = .ok (.iload_n 1, 1) := by decide +kernel
theorem d_MO_used_35 : decode b_MO_used 35 = .ok (.iload_n 2, 1) := by decide +kernel
theorem d_MO_used_36 : decode b_MO_used 36 = .ok (.invokevirtual 97, 3) := by decide +kernel
theorem d_MO_used_39 : decode b_MO_used 39 = .ok (.goto 4, 3) := by decide +kernel
theorem d_MO_used_42 : decode b_MO_used 42 = .ok (.iconst 0, 1) := by decide +kernel
theorem d_MO_used_43 : decode b_MO_used 43 = .ok (.ireturn, 1) := by decide +kernel
theorem d_MO_told_0 : decode b_MO_told 0 = .ok (.aload_n 0, 1) := by decide +kernel
theorem d_MO_told_1 : decode b_MO_told 1 = .ok (.iload_n 1, 1) := by decide +kernel
theorem d_MO_told_2 : decode b_MO_told 2 = .ok (.ifCond .lt 24, 3) := by decide +kernel
theorem d_MO_told_5 : decode b_MO_told 5 = .ok (.iload_n 1, 1) := by decide +kernel
theorem d_MO_told_6 : decode b_MO_told 6 = .ok (.aload_n 0, 1) := by decide +kernel
theorem d_MO_told_7 : decode b_MO_told 7 = .ok (.getfield 88, 3) := by decide +kernel
theorem d_MO_told_10 : decode b_MO_told 10 = .ok (.if_icmp .ge 16, 3) := by decide +kernel
theorem d_MO_told_13 : decode b_MO_told 13 = .ok (.iload_n 2, 1) := by decide +kernel
theorem d_MO_told_14 : decode b_MO_told 14 = .ok (.ifCond .lt 12, 3) := by decide +kernel
theorem d_MO_told_17 : decode b_MO_told 17 = .ok (.iload_n 2, 1) := by decide +kernel
theorem d_MO_told_18 : decode b_MO_told 18 = .ok (.iconst 3, 1) := by decide +kernel
theorem d_MO_told_19 : decode b_MO_told 19 = .ok (.if_icmp .gt 7, 3) := by decide +kernel
theorem d_MO_told_22 : decode b_MO_told 22 = .ok (.iconst 1, 1) := by decide +kernel
theorem d_MO_told_23 : decode b_MO_told 23 = .ok (.goto 4, 3) := by decide +kernel
theorem d_MO_told_26 : decode b_MO_told 26 = .ok (.iconst 0, 1) := by decide +kernel
theorem d_MO_told_27 : decode b_MO_told 27 = .ok (.iconst 1, 1) := by decide +kernel
theorem d_MO_told_28 : decode b_MO_told 28 = .ok (.invokevirtual 66, 3) := by decide +kernel
theorem d_MO_told_31 : decode b_MO_told 31 = .ok (.ifCond .ne 5, 3) := by decide +kernel
theorem d_MO_told_34 : decode b_MO_told 34 = .ok (.lconst 0, 1) := by decide +kernel
theorem d_MO_told_35 : decode b_MO_told 35 = .ok (.lreturn, 1) := by decide +kernel
theorem d_MO_told_36 : decode b_MO_told 36 = .ok (.iload_n 2, 1) := by decide +kernel
theorem d_MO_told_37 : decode b_MO_told 37 = .ok (.ifCond .ne 13, 3) := by decide +kernel
theorem d_MO_told_40 : decode b_MO_told 40 = .ok (.aload_n 0, 1) := by decide +kernel
theorem d_MO_told_41 : decode b_MO_told 41 = .ok (.getfield 32, 3) := by decide +kernel
theorem d_MO_told_44 : decode b_MO_told 44 = .ok (.iload_n 1, 1) := by decide +kernel
theorem d_MO_told_45 : decode b_MO_told 45 = .ok (.iaload, 1) := by decide +kernel
theorem d_MO_told_46 : decode b_MO_told 46 = .ok (.i2l, 1) := by decide +kernel
theorem d_MO_told_47 : decode b_MO_told 47 = .ok (.goto 54, 3) := by decide +kernel
theorem d_MO_told_50 : decode b_MO_told 50 = .ok (.iload_n 2, 1) := by decide +kernel
theorem d_MO_told_51 : decode b_MO_told 51 = .ok (.iconst 1, 1) := by decide +kernel
theorem d_MO_told_52 : decode b_MO_told 52 = .ok (.if_icmp .ne 16, 3) := by decide +kernel
theorem d_MO_told_55 : decode b_MO_told 55 = .ok (.aload_n 0, 1) := by decide +kernel
theorem d_MO_told_56 : decode b_MO_told 56 = .ok (.getfield 28, 3) := by decide +kernel
theorem d_MO_told_59 : decode b_MO_told 59 = .ok (.iload_n 1, 1) := by decide +kernel
theorem d_MO_told_60 : decode b_MO_told 60 = .ok (.laload, 1) := by decide +kernel
theorem d_MO_told_61 : decode b_MO_told 61 = .ok (.invokestatic 51, 3) := by decide +kernel
theorem d_MO_told_64 : decode b_MO_told 64 = .ok (.i2l, 1) := by decide +kernel
theorem d_MO_told_65 : decode b_MO_told 65 = .ok (.goto 36, 3) := by decide +kernel
theorem d_MO_told_68 : decode b_MO_told 68 = .ok (.iload_n 2, 1) := by decide +kernel
theorem d_MO_told_69 : decode b_MO_told 69 = .ok (.iconst 2, 1) := by decide +kernel
theorem d_MO_told_70 : decode b_MO_told 70 = .ok (.if_icmp .ne 20, 3) := by decide +kernel
theorem d_MO_told_73 : decode b_MO_told 73 = .ok (.aload_n 0, 1) := by decide +kernel
theorem d_MO_told_74 : decode b_MO_told 74 = .ok (.getfield 35, 3) := by decide +kernel
theorem d_MO_told_77 : decode b_MO_told 77 = .ok (.iload_n 1, 1) := by decide +kernel
theorem d_MO_told_78 : decode b_MO_told 78 = .ok (.baload, 1) := by decide +kernel
theorem d_MO_told_79 : decode b_MO_told 79 = .ok (.ifCond .eq 7, 3) := by decide +kernel
theorem d_MO_told_82 : decode b_MO_told 82 = .ok (.lconst 1, 1) := by decide +kernel
theorem d_MO_told_83 : decode b_MO_told 83 = .ok (.goto 18, 3) := by decide +kernel
theorem d_MO_told_86 : decode b_MO_told 86 = .ok (.lconst 0, 1) := by decide +kernel
theorem d_MO_told_87 : decode b_MO_told 87 = .ok (.goto 14, 3) := by decide +kernel
theorem d_MO_told_90 : decode b_MO_told 90 = .ok (.aload_n 0, 1) := by decide +kernel
theorem d_MO_told_91 : decode b_MO_told 91 = .ok (.aload_n 0, 1) := by decide +kernel
theorem d_MO_told_92 : decode b_MO_told 92 = .ok (.getfield 28, 3) := by decide +kernel
theorem d_MO_told_95 : decode b_MO_told 95 = .ok (.iload_n 1, 1) := by decide +kernel
theorem d_MO_told_96 : decode b_MO_told 96 = .ok (.laload, 1) := by decide +kernel
theorem d_MO_told_97 : decode b_MO_told 97 = .ok (.invokevirtual 78, 3) := by decide +kernel
theorem d_MO_told_100 : decode b_MO_told 100 = .ok (.i2l, 1) := by decide +kernel
theorem d_MO_told_101 : decode b_MO_told 101 = .ok (.lreturn, 1) := by decide +kernel
