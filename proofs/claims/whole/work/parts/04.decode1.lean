theorem dX7_init_9 : decode cX7_init 9 = .ok (.putfield 9, 3) := by decide +kernel
theorem dX7_init_12 : decode cX7_init 12 = .ok (.aload_n 0, 1) := by decide +kernel
theorem dX7_init_13 : decode cX7_init 13 = .ok (.bipush 36, 2) := by decide +kernel
theorem dX7_init_15 : decode cX7_init 15 = .ok (.newarray .int, 2) := by decide +kernel
theorem dX7_init_17 : decode cX7_init 17 = .ok (.putfield 15, 3) := by decide +kernel
theorem dX7_init_20 : decode cX7_init 20 = .ok (.aload_n 0, 1) := by decide +kernel
theorem dX7_init_21 : decode cX7_init 21 = .ok (.getfield 15, 3) := by decide +kernel
theorem dX7_init_24 : decode cX7_init 24 = .ok (.bipush 60, 2) := by decide +kernel
theorem dX7_init_26 : decode cX7_init 26 = .ok (.invokestatic 18, 3) := by decide +kernel
theorem dX7_init_29 : decode cX7_init 29 = .ok (.return_, 1) := by decide +kernel
theorem dX7_add_0 : decode cX7_add 0 = .ok (.aload_n 0, 1) := by decide +kernel
theorem dX7_add_1 : decode cX7_add 1 = .ok (.getfield 9, 3) := by decide +kernel
theorem dX7_add_4 : decode cX7_add 4 = .ok (.aload_n 0, 1) := by decide +kernel
theorem dX7_add_5 : decode cX7_add 5 = .ok (.getfield 24, 3) := by decide +kernel
theorem dX7_add_8 : decode cX7_add 8 = .ok (.iload_n 1, 1) := by decide +kernel
theorem dX7_add_9 : decode cX7_add 9 = .ok (.iastore, 1) := by decide +kernel
theorem dX7_add_10 : decode cX7_add 10 = .ok (.aload_n 0, 1) := by decide +kernel
theorem dX7_add_11 : decode cX7_add 11 = .ok (.dup, 1) := by decide +kernel
theorem dX7_add_12 : decode cX7_add 12 = .ok (.getfield 24, 3) := by decide +kernel
theorem dX7_add_15 : decode cX7_add 15 = .ok (.iconst 1, 1) := by decide +kernel
theorem dX7_add_16 : decode cX7_add 16 = .ok (.iadd, 1) := by decide +kernel
theorem dX7_add_17 : decode cX7_add 17 = .ok (.putfield 24, 3) := by decide +kernel
theorem dX7_add_20 : decode cX7_add 20 = .ok (.aload_n 0, 1) := by decide +kernel
theorem dX7_add_21 : decode cX7_add 21 = .ok (.getfield 24, 3) := by decide +kernel
theorem dX7_add_24 : decode cX7_add 24 = .ok (.iconst 1, 1) := by decide +kernel
theorem dX7_add_25 : decode cX7_add 25 = .ok (.isub, 1) := by decide +kernel
theorem dX7_add_26 : decode cX7_add 26 = .ok (.ireturn, 1) := by decide +kernel
theorem dX7_moveBetween_0 : decode cX7_moveBetween 0 = .ok (.iload_n 1, 1) := by decide +kernel
theorem dX7_moveBetween_1 : decode cX7_moveBetween 1 = .ok (.iload_n 2, 1) := by decide +kernel
theorem dX7_moveBetween_2 : decode cX7_moveBetween 2 = .ok (.if_icmp .ne 7, 3) := by decide +kernel
theorem dX7_moveBetween_5 : decode cX7_moveBetween 5 = .ok (.iconst 0, 1) := by decide +kernel
theorem dX7_moveBetween_6 : decode cX7_moveBetween 6 = .ok (.goto 14, 3) := by decide +kernel
theorem dX7_moveBetween_9 : decode cX7_moveBetween 9 = .ok (.aload_n 0, 1) := by decide +kernel
theorem dX7_moveBetween_10 : decode cX7_moveBetween 10 = .ok (.getfield 15, 3) := by decide +kernel
theorem dX7_moveBetween_13 : decode cX7_moveBetween 13 = .ok (.iload_n 1, 1) := by decide +kernel
theorem dX7_moveBetween_14 : decode cX7_moveBetween 14 = .ok (.bipush 6, 2) := by decide +kernel
theorem dX7_moveBetween_16 : decode cX7_moveBetween 16 = .ok (.imul, 1) := by decide +kernel
theorem dX7_moveBetween_17 : decode cX7_moveBetween 17 = .ok (.iload_n 2, 1) := by decide +kernel
theorem dX7_moveBetween_18 : decode cX7_moveBetween 18 = .ok (.iadd, 1) := by decide +kernel
theorem dX7_moveBetween_19 : decode cX7_moveBetween 19 = .ok (.iaload, 1) := by decide +kernel
theorem dX7_moveBetween_20 : decode cX7_moveBetween 20 = .ok (.ireturn, 1) := by decide +kernel
theorem dX7_tellMove_0 : decode cX7_tellMove 0 = .ok (.aload_n 0, 1) := by decide +kernel
theorem dX7_tellMove_1 : decode cX7_tellMove 1 = .ok (.iload_n 1, 1) := by decide +kernel
theorem dX7_tellMove_2 : decode cX7_tellMove 2 = .ok (.iload_n 2, 1) := by decide +kernel
theorem dX7_tellMove_3 : decode cX7_tellMove 3 = .ok (.invokevirtual 28, 3) := by decide +kernel
theorem dX7_tellMove_6 : decode cX7_tellMove 6 = .ok (.istore 4, 2) := by decide +kernel
theorem dX7_tellMove_8 : decode cX7_tellMove 8 = .ok (.aload_n 0, 1) := by decide +kernel
theorem dX7_tellMove_9 : decode cX7_tellMove 9 = .ok (.getfield 15, 3) := by decide +kernel
theorem dX7_tellMove_12 : decode cX7_tellMove 12 = .ok (.iload_n 1, 1) := by decide +kernel
theorem dX7_tellMove_13 : decode cX7_tellMove 13 = .ok (.bipush 6, 2) := by decide +kernel
theorem dX7_tellMove_15 : decode cX7_tellMove 15 = .ok (.imul, 1) := by decide +kernel
theorem dX7_tellMove_16 : decode cX7_tellMove 16 = .ok (.iload_n 2, 1) := by decide +kernel
theorem dX7_tellMove_17 : decode cX7_tellMove 17 = .ok (.iadd, 1) := by decide +kernel
theorem dX7_tellMove_18 : decode cX7_tellMove 18 = .ok (.iload_n 3, 1) := by decide +kernel
theorem dX7_tellMove_19 : decode cX7_tellMove 19 = .ok (.iastore, 1) := by decide +kernel
theorem dX7_tellMove_20 : decode cX7_tellMove 20 = .ok (.aload_n 0, 1) := by decide +kernel
theorem dX7_tellMove_21 : decode cX7_tellMove 21 = .ok (.getfield 15, 3) := by decide +kernel
theorem dX7_tellMove_24 : decode cX7_tellMove 24 = .ok (.iload_n 2, 1) := by decide +kernel
theorem dX7_tellMove_25 : decode cX7_tellMove 25 = .ok (.bipush 6, 2) := by decide +kernel
theorem dX7_tellMove_27 : decode cX7_tellMove 27 = .ok (.imul, 1) := by decide +kernel
theorem dX7_tellMove_28 : decode cX7_tellMove 28 = .ok (.iload_n 1, 1) := by decide +kernel
theorem dX7_tellMove_29 : decode cX7_tellMove 29 = .ok (.iadd, 1) := by decide +kernel
theorem dX7_tellMove_30 : decode cX7_tellMove 30 = .ok (.iload_n 3, 1) := by decide +kernel
theorem dX7_tellMove_31 : decode cX7_tellMove 31 = .ok (.iastore, 1) := by decide +kernel
theorem dX7_tellMove_32 : decode cX7_tellMove 32 = .ok (.iload 4, 2) := by decide +kernel
theorem dX7_tellMove_34 : decode cX7_tellMove 34 = .ok (.ireturn, 1) := by decide +kernel
theorem dX8_init_0 : decode cX8_init 0 = .ok (.aload_n 0, 1) := by decide +kernel
theorem dX8_init_1 : decode cX8_init 1 = .ok (.invokespecial 3, 3) := by decide +kernel
theorem dX8_init_4 : decode cX8_init 4 = .ok (.aload_n 0, 1) := by decide +kernel
theorem dX8_init_5 : decode cX8_init 5 = .ok (.iconst 4, 1) := by decide +kernel
theorem dX8_init_6 : decode cX8_init 6 = .ok (.newarray .int, 2) := by decide +kernel
theorem dX8_init_8 : decode cX8_init 8 = .ok (.putfield 9, 3) := by decide +kernel
theorem dX8_init_11 : decode cX8_init 11 = .ok (.aload_n 0, 1) := by decide +kernel
theorem dX8_init_12 : decode cX8_init 12 = .ok (.iconst 4, 1) := by decide +kernel
theorem dX8_init_13 : decode cX8_init 13 = .ok (.newarray .int, 2) := by decide +kernel
theorem dX8_init_15 : decode cX8_init 15 = .ok (.putfield 15, 3) := by decide +kernel
theorem dX8_init_18 : decode cX8_init 18 = .ok (.aload_n 0, 1) := by decide +kernel
theorem dX8_init_19 : decode cX8_init 19 = .ok (.iconst (-1), 1) := by decide +kernel
theorem dX8_init_20 : decode cX8_init 20 = .ok (.putfield 18, 3) := by decide +kernel
theorem dX8_init_23 : decode cX8_init 23 = .ok (.aload_n 0, 1) := by decide +kernel
theorem dX8_init_24 : decode cX8_init 24 = .ok (.getfield 9, 3) := by decide +kernel
theorem dX8_init_27 : decode cX8_init 27 = .ok (.iconst (-1), 1) := by decide +kernel
theorem dX8_init_28 : decode cX8_init 28 = .ok (.invokestatic 22, 3) := by decide +kernel
theorem dX8_init_31 : decode cX8_init 31 = .ok (.aload_n 0, 1) := by decide +kernel
theorem dX8_init_32 : decode cX8_init 32 = .ok (.getfield 15, 3) := by decide +kernel
theorem dX8_init_35 : decode cX8_init 35 = .ok (.iconst (-1), 1) := by decide +kernel
theorem dX8_init_36 : decode cX8_init 36 = .ok (.invokestatic 22, 3) := by decide +kernel
theorem dX8_init_39 : decode cX8_init 39 = .ok (.return_, 1) := by decide +kernel
theorem dX8_status_0 : decode cX8_status 0 = .ok (.aload_n 0, 1) := by decide +kernel
theorem dX8_status_1 : decode cX8_status 1 = .ok (.getfield 28, 3) := by decide +kernel
theorem dX8_status_4 : decode cX8_status 4 = .ok (.ifCond .eq 5, 3) := by decide +kernel
theorem dX8_status_7 : decode cX8_status 7 = .ok (.iconst 4, 1) := by decide +kernel
theorem dX8_status_8 : decode cX8_status 8 = .ok (.ireturn, 1) := by decide +kernel
theorem dX8_status_9 : decode cX8_status 9 = .ok (.aload_n 0, 1) := by decide +kernel
theorem dX8_status_10 : decode cX8_status 10 = .ok (.getfield 32, 3) := by decide +kernel
theorem dX8_status_13 : decode cX8_status 13 = .ok (.ifCond .eq 5, 3) := by decide +kernel
theorem dX8_status_16 : decode cX8_status 16 = .ok (.iconst 2, 1) := by decide +kernel
theorem dX8_status_17 : decode cX8_status 17 = .ok (.ireturn, 1) := by decide +kernel
theorem dX8_status_18 : decode cX8_status 18 = .ok (.aload_n 0, 1) := by decide +kernel
theorem dX8_status_19 : decode cX8_status 19 = .ok (.getfield 18, 3) := by decide +kernel
theorem dX8_status_22 : decode cX8_status 22 = .ok (.iconst (-1), 1) := by decide +kernel
theorem dX8_status_23 : decode cX8_status 23 = .ok (.if_icmp .eq 5, 3) := by decide +kernel
theorem dX8_status_26 : decode cX8_status 26 = .ok (.iconst 1, 1) := by decide +kernel
theorem dX8_status_27 : decode cX8_status 27 = .ok (.ireturn, 1) := by decide +kernel
theorem dX8_status_28 : decode cX8_status 28 = .ok (.aload_n 0, 1) := by decide +kernel
theorem dX8_status_29 : decode cX8_status 29 = .ok (.getfield 35, 3) := by decide +kernel
theorem dX8_status_32 : decode cX8_status 32 = .ok (.ifCond .eq 7, 3) := by decide +kernel
theorem dX8_status_35 : decode cX8_status 35 = .ok (.iconst 3, 1) := by decide +kernel
theorem dX8_status_36 : decode cX8_status 36 = .ok (.goto 4, 3) := by decide +kernel
theorem dX8_status_39 : decode cX8_status 39 = .ok (.iconst 0, 1) := by decide +kernel
theorem dX8_status_40 : decode cX8_status 40 = .ok (.ireturn, 1) := by decide +kernel
theorem dX8_isLoose_0 : decode cX8_isLoose 0 = .ok (.aload_n 0, 1) := by decide +kernel
theorem dX8_isLoose_1 : decode cX8_isLoose 1 = .ok (.getfield 28, 3) := by decide +kernel
theorem dX8_isLoose_4 : decode cX8_isLoose 4 = .ok (.ifCond .ne 22, 3) := by decide +kernel
theorem dX8_isLoose_7 : decode cX8_isLoose 7 = .ok (.aload_n 0, 1) := by decide +kernel
theorem dX8_isLoose_8 : decode cX8_isLoose 8 = .ok (.getfield 32, 3) := by decide +kernel
theorem dX8_isLoose_11 : decode cX8_isLoose 11 = .ok (.ifCond .ne 15, 3) := by decide +kernel
theorem dX8_isLoose_14 : decode cX8_isLoose 14 = .ok (.aload_n 0, 1) := by decide +kernel
theorem dX8_isLoose_15 : decode cX8_isLoose 15 = .ok (.getfield 18, 3) := by decide +kernel
theorem dX8_isLoose_18 : decode cX8_isLoose 18 = .ok (.iconst (-1), 1) := by decide +kernel
theorem dX8_isLoose_19 : decode cX8_isLoose 19 = .ok (.if_icmp .ne 7, 3) := by decide +kernel
theorem dX8_isLoose_22 : decode cX8_isLoose 22 = .ok (.iconst 1, 1) := by decide +kernel
theorem dX8_isLoose_23 : decode cX8_isLoose 23 = .ok (.goto 4, 3) := by decide +kernel
theorem dX8_isLoose_26 : decode cX8_isLoose 26 = .ok (.iconst 0, 1) := by decide +kernel
theorem dX8_isLoose_27 : decode cX8_isLoose 27 = .ok (.ireturn, 1) := by decide +kernel
theorem dX8_isSettled_0 : decode cX8_isSettled 0 = .ok (.aload_n 0, 1) := by decide +kernel
theorem dX8_isSettled_1 : decode cX8_isSettled 1 = .ok (.getfield 28, 3) := by decide +kernel
theorem dX8_isSettled_4 : decode cX8_isSettled 4 = .ok (.ifCond .ne 18, 3) := by decide +kernel
theorem dX8_isSettled_7 : decode cX8_isSettled 7 = .ok (.aload_n 0, 1) := by decide +kernel
theorem dX8_isSettled_8 : decode cX8_isSettled 8 = .ok (.getfield 32, 3) := by decide +kernel
theorem dX8_isSettled_11 : decode cX8_isSettled 11 = .ok (.ifCond .ne 11, 3) := by decide +kernel
theorem dX8_isSettled_14 : decode cX8_isSettled 14 = .ok (.aload_n 0, 1) := by decide +kernel
theorem dX8_isSettled_15 : decode cX8_isSettled 15 = .ok (.getfield 18, 3) := by decide +kernel
theorem dX8_isSettled_18 : decode cX8_isSettled 18 = .ok (.iconst (-1), 1) := by decide +kernel
theorem dX8_isSettled_19 : decode cX8_isSettled 19 = .ok (.if_icmp .eq 7, 3) := by decide +kernel
theorem dX8_isSettled_22 : decode cX8_isSettled 22 = .ok (.iconst 1, 1) := by decide +kernel
theorem dX8_isSettled_23 : decode cX8_isSettled 23 = .ok (.goto 4, 3) := by decide +kernel
theorem dX8_isSettled_26 : decode cX8_isSettled 26 = .ok (.iconst 0, 1) := by decide +kernel
theorem dX8_isSettled_27 : decode cX8_isSettled 27 = .ok (.ireturn, 1) := by decide +kernel
theorem dX8_lasts_0 : decode cX8_lasts 0 = .ok (.aload_n 0, 1) := by decide +kernel
theorem dX8_lasts_1 : decode cX8_lasts 1 = .ok (.getfield 32, 3) := by decide +kernel
theorem dX8_lasts_4 : decode cX8_lasts 4 = .ok (.ifCond .eq 10, 3) := by decide +kernel
theorem dX8_lasts_7 : decode cX8_lasts 7 = .ok (.aload_n 0, 1) := by decide +kernel
theorem dX8_lasts_8 : decode cX8_lasts 8 = .ok (.getfield 38, 3) := by decide +kernel
theorem dX8_lasts_11 : decode cX8_lasts 11 = .ok (.goto 9, 3) := by decide +kernel
theorem dX8_lasts_14 : decode cX8_lasts 14 = .ok (.aload_n 0, 1) := by decide +kernel
theorem dX8_lasts_15 : decode cX8_lasts 15 = .ok (.getfield 41, 3) := by decide +kernel
theorem dX8_lasts_18 : decode cX8_lasts 18 = .ok (.iload_n 1, 1) := by decide +kernel
theorem dX8_lasts_19 : decode cX8_lasts 19 = .ok (.imul, 1) := by decide +kernel
theorem dX8_lasts_20 : decode cX8_lasts 20 = .ok (.ireturn, 1) := by decide +kernel
theorem dX8_wantsLight_0 : decode cX8_wantsLight 0 = .ok (.aload_n 0, 1) := by decide +kernel
theorem dX8_wantsLight_1 : decode cX8_wantsLight 1 = .ok (.getfield 44, 3) := by decide +kernel
theorem dX8_wantsLight_4 : decode cX8_wantsLight 4 = .ok (.ifCond .eq 14, 3) := by decide +kernel
theorem dX8_wantsLight_7 : decode cX8_wantsLight 7 = .ok (.aload_n 0, 1) := by decide +kernel
theorem dX8_wantsLight_8 : decode cX8_wantsLight 8 = .ok (.getfield 47, 3) := by decide +kernel
theorem dX8_wantsLight_11 : decode cX8_wantsLight 11 = .ok (.ifCond .ne 7, 3) := by decide +kernel
theorem dX8_wantsLight_14 : decode cX8_wantsLight 14 = .ok (.iconst 1, 1) := by decide +kernel
theorem dX8_wantsLight_15 : decode cX8_wantsLight 15 = .ok (.goto 4, 3) := by decide +kernel
theorem dX8_wantsLight_18 : decode cX8_wantsLight 18 = .ok (.iconst 0, 1) := by decide +kernel
theorem dX8_wantsLight_19 : decode cX8_wantsLight 19 = .ok (.ireturn, 1) := by decide +kernel
theorem dX8_keepTake_0 : decode cX8_keepTake 0 = .ok (.aload_n 0, 1) := by decide +kernel
theorem dX8_keepTake_1 : decode cX8_keepTake 1 = .ok (.iconst 1, 1) := by decide +kernel
theorem dX8_keepTake_2 : decode cX8_keepTake 2 = .ok (.putfield 32, 3) := by decide +kernel
theorem dX8_keepTake_5 : decode cX8_keepTake 5 = .ok (.aload_n 0, 1) := by decide +kernel
theorem dX8_keepTake_6 : decode cX8_keepTake 6 = .ok (.iconst 0, 1) := by decide +kernel
theorem dX8_keepTake_7 : decode cX8_keepTake 7 = .ok (.putfield 35, 3) := by decide +kernel
theorem dX8_keepTake_10 : decode cX8_keepTake 10 = .ok (.aload_n 0, 1) := by decide +kernel
theorem dX8_keepTake_11 : decode cX8_keepTake 11 = .ok (.iload_n 1, 1) := by decide +kernel
theorem dX8_keepTake_12 : decode cX8_keepTake 12 = .ok (.putfield 38, 3) := by decide +kernel
theorem dX8_keepTake_15 : decode cX8_keepTake 15 = .ok (.return_, 1) := by decide +kernel
theorem dX9_init_0 : decode cX9_init 0 = .ok (.aload_n 0, 1) := by decide +kernel
theorem dX9_init_1 : decode cX9_init 1 = .ok (.invokespecial 3, 3) := by decide +kernel
theorem dX9_init_4 : decode cX9_init 4 = .ok (.aload_n 0, 1) := by decide +kernel
theorem dX9_init_5 : decode cX9_init 5 = .ok (.bipush 20, 2) := by decide +kernel
theorem dX9_init_7 : decode cX9_init 7 = .ok (.anewarray 9, 3) := by decide +kernel
theorem dX9_init_10 : decode cX9_init 10 = .ok (.putfield 11, 3) := by decide +kernel
theorem dX9_init_13 : decode cX9_init 13 = .ok (.aload_n 0, 1) := by decide +kernel
theorem dX9_init_14 : decode cX9_init 14 = .ok (.bipush 20, 2) := by decide +kernel
theorem dX9_init_16 : decode cX9_init 16 = .ok (.newarray .int, 2) := by decide +kernel
theorem dX9_init_18 : decode cX9_init 18 = .ok (.putfield 17, 3) := by decide +kernel
theorem dX9_init_21 : decode cX9_init 21 = .ok (.aload_n 0, 1) := by decide +kernel
theorem dX9_init_22 : decode cX9_init 22 = .ok (.iconst 4, 1) := by decide +kernel
theorem dX9_init_23 : decode cX9_init 23 = .ok (.newarray .int, 2) := by decide +kernel
theorem dX9_init_25 : decode cX9_init 25 = .ok (.putfield 21, 3) := by decide +kernel
theorem dX9_init_28 : decode cX9_init 28 = .ok (.iconst 0, 1) := by decide +kernel
theorem dX9_init_29 : decode cX9_init 29 = .ok (.istore_n 1, 1) := by decide +kernel
theorem dX9_init_30 : decode cX9_init 30 = .ok (.iload_n 1, 1) := by decide +kernel
theorem dX9_init_31 : decode cX9_init 31 = .ok (.bipush 20, 2) := by decide +kernel
theorem dX9_init_33 : decode cX9_init 33 = .ok (.if_icmp .ge 22, 3) := by decide +kernel
theorem dX9_init_36 : decode cX9_init 36 = .ok (.aload_n 0, 1) := by decide +kernel
theorem dX9_init_37 : decode cX9_init 37 = .ok (.getfield 11, 3) := by decide +kernel
theorem dX9_init_40 : decode cX9_init 40 = .ok (.iload_n 1, 1) := by decide +kernel
theorem dX9_init_41 : decode cX9_init 41 = .ok (.new 9, 3) := by decide +kernel
theorem dX9_init_44 : decode cX9_init 44 = .ok (.dup, 1) := by decide +kernel
theorem dX9_init_45 : decode cX9_init 45 = .ok (.invokespecial 24, 3) := by decide +kernel
theorem dX9_init_48 : decode cX9_init 48 = .ok (.aastore, 1) := by decide +kernel
theorem dX9_init_49 : decode cX9_init 49 = .ok (.iinc 1 1, 3) := by decide +kernel
theorem dX9_init_52 : decode cX9_init 52 = .ok (.goto (-22), 3) := by decide +kernel
theorem dX9_init_55 : decode cX9_init 55 = .ok (.return_, 1) := by decide +kernel
theorem dX9_hasRoomBehind_0 : decode cX9_hasRoomBehind 0 = .ok (.aload_n 0, 1) := by decide +kernel
theorem dX9_hasRoomBehind_1 : decode cX9_hasRoomBehind 1 = .ok (.getfield 25, 3) := by decide +kernel
theorem dX9_hasRoomBehind_4 : decode cX9_hasRoomBehind 4 = .ok (.bipush 20, 2) := by decide +kernel
theorem dX9_hasRoomBehind_6 : decode cX9_hasRoomBehind 6 = .ok (.if_icmp .lt 5, 3) := by decide +kernel
theorem dX9_hasRoomBehind_9 : decode cX9_hasRoomBehind 9 = .ok (.iconst 0, 1) := by decide +kernel
theorem dX9_hasRoomBehind_10 : decode cX9_hasRoomBehind 10 = .ok (.ireturn, 1) := by decide +kernel
theorem dX9_hasRoomBehind_11 : decode cX9_hasRoomBehind 11 = .ok (.aload_n 0, 1) := by decide +kernel
theorem dX9_hasRoomBehind_12 : decode cX9_hasRoomBehind 12 = .ok (.getfield 29, 3) := by decide +kernel
theorem dX9_hasRoomBehind_15 : decode cX9_hasRoomBehind 15 = .ok (.ifCond .eq 20, 3) := by decide +kernel
theorem dX9_hasRoomBehind_18 : decode cX9_hasRoomBehind 18 = .ok (.aload_n 0, 1) := by decide +kernel
theorem dX9_hasRoomBehind_19 : decode cX9_hasRoomBehind 19 = .ok (.aload_n 0, 1) := by decide +kernel
theorem dX9_hasRoomBehind_20 : decode cX9_hasRoomBehind 20 = .ok (.aload_n 0, 1) := by decide +kernel
theorem dX9_hasRoomBehind_21 : decode cX9_hasRoomBehind 21 = .ok (.iload_n 1, 1) := by decide +kernel
theorem dX9_hasRoomBehind_22 : decode cX9_hasRoomBehind 22 = .ok (.invokevirtual 33, 3) := by decide +kernel
theorem dX9_hasRoomBehind_25 : decode cX9_hasRoomBehind 25 = .ok (.invokevirtual 37, 3) := by decide +kernel
theorem dX9_hasRoomBehind_28 : decode cX9_hasRoomBehind 28 = .ok (.invokevirtual 40, 3) := by decide +kernel
theorem dX9_hasRoomBehind_31 : decode cX9_hasRoomBehind 31 = .ok (.iconst (-1), 1) := by decide +kernel
theorem dX9_hasRoomBehind_32 : decode cX9_hasRoomBehind 32 = .ok (.if_icmp .eq 7, 3) := by decide +kernel
theorem dX9_hasRoomBehind_35 : decode cX9_hasRoomBehind 35 = .ok (.iconst 1, 1) := by decide +kernel
theorem dX9_hasRoomBehind_36 : decode cX9_hasRoomBehind 36 = .ok (.goto 4, 3) := by decide +kernel
theorem dX9_hasRoomBehind_39 : decode cX9_hasRoomBehind 39 = .ok (.iconst 0, 1) := by decide +kernel
theorem dX9_hasRoomBehind_40 : decode cX9_hasRoomBehind 40 = .ok (.ireturn, 1) := by decide +kernel
theorem dX9_add_0 : decode cX9_add 0 = .ok (.aload_n 0, 1) := by decide +kernel
theorem dX9_add_1 : decode cX9_add 1 = .ok (.iload_n 1, 1) := by decide +kernel
theorem dX9_add_2 : decode cX9_add 2 = .ok (.invokevirtual 33, 3) := by decide +kernel
theorem dX9_add_5 : decode cX9_add 5 = .ok (.istore 6, 2) := by decide +kernel
theorem dX9_add_7 : decode cX9_add 7 = .ok (.aload_n 0, 1) := by decide +kernel
theorem dX9_add_8 : decode cX9_add 8 = .ok (.getfield 11, 3) := by decide +kernel
theorem dX9_add_11 : decode cX9_add 11 = .ok (.aload_n 0, 1) := by decide +kernel
theorem dX9_add_12 : decode cX9_add 12 = .ok (.getfield 25, 3) := by decide +kernel
theorem dX9_add_15 : decode cX9_add 15 = .ok (.aaload, 1) := by decide +kernel
theorem dX9_add_16 : decode cX9_add 16 = .ok (.astore 7, 2) := by decide +kernel
theorem dX9_add_18 : decode cX9_add 18 = .ok (.aload 7, 2) := by decide +kernel
theorem dX9_add_20 : decode cX9_add 20 = .ok (.iload_n 2, 1) := by decide +kernel
theorem dX9_add_21 : decode cX9_add 21 = .ok (.putfield 43, 3) := by decide +kernel
theorem dX9_add_24 : decode cX9_add 24 = .ok (.aload 7, 2) := by decide +kernel
theorem dX9_add_26 : decode cX9_add 26 = .ok (.iload_n 3, 1) := by decide +kernel
theorem dX9_add_27 : decode cX9_add 27 = .ok (.putfield 46, 3) := by decide +kernel
theorem dX9_add_30 : decode cX9_add 30 = .ok (.aload 7, 2) := by decide +kernel
theorem dX9_add_32 : decode cX9_add 32 = .ok (.iload 4, 2) := by decide +kernel
theorem dX9_add_34 : decode cX9_add 34 = .ok (.putfield 49, 3) := by decide +kernel
theorem dX9_add_37 : decode cX9_add 37 = .ok (.aload 7, 2) := by decide +kernel
theorem dX9_add_39 : decode cX9_add 39 = .ok (.iload 5, 2) := by decide +kernel
theorem dX9_add_41 : decode cX9_add 41 = .ok (.putfield 52, 3) := by decide +kernel
theorem dX9_add_44 : decode cX9_add 44 = .ok (.aload_n 0, 1) := by decide +kernel
theorem dX9_add_45 : decode cX9_add 45 = .ok (.getfield 29, 3) := by decide +kernel
theorem dX9_add_48 : decode cX9_add 48 = .ok (.ifCond .eq 28, 3) := by decide +kernel
theorem dX9_add_51 : decode cX9_add 51 = .ok (.aload 7, 2) := by decide +kernel
theorem dX9_add_53 : decode cX9_add 53 = .ok (.aload_n 0, 1) := by decide +kernel
theorem dX9_add_54 : decode cX9_add 54 = .ok (.iload 6, 2) := by decide +kernel
theorem dX9_add_56 : decode cX9_add 56 = .ok (.invokevirtual 37, 3) := by decide +kernel
theorem dX9_add_59 : decode cX9_add 59 = .ok (.putfield 55, 3) := by decide +kernel
theorem dX9_add_62 : decode cX9_add 62 = .ok (.aload 7, 2) := by decide +kernel
theorem dX9_add_64 : decode cX9_add 64 = .ok (.aload_n 0, 1) := by decide +kernel
theorem dX9_add_65 : decode cX9_add 65 = .ok (.aload 7, 2) := by decide +kernel
theorem dX9_add_67 : decode cX9_add 67 = .ok (.getfield 55, 3) := by decide +kernel
theorem dX9_add_70 : decode cX9_add 70 = .ok (.invokevirtual 40, 3) := by decide +kernel
theorem dX9_add_73 : decode cX9_add 73 = .ok (.putfield 58, 3) := by decide +kernel
theorem dX9_add_76 : decode cX9_add 76 = .ok (.aload_n 0, 1) := by decide +kernel
theorem dX9_add_77 : decode cX9_add 77 = .ok (.getfield 25, 3) := by decide +kernel
theorem dX9_add_80 : decode cX9_add 80 = .ok (.istore 8, 2) := by decide +kernel
theorem dX9_add_82 : decode cX9_add 82 = .ok (.iload 8, 2) := by decide +kernel
theorem dX9_add_84 : decode cX9_add 84 = .ok (.iload 6, 2) := by decide +kernel
theorem dX9_add_86 : decode cX9_add 86 = .ok (.if_icmp .le 25, 3) := by decide +kernel
theorem dX9_add_89 : decode cX9_add 89 = .ok (.aload_n 0, 1) := by decide +kernel
theorem dX9_add_90 : decode cX9_add 90 = .ok (.getfield 17, 3) := by decide +kernel
theorem dX9_add_93 : decode cX9_add 93 = .ok (.iload 8, 2) := by decide +kernel
theorem dX9_add_95 : decode cX9_add 95 = .ok (.aload_n 0, 1) := by decide +kernel
theorem dX9_add_96 : decode cX9_add 96 = .ok (.getfield 17, 3) := by decide +kernel
theorem dX9_add_99 : decode cX9_add 99 = .ok (.iload 8, 2) := by decide +kernel
theorem dX9_add_101 : decode cX9_add 101 = .ok (.iconst 1, 1) := by decide +kernel
theorem dX9_add_102 : decode cX9_add 102 = .ok (.isub, 1) := by decide +kernel
theorem dX9_add_103 : decode cX9_add 103 = .ok (.iaload, 1) := by decide +kernel
theorem dX9_add_104 : decode cX9_add 104 = .ok (.iastore, 1) := by decide +kernel
theorem dX9_add_105 : decode cX9_add 105 = .ok (.iinc 8 (-1), 3) := by decide +kernel
theorem dX9_add_108 : decode cX9_add 108 = .ok (.goto (-26), 3) := by decide +kernel
theorem dX9_add_111 : decode cX9_add 111 = .ok (.aload_n 0, 1) := by decide +kernel
theorem dX9_add_112 : decode cX9_add 112 = .ok (.getfield 17, 3) := by decide +kernel
theorem dX9_add_115 : decode cX9_add 115 = .ok (.iload 6, 2) := by decide +kernel
theorem dX9_add_117 : decode cX9_add 117 = .ok (.aload_n 0, 1) := by decide +kernel
theorem dX9_add_118 : decode cX9_add 118 = .ok (.getfield 25, 3) := by decide +kernel
theorem dX9_add_121 : decode cX9_add 121 = .ok (.iastore, 1) := by decide +kernel
theorem dX9_add_122 : decode cX9_add 122 = .ok (.aload_n 0, 1) := by decide +kernel
theorem dX9_add_123 : decode cX9_add 123 = .ok (.dup, 1) := by decide +kernel
theorem dX9_add_124 : decode cX9_add 124 = .ok (.getfield 25, 3) := by decide +kernel
theorem dX9_add_127 : decode cX9_add 127 = .ok (.iconst 1, 1) := by decide +kernel
theorem dX9_add_128 : decode cX9_add 128 = .ok (.iadd, 1) := by decide +kernel
theorem dX9_add_129 : decode cX9_add 129 = .ok (.putfield 25, 3) := by decide +kernel
theorem dX9_add_132 : decode cX9_add 132 = .ok (.aload_n 0, 1) := by decide +kernel
theorem dX9_add_133 : decode cX9_add 133 = .ok (.getfield 25, 3) := by decide +kernel
theorem dX9_add_136 : decode cX9_add 136 = .ok (.iconst 1, 1) := by decide +kernel
theorem dX9_add_137 : decode cX9_add 137 = .ok (.isub, 1) := by decide +kernel
theorem dX9_add_138 : decode cX9_add 138 = .ok (.ireturn, 1) := by decide +kernel
theorem dX9_spotBehind_0 : decode cX9_spotBehind 0 = .ok (.iload_n 1, 1) := by decide +kernel
theorem dX9_spotBehind_1 : decode cX9_spotBehind 1 = .ok (.iconst (-1), 1) := by decide +kernel
theorem dX9_spotBehind_2 : decode cX9_spotBehind 2 = .ok (.if_icmp .ne 7, 3) := by decide +kernel
theorem dX9_spotBehind_5 : decode cX9_spotBehind 5 = .ok (.iconst 0, 1) := by decide +kernel
theorem dX9_spotBehind_6 : decode cX9_spotBehind 6 = .ok (.goto 10, 3) := by decide +kernel
theorem dX9_spotBehind_9 : decode cX9_spotBehind 9 = .ok (.aload_n 0, 1) := by decide +kernel
theorem dX9_spotBehind_10 : decode cX9_spotBehind 10 = .ok (.iload_n 1, 1) := by decide +kernel
theorem dX9_spotBehind_11 : decode cX9_spotBehind 11 = .ok (.invokevirtual 61, 3) := by decide +kernel
theorem dX9_spotBehind_14 : decode cX9_spotBehind 14 = .ok (.iconst 1, 1) := by decide +kernel
theorem dX9_spotBehind_15 : decode cX9_spotBehind 15 = .ok (.iadd, 1) := by decide +kernel
theorem dX9_spotBehind_16 : decode cX9_spotBehind 16 = .ok (.ireturn, 1) := by decide +kernel
theorem dX9_spotOf_0 : decode cX9_spotOf 0 = .ok (.iconst 0, 1) := by decide +kernel
theorem dX9_spotOf_1 : decode cX9_spotOf 1 = .ok (.istore_n 2, 1) := by decide +kernel
theorem dX9_spotOf_2 : decode cX9_spotOf 2 = .ok (.iload_n 2, 1) := by decide +kernel
theorem dX9_spotOf_3 : decode cX9_spotOf 3 = .ok (.aload_n 0, 1) := by decide +kernel
theorem dX9_spotOf_4 : decode cX9_spotOf 4 = .ok (.getfield 25, 3) := by decide +kernel
theorem dX9_spotOf_7 : decode cX9_spotOf 7 = .ok (.if_icmp .ge 21, 3) := by decide +kernel
theorem dX9_spotOf_10 : decode cX9_spotOf 10 = .ok (.aload_n 0, 1) := by decide +kernel
theorem dX9_spotOf_11 : decode cX9_spotOf 11 = .ok (.getfield 17, 3) := by decide +kernel
theorem dX9_spotOf_14 : decode cX9_spotOf 14 = .ok (.iload_n 2, 1) := by decide +kernel
theorem dX9_spotOf_15 : decode cX9_spotOf 15 = .ok (.iaload, 1) := by decide +kernel
theorem dX9_spotOf_16 : decode cX9_spotOf 16 = .ok (.iload_n 1, 1) := by decide +kernel
theorem dX9_spotOf_17 : decode cX9_spotOf 17 = .ok (.if_icmp .ne 5, 3) := by decide +kernel
theorem dX9_spotOf_20 : decode cX9_spotOf 20 = .ok (.iload_n 2, 1) := by decide +kernel
theorem dX9_spotOf_21 : decode cX9_spotOf 21 = .ok (.ireturn, 1) := by decide +kernel
theorem dX9_spotOf_22 : decode cX9_spotOf 22 = .ok (.iinc 2 1, 3) := by decide +kernel
theorem dX9_spotOf_25 : decode cX9_spotOf 25 = .ok (.goto (-23), 3) := by decide +kernel
theorem dX9_spotOf_28 : decode cX9_spotOf 28 = .ok (.iconst 0, 1) := by decide +kernel
theorem dX9_spotOf_29 : decode cX9_spotOf 29 = .ok (.ireturn, 1) := by decide +kernel
theorem dX9_numberAt_0 : decode cX9_numberAt 0 = .ok (.iload_n 1, 1) := by decide +kernel
theorem dX9_numberAt_1 : decode cX9_numberAt 1 = .ok (.iconst 1, 1) := by decide +kernel
theorem dX9_numberAt_2 : decode cX9_numberAt 2 = .ok (.isub, 1) := by decide +kernel
theorem dX9_numberAt_3 : decode cX9_numberAt 3 = .ok (.istore_n 2, 1) := by decide +kernel
theorem dX9_numberAt_4 : decode cX9_numberAt 4 = .ok (.iload_n 2, 1) := by decide +kernel
theorem dX9_numberAt_5 : decode cX9_numberAt 5 = .ok (.ifCond .lt 33, 3) := by decide +kernel
theorem dX9_numberAt_8 : decode cX9_numberAt 8 = .ok (.aload_n 0, 1) := by decide +kernel
theorem dX9_numberAt_9 : decode cX9_numberAt 9 = .ok (.getfield 11, 3) := by decide +kernel
theorem dX9_numberAt_12 : decode cX9_numberAt 12 = .ok (.aload_n 0, 1) := by decide +kernel
theorem dX9_numberAt_13 : decode cX9_numberAt 13 = .ok (.getfield 17, 3) := by decide +kernel
theorem dX9_numberAt_16 : decode cX9_numberAt 16 = .ok (.iload_n 2, 1) := by decide +kernel
theorem dX9_numberAt_17 : decode cX9_numberAt 17 = .ok (.iaload, 1) := by decide +kernel
theorem dX9_numberAt_18 : decode cX9_numberAt 18 = .ok (.aaload, 1) := by decide +kernel
theorem dX9_numberAt_19 : decode cX9_numberAt 19 = .ok (.astore_n 3, 1) := by decide +kernel
theorem dX9_numberAt_20 : decode cX9_numberAt 20 = .ok (.aload_n 3, 1) := by decide +kernel
theorem dX9_numberAt_21 : decode cX9_numberAt 21 = .ok (.getfield 58, 3) := by decide +kernel
theorem dX9_numberAt_24 : decode cX9_numberAt 24 = .ok (.ifCond .ne 8, 3) := by decide +kernel
theorem dX9_numberAt_27 : decode cX9_numberAt 27 = .ok (.aload_n 3, 1) := by decide +kernel
theorem dX9_numberAt_28 : decode cX9_numberAt 28 = .ok (.getfield 55, 3) := by decide +kernel
theorem dX9_numberAt_31 : decode cX9_numberAt 31 = .ok (.ireturn, 1) := by decide +kernel
theorem dX9_numberAt_32 : decode cX9_numberAt 32 = .ok (.iinc 2 (-1), 3) := by decide +kernel
theorem dX9_numberAt_35 : decode cX9_numberAt 35 = .ok (.goto (-31), 3) := by decide +kernel
theorem dX9_numberAt_38 : decode cX9_numberAt 38 = .ok (.iconst 0, 1) := by decide +kernel
theorem dX9_numberAt_39 : decode cX9_numberAt 39 = .ok (.ireturn, 1) := by decide +kernel
theorem dX9_lowestLetter_0 : decode cX9_lowestLetter 0 = .ok (.iconst 0, 1) := by decide +kernel
theorem dX9_lowestLetter_1 : decode cX9_lowestLetter 1 = .ok (.istore_n 2, 1) := by decide +kernel
theorem dX9_lowestLetter_2 : decode cX9_lowestLetter 2 = .ok (.iconst 0, 1) := by decide +kernel
theorem dX9_lowestLetter_3 : decode cX9_lowestLetter 3 = .ok (.istore_n 3, 1) := by decide +kernel
theorem dX9_lowestLetter_4 : decode cX9_lowestLetter 4 = .ok (.iload_n 3, 1) := by decide +kernel
theorem dX9_lowestLetter_5 : decode cX9_lowestLetter 5 = .ok (.aload_n 0, 1) := by decide +kernel
theorem dX9_lowestLetter_6 : decode cX9_lowestLetter 6 = .ok (.getfield 25, 3) := by decide +kernel
theorem dX9_lowestLetter_9 : decode cX9_lowestLetter 9 = .ok (.if_icmp .ge 36, 3) := by decide +kernel
theorem dX9_lowestLetter_12 : decode cX9_lowestLetter 12 = .ok (.aload_n 0, 1) := by decide +kernel
theorem dX9_lowestLetter_13 : decode cX9_lowestLetter 13 = .ok (.getfield 11, 3) := by decide +kernel
theorem dX9_lowestLetter_16 : decode cX9_lowestLetter 16 = .ok (.iload_n 3, 1) := by decide +kernel
theorem dX9_lowestLetter_17 : decode cX9_lowestLetter 17 = .ok (.aaload, 1) := by decide +kernel
theorem dX9_lowestLetter_18 : decode cX9_lowestLetter 18 = .ok (.getfield 55, 3) := by decide +kernel
theorem dX9_lowestLetter_21 : decode cX9_lowestLetter 21 = .ok (.iload_n 1, 1) := by decide +kernel
theorem dX9_lowestLetter_22 : decode cX9_lowestLetter 22 = .ok (.if_icmp .ne 17, 3) := by decide +kernel
theorem dX9_lowestLetter_25 : decode cX9_lowestLetter 25 = .ok (.iload_n 2, 1) := by decide +kernel
theorem dX9_lowestLetter_26 : decode cX9_lowestLetter 26 = .ok (.iconst 1, 1) := by decide +kernel
theorem dX9_lowestLetter_27 : decode cX9_lowestLetter 27 = .ok (.aload_n 0, 1) := by decide +kernel
theorem dX9_lowestLetter_28 : decode cX9_lowestLetter 28 = .ok (.getfield 11, 3) := by decide +kernel
theorem dX9_lowestLetter_31 : decode cX9_lowestLetter 31 = .ok (.iload_n 3, 1) := by decide +kernel
theorem dX9_lowestLetter_32 : decode cX9_lowestLetter 32 = .ok (.aaload, 1) := by decide +kernel
theorem dX9_lowestLetter_33 : decode cX9_lowestLetter 33 = .ok (.getfield 58, 3) := by decide +kernel
theorem dX9_lowestLetter_36 : decode cX9_lowestLetter 36 = .ok (.ishl, 1) := by decide +kernel
theorem dX9_lowestLetter_37 : decode cX9_lowestLetter 37 = .ok (.ior, 1) := by decide +kernel
theorem dX9_lowestLetter_38 : decode cX9_lowestLetter 38 = .ok (.istore_n 2, 1) := by decide +kernel
theorem dX9_lowestLetter_39 : decode cX9_lowestLetter 39 = .ok (.iinc 3 1, 3) := by decide +kernel
theorem dX9_lowestLetter_42 : decode cX9_lowestLetter 42 = .ok (.goto (-38), 3) := by decide +kernel
theorem dX9_lowestLetter_45 : decode cX9_lowestLetter 45 = .ok (.iconst 1, 1) := by decide +kernel
theorem dX9_lowestLetter_46 : decode cX9_lowestLetter 46 = .ok (.istore_n 3, 1) := by decide +kernel
theorem dX9_lowestLetter_47 : decode cX9_lowestLetter 47 = .ok (.iload_n 3, 1) := by decide +kernel
theorem dX9_lowestLetter_48 : decode cX9_lowestLetter 48 = .ok (.bipush 26, 2) := by decide +kernel
theorem dX9_lowestLetter_50 : decode cX9_lowestLetter 50 = .ok (.if_icmp .gt 19, 3) := by decide +kernel
theorem dX9_lowestLetter_53 : decode cX9_lowestLetter 53 = .ok (.iload_n 2, 1) := by decide +kernel
theorem dX9_lowestLetter_54 : decode cX9_lowestLetter 54 = .ok (.iload_n 3, 1) := by decide +kernel
theorem dX9_lowestLetter_55 : decode cX9_lowestLetter 55 = .ok (.invokestatic 64, 3) := by decide +kernel
theorem dX9_lowestLetter_58 : decode cX9_lowestLetter 58 = .ok (.ifCond .ne 5, 3) := by decide +kernel
theorem dX9_lowestLetter_61 : decode cX9_lowestLetter 61 = .ok (.iload_n 3, 1) := by decide +kernel
theorem dX9_lowestLetter_62 : decode cX9_lowestLetter 62 = .ok (.ireturn, 1) := by decide +kernel
theorem dX9_lowestLetter_63 : decode cX9_lowestLetter 63 = .ok (.iinc 3 1, 3) := by decide +kernel
theorem dX9_lowestLetter_66 : decode cX9_lowestLetter 66 = .ok (.goto (-19), 3) := by decide +kernel
theorem dX9_lowestLetter_69 : decode cX9_lowestLetter 69 = .ok (.iconst (-1), 1) := by decide +kernel
theorem dX9_lowestLetter_70 : decode cX9_lowestLetter 70 = .ok (.ireturn, 1) := by decide +kernel
theorem dX9_keepLabels_0 : decode cX9_keepLabels 0 = .ok (.iconst 0, 1) := by decide +kernel
theorem dX9_keepLabels_1 : decode cX9_keepLabels 1 = .ok (.istore_n 1, 1) := by decide +kernel
theorem dX9_keepLabels_2 : decode cX9_keepLabels 2 = .ok (.iload_n 1, 1) := by decide +kernel
theorem dX9_keepLabels_3 : decode cX9_keepLabels 3 = .ok (.aload_n 0, 1) := by decide +kernel
theorem dX9_keepLabels_4 : decode cX9_keepLabels 4 = .ok (.getfield 25, 3) := by decide +kernel
theorem dX9_keepLabels_7 : decode cX9_keepLabels 7 = .ok (.if_icmp .ge 26, 3) := by decide +kernel
theorem dX9_keepLabels_10 : decode cX9_keepLabels 10 = .ok (.aload_n 0, 1) := by decide +kernel
theorem dX9_keepLabels_11 : decode cX9_keepLabels 11 = .ok (.getfield 11, 3) := by decide +kernel
theorem dX9_keepLabels_14 : decode cX9_keepLabels 14 = .ok (.aload_n 0, 1) := by decide +kernel
theorem dX9_keepLabels_15 : decode cX9_keepLabels 15 = .ok (.getfield 17, 3) := by decide +kernel
theorem dX9_keepLabels_18 : decode cX9_keepLabels 18 = .ok (.iload_n 1, 1) := by decide +kernel
theorem dX9_keepLabels_19 : decode cX9_keepLabels 19 = .ok (.iaload, 1) := by decide +kernel
theorem dX9_keepLabels_20 : decode cX9_keepLabels 20 = .ok (.aaload, 1) := by decide +kernel
theorem dX9_keepLabels_21 : decode cX9_keepLabels 21 = .ok (.iload_n 1, 1) := by decide +kernel
theorem dX9_keepLabels_22 : decode cX9_keepLabels 22 = .ok (.iconst 1, 1) := by decide +kernel
theorem dX9_keepLabels_23 : decode cX9_keepLabels 23 = .ok (.iadd, 1) := by decide +kernel
theorem dX9_keepLabels_24 : decode cX9_keepLabels 24 = .ok (.putfield 55, 3) := by decide +kernel
theorem dX9_keepLabels_27 : decode cX9_keepLabels 27 = .ok (.iinc 1 1, 3) := by decide +kernel
theorem dX9_keepLabels_30 : decode cX9_keepLabels 30 = .ok (.goto (-28), 3) := by decide +kernel
theorem dX9_keepLabels_33 : decode cX9_keepLabels 33 = .ok (.aload_n 0, 1) := by decide +kernel
theorem dX9_keepLabels_34 : decode cX9_keepLabels 34 = .ok (.iconst 1, 1) := by decide +kernel
theorem dX9_keepLabels_35 : decode cX9_keepLabels 35 = .ok (.putfield 29, 3) := by decide +kernel
theorem dX9_keepLabels_38 : decode cX9_keepLabels 38 = .ok (.return_, 1) := by decide +kernel
theorem dX9_labelOf_0 : decode cX9_labelOf 0 = .ok (.aload_n 0, 1) := by decide +kernel
theorem dX9_labelOf_1 : decode cX9_labelOf 1 = .ok (.getfield 29, 3) := by decide +kernel
theorem dX9_labelOf_4 : decode cX9_labelOf 4 = .ok (.ifCond .ne 14, 3) := by decide +kernel
theorem dX9_labelOf_7 : decode cX9_labelOf 7 = .ok (.bipush 100, 2) := by decide +kernel
theorem dX9_labelOf_9 : decode cX9_labelOf 9 = .ok (.aload_n 0, 1) := by decide +kernel
theorem dX9_labelOf_10 : decode cX9_labelOf 10 = .ok (.iload_n 1, 1) := by decide +kernel
theorem dX9_labelOf_11 : decode cX9_labelOf 11 = .ok (.invokevirtual 61, 3) := by decide +kernel
theorem dX9_labelOf_14 : decode cX9_labelOf 14 = .ok (.iconst 1, 1) := by decide +kernel
theorem dX9_labelOf_15 : decode cX9_labelOf 15 = .ok (.iadd, 1) := by decide +kernel
theorem dX9_labelOf_16 : decode cX9_labelOf 16 = .ok (.imul, 1) := by decide +kernel
theorem dX9_labelOf_17 : decode cX9_labelOf 17 = .ok (.ireturn, 1) := by decide +kernel
theorem dX9_labelOf_18 : decode cX9_labelOf 18 = .ok (.bipush 100, 2) := by decide +kernel
theorem dX9_labelOf_20 : decode cX9_labelOf 20 = .ok (.aload_n 0, 1) := by decide +kernel
theorem dX9_labelOf_21 : decode cX9_labelOf 21 = .ok (.getfield 11, 3) := by decide +kernel
theorem dX9_labelOf_24 : decode cX9_labelOf 24 = .ok (.iload_n 1, 1) := by decide +kernel
theorem dX9_labelOf_25 : decode cX9_labelOf 25 = .ok (.aaload, 1) := by decide +kernel
theorem dX9_labelOf_26 : decode cX9_labelOf 26 = .ok (.getfield 55, 3) := by decide +kernel
theorem dX9_labelOf_29 : decode cX9_labelOf 29 = .ok (.imul, 1) := by decide +kernel
theorem dX9_labelOf_30 : decode cX9_labelOf 30 = .ok (.aload_n 0, 1) := by decide +kernel
theorem dX9_labelOf_31 : decode cX9_labelOf 31 = .ok (.getfield 11, 3) := by decide +kernel
theorem dX9_labelOf_34 : decode cX9_labelOf 34 = .ok (.iload_n 1, 1) := by decide +kernel
theorem dX9_labelOf_35 : decode cX9_labelOf 35 = .ok (.aaload, 1) := by decide +kernel
theorem dX9_labelOf_36 : decode cX9_labelOf 36 = .ok (.getfield 58, 3) := by decide +kernel
theorem dX9_labelOf_39 : decode cX9_labelOf 39 = .ok (.iadd, 1) := by decide +kernel
theorem dX9_labelOf_40 : decode cX9_labelOf 40 = .ok (.ireturn, 1) := by decide +kernel
theorem dX9_countOf_0 : decode cX9_countOf 0 = .ok (.iconst 0, 1) := by decide +kernel
theorem dX9_countOf_1 : decode cX9_countOf 1 = .ok (.istore_n 2, 1) := by decide +kernel
theorem dX9_countOf_2 : decode cX9_countOf 2 = .ok (.iconst 0, 1) := by decide +kernel
theorem dX9_countOf_3 : decode cX9_countOf 3 = .ok (.istore_n 3, 1) := by decide +kernel
theorem dX9_countOf_4 : decode cX9_countOf 4 = .ok (.iload_n 3, 1) := by decide +kernel
theorem dX9_countOf_5 : decode cX9_countOf 5 = .ok (.aload_n 0, 1) := by decide +kernel
theorem dX9_countOf_6 : decode cX9_countOf 6 = .ok (.getfield 25, 3) := by decide +kernel
theorem dX9_countOf_9 : decode cX9_countOf 9 = .ok (.if_icmp .ge 25, 3) := by decide +kernel
theorem dX9_countOf_12 : decode cX9_countOf 12 = .ok (.aload_n 0, 1) := by decide +kernel
theorem dX9_countOf_13 : decode cX9_countOf 13 = .ok (.getfield 11, 3) := by decide +kernel
theorem dX9_countOf_16 : decode cX9_countOf 16 = .ok (.iload_n 3, 1) := by decide +kernel
theorem dX9_countOf_17 : decode cX9_countOf 17 = .ok (.aaload, 1) := by decide +kernel
theorem dX9_countOf_18 : decode cX9_countOf 18 = .ok (.invokevirtual 68, 3) := by decide +kernel
theorem dX9_countOf_21 : decode cX9_countOf 21 = .ok (.iload_n 1, 1) := by decide +kernel
theorem dX9_countOf_22 : decode cX9_countOf 22 = .ok (.if_icmp .ne 6, 3) := by decide +kernel
theorem dX9_countOf_25 : decode cX9_countOf 25 = .ok (.iinc 2 1, 3) := by decide +kernel
theorem dX9_countOf_28 : decode cX9_countOf 28 = .ok (.iinc 3 1, 3) := by decide +kernel
theorem dX9_countOf_31 : decode cX9_countOf 31 = .ok (.goto (-27), 3) := by decide +kernel
theorem dX9_countOf_34 : decode cX9_countOf 34 = .ok (.iload_n 2, 1) := by decide +kernel
theorem dX9_countOf_35 : decode cX9_countOf 35 = .ok (.ireturn, 1) := by decide +kernel
theorem dX9_findClashes_0 : decode cX9_findClashes 0 = .ok (.aload_n 0, 1) := by decide +kernel
theorem dX9_findClashes_1 : decode cX9_findClashes 1 = .ok (.getfield 21, 3) := by decide +kernel
theorem dX9_findClashes_4 : decode cX9_findClashes 4 = .ok (.iconst 0, 1) := by decide +kernel
theorem dX9_findClashes_5 : decode cX9_findClashes 5 = .ok (.invokestatic 72, 3) := by decide +kernel
theorem dX9_findClashes_8 : decode cX9_findClashes 8 = .ok (.iconst 0, 1) := by decide +kernel
theorem dX9_findClashes_9 : decode cX9_findClashes 9 = .ok (.istore_n 1, 1) := by decide +kernel
theorem dX9_findClashes_10 : decode cX9_findClashes 10 = .ok (.iconst 0, 1) := by decide +kernel
theorem dX9_findClashes_11 : decode cX9_findClashes 11 = .ok (.istore_n 2, 1) := by decide +kernel
theorem dX9_findClashes_12 : decode cX9_findClashes 12 = .ok (.iload_n 2, 1) := by decide +kernel
theorem dX9_findClashes_13 : decode cX9_findClashes 13 = .ok (.aload_n 0, 1) := by decide +kernel
theorem dX9_findClashes_14 : decode cX9_findClashes 14 = .ok (.getfield 25, 3) := by decide +kernel
theorem dX9_findClashes_17 : decode cX9_findClashes 17 = .ok (.if_icmp .ge 67, 3) := by decide +kernel
theorem dX9_findClashes_20 : decode cX9_findClashes 20 = .ok (.aload_n 0, 1) := by decide +kernel
theorem dX9_findClashes_21 : decode cX9_findClashes 21 = .ok (.getfield 11, 3) := by decide +kernel
theorem dX9_findClashes_24 : decode cX9_findClashes 24 = .ok (.aload_n 0, 1) := by decide +kernel
theorem dX9_findClashes_25 : decode cX9_findClashes 25 = .ok (.getfield 17, 3) := by decide +kernel
theorem dX9_findClashes_28 : decode cX9_findClashes 28 = .ok (.iload_n 2, 1) := by decide +kernel
theorem dX9_findClashes_29 : decode cX9_findClashes 29 = .ok (.iaload, 1) := by decide +kernel
theorem dX9_findClashes_30 : decode cX9_findClashes 30 = .ok (.aaload, 1) := by decide +kernel
theorem dX9_findClashes_31 : decode cX9_findClashes 31 = .ok (.astore_n 3, 1) := by decide +kernel
theorem dX9_findClashes_32 : decode cX9_findClashes 32 = .ok (.aload_n 3, 1) := by decide +kernel
theorem dX9_findClashes_33 : decode cX9_findClashes 33 = .ok (.aload_n 3, 1) := by decide +kernel
theorem dX9_findClashes_34 : decode cX9_findClashes 34 = .ok (.getfield 78, 3) := by decide +kernel
theorem dX9_findClashes_37 : decode cX9_findClashes 37 = .ok (.ifCond .ne 15, 3) := by decide +kernel
theorem dX9_findClashes_40 : decode cX9_findClashes 40 = .ok (.aload_n 0, 1) := by decide +kernel
theorem dX9_findClashes_41 : decode cX9_findClashes 41 = .ok (.aload_n 3, 1) := by decide +kernel
theorem dX9_findClashes_42 : decode cX9_findClashes 42 = .ok (.invokevirtual 81, 3) := by decide +kernel
theorem dX9_findClashes_45 : decode cX9_findClashes 45 = .ok (.ifCond .eq 7, 3) := by decide +kernel
theorem dX9_findClashes_48 : decode cX9_findClashes 48 = .ok (.iconst 1, 1) := by decide +kernel
theorem dX9_findClashes_49 : decode cX9_findClashes 49 = .ok (.goto 4, 3) := by decide +kernel
theorem dX9_findClashes_52 : decode cX9_findClashes 52 = .ok (.iconst 0, 1) := by decide +kernel
theorem dX9_findClashes_53 : decode cX9_findClashes 53 = .ok (.putfield 85, 3) := by decide +kernel
theorem dX9_findClashes_56 : decode cX9_findClashes 56 = .ok (.aload_n 3, 1) := by decide +kernel
theorem dX9_findClashes_57 : decode cX9_findClashes 57 = .ok (.getfield 85, 3) := by decide +kernel
theorem dX9_findClashes_60 : decode cX9_findClashes 60 = .ok (.ifCond .eq 6, 3) := by decide +kernel
theorem dX9_findClashes_63 : decode cX9_findClashes 63 = .ok (.iinc 1 1, 3) := by decide +kernel
theorem dX9_findClashes_66 : decode cX9_findClashes 66 = .ok (.aload_n 3, 1) := by decide +kernel
theorem dX9_findClashes_67 : decode cX9_findClashes 67 = .ok (.getfield 78, 3) := by decide +kernel
theorem dX9_findClashes_70 : decode cX9_findClashes 70 = .ok (.ifCond .ne 8, 3) := by decide +kernel
theorem dX9_findClashes_73 : decode cX9_findClashes 73 = .ok (.aload_n 0, 1) := by decide +kernel
theorem dX9_findClashes_74 : decode cX9_findClashes 74 = .ok (.aload_n 3, 1) := by decide +kernel
theorem dX9_findClashes_75 : decode cX9_findClashes 75 = .ok (.invokevirtual 88, 3) := by decide +kernel
theorem dX9_findClashes_78 : decode cX9_findClashes 78 = .ok (.iinc 2 1, 3) := by decide +kernel
theorem dX9_findClashes_81 : decode cX9_findClashes 81 = .ok (.goto (-69), 3) := by decide +kernel
theorem dX9_findClashes_84 : decode cX9_findClashes 84 = .ok (.iload_n 1, 1) := by decide +kernel
theorem dX9_findClashes_85 : decode cX9_findClashes 85 = .ok (.ireturn, 1) := by decide +kernel
theorem dX9_wantsOther_0 : decode cX9_wantsOther 0 = .ok (.iconst 0, 1) := by decide +kernel
theorem dX9_wantsOther_1 : decode cX9_wantsOther 1 = .ok (.istore_n 2, 1) := by decide +kernel
theorem dX9_wantsOther_2 : decode cX9_wantsOther 2 = .ok (.iload_n 2, 1) := by decide +kernel
theorem dX9_wantsOther_3 : decode cX9_wantsOther 3 = .ok (.iconst 4, 1) := by decide +kernel
theorem dX9_wantsOther_4 : decode cX9_wantsOther 4 = .ok (.if_icmp .ge 36, 3) := by decide +kernel
theorem dX9_wantsOther_7 : decode cX9_wantsOther 7 = .ok (.aload_n 1, 1) := by decide +kernel
theorem dX9_wantsOther_8 : decode cX9_wantsOther 8 = .ok (.getfield 92, 3) := by decide +kernel
theorem dX9_wantsOther_11 : decode cX9_wantsOther 11 = .ok (.iload_n 2, 1) := by decide +kernel
theorem dX9_wantsOther_12 : decode cX9_wantsOther 12 = .ok (.iaload, 1) := by decide +kernel
theorem dX9_wantsOther_13 : decode cX9_wantsOther 13 = .ok (.iconst (-1), 1) := by decide +kernel
theorem dX9_wantsOther_14 : decode cX9_wantsOther 14 = .ok (.if_icmp .eq 20, 3) := by decide +kernel
theorem dX9_wantsOther_17 : decode cX9_wantsOther 17 = .ok (.aload_n 1, 1) := by decide +kernel
theorem dX9_wantsOther_18 : decode cX9_wantsOther 18 = .ok (.getfield 92, 3) := by decide +kernel
theorem dX9_wantsOther_21 : decode cX9_wantsOther 21 = .ok (.iload_n 2, 1) := by decide +kernel
theorem dX9_wantsOther_22 : decode cX9_wantsOther 22 = .ok (.iaload, 1) := by decide +kernel
theorem dX9_wantsOther_23 : decode cX9_wantsOther 23 = .ok (.aload_n 0, 1) := by decide +kernel
theorem dX9_wantsOther_24 : decode cX9_wantsOther 24 = .ok (.getfield 21, 3) := by decide +kernel
theorem dX9_wantsOther_27 : decode cX9_wantsOther 27 = .ok (.iload_n 2, 1) := by decide +kernel
theorem dX9_wantsOther_28 : decode cX9_wantsOther 28 = .ok (.iaload, 1) := by decide +kernel
theorem dX9_wantsOther_29 : decode cX9_wantsOther 29 = .ok (.if_icmp .eq 5, 3) := by decide +kernel
theorem dX9_wantsOther_32 : decode cX9_wantsOther 32 = .ok (.iconst 1, 1) := by decide +kernel
theorem dX9_wantsOther_33 : decode cX9_wantsOther 33 = .ok (.ireturn, 1) := by decide +kernel
theorem dX9_wantsOther_34 : decode cX9_wantsOther 34 = .ok (.iinc 2 1, 3) := by decide +kernel
theorem dX9_wantsOther_37 : decode cX9_wantsOther 37 = .ok (.goto (-35), 3) := by decide +kernel
theorem dX9_wantsOther_40 : decode cX9_wantsOther 40 = .ok (.iconst 0, 1) := by decide +kernel
theorem dX9_wantsOther_41 : decode cX9_wantsOther 41 = .ok (.ireturn, 1) := by decide +kernel
theorem dX9_leaveLooks_0 : decode cX9_leaveLooks 0 = .ok (.iconst 0, 1) := by decide +kernel
theorem dX9_leaveLooks_1 : decode cX9_leaveLooks 1 = .ok (.istore_n 2, 1) := by decide +kernel
theorem dX9_leaveLooks_2 : decode cX9_leaveLooks 2 = .ok (.iload_n 2, 1) := by decide +kernel
theorem dX9_leaveLooks_3 : decode cX9_leaveLooks 3 = .ok (.iconst 4, 1) := by decide +kernel
theorem dX9_leaveLooks_4 : decode cX9_leaveLooks 4 = .ok (.if_icmp .ge 31, 3) := by decide +kernel
theorem dX9_leaveLooks_7 : decode cX9_leaveLooks 7 = .ok (.aload_n 1, 1) := by decide +kernel
theorem dX9_leaveLooks_8 : decode cX9_leaveLooks 8 = .ok (.getfield 95, 3) := by decide +kernel
theorem dX9_leaveLooks_11 : decode cX9_leaveLooks 11 = .ok (.iload_n 2, 1) := by decide +kernel
theorem dX9_leaveLooks_12 : decode cX9_leaveLooks 12 = .ok (.iaload, 1) := by decide +kernel
theorem dX9_leaveLooks_13 : decode cX9_leaveLooks 13 = .ok (.iconst (-1), 1) := by decide +kernel
theorem dX9_leaveLooks_14 : decode cX9_leaveLooks 14 = .ok (.if_icmp .eq 15, 3) := by decide +kernel
theorem dX9_leaveLooks_17 : decode cX9_leaveLooks 17 = .ok (.aload_n 0, 1) := by decide +kernel
theorem dX9_leaveLooks_18 : decode cX9_leaveLooks 18 = .ok (.getfield 21, 3) := by decide +kernel
theorem dX9_leaveLooks_21 : decode cX9_leaveLooks 21 = .ok (.iload_n 2, 1) := by decide +kernel
theorem dX9_leaveLooks_22 : decode cX9_leaveLooks 22 = .ok (.aload_n 1, 1) := by decide +kernel
theorem dX9_leaveLooks_23 : decode cX9_leaveLooks 23 = .ok (.getfield 95, 3) := by decide +kernel
theorem dX9_leaveLooks_26 : decode cX9_leaveLooks 26 = .ok (.iload_n 2, 1) := by decide +kernel
theorem dX9_leaveLooks_27 : decode cX9_leaveLooks 27 = .ok (.iaload, 1) := by decide +kernel
theorem dX9_leaveLooks_28 : decode cX9_leaveLooks 28 = .ok (.iastore, 1) := by decide +kernel
theorem dX9_leaveLooks_29 : decode cX9_leaveLooks 29 = .ok (.iinc 2 1, 3) := by decide +kernel
theorem dX9_leaveLooks_32 : decode cX9_leaveLooks 32 = .ok (.goto (-30), 3) := by decide +kernel
theorem dX9_leaveLooks_35 : decode cX9_leaveLooks 35 = .ok (.return_, 1) := by decide +kernel
theorem dX9_leadsTo_0 : decode cX9_leadsTo 0 = .ok (.iconst 1, 1) := by decide +kernel
theorem dX9_leadsTo_1 : decode cX9_leadsTo 1 = .ok (.iload_n 1, 1) := by decide +kernel
theorem dX9_leadsTo_2 : decode cX9_leadsTo 2 = .ok (.ishl, 1) := by decide +kernel
theorem dX9_leadsTo_3 : decode cX9_leadsTo 3 = .ok (.istore_n 3, 1) := by decide +kernel
theorem dX9_leadsTo_4 : decode cX9_leadsTo 4 = .ok (.iconst 0, 1) := by decide +kernel
theorem dX9_leadsTo_5 : decode cX9_leadsTo 5 = .ok (.istore 4, 2) := by decide +kernel
theorem dX9_leadsTo_7 : decode cX9_leadsTo 7 = .ok (.iload 4, 2) := by decide +kernel
theorem dX9_leadsTo_9 : decode cX9_leadsTo 9 = .ok (.aload_n 0, 1) := by decide +kernel
theorem dX9_leadsTo_10 : decode cX9_leadsTo 10 = .ok (.getfield 25, 3) := by decide +kernel
theorem dX9_leadsTo_13 : decode cX9_leadsTo 13 = .ok (.if_icmp .ge 49, 3) := by decide +kernel
theorem dX9_leadsTo_16 : decode cX9_leadsTo 16 = .ok (.iconst 0, 1) := by decide +kernel
theorem dX9_leadsTo_17 : decode cX9_leadsTo 17 = .ok (.istore 5, 2) := by decide +kernel
theorem dX9_leadsTo_19 : decode cX9_leadsTo 19 = .ok (.iload 5, 2) := by decide +kernel
theorem dX9_leadsTo_21 : decode cX9_leadsTo 21 = .ok (.aload_n 0, 1) := by decide +kernel
theorem dX9_leadsTo_22 : decode cX9_leadsTo 22 = .ok (.getfield 25, 3) := by decide +kernel
theorem dX9_leadsTo_25 : decode cX9_leadsTo 25 = .ok (.if_icmp .ge 31, 3) := by decide +kernel
theorem dX9_leadsTo_28 : decode cX9_leadsTo 28 = .ok (.iload_n 3, 1) := by decide +kernel
theorem dX9_leadsTo_29 : decode cX9_leadsTo 29 = .ok (.iload 5, 2) := by decide +kernel
theorem dX9_leadsTo_31 : decode cX9_leadsTo 31 = .ok (.invokestatic 64, 3) := by decide +kernel
theorem dX9_leadsTo_34 : decode cX9_leadsTo 34 = .ok (.ifCond .eq 16, 3) := by decide +kernel
theorem dX9_leadsTo_37 : decode cX9_leadsTo 37 = .ok (.iload_n 3, 1) := by decide +kernel
theorem dX9_leadsTo_38 : decode cX9_leadsTo 38 = .ok (.aload_n 0, 1) := by decide +kernel
theorem dX9_leadsTo_39 : decode cX9_leadsTo 39 = .ok (.getfield 11, 3) := by decide +kernel
theorem dX9_leadsTo_42 : decode cX9_leadsTo 42 = .ok (.iload 5, 2) := by decide +kernel
theorem dX9_leadsTo_44 : decode cX9_leadsTo 44 = .ok (.aaload, 1) := by decide +kernel
theorem dX9_leadsTo_45 : decode cX9_leadsTo 45 = .ok (.getfield 98, 3) := by decide +kernel
theorem dX9_leadsTo_48 : decode cX9_leadsTo 48 = .ok (.ior, 1) := by decide +kernel
theorem dX9_leadsTo_49 : decode cX9_leadsTo 49 = .ok (.istore_n 3, 1) := by decide +kernel
theorem dX9_leadsTo_50 : decode cX9_leadsTo 50 = .ok (.iinc 5 1, 3) := by decide +kernel
theorem dX9_leadsTo_53 : decode cX9_leadsTo 53 = .ok (.goto (-34), 3) := by decide +kernel
theorem dX9_leadsTo_56 : decode cX9_leadsTo 56 = .ok (.iinc 4 1, 3) := by decide +kernel
theorem dX9_leadsTo_59 : decode cX9_leadsTo 59 = .ok (.goto (-52), 3) := by decide +kernel
theorem dX9_leadsTo_62 : decode cX9_leadsTo 62 = .ok (.iload_n 3, 1) := by decide +kernel
theorem dX9_leadsTo_63 : decode cX9_leadsTo 63 = .ok (.iload_n 2, 1) := by decide +kernel
theorem dX9_leadsTo_64 : decode cX9_leadsTo 64 = .ok (.invokestatic 64, 3) := by decide +kernel
theorem dX9_leadsTo_67 : decode cX9_leadsTo 67 = .ok (.ireturn, 1) := by decide +kernel
theorem dX9_firstToTry_0 : decode cX9_firstToTry 0 = .ok (.iconst 0, 1) := by decide +kernel
theorem dX9_firstToTry_1 : decode cX9_firstToTry 1 = .ok (.istore_n 2, 1) := by decide +kernel
theorem dX9_firstToTry_2 : decode cX9_firstToTry 2 = .ok (.iload_n 2, 1) := by decide +kernel
theorem dX9_firstToTry_3 : decode cX9_firstToTry 3 = .ok (.aload_n 0, 1) := by decide +kernel
theorem dX9_firstToTry_4 : decode cX9_firstToTry 4 = .ok (.getfield 25, 3) := by decide +kernel
theorem dX9_firstToTry_7 : decode cX9_firstToTry 7 = .ok (.if_icmp .ge 56, 3) := by decide +kernel
theorem dX9_firstToTry_10 : decode cX9_firstToTry 10 = .ok (.aload_n 0, 1) := by decide +kernel
theorem dX9_firstToTry_11 : decode cX9_firstToTry 11 = .ok (.getfield 11, 3) := by decide +kernel
theorem dX9_firstToTry_14 : decode cX9_firstToTry 14 = .ok (.aload_n 0, 1) := by decide +kernel
theorem dX9_firstToTry_15 : decode cX9_firstToTry 15 = .ok (.getfield 17, 3) := by decide +kernel
theorem dX9_firstToTry_18 : decode cX9_firstToTry 18 = .ok (.iload_n 2, 1) := by decide +kernel
theorem dX9_firstToTry_19 : decode cX9_firstToTry 19 = .ok (.iaload, 1) := by decide +kernel
theorem dX9_firstToTry_20 : decode cX9_firstToTry 20 = .ok (.aaload, 1) := by decide +kernel
theorem dX9_firstToTry_21 : decode cX9_firstToTry 21 = .ok (.astore_n 3, 1) := by decide +kernel
theorem dX9_firstToTry_22 : decode cX9_firstToTry 22 = .ok (.iload_n 1, 1) := by decide +kernel
theorem dX9_firstToTry_23 : decode cX9_firstToTry 23 = .ok (.aload_n 0, 1) := by decide +kernel
theorem dX9_firstToTry_24 : decode cX9_firstToTry 24 = .ok (.getfield 17, 3) := by decide +kernel
theorem dX9_firstToTry_27 : decode cX9_firstToTry 27 = .ok (.iload_n 2, 1) := by decide +kernel
theorem dX9_firstToTry_28 : decode cX9_firstToTry 28 = .ok (.iaload, 1) := by decide +kernel
theorem dX9_firstToTry_29 : decode cX9_firstToTry 29 = .ok (.invokestatic 64, 3) := by decide +kernel
theorem dX9_firstToTry_32 : decode cX9_firstToTry 32 = .ok (.ifCond .ne 25, 3) := by decide +kernel
theorem dX9_firstToTry_35 : decode cX9_firstToTry 35 = .ok (.aload_n 3, 1) := by decide +kernel
theorem dX9_firstToTry_36 : decode cX9_firstToTry 36 = .ok (.invokevirtual 101, 3) := by decide +kernel
theorem dX9_firstToTry_39 : decode cX9_firstToTry 39 = .ok (.ifCond .eq 18, 3) := by decide +kernel
theorem dX9_firstToTry_42 : decode cX9_firstToTry 42 = .ok (.aload_n 0, 1) := by decide +kernel
theorem dX9_firstToTry_43 : decode cX9_firstToTry 43 = .ok (.aload_n 3, 1) := by decide +kernel
theorem dX9_firstToTry_44 : decode cX9_firstToTry 44 = .ok (.invokevirtual 105, 3) := by decide +kernel
theorem dX9_firstToTry_47 : decode cX9_firstToTry 47 = .ok (.ifCond .eq 10, 3) := by decide +kernel
theorem dX9_firstToTry_50 : decode cX9_firstToTry 50 = .ok (.aload_n 0, 1) := by decide +kernel
theorem dX9_firstToTry_51 : decode cX9_firstToTry 51 = .ok (.getfield 17, 3) := by decide +kernel
theorem dX9_firstToTry_54 : decode cX9_firstToTry 54 = .ok (.iload_n 2, 1) := by decide +kernel
theorem dX9_firstToTry_55 : decode cX9_firstToTry 55 = .ok (.iaload, 1) := by decide +kernel
theorem dX9_firstToTry_56 : decode cX9_firstToTry 56 = .ok (.ireturn, 1) := by decide +kernel
theorem dX9_firstToTry_57 : decode cX9_firstToTry 57 = .ok (.iinc 2 1, 3) := by decide +kernel
theorem dX9_firstToTry_60 : decode cX9_firstToTry 60 = .ok (.goto (-58), 3) := by decide +kernel
theorem dX9_firstToTry_63 : decode cX9_firstToTry 63 = .ok (.iconst (-1), 1) := by decide +kernel
theorem dX9_firstToTry_64 : decode cX9_firstToTry 64 = .ok (.ireturn, 1) := by decide +kernel
theorem dX9_isFree_0 : decode cX9_isFree 0 = .ok (.iconst 0, 1) := by decide +kernel
theorem dX9_isFree_1 : decode cX9_isFree 1 = .ok (.istore_n 2, 1) := by decide +kernel
theorem dX9_isFree_2 : decode cX9_isFree 2 = .ok (.iload_n 2, 1) := by decide +kernel
theorem dX9_isFree_3 : decode cX9_isFree 3 = .ok (.aload_n 0, 1) := by decide +kernel
theorem dX9_isFree_4 : decode cX9_isFree 4 = .ok (.getfield 25, 3) := by decide +kernel
theorem dX9_isFree_7 : decode cX9_isFree 7 = .ok (.if_icmp .ge 34, 3) := by decide +kernel
theorem dX9_isFree_10 : decode cX9_isFree 10 = .ok (.aload_n 1, 1) := by decide +kernel
theorem dX9_isFree_11 : decode cX9_isFree 11 = .ok (.getfield 98, 3) := by decide +kernel
theorem dX9_isFree_14 : decode cX9_isFree 14 = .ok (.iload_n 2, 1) := by decide +kernel
theorem dX9_isFree_15 : decode cX9_isFree 15 = .ok (.invokestatic 64, 3) := by decide +kernel
theorem dX9_isFree_18 : decode cX9_isFree 18 = .ok (.ifCond .eq 17, 3) := by decide +kernel
theorem dX9_isFree_21 : decode cX9_isFree 21 = .ok (.aload_n 0, 1) := by decide +kernel
theorem dX9_isFree_22 : decode cX9_isFree 22 = .ok (.getfield 11, 3) := by decide +kernel
theorem dX9_isFree_25 : decode cX9_isFree 25 = .ok (.iload_n 2, 1) := by decide +kernel
theorem dX9_isFree_26 : decode cX9_isFree 26 = .ok (.aaload, 1) := by decide +kernel
theorem dX9_isFree_27 : decode cX9_isFree 27 = .ok (.invokevirtual 108, 3) := by decide +kernel
theorem dX9_isFree_30 : decode cX9_isFree 30 = .ok (.ifCond .ne 5, 3) := by decide +kernel
theorem dX9_isFree_33 : decode cX9_isFree 33 = .ok (.iconst 0, 1) := by decide +kernel
theorem dX9_isFree_34 : decode cX9_isFree 34 = .ok (.ireturn, 1) := by decide +kernel
theorem dX9_isFree_35 : decode cX9_isFree 35 = .ok (.iinc 2 1, 3) := by decide +kernel
theorem dX9_isFree_38 : decode cX9_isFree 38 = .ok (.goto (-36), 3) := by decide +kernel
theorem dX9_isFree_41 : decode cX9_isFree 41 = .ok (.iconst 1, 1) := by decide +kernel
theorem dX9_isFree_42 : decode cX9_isFree 42 = .ok (.ireturn, 1) := by decide +kernel
theorem dX10_init_0 : decode cX10_init 0 = .ok (.aload_n 0, 1) := by decide +kernel
theorem dX10_init_1 : decode cX10_init 1 = .ok (.invokespecial 1, 3) := by decide +kernel
theorem dX10_init_4 : decode cX10_init 4 = .ok (.aload_n 0, 1) := by decide +kernel
theorem dX10_init_5 : decode cX10_init 5 = .ok (.new 7, 3) := by decide +kernel
theorem dX10_init_8 : decode cX10_init 8 = .ok (.dup, 1) := by decide +kernel
theorem dX10_init_9 : decode cX10_init 9 = .ok (.invokespecial 9, 3) := by decide +kernel
theorem dX10_init_12 : decode cX10_init 12 = .ok (.putfield 10, 3) := by decide +kernel
theorem dX10_init_15 : decode cX10_init 15 = .ok (.aload_n 0, 1) := by decide +kernel
theorem dX10_init_16 : decode cX10_init 16 = .ok (.new 16, 3) := by decide +kernel
theorem dX10_init_19 : decode cX10_init 19 = .ok (.dup, 1) := by decide +kernel
theorem dX10_init_20 : decode cX10_init 20 = .ok (.invokespecial 18, 3) := by decide +kernel
theorem dX10_init_23 : decode cX10_init 23 = .ok (.putfield 19, 3) := by decide +kernel
theorem dX10_init_26 : decode cX10_init 26 = .ok (.aload_n 0, 1) := by decide +kernel
theorem dX10_init_27 : decode cX10_init 27 = .ok (.new 23, 3) := by decide +kernel
theorem dX10_init_30 : decode cX10_init 30 = .ok (.dup, 1) := by decide +kernel
theorem dX10_init_31 : decode cX10_init 31 = .ok (.invokespecial 25, 3) := by decide +kernel
theorem dX10_init_34 : decode cX10_init 34 = .ok (.putfield 26, 3) := by decide +kernel
theorem dX10_init_37 : decode cX10_init 37 = .ok (.aload_n 0, 1) := by decide +kernel
theorem dX10_init_38 : decode cX10_init 38 = .ok (.new 30, 3) := by decide +kernel
theorem dX10_init_41 : decode cX10_init 41 = .ok (.dup, 1) := by decide +kernel
theorem dX10_init_42 : decode cX10_init 42 = .ok (.aload_n 0, 1) := by decide +kernel
theorem dX10_init_43 : decode cX10_init 43 = .ok (.getfield 10, 3) := by decide +kernel
theorem dX10_init_46 : decode cX10_init 46 = .ok (.aload_n 0, 1) := by decide +kernel
theorem dX10_init_47 : decode cX10_init 47 = .ok (.getfield 19, 3) := by decide +kernel
theorem dX10_init_50 : decode cX10_init 50 = .ok (.aload_n 0, 1) := by decide +kernel
theorem dX10_init_51 : decode cX10_init 51 = .ok (.getfield 26, 3) := by decide +kernel
theorem dX10_init_54 : decode cX10_init 54 = .ok (.invokespecial 32, 3) := by decide +kernel
theorem dX10_init_57 : decode cX10_init 57 = .ok (.putfield 35, 3) := by decide +kernel
theorem dX10_init_60 : decode cX10_init 60 = .ok (.aload_n 0, 1) := by decide +kernel
theorem dX10_init_61 : decode cX10_init 61 = .ok (.new 39, 3) := by decide +kernel
theorem dX10_init_64 : decode cX10_init 64 = .ok (.dup, 1) := by decide +kernel
theorem dX10_init_65 : decode cX10_init 65 = .ok (.aload_n 0, 1) := by decide +kernel
theorem dX10_init_66 : decode cX10_init 66 = .ok (.getfield 10, 3) := by decide +kernel
theorem dX10_init_69 : decode cX10_init 69 = .ok (.aload_n 0, 1) := by decide +kernel
theorem dX10_init_70 : decode cX10_init 70 = .ok (.getfield 35, 3) := by decide +kernel
theorem dX10_init_73 : decode cX10_init 73 = .ok (.invokespecial 41, 3) := by decide +kernel
theorem dX10_init_76 : decode cX10_init 76 = .ok (.putfield 44, 3) := by decide +kernel
theorem dX10_init_79 : decode cX10_init 79 = .ok (.aload_n 0, 1) := by decide +kernel
theorem dX10_init_80 : decode cX10_init 80 = .ok (.new 48, 3) := by decide +kernel
theorem dX10_init_83 : decode cX10_init 83 = .ok (.dup, 1) := by decide +kernel
theorem dX10_init_84 : decode cX10_init 84 = .ok (.aload_n 0, 1) := by decide +kernel
theorem dX10_init_85 : decode cX10_init 85 = .ok (.getfield 10, 3) := by decide +kernel
theorem dX10_init_88 : decode cX10_init 88 = .ok (.aload_n 0, 1) := by decide +kernel
theorem dX10_init_89 : decode cX10_init 89 = .ok (.getfield 19, 3) := by decide +kernel
theorem dX10_init_92 : decode cX10_init 92 = .ok (.aload_n 0, 1) := by decide +kernel
theorem dX10_init_93 : decode cX10_init 93 = .ok (.getfield 26, 3) := by decide +kernel
theorem dX10_init_96 : decode cX10_init 96 = .ok (.aload_n 0, 1) := by decide +kernel
theorem dX10_init_97 : decode cX10_init 97 = .ok (.getfield 35, 3) := by decide +kernel
theorem dX10_init_100 : decode cX10_init 100 = .ok (.invokespecial 50, 3) := by decide +kernel
theorem dX10_init_103 : decode cX10_init 103 = .ok (.putfield 53, 3) := by decide +kernel
theorem dX10_init_106 : decode cX10_init 106 = .ok (.return_, 1) := by decide +kernel
theorem dX10_scene_0 : decode cX10_scene 0 = .ok (.iload_n 1, 1) := by decide +kernel
theorem dX10_scene_1 : decode cX10_scene 1 = .ok (.iconst (-1), 1) := by decide +kernel
theorem dX10_scene_2 : decode cX10_scene 2 = .ok (.if_icmp .eq 8, 3) := by decide +kernel
theorem dX10_scene_5 : decode cX10_scene 5 = .ok (.aload_n 0, 1) := by decide +kernel
theorem dX10_scene_6 : decode cX10_scene 6 = .ok (.iload_n 1, 1) := by decide +kernel
theorem dX10_scene_7 : decode cX10_scene 7 = .ok (.invokevirtual 57, 3) := by decide +kernel
theorem dX10_scene_10 : decode cX10_scene 10 = .ok (.aload_n 0, 1) := by decide +kernel
theorem dX10_scene_11 : decode cX10_scene 11 = .ok (.iload_n 2, 1) := by decide +kernel
theorem dX10_scene_12 : decode cX10_scene 12 = .ok (.invokevirtual 61, 3) := by decide +kernel
theorem dX10_scene_15 : decode cX10_scene 15 = .ok (.iload 5, 2) := by decide +kernel
theorem dX10_scene_17 : decode cX10_scene 17 = .ok (.iconst 1, 1) := by decide +kernel
theorem dX10_scene_18 : decode cX10_scene 18 = .ok (.bipush 32, 2) := by decide +kernel
theorem dX10_scene_20 : decode cX10_scene 20 = .ok (.invokestatic 64, 3) := by decide +kernel
theorem dX10_scene_23 : decode cX10_scene 23 = .ok (.aload_n 0, 1) := by decide +kernel
theorem dX10_scene_24 : decode cX10_scene 24 = .ok (.getfield 10, 3) := by decide +kernel
theorem dX10_scene_27 : decode cX10_scene 27 = .ok (.iload_n 1, 1) := by decide +kernel
theorem dX10_scene_28 : decode cX10_scene 28 = .ok (.invokevirtual 68, 3) := by decide +kernel
theorem dX10_scene_31 : decode cX10_scene 31 = .ok (.ifCond .ne 13, 3) := by decide +kernel
theorem dX10_scene_34 : decode cX10_scene 34 = .ok (.new 72, 3) := by decide +kernel
theorem dX10_scene_37 : decode cX10_scene 37 = .ok (.dup, 1) := by decide +kernel
theorem dX10_scene_38 : decode cX10_scene 38 = .ok (.ldc 74, 2) := by decide +kernel
theorem dX10_scene_40 : decode cX10_scene 40 = .ok (.invokespecial 76, 3) := by decide +kernel
theorem dX10_scene_43 : decode cX10_scene 43 = .ok (.athrow, 1) := by decide +kernel
theorem dX10_scene_44 : decode cX10_scene 44 = .ok (.aload_n 0, 1) := by decide +kernel
theorem dX10_scene_45 : decode cX10_scene 45 = .ok (.getfield 10, 3) := by decide +kernel
theorem dX10_scene_48 : decode cX10_scene 48 = .ok (.iload_n 1, 1) := by decide +kernel
theorem dX10_scene_49 : decode cX10_scene 49 = .ok (.iload_n 2, 1) := by decide +kernel
theorem dX10_scene_50 : decode cX10_scene 50 = .ok (.iload_n 3, 1) := by decide +kernel
theorem dX10_scene_51 : decode cX10_scene 51 = .ok (.iload 4, 2) := by decide +kernel
theorem dX10_scene_53 : decode cX10_scene 53 = .ok (.iload 5, 2) := by decide +kernel
theorem dX10_scene_55 : decode cX10_scene 55 = .ok (.invokevirtual 79, 3) := by decide +kernel
theorem dX10_scene_58 : decode cX10_scene 58 = .ok (.ireturn, 1) := by decide +kernel
theorem dX10_lock_0 : decode cX10_lock 0 = .ok (.aload_n 0, 1) := by decide +kernel
theorem dX10_lock_1 : decode cX10_lock 1 = .ok (.getfield 10, 3) := by decide +kernel
theorem dX10_lock_4 : decode cX10_lock 4 = .ok (.getfield 83, 3) := by decide +kernel
theorem dX10_lock_7 : decode cX10_lock 7 = .ok (.ifCond .eq 13, 3) := by decide +kernel
theorem dX10_lock_10 : decode cX10_lock 10 = .ok (.new 72, 3) := by decide +kernel
theorem dX10_lock_13 : decode cX10_lock 13 = .ok (.dup, 1) := by decide +kernel
theorem dX10_lock_14 : decode cX10_lock 14 = .ok (.ldc 87, 2) := by decide +kernel
theorem dX10_lock_16 : decode cX10_lock 16 = .ok (.invokespecial 76, 3) := by decide +kernel
theorem dX10_lock_19 : decode cX10_lock 19 = .ok (.athrow, 1) := by decide +kernel
theorem dX10_lock_20 : decode cX10_lock 20 = .ok (.aload_n 0, 1) := by decide +kernel
theorem dX10_lock_21 : decode cX10_lock 21 = .ok (.getfield 10, 3) := by decide +kernel
theorem dX10_lock_24 : decode cX10_lock 24 = .ok (.invokevirtual 89, 3) := by decide +kernel
theorem dX10_lock_27 : decode cX10_lock 27 = .ok (.aload_n 0, 1) := by decide +kernel
theorem dX10_lock_28 : decode cX10_lock 28 = .ok (.getfield 10, 3) := by decide +kernel
theorem dX10_lock_31 : decode cX10_lock 31 = .ok (.getfield 92, 3) := by decide +kernel
theorem dX10_lock_34 : decode cX10_lock 34 = .ok (.ireturn, 1) := by decide +kernel
theorem dX10_omit_0 : decode cX10_omit 0 = .ok (.aload_n 0, 1) := by decide +kernel
theorem dX10_omit_1 : decode cX10_omit 1 = .ok (.iload_n 1, 1) := by decide +kernel
theorem dX10_omit_2 : decode cX10_omit 2 = .ok (.invokevirtual 57, 3) := by decide +kernel
theorem dX10_omit_5 : decode cX10_omit 5 = .ok (.aload_n 0, 1) := by decide +kernel
theorem dX10_omit_6 : decode cX10_omit 6 = .ok (.getfield 10, 3) := by decide +kernel
theorem dX10_omit_9 : decode cX10_omit 9 = .ok (.getfield 96, 3) := by decide +kernel
theorem dX10_omit_12 : decode cX10_omit 12 = .ok (.iload_n 1, 1) := by decide +kernel
theorem dX10_omit_13 : decode cX10_omit 13 = .ok (.aaload, 1) := by decide +kernel
theorem dX10_omit_14 : decode cX10_omit 14 = .ok (.astore_n 2, 1) := by decide +kernel
theorem dX10_omit_15 : decode cX10_omit 15 = .ok (.aload_n 2, 1) := by decide +kernel
theorem dX10_omit_16 : decode cX10_omit 16 = .ok (.getfield 100, 3) := by decide +kernel
theorem dX10_omit_19 : decode cX10_omit 19 = .ok (.ifCond .ne 10, 3) := by decide +kernel
theorem dX10_omit_22 : decode cX10_omit 22 = .ok (.aload_n 2, 1) := by decide +kernel
theorem dX10_omit_23 : decode cX10_omit 23 = .ok (.getfield 105, 3) := by decide +kernel
theorem dX10_omit_26 : decode cX10_omit 26 = .ok (.ifCond .eq 13, 3) := by decide +kernel
theorem dX10_omit_29 : decode cX10_omit 29 = .ok (.new 72, 3) := by decide +kernel
theorem dX10_omit_32 : decode cX10_omit 32 = .ok (.dup, 1) := by decide +kernel
theorem dX10_omit_33 : decode cX10_omit 33 = .ok (.ldc 108, 2) := by decide +kernel
theorem dX10_omit_35 : decode cX10_omit 35 = .ok (.invokespecial 76, 3) := by decide +kernel
theorem dX10_omit_38 : decode cX10_omit 38 = .ok (.athrow, 1) := by decide +kernel
theorem dX10_omit_39 : decode cX10_omit 39 = .ok (.aload_n 0, 1) := by decide +kernel
theorem dX10_omit_40 : decode cX10_omit 40 = .ok (.getfield 35, 3) := by decide +kernel
theorem dX10_omit_43 : decode cX10_omit 43 = .ok (.iload_n 1, 1) := by decide +kernel
theorem dX10_omit_44 : decode cX10_omit 44 = .ok (.invokevirtual 110, 3) := by decide +kernel
theorem dX10_omit_47 : decode cX10_omit 47 = .ok (.aload_n 2, 1) := by decide +kernel
theorem dX10_omit_48 : decode cX10_omit 48 = .ok (.iconst 1, 1) := by decide +kernel
theorem dX10_omit_49 : decode cX10_omit 49 = .ok (.putfield 100, 3) := by decide +kernel
theorem dX10_omit_52 : decode cX10_omit 52 = .ok (.aload_n 0, 1) := by decide +kernel
theorem dX10_omit_53 : decode cX10_omit 53 = .ok (.getfield 10, 3) := by decide +kernel
theorem dX10_omit_56 : decode cX10_omit 56 = .ok (.getfield 92, 3) := by decide +kernel
theorem dX10_omit_59 : decode cX10_omit 59 = .ok (.aload_n 0, 1) := by decide +kernel
theorem dX10_omit_60 : decode cX10_omit 60 = .ok (.getfield 10, 3) := by decide +kernel
theorem dX10_omit_63 : decode cX10_omit 63 = .ok (.iconst 4, 1) := by decide +kernel
theorem dX10_omit_64 : decode cX10_omit 64 = .ok (.invokevirtual 113, 3) := by decide +kernel
theorem dX10_omit_67 : decode cX10_omit 67 = .ok (.isub, 1) := by decide +kernel
theorem dX10_omit_68 : decode cX10_omit 68 = .ok (.ireturn, 1) := by decide +kernel
theorem dX10_label_0 : decode cX10_label 0 = .ok (.aload_n 0, 1) := by decide +kernel
theorem dX10_label_1 : decode cX10_label 1 = .ok (.iload_n 1, 1) := by decide +kernel
theorem dX10_label_2 : decode cX10_label 2 = .ok (.invokevirtual 57, 3) := by decide +kernel
theorem dX10_label_5 : decode cX10_label 5 = .ok (.aload_n 0, 1) := by decide +kernel
theorem dX10_label_6 : decode cX10_label 6 = .ok (.getfield 10, 3) := by decide +kernel
theorem dX10_label_9 : decode cX10_label 9 = .ok (.iload_n 1, 1) := by decide +kernel
theorem dX10_label_10 : decode cX10_label 10 = .ok (.invokevirtual 117, 3) := by decide +kernel
theorem dX10_label_13 : decode cX10_label 13 = .ok (.ireturn, 1) := by decide +kernel
theorem dX10_needs_0 : decode cX10_needs 0 = .ok (.aload_n 0, 1) := by decide +kernel
theorem dX10_needs_1 : decode cX10_needs 1 = .ok (.iload_n 1, 1) := by decide +kernel
theorem dX10_needs_2 : decode cX10_needs 2 = .ok (.invokevirtual 57, 3) := by decide +kernel
theorem dX10_needs_5 : decode cX10_needs 5 = .ok (.iload_n 2, 1) := by decide +kernel
theorem dX10_needs_6 : decode cX10_needs 6 = .ok (.iconst 0, 1) := by decide +kernel
theorem dX10_needs_7 : decode cX10_needs 7 = .ok (.iconst 1, 1) := by decide +kernel
theorem dX10_needs_8 : decode cX10_needs 8 = .ok (.aload_n 0, 1) := by decide +kernel
theorem dX10_needs_9 : decode cX10_needs 9 = .ok (.getfield 19, 3) := by decide +kernel
theorem dX10_needs_12 : decode cX10_needs 12 = .ok (.getfield 120, 3) := by decide +kernel
theorem dX10_needs_15 : decode cX10_needs 15 = .ok (.ishl, 1) := by decide +kernel
theorem dX10_needs_16 : decode cX10_needs 16 = .ok (.iconst 1, 1) := by decide +kernel
theorem dX10_needs_17 : decode cX10_needs 17 = .ok (.isub, 1) := by decide +kernel
theorem dX10_needs_18 : decode cX10_needs 18 = .ok (.invokestatic 64, 3) := by decide +kernel
theorem dX10_needs_21 : decode cX10_needs 21 = .ok (.aload_n 0, 1) := by decide +kernel
theorem dX10_needs_22 : decode cX10_needs 22 = .ok (.getfield 10, 3) := by decide +kernel
theorem dX10_needs_25 : decode cX10_needs 25 = .ok (.getfield 96, 3) := by decide +kernel
theorem dX10_needs_28 : decode cX10_needs 28 = .ok (.iload_n 1, 1) := by decide +kernel
theorem dX10_needs_29 : decode cX10_needs 29 = .ok (.aaload, 1) := by decide +kernel
theorem dX10_needs_30 : decode cX10_needs 30 = .ok (.iload_n 2, 1) := by decide +kernel
theorem dX10_needs_31 : decode cX10_needs 31 = .ok (.putfield 123, 3) := by decide +kernel
theorem dX10_needs_34 : decode cX10_needs 34 = .ok (.iload_n 2, 1) := by decide +kernel
theorem dX10_needs_35 : decode cX10_needs 35 = .ok (.invokestatic 126, 3) := by decide +kernel
theorem dX10_needs_38 : decode cX10_needs 38 = .ok (.ireturn, 1) := by decide +kernel
theorem dX10_look_0 : decode cX10_look 0 = .ok (.aload_n 0, 1) := by decide +kernel
theorem dX10_look_1 : decode cX10_look 1 = .ok (.iload_n 1, 1) := by decide +kernel
theorem dX10_look_2 : decode cX10_look 2 = .ok (.invokevirtual 57, 3) := by decide +kernel
theorem dX10_look_5 : decode cX10_look 5 = .ok (.iload_n 2, 1) := by decide +kernel
theorem dX10_look_6 : decode cX10_look 6 = .ok (.iconst 4, 1) := by decide +kernel
theorem dX10_look_7 : decode cX10_look 7 = .ok (.invokestatic 131, 3) := by decide +kernel
theorem dX10_look_10 : decode cX10_look 10 = .ok (.iload 4, 2) := by decide +kernel
theorem dX10_look_12 : decode cX10_look 12 = .ok (.iconst (-1), 1) := by decide +kernel
theorem dX10_look_13 : decode cX10_look 13 = .ok (.bipush 9, 2) := by decide +kernel
theorem dX10_look_15 : decode cX10_look 15 = .ok (.invokestatic 64, 3) := by decide +kernel
theorem dX10_look_18 : decode cX10_look 18 = .ok (.aload_n 0, 1) := by decide +kernel
theorem dX10_look_19 : decode cX10_look 19 = .ok (.getfield 10, 3) := by decide +kernel
theorem dX10_look_22 : decode cX10_look 22 = .ok (.getfield 96, 3) := by decide +kernel
theorem dX10_look_25 : decode cX10_look 25 = .ok (.iload_n 1, 1) := by decide +kernel
theorem dX10_look_26 : decode cX10_look 26 = .ok (.aaload, 1) := by decide +kernel
theorem dX10_look_27 : decode cX10_look 27 = .ok (.astore 5, 2) := by decide +kernel
theorem dX10_look_29 : decode cX10_look 29 = .ok (.iload_n 3, 1) := by decide +kernel
theorem dX10_look_30 : decode cX10_look 30 = .ok (.ifCond .eq 11, 3) := by decide +kernel
theorem dX10_look_33 : decode cX10_look 33 = .ok (.aload 5, 2) := by decide +kernel
theorem dX10_look_35 : decode cX10_look 35 = .ok (.getfield 135, 3) := by decide +kernel
theorem dX10_look_38 : decode cX10_look 38 = .ok (.goto 8, 3) := by decide +kernel
theorem dX10_look_41 : decode cX10_look 41 = .ok (.aload 5, 2) := by decide +kernel
theorem dX10_look_43 : decode cX10_look 43 = .ok (.getfield 139, 3) := by decide +kernel
theorem dX10_look_46 : decode cX10_look 46 = .ok (.astore 6, 2) := by decide +kernel
theorem dX10_look_48 : decode cX10_look 48 = .ok (.aload 6, 2) := by decide +kernel
theorem dX10_look_50 : decode cX10_look 50 = .ok (.iload_n 2, 1) := by decide +kernel
theorem dX10_look_51 : decode cX10_look 51 = .ok (.iload 4, 2) := by decide +kernel
theorem dX10_look_53 : decode cX10_look 53 = .ok (.iastore, 1) := by decide +kernel
theorem dX10_look_54 : decode cX10_look 54 = .ok (.aload_n 0, 1) := by decide +kernel
theorem dX10_look_55 : decode cX10_look 55 = .ok (.getfield 10, 3) := by decide +kernel
theorem dX10_look_58 : decode cX10_look 58 = .ok (.invokevirtual 142, 3) := by decide +kernel
theorem dX10_look_61 : decode cX10_look 61 = .ok (.ireturn, 1) := by decide +kernel
theorem dX10_clashes_0 : decode cX10_clashes 0 = .ok (.aload_n 0, 1) := by decide +kernel
theorem dX10_clashes_1 : decode cX10_clashes 1 = .ok (.iload_n 1, 1) := by decide +kernel
theorem dX10_clashes_2 : decode cX10_clashes 2 = .ok (.invokevirtual 57, 3) := by decide +kernel
theorem dX10_clashes_5 : decode cX10_clashes 5 = .ok (.aload_n 0, 1) := by decide +kernel
theorem dX10_clashes_6 : decode cX10_clashes 6 = .ok (.getfield 10, 3) := by decide +kernel
theorem dX10_clashes_9 : decode cX10_clashes 9 = .ok (.invokevirtual 142, 3) := by decide +kernel
theorem dX10_clashes_12 : decode cX10_clashes 12 = .ok (.pop, 1) := by decide +kernel
theorem dX10_clashes_13 : decode cX10_clashes 13 = .ok (.aload_n 0, 1) := by decide +kernel
theorem dX10_clashes_14 : decode cX10_clashes 14 = .ok (.getfield 10, 3) := by decide +kernel
theorem dX10_clashes_17 : decode cX10_clashes 17 = .ok (.getfield 96, 3) := by decide +kernel
theorem dX10_clashes_20 : decode cX10_clashes 20 = .ok (.iload_n 1, 1) := by decide +kernel
theorem dX10_clashes_21 : decode cX10_clashes 21 = .ok (.aaload, 1) := by decide +kernel
theorem dX10_clashes_22 : decode cX10_clashes 22 = .ok (.getfield 146, 3) := by decide +kernel
theorem dX10_clashes_25 : decode cX10_clashes 25 = .ok (.ireturn, 1) := by decide +kernel
theorem dX10_bind_0 : decode cX10_bind 0 = .ok (.aload_n 0, 1) := by decide +kernel
theorem dX10_bind_1 : decode cX10_bind 1 = .ok (.iload_n 1, 1) := by decide +kernel
theorem dX10_bind_2 : decode cX10_bind 2 = .ok (.invokevirtual 57, 3) := by decide +kernel
theorem dX10_bind_5 : decode cX10_bind 5 = .ok (.aload_n 0, 1) := by decide +kernel
theorem dX10_bind_6 : decode cX10_bind 6 = .ok (.iload_n 2, 1) := by decide +kernel
theorem dX10_bind_7 : decode cX10_bind 7 = .ok (.invokevirtual 57, 3) := by decide +kernel
theorem dX10_bind_10 : decode cX10_bind 10 = .ok (.aload_n 0, 1) := by decide +kernel
theorem dX10_bind_11 : decode cX10_bind 11 = .ok (.getfield 10, 3) := by decide +kernel
theorem dX10_bind_14 : decode cX10_bind 14 = .ok (.iload_n 2, 1) := by decide +kernel
theorem dX10_bind_15 : decode cX10_bind 15 = .ok (.iload_n 1, 1) := by decide +kernel
theorem dX10_bind_16 : decode cX10_bind 16 = .ok (.invokevirtual 149, 3) := by decide +kernel
theorem dX10_bind_19 : decode cX10_bind 19 = .ok (.ifCond .eq 13, 3) := by decide +kernel
theorem dX10_bind_22 : decode cX10_bind 22 = .ok (.new 72, 3) := by decide +kernel
theorem dX10_bind_25 : decode cX10_bind 25 = .ok (.dup, 1) := by decide +kernel
theorem dX10_bind_26 : decode cX10_bind 26 = .ok (.ldc 153, 2) := by decide +kernel
theorem dX10_bind_28 : decode cX10_bind 28 = .ok (.invokespecial 76, 3) := by decide +kernel
theorem dX10_bind_31 : decode cX10_bind 31 = .ok (.athrow, 1) := by decide +kernel
theorem dX10_bind_32 : decode cX10_bind 32 = .ok (.aload_n 0, 1) := by decide +kernel
theorem dX10_bind_33 : decode cX10_bind 33 = .ok (.getfield 10, 3) := by decide +kernel
theorem dX10_bind_36 : decode cX10_bind 36 = .ok (.getfield 96, 3) := by decide +kernel
theorem dX10_bind_39 : decode cX10_bind 39 = .ok (.iload_n 1, 1) := by decide +kernel
theorem dX10_bind_40 : decode cX10_bind 40 = .ok (.aaload, 1) := by decide +kernel
theorem dX10_bind_41 : decode cX10_bind 41 = .ok (.astore_n 3, 1) := by decide +kernel
theorem dX10_bind_42 : decode cX10_bind 42 = .ok (.aload_n 3, 1) := by decide +kernel
theorem dX10_bind_43 : decode cX10_bind 43 = .ok (.dup, 1) := by decide +kernel
theorem dX10_bind_44 : decode cX10_bind 44 = .ok (.getfield 155, 3) := by decide +kernel
theorem dX10_bind_47 : decode cX10_bind 47 = .ok (.iconst 1, 1) := by decide +kernel
theorem dX10_bind_48 : decode cX10_bind 48 = .ok (.iload_n 2, 1) := by decide +kernel
theorem dX10_bind_49 : decode cX10_bind 49 = .ok (.ishl, 1) := by decide +kernel
theorem dX10_bind_50 : decode cX10_bind 50 = .ok (.ior, 1) := by decide +kernel
theorem dX10_bind_51 : decode cX10_bind 51 = .ok (.putfield 155, 3) := by decide +kernel
theorem dX10_bind_54 : decode cX10_bind 54 = .ok (.aload_n 3, 1) := by decide +kernel
theorem dX10_bind_55 : decode cX10_bind 55 = .ok (.getfield 155, 3) := by decide +kernel
theorem dX10_bind_58 : decode cX10_bind 58 = .ok (.invokestatic 126, 3) := by decide +kernel
theorem dX10_bind_61 : decode cX10_bind 61 = .ok (.ireturn, 1) := by decide +kernel
theorem dX10_person_0 : decode cX10_person 0 = .ok (.iload_n 1, 1) := by decide +kernel
theorem dX10_person_1 : decode cX10_person 1 = .ok (.iconst 0, 1) := by decide +kernel
theorem dX10_person_2 : decode cX10_person 2 = .ok (.iconst 2, 1) := by decide +kernel
theorem dX10_person_3 : decode cX10_person 3 = .ok (.invokestatic 64, 3) := by decide +kernel
theorem dX10_person_6 : decode cX10_person 6 = .ok (.iload_n 2, 1) := by decide +kernel
theorem dX10_person_7 : decode cX10_person 7 = .ok (.iconst 1, 1) := by decide +kernel
theorem dX10_person_8 : decode cX10_person 8 = .ok (.sipush 1000, 3) := by decide +kernel
theorem dX10_person_11 : decode cX10_person 11 = .ok (.invokestatic 64, 3) := by decide +kernel
theorem dX10_person_14 : decode cX10_person 14 = .ok (.iload_n 3, 1) := by decide +kernel
theorem dX10_person_15 : decode cX10_person 15 = .ok (.iconst 0, 1) := by decide +kernel
theorem dX10_person_16 : decode cX10_person 16 = .ok (.sipush 180, 3) := by decide +kernel
theorem dX10_person_19 : decode cX10_person 19 = .ok (.invokestatic 64, 3) := by decide +kernel
theorem dX10_person_22 : decode cX10_person 22 = .ok (.aload_n 0, 1) := by decide +kernel
theorem dX10_person_23 : decode cX10_person 23 = .ok (.getfield 19, 3) := by decide +kernel
theorem dX10_person_26 : decode cX10_person 26 = .ok (.getfield 120, 3) := by decide +kernel
theorem dX10_person_29 : decode cX10_person 29 = .ok (.bipush 8, 2) := by decide +kernel
theorem dX10_person_31 : decode cX10_person 31 = .ok (.if_icmp .lt 13, 3) := by decide +kernel
theorem dX10_person_34 : decode cX10_person 34 = .ok (.new 72, 3) := by decide +kernel
theorem dX10_person_37 : decode cX10_person 37 = .ok (.dup, 1) := by decide +kernel
theorem dX10_person_38 : decode cX10_person 38 = .ok (.ldc 158, 2) := by decide +kernel
theorem dX10_person_40 : decode cX10_person 40 = .ok (.invokespecial 76, 3) := by decide +kernel
theorem dX10_person_43 : decode cX10_person 43 = .ok (.athrow, 1) := by decide +kernel
theorem dX10_person_44 : decode cX10_person 44 = .ok (.aload_n 0, 1) := by decide +kernel
theorem dX10_person_45 : decode cX10_person 45 = .ok (.getfield 19, 3) := by decide +kernel
theorem dX10_person_48 : decode cX10_person 48 = .ok (.iload_n 1, 1) := by decide +kernel
theorem dX10_person_49 : decode cX10_person 49 = .ok (.iload_n 2, 1) := by decide +kernel
theorem dX10_person_50 : decode cX10_person 50 = .ok (.iload_n 3, 1) := by decide +kernel
theorem dX10_person_51 : decode cX10_person 51 = .ok (.iload 4, 2) := by decide +kernel
theorem dX10_person_53 : decode cX10_person 53 = .ok (.invokevirtual 160, 3) := by decide +kernel
theorem dX10_person_56 : decode cX10_person 56 = .ok (.ireturn, 1) := by decide +kernel
theorem dX10_ill_0 : decode cX10_ill 0 = .ok (.aload_n 0, 1) := by decide +kernel
theorem dX10_ill_1 : decode cX10_ill 1 = .ok (.iload_n 1, 1) := by decide +kernel
theorem dX10_ill_2 : decode cX10_ill 2 = .ok (.invokevirtual 163, 3) := by decide +kernel
theorem dX10_ill_5 : decode cX10_ill 5 = .ok (.iload_n 2, 1) := by decide +kernel
theorem dX10_ill_6 : decode cX10_ill 6 = .ok (.invokestatic 166, 3) := by decide +kernel
theorem dX10_ill_9 : decode cX10_ill 9 = .ok (.aload_n 0, 1) := by decide +kernel
theorem dX10_ill_10 : decode cX10_ill 10 = .ok (.getfield 35, 3) := by decide +kernel
theorem dX10_ill_13 : decode cX10_ill 13 = .ok (.iload_n 1, 1) := by decide +kernel
theorem dX10_ill_14 : decode cX10_ill 14 = .ok (.iload_n 2, 1) := by decide +kernel
theorem dX10_ill_15 : decode cX10_ill 15 = .ok (.iload_n 3, 1) := by decide +kernel
theorem dX10_ill_16 : decode cX10_ill 16 = .ok (.invokevirtual 169, 3) := by decide +kernel
theorem dX10_ill_19 : decode cX10_ill 19 = .ok (.ireturn, 1) := by decide +kernel
theorem dX10_place_0 : decode cX10_place 0 = .ok (.iload_n 1, 1) := by decide +kernel
theorem dX10_place_1 : decode cX10_place 1 = .ok (.iconst 0, 1) := by decide +kernel
theorem dX10_place_2 : decode cX10_place 2 = .ok (.sipush 1000, 3) := by decide +kernel
theorem dX10_place_5 : decode cX10_place 5 = .ok (.invokestatic 64, 3) := by decide +kernel
theorem dX10_place_8 : decode cX10_place 8 = .ok (.aload_n 0, 1) := by decide +kernel
theorem dX10_place_9 : decode cX10_place 9 = .ok (.getfield 26, 3) := by decide +kernel
theorem dX10_place_12 : decode cX10_place 12 = .ok (.getfield 173, 3) := by decide +kernel
theorem dX10_place_15 : decode cX10_place 15 = .ok (.bipush 6, 2) := by decide +kernel
theorem dX10_place_17 : decode cX10_place 17 = .ok (.if_icmp .lt 13, 3) := by decide +kernel
theorem dX10_place_20 : decode cX10_place 20 = .ok (.new 72, 3) := by decide +kernel
theorem dX10_place_23 : decode cX10_place 23 = .ok (.dup, 1) := by decide +kernel
theorem dX10_place_24 : decode cX10_place 24 = .ok (.ldc 174, 2) := by decide +kernel
theorem dX10_place_26 : decode cX10_place 26 = .ok (.invokespecial 76, 3) := by decide +kernel
theorem dX10_place_29 : decode cX10_place 29 = .ok (.athrow, 1) := by decide +kernel
theorem dX10_place_30 : decode cX10_place 30 = .ok (.aload_n 0, 1) := by decide +kernel
theorem dX10_place_31 : decode cX10_place 31 = .ok (.getfield 26, 3) := by decide +kernel
theorem dX10_place_34 : decode cX10_place 34 = .ok (.iload_n 1, 1) := by decide +kernel
theorem dX10_place_35 : decode cX10_place 35 = .ok (.invokevirtual 176, 3) := by decide +kernel
theorem dX10_place_38 : decode cX10_place 38 = .ok (.ireturn, 1) := by decide +kernel
theorem dX10_permit_0 : decode cX10_permit 0 = .ok (.aload_n 0, 1) := by decide +kernel
theorem dX10_permit_1 : decode cX10_permit 1 = .ok (.iload_n 1, 1) := by decide +kernel
theorem dX10_permit_2 : decode cX10_permit 2 = .ok (.invokevirtual 61, 3) := by decide +kernel
theorem dX10_permit_5 : decode cX10_permit 5 = .ok (.iload_n 2, 1) := by decide +kernel
theorem dX10_permit_6 : decode cX10_permit 6 = .ok (.invokestatic 166, 3) := by decide +kernel
theorem dX10_permit_9 : decode cX10_permit 9 = .ok (.aload_n 0, 1) := by decide +kernel
theorem dX10_permit_10 : decode cX10_permit 10 = .ok (.getfield 35, 3) := by decide +kernel
theorem dX10_permit_13 : decode cX10_permit 13 = .ok (.iload_n 1, 1) := by decide +kernel
theorem dX10_permit_14 : decode cX10_permit 14 = .ok (.iload_n 2, 1) := by decide +kernel
theorem dX10_permit_15 : decode cX10_permit 15 = .ok (.iload_n 3, 1) := by decide +kernel
theorem dX10_permit_16 : decode cX10_permit 16 = .ok (.invokevirtual 178, 3) := by decide +kernel
theorem dX10_permit_19 : decode cX10_permit 19 = .ok (.ireturn, 1) := by decide +kernel
theorem dX10_move_0 : decode cX10_move 0 = .ok (.aload_n 0, 1) := by decide +kernel
theorem dX10_move_1 : decode cX10_move 1 = .ok (.iload_n 1, 1) := by decide +kernel
theorem dX10_move_2 : decode cX10_move 2 = .ok (.invokevirtual 61, 3) := by decide +kernel
theorem dX10_move_5 : decode cX10_move 5 = .ok (.aload_n 0, 1) := by decide +kernel
theorem dX10_move_6 : decode cX10_move 6 = .ok (.iload_n 2, 1) := by decide +kernel
theorem dX10_move_7 : decode cX10_move 7 = .ok (.invokevirtual 61, 3) := by decide +kernel
theorem dX10_move_10 : decode cX10_move 10 = .ok (.iload_n 3, 1) := by decide +kernel
theorem dX10_move_11 : decode cX10_move 11 = .ok (.iconst 0, 1) := by decide +kernel
theorem dX10_move_12 : decode cX10_move 12 = .ok (.sipush 300, 3) := by decide +kernel
theorem dX10_move_15 : decode cX10_move 15 = .ok (.invokestatic 64, 3) := by decide +kernel
theorem dX10_move_18 : decode cX10_move 18 = .ok (.iload_n 1, 1) := by decide +kernel
theorem dX10_move_19 : decode cX10_move 19 = .ok (.iload_n 2, 1) := by decide +kernel
theorem dX10_move_20 : decode cX10_move 20 = .ok (.if_icmp .ne 13, 3) := by decide +kernel
theorem dX10_move_23 : decode cX10_move 23 = .ok (.new 181, 3) := by decide +kernel
theorem dX10_move_26 : decode cX10_move 26 = .ok (.dup, 1) := by decide +kernel
theorem dX10_move_27 : decode cX10_move 27 = .ok (.ldc 183, 2) := by decide +kernel
theorem dX10_move_29 : decode cX10_move 29 = .ok (.invokespecial 185, 3) := by decide +kernel
theorem dX10_move_32 : decode cX10_move 32 = .ok (.athrow, 1) := by decide +kernel
theorem dX10_move_33 : decode cX10_move 33 = .ok (.aload_n 0, 1) := by decide +kernel
theorem dX10_move_34 : decode cX10_move 34 = .ok (.getfield 26, 3) := by decide +kernel
theorem dX10_move_37 : decode cX10_move 37 = .ok (.iload_n 1, 1) := by decide +kernel
theorem dX10_move_38 : decode cX10_move 38 = .ok (.iload_n 2, 1) := by decide +kernel
theorem dX10_move_39 : decode cX10_move 39 = .ok (.iload_n 3, 1) := by decide +kernel
theorem dX10_move_40 : decode cX10_move 40 = .ok (.invokevirtual 186, 3) := by decide +kernel
theorem dX10_move_43 : decode cX10_move 43 = .ok (.ireturn, 1) := by decide +kernel
theorem dX10_light_0 : decode cX10_light 0 = .ok (.iload_n 1, 1) := by decide +kernel
theorem dX10_light_1 : decode cX10_light 1 = .ok (.invokestatic 166, 3) := by decide +kernel
theorem dX10_light_4 : decode cX10_light 4 = .ok (.iload_n 2, 1) := by decide +kernel
theorem dX10_light_5 : decode cX10_light 5 = .ok (.iconst 0, 1) := by decide +kernel
theorem dX10_light_6 : decode cX10_light 6 = .ok (.sipush 1200, 3) := by decide +kernel
theorem dX10_light_9 : decode cX10_light 9 = .ok (.invokestatic 64, 3) := by decide +kernel
theorem dX10_light_12 : decode cX10_light 12 = .ok (.iload_n 3, 1) := by decide +kernel
theorem dX10_light_13 : decode cX10_light 13 = .ok (.iconst 0, 1) := by decide +kernel
theorem dX10_light_14 : decode cX10_light 14 = .ok (.sipush 1440, 3) := by decide +kernel
theorem dX10_light_17 : decode cX10_light 17 = .ok (.invokestatic 64, 3) := by decide +kernel
theorem dX10_light_20 : decode cX10_light 20 = .ok (.iload 4, 2) := by decide +kernel
theorem dX10_light_22 : decode cX10_light 22 = .ok (.iload_n 3, 1) := by decide +kernel
theorem dX10_light_23 : decode cX10_light 23 = .ok (.sipush 1440, 3) := by decide +kernel
theorem dX10_light_26 : decode cX10_light 26 = .ok (.invokestatic 64, 3) := by decide +kernel
theorem dX10_light_29 : decode cX10_light 29 = .ok (.aload_n 0, 1) := by decide +kernel
theorem dX10_light_30 : decode cX10_light 30 = .ok (.getfield 35, 3) := by decide +kernel
theorem dX10_light_33 : decode cX10_light 33 = .ok (.getfield 190, 3) := by decide +kernel
theorem dX10_light_36 : decode cX10_light 36 = .ok (.iload_n 1, 1) := by decide +kernel
theorem dX10_light_37 : decode cX10_light 37 = .ok (.aaload, 1) := by decide +kernel
theorem dX10_light_38 : decode cX10_light 38 = .ok (.astore 5, 2) := by decide +kernel
theorem dX10_light_40 : decode cX10_light 40 = .ok (.aload 5, 2) := by decide +kernel
theorem dX10_light_42 : decode cX10_light 42 = .ok (.iload_n 2, 1) := by decide +kernel
theorem dX10_light_43 : decode cX10_light 43 = .ok (.putfield 194, 3) := by decide +kernel
theorem dX10_light_46 : decode cX10_light 46 = .ok (.aload 5, 2) := by decide +kernel
theorem dX10_light_48 : decode cX10_light 48 = .ok (.iload_n 3, 1) := by decide +kernel
theorem dX10_light_49 : decode cX10_light 49 = .ok (.putfield 199, 3) := by decide +kernel
theorem dX10_light_52 : decode cX10_light 52 = .ok (.aload 5, 2) := by decide +kernel
theorem dX10_light_54 : decode cX10_light 54 = .ok (.iload 4, 2) := by decide +kernel
theorem dX10_light_56 : decode cX10_light 56 = .ok (.putfield 202, 3) := by decide +kernel
theorem dX10_light_59 : decode cX10_light 59 = .ok (.return_, 1) := by decide +kernel
theorem dX10_put_0 : decode cX10_put 0 = .ok (.aload_n 0, 1) := by decide +kernel
theorem dX10_put_1 : decode cX10_put 1 = .ok (.iload_n 1, 1) := by decide +kernel
theorem dX10_put_2 : decode cX10_put 2 = .ok (.invokevirtual 57, 3) := by decide +kernel
theorem dX10_put_5 : decode cX10_put 5 = .ok (.iload_n 2, 1) := by decide +kernel
theorem dX10_put_6 : decode cX10_put 6 = .ok (.invokestatic 166, 3) := by decide +kernel
theorem dX10_put_9 : decode cX10_put 9 = .ok (.aload_n 0, 1) := by decide +kernel
theorem dX10_put_10 : decode cX10_put 10 = .ok (.getfield 35, 3) := by decide +kernel
theorem dX10_put_13 : decode cX10_put 13 = .ok (.getfield 190, 3) := by decide +kernel
theorem dX10_put_16 : decode cX10_put 16 = .ok (.iload_n 2, 1) := by decide +kernel
theorem dX10_put_17 : decode cX10_put 17 = .ok (.aaload, 1) := by decide +kernel
theorem dX10_put_18 : decode cX10_put 18 = .ok (.astore 4, 2) := by decide +kernel
theorem dX10_put_20 : decode cX10_put 20 = .ok (.iload_n 3, 1) := by decide +kernel
theorem dX10_put_21 : decode cX10_put 21 = .ok (.aload 4, 2) := by decide +kernel
theorem dX10_put_23 : decode cX10_put 23 = .ok (.getfield 205, 3) := by decide +kernel
theorem dX10_put_26 : decode cX10_put 26 = .ok (.iconst 1, 1) := by decide +kernel
theorem dX10_put_27 : decode cX10_put 27 = .ok (.iadd, 1) := by decide +kernel
theorem dX10_put_28 : decode cX10_put 28 = .ok (.invokestatic 131, 3) := by decide +kernel
theorem dX10_put_31 : decode cX10_put 31 = .ok (.aload_n 0, 1) := by decide +kernel
theorem dX10_put_32 : decode cX10_put 32 = .ok (.getfield 10, 3) := by decide +kernel
theorem dX10_put_35 : decode cX10_put 35 = .ok (.getfield 96, 3) := by decide +kernel
theorem dX10_put_38 : decode cX10_put 38 = .ok (.iload_n 1, 1) := by decide +kernel
theorem dX10_put_39 : decode cX10_put 39 = .ok (.aaload, 1) := by decide +kernel
theorem dX10_put_40 : decode cX10_put 40 = .ok (.invokevirtual 206, 3) := by decide +kernel
theorem dX10_put_43 : decode cX10_put 43 = .ok (.ifCond .ne 13, 3) := by decide +kernel
theorem dX10_put_46 : decode cX10_put 46 = .ok (.new 72, 3) := by decide +kernel
theorem dX10_put_49 : decode cX10_put 49 = .ok (.dup, 1) := by decide +kernel
theorem dX10_put_50 : decode cX10_put 50 = .ok (.ldc 210, 2) := by decide +kernel
theorem dX10_put_52 : decode cX10_put 52 = .ok (.invokespecial 76, 3) := by decide +kernel
theorem dX10_put_55 : decode cX10_put 55 = .ok (.athrow, 1) := by decide +kernel
theorem dX10_put_56 : decode cX10_put 56 = .ok (.iload_n 2, 1) := by decide +kernel
theorem dX10_put_57 : decode cX10_put 57 = .ok (.aload_n 0, 1) := by decide +kernel
theorem dX10_put_58 : decode cX10_put 58 = .ok (.getfield 35, 3) := by decide +kernel
theorem dX10_put_61 : decode cX10_put 61 = .ok (.getfield 212, 3) := by decide +kernel
theorem dX10_put_64 : decode cX10_put 64 = .ok (.if_icmp .lt 11, 3) := by decide +kernel
theorem dX10_put_67 : decode cX10_put 67 = .ok (.aload 4, 2) := by decide +kernel
theorem dX10_put_69 : decode cX10_put 69 = .ok (.invokevirtual 215, 3) := by decide +kernel
theorem dX10_put_72 : decode cX10_put 72 = .ok (.ifCond .eq 13, 3) := by decide +kernel
theorem dX10_put_75 : decode cX10_put 75 = .ok (.new 72, 3) := by decide +kernel
theorem dX10_put_78 : decode cX10_put 78 = .ok (.dup, 1) := by decide +kernel
theorem dX10_put_79 : decode cX10_put 79 = .ok (.ldc 218, 2) := by decide +kernel
theorem dX10_put_81 : decode cX10_put 81 = .ok (.invokespecial 76, 3) := by decide +kernel
theorem dX10_put_84 : decode cX10_put 84 = .ok (.athrow, 1) := by decide +kernel
theorem dX10_put_85 : decode cX10_put 85 = .ok (.aload_n 0, 1) := by decide +kernel
theorem dX10_put_86 : decode cX10_put 86 = .ok (.getfield 35, 3) := by decide +kernel
theorem dX10_put_89 : decode cX10_put 89 = .ok (.iload_n 1, 1) := by decide +kernel
theorem dX10_put_90 : decode cX10_put 90 = .ok (.iload_n 2, 1) := by decide +kernel
theorem dX10_put_91 : decode cX10_put 91 = .ok (.iload_n 3, 1) := by decide +kernel
theorem dX10_put_92 : decode cX10_put 92 = .ok (.invokevirtual 220, 3) := by decide +kernel
theorem dX10_put_95 : decode cX10_put 95 = .ok (.aload_n 0, 1) := by decide +kernel
theorem dX10_put_96 : decode cX10_put 96 = .ok (.getfield 35, 3) := by decide +kernel
theorem dX10_put_99 : decode cX10_put 99 = .ok (.iload_n 1, 1) := by decide +kernel
theorem dX10_put_100 : decode cX10_put 100 = .ok (.invokevirtual 223, 3) := by decide +kernel
theorem dX10_put_103 : decode cX10_put 103 = .ok (.ireturn, 1) := by decide +kernel
theorem dX10_take_0 : decode cX10_take 0 = .ok (.aload_n 0, 1) := by decide +kernel
theorem dX10_take_1 : decode cX10_take 1 = .ok (.iload_n 1, 1) := by decide +kernel
theorem dX10_take_2 : decode cX10_take 2 = .ok (.invokevirtual 57, 3) := by decide +kernel
theorem dX10_take_5 : decode cX10_take 5 = .ok (.aload_n 0, 1) := by decide +kernel
theorem dX10_take_6 : decode cX10_take 6 = .ok (.getfield 10, 3) := by decide +kernel
theorem dX10_take_9 : decode cX10_take 9 = .ok (.getfield 96, 3) := by decide +kernel
theorem dX10_take_12 : decode cX10_take 12 = .ok (.iload_n 1, 1) := by decide +kernel
theorem dX10_take_13 : decode cX10_take 13 = .ok (.aaload, 1) := by decide +kernel
theorem dX10_take_14 : decode cX10_take 14 = .ok (.astore_n 2, 1) := by decide +kernel
theorem dX10_take_15 : decode cX10_take 15 = .ok (.aload_n 2, 1) := by decide +kernel
theorem dX10_take_16 : decode cX10_take 16 = .ok (.invokevirtual 226, 3) := by decide +kernel
theorem dX10_take_19 : decode cX10_take 19 = .ok (.iconst 1, 1) := by decide +kernel
theorem dX10_take_20 : decode cX10_take 20 = .ok (.if_icmp .eq 13, 3) := by decide +kernel
theorem dX10_take_23 : decode cX10_take 23 = .ok (.new 72, 3) := by decide +kernel
theorem dX10_take_26 : decode cX10_take 26 = .ok (.dup, 1) := by decide +kernel
theorem dX10_take_27 : decode cX10_take 27 = .ok (.ldc 229, 2) := by decide +kernel
theorem dX10_take_29 : decode cX10_take 29 = .ok (.invokespecial 76, 3) := by decide +kernel
theorem dX10_take_32 : decode cX10_take 32 = .ok (.athrow, 1) := by decide +kernel
theorem dX10_take_33 : decode cX10_take 33 = .ok (.aload_n 2, 1) := by decide +kernel
theorem dX10_take_34 : decode cX10_take 34 = .ok (.getfield 231, 3) := by decide +kernel
theorem dX10_take_37 : decode cX10_take 37 = .ok (.istore_n 3, 1) := by decide +kernel
theorem dX10_take_38 : decode cX10_take 38 = .ok (.aload_n 0, 1) := by decide +kernel
theorem dX10_take_39 : decode cX10_take 39 = .ok (.getfield 35, 3) := by decide +kernel
theorem dX10_take_42 : decode cX10_take 42 = .ok (.iload_n 1, 1) := by decide +kernel
theorem dX10_take_43 : decode cX10_take 43 = .ok (.invokevirtual 110, 3) := by decide +kernel
theorem dX10_take_46 : decode cX10_take 46 = .ok (.iload_n 3, 1) := by decide +kernel
theorem dX10_take_47 : decode cX10_take 47 = .ok (.ireturn, 1) := by decide +kernel
theorem dX10_fill_0 : decode cX10_fill 0 = .ok (.iconst 0, 1) := by decide +kernel
theorem dX10_fill_1 : decode cX10_fill 1 = .ok (.istore_n 1, 1) := by decide +kernel
theorem dX10_fill_2 : decode cX10_fill 2 = .ok (.iconst 0, 1) := by decide +kernel
theorem dX10_fill_3 : decode cX10_fill 3 = .ok (.istore_n 2, 1) := by decide +kernel
theorem dX10_fill_4 : decode cX10_fill 4 = .ok (.iconst 0, 1) := by decide +kernel
theorem dX10_fill_5 : decode cX10_fill 5 = .ok (.istore_n 3, 1) := by decide +kernel
theorem dX10_fill_6 : decode cX10_fill 6 = .ok (.iload_n 3, 1) := by decide +kernel
theorem dX10_fill_7 : decode cX10_fill 7 = .ok (.aload_n 0, 1) := by decide +kernel
theorem dX10_fill_8 : decode cX10_fill 8 = .ok (.getfield 10, 3) := by decide +kernel
theorem dX10_fill_11 : decode cX10_fill 11 = .ok (.getfield 92, 3) := by decide +kernel
theorem dX10_fill_14 : decode cX10_fill 14 = .ok (.if_icmp .ge 50, 3) := by decide +kernel
theorem dX10_fill_17 : decode cX10_fill 17 = .ok (.aload_n 0, 1) := by decide +kernel
theorem dX10_fill_18 : decode cX10_fill 18 = .ok (.getfield 10, 3) := by decide +kernel
theorem dX10_fill_21 : decode cX10_fill 21 = .ok (.iload_n 1, 1) := by decide +kernel
theorem dX10_fill_22 : decode cX10_fill 22 = .ok (.invokevirtual 234, 3) := by decide +kernel
theorem dX10_fill_25 : decode cX10_fill 25 = .ok (.istore 4, 2) := by decide +kernel
theorem dX10_fill_27 : decode cX10_fill 27 = .ok (.iload 4, 2) := by decide +kernel
theorem dX10_fill_29 : decode cX10_fill 29 = .ok (.iconst (-1), 1) := by decide +kernel
theorem dX10_fill_30 : decode cX10_fill 30 = .ok (.if_icmp .ne 5, 3) := by decide +kernel
theorem dX10_fill_33 : decode cX10_fill 33 = .ok (.iload_n 2, 1) := by decide +kernel
theorem dX10_fill_34 : decode cX10_fill 34 = .ok (.ireturn, 1) := by decide +kernel
theorem dX10_fill_35 : decode cX10_fill 35 = .ok (.iload_n 1, 1) := by decide +kernel
theorem dX10_fill_36 : decode cX10_fill 36 = .ok (.iconst 1, 1) := by decide +kernel
theorem dX10_fill_37 : decode cX10_fill 37 = .ok (.iload 4, 2) := by decide +kernel
theorem dX10_fill_39 : decode cX10_fill 39 = .ok (.ishl, 1) := by decide +kernel
theorem dX10_fill_40 : decode cX10_fill 40 = .ok (.ior, 1) := by decide +kernel
theorem dX10_fill_41 : decode cX10_fill 41 = .ok (.istore_n 1, 1) := by decide +kernel
theorem dX10_fill_42 : decode cX10_fill 42 = .ok (.aload_n 0, 1) := by decide +kernel
theorem dX10_fill_43 : decode cX10_fill 43 = .ok (.getfield 44, 3) := by decide +kernel
theorem dX10_fill_46 : decode cX10_fill 46 = .ok (.iload 4, 2) := by decide +kernel
theorem dX10_fill_48 : decode cX10_fill 48 = .ok (.iconst (-1), 1) := by decide +kernel
theorem dX10_fill_49 : decode cX10_fill 49 = .ok (.invokevirtual 237, 3) := by decide +kernel
theorem dX10_fill_52 : decode cX10_fill 52 = .ok (.ifCond .eq 6, 3) := by decide +kernel
theorem dX10_fill_55 : decode cX10_fill 55 = .ok (.iinc 2 1, 3) := by decide +kernel
theorem dX10_fill_58 : decode cX10_fill 58 = .ok (.iinc 3 1, 3) := by decide +kernel
theorem dX10_fill_61 : decode cX10_fill 61 = .ok (.goto (-55), 3) := by decide +kernel
theorem dX10_fill_64 : decode cX10_fill 64 = .ok (.iload_n 2, 1) := by decide +kernel
theorem dX10_fill_65 : decode cX10_fill 65 = .ok (.ireturn, 1) := by decide +kernel
theorem dX10_mend_0 : decode cX10_mend 0 = .ok (.iload_n 1, 1) := by decide +kernel
theorem dX10_mend_1 : decode cX10_mend 1 = .ok (.invokestatic 166, 3) := by decide +kernel
theorem dX10_mend_4 : decode cX10_mend 4 = .ok (.iload_n 1, 1) := by decide +kernel
theorem dX10_mend_5 : decode cX10_mend 5 = .ok (.aload_n 0, 1) := by decide +kernel
theorem dX10_mend_6 : decode cX10_mend 6 = .ok (.getfield 35, 3) := by decide +kernel
theorem dX10_mend_9 : decode cX10_mend 9 = .ok (.getfield 212, 3) := by decide +kernel
theorem dX10_mend_12 : decode cX10_mend 12 = .ok (.if_icmp .ge 13, 3) := by decide +kernel
theorem dX10_mend_15 : decode cX10_mend 15 = .ok (.new 72, 3) := by decide +kernel
theorem dX10_mend_18 : decode cX10_mend 18 = .ok (.dup, 1) := by decide +kernel
theorem dX10_mend_19 : decode cX10_mend 19 = .ok (.ldc 240, 2) := by decide +kernel
theorem dX10_mend_21 : decode cX10_mend 21 = .ok (.invokespecial 76, 3) := by decide +kernel
theorem dX10_mend_24 : decode cX10_mend 24 = .ok (.athrow, 1) := by decide +kernel
theorem dX10_mend_25 : decode cX10_mend 25 = .ok (.aload_n 0, 1) := by decide +kernel
theorem dX10_mend_26 : decode cX10_mend 26 = .ok (.getfield 44, 3) := by decide +kernel
theorem dX10_mend_29 : decode cX10_mend 29 = .ok (.iload_n 1, 1) := by decide +kernel
theorem dX10_mend_30 : decode cX10_mend 30 = .ok (.invokevirtual 242, 3) := by decide +kernel
theorem dX10_mend_33 : decode cX10_mend 33 = .ok (.istore_n 2, 1) := by decide +kernel
theorem dX10_mend_34 : decode cX10_mend 34 = .ok (.iconst 0, 1) := by decide +kernel
theorem dX10_mend_35 : decode cX10_mend 35 = .ok (.istore_n 3, 1) := by decide +kernel
theorem dX10_mend_36 : decode cX10_mend 36 = .ok (.iconst 0, 1) := by decide +kernel
theorem dX10_mend_37 : decode cX10_mend 37 = .ok (.istore 4, 2) := by decide +kernel
theorem dX10_mend_39 : decode cX10_mend 39 = .ok (.iload 4, 2) := by decide +kernel
theorem dX10_mend_41 : decode cX10_mend 41 = .ok (.iload_n 2, 1) := by decide +kernel
theorem dX10_mend_42 : decode cX10_mend 42 = .ok (.if_icmp .ge 33, 3) := by decide +kernel
theorem dX10_mend_45 : decode cX10_mend 45 = .ok (.aload_n 0, 1) := by decide +kernel
theorem dX10_mend_46 : decode cX10_mend 46 = .ok (.getfield 44, 3) := by decide +kernel
theorem dX10_mend_49 : decode cX10_mend 49 = .ok (.aload_n 0, 1) := by decide +kernel
theorem dX10_mend_50 : decode cX10_mend 50 = .ok (.getfield 44, 3) := by decide +kernel
theorem dX10_mend_53 : decode cX10_mend 53 = .ok (.getfield 245, 3) := by decide +kernel
theorem dX10_mend_56 : decode cX10_mend 56 = .ok (.iload 4, 2) := by decide +kernel
theorem dX10_mend_58 : decode cX10_mend 58 = .ok (.iaload, 1) := by decide +kernel
theorem dX10_mend_59 : decode cX10_mend 59 = .ok (.iload_n 1, 1) := by decide +kernel
theorem dX10_mend_60 : decode cX10_mend 60 = .ok (.invokevirtual 237, 3) := by decide +kernel
theorem dX10_mend_63 : decode cX10_mend 63 = .ok (.ifCond .eq 6, 3) := by decide +kernel
theorem dX10_mend_66 : decode cX10_mend 66 = .ok (.iinc 3 1, 3) := by decide +kernel
theorem dX10_mend_69 : decode cX10_mend 69 = .ok (.iinc 4 1, 3) := by decide +kernel
theorem dX10_mend_72 : decode cX10_mend 72 = .ok (.goto (-33), 3) := by decide +kernel
theorem dX10_mend_75 : decode cX10_mend 75 = .ok (.iload_n 3, 1) := by decide +kernel
theorem dX10_mend_76 : decode cX10_mend 76 = .ok (.ireturn, 1) := by decide +kernel
theorem dX10_strip_0 : decode cX10_strip 0 = .ok (.iload_n 1, 1) := by decide +kernel
theorem dX10_strip_1 : decode cX10_strip 1 = .ok (.invokestatic 166, 3) := by decide +kernel
theorem dX10_strip_4 : decode cX10_strip 4 = .ok (.iload_n 2, 1) := by decide +kernel
theorem dX10_strip_5 : decode cX10_strip 5 = .ok (.ifCond .ge 13, 3) := by decide +kernel
theorem dX10_strip_8 : decode cX10_strip 8 = .ok (.new 248, 3) := by decide +kernel
theorem dX10_strip_11 : decode cX10_strip 11 = .ok (.dup, 1) := by decide +kernel
theorem dX10_strip_12 : decode cX10_strip 12 = .ok (.ldc 250, 2) := by decide +kernel
theorem dX10_strip_14 : decode cX10_strip 14 = .ok (.invokespecial 252, 3) := by decide +kernel
theorem dX10_strip_17 : decode cX10_strip 17 = .ok (.athrow, 1) := by decide +kernel
theorem dX10_strip_18 : decode cX10_strip 18 = .ok (.aload_n 0, 1) := by decide +kernel
theorem dX10_strip_19 : decode cX10_strip 19 = .ok (.getfield 35, 3) := by decide +kernel
theorem dX10_strip_22 : decode cX10_strip 22 = .ok (.getfield 190, 3) := by decide +kernel
theorem dX10_strip_25 : decode cX10_strip 25 = .ok (.iload_n 1, 1) := by decide +kernel
theorem dX10_strip_26 : decode cX10_strip 26 = .ok (.aaload, 1) := by decide +kernel
theorem dX10_strip_27 : decode cX10_strip 27 = .ok (.astore_n 3, 1) := by decide +kernel
theorem dX10_strip_28 : decode cX10_strip 28 = .ok (.iload_n 2, 1) := by decide +kernel
theorem dX10_strip_29 : decode cX10_strip 29 = .ok (.aload_n 3, 1) := by decide +kernel
theorem dX10_strip_30 : decode cX10_strip 30 = .ok (.getfield 205, 3) := by decide +kernel
theorem dX10_strip_33 : decode cX10_strip 33 = .ok (.if_icmp .ge 12, 3) := by decide +kernel
theorem dX10_strip_36 : decode cX10_strip 36 = .ok (.aload_n 3, 1) := by decide +kernel
theorem dX10_strip_37 : decode cX10_strip 37 = .ok (.getfield 253, 3) := by decide +kernel
theorem dX10_strip_40 : decode cX10_strip 40 = .ok (.iload_n 2, 1) := by decide +kernel
theorem dX10_strip_41 : decode cX10_strip 41 = .ok (.iaload, 1) := by decide +kernel
theorem dX10_strip_42 : decode cX10_strip 42 = .ok (.goto 4, 3) := by decide +kernel
theorem dX10_strip_45 : decode cX10_strip 45 = .ok (.iconst (-1), 1) := by decide +kernel
theorem dX10_strip_46 : decode cX10_strip 46 = .ok (.ireturn, 1) := by decide +kernel
theorem dX10_ofScene_0 : decode cX10_ofScene 0 = .ok (.aload_n 0, 1) := by decide +kernel
theorem dX10_ofScene_1 : decode cX10_ofScene 1 = .ok (.iload_n 1, 1) := by decide +kernel
theorem dX10_ofScene_2 : decode cX10_ofScene 2 = .ok (.invokevirtual 57, 3) := by decide +kernel
theorem dX10_ofScene_5 : decode cX10_ofScene 5 = .ok (.iload_n 2, 1) := by decide +kernel
theorem dX10_ofScene_6 : decode cX10_ofScene 6 = .ok (.iconst 0, 1) := by decide +kernel
theorem dX10_ofScene_7 : decode cX10_ofScene 7 = .ok (.iconst 4, 1) := by decide +kernel
theorem dX10_ofScene_8 : decode cX10_ofScene 8 = .ok (.invokestatic 64, 3) := by decide +kernel
theorem dX10_ofScene_11 : decode cX10_ofScene 11 = .ok (.aload_n 0, 1) := by decide +kernel
theorem dX10_ofScene_12 : decode cX10_ofScene 12 = .ok (.getfield 10, 3) := by decide +kernel
theorem dX10_ofScene_15 : decode cX10_ofScene 15 = .ok (.getfield 96, 3) := by decide +kernel
theorem dX10_ofScene_18 : decode cX10_ofScene 18 = .ok (.iload_n 1, 1) := by decide +kernel
theorem dX10_ofScene_19 : decode cX10_ofScene 19 = .ok (.aaload, 1) := by decide +kernel
theorem dX10_ofScene_20 : decode cX10_ofScene 20 = .ok (.astore_n 3, 1) := by decide +kernel
theorem dX10_ofScene_21 : decode cX10_ofScene 21 = .ok (.iload_n 2, 1) := by decide +kernel
theorem dX10_ofScene_22 : decode cX10_ofScene 22 = .ok (.ifCond .ne 8, 3) := by decide +kernel
theorem dX10_ofScene_25 : decode cX10_ofScene 25 = .ok (.aload_n 3, 1) := by decide +kernel
theorem dX10_ofScene_26 : decode cX10_ofScene 26 = .ok (.invokevirtual 226, 3) := by decide +kernel
theorem dX10_ofScene_29 : decode cX10_ofScene 29 = .ok (.ireturn, 1) := by decide +kernel
theorem dX10_ofScene_30 : decode cX10_ofScene 30 = .ok (.aload_n 3, 1) := by decide +kernel
theorem dX10_ofScene_31 : decode cX10_ofScene 31 = .ok (.getfield 231, 3) := by decide +kernel
theorem dX10_ofScene_34 : decode cX10_ofScene 34 = .ok (.iconst (-1), 1) := by decide +kernel
theorem dX10_ofScene_35 : decode cX10_ofScene 35 = .ok (.if_icmp .ne 5, 3) := by decide +kernel
theorem dX10_ofScene_38 : decode cX10_ofScene 38 = .ok (.iconst (-1), 1) := by decide +kernel
theorem dX10_ofScene_39 : decode cX10_ofScene 39 = .ok (.ireturn, 1) := by decide +kernel
theorem dX10_ofScene_40 : decode cX10_ofScene 40 = .ok (.iload_n 2, 1) := by decide +kernel
theorem dX10_ofScene_41 : decode cX10_ofScene 41 = .ok (.iconst 1, 1) := by decide +kernel
theorem dX10_ofScene_42 : decode cX10_ofScene 42 = .ok (.if_icmp .ne 8, 3) := by decide +kernel
theorem dX10_ofScene_45 : decode cX10_ofScene 45 = .ok (.aload_n 3, 1) := by decide +kernel
theorem dX10_ofScene_46 : decode cX10_ofScene 46 = .ok (.getfield 231, 3) := by decide +kernel
theorem dX10_ofScene_49 : decode cX10_ofScene 49 = .ok (.ireturn, 1) := by decide +kernel
theorem dX10_ofScene_50 : decode cX10_ofScene 50 = .ok (.iload_n 2, 1) := by decide +kernel
theorem dX10_ofScene_51 : decode cX10_ofScene 51 = .ok (.iconst 4, 1) := by decide +kernel
theorem dX10_ofScene_52 : decode cX10_ofScene 52 = .ok (.if_icmp .ne 12, 3) := by decide +kernel
theorem dX10_ofScene_55 : decode cX10_ofScene 55 = .ok (.aload_n 0, 1) := by decide +kernel
theorem dX10_ofScene_56 : decode cX10_ofScene 56 = .ok (.getfield 35, 3) := by decide +kernel
theorem dX10_ofScene_59 : decode cX10_ofScene 59 = .ok (.iload_n 1, 1) := by decide +kernel
theorem dX10_ofScene_60 : decode cX10_ofScene 60 = .ok (.invokevirtual 223, 3) := by decide +kernel
theorem dX10_ofScene_63 : decode cX10_ofScene 63 = .ok (.ireturn, 1) := by decide +kernel
theorem dX10_ofScene_64 : decode cX10_ofScene 64 = .ok (.aload_n 0, 1) := by decide +kernel
theorem dX10_ofScene_65 : decode cX10_ofScene 65 = .ok (.getfield 35, 3) := by decide +kernel
theorem dX10_ofScene_68 : decode cX10_ofScene 68 = .ok (.iload_n 1, 1) := by decide +kernel
theorem dX10_ofScene_69 : decode cX10_ofScene 69 = .ok (.iload_n 2, 1) := by decide +kernel
theorem dX10_ofScene_70 : decode cX10_ofScene 70 = .ok (.iconst 3, 1) := by decide +kernel
theorem dX10_ofScene_71 : decode cX10_ofScene 71 = .ok (.if_icmp .ne 7, 3) := by decide +kernel
theorem dX10_ofScene_74 : decode cX10_ofScene 74 = .ok (.iconst 1, 1) := by decide +kernel
theorem dX10_ofScene_75 : decode cX10_ofScene 75 = .ok (.goto 4, 3) := by decide +kernel
theorem dX10_ofScene_78 : decode cX10_ofScene 78 = .ok (.iconst 0, 1) := by decide +kernel
