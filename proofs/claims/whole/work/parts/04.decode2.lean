theorem dX10_ofScene_79 : decode cX10_ofScene 79 = .ok (.invokevirtual 256, 3) := by decide +kernel
theorem dX10_ofScene_82 : decode cX10_ofScene 82 = .ok (.ireturn, 1) := by decide +kernel
theorem dX10_call_0 : decode cX10_call 0 = .ok (.aload_n 0, 1) := by decide +kernel
theorem dX10_call_1 : decode cX10_call 1 = .ok (.iload_n 1, 1) := by decide +kernel
theorem dX10_call_2 : decode cX10_call 2 = .ok (.invokevirtual 163, 3) := by decide +kernel
theorem dX10_call_5 : decode cX10_call 5 = .ok (.iload_n 2, 1) := by decide +kernel
theorem dX10_call_6 : decode cX10_call 6 = .ok (.invokestatic 166, 3) := by decide +kernel
theorem dX10_call_9 : decode cX10_call 9 = .ok (.aload_n 0, 1) := by decide +kernel
theorem dX10_call_10 : decode cX10_call 10 = .ok (.getfield 35, 3) := by decide +kernel
theorem dX10_call_13 : decode cX10_call 13 = .ok (.iload_n 2, 1) := by decide +kernel
theorem dX10_call_14 : decode cX10_call 14 = .ok (.invokevirtual 260, 3) := by decide +kernel
theorem dX10_call_17 : decode cX10_call 17 = .ok (.astore 4, 2) := by decide +kernel
theorem dX10_call_19 : decode cX10_call 19 = .ok (.aload 4, 2) := by decide +kernel
theorem dX10_call_21 : decode cX10_call 21 = .ok (.iload_n 1, 1) := by decide +kernel
theorem dX10_call_22 : decode cX10_call 22 = .ok (.invokevirtual 264, 3) := by decide +kernel
theorem dX10_call_25 : decode cX10_call 25 = .ok (.ifCond .ne 7, 3) := by decide +kernel
theorem dX10_call_28 : decode cX10_call 28 = .ok (.sipush (-10000), 3) := by decide +kernel
theorem dX10_call_31 : decode cX10_call 31 = .ok (.ireturn, 1) := by decide +kernel
theorem dX10_call_32 : decode cX10_call 32 = .ok (.iload_n 3, 1) := by decide +kernel
theorem dX10_call_33 : decode cX10_call 33 = .ok (.ifCond .eq 13, 3) := by decide +kernel
theorem dX10_call_36 : decode cX10_call 36 = .ok (.aload 4, 2) := by decide +kernel
theorem dX10_call_38 : decode cX10_call 38 = .ok (.getfield 269, 3) := by decide +kernel
theorem dX10_call_41 : decode cX10_call 41 = .ok (.iload_n 1, 1) := by decide +kernel
theorem dX10_call_42 : decode cX10_call 42 = .ok (.iaload, 1) := by decide +kernel
theorem dX10_call_43 : decode cX10_call 43 = .ok (.goto 10, 3) := by decide +kernel
theorem dX10_call_46 : decode cX10_call 46 = .ok (.aload 4, 2) := by decide +kernel
theorem dX10_call_48 : decode cX10_call 48 = .ok (.getfield 272, 3) := by decide +kernel
theorem dX10_call_51 : decode cX10_call 51 = .ok (.iload_n 1, 1) := by decide +kernel
theorem dX10_call_52 : decode cX10_call 52 = .ok (.iaload, 1) := by decide +kernel
theorem dX10_call_53 : decode cX10_call 53 = .ok (.ireturn, 1) := by decide +kernel
theorem dX10_shoot_0 : decode cX10_shoot 0 = .ok (.aload_n 0, 1) := by decide +kernel
theorem dX10_shoot_1 : decode cX10_shoot 1 = .ok (.iload_n 1, 1) := by decide +kernel
theorem dX10_shoot_2 : decode cX10_shoot 2 = .ok (.invokevirtual 57, 3) := by decide +kernel
theorem dX10_shoot_5 : decode cX10_shoot 5 = .ok (.iload_n 2, 1) := by decide +kernel
theorem dX10_shoot_6 : decode cX10_shoot 6 = .ok (.iconst 1, 1) := by decide +kernel
theorem dX10_shoot_7 : decode cX10_shoot 7 = .ok (.sipush 1000, 3) := by decide +kernel
theorem dX10_shoot_10 : decode cX10_shoot 10 = .ok (.invokestatic 64, 3) := by decide +kernel
theorem dX10_shoot_13 : decode cX10_shoot 13 = .ok (.aload_n 0, 1) := by decide +kernel
theorem dX10_shoot_14 : decode cX10_shoot 14 = .ok (.getfield 10, 3) := by decide +kernel
theorem dX10_shoot_17 : decode cX10_shoot 17 = .ok (.getfield 96, 3) := by decide +kernel
theorem dX10_shoot_20 : decode cX10_shoot 20 = .ok (.iload_n 1, 1) := by decide +kernel
theorem dX10_shoot_21 : decode cX10_shoot 21 = .ok (.aaload, 1) := by decide +kernel
theorem dX10_shoot_22 : decode cX10_shoot 22 = .ok (.astore_n 3, 1) := by decide +kernel
theorem dX10_shoot_23 : decode cX10_shoot 23 = .ok (.aload_n 3, 1) := by decide +kernel
theorem dX10_shoot_24 : decode cX10_shoot 24 = .ok (.getfield 231, 3) := by decide +kernel
theorem dX10_shoot_27 : decode cX10_shoot 27 = .ok (.aload_n 0, 1) := by decide +kernel
theorem dX10_shoot_28 : decode cX10_shoot 28 = .ok (.getfield 35, 3) := by decide +kernel
theorem dX10_shoot_31 : decode cX10_shoot 31 = .ok (.getfield 212, 3) := by decide +kernel
theorem dX10_shoot_34 : decode cX10_shoot 34 = .ok (.if_icmp .ne 10, 3) := by decide +kernel
theorem dX10_shoot_37 : decode cX10_shoot 37 = .ok (.aload_n 3, 1) := by decide +kernel
theorem dX10_shoot_38 : decode cX10_shoot 38 = .ok (.getfield 105, 3) := by decide +kernel
theorem dX10_shoot_41 : decode cX10_shoot 41 = .ok (.ifCond .eq 14, 3) := by decide +kernel
theorem dX10_shoot_44 : decode cX10_shoot 44 = .ok (.new 72, 3) := by decide +kernel
theorem dX10_shoot_47 : decode cX10_shoot 47 = .ok (.dup, 1) := by decide +kernel
theorem dX10_shoot_48 : decode cX10_shoot 48 = .ok (.ldc_w 275, 3) := by decide +kernel
theorem dX10_shoot_51 : decode cX10_shoot 51 = .ok (.invokespecial 76, 3) := by decide +kernel
theorem dX10_shoot_54 : decode cX10_shoot 54 = .ok (.athrow, 1) := by decide +kernel
theorem dX10_shoot_55 : decode cX10_shoot 55 = .ok (.aload_n 3, 1) := by decide +kernel
theorem dX10_shoot_56 : decode cX10_shoot 56 = .ok (.iload_n 2, 1) := by decide +kernel
theorem dX10_shoot_57 : decode cX10_shoot 57 = .ok (.invokevirtual 277, 3) := by decide +kernel
theorem dX10_shoot_60 : decode cX10_shoot 60 = .ok (.aload_n 0, 1) := by decide +kernel
theorem dX10_shoot_61 : decode cX10_shoot 61 = .ok (.getfield 35, 3) := by decide +kernel
theorem dX10_shoot_64 : decode cX10_shoot 64 = .ok (.getfield 280, 3) := by decide +kernel
theorem dX10_shoot_67 : decode cX10_shoot 67 = .ok (.iload_n 2, 1) := by decide +kernel
theorem dX10_shoot_68 : decode cX10_shoot 68 = .ok (.aload_n 3, 1) := by decide +kernel
theorem dX10_shoot_69 : decode cX10_shoot 69 = .ok (.getfield 284, 3) := by decide +kernel
theorem dX10_shoot_72 : decode cX10_shoot 72 = .ok (.invokevirtual 287, 3) := by decide +kernel
theorem dX10_shoot_75 : decode cX10_shoot 75 = .ok (.ireturn, 1) := by decide +kernel
theorem dX10_lose_0 : decode cX10_lose 0 = .ok (.aload_n 0, 1) := by decide +kernel
theorem dX10_lose_1 : decode cX10_lose 1 = .ok (.iload_n 1, 1) := by decide +kernel
theorem dX10_lose_2 : decode cX10_lose 2 = .ok (.invokevirtual 57, 3) := by decide +kernel
theorem dX10_lose_5 : decode cX10_lose 5 = .ok (.aload_n 0, 1) := by decide +kernel
theorem dX10_lose_6 : decode cX10_lose 6 = .ok (.getfield 10, 3) := by decide +kernel
theorem dX10_lose_9 : decode cX10_lose 9 = .ok (.getfield 96, 3) := by decide +kernel
theorem dX10_lose_12 : decode cX10_lose 12 = .ok (.iload_n 1, 1) := by decide +kernel
theorem dX10_lose_13 : decode cX10_lose 13 = .ok (.aaload, 1) := by decide +kernel
theorem dX10_lose_14 : decode cX10_lose 14 = .ok (.astore_n 2, 1) := by decide +kernel
theorem dX10_lose_15 : decode cX10_lose 15 = .ok (.aload_n 2, 1) := by decide +kernel
theorem dX10_lose_16 : decode cX10_lose 16 = .ok (.getfield 105, 3) := by decide +kernel
theorem dX10_lose_19 : decode cX10_lose 19 = .ok (.ifCond .ne 14, 3) := by decide +kernel
theorem dX10_lose_22 : decode cX10_lose 22 = .ok (.new 72, 3) := by decide +kernel
theorem dX10_lose_25 : decode cX10_lose 25 = .ok (.dup, 1) := by decide +kernel
theorem dX10_lose_26 : decode cX10_lose 26 = .ok (.ldc_w 293, 3) := by decide +kernel
theorem dX10_lose_29 : decode cX10_lose 29 = .ok (.invokespecial 76, 3) := by decide +kernel
theorem dX10_lose_32 : decode cX10_lose 32 = .ok (.athrow, 1) := by decide +kernel
theorem dX10_lose_33 : decode cX10_lose 33 = .ok (.aload_n 2, 1) := by decide +kernel
theorem dX10_lose_34 : decode cX10_lose 34 = .ok (.iconst 0, 1) := by decide +kernel
theorem dX10_lose_35 : decode cX10_lose 35 = .ok (.putfield 105, 3) := by decide +kernel
theorem dX10_lose_38 : decode cX10_lose 38 = .ok (.aload_n 2, 1) := by decide +kernel
theorem dX10_lose_39 : decode cX10_lose 39 = .ok (.iconst 1, 1) := by decide +kernel
theorem dX10_lose_40 : decode cX10_lose 40 = .ok (.putfield 295, 3) := by decide +kernel
theorem dX10_lose_43 : decode cX10_lose 43 = .ok (.aload_n 0, 1) := by decide +kernel
theorem dX10_lose_44 : decode cX10_lose 44 = .ok (.getfield 35, 3) := by decide +kernel
theorem dX10_lose_47 : decode cX10_lose 47 = .ok (.iload_n 1, 1) := by decide +kernel
theorem dX10_lose_48 : decode cX10_lose 48 = .ok (.invokevirtual 110, 3) := by decide +kernel
theorem dX10_lose_51 : decode cX10_lose 51 = .ok (.aload_n 0, 1) := by decide +kernel
theorem dX10_lose_52 : decode cX10_lose 52 = .ok (.getfield 10, 3) := by decide +kernel
theorem dX10_lose_55 : decode cX10_lose 55 = .ok (.iconst 3, 1) := by decide +kernel
theorem dX10_lose_56 : decode cX10_lose 56 = .ok (.invokevirtual 113, 3) := by decide +kernel
theorem dX10_lose_59 : decode cX10_lose 59 = .ok (.ireturn, 1) := by decide +kernel
theorem dX10_next_0 : decode cX10_next 0 = .ok (.aload_n 0, 1) := by decide +kernel
theorem dX10_next_1 : decode cX10_next 1 = .ok (.getfield 35, 3) := by decide +kernel
theorem dX10_next_4 : decode cX10_next 4 = .ok (.getfield 212, 3) := by decide +kernel
theorem dX10_next_7 : decode cX10_next 7 = .ok (.bipush 29, 2) := by decide +kernel
theorem dX10_next_9 : decode cX10_next 9 = .ok (.if_icmp .lt 14, 3) := by decide +kernel
theorem dX10_next_12 : decode cX10_next 12 = .ok (.new 72, 3) := by decide +kernel
theorem dX10_next_15 : decode cX10_next 15 = .ok (.dup, 1) := by decide +kernel
theorem dX10_next_16 : decode cX10_next 16 = .ok (.ldc_w 298, 3) := by decide +kernel
theorem dX10_next_19 : decode cX10_next 19 = .ok (.invokespecial 76, 3) := by decide +kernel
theorem dX10_next_22 : decode cX10_next 22 = .ok (.athrow, 1) := by decide +kernel
theorem dX10_next_23 : decode cX10_next 23 = .ok (.aload_n 0, 1) := by decide +kernel
theorem dX10_next_24 : decode cX10_next 24 = .ok (.getfield 35, 3) := by decide +kernel
theorem dX10_next_27 : decode cX10_next 27 = .ok (.invokevirtual 300, 3) := by decide +kernel
theorem dX10_next_30 : decode cX10_next 30 = .ok (.aload_n 0, 1) := by decide +kernel
theorem dX10_next_31 : decode cX10_next 31 = .ok (.getfield 10, 3) := by decide +kernel
theorem dX10_next_34 : decode cX10_next 34 = .ok (.iconst 3, 1) := by decide +kernel
theorem dX10_next_35 : decode cX10_next 35 = .ok (.invokevirtual 113, 3) := by decide +kernel
theorem dX10_next_38 : decode cX10_next 38 = .ok (.ireturn, 1) := by decide +kernel
theorem dX10_pay_0 : decode cX10_pay 0 = .ok (.aload_n 0, 1) := by decide +kernel
theorem dX10_pay_1 : decode cX10_pay 1 = .ok (.iload_n 1, 1) := by decide +kernel
theorem dX10_pay_2 : decode cX10_pay 2 = .ok (.invokevirtual 163, 3) := by decide +kernel
theorem dX10_pay_5 : decode cX10_pay 5 = .ok (.aload_n 0, 1) := by decide +kernel
theorem dX10_pay_6 : decode cX10_pay 6 = .ok (.getfield 53, 3) := by decide +kernel
theorem dX10_pay_9 : decode cX10_pay 9 = .ok (.iload_n 1, 1) := by decide +kernel
theorem dX10_pay_10 : decode cX10_pay 10 = .ok (.iload_n 2, 1) := by decide +kernel
theorem dX10_pay_11 : decode cX10_pay 11 = .ok (.invokevirtual 303, 3) := by decide +kernel
theorem dX10_pay_14 : decode cX10_pay 14 = .ok (.ireturn, 1) := by decide +kernel
theorem dX10_cost_0 : decode cX10_cost 0 = .ok (.aload_n 0, 1) := by decide +kernel
theorem dX10_cost_1 : decode cX10_cost 1 = .ok (.getfield 53, 3) := by decide +kernel
theorem dX10_cost_4 : decode cX10_cost 4 = .ok (.invokevirtual 306, 3) := by decide +kernel
theorem dX10_cost_7 : decode cX10_cost 7 = .ok (.ireturn, 1) := by decide +kernel
theorem dX10_checkScene_0 : decode cX10_checkScene 0 = .ok (.iload_n 1, 1) := by decide +kernel
theorem dX10_checkScene_1 : decode cX10_checkScene 1 = .ok (.aload_n 0, 1) := by decide +kernel
theorem dX10_checkScene_2 : decode cX10_checkScene 2 = .ok (.getfield 10, 3) := by decide +kernel
theorem dX10_checkScene_5 : decode cX10_checkScene 5 = .ok (.getfield 92, 3) := by decide +kernel
theorem dX10_checkScene_8 : decode cX10_checkScene 8 = .ok (.invokestatic 131, 3) := by decide +kernel
theorem dX10_checkScene_11 : decode cX10_checkScene 11 = .ok (.return_, 1) := by decide +kernel
theorem dX10_checkPerson_0 : decode cX10_checkPerson 0 = .ok (.iload_n 1, 1) := by decide +kernel
theorem dX10_checkPerson_1 : decode cX10_checkPerson 1 = .ok (.aload_n 0, 1) := by decide +kernel
theorem dX10_checkPerson_2 : decode cX10_checkPerson 2 = .ok (.getfield 19, 3) := by decide +kernel
theorem dX10_checkPerson_5 : decode cX10_checkPerson 5 = .ok (.getfield 120, 3) := by decide +kernel
theorem dX10_checkPerson_8 : decode cX10_checkPerson 8 = .ok (.invokestatic 131, 3) := by decide +kernel
theorem dX10_checkPerson_11 : decode cX10_checkPerson 11 = .ok (.return_, 1) := by decide +kernel
theorem dX10_checkPlace_0 : decode cX10_checkPlace 0 = .ok (.iload_n 1, 1) := by decide +kernel
theorem dX10_checkPlace_1 : decode cX10_checkPlace 1 = .ok (.aload_n 0, 1) := by decide +kernel
theorem dX10_checkPlace_2 : decode cX10_checkPlace 2 = .ok (.getfield 26, 3) := by decide +kernel
theorem dX10_checkPlace_5 : decode cX10_checkPlace 5 = .ok (.getfield 173, 3) := by decide +kernel
theorem dX10_checkPlace_8 : decode cX10_checkPlace 8 = .ok (.invokestatic 131, 3) := by decide +kernel
theorem dX10_checkPlace_11 : decode cX10_checkPlace 11 = .ok (.return_, 1) := by decide +kernel
theorem dX10_checkDay_0 : decode cX10_checkDay 0 = .ok (.iload_n 0, 1) := by decide +kernel
theorem dX10_checkDay_1 : decode cX10_checkDay 1 = .ok (.bipush 30, 2) := by decide +kernel
theorem dX10_checkDay_3 : decode cX10_checkDay 3 = .ok (.invokestatic 131, 3) := by decide +kernel
theorem dX10_checkDay_6 : decode cX10_checkDay 6 = .ok (.return_, 1) := by decide +kernel
theorem dX10_checkIndex_0 : decode cX10_checkIndex 0 = .ok (.iload_n 0, 1) := by decide +kernel
theorem dX10_checkIndex_1 : decode cX10_checkIndex 1 = .ok (.ifCond .lt 8, 3) := by decide +kernel
theorem dX10_checkIndex_4 : decode cX10_checkIndex 4 = .ok (.iload_n 0, 1) := by decide +kernel
theorem dX10_checkIndex_5 : decode cX10_checkIndex 5 = .ok (.iload_n 1, 1) := by decide +kernel
theorem dX10_checkIndex_6 : decode cX10_checkIndex 6 = .ok (.if_icmp .lt 14, 3) := by decide +kernel
theorem dX10_checkIndex_9 : decode cX10_checkIndex 9 = .ok (.new 248, 3) := by decide +kernel
theorem dX10_checkIndex_12 : decode cX10_checkIndex 12 = .ok (.dup, 1) := by decide +kernel
theorem dX10_checkIndex_13 : decode cX10_checkIndex 13 = .ok (.ldc_w 309, 3) := by decide +kernel
theorem dX10_checkIndex_16 : decode cX10_checkIndex 16 = .ok (.invokespecial 252, 3) := by decide +kernel
theorem dX10_checkIndex_19 : decode cX10_checkIndex 19 = .ok (.athrow, 1) := by decide +kernel
theorem dX10_checkIndex_20 : decode cX10_checkIndex 20 = .ok (.return_, 1) := by decide +kernel
theorem dX10_checkRange_0 : decode cX10_checkRange 0 = .ok (.iload_n 0, 1) := by decide +kernel
theorem dX10_checkRange_1 : decode cX10_checkRange 1 = .ok (.iload_n 1, 1) := by decide +kernel
theorem dX10_checkRange_2 : decode cX10_checkRange 2 = .ok (.if_icmp .lt 8, 3) := by decide +kernel
theorem dX10_checkRange_5 : decode cX10_checkRange 5 = .ok (.iload_n 0, 1) := by decide +kernel
theorem dX10_checkRange_6 : decode cX10_checkRange 6 = .ok (.iload_n 2, 1) := by decide +kernel
theorem dX10_checkRange_7 : decode cX10_checkRange 7 = .ok (.if_icmp .le 14, 3) := by decide +kernel
theorem dX10_checkRange_10 : decode cX10_checkRange 10 = .ok (.new 181, 3) := by decide +kernel
theorem dX10_checkRange_13 : decode cX10_checkRange 13 = .ok (.dup, 1) := by decide +kernel
theorem dX10_checkRange_14 : decode cX10_checkRange 14 = .ok (.ldc_w 311, 3) := by decide +kernel
theorem dX10_checkRange_17 : decode cX10_checkRange 17 = .ok (.invokespecial 185, 3) := by decide +kernel
theorem dX10_checkRange_20 : decode cX10_checkRange 20 = .ok (.athrow, 1) := by decide +kernel
theorem dX10_checkRange_21 : decode cX10_checkRange 21 = .ok (.return_, 1) := by decide +kernel
theorem dX10_hasBit_0 : decode cX10_hasBit 0 = .ok (.iload_n 0, 1) := by decide +kernel
theorem dX10_hasBit_1 : decode cX10_hasBit 1 = .ok (.iload_n 1, 1) := by decide +kernel
theorem dX10_hasBit_2 : decode cX10_hasBit 2 = .ok (.ishr, 1) := by decide +kernel
theorem dX10_hasBit_3 : decode cX10_hasBit 3 = .ok (.iconst 1, 1) := by decide +kernel
theorem dX10_hasBit_4 : decode cX10_hasBit 4 = .ok (.iand, 1) := by decide +kernel
theorem dX10_hasBit_5 : decode cX10_hasBit 5 = .ok (.ifCond .eq 7, 3) := by decide +kernel
theorem dX10_hasBit_8 : decode cX10_hasBit 8 = .ok (.iconst 1, 1) := by decide +kernel
theorem dX10_hasBit_9 : decode cX10_hasBit 9 = .ok (.goto 4, 3) := by decide +kernel
theorem dX10_hasBit_12 : decode cX10_hasBit 12 = .ok (.iconst 0, 1) := by decide +kernel
theorem dX10_hasBit_13 : decode cX10_hasBit 13 = .ok (.ireturn, 1) := by decide +kernel
theorem dX10_withBit_0 : decode cX10_withBit 0 = .ok (.iload_n 2, 1) := by decide +kernel
theorem dX10_withBit_1 : decode cX10_withBit 1 = .ok (.ifCond .eq 11, 3) := by decide +kernel
theorem dX10_withBit_4 : decode cX10_withBit 4 = .ok (.iload_n 0, 1) := by decide +kernel
theorem dX10_withBit_5 : decode cX10_withBit 5 = .ok (.iconst 1, 1) := by decide +kernel
theorem dX10_withBit_6 : decode cX10_withBit 6 = .ok (.iload_n 1, 1) := by decide +kernel
theorem dX10_withBit_7 : decode cX10_withBit 7 = .ok (.ishl, 1) := by decide +kernel
theorem dX10_withBit_8 : decode cX10_withBit 8 = .ok (.ior, 1) := by decide +kernel
theorem dX10_withBit_9 : decode cX10_withBit 9 = .ok (.goto 10, 3) := by decide +kernel
theorem dX10_withBit_12 : decode cX10_withBit 12 = .ok (.iload_n 0, 1) := by decide +kernel
theorem dX10_withBit_13 : decode cX10_withBit 13 = .ok (.iconst 1, 1) := by decide +kernel
theorem dX10_withBit_14 : decode cX10_withBit 14 = .ok (.iload_n 1, 1) := by decide +kernel
theorem dX10_withBit_15 : decode cX10_withBit 15 = .ok (.ishl, 1) := by decide +kernel
theorem dX10_withBit_16 : decode cX10_withBit 16 = .ok (.iconst (-1), 1) := by decide +kernel
theorem dX10_withBit_17 : decode cX10_withBit 17 = .ok (.ixor, 1) := by decide +kernel
theorem dX10_withBit_18 : decode cX10_withBit 18 = .ok (.iand, 1) := by decide +kernel
theorem dX10_withBit_19 : decode cX10_withBit 19 = .ok (.ireturn, 1) := by decide +kernel
theorem dX11_init_0 : decode cX11_init 0 = .ok (.aload_n 0, 1) := by decide +kernel
theorem dX11_init_1 : decode cX11_init 1 = .ok (.invokespecial 1, 3) := by decide +kernel
theorem dX11_init_4 : decode cX11_init 4 = .ok (.aload_n 0, 1) := by decide +kernel
theorem dX11_init_5 : decode cX11_init 5 = .ok (.bipush 20, 2) := by decide +kernel
theorem dX11_init_7 : decode cX11_init 7 = .ok (.newarray .int, 2) := by decide +kernel
theorem dX11_init_9 : decode cX11_init 9 = .ok (.putfield 7, 3) := by decide +kernel
theorem dX11_init_12 : decode cX11_init 12 = .ok (.aload_n 0, 1) := by decide +kernel
theorem dX11_init_13 : decode cX11_init 13 = .ok (.bipush 20, 2) := by decide +kernel
theorem dX11_init_15 : decode cX11_init 15 = .ok (.newarray .int, 2) := by decide +kernel
theorem dX11_init_17 : decode cX11_init 17 = .ok (.putfield 13, 3) := by decide +kernel
theorem dX11_init_20 : decode cX11_init 20 = .ok (.aload_n 0, 1) := by decide +kernel
theorem dX11_init_21 : decode cX11_init 21 = .ok (.bipush 20, 2) := by decide +kernel
theorem dX11_init_23 : decode cX11_init 23 = .ok (.newarray .int, 2) := by decide +kernel
theorem dX11_init_25 : decode cX11_init 25 = .ok (.putfield 16, 3) := by decide +kernel
theorem dX11_init_28 : decode cX11_init 28 = .ok (.aload_n 0, 1) := by decide +kernel
theorem dX11_init_29 : decode cX11_init 29 = .ok (.bipush 20, 2) := by decide +kernel
theorem dX11_init_31 : decode cX11_init 31 = .ok (.newarray .int, 2) := by decide +kernel
theorem dX11_init_33 : decode cX11_init 33 = .ok (.putfield 19, 3) := by decide +kernel
theorem dX11_init_36 : decode cX11_init 36 = .ok (.aload_n 0, 1) := by decide +kernel
theorem dX11_init_37 : decode cX11_init 37 = .ok (.bipush 20, 2) := by decide +kernel
theorem dX11_init_39 : decode cX11_init 39 = .ok (.newarray .boolean, 2) := by decide +kernel
theorem dX11_init_41 : decode cX11_init 41 = .ok (.putfield 22, 3) := by decide +kernel
theorem dX11_init_44 : decode cX11_init 44 = .ok (.aload_n 0, 1) := by decide +kernel
theorem dX11_init_45 : decode cX11_init 45 = .ok (.bipush 20, 2) := by decide +kernel
theorem dX11_init_47 : decode cX11_init 47 = .ok (.newarray .boolean, 2) := by decide +kernel
theorem dX11_init_49 : decode cX11_init 49 = .ok (.putfield 26, 3) := by decide +kernel
theorem dX11_init_52 : decode cX11_init 52 = .ok (.aload_n 0, 1) := by decide +kernel
theorem dX11_init_53 : decode cX11_init 53 = .ok (.bipush 20, 2) := by decide +kernel
theorem dX11_init_55 : decode cX11_init 55 = .ok (.newarray .int, 2) := by decide +kernel
theorem dX11_init_57 : decode cX11_init 57 = .ok (.putfield 29, 3) := by decide +kernel
theorem dX11_init_60 : decode cX11_init 60 = .ok (.aload_n 0, 1) := by decide +kernel
theorem dX11_init_61 : decode cX11_init 61 = .ok (.bipush 20, 2) := by decide +kernel
theorem dX11_init_63 : decode cX11_init 63 = .ok (.newarray .int, 2) := by decide +kernel
theorem dX11_init_65 : decode cX11_init 65 = .ok (.putfield 32, 3) := by decide +kernel
theorem dX11_init_68 : decode cX11_init 68 = .ok (.aload_n 0, 1) := by decide +kernel
theorem dX11_init_69 : decode cX11_init 69 = .ok (.bipush 80, 2) := by decide +kernel
theorem dX11_init_71 : decode cX11_init 71 = .ok (.newarray .int, 2) := by decide +kernel
theorem dX11_init_73 : decode cX11_init 73 = .ok (.putfield 35, 3) := by decide +kernel
theorem dX11_init_76 : decode cX11_init 76 = .ok (.aload_n 0, 1) := by decide +kernel
theorem dX11_init_77 : decode cX11_init 77 = .ok (.bipush 80, 2) := by decide +kernel
theorem dX11_init_79 : decode cX11_init 79 = .ok (.newarray .int, 2) := by decide +kernel
theorem dX11_init_81 : decode cX11_init 81 = .ok (.putfield 38, 3) := by decide +kernel
theorem dX11_init_84 : decode cX11_init 84 = .ok (.aload_n 0, 1) := by decide +kernel
theorem dX11_init_85 : decode cX11_init 85 = .ok (.bipush 20, 2) := by decide +kernel
theorem dX11_init_87 : decode cX11_init 87 = .ok (.newarray .int, 2) := by decide +kernel
theorem dX11_init_89 : decode cX11_init 89 = .ok (.putfield 41, 3) := by decide +kernel
theorem dX11_init_92 : decode cX11_init 92 = .ok (.aload_n 0, 1) := by decide +kernel
theorem dX11_init_93 : decode cX11_init 93 = .ok (.bipush 20, 2) := by decide +kernel
theorem dX11_init_95 : decode cX11_init 95 = .ok (.newarray .boolean, 2) := by decide +kernel
theorem dX11_init_97 : decode cX11_init 97 = .ok (.putfield 44, 3) := by decide +kernel
theorem dX11_init_100 : decode cX11_init 100 = .ok (.aload_n 0, 1) := by decide +kernel
theorem dX11_init_101 : decode cX11_init 101 = .ok (.bipush 20, 2) := by decide +kernel
theorem dX11_init_103 : decode cX11_init 103 = .ok (.newarray .boolean, 2) := by decide +kernel
theorem dX11_init_105 : decode cX11_init 105 = .ok (.putfield 47, 3) := by decide +kernel
theorem dX11_init_108 : decode cX11_init 108 = .ok (.aload_n 0, 1) := by decide +kernel
theorem dX11_init_109 : decode cX11_init 109 = .ok (.bipush 20, 2) := by decide +kernel
theorem dX11_init_111 : decode cX11_init 111 = .ok (.newarray .boolean, 2) := by decide +kernel
theorem dX11_init_113 : decode cX11_init 113 = .ok (.putfield 50, 3) := by decide +kernel
theorem dX11_init_116 : decode cX11_init 116 = .ok (.aload_n 0, 1) := by decide +kernel
theorem dX11_init_117 : decode cX11_init 117 = .ok (.bipush 20, 2) := by decide +kernel
theorem dX11_init_119 : decode cX11_init 119 = .ok (.newarray .int, 2) := by decide +kernel
theorem dX11_init_121 : decode cX11_init 121 = .ok (.putfield 53, 3) := by decide +kernel
theorem dX11_init_124 : decode cX11_init 124 = .ok (.aload_n 0, 1) := by decide +kernel
theorem dX11_init_125 : decode cX11_init 125 = .ok (.bipush 20, 2) := by decide +kernel
theorem dX11_init_127 : decode cX11_init 127 = .ok (.newarray .int, 2) := by decide +kernel
theorem dX11_init_129 : decode cX11_init 129 = .ok (.putfield 56, 3) := by decide +kernel
theorem dX11_init_132 : decode cX11_init 132 = .ok (.aload_n 0, 1) := by decide +kernel
theorem dX11_init_133 : decode cX11_init 133 = .ok (.bipush 8, 2) := by decide +kernel
theorem dX11_init_135 : decode cX11_init 135 = .ok (.newarray .int, 2) := by decide +kernel
theorem dX11_init_137 : decode cX11_init 137 = .ok (.putfield 59, 3) := by decide +kernel
theorem dX11_init_140 : decode cX11_init 140 = .ok (.aload_n 0, 1) := by decide +kernel
theorem dX11_init_141 : decode cX11_init 141 = .ok (.bipush 8, 2) := by decide +kernel
theorem dX11_init_143 : decode cX11_init 143 = .ok (.newarray .int, 2) := by decide +kernel
theorem dX11_init_145 : decode cX11_init 145 = .ok (.putfield 62, 3) := by decide +kernel
theorem dX11_init_148 : decode cX11_init 148 = .ok (.aload_n 0, 1) := by decide +kernel
theorem dX11_init_149 : decode cX11_init 149 = .ok (.bipush 8, 2) := by decide +kernel
theorem dX11_init_151 : decode cX11_init 151 = .ok (.newarray .int, 2) := by decide +kernel
theorem dX11_init_153 : decode cX11_init 153 = .ok (.putfield 65, 3) := by decide +kernel
theorem dX11_init_156 : decode cX11_init 156 = .ok (.aload_n 0, 1) := by decide +kernel
theorem dX11_init_157 : decode cX11_init 157 = .ok (.bipush 8, 2) := by decide +kernel
theorem dX11_init_159 : decode cX11_init 159 = .ok (.newarray .boolean, 2) := by decide +kernel
theorem dX11_init_161 : decode cX11_init 161 = .ok (.putfield 68, 3) := by decide +kernel
theorem dX11_init_164 : decode cX11_init 164 = .ok (.aload_n 0, 1) := by decide +kernel
theorem dX11_init_165 : decode cX11_init 165 = .ok (.bipush 8, 2) := by decide +kernel
theorem dX11_init_167 : decode cX11_init 167 = .ok (.newarray .int, 2) := by decide +kernel
theorem dX11_init_169 : decode cX11_init 169 = .ok (.putfield 71, 3) := by decide +kernel
theorem dX11_init_172 : decode cX11_init 172 = .ok (.aload_n 0, 1) := by decide +kernel
theorem dX11_init_173 : decode cX11_init 173 = .ok (.bipush 6, 2) := by decide +kernel
theorem dX11_init_175 : decode cX11_init 175 = .ok (.newarray .int, 2) := by decide +kernel
theorem dX11_init_177 : decode cX11_init 177 = .ok (.putfield 74, 3) := by decide +kernel
theorem dX11_init_180 : decode cX11_init 180 = .ok (.aload_n 0, 1) := by decide +kernel
theorem dX11_init_181 : decode cX11_init 181 = .ok (.bipush 6, 2) := by decide +kernel
theorem dX11_init_183 : decode cX11_init 183 = .ok (.newarray .int, 2) := by decide +kernel
theorem dX11_init_185 : decode cX11_init 185 = .ok (.putfield 77, 3) := by decide +kernel
theorem dX11_init_188 : decode cX11_init 188 = .ok (.aload_n 0, 1) := by decide +kernel
theorem dX11_init_189 : decode cX11_init 189 = .ok (.bipush 36, 2) := by decide +kernel
theorem dX11_init_191 : decode cX11_init 191 = .ok (.newarray .int, 2) := by decide +kernel
theorem dX11_init_193 : decode cX11_init 193 = .ok (.putfield 80, 3) := by decide +kernel
theorem dX11_init_196 : decode cX11_init 196 = .ok (.aload_n 0, 1) := by decide +kernel
theorem dX11_init_197 : decode cX11_init 197 = .ok (.bipush 30, 2) := by decide +kernel
theorem dX11_init_199 : decode cX11_init 199 = .ok (.newarray .int, 2) := by decide +kernel
theorem dX11_init_201 : decode cX11_init 201 = .ok (.putfield 83, 3) := by decide +kernel
theorem dX11_init_204 : decode cX11_init 204 = .ok (.aload_n 0, 1) := by decide +kernel
theorem dX11_init_205 : decode cX11_init 205 = .ok (.bipush 30, 2) := by decide +kernel
theorem dX11_init_207 : decode cX11_init 207 = .ok (.newarray .int, 2) := by decide +kernel
theorem dX11_init_209 : decode cX11_init 209 = .ok (.putfield 86, 3) := by decide +kernel
theorem dX11_init_212 : decode cX11_init 212 = .ok (.aload_n 0, 1) := by decide +kernel
theorem dX11_init_213 : decode cX11_init 213 = .ok (.bipush 30, 2) := by decide +kernel
theorem dX11_init_215 : decode cX11_init 215 = .ok (.newarray .int, 2) := by decide +kernel
theorem dX11_init_217 : decode cX11_init 217 = .ok (.putfield 89, 3) := by decide +kernel
theorem dX11_init_220 : decode cX11_init 220 = .ok (.aload_n 0, 1) := by decide +kernel
theorem dX11_init_221 : decode cX11_init 221 = .ok (.sipush 240, 3) := by decide +kernel
theorem dX11_init_224 : decode cX11_init 224 = .ok (.newarray .int, 2) := by decide +kernel
theorem dX11_init_226 : decode cX11_init 226 = .ok (.putfield 92, 3) := by decide +kernel
theorem dX11_init_229 : decode cX11_init 229 = .ok (.aload_n 0, 1) := by decide +kernel
theorem dX11_init_230 : decode cX11_init 230 = .ok (.bipush 30, 2) := by decide +kernel
theorem dX11_init_232 : decode cX11_init 232 = .ok (.newarray .int, 2) := by decide +kernel
theorem dX11_init_234 : decode cX11_init 234 = .ok (.putfield 95, 3) := by decide +kernel
theorem dX11_init_237 : decode cX11_init 237 = .ok (.aload_n 0, 1) := by decide +kernel
theorem dX11_init_238 : decode cX11_init 238 = .ok (.iconst 4, 1) := by decide +kernel
theorem dX11_init_239 : decode cX11_init 239 = .ok (.newarray .int, 2) := by decide +kernel
theorem dX11_init_241 : decode cX11_init 241 = .ok (.putfield 98, 3) := by decide +kernel
theorem dX11_init_244 : decode cX11_init 244 = .ok (.aload_n 0, 1) := by decide +kernel
theorem dX11_init_245 : decode cX11_init 245 = .ok (.bipush 8, 2) := by decide +kernel
theorem dX11_init_247 : decode cX11_init 247 = .ok (.newarray .int, 2) := by decide +kernel
theorem dX11_init_249 : decode cX11_init 249 = .ok (.putfield 101, 3) := by decide +kernel
theorem dX11_init_252 : decode cX11_init 252 = .ok (.aload_n 0, 1) := by decide +kernel
theorem dX11_init_253 : decode cX11_init 253 = .ok (.bipush 8, 2) := by decide +kernel
theorem dX11_init_255 : decode cX11_init 255 = .ok (.newarray .int, 2) := by decide +kernel
theorem dX11_init_257 : decode cX11_init 257 = .ok (.putfield 104, 3) := by decide +kernel
theorem dX11_init_260 : decode cX11_init 260 = .ok (.aload_n 0, 1) := by decide +kernel
theorem dX11_init_261 : decode cX11_init 261 = .ok (.bipush 8, 2) := by decide +kernel
theorem dX11_init_263 : decode cX11_init 263 = .ok (.newarray .int, 2) := by decide +kernel
theorem dX11_init_265 : decode cX11_init 265 = .ok (.putfield 107, 3) := by decide +kernel
theorem dX11_init_268 : decode cX11_init 268 = .ok (.iconst 0, 1) := by decide +kernel
theorem dX11_init_269 : decode cX11_init 269 = .ok (.istore_n 1, 1) := by decide +kernel
theorem dX11_init_270 : decode cX11_init 270 = .ok (.iload_n 1, 1) := by decide +kernel
theorem dX11_init_271 : decode cX11_init 271 = .ok (.bipush 30, 2) := by decide +kernel
theorem dX11_init_273 : decode cX11_init 273 = .ok (.if_icmp .ge 36, 3) := by decide +kernel
theorem dX11_init_276 : decode cX11_init 276 = .ok (.aload_n 0, 1) := by decide +kernel
theorem dX11_init_277 : decode cX11_init 277 = .ok (.getfield 83, 3) := by decide +kernel
theorem dX11_init_280 : decode cX11_init 280 = .ok (.iload_n 1, 1) := by decide +kernel
theorem dX11_init_281 : decode cX11_init 281 = .ok (.sipush 480, 3) := by decide +kernel
theorem dX11_init_284 : decode cX11_init 284 = .ok (.iastore, 1) := by decide +kernel
theorem dX11_init_285 : decode cX11_init 285 = .ok (.aload_n 0, 1) := by decide +kernel
theorem dX11_init_286 : decode cX11_init 286 = .ok (.getfield 86, 3) := by decide +kernel
theorem dX11_init_289 : decode cX11_init 289 = .ok (.iload_n 1, 1) := by decide +kernel
theorem dX11_init_290 : decode cX11_init 290 = .ok (.sipush 360, 3) := by decide +kernel
theorem dX11_init_293 : decode cX11_init 293 = .ok (.iastore, 1) := by decide +kernel
theorem dX11_init_294 : decode cX11_init 294 = .ok (.aload_n 0, 1) := by decide +kernel
theorem dX11_init_295 : decode cX11_init 295 = .ok (.getfield 89, 3) := by decide +kernel
theorem dX11_init_298 : decode cX11_init 298 = .ok (.iload_n 1, 1) := by decide +kernel
theorem dX11_init_299 : decode cX11_init 299 = .ok (.sipush 1080, 3) := by decide +kernel
theorem dX11_init_302 : decode cX11_init 302 = .ok (.iastore, 1) := by decide +kernel
theorem dX11_init_303 : decode cX11_init 303 = .ok (.iinc 1 1, 3) := by decide +kernel
theorem dX11_init_306 : decode cX11_init 306 = .ok (.goto (-36), 3) := by decide +kernel
theorem dX11_init_309 : decode cX11_init 309 = .ok (.iconst 0, 1) := by decide +kernel
theorem dX11_init_310 : decode cX11_init 310 = .ok (.istore_n 1, 1) := by decide +kernel
theorem dX11_init_311 : decode cX11_init 311 = .ok (.iload_n 1, 1) := by decide +kernel
theorem dX11_init_312 : decode cX11_init 312 = .ok (.bipush 36, 2) := by decide +kernel
theorem dX11_init_314 : decode cX11_init 314 = .ok (.if_icmp .ge 17, 3) := by decide +kernel
theorem dX11_init_317 : decode cX11_init 317 = .ok (.aload_n 0, 1) := by decide +kernel
theorem dX11_init_318 : decode cX11_init 318 = .ok (.getfield 80, 3) := by decide +kernel
theorem dX11_init_321 : decode cX11_init 321 = .ok (.iload_n 1, 1) := by decide +kernel
theorem dX11_init_322 : decode cX11_init 322 = .ok (.bipush 60, 2) := by decide +kernel
theorem dX11_init_324 : decode cX11_init 324 = .ok (.iastore, 1) := by decide +kernel
theorem dX11_init_325 : decode cX11_init 325 = .ok (.iinc 1 1, 3) := by decide +kernel
theorem dX11_init_328 : decode cX11_init 328 = .ok (.goto (-17), 3) := by decide +kernel
theorem dX11_init_331 : decode cX11_init 331 = .ok (.return_, 1) := by decide +kernel
theorem dX11_thrown_0 : decode cX11_thrown 0 = .ok (.aload_n 0, 1) := by decide +kernel
theorem dX11_thrown_1 : decode cX11_thrown 1 = .ok (.getfield 110, 3) := by decide +kernel
theorem dX11_thrown_4 : decode cX11_thrown 4 = .ok (.ireturn, 1) := by decide +kernel
theorem dX11_goesWell_0 : decode cX11_goesWell 0 = .ok (.aload_n 0, 1) := by decide +kernel
theorem dX11_goesWell_1 : decode cX11_goesWell 1 = .ok (.iload_n 1, 1) := by decide +kernel
theorem dX11_goesWell_2 : decode cX11_goesWell 2 = .ok (.putfield 110, 3) := by decide +kernel
theorem dX11_goesWell_5 : decode cX11_goesWell 5 = .ok (.iload_n 1, 1) := by decide +kernel
theorem dX11_goesWell_6 : decode cX11_goesWell 6 = .ok (.ifCond .ne 7, 3) := by decide +kernel
theorem dX11_goesWell_9 : decode cX11_goesWell 9 = .ok (.iconst 1, 1) := by decide +kernel
theorem dX11_goesWell_10 : decode cX11_goesWell 10 = .ok (.goto 4, 3) := by decide +kernel
theorem dX11_goesWell_13 : decode cX11_goesWell 13 = .ok (.iconst 0, 1) := by decide +kernel
theorem dX11_goesWell_14 : decode cX11_goesWell 14 = .ok (.ireturn, 1) := by decide +kernel
theorem dX11_in_0 : decode cX11_in 0 = .ok (.iload_n 0, 1) := by decide +kernel
theorem dX11_in_1 : decode cX11_in 1 = .ok (.iload_n 1, 1) := by decide +kernel
theorem dX11_in_2 : decode cX11_in 2 = .ok (.if_icmp .lt 12, 3) := by decide +kernel
theorem dX11_in_5 : decode cX11_in 5 = .ok (.iload_n 0, 1) := by decide +kernel
theorem dX11_in_6 : decode cX11_in 6 = .ok (.iload_n 2, 1) := by decide +kernel
theorem dX11_in_7 : decode cX11_in 7 = .ok (.if_icmp .gt 7, 3) := by decide +kernel
theorem dX11_in_10 : decode cX11_in 10 = .ok (.iconst 1, 1) := by decide +kernel
theorem dX11_in_11 : decode cX11_in 11 = .ok (.goto 4, 3) := by decide +kernel
theorem dX11_in_14 : decode cX11_in 14 = .ok (.iconst 0, 1) := by decide +kernel
theorem dX11_in_15 : decode cX11_in 15 = .ok (.ireturn, 1) := by decide +kernel
theorem dX11_has_0 : decode cX11_has 0 = .ok (.iload_n 0, 1) := by decide +kernel
theorem dX11_has_1 : decode cX11_has 1 = .ok (.iload_n 1, 1) := by decide +kernel
theorem dX11_has_2 : decode cX11_has 2 = .ok (.ishr, 1) := by decide +kernel
theorem dX11_has_3 : decode cX11_has 3 = .ok (.iconst 1, 1) := by decide +kernel
theorem dX11_has_4 : decode cX11_has 4 = .ok (.iand, 1) := by decide +kernel
theorem dX11_has_5 : decode cX11_has 5 = .ok (.iconst 1, 1) := by decide +kernel
theorem dX11_has_6 : decode cX11_has 6 = .ok (.if_icmp .ne 7, 3) := by decide +kernel
theorem dX11_has_9 : decode cX11_has 9 = .ok (.iconst 1, 1) := by decide +kernel
theorem dX11_has_10 : decode cX11_has 10 = .ok (.goto 4, 3) := by decide +kernel
theorem dX11_has_13 : decode cX11_has 13 = .ok (.iconst 0, 1) := by decide +kernel
theorem dX11_has_14 : decode cX11_has 14 = .ok (.ireturn, 1) := by decide +kernel
theorem dX11_size_0 : decode cX11_size 0 = .ok (.iconst 0, 1) := by decide +kernel
theorem dX11_size_1 : decode cX11_size 1 = .ok (.istore_n 1, 1) := by decide +kernel
theorem dX11_size_2 : decode cX11_size 2 = .ok (.iconst 0, 1) := by decide +kernel
theorem dX11_size_3 : decode cX11_size 3 = .ok (.istore_n 2, 1) := by decide +kernel
theorem dX11_size_4 : decode cX11_size 4 = .ok (.iload_n 2, 1) := by decide +kernel
theorem dX11_size_5 : decode cX11_size 5 = .ok (.bipush 30, 2) := by decide +kernel
theorem dX11_size_7 : decode cX11_size 7 = .ok (.if_icmp .ge 17, 3) := by decide +kernel
theorem dX11_size_10 : decode cX11_size 10 = .ok (.iload_n 1, 1) := by decide +kernel
theorem dX11_size_11 : decode cX11_size 11 = .ok (.iload_n 0, 1) := by decide +kernel
theorem dX11_size_12 : decode cX11_size 12 = .ok (.iload_n 2, 1) := by decide +kernel
theorem dX11_size_13 : decode cX11_size 13 = .ok (.ishr, 1) := by decide +kernel
theorem dX11_size_14 : decode cX11_size 14 = .ok (.iconst 1, 1) := by decide +kernel
theorem dX11_size_15 : decode cX11_size 15 = .ok (.iand, 1) := by decide +kernel
theorem dX11_size_16 : decode cX11_size 16 = .ok (.iadd, 1) := by decide +kernel
theorem dX11_size_17 : decode cX11_size 17 = .ok (.istore_n 1, 1) := by decide +kernel
theorem dX11_size_18 : decode cX11_size 18 = .ok (.iinc 2 1, 3) := by decide +kernel
theorem dX11_size_21 : decode cX11_size 21 = .ok (.goto (-17), 3) := by decide +kernel
theorem dX11_size_24 : decode cX11_size 24 = .ok (.iload_n 1, 1) := by decide +kernel
theorem dX11_size_25 : decode cX11_size 25 = .ok (.ireturn, 1) := by decide +kernel
theorem dX11_isScene_0 : decode cX11_isScene 0 = .ok (.iload_n 1, 1) := by decide +kernel
theorem dX11_isScene_1 : decode cX11_isScene 1 = .ok (.iconst 0, 1) := by decide +kernel
theorem dX11_isScene_2 : decode cX11_isScene 2 = .ok (.aload_n 0, 1) := by decide +kernel
theorem dX11_isScene_3 : decode cX11_isScene 3 = .ok (.getfield 114, 3) := by decide +kernel
theorem dX11_isScene_6 : decode cX11_isScene 6 = .ok (.iconst 1, 1) := by decide +kernel
theorem dX11_isScene_7 : decode cX11_isScene 7 = .ok (.isub, 1) := by decide +kernel
theorem dX11_isScene_8 : decode cX11_isScene 8 = .ok (.invokestatic 117, 3) := by decide +kernel
theorem dX11_isScene_11 : decode cX11_isScene 11 = .ok (.ireturn, 1) := by decide +kernel
theorem dX11_isPerson_0 : decode cX11_isPerson 0 = .ok (.iload_n 1, 1) := by decide +kernel
theorem dX11_isPerson_1 : decode cX11_isPerson 1 = .ok (.iconst 0, 1) := by decide +kernel
theorem dX11_isPerson_2 : decode cX11_isPerson 2 = .ok (.aload_n 0, 1) := by decide +kernel
theorem dX11_isPerson_3 : decode cX11_isPerson 3 = .ok (.getfield 121, 3) := by decide +kernel
theorem dX11_isPerson_6 : decode cX11_isPerson 6 = .ok (.iconst 1, 1) := by decide +kernel
theorem dX11_isPerson_7 : decode cX11_isPerson 7 = .ok (.isub, 1) := by decide +kernel
theorem dX11_isPerson_8 : decode cX11_isPerson 8 = .ok (.invokestatic 117, 3) := by decide +kernel
theorem dX11_isPerson_11 : decode cX11_isPerson 11 = .ok (.ireturn, 1) := by decide +kernel
theorem dX11_isPlace_0 : decode cX11_isPlace 0 = .ok (.iload_n 1, 1) := by decide +kernel
theorem dX11_isPlace_1 : decode cX11_isPlace 1 = .ok (.iconst 0, 1) := by decide +kernel
theorem dX11_isPlace_2 : decode cX11_isPlace 2 = .ok (.aload_n 0, 1) := by decide +kernel
theorem dX11_isPlace_3 : decode cX11_isPlace 3 = .ok (.getfield 124, 3) := by decide +kernel
theorem dX11_isPlace_6 : decode cX11_isPlace 6 = .ok (.iconst 1, 1) := by decide +kernel
theorem dX11_isPlace_7 : decode cX11_isPlace 7 = .ok (.isub, 1) := by decide +kernel
theorem dX11_isPlace_8 : decode cX11_isPlace 8 = .ok (.invokestatic 117, 3) := by decide +kernel
theorem dX11_isPlace_11 : decode cX11_isPlace 11 = .ok (.ireturn, 1) := by decide +kernel
theorem dX11_isDay_0 : decode cX11_isDay 0 = .ok (.iload_n 0, 1) := by decide +kernel
theorem dX11_isDay_1 : decode cX11_isDay 1 = .ok (.iconst 0, 1) := by decide +kernel
theorem dX11_isDay_2 : decode cX11_isDay 2 = .ok (.bipush 29, 2) := by decide +kernel
theorem dX11_isDay_4 : decode cX11_isDay 4 = .ok (.invokestatic 117, 3) := by decide +kernel
theorem dX11_isDay_7 : decode cX11_isDay 7 = .ok (.ireturn, 1) := by decide +kernel
theorem dX11_placeIn_0 : decode cX11_placeIn 0 = .ok (.iconst 0, 1) := by decide +kernel
theorem dX11_placeIn_1 : decode cX11_placeIn 1 = .ok (.istore_n 2, 1) := by decide +kernel
theorem dX11_placeIn_2 : decode cX11_placeIn 2 = .ok (.aload_n 0, 1) := by decide +kernel
theorem dX11_placeIn_3 : decode cX11_placeIn 3 = .ok (.getfield 7, 3) := by decide +kernel
theorem dX11_placeIn_6 : decode cX11_placeIn 6 = .ok (.iload_n 2, 1) := by decide +kernel
theorem dX11_placeIn_7 : decode cX11_placeIn 7 = .ok (.iaload, 1) := by decide +kernel
theorem dX11_placeIn_8 : decode cX11_placeIn 8 = .ok (.iload_n 1, 1) := by decide +kernel
theorem dX11_placeIn_9 : decode cX11_placeIn 9 = .ok (.if_icmp .eq 9, 3) := by decide +kernel
theorem dX11_placeIn_12 : decode cX11_placeIn 12 = .ok (.iinc 2 1, 3) := by decide +kernel
theorem dX11_placeIn_15 : decode cX11_placeIn 15 = .ok (.goto (-13), 3) := by decide +kernel
theorem dX11_placeIn_18 : decode cX11_placeIn 18 = .ok (.iload_n 2, 1) := by decide +kernel
theorem dX11_placeIn_19 : decode cX11_placeIn 19 = .ok (.ireturn, 1) := by decide +kernel
theorem dX11_letter_0 : decode cX11_letter 0 = .ok (.iconst 0, 1) := by decide +kernel
theorem dX11_letter_1 : decode cX11_letter 1 = .ok (.istore_n 2, 1) := by decide +kernel
theorem dX11_letter_2 : decode cX11_letter 2 = .ok (.iconst 0, 1) := by decide +kernel
theorem dX11_letter_3 : decode cX11_letter 3 = .ok (.istore_n 3, 1) := by decide +kernel
theorem dX11_letter_4 : decode cX11_letter 4 = .ok (.iload_n 3, 1) := by decide +kernel
theorem dX11_letter_5 : decode cX11_letter 5 = .ok (.aload_n 0, 1) := by decide +kernel
theorem dX11_letter_6 : decode cX11_letter 6 = .ok (.iload_n 1, 1) := by decide +kernel
theorem dX11_letter_7 : decode cX11_letter 7 = .ok (.invokevirtual 127, 3) := by decide +kernel
theorem dX11_letter_10 : decode cX11_letter 10 = .ok (.if_icmp .ge 39, 3) := by decide +kernel
theorem dX11_letter_13 : decode cX11_letter 13 = .ok (.aload_n 0, 1) := by decide +kernel
theorem dX11_letter_14 : decode cX11_letter 14 = .ok (.getfield 16, 3) := by decide +kernel
theorem dX11_letter_17 : decode cX11_letter 17 = .ok (.aload_n 0, 1) := by decide +kernel
theorem dX11_letter_18 : decode cX11_letter 18 = .ok (.getfield 7, 3) := by decide +kernel
theorem dX11_letter_21 : decode cX11_letter 21 = .ok (.iload_n 3, 1) := by decide +kernel
theorem dX11_letter_22 : decode cX11_letter 22 = .ok (.iaload, 1) := by decide +kernel
theorem dX11_letter_23 : decode cX11_letter 23 = .ok (.iaload, 1) := by decide +kernel
theorem dX11_letter_24 : decode cX11_letter 24 = .ok (.ifCond .ne 17, 3) := by decide +kernel
theorem dX11_letter_27 : decode cX11_letter 27 = .ok (.aload_n 0, 1) := by decide +kernel
theorem dX11_letter_28 : decode cX11_letter 28 = .ok (.getfield 13, 3) := by decide +kernel
theorem dX11_letter_31 : decode cX11_letter 31 = .ok (.aload_n 0, 1) := by decide +kernel
theorem dX11_letter_32 : decode cX11_letter 32 = .ok (.getfield 7, 3) := by decide +kernel
theorem dX11_letter_35 : decode cX11_letter 35 = .ok (.iload_n 3, 1) := by decide +kernel
theorem dX11_letter_36 : decode cX11_letter 36 = .ok (.iaload, 1) := by decide +kernel
theorem dX11_letter_37 : decode cX11_letter 37 = .ok (.iaload, 1) := by decide +kernel
theorem dX11_letter_38 : decode cX11_letter 38 = .ok (.goto 4, 3) := by decide +kernel
theorem dX11_letter_41 : decode cX11_letter 41 = .ok (.iload_n 2, 1) := by decide +kernel
theorem dX11_letter_42 : decode cX11_letter 42 = .ok (.istore_n 2, 1) := by decide +kernel
theorem dX11_letter_43 : decode cX11_letter 43 = .ok (.iinc 3 1, 3) := by decide +kernel
theorem dX11_letter_46 : decode cX11_letter 46 = .ok (.goto (-42), 3) := by decide +kernel
theorem dX11_letter_49 : decode cX11_letter 49 = .ok (.aload_n 0, 1) := by decide +kernel
theorem dX11_letter_50 : decode cX11_letter 50 = .ok (.getfield 13, 3) := by decide +kernel
theorem dX11_letter_53 : decode cX11_letter 53 = .ok (.iload_n 1, 1) := by decide +kernel
theorem dX11_letter_54 : decode cX11_letter 54 = .ok (.iload_n 2, 1) := by decide +kernel
theorem dX11_letter_55 : decode cX11_letter 55 = .ok (.iastore, 1) := by decide +kernel
theorem dX11_letter_56 : decode cX11_letter 56 = .ok (.iconst 0, 1) := by decide +kernel
theorem dX11_letter_57 : decode cX11_letter 57 = .ok (.istore_n 3, 1) := by decide +kernel
theorem dX11_letter_58 : decode cX11_letter 58 = .ok (.iload_n 3, 1) := by decide +kernel
theorem dX11_letter_59 : decode cX11_letter 59 = .ok (.ifCond .ne 79, 3) := by decide +kernel
theorem dX11_letter_62 : decode cX11_letter 62 = .ok (.aload_n 0, 1) := by decide +kernel
theorem dX11_letter_63 : decode cX11_letter 63 = .ok (.getfield 16, 3) := by decide +kernel
theorem dX11_letter_66 : decode cX11_letter 66 = .ok (.iload_n 1, 1) := by decide +kernel
theorem dX11_letter_67 : decode cX11_letter 67 = .ok (.dup2, 1) := by decide +kernel
theorem dX11_letter_68 : decode cX11_letter 68 = .ok (.iaload, 1) := by decide +kernel
theorem dX11_letter_69 : decode cX11_letter 69 = .ok (.iconst 1, 1) := by decide +kernel
theorem dX11_letter_70 : decode cX11_letter 70 = .ok (.iadd, 1) := by decide +kernel
theorem dX11_letter_71 : decode cX11_letter 71 = .ok (.iastore, 1) := by decide +kernel
theorem dX11_letter_72 : decode cX11_letter 72 = .ok (.iconst 1, 1) := by decide +kernel
theorem dX11_letter_73 : decode cX11_letter 73 = .ok (.istore_n 3, 1) := by decide +kernel
theorem dX11_letter_74 : decode cX11_letter 74 = .ok (.iconst 0, 1) := by decide +kernel
theorem dX11_letter_75 : decode cX11_letter 75 = .ok (.istore 4, 2) := by decide +kernel
theorem dX11_letter_77 : decode cX11_letter 77 = .ok (.iload 4, 2) := by decide +kernel
theorem dX11_letter_79 : decode cX11_letter 79 = .ok (.aload_n 0, 1) := by decide +kernel
theorem dX11_letter_80 : decode cX11_letter 80 = .ok (.getfield 114, 3) := by decide +kernel
theorem dX11_letter_83 : decode cX11_letter 83 = .ok (.if_icmp .ge 52, 3) := by decide +kernel
theorem dX11_letter_86 : decode cX11_letter 86 = .ok (.iload_n 3, 1) := by decide +kernel
theorem dX11_letter_87 : decode cX11_letter 87 = .ok (.ifCond .eq 40, 3) := by decide +kernel
theorem dX11_letter_90 : decode cX11_letter 90 = .ok (.iload 4, 2) := by decide +kernel
theorem dX11_letter_92 : decode cX11_letter 92 = .ok (.iload_n 1, 1) := by decide +kernel
theorem dX11_letter_93 : decode cX11_letter 93 = .ok (.if_icmp .eq 30, 3) := by decide +kernel
theorem dX11_letter_96 : decode cX11_letter 96 = .ok (.aload_n 0, 1) := by decide +kernel
theorem dX11_letter_97 : decode cX11_letter 97 = .ok (.getfield 13, 3) := by decide +kernel
theorem dX11_letter_100 : decode cX11_letter 100 = .ok (.iload 4, 2) := by decide +kernel
theorem dX11_letter_102 : decode cX11_letter 102 = .ok (.iaload, 1) := by decide +kernel
theorem dX11_letter_103 : decode cX11_letter 103 = .ok (.iload_n 2, 1) := by decide +kernel
theorem dX11_letter_104 : decode cX11_letter 104 = .ok (.if_icmp .ne 19, 3) := by decide +kernel
theorem dX11_letter_107 : decode cX11_letter 107 = .ok (.aload_n 0, 1) := by decide +kernel
theorem dX11_letter_108 : decode cX11_letter 108 = .ok (.getfield 16, 3) := by decide +kernel
theorem dX11_letter_111 : decode cX11_letter 111 = .ok (.iload 4, 2) := by decide +kernel
theorem dX11_letter_113 : decode cX11_letter 113 = .ok (.iaload, 1) := by decide +kernel
theorem dX11_letter_114 : decode cX11_letter 114 = .ok (.aload_n 0, 1) := by decide +kernel
theorem dX11_letter_115 : decode cX11_letter 115 = .ok (.getfield 16, 3) := by decide +kernel
theorem dX11_letter_118 : decode cX11_letter 118 = .ok (.iload_n 1, 1) := by decide +kernel
theorem dX11_letter_119 : decode cX11_letter 119 = .ok (.iaload, 1) := by decide +kernel
theorem dX11_letter_120 : decode cX11_letter 120 = .ok (.if_icmp .eq 7, 3) := by decide +kernel
theorem dX11_letter_123 : decode cX11_letter 123 = .ok (.iconst 1, 1) := by decide +kernel
theorem dX11_letter_124 : decode cX11_letter 124 = .ok (.goto 4, 3) := by decide +kernel
theorem dX11_letter_127 : decode cX11_letter 127 = .ok (.iconst 0, 1) := by decide +kernel
theorem dX11_letter_128 : decode cX11_letter 128 = .ok (.istore_n 3, 1) := by decide +kernel
theorem dX11_letter_129 : decode cX11_letter 129 = .ok (.iinc 4 1, 3) := by decide +kernel
theorem dX11_letter_132 : decode cX11_letter 132 = .ok (.goto (-55), 3) := by decide +kernel
theorem dX11_letter_135 : decode cX11_letter 135 = .ok (.goto (-77), 3) := by decide +kernel
theorem dX11_letter_138 : decode cX11_letter 138 = .ok (.return_, 1) := by decide +kernel
theorem dX11_scene_0 : decode cX11_scene 0 = .ok (.iload_n 1, 1) := by decide +kernel
theorem dX11_scene_1 : decode cX11_scene 1 = .ok (.iconst (-1), 1) := by decide +kernel
theorem dX11_scene_2 : decode cX11_scene 2 = .ok (.if_icmp .eq 11, 3) := by decide +kernel
theorem dX11_scene_5 : decode cX11_scene 5 = .ok (.aload_n 0, 1) := by decide +kernel
theorem dX11_scene_6 : decode cX11_scene 6 = .ok (.iload_n 1, 1) := by decide +kernel
theorem dX11_scene_7 : decode cX11_scene 7 = .ok (.invokevirtual 131, 3) := by decide +kernel
theorem dX11_scene_10 : decode cX11_scene 10 = .ok (.ifCond .eq 15, 3) := by decide +kernel
theorem dX11_scene_13 : decode cX11_scene 13 = .ok (.aload_n 0, 1) := by decide +kernel
theorem dX11_scene_14 : decode cX11_scene 14 = .ok (.iload_n 2, 1) := by decide +kernel
theorem dX11_scene_15 : decode cX11_scene 15 = .ok (.invokevirtual 135, 3) := by decide +kernel
theorem dX11_scene_18 : decode cX11_scene 18 = .ok (.ifCond .eq 7, 3) := by decide +kernel
theorem dX11_scene_21 : decode cX11_scene 21 = .ok (.iconst 1, 1) := by decide +kernel
theorem dX11_scene_22 : decode cX11_scene 22 = .ok (.goto 4, 3) := by decide +kernel
theorem dX11_scene_25 : decode cX11_scene 25 = .ok (.iconst 0, 1) := by decide +kernel
theorem dX11_scene_26 : decode cX11_scene 26 = .ok (.istore 6, 2) := by decide +kernel
theorem dX11_scene_28 : decode cX11_scene 28 = .ok (.aload_n 0, 1) := by decide +kernel
theorem dX11_scene_29 : decode cX11_scene 29 = .ok (.iload 6, 2) := by decide +kernel
theorem dX11_scene_31 : decode cX11_scene 31 = .ok (.ifCond .ne 7, 3) := by decide +kernel
theorem dX11_scene_34 : decode cX11_scene 34 = .ok (.iconst 1, 1) := by decide +kernel
theorem dX11_scene_35 : decode cX11_scene 35 = .ok (.goto 32, 3) := by decide +kernel
theorem dX11_scene_38 : decode cX11_scene 38 = .ok (.iload 5, 2) := by decide +kernel
theorem dX11_scene_40 : decode cX11_scene 40 = .ok (.iconst 1, 1) := by decide +kernel
theorem dX11_scene_41 : decode cX11_scene 41 = .ok (.bipush 32, 2) := by decide +kernel
theorem dX11_scene_43 : decode cX11_scene 43 = .ok (.invokestatic 117, 3) := by decide +kernel
theorem dX11_scene_46 : decode cX11_scene 46 = .ok (.ifCond .ne 7, 3) := by decide +kernel
theorem dX11_scene_49 : decode cX11_scene 49 = .ok (.iconst 2, 1) := by decide +kernel
theorem dX11_scene_50 : decode cX11_scene 50 = .ok (.goto 17, 3) := by decide +kernel
theorem dX11_scene_53 : decode cX11_scene 53 = .ok (.aload_n 0, 1) := by decide +kernel
theorem dX11_scene_54 : decode cX11_scene 54 = .ok (.getfield 114, 3) := by decide +kernel
theorem dX11_scene_57 : decode cX11_scene 57 = .ok (.bipush 20, 2) := by decide +kernel
theorem dX11_scene_59 : decode cX11_scene 59 = .ok (.if_icmp .ne 7, 3) := by decide +kernel
theorem dX11_scene_62 : decode cX11_scene 62 = .ok (.iconst 3, 1) := by decide +kernel
theorem dX11_scene_63 : decode cX11_scene 63 = .ok (.goto 4, 3) := by decide +kernel
theorem dX11_scene_66 : decode cX11_scene 66 = .ok (.iconst 0, 1) := by decide +kernel
theorem dX11_scene_67 : decode cX11_scene 67 = .ok (.invokevirtual 138, 3) := by decide +kernel
theorem dX11_scene_70 : decode cX11_scene 70 = .ok (.ifCond .ne 5, 3) := by decide +kernel
theorem dX11_scene_73 : decode cX11_scene 73 = .ok (.iconst 0, 1) := by decide +kernel
theorem dX11_scene_74 : decode cX11_scene 74 = .ok (.ireturn, 1) := by decide +kernel
theorem dX11_scene_75 : decode cX11_scene 75 = .ok (.iload_n 1, 1) := by decide +kernel
theorem dX11_scene_76 : decode cX11_scene 76 = .ok (.iconst (-1), 1) := by decide +kernel
theorem dX11_scene_77 : decode cX11_scene 77 = .ok (.if_icmp .ne 7, 3) := by decide +kernel
theorem dX11_scene_80 : decode cX11_scene 80 = .ok (.iconst 0, 1) := by decide +kernel
theorem dX11_scene_81 : decode cX11_scene 81 = .ok (.goto 10, 3) := by decide +kernel
theorem dX11_scene_84 : decode cX11_scene 84 = .ok (.aload_n 0, 1) := by decide +kernel
theorem dX11_scene_85 : decode cX11_scene 85 = .ok (.iload_n 1, 1) := by decide +kernel
theorem dX11_scene_86 : decode cX11_scene 86 = .ok (.invokevirtual 127, 3) := by decide +kernel
theorem dX11_scene_89 : decode cX11_scene 89 = .ok (.iconst 1, 1) := by decide +kernel
theorem dX11_scene_90 : decode cX11_scene 90 = .ok (.iadd, 1) := by decide +kernel
theorem dX11_scene_91 : decode cX11_scene 91 = .ok (.istore 7, 2) := by decide +kernel
theorem dX11_scene_93 : decode cX11_scene 93 = .ok (.aload_n 0, 1) := by decide +kernel
theorem dX11_scene_94 : decode cX11_scene 94 = .ok (.getfield 114, 3) := by decide +kernel
theorem dX11_scene_97 : decode cX11_scene 97 = .ok (.istore 8, 2) := by decide +kernel
theorem dX11_scene_99 : decode cX11_scene 99 = .ok (.iload 8, 2) := by decide +kernel
theorem dX11_scene_101 : decode cX11_scene 101 = .ok (.iload 7, 2) := by decide +kernel
theorem dX11_scene_103 : decode cX11_scene 103 = .ok (.if_icmp .le 25, 3) := by decide +kernel
theorem dX11_scene_106 : decode cX11_scene 106 = .ok (.aload_n 0, 1) := by decide +kernel
theorem dX11_scene_107 : decode cX11_scene 107 = .ok (.getfield 7, 3) := by decide +kernel
theorem dX11_scene_110 : decode cX11_scene 110 = .ok (.iload 8, 2) := by decide +kernel
theorem dX11_scene_112 : decode cX11_scene 112 = .ok (.aload_n 0, 1) := by decide +kernel
theorem dX11_scene_113 : decode cX11_scene 113 = .ok (.getfield 7, 3) := by decide +kernel
theorem dX11_scene_116 : decode cX11_scene 116 = .ok (.iload 8, 2) := by decide +kernel
theorem dX11_scene_118 : decode cX11_scene 118 = .ok (.iconst 1, 1) := by decide +kernel
theorem dX11_scene_119 : decode cX11_scene 119 = .ok (.isub, 1) := by decide +kernel
theorem dX11_scene_120 : decode cX11_scene 120 = .ok (.iaload, 1) := by decide +kernel
theorem dX11_scene_121 : decode cX11_scene 121 = .ok (.iastore, 1) := by decide +kernel
theorem dX11_scene_122 : decode cX11_scene 122 = .ok (.iinc 8 (-1), 3) := by decide +kernel
theorem dX11_scene_125 : decode cX11_scene 125 = .ok (.goto (-26), 3) := by decide +kernel
theorem dX11_scene_128 : decode cX11_scene 128 = .ok (.aload_n 0, 1) := by decide +kernel
theorem dX11_scene_129 : decode cX11_scene 129 = .ok (.getfield 114, 3) := by decide +kernel
theorem dX11_scene_132 : decode cX11_scene 132 = .ok (.istore 8, 2) := by decide +kernel
theorem dX11_scene_134 : decode cX11_scene 134 = .ok (.aload_n 0, 1) := by decide +kernel
theorem dX11_scene_135 : decode cX11_scene 135 = .ok (.getfield 7, 3) := by decide +kernel
theorem dX11_scene_138 : decode cX11_scene 138 = .ok (.iload 7, 2) := by decide +kernel
theorem dX11_scene_140 : decode cX11_scene 140 = .ok (.iload 8, 2) := by decide +kernel
theorem dX11_scene_142 : decode cX11_scene 142 = .ok (.iastore, 1) := by decide +kernel
theorem dX11_scene_143 : decode cX11_scene 143 = .ok (.aload_n 0, 1) := by decide +kernel
theorem dX11_scene_144 : decode cX11_scene 144 = .ok (.getfield 19, 3) := by decide +kernel
theorem dX11_scene_147 : decode cX11_scene 147 = .ok (.iload 8, 2) := by decide +kernel
theorem dX11_scene_149 : decode cX11_scene 149 = .ok (.iload_n 2, 1) := by decide +kernel
theorem dX11_scene_150 : decode cX11_scene 150 = .ok (.iastore, 1) := by decide +kernel
theorem dX11_scene_151 : decode cX11_scene 151 = .ok (.aload_n 0, 1) := by decide +kernel
theorem dX11_scene_152 : decode cX11_scene 152 = .ok (.getfield 22, 3) := by decide +kernel
theorem dX11_scene_155 : decode cX11_scene 155 = .ok (.iload 8, 2) := by decide +kernel
theorem dX11_scene_157 : decode cX11_scene 157 = .ok (.iload_n 3, 1) := by decide +kernel
theorem dX11_scene_158 : decode cX11_scene 158 = .ok (.bastore, 1) := by decide +kernel
theorem dX11_scene_159 : decode cX11_scene 159 = .ok (.aload_n 0, 1) := by decide +kernel
theorem dX11_scene_160 : decode cX11_scene 160 = .ok (.getfield 26, 3) := by decide +kernel
theorem dX11_scene_163 : decode cX11_scene 163 = .ok (.iload 8, 2) := by decide +kernel
theorem dX11_scene_165 : decode cX11_scene 165 = .ok (.iload 4, 2) := by decide +kernel
theorem dX11_scene_167 : decode cX11_scene 167 = .ok (.bastore, 1) := by decide +kernel
theorem dX11_scene_168 : decode cX11_scene 168 = .ok (.aload_n 0, 1) := by decide +kernel
theorem dX11_scene_169 : decode cX11_scene 169 = .ok (.getfield 29, 3) := by decide +kernel
theorem dX11_scene_172 : decode cX11_scene 172 = .ok (.iload 8, 2) := by decide +kernel
theorem dX11_scene_174 : decode cX11_scene 174 = .ok (.iload 5, 2) := by decide +kernel
theorem dX11_scene_176 : decode cX11_scene 176 = .ok (.iastore, 1) := by decide +kernel
theorem dX11_scene_177 : decode cX11_scene 177 = .ok (.aload_n 0, 1) := by decide +kernel
theorem dX11_scene_178 : decode cX11_scene 178 = .ok (.getfield 56, 3) := by decide +kernel
theorem dX11_scene_181 : decode cX11_scene 181 = .ok (.iload 8, 2) := by decide +kernel
theorem dX11_scene_183 : decode cX11_scene 183 = .ok (.iconst (-1), 1) := by decide +kernel
theorem dX11_scene_184 : decode cX11_scene 184 = .ok (.iastore, 1) := by decide +kernel
theorem dX11_scene_185 : decode cX11_scene 185 = .ok (.iconst 0, 1) := by decide +kernel
theorem dX11_scene_186 : decode cX11_scene 186 = .ok (.istore 9, 2) := by decide +kernel
theorem dX11_scene_188 : decode cX11_scene 188 = .ok (.iload 9, 2) := by decide +kernel
theorem dX11_scene_190 : decode cX11_scene 190 = .ok (.iconst 4, 1) := by decide +kernel
theorem dX11_scene_191 : decode cX11_scene 191 = .ok (.if_icmp .ge 35, 3) := by decide +kernel
theorem dX11_scene_194 : decode cX11_scene 194 = .ok (.aload_n 0, 1) := by decide +kernel
theorem dX11_scene_195 : decode cX11_scene 195 = .ok (.getfield 35, 3) := by decide +kernel
theorem dX11_scene_198 : decode cX11_scene 198 = .ok (.iconst 4, 1) := by decide +kernel
theorem dX11_scene_199 : decode cX11_scene 199 = .ok (.iload 8, 2) := by decide +kernel
theorem dX11_scene_201 : decode cX11_scene 201 = .ok (.imul, 1) := by decide +kernel
theorem dX11_scene_202 : decode cX11_scene 202 = .ok (.iload 9, 2) := by decide +kernel
theorem dX11_scene_204 : decode cX11_scene 204 = .ok (.iadd, 1) := by decide +kernel
theorem dX11_scene_205 : decode cX11_scene 205 = .ok (.iconst (-1), 1) := by decide +kernel
theorem dX11_scene_206 : decode cX11_scene 206 = .ok (.iastore, 1) := by decide +kernel
theorem dX11_scene_207 : decode cX11_scene 207 = .ok (.aload_n 0, 1) := by decide +kernel
theorem dX11_scene_208 : decode cX11_scene 208 = .ok (.getfield 38, 3) := by decide +kernel
theorem dX11_scene_211 : decode cX11_scene 211 = .ok (.iconst 4, 1) := by decide +kernel
theorem dX11_scene_212 : decode cX11_scene 212 = .ok (.iload 8, 2) := by decide +kernel
theorem dX11_scene_214 : decode cX11_scene 214 = .ok (.imul, 1) := by decide +kernel
theorem dX11_scene_215 : decode cX11_scene 215 = .ok (.iload 9, 2) := by decide +kernel
theorem dX11_scene_217 : decode cX11_scene 217 = .ok (.iadd, 1) := by decide +kernel
theorem dX11_scene_218 : decode cX11_scene 218 = .ok (.iconst (-1), 1) := by decide +kernel
theorem dX11_scene_219 : decode cX11_scene 219 = .ok (.iastore, 1) := by decide +kernel
theorem dX11_scene_220 : decode cX11_scene 220 = .ok (.iinc 9 1, 3) := by decide +kernel
theorem dX11_scene_223 : decode cX11_scene 223 = .ok (.goto (-35), 3) := by decide +kernel
theorem dX11_scene_226 : decode cX11_scene 226 = .ok (.aload_n 0, 1) := by decide +kernel
theorem dX11_scene_227 : decode cX11_scene 227 = .ok (.dup, 1) := by decide +kernel
theorem dX11_scene_228 : decode cX11_scene 228 = .ok (.getfield 114, 3) := by decide +kernel
theorem dX11_scene_231 : decode cX11_scene 231 = .ok (.iconst 1, 1) := by decide +kernel
theorem dX11_scene_232 : decode cX11_scene 232 = .ok (.iadd, 1) := by decide +kernel
theorem dX11_scene_233 : decode cX11_scene 233 = .ok (.putfield 114, 3) := by decide +kernel
theorem dX11_scene_236 : decode cX11_scene 236 = .ok (.aload_n 0, 1) := by decide +kernel
theorem dX11_scene_237 : decode cX11_scene 237 = .ok (.getfield 141, 3) := by decide +kernel
theorem dX11_scene_240 : decode cX11_scene 240 = .ok (.ifCond .eq 9, 3) := by decide +kernel
theorem dX11_scene_243 : decode cX11_scene 243 = .ok (.aload_n 0, 1) := by decide +kernel
theorem dX11_scene_244 : decode cX11_scene 244 = .ok (.iload 8, 2) := by decide +kernel
theorem dX11_scene_246 : decode cX11_scene 246 = .ok (.invokevirtual 145, 3) := by decide +kernel
theorem dX11_scene_249 : decode cX11_scene 249 = .ok (.iload 8, 2) := by decide +kernel
theorem dX11_scene_251 : decode cX11_scene 251 = .ok (.ireturn, 1) := by decide +kernel
theorem dX11_lock_0 : decode cX11_lock 0 = .ok (.aload_n 0, 1) := by decide +kernel
theorem dX11_lock_1 : decode cX11_lock 1 = .ok (.aload_n 0, 1) := by decide +kernel
theorem dX11_lock_2 : decode cX11_lock 2 = .ok (.getfield 141, 3) := by decide +kernel
theorem dX11_lock_5 : decode cX11_lock 5 = .ok (.ifCond .eq 7, 3) := by decide +kernel
theorem dX11_lock_8 : decode cX11_lock 8 = .ok (.iconst 1, 1) := by decide +kernel
theorem dX11_lock_9 : decode cX11_lock 9 = .ok (.goto 4, 3) := by decide +kernel
theorem dX11_lock_12 : decode cX11_lock 12 = .ok (.iconst 0, 1) := by decide +kernel
theorem dX11_lock_13 : decode cX11_lock 13 = .ok (.invokevirtual 138, 3) := by decide +kernel
theorem dX11_lock_16 : decode cX11_lock 16 = .ok (.ifCond .ne 5, 3) := by decide +kernel
theorem dX11_lock_19 : decode cX11_lock 19 = .ok (.iconst 0, 1) := by decide +kernel
theorem dX11_lock_20 : decode cX11_lock 20 = .ok (.ireturn, 1) := by decide +kernel
theorem dX11_lock_21 : decode cX11_lock 21 = .ok (.aload_n 0, 1) := by decide +kernel
theorem dX11_lock_22 : decode cX11_lock 22 = .ok (.iconst 1, 1) := by decide +kernel
theorem dX11_lock_23 : decode cX11_lock 23 = .ok (.putfield 141, 3) := by decide +kernel
theorem dX11_lock_26 : decode cX11_lock 26 = .ok (.iconst 0, 1) := by decide +kernel
theorem dX11_lock_27 : decode cX11_lock 27 = .ok (.istore_n 1, 1) := by decide +kernel
theorem dX11_lock_28 : decode cX11_lock 28 = .ok (.iload_n 1, 1) := by decide +kernel
theorem dX11_lock_29 : decode cX11_lock 29 = .ok (.aload_n 0, 1) := by decide +kernel
theorem dX11_lock_30 : decode cX11_lock 30 = .ok (.getfield 114, 3) := by decide +kernel
theorem dX11_lock_33 : decode cX11_lock 33 = .ok (.if_icmp .ge 23, 3) := by decide +kernel
theorem dX11_lock_36 : decode cX11_lock 36 = .ok (.aload_n 0, 1) := by decide +kernel
theorem dX11_lock_37 : decode cX11_lock 37 = .ok (.getfield 13, 3) := by decide +kernel
theorem dX11_lock_40 : decode cX11_lock 40 = .ok (.aload_n 0, 1) := by decide +kernel
theorem dX11_lock_41 : decode cX11_lock 41 = .ok (.getfield 7, 3) := by decide +kernel
theorem dX11_lock_44 : decode cX11_lock 44 = .ok (.iload_n 1, 1) := by decide +kernel
theorem dX11_lock_45 : decode cX11_lock 45 = .ok (.iaload, 1) := by decide +kernel
theorem dX11_lock_46 : decode cX11_lock 46 = .ok (.iload_n 1, 1) := by decide +kernel
theorem dX11_lock_47 : decode cX11_lock 47 = .ok (.iconst 1, 1) := by decide +kernel
theorem dX11_lock_48 : decode cX11_lock 48 = .ok (.iadd, 1) := by decide +kernel
theorem dX11_lock_49 : decode cX11_lock 49 = .ok (.iastore, 1) := by decide +kernel
theorem dX11_lock_50 : decode cX11_lock 50 = .ok (.iinc 1 1, 3) := by decide +kernel
theorem dX11_lock_53 : decode cX11_lock 53 = .ok (.goto (-25), 3) := by decide +kernel
theorem dX11_lock_56 : decode cX11_lock 56 = .ok (.aload_n 0, 1) := by decide +kernel
theorem dX11_lock_57 : decode cX11_lock 57 = .ok (.getfield 114, 3) := by decide +kernel
theorem dX11_lock_60 : decode cX11_lock 60 = .ok (.ireturn, 1) := by decide +kernel
theorem dX11_omit_0 : decode cX11_omit 0 = .ok (.aload_n 0, 1) := by decide +kernel
theorem dX11_omit_1 : decode cX11_omit 1 = .ok (.iload_n 1, 1) := by decide +kernel
theorem dX11_omit_2 : decode cX11_omit 2 = .ok (.invokevirtual 131, 3) := by decide +kernel
theorem dX11_omit_5 : decode cX11_omit 5 = .ok (.istore_n 2, 1) := by decide +kernel
theorem dX11_omit_6 : decode cX11_omit 6 = .ok (.aload_n 0, 1) := by decide +kernel
theorem dX11_omit_7 : decode cX11_omit 7 = .ok (.iload_n 2, 1) := by decide +kernel
theorem dX11_omit_8 : decode cX11_omit 8 = .ok (.ifCond .ne 7, 3) := by decide +kernel
theorem dX11_omit_11 : decode cX11_omit 11 = .ok (.iconst 1, 1) := by decide +kernel
theorem dX11_omit_12 : decode cX11_omit 12 = .ok (.goto 26, 3) := by decide +kernel
theorem dX11_omit_15 : decode cX11_omit 15 = .ok (.aload_n 0, 1) := by decide +kernel
theorem dX11_omit_16 : decode cX11_omit 16 = .ok (.getfield 44, 3) := by decide +kernel
theorem dX11_omit_19 : decode cX11_omit 19 = .ok (.iload_n 1, 1) := by decide +kernel
theorem dX11_omit_20 : decode cX11_omit 20 = .ok (.baload, 1) := by decide +kernel
theorem dX11_omit_21 : decode cX11_omit 21 = .ok (.ifCond .ne 12, 3) := by decide +kernel
theorem dX11_omit_24 : decode cX11_omit 24 = .ok (.aload_n 0, 1) := by decide +kernel
theorem dX11_omit_25 : decode cX11_omit 25 = .ok (.getfield 47, 3) := by decide +kernel
theorem dX11_omit_28 : decode cX11_omit 28 = .ok (.iload_n 1, 1) := by decide +kernel
theorem dX11_omit_29 : decode cX11_omit 29 = .ok (.baload, 1) := by decide +kernel
theorem dX11_omit_30 : decode cX11_omit 30 = .ok (.ifCond .eq 7, 3) := by decide +kernel
theorem dX11_omit_33 : decode cX11_omit 33 = .ok (.iconst 2, 1) := by decide +kernel
theorem dX11_omit_34 : decode cX11_omit 34 = .ok (.goto 4, 3) := by decide +kernel
theorem dX11_omit_37 : decode cX11_omit 37 = .ok (.iconst 0, 1) := by decide +kernel
theorem dX11_omit_38 : decode cX11_omit 38 = .ok (.invokevirtual 138, 3) := by decide +kernel
theorem dX11_omit_41 : decode cX11_omit 41 = .ok (.ifCond .ne 5, 3) := by decide +kernel
theorem dX11_omit_44 : decode cX11_omit 44 = .ok (.iconst 0, 1) := by decide +kernel
theorem dX11_omit_45 : decode cX11_omit 45 = .ok (.ireturn, 1) := by decide +kernel
theorem dX11_omit_46 : decode cX11_omit 46 = .ok (.aload_n 0, 1) := by decide +kernel
theorem dX11_omit_47 : decode cX11_omit 47 = .ok (.getfield 44, 3) := by decide +kernel
theorem dX11_omit_50 : decode cX11_omit 50 = .ok (.iload_n 1, 1) := by decide +kernel
theorem dX11_omit_51 : decode cX11_omit 51 = .ok (.iconst 1, 1) := by decide +kernel
theorem dX11_omit_52 : decode cX11_omit 52 = .ok (.bastore, 1) := by decide +kernel
theorem dX11_omit_53 : decode cX11_omit 53 = .ok (.aload_n 0, 1) := by decide +kernel
theorem dX11_omit_54 : decode cX11_omit 54 = .ok (.iload_n 1, 1) := by decide +kernel
theorem dX11_omit_55 : decode cX11_omit 55 = .ok (.invokevirtual 148, 3) := by decide +kernel
theorem dX11_omit_58 : decode cX11_omit 58 = .ok (.iconst 0, 1) := by decide +kernel
theorem dX11_omit_59 : decode cX11_omit 59 = .ok (.istore_n 3, 1) := by decide +kernel
theorem dX11_omit_60 : decode cX11_omit 60 = .ok (.iconst 0, 1) := by decide +kernel
theorem dX11_omit_61 : decode cX11_omit 61 = .ok (.istore 4, 2) := by decide +kernel
theorem dX11_omit_63 : decode cX11_omit 63 = .ok (.iload 4, 2) := by decide +kernel
theorem dX11_omit_65 : decode cX11_omit 65 = .ok (.aload_n 0, 1) := by decide +kernel
theorem dX11_omit_66 : decode cX11_omit 66 = .ok (.getfield 114, 3) := by decide +kernel
theorem dX11_omit_69 : decode cX11_omit 69 = .ok (.if_icmp .ge 27, 3) := by decide +kernel
theorem dX11_omit_72 : decode cX11_omit 72 = .ok (.iload_n 3, 1) := by decide +kernel
theorem dX11_omit_73 : decode cX11_omit 73 = .ok (.aload_n 0, 1) := by decide +kernel
theorem dX11_omit_74 : decode cX11_omit 74 = .ok (.getfield 44, 3) := by decide +kernel
theorem dX11_omit_77 : decode cX11_omit 77 = .ok (.iload 4, 2) := by decide +kernel
theorem dX11_omit_79 : decode cX11_omit 79 = .ok (.baload, 1) := by decide +kernel
theorem dX11_omit_80 : decode cX11_omit 80 = .ok (.ifCond .eq 7, 3) := by decide +kernel
theorem dX11_omit_83 : decode cX11_omit 83 = .ok (.iconst 0, 1) := by decide +kernel
theorem dX11_omit_84 : decode cX11_omit 84 = .ok (.goto 4, 3) := by decide +kernel
theorem dX11_omit_87 : decode cX11_omit 87 = .ok (.iconst 1, 1) := by decide +kernel
theorem dX11_omit_88 : decode cX11_omit 88 = .ok (.iadd, 1) := by decide +kernel
theorem dX11_omit_89 : decode cX11_omit 89 = .ok (.istore_n 3, 1) := by decide +kernel
theorem dX11_omit_90 : decode cX11_omit 90 = .ok (.iinc 4 1, 3) := by decide +kernel
theorem dX11_omit_93 : decode cX11_omit 93 = .ok (.goto (-30), 3) := by decide +kernel
theorem dX11_omit_96 : decode cX11_omit 96 = .ok (.iload_n 3, 1) := by decide +kernel
theorem dX11_omit_97 : decode cX11_omit 97 = .ok (.ireturn, 1) := by decide +kernel
theorem dX11_label_0 : decode cX11_label 0 = .ok (.aload_n 0, 1) := by decide +kernel
theorem dX11_label_1 : decode cX11_label 1 = .ok (.aload_n 0, 1) := by decide +kernel
theorem dX11_label_2 : decode cX11_label 2 = .ok (.iload_n 1, 1) := by decide +kernel
theorem dX11_label_3 : decode cX11_label 3 = .ok (.invokevirtual 131, 3) := by decide +kernel
theorem dX11_label_6 : decode cX11_label 6 = .ok (.ifCond .eq 7, 3) := by decide +kernel
theorem dX11_label_9 : decode cX11_label 9 = .ok (.iconst 0, 1) := by decide +kernel
theorem dX11_label_10 : decode cX11_label 10 = .ok (.goto 4, 3) := by decide +kernel
theorem dX11_label_13 : decode cX11_label 13 = .ok (.iconst 1, 1) := by decide +kernel
theorem dX11_label_14 : decode cX11_label 14 = .ok (.invokevirtual 138, 3) := by decide +kernel
theorem dX11_label_17 : decode cX11_label 17 = .ok (.ifCond .ne 5, 3) := by decide +kernel
theorem dX11_label_20 : decode cX11_label 20 = .ok (.iconst 0, 1) := by decide +kernel
theorem dX11_label_21 : decode cX11_label 21 = .ok (.ireturn, 1) := by decide +kernel
theorem dX11_label_22 : decode cX11_label 22 = .ok (.aload_n 0, 1) := by decide +kernel
theorem dX11_label_23 : decode cX11_label 23 = .ok (.getfield 141, 3) := by decide +kernel
theorem dX11_label_26 : decode cX11_label 26 = .ok (.ifCond .eq 22, 3) := by decide +kernel
theorem dX11_label_29 : decode cX11_label 29 = .ok (.bipush 100, 2) := by decide +kernel
theorem dX11_label_31 : decode cX11_label 31 = .ok (.aload_n 0, 1) := by decide +kernel
theorem dX11_label_32 : decode cX11_label 32 = .ok (.getfield 13, 3) := by decide +kernel
theorem dX11_label_35 : decode cX11_label 35 = .ok (.iload_n 1, 1) := by decide +kernel
theorem dX11_label_36 : decode cX11_label 36 = .ok (.iaload, 1) := by decide +kernel
theorem dX11_label_37 : decode cX11_label 37 = .ok (.imul, 1) := by decide +kernel
theorem dX11_label_38 : decode cX11_label 38 = .ok (.aload_n 0, 1) := by decide +kernel
theorem dX11_label_39 : decode cX11_label 39 = .ok (.getfield 16, 3) := by decide +kernel
theorem dX11_label_42 : decode cX11_label 42 = .ok (.iload_n 1, 1) := by decide +kernel
theorem dX11_label_43 : decode cX11_label 43 = .ok (.iaload, 1) := by decide +kernel
theorem dX11_label_44 : decode cX11_label 44 = .ok (.iadd, 1) := by decide +kernel
theorem dX11_label_45 : decode cX11_label 45 = .ok (.goto 13, 3) := by decide +kernel
theorem dX11_label_48 : decode cX11_label 48 = .ok (.bipush 100, 2) := by decide +kernel
theorem dX11_label_50 : decode cX11_label 50 = .ok (.aload_n 0, 1) := by decide +kernel
theorem dX11_label_51 : decode cX11_label 51 = .ok (.iload_n 1, 1) := by decide +kernel
theorem dX11_label_52 : decode cX11_label 52 = .ok (.invokevirtual 127, 3) := by decide +kernel
theorem dX11_label_55 : decode cX11_label 55 = .ok (.iconst 1, 1) := by decide +kernel
theorem dX11_label_56 : decode cX11_label 56 = .ok (.iadd, 1) := by decide +kernel
theorem dX11_label_57 : decode cX11_label 57 = .ok (.imul, 1) := by decide +kernel
theorem dX11_label_58 : decode cX11_label 58 = .ok (.ireturn, 1) := by decide +kernel
theorem dX11_needs_0 : decode cX11_needs 0 = .ok (.aload_n 0, 1) := by decide +kernel
theorem dX11_needs_1 : decode cX11_needs 1 = .ok (.iload_n 1, 1) := by decide +kernel
theorem dX11_needs_2 : decode cX11_needs 2 = .ok (.invokevirtual 131, 3) := by decide +kernel
theorem dX11_needs_5 : decode cX11_needs 5 = .ok (.istore_n 3, 1) := by decide +kernel
theorem dX11_needs_6 : decode cX11_needs 6 = .ok (.aload_n 0, 1) := by decide +kernel
theorem dX11_needs_7 : decode cX11_needs 7 = .ok (.iload_n 3, 1) := by decide +kernel
theorem dX11_needs_8 : decode cX11_needs 8 = .ok (.ifCond .ne 7, 3) := by decide +kernel
theorem dX11_needs_11 : decode cX11_needs 11 = .ok (.iconst 1, 1) := by decide +kernel
theorem dX11_needs_12 : decode cX11_needs 12 = .ok (.goto 24, 3) := by decide +kernel
theorem dX11_needs_15 : decode cX11_needs 15 = .ok (.iload_n 2, 1) := by decide +kernel
theorem dX11_needs_16 : decode cX11_needs 16 = .ok (.iconst 0, 1) := by decide +kernel
theorem dX11_needs_17 : decode cX11_needs 17 = .ok (.iconst 1, 1) := by decide +kernel
theorem dX11_needs_18 : decode cX11_needs 18 = .ok (.aload_n 0, 1) := by decide +kernel
theorem dX11_needs_19 : decode cX11_needs 19 = .ok (.getfield 121, 3) := by decide +kernel
theorem dX11_needs_22 : decode cX11_needs 22 = .ok (.ishl, 1) := by decide +kernel
theorem dX11_needs_23 : decode cX11_needs 23 = .ok (.iconst 1, 1) := by decide +kernel
theorem dX11_needs_24 : decode cX11_needs 24 = .ok (.isub, 1) := by decide +kernel
theorem dX11_needs_25 : decode cX11_needs 25 = .ok (.invokestatic 117, 3) := by decide +kernel
theorem dX11_needs_28 : decode cX11_needs 28 = .ok (.ifCond .eq 7, 3) := by decide +kernel
theorem dX11_needs_31 : decode cX11_needs 31 = .ok (.iconst 0, 1) := by decide +kernel
theorem dX11_needs_32 : decode cX11_needs 32 = .ok (.goto 4, 3) := by decide +kernel
theorem dX11_needs_35 : decode cX11_needs 35 = .ok (.iconst 2, 1) := by decide +kernel
theorem dX11_needs_36 : decode cX11_needs 36 = .ok (.invokevirtual 138, 3) := by decide +kernel
theorem dX11_needs_39 : decode cX11_needs 39 = .ok (.ifCond .ne 5, 3) := by decide +kernel
theorem dX11_needs_42 : decode cX11_needs 42 = .ok (.iconst 0, 1) := by decide +kernel
theorem dX11_needs_43 : decode cX11_needs 43 = .ok (.ireturn, 1) := by decide +kernel
theorem dX11_needs_44 : decode cX11_needs 44 = .ok (.aload_n 0, 1) := by decide +kernel
theorem dX11_needs_45 : decode cX11_needs 45 = .ok (.getfield 32, 3) := by decide +kernel
theorem dX11_needs_48 : decode cX11_needs 48 = .ok (.iload_n 1, 1) := by decide +kernel
theorem dX11_needs_49 : decode cX11_needs 49 = .ok (.iload_n 2, 1) := by decide +kernel
theorem dX11_needs_50 : decode cX11_needs 50 = .ok (.iastore, 1) := by decide +kernel
theorem dX11_needs_51 : decode cX11_needs 51 = .ok (.iload_n 2, 1) := by decide +kernel
theorem dX11_needs_52 : decode cX11_needs 52 = .ok (.invokestatic 151, 3) := by decide +kernel
theorem dX11_needs_55 : decode cX11_needs 55 = .ok (.ireturn, 1) := by decide +kernel
theorem dX11_clashing_0 : decode cX11_clashing 0 = .ok (.iconst 0, 1) := by decide +kernel
theorem dX11_clashing_1 : decode cX11_clashing 1 = .ok (.istore_n 1, 1) := by decide +kernel
theorem dX11_clashing_2 : decode cX11_clashing 2 = .ok (.iconst 0, 1) := by decide +kernel
theorem dX11_clashing_3 : decode cX11_clashing 3 = .ok (.istore_n 2, 1) := by decide +kernel
theorem dX11_clashing_4 : decode cX11_clashing 4 = .ok (.iload_n 2, 1) := by decide +kernel
theorem dX11_clashing_5 : decode cX11_clashing 5 = .ok (.iconst 4, 1) := by decide +kernel
theorem dX11_clashing_6 : decode cX11_clashing 6 = .ok (.if_icmp .ge 16, 3) := by decide +kernel
theorem dX11_clashing_9 : decode cX11_clashing 9 = .ok (.aload_n 0, 1) := by decide +kernel
theorem dX11_clashing_10 : decode cX11_clashing 10 = .ok (.getfield 98, 3) := by decide +kernel
theorem dX11_clashing_13 : decode cX11_clashing 13 = .ok (.iload_n 2, 1) := by decide +kernel
theorem dX11_clashing_14 : decode cX11_clashing 14 = .ok (.iconst 0, 1) := by decide +kernel
theorem dX11_clashing_15 : decode cX11_clashing 15 = .ok (.iastore, 1) := by decide +kernel
theorem dX11_clashing_16 : decode cX11_clashing 16 = .ok (.iinc 2 1, 3) := by decide +kernel
theorem dX11_clashing_19 : decode cX11_clashing 19 = .ok (.goto (-15), 3) := by decide +kernel
theorem dX11_clashing_22 : decode cX11_clashing 22 = .ok (.iconst 0, 1) := by decide +kernel
theorem dX11_clashing_23 : decode cX11_clashing 23 = .ok (.istore_n 2, 1) := by decide +kernel
theorem dX11_clashing_24 : decode cX11_clashing 24 = .ok (.iload_n 2, 1) := by decide +kernel
theorem dX11_clashing_25 : decode cX11_clashing 25 = .ok (.aload_n 0, 1) := by decide +kernel
theorem dX11_clashing_26 : decode cX11_clashing 26 = .ok (.getfield 114, 3) := by decide +kernel
theorem dX11_clashing_29 : decode cX11_clashing 29 = .ok (.if_icmp .ge 124, 3) := by decide +kernel
theorem dX11_clashing_32 : decode cX11_clashing 32 = .ok (.aload_n 0, 1) := by decide +kernel
theorem dX11_clashing_33 : decode cX11_clashing 33 = .ok (.getfield 7, 3) := by decide +kernel
theorem dX11_clashing_36 : decode cX11_clashing 36 = .ok (.iload_n 2, 1) := by decide +kernel
theorem dX11_clashing_37 : decode cX11_clashing 37 = .ok (.iaload, 1) := by decide +kernel
theorem dX11_clashing_38 : decode cX11_clashing 38 = .ok (.istore_n 3, 1) := by decide +kernel
theorem dX11_clashing_39 : decode cX11_clashing 39 = .ok (.iconst 0, 1) := by decide +kernel
theorem dX11_clashing_40 : decode cX11_clashing 40 = .ok (.istore 4, 2) := by decide +kernel
theorem dX11_clashing_42 : decode cX11_clashing 42 = .ok (.iload 4, 2) := by decide +kernel
theorem dX11_clashing_44 : decode cX11_clashing 44 = .ok (.iconst 4, 1) := by decide +kernel
theorem dX11_clashing_45 : decode cX11_clashing 45 = .ok (.if_icmp .ge 102, 3) := by decide +kernel
theorem dX11_clashing_48 : decode cX11_clashing 48 = .ok (.aload_n 0, 1) := by decide +kernel
theorem dX11_clashing_49 : decode cX11_clashing 49 = .ok (.getfield 44, 3) := by decide +kernel
theorem dX11_clashing_52 : decode cX11_clashing 52 = .ok (.iload_n 3, 1) := by decide +kernel
theorem dX11_clashing_53 : decode cX11_clashing 53 = .ok (.baload, 1) := by decide +kernel
theorem dX11_clashing_54 : decode cX11_clashing 54 = .ok (.ifCond .ne 93, 3) := by decide +kernel
theorem dX11_clashing_57 : decode cX11_clashing 57 = .ok (.aload_n 0, 1) := by decide +kernel
theorem dX11_clashing_58 : decode cX11_clashing 58 = .ok (.getfield 35, 3) := by decide +kernel
theorem dX11_clashing_61 : decode cX11_clashing 61 = .ok (.iconst 4, 1) := by decide +kernel
theorem dX11_clashing_62 : decode cX11_clashing 62 = .ok (.iload_n 3, 1) := by decide +kernel
theorem dX11_clashing_63 : decode cX11_clashing 63 = .ok (.imul, 1) := by decide +kernel
theorem dX11_clashing_64 : decode cX11_clashing 64 = .ok (.iload 4, 2) := by decide +kernel
theorem dX11_clashing_66 : decode cX11_clashing 66 = .ok (.iadd, 1) := by decide +kernel
theorem dX11_clashing_67 : decode cX11_clashing 67 = .ok (.iaload, 1) := by decide +kernel
theorem dX11_clashing_68 : decode cX11_clashing 68 = .ok (.istore 5, 2) := by decide +kernel
theorem dX11_clashing_70 : decode cX11_clashing 70 = .ok (.iload_n 1, 1) := by decide +kernel
theorem dX11_clashing_71 : decode cX11_clashing 71 = .ok (.iload 5, 2) := by decide +kernel
theorem dX11_clashing_73 : decode cX11_clashing 73 = .ok (.iconst (-1), 1) := by decide +kernel
theorem dX11_clashing_74 : decode cX11_clashing 74 = .ok (.if_icmp .eq 21, 3) := by decide +kernel
theorem dX11_clashing_77 : decode cX11_clashing 77 = .ok (.iload 5, 2) := by decide +kernel
theorem dX11_clashing_79 : decode cX11_clashing 79 = .ok (.aload_n 0, 1) := by decide +kernel
theorem dX11_clashing_80 : decode cX11_clashing 80 = .ok (.getfield 98, 3) := by decide +kernel
theorem dX11_clashing_83 : decode cX11_clashing 83 = .ok (.iload 4, 2) := by decide +kernel
theorem dX11_clashing_85 : decode cX11_clashing 85 = .ok (.iaload, 1) := by decide +kernel
theorem dX11_clashing_86 : decode cX11_clashing 86 = .ok (.if_icmp .eq 9, 3) := by decide +kernel
theorem dX11_clashing_89 : decode cX11_clashing 89 = .ok (.iconst 1, 1) := by decide +kernel
theorem dX11_clashing_90 : decode cX11_clashing 90 = .ok (.iload_n 3, 1) := by decide +kernel
theorem dX11_clashing_91 : decode cX11_clashing 91 = .ok (.ishl, 1) := by decide +kernel
theorem dX11_clashing_92 : decode cX11_clashing 92 = .ok (.goto 4, 3) := by decide +kernel
theorem dX11_clashing_95 : decode cX11_clashing 95 = .ok (.iconst 0, 1) := by decide +kernel
theorem dX11_clashing_96 : decode cX11_clashing 96 = .ok (.ior, 1) := by decide +kernel
theorem dX11_clashing_97 : decode cX11_clashing 97 = .ok (.istore_n 1, 1) := by decide +kernel
theorem dX11_clashing_98 : decode cX11_clashing 98 = .ok (.aload_n 0, 1) := by decide +kernel
theorem dX11_clashing_99 : decode cX11_clashing 99 = .ok (.getfield 98, 3) := by decide +kernel
theorem dX11_clashing_102 : decode cX11_clashing 102 = .ok (.iload 4, 2) := by decide +kernel
theorem dX11_clashing_104 : decode cX11_clashing 104 = .ok (.aload_n 0, 1) := by decide +kernel
theorem dX11_clashing_105 : decode cX11_clashing 105 = .ok (.getfield 38, 3) := by decide +kernel
theorem dX11_clashing_108 : decode cX11_clashing 108 = .ok (.iconst 4, 1) := by decide +kernel
theorem dX11_clashing_109 : decode cX11_clashing 109 = .ok (.iload_n 3, 1) := by decide +kernel
theorem dX11_clashing_110 : decode cX11_clashing 110 = .ok (.imul, 1) := by decide +kernel
theorem dX11_clashing_111 : decode cX11_clashing 111 = .ok (.iload 4, 2) := by decide +kernel
theorem dX11_clashing_113 : decode cX11_clashing 113 = .ok (.iadd, 1) := by decide +kernel
theorem dX11_clashing_114 : decode cX11_clashing 114 = .ok (.iaload, 1) := by decide +kernel
theorem dX11_clashing_115 : decode cX11_clashing 115 = .ok (.iconst (-1), 1) := by decide +kernel
theorem dX11_clashing_116 : decode cX11_clashing 116 = .ok (.if_icmp .eq 17, 3) := by decide +kernel
theorem dX11_clashing_119 : decode cX11_clashing 119 = .ok (.aload_n 0, 1) := by decide +kernel
theorem dX11_clashing_120 : decode cX11_clashing 120 = .ok (.getfield 38, 3) := by decide +kernel
theorem dX11_clashing_123 : decode cX11_clashing 123 = .ok (.iconst 4, 1) := by decide +kernel
theorem dX11_clashing_124 : decode cX11_clashing 124 = .ok (.iload_n 3, 1) := by decide +kernel
theorem dX11_clashing_125 : decode cX11_clashing 125 = .ok (.imul, 1) := by decide +kernel
theorem dX11_clashing_126 : decode cX11_clashing 126 = .ok (.iload 4, 2) := by decide +kernel
theorem dX11_clashing_128 : decode cX11_clashing 128 = .ok (.iadd, 1) := by decide +kernel
theorem dX11_clashing_129 : decode cX11_clashing 129 = .ok (.iaload, 1) := by decide +kernel
theorem dX11_clashing_130 : decode cX11_clashing 130 = .ok (.goto 10, 3) := by decide +kernel
theorem dX11_clashing_133 : decode cX11_clashing 133 = .ok (.aload_n 0, 1) := by decide +kernel
theorem dX11_clashing_134 : decode cX11_clashing 134 = .ok (.getfield 98, 3) := by decide +kernel
theorem dX11_clashing_137 : decode cX11_clashing 137 = .ok (.iload 4, 2) := by decide +kernel
theorem dX11_clashing_139 : decode cX11_clashing 139 = .ok (.iaload, 1) := by decide +kernel
theorem dX11_clashing_140 : decode cX11_clashing 140 = .ok (.iastore, 1) := by decide +kernel
theorem dX11_clashing_141 : decode cX11_clashing 141 = .ok (.iinc 4 1, 3) := by decide +kernel
theorem dX11_clashing_144 : decode cX11_clashing 144 = .ok (.goto (-102), 3) := by decide +kernel
theorem dX11_clashing_147 : decode cX11_clashing 147 = .ok (.iinc 2 1, 3) := by decide +kernel
theorem dX11_clashing_150 : decode cX11_clashing 150 = .ok (.goto (-126), 3) := by decide +kernel
theorem dX11_clashing_153 : decode cX11_clashing 153 = .ok (.iload_n 1, 1) := by decide +kernel
theorem dX11_clashing_154 : decode cX11_clashing 154 = .ok (.ireturn, 1) := by decide +kernel
theorem dX11_look_0 : decode cX11_look 0 = .ok (.aload_n 0, 1) := by decide +kernel
theorem dX11_look_1 : decode cX11_look 1 = .ok (.iload_n 1, 1) := by decide +kernel
theorem dX11_look_2 : decode cX11_look 2 = .ok (.invokevirtual 131, 3) := by decide +kernel
theorem dX11_look_5 : decode cX11_look 5 = .ok (.ifCond .eq 16, 3) := by decide +kernel
theorem dX11_look_8 : decode cX11_look 8 = .ok (.iload_n 2, 1) := by decide +kernel
theorem dX11_look_9 : decode cX11_look 9 = .ok (.iconst 0, 1) := by decide +kernel
theorem dX11_look_10 : decode cX11_look 10 = .ok (.iconst 3, 1) := by decide +kernel
theorem dX11_look_11 : decode cX11_look 11 = .ok (.invokestatic 117, 3) := by decide +kernel
theorem dX11_look_14 : decode cX11_look 14 = .ok (.ifCond .eq 7, 3) := by decide +kernel
theorem dX11_look_17 : decode cX11_look 17 = .ok (.iconst 1, 1) := by decide +kernel
theorem dX11_look_18 : decode cX11_look 18 = .ok (.goto 4, 3) := by decide +kernel
theorem dX11_look_21 : decode cX11_look 21 = .ok (.iconst 0, 1) := by decide +kernel
theorem dX11_look_22 : decode cX11_look 22 = .ok (.istore 5, 2) := by decide +kernel
theorem dX11_look_24 : decode cX11_look 24 = .ok (.aload_n 0, 1) := by decide +kernel
theorem dX11_look_25 : decode cX11_look 25 = .ok (.iload 5, 2) := by decide +kernel
theorem dX11_look_27 : decode cX11_look 27 = .ok (.ifCond .ne 7, 3) := by decide +kernel
theorem dX11_look_30 : decode cX11_look 30 = .ok (.iconst 1, 1) := by decide +kernel
theorem dX11_look_31 : decode cX11_look 31 = .ok (.goto 19, 3) := by decide +kernel
theorem dX11_look_34 : decode cX11_look 34 = .ok (.iload 4, 2) := by decide +kernel
theorem dX11_look_36 : decode cX11_look 36 = .ok (.iconst (-1), 1) := by decide +kernel
theorem dX11_look_37 : decode cX11_look 37 = .ok (.bipush 9, 2) := by decide +kernel
theorem dX11_look_39 : decode cX11_look 39 = .ok (.invokestatic 117, 3) := by decide +kernel
theorem dX11_look_42 : decode cX11_look 42 = .ok (.ifCond .eq 7, 3) := by decide +kernel
theorem dX11_look_45 : decode cX11_look 45 = .ok (.iconst 0, 1) := by decide +kernel
theorem dX11_look_46 : decode cX11_look 46 = .ok (.goto 4, 3) := by decide +kernel
theorem dX11_look_49 : decode cX11_look 49 = .ok (.iconst 2, 1) := by decide +kernel
theorem dX11_look_50 : decode cX11_look 50 = .ok (.invokevirtual 138, 3) := by decide +kernel
theorem dX11_look_53 : decode cX11_look 53 = .ok (.ifCond .ne 5, 3) := by decide +kernel
theorem dX11_look_56 : decode cX11_look 56 = .ok (.iconst 0, 1) := by decide +kernel
theorem dX11_look_57 : decode cX11_look 57 = .ok (.ireturn, 1) := by decide +kernel
theorem dX11_look_58 : decode cX11_look 58 = .ok (.iload_n 3, 1) := by decide +kernel
theorem dX11_look_59 : decode cX11_look 59 = .ok (.ifCond .eq 18, 3) := by decide +kernel
theorem dX11_look_62 : decode cX11_look 62 = .ok (.aload_n 0, 1) := by decide +kernel
theorem dX11_look_63 : decode cX11_look 63 = .ok (.getfield 35, 3) := by decide +kernel
theorem dX11_look_66 : decode cX11_look 66 = .ok (.iconst 4, 1) := by decide +kernel
theorem dX11_look_67 : decode cX11_look 67 = .ok (.iload_n 1, 1) := by decide +kernel
theorem dX11_look_68 : decode cX11_look 68 = .ok (.imul, 1) := by decide +kernel
theorem dX11_look_69 : decode cX11_look 69 = .ok (.iload_n 2, 1) := by decide +kernel
theorem dX11_look_70 : decode cX11_look 70 = .ok (.iadd, 1) := by decide +kernel
theorem dX11_look_71 : decode cX11_look 71 = .ok (.iload 4, 2) := by decide +kernel
theorem dX11_look_73 : decode cX11_look 73 = .ok (.iastore, 1) := by decide +kernel
theorem dX11_look_74 : decode cX11_look 74 = .ok (.goto 15, 3) := by decide +kernel
theorem dX11_look_77 : decode cX11_look 77 = .ok (.aload_n 0, 1) := by decide +kernel
theorem dX11_look_78 : decode cX11_look 78 = .ok (.getfield 38, 3) := by decide +kernel
theorem dX11_look_81 : decode cX11_look 81 = .ok (.iconst 4, 1) := by decide +kernel
theorem dX11_look_82 : decode cX11_look 82 = .ok (.iload_n 1, 1) := by decide +kernel
theorem dX11_look_83 : decode cX11_look 83 = .ok (.imul, 1) := by decide +kernel
theorem dX11_look_84 : decode cX11_look 84 = .ok (.iload_n 2, 1) := by decide +kernel
theorem dX11_look_85 : decode cX11_look 85 = .ok (.iadd, 1) := by decide +kernel
theorem dX11_look_86 : decode cX11_look 86 = .ok (.iload 4, 2) := by decide +kernel
theorem dX11_look_88 : decode cX11_look 88 = .ok (.iastore, 1) := by decide +kernel
theorem dX11_look_89 : decode cX11_look 89 = .ok (.aload_n 0, 1) := by decide +kernel
theorem dX11_look_90 : decode cX11_look 90 = .ok (.invokevirtual 154, 3) := by decide +kernel
theorem dX11_look_93 : decode cX11_look 93 = .ok (.invokestatic 151, 3) := by decide +kernel
theorem dX11_look_96 : decode cX11_look 96 = .ok (.ireturn, 1) := by decide +kernel
theorem dX11_clashes_0 : decode cX11_clashes 0 = .ok (.aload_n 0, 1) := by decide +kernel
theorem dX11_clashes_1 : decode cX11_clashes 1 = .ok (.aload_n 0, 1) := by decide +kernel
theorem dX11_clashes_2 : decode cX11_clashes 2 = .ok (.iload_n 1, 1) := by decide +kernel
theorem dX11_clashes_3 : decode cX11_clashes 3 = .ok (.invokevirtual 131, 3) := by decide +kernel
theorem dX11_clashes_6 : decode cX11_clashes 6 = .ok (.ifCond .eq 7, 3) := by decide +kernel
theorem dX11_clashes_9 : decode cX11_clashes 9 = .ok (.iconst 0, 1) := by decide +kernel
theorem dX11_clashes_10 : decode cX11_clashes 10 = .ok (.goto 4, 3) := by decide +kernel
theorem dX11_clashes_13 : decode cX11_clashes 13 = .ok (.iconst 1, 1) := by decide +kernel
theorem dX11_clashes_14 : decode cX11_clashes 14 = .ok (.invokevirtual 138, 3) := by decide +kernel
theorem dX11_clashes_17 : decode cX11_clashes 17 = .ok (.ifCond .eq 18, 3) := by decide +kernel
theorem dX11_clashes_20 : decode cX11_clashes 20 = .ok (.aload_n 0, 1) := by decide +kernel
theorem dX11_clashes_21 : decode cX11_clashes 21 = .ok (.invokevirtual 154, 3) := by decide +kernel
theorem dX11_clashes_24 : decode cX11_clashes 24 = .ok (.iload_n 1, 1) := by decide +kernel
theorem dX11_clashes_25 : decode cX11_clashes 25 = .ok (.invokestatic 158, 3) := by decide +kernel
theorem dX11_clashes_28 : decode cX11_clashes 28 = .ok (.ifCond .eq 7, 3) := by decide +kernel
theorem dX11_clashes_31 : decode cX11_clashes 31 = .ok (.iconst 1, 1) := by decide +kernel
theorem dX11_clashes_32 : decode cX11_clashes 32 = .ok (.goto 4, 3) := by decide +kernel
theorem dX11_clashes_35 : decode cX11_clashes 35 = .ok (.iconst 0, 1) := by decide +kernel
theorem dX11_clashes_36 : decode cX11_clashes 36 = .ok (.ireturn, 1) := by decide +kernel
theorem dX11_isBound_0 : decode cX11_isBound 0 = .ok (.aload_n 0, 1) := by decide +kernel
theorem dX11_isBound_1 : decode cX11_isBound 1 = .ok (.getfield 41, 3) := by decide +kernel
theorem dX11_isBound_4 : decode cX11_isBound 4 = .ok (.iload_n 1, 1) := by decide +kernel
theorem dX11_isBound_5 : decode cX11_isBound 5 = .ok (.iaload, 1) := by decide +kernel
theorem dX11_isBound_6 : decode cX11_isBound 6 = .ok (.istore_n 3, 1) := by decide +kernel
theorem dX11_isBound_7 : decode cX11_isBound 7 = .ok (.iconst 0, 1) := by decide +kernel
theorem dX11_isBound_8 : decode cX11_isBound 8 = .ok (.istore 4, 2) := by decide +kernel
theorem dX11_isBound_10 : decode cX11_isBound 10 = .ok (.iload_n 3, 1) := by decide +kernel
theorem dX11_isBound_11 : decode cX11_isBound 11 = .ok (.iload 4, 2) := by decide +kernel
theorem dX11_isBound_13 : decode cX11_isBound 13 = .ok (.if_icmp .eq 51, 3) := by decide +kernel
theorem dX11_isBound_16 : decode cX11_isBound 16 = .ok (.iload_n 3, 1) := by decide +kernel
theorem dX11_isBound_17 : decode cX11_isBound 17 = .ok (.istore 4, 2) := by decide +kernel
theorem dX11_isBound_19 : decode cX11_isBound 19 = .ok (.iconst 0, 1) := by decide +kernel
theorem dX11_isBound_20 : decode cX11_isBound 20 = .ok (.istore 5, 2) := by decide +kernel
theorem dX11_isBound_22 : decode cX11_isBound 22 = .ok (.iload 5, 2) := by decide +kernel
theorem dX11_isBound_24 : decode cX11_isBound 24 = .ok (.aload_n 0, 1) := by decide +kernel
theorem dX11_isBound_25 : decode cX11_isBound 25 = .ok (.getfield 114, 3) := by decide +kernel
theorem dX11_isBound_28 : decode cX11_isBound 28 = .ok (.if_icmp .ge 33, 3) := by decide +kernel
theorem dX11_isBound_31 : decode cX11_isBound 31 = .ok (.iload_n 3, 1) := by decide +kernel
theorem dX11_isBound_32 : decode cX11_isBound 32 = .ok (.iload 4, 2) := by decide +kernel
theorem dX11_isBound_34 : decode cX11_isBound 34 = .ok (.iload 5, 2) := by decide +kernel
theorem dX11_isBound_36 : decode cX11_isBound 36 = .ok (.invokestatic 158, 3) := by decide +kernel
theorem dX11_isBound_39 : decode cX11_isBound 39 = .ok (.ifCond .eq 13, 3) := by decide +kernel
theorem dX11_isBound_42 : decode cX11_isBound 42 = .ok (.aload_n 0, 1) := by decide +kernel
theorem dX11_isBound_43 : decode cX11_isBound 43 = .ok (.getfield 41, 3) := by decide +kernel
theorem dX11_isBound_46 : decode cX11_isBound 46 = .ok (.iload 5, 2) := by decide +kernel
theorem dX11_isBound_48 : decode cX11_isBound 48 = .ok (.iaload, 1) := by decide +kernel
theorem dX11_isBound_49 : decode cX11_isBound 49 = .ok (.goto 4, 3) := by decide +kernel
theorem dX11_isBound_52 : decode cX11_isBound 52 = .ok (.iconst 0, 1) := by decide +kernel
theorem dX11_isBound_53 : decode cX11_isBound 53 = .ok (.ior, 1) := by decide +kernel
theorem dX11_isBound_54 : decode cX11_isBound 54 = .ok (.istore_n 3, 1) := by decide +kernel
theorem dX11_isBound_55 : decode cX11_isBound 55 = .ok (.iinc 5 1, 3) := by decide +kernel
theorem dX11_isBound_58 : decode cX11_isBound 58 = .ok (.goto (-36), 3) := by decide +kernel
theorem dX11_isBound_61 : decode cX11_isBound 61 = .ok (.goto (-51), 3) := by decide +kernel
theorem dX11_isBound_64 : decode cX11_isBound 64 = .ok (.iload_n 3, 1) := by decide +kernel
theorem dX11_isBound_65 : decode cX11_isBound 65 = .ok (.iload_n 2, 1) := by decide +kernel
theorem dX11_isBound_66 : decode cX11_isBound 66 = .ok (.invokestatic 158, 3) := by decide +kernel
theorem dX11_isBound_69 : decode cX11_isBound 69 = .ok (.ireturn, 1) := by decide +kernel
theorem dX11_bind_0 : decode cX11_bind 0 = .ok (.aload_n 0, 1) := by decide +kernel
theorem dX11_bind_1 : decode cX11_bind 1 = .ok (.iload_n 1, 1) := by decide +kernel
theorem dX11_bind_2 : decode cX11_bind 2 = .ok (.invokevirtual 131, 3) := by decide +kernel
theorem dX11_bind_5 : decode cX11_bind 5 = .ok (.ifCond .eq 15, 3) := by decide +kernel
theorem dX11_bind_8 : decode cX11_bind 8 = .ok (.aload_n 0, 1) := by decide +kernel
theorem dX11_bind_9 : decode cX11_bind 9 = .ok (.iload_n 2, 1) := by decide +kernel
theorem dX11_bind_10 : decode cX11_bind 10 = .ok (.invokevirtual 131, 3) := by decide +kernel
theorem dX11_bind_13 : decode cX11_bind 13 = .ok (.ifCond .eq 7, 3) := by decide +kernel
theorem dX11_bind_16 : decode cX11_bind 16 = .ok (.iconst 1, 1) := by decide +kernel
theorem dX11_bind_17 : decode cX11_bind 17 = .ok (.goto 4, 3) := by decide +kernel
theorem dX11_bind_20 : decode cX11_bind 20 = .ok (.iconst 0, 1) := by decide +kernel
theorem dX11_bind_21 : decode cX11_bind 21 = .ok (.istore_n 3, 1) := by decide +kernel
theorem dX11_bind_22 : decode cX11_bind 22 = .ok (.aload_n 0, 1) := by decide +kernel
theorem dX11_bind_23 : decode cX11_bind 23 = .ok (.iload_n 3, 1) := by decide +kernel
theorem dX11_bind_24 : decode cX11_bind 24 = .ok (.ifCond .ne 7, 3) := by decide +kernel
theorem dX11_bind_27 : decode cX11_bind 27 = .ok (.iconst 1, 1) := by decide +kernel
theorem dX11_bind_28 : decode cX11_bind 28 = .ok (.goto 22, 3) := by decide +kernel
theorem dX11_bind_31 : decode cX11_bind 31 = .ok (.iload_n 1, 1) := by decide +kernel
theorem dX11_bind_32 : decode cX11_bind 32 = .ok (.iload_n 2, 1) := by decide +kernel
theorem dX11_bind_33 : decode cX11_bind 33 = .ok (.if_icmp .eq 12, 3) := by decide +kernel
theorem dX11_bind_36 : decode cX11_bind 36 = .ok (.aload_n 0, 1) := by decide +kernel
theorem dX11_bind_37 : decode cX11_bind 37 = .ok (.iload_n 2, 1) := by decide +kernel
theorem dX11_bind_38 : decode cX11_bind 38 = .ok (.iload_n 1, 1) := by decide +kernel
theorem dX11_bind_39 : decode cX11_bind 39 = .ok (.invokevirtual 162, 3) := by decide +kernel
theorem dX11_bind_42 : decode cX11_bind 42 = .ok (.ifCond .eq 7, 3) := by decide +kernel
theorem dX11_bind_45 : decode cX11_bind 45 = .ok (.iconst 2, 1) := by decide +kernel
theorem dX11_bind_46 : decode cX11_bind 46 = .ok (.goto 4, 3) := by decide +kernel
theorem dX11_bind_49 : decode cX11_bind 49 = .ok (.iconst 0, 1) := by decide +kernel
theorem dX11_bind_50 : decode cX11_bind 50 = .ok (.invokevirtual 138, 3) := by decide +kernel
theorem dX11_bind_53 : decode cX11_bind 53 = .ok (.ifCond .ne 5, 3) := by decide +kernel
theorem dX11_bind_56 : decode cX11_bind 56 = .ok (.iconst 0, 1) := by decide +kernel
theorem dX11_bind_57 : decode cX11_bind 57 = .ok (.ireturn, 1) := by decide +kernel
theorem dX11_bind_58 : decode cX11_bind 58 = .ok (.aload_n 0, 1) := by decide +kernel
theorem dX11_bind_59 : decode cX11_bind 59 = .ok (.getfield 41, 3) := by decide +kernel
theorem dX11_bind_62 : decode cX11_bind 62 = .ok (.iload_n 1, 1) := by decide +kernel
theorem dX11_bind_63 : decode cX11_bind 63 = .ok (.dup2, 1) := by decide +kernel
theorem dX11_bind_64 : decode cX11_bind 64 = .ok (.iaload, 1) := by decide +kernel
theorem dX11_bind_65 : decode cX11_bind 65 = .ok (.iconst 1, 1) := by decide +kernel
theorem dX11_bind_66 : decode cX11_bind 66 = .ok (.iload_n 2, 1) := by decide +kernel
theorem dX11_bind_67 : decode cX11_bind 67 = .ok (.ishl, 1) := by decide +kernel
theorem dX11_bind_68 : decode cX11_bind 68 = .ok (.ior, 1) := by decide +kernel
theorem dX11_bind_69 : decode cX11_bind 69 = .ok (.iastore, 1) := by decide +kernel
theorem dX11_bind_70 : decode cX11_bind 70 = .ok (.aload_n 0, 1) := by decide +kernel
theorem dX11_bind_71 : decode cX11_bind 71 = .ok (.getfield 41, 3) := by decide +kernel
theorem dX11_bind_74 : decode cX11_bind 74 = .ok (.iload_n 1, 1) := by decide +kernel
theorem dX11_bind_75 : decode cX11_bind 75 = .ok (.iaload, 1) := by decide +kernel
theorem dX11_bind_76 : decode cX11_bind 76 = .ok (.invokestatic 151, 3) := by decide +kernel
theorem dX11_bind_79 : decode cX11_bind 79 = .ok (.ireturn, 1) := by decide +kernel
theorem dX11_person_0 : decode cX11_person 0 = .ok (.iload_n 1, 1) := by decide +kernel
theorem dX11_person_1 : decode cX11_person 1 = .ok (.iconst 0, 1) := by decide +kernel
theorem dX11_person_2 : decode cX11_person 2 = .ok (.iconst 2, 1) := by decide +kernel
theorem dX11_person_3 : decode cX11_person 3 = .ok (.invokestatic 117, 3) := by decide +kernel
theorem dX11_person_6 : decode cX11_person 6 = .ok (.ifCond .eq 29, 3) := by decide +kernel
theorem dX11_person_9 : decode cX11_person 9 = .ok (.iload_n 2, 1) := by decide +kernel
theorem dX11_person_10 : decode cX11_person 10 = .ok (.iconst 1, 1) := by decide +kernel
theorem dX11_person_11 : decode cX11_person 11 = .ok (.sipush 1000, 3) := by decide +kernel
theorem dX11_person_14 : decode cX11_person 14 = .ok (.invokestatic 117, 3) := by decide +kernel
theorem dX11_person_17 : decode cX11_person 17 = .ok (.ifCond .eq 18, 3) := by decide +kernel
theorem dX11_person_20 : decode cX11_person 20 = .ok (.iload_n 3, 1) := by decide +kernel
theorem dX11_person_21 : decode cX11_person 21 = .ok (.iconst 0, 1) := by decide +kernel
theorem dX11_person_22 : decode cX11_person 22 = .ok (.sipush 180, 3) := by decide +kernel
theorem dX11_person_25 : decode cX11_person 25 = .ok (.invokestatic 117, 3) := by decide +kernel
theorem dX11_person_28 : decode cX11_person 28 = .ok (.ifCond .eq 7, 3) := by decide +kernel
theorem dX11_person_31 : decode cX11_person 31 = .ok (.iconst 1, 1) := by decide +kernel
theorem dX11_person_32 : decode cX11_person 32 = .ok (.goto 4, 3) := by decide +kernel
theorem dX11_person_35 : decode cX11_person 35 = .ok (.iconst 0, 1) := by decide +kernel
theorem dX11_person_36 : decode cX11_person 36 = .ok (.istore 5, 2) := by decide +kernel
theorem dX11_person_38 : decode cX11_person 38 = .ok (.aload_n 0, 1) := by decide +kernel
theorem dX11_person_39 : decode cX11_person 39 = .ok (.iload 5, 2) := by decide +kernel
theorem dX11_person_41 : decode cX11_person 41 = .ok (.ifCond .ne 7, 3) := by decide +kernel
theorem dX11_person_44 : decode cX11_person 44 = .ok (.iconst 1, 1) := by decide +kernel
theorem dX11_person_45 : decode cX11_person 45 = .ok (.goto 17, 3) := by decide +kernel
theorem dX11_person_48 : decode cX11_person 48 = .ok (.aload_n 0, 1) := by decide +kernel
theorem dX11_person_49 : decode cX11_person 49 = .ok (.getfield 121, 3) := by decide +kernel
theorem dX11_person_52 : decode cX11_person 52 = .ok (.bipush 8, 2) := by decide +kernel
theorem dX11_person_54 : decode cX11_person 54 = .ok (.if_icmp .ne 7, 3) := by decide +kernel
theorem dX11_person_57 : decode cX11_person 57 = .ok (.iconst 2, 1) := by decide +kernel
theorem dX11_person_58 : decode cX11_person 58 = .ok (.goto 4, 3) := by decide +kernel
theorem dX11_person_61 : decode cX11_person 61 = .ok (.iconst 0, 1) := by decide +kernel
theorem dX11_person_62 : decode cX11_person 62 = .ok (.invokevirtual 138, 3) := by decide +kernel
theorem dX11_person_65 : decode cX11_person 65 = .ok (.ifCond .ne 5, 3) := by decide +kernel
theorem dX11_person_68 : decode cX11_person 68 = .ok (.iconst 0, 1) := by decide +kernel
theorem dX11_person_69 : decode cX11_person 69 = .ok (.ireturn, 1) := by decide +kernel
theorem dX11_person_70 : decode cX11_person 70 = .ok (.aload_n 0, 1) := by decide +kernel
theorem dX11_person_71 : decode cX11_person 71 = .ok (.getfield 59, 3) := by decide +kernel
theorem dX11_person_74 : decode cX11_person 74 = .ok (.aload_n 0, 1) := by decide +kernel
theorem dX11_person_75 : decode cX11_person 75 = .ok (.getfield 121, 3) := by decide +kernel
theorem dX11_person_78 : decode cX11_person 78 = .ok (.iload_n 1, 1) := by decide +kernel
theorem dX11_person_79 : decode cX11_person 79 = .ok (.iastore, 1) := by decide +kernel
theorem dX11_person_80 : decode cX11_person 80 = .ok (.aload_n 0, 1) := by decide +kernel
theorem dX11_person_81 : decode cX11_person 81 = .ok (.getfield 62, 3) := by decide +kernel
theorem dX11_person_84 : decode cX11_person 84 = .ok (.aload_n 0, 1) := by decide +kernel
theorem dX11_person_85 : decode cX11_person 85 = .ok (.getfield 121, 3) := by decide +kernel
theorem dX11_person_88 : decode cX11_person 88 = .ok (.iload_n 2, 1) := by decide +kernel
theorem dX11_person_89 : decode cX11_person 89 = .ok (.iastore, 1) := by decide +kernel
theorem dX11_person_90 : decode cX11_person 90 = .ok (.aload_n 0, 1) := by decide +kernel
theorem dX11_person_91 : decode cX11_person 91 = .ok (.getfield 65, 3) := by decide +kernel
theorem dX11_person_94 : decode cX11_person 94 = .ok (.aload_n 0, 1) := by decide +kernel
theorem dX11_person_95 : decode cX11_person 95 = .ok (.getfield 121, 3) := by decide +kernel
theorem dX11_person_98 : decode cX11_person 98 = .ok (.iload_n 3, 1) := by decide +kernel
theorem dX11_person_99 : decode cX11_person 99 = .ok (.iastore, 1) := by decide +kernel
theorem dX11_person_100 : decode cX11_person 100 = .ok (.aload_n 0, 1) := by decide +kernel
theorem dX11_person_101 : decode cX11_person 101 = .ok (.getfield 68, 3) := by decide +kernel
theorem dX11_person_104 : decode cX11_person 104 = .ok (.aload_n 0, 1) := by decide +kernel
theorem dX11_person_105 : decode cX11_person 105 = .ok (.getfield 121, 3) := by decide +kernel
theorem dX11_person_108 : decode cX11_person 108 = .ok (.iload 4, 2) := by decide +kernel
theorem dX11_person_110 : decode cX11_person 110 = .ok (.bastore, 1) := by decide +kernel
theorem dX11_person_111 : decode cX11_person 111 = .ok (.aload_n 0, 1) := by decide +kernel
theorem dX11_person_112 : decode cX11_person 112 = .ok (.dup, 1) := by decide +kernel
theorem dX11_person_113 : decode cX11_person 113 = .ok (.getfield 121, 3) := by decide +kernel
theorem dX11_person_116 : decode cX11_person 116 = .ok (.iconst 1, 1) := by decide +kernel
theorem dX11_person_117 : decode cX11_person 117 = .ok (.iadd, 1) := by decide +kernel
theorem dX11_person_118 : decode cX11_person 118 = .ok (.putfield 121, 3) := by decide +kernel
theorem dX11_person_121 : decode cX11_person 121 = .ok (.aload_n 0, 1) := by decide +kernel
theorem dX11_person_122 : decode cX11_person 122 = .ok (.getfield 121, 3) := by decide +kernel
theorem dX11_person_125 : decode cX11_person 125 = .ok (.iconst 1, 1) := by decide +kernel
theorem dX11_person_126 : decode cX11_person 126 = .ok (.isub, 1) := by decide +kernel
theorem dX11_person_127 : decode cX11_person 127 = .ok (.ireturn, 1) := by decide +kernel
theorem dX11_ill_0 : decode cX11_ill 0 = .ok (.aload_n 0, 1) := by decide +kernel
theorem dX11_ill_1 : decode cX11_ill 1 = .ok (.aload_n 0, 1) := by decide +kernel
theorem dX11_ill_2 : decode cX11_ill 2 = .ok (.iload_n 1, 1) := by decide +kernel
theorem dX11_ill_3 : decode cX11_ill 3 = .ok (.invokevirtual 165, 3) := by decide +kernel
theorem dX11_ill_6 : decode cX11_ill 6 = .ok (.ifCond .eq 14, 3) := by decide +kernel
theorem dX11_ill_9 : decode cX11_ill 9 = .ok (.iload_n 2, 1) := by decide +kernel
theorem dX11_ill_10 : decode cX11_ill 10 = .ok (.invokestatic 168, 3) := by decide +kernel
theorem dX11_ill_13 : decode cX11_ill 13 = .ok (.ifCond .eq 7, 3) := by decide +kernel
theorem dX11_ill_16 : decode cX11_ill 16 = .ok (.iconst 0, 1) := by decide +kernel
theorem dX11_ill_17 : decode cX11_ill 17 = .ok (.goto 4, 3) := by decide +kernel
theorem dX11_ill_20 : decode cX11_ill 20 = .ok (.iconst 1, 1) := by decide +kernel
theorem dX11_ill_21 : decode cX11_ill 21 = .ok (.invokevirtual 138, 3) := by decide +kernel
theorem dX11_ill_24 : decode cX11_ill 24 = .ok (.ifCond .ne 5, 3) := by decide +kernel
theorem dX11_ill_27 : decode cX11_ill 27 = .ok (.iconst 0, 1) := by decide +kernel
theorem dX11_ill_28 : decode cX11_ill 28 = .ok (.ireturn, 1) := by decide +kernel
theorem dX11_ill_29 : decode cX11_ill 29 = .ok (.aload_n 0, 1) := by decide +kernel
theorem dX11_ill_30 : decode cX11_ill 30 = .ok (.getfield 71, 3) := by decide +kernel
theorem dX11_ill_33 : decode cX11_ill 33 = .ok (.iload_n 1, 1) := by decide +kernel
theorem dX11_ill_34 : decode cX11_ill 34 = .ok (.iload_n 3, 1) := by decide +kernel
theorem dX11_ill_35 : decode cX11_ill 35 = .ok (.ifCond .eq 16, 3) := by decide +kernel
theorem dX11_ill_38 : decode cX11_ill 38 = .ok (.aload_n 0, 1) := by decide +kernel
theorem dX11_ill_39 : decode cX11_ill 39 = .ok (.getfield 71, 3) := by decide +kernel
theorem dX11_ill_42 : decode cX11_ill 42 = .ok (.iload_n 1, 1) := by decide +kernel
theorem dX11_ill_43 : decode cX11_ill 43 = .ok (.iaload, 1) := by decide +kernel
theorem dX11_ill_44 : decode cX11_ill 44 = .ok (.iconst 1, 1) := by decide +kernel
theorem dX11_ill_45 : decode cX11_ill 45 = .ok (.iload_n 2, 1) := by decide +kernel
theorem dX11_ill_46 : decode cX11_ill 46 = .ok (.ishl, 1) := by decide +kernel
theorem dX11_ill_47 : decode cX11_ill 47 = .ok (.ior, 1) := by decide +kernel
theorem dX11_ill_48 : decode cX11_ill 48 = .ok (.goto 15, 3) := by decide +kernel
theorem dX11_ill_51 : decode cX11_ill 51 = .ok (.aload_n 0, 1) := by decide +kernel
theorem dX11_ill_52 : decode cX11_ill 52 = .ok (.getfield 71, 3) := by decide +kernel
theorem dX11_ill_55 : decode cX11_ill 55 = .ok (.iload_n 1, 1) := by decide +kernel
theorem dX11_ill_56 : decode cX11_ill 56 = .ok (.iaload, 1) := by decide +kernel
theorem dX11_ill_57 : decode cX11_ill 57 = .ok (.iconst 1, 1) := by decide +kernel
theorem dX11_ill_58 : decode cX11_ill 58 = .ok (.iload_n 2, 1) := by decide +kernel
theorem dX11_ill_59 : decode cX11_ill 59 = .ok (.ishl, 1) := by decide +kernel
theorem dX11_ill_60 : decode cX11_ill 60 = .ok (.iconst (-1), 1) := by decide +kernel
theorem dX11_ill_61 : decode cX11_ill 61 = .ok (.ixor, 1) := by decide +kernel
theorem dX11_ill_62 : decode cX11_ill 62 = .ok (.iand, 1) := by decide +kernel
theorem dX11_ill_63 : decode cX11_ill 63 = .ok (.iastore, 1) := by decide +kernel
theorem dX11_ill_64 : decode cX11_ill 64 = .ok (.aload_n 0, 1) := by decide +kernel
theorem dX11_ill_65 : decode cX11_ill 65 = .ok (.getfield 71, 3) := by decide +kernel
theorem dX11_ill_68 : decode cX11_ill 68 = .ok (.iload_n 1, 1) := by decide +kernel
theorem dX11_ill_69 : decode cX11_ill 69 = .ok (.iaload, 1) := by decide +kernel
theorem dX11_ill_70 : decode cX11_ill 70 = .ok (.invokestatic 151, 3) := by decide +kernel
theorem dX11_ill_73 : decode cX11_ill 73 = .ok (.ireturn, 1) := by decide +kernel
theorem dX11_place_0 : decode cX11_place 0 = .ok (.aload_n 0, 1) := by decide +kernel
theorem dX11_place_1 : decode cX11_place 1 = .ok (.iload_n 1, 1) := by decide +kernel
theorem dX11_place_2 : decode cX11_place 2 = .ok (.iconst 0, 1) := by decide +kernel
theorem dX11_place_3 : decode cX11_place 3 = .ok (.sipush 1000, 3) := by decide +kernel
theorem dX11_place_6 : decode cX11_place 6 = .ok (.invokestatic 117, 3) := by decide +kernel
theorem dX11_place_9 : decode cX11_place 9 = .ok (.ifCond .ne 7, 3) := by decide +kernel
theorem dX11_place_12 : decode cX11_place 12 = .ok (.iconst 1, 1) := by decide +kernel
theorem dX11_place_13 : decode cX11_place 13 = .ok (.goto 17, 3) := by decide +kernel
theorem dX11_place_16 : decode cX11_place 16 = .ok (.aload_n 0, 1) := by decide +kernel
theorem dX11_place_17 : decode cX11_place 17 = .ok (.getfield 124, 3) := by decide +kernel
theorem dX11_place_20 : decode cX11_place 20 = .ok (.bipush 6, 2) := by decide +kernel
theorem dX11_place_22 : decode cX11_place 22 = .ok (.if_icmp .ne 7, 3) := by decide +kernel
theorem dX11_place_25 : decode cX11_place 25 = .ok (.iconst 2, 1) := by decide +kernel
theorem dX11_place_26 : decode cX11_place 26 = .ok (.goto 4, 3) := by decide +kernel
theorem dX11_place_29 : decode cX11_place 29 = .ok (.iconst 0, 1) := by decide +kernel
theorem dX11_place_30 : decode cX11_place 30 = .ok (.invokevirtual 138, 3) := by decide +kernel
theorem dX11_place_33 : decode cX11_place 33 = .ok (.ifCond .ne 5, 3) := by decide +kernel
theorem dX11_place_36 : decode cX11_place 36 = .ok (.iconst 0, 1) := by decide +kernel
theorem dX11_place_37 : decode cX11_place 37 = .ok (.ireturn, 1) := by decide +kernel
theorem dX11_place_38 : decode cX11_place 38 = .ok (.aload_n 0, 1) := by decide +kernel
theorem dX11_place_39 : decode cX11_place 39 = .ok (.getfield 74, 3) := by decide +kernel
theorem dX11_place_42 : decode cX11_place 42 = .ok (.aload_n 0, 1) := by decide +kernel
theorem dX11_place_43 : decode cX11_place 43 = .ok (.getfield 124, 3) := by decide +kernel
theorem dX11_place_46 : decode cX11_place 46 = .ok (.iload_n 1, 1) := by decide +kernel
theorem dX11_place_47 : decode cX11_place 47 = .ok (.iastore, 1) := by decide +kernel
theorem dX11_place_48 : decode cX11_place 48 = .ok (.aload_n 0, 1) := by decide +kernel
theorem dX11_place_49 : decode cX11_place 49 = .ok (.getfield 77, 3) := by decide +kernel
theorem dX11_place_52 : decode cX11_place 52 = .ok (.aload_n 0, 1) := by decide +kernel
theorem dX11_place_53 : decode cX11_place 53 = .ok (.getfield 124, 3) := by decide +kernel
theorem dX11_place_56 : decode cX11_place 56 = .ok (.ldc 171, 2) := by decide +kernel
theorem dX11_place_58 : decode cX11_place 58 = .ok (.iastore, 1) := by decide +kernel
theorem dX11_place_59 : decode cX11_place 59 = .ok (.aload_n 0, 1) := by decide +kernel
theorem dX11_place_60 : decode cX11_place 60 = .ok (.dup, 1) := by decide +kernel
theorem dX11_place_61 : decode cX11_place 61 = .ok (.getfield 124, 3) := by decide +kernel
