theorem dX0_init_0 : decode cX0_init 0 = .ok (.aload_n 0, 1) := by decide +kernel
theorem dX0_init_1 : decode cX0_init 1 = .ok (.invokespecial 3, 3) := by decide +kernel
theorem dX0_init_4 : decode cX0_init 4 = .ok (.aload_n 0, 1) := by decide +kernel
theorem dX0_init_5 : decode cX0_init 5 = .ok (.new 9, 3) := by decide +kernel
theorem dX0_init_8 : decode cX0_init 8 = .ok (.dup, 1) := by decide +kernel
theorem dX0_init_9 : decode cX0_init 9 = .ok (.invokespecial 11, 3) := by decide +kernel
theorem dX0_init_12 : decode cX0_init 12 = .ok (.putfield 12, 3) := by decide +kernel
theorem dX0_init_15 : decode cX0_init 15 = .ok (.aload_n 0, 1) := by decide +kernel
theorem dX0_init_16 : decode cX0_init 16 = .ok (.bipush 30, 2) := by decide +kernel
theorem dX0_init_18 : decode cX0_init 18 = .ok (.anewarray 18, 3) := by decide +kernel
theorem dX0_init_21 : decode cX0_init 21 = .ok (.putfield 20, 3) := by decide +kernel
theorem dX0_init_24 : decode cX0_init 24 = .ok (.aload_n 0, 1) := by decide +kernel
theorem dX0_init_25 : decode cX0_init 25 = .ok (.aload_n 1, 1) := by decide +kernel
theorem dX0_init_26 : decode cX0_init 26 = .ok (.putfield 24, 3) := by decide +kernel
theorem dX0_init_29 : decode cX0_init 29 = .ok (.aload_n 0, 1) := by decide +kernel
theorem dX0_init_30 : decode cX0_init 30 = .ok (.new 28, 3) := by decide +kernel
theorem dX0_init_33 : decode cX0_init 33 = .ok (.dup, 1) := by decide +kernel
theorem dX0_init_34 : decode cX0_init 34 = .ok (.aload_n 1, 1) := by decide +kernel
theorem dX0_init_35 : decode cX0_init 35 = .ok (.aload_n 2, 1) := by decide +kernel
theorem dX0_init_36 : decode cX0_init 36 = .ok (.aload_n 3, 1) := by decide +kernel
theorem dX0_init_37 : decode cX0_init 37 = .ok (.aload_n 0, 1) := by decide +kernel
theorem dX0_init_38 : decode cX0_init 38 = .ok (.getfield 12, 3) := by decide +kernel
theorem dX0_init_41 : decode cX0_init 41 = .ok (.invokespecial 30, 3) := by decide +kernel
theorem dX0_init_44 : decode cX0_init 44 = .ok (.putfield 33, 3) := by decide +kernel
theorem dX0_init_47 : decode cX0_init 47 = .ok (.iconst 0, 1) := by decide +kernel
theorem dX0_init_48 : decode cX0_init 48 = .ok (.istore 4, 2) := by decide +kernel
theorem dX0_init_50 : decode cX0_init 50 = .ok (.iload 4, 2) := by decide +kernel
theorem dX0_init_52 : decode cX0_init 52 = .ok (.bipush 30, 2) := by decide +kernel
theorem dX0_init_54 : decode cX0_init 54 = .ok (.if_icmp .ge 23, 3) := by decide +kernel
theorem dX0_init_57 : decode cX0_init 57 = .ok (.aload_n 0, 1) := by decide +kernel
theorem dX0_init_58 : decode cX0_init 58 = .ok (.getfield 20, 3) := by decide +kernel
theorem dX0_init_61 : decode cX0_init 61 = .ok (.iload 4, 2) := by decide +kernel
theorem dX0_init_63 : decode cX0_init 63 = .ok (.new 18, 3) := by decide +kernel
theorem dX0_init_66 : decode cX0_init 66 = .ok (.dup, 1) := by decide +kernel
theorem dX0_init_67 : decode cX0_init 67 = .ok (.invokespecial 37, 3) := by decide +kernel
theorem dX0_init_70 : decode cX0_init 70 = .ok (.aastore, 1) := by decide +kernel
theorem dX0_init_71 : decode cX0_init 71 = .ok (.iinc 4 1, 3) := by decide +kernel
theorem dX0_init_74 : decode cX0_init 74 = .ok (.goto (-24), 3) := by decide +kernel
theorem dX0_init_77 : decode cX0_init 77 = .ok (.return_, 1) := by decide +kernel
theorem dX0_tellIll_0 : decode cX0_tellIll 0 = .ok (.aload_n 0, 1) := by decide +kernel
theorem dX0_tellIll_1 : decode cX0_tellIll 1 = .ok (.getfield 20, 3) := by decide +kernel
theorem dX0_tellIll_4 : decode cX0_tellIll 4 = .ok (.iload_n 2, 1) := by decide +kernel
theorem dX0_tellIll_5 : decode cX0_tellIll 5 = .ok (.aaload, 1) := by decide +kernel
theorem dX0_tellIll_6 : decode cX0_tellIll 6 = .ok (.aload_n 0, 1) := by decide +kernel
theorem dX0_tellIll_7 : decode cX0_tellIll 7 = .ok (.getfield 20, 3) := by decide +kernel
theorem dX0_tellIll_10 : decode cX0_tellIll 10 = .ok (.iload_n 2, 1) := by decide +kernel
theorem dX0_tellIll_11 : decode cX0_tellIll 11 = .ok (.aaload, 1) := by decide +kernel
theorem dX0_tellIll_12 : decode cX0_tellIll 12 = .ok (.getfield 38, 3) := by decide +kernel
theorem dX0_tellIll_15 : decode cX0_tellIll 15 = .ok (.iload_n 1, 1) := by decide +kernel
theorem dX0_tellIll_16 : decode cX0_tellIll 16 = .ok (.iload_n 3, 1) := by decide +kernel
theorem dX0_tellIll_17 : decode cX0_tellIll 17 = .ok (.invokestatic 42, 3) := by decide +kernel
theorem dX0_tellIll_20 : decode cX0_tellIll 20 = .ok (.putfield 38, 3) := by decide +kernel
theorem dX0_tellIll_23 : decode cX0_tellIll 23 = .ok (.iconst 0, 1) := by decide +kernel
theorem dX0_tellIll_24 : decode cX0_tellIll 24 = .ok (.istore 4, 2) := by decide +kernel
theorem dX0_tellIll_26 : decode cX0_tellIll 26 = .ok (.iconst 0, 1) := by decide +kernel
theorem dX0_tellIll_27 : decode cX0_tellIll 27 = .ok (.istore 5, 2) := by decide +kernel
theorem dX0_tellIll_29 : decode cX0_tellIll 29 = .ok (.iload 5, 2) := by decide +kernel
theorem dX0_tellIll_31 : decode cX0_tellIll 31 = .ok (.bipush 30, 2) := by decide +kernel
theorem dX0_tellIll_33 : decode cX0_tellIll 33 = .ok (.if_icmp .ge 29, 3) := by decide +kernel
theorem dX0_tellIll_36 : decode cX0_tellIll 36 = .ok (.aload_n 0, 1) := by decide +kernel
theorem dX0_tellIll_37 : decode cX0_tellIll 37 = .ok (.getfield 20, 3) := by decide +kernel
theorem dX0_tellIll_40 : decode cX0_tellIll 40 = .ok (.iload 5, 2) := by decide +kernel
theorem dX0_tellIll_42 : decode cX0_tellIll 42 = .ok (.aaload, 1) := by decide +kernel
theorem dX0_tellIll_43 : decode cX0_tellIll 43 = .ok (.getfield 38, 3) := by decide +kernel
theorem dX0_tellIll_46 : decode cX0_tellIll 46 = .ok (.iload_n 1, 1) := by decide +kernel
theorem dX0_tellIll_47 : decode cX0_tellIll 47 = .ok (.invokestatic 46, 3) := by decide +kernel
theorem dX0_tellIll_50 : decode cX0_tellIll 50 = .ok (.ifCond .eq 6, 3) := by decide +kernel
theorem dX0_tellIll_53 : decode cX0_tellIll 53 = .ok (.iinc 4 1, 3) := by decide +kernel
theorem dX0_tellIll_56 : decode cX0_tellIll 56 = .ok (.iinc 5 1, 3) := by decide +kernel
theorem dX0_tellIll_59 : decode cX0_tellIll 59 = .ok (.goto (-30), 3) := by decide +kernel
theorem dX0_tellIll_62 : decode cX0_tellIll 62 = .ok (.iload 4, 2) := by decide +kernel
theorem dX0_tellIll_64 : decode cX0_tellIll 64 = .ok (.ireturn, 1) := by decide +kernel
theorem dX0_tellAllowed_0 : decode cX0_tellAllowed 0 = .ok (.aload_n 0, 1) := by decide +kernel
theorem dX0_tellAllowed_1 : decode cX0_tellAllowed 1 = .ok (.getfield 20, 3) := by decide +kernel
theorem dX0_tellAllowed_4 : decode cX0_tellAllowed 4 = .ok (.iload_n 2, 1) := by decide +kernel
theorem dX0_tellAllowed_5 : decode cX0_tellAllowed 5 = .ok (.aaload, 1) := by decide +kernel
theorem dX0_tellAllowed_6 : decode cX0_tellAllowed 6 = .ok (.aload_n 0, 1) := by decide +kernel
theorem dX0_tellAllowed_7 : decode cX0_tellAllowed 7 = .ok (.getfield 20, 3) := by decide +kernel
theorem dX0_tellAllowed_10 : decode cX0_tellAllowed 10 = .ok (.iload_n 2, 1) := by decide +kernel
theorem dX0_tellAllowed_11 : decode cX0_tellAllowed 11 = .ok (.aaload, 1) := by decide +kernel
theorem dX0_tellAllowed_12 : decode cX0_tellAllowed 12 = .ok (.getfield 50, 3) := by decide +kernel
theorem dX0_tellAllowed_15 : decode cX0_tellAllowed 15 = .ok (.iload_n 1, 1) := by decide +kernel
theorem dX0_tellAllowed_16 : decode cX0_tellAllowed 16 = .ok (.iload_n 3, 1) := by decide +kernel
theorem dX0_tellAllowed_17 : decode cX0_tellAllowed 17 = .ok (.ifCond .ne 7, 3) := by decide +kernel
theorem dX0_tellAllowed_20 : decode cX0_tellAllowed 20 = .ok (.iconst 1, 1) := by decide +kernel
theorem dX0_tellAllowed_21 : decode cX0_tellAllowed 21 = .ok (.goto 4, 3) := by decide +kernel
theorem dX0_tellAllowed_24 : decode cX0_tellAllowed 24 = .ok (.iconst 0, 1) := by decide +kernel
theorem dX0_tellAllowed_25 : decode cX0_tellAllowed 25 = .ok (.invokestatic 42, 3) := by decide +kernel
theorem dX0_tellAllowed_28 : decode cX0_tellAllowed 28 = .ok (.putfield 50, 3) := by decide +kernel
theorem dX0_tellAllowed_31 : decode cX0_tellAllowed 31 = .ok (.iconst 0, 1) := by decide +kernel
theorem dX0_tellAllowed_32 : decode cX0_tellAllowed 32 = .ok (.istore 4, 2) := by decide +kernel
theorem dX0_tellAllowed_34 : decode cX0_tellAllowed 34 = .ok (.iconst 0, 1) := by decide +kernel
theorem dX0_tellAllowed_35 : decode cX0_tellAllowed 35 = .ok (.istore 5, 2) := by decide +kernel
theorem dX0_tellAllowed_37 : decode cX0_tellAllowed 37 = .ok (.iload 5, 2) := by decide +kernel
theorem dX0_tellAllowed_39 : decode cX0_tellAllowed 39 = .ok (.bipush 30, 2) := by decide +kernel
theorem dX0_tellAllowed_41 : decode cX0_tellAllowed 41 = .ok (.if_icmp .ge 29, 3) := by decide +kernel
theorem dX0_tellAllowed_44 : decode cX0_tellAllowed 44 = .ok (.aload_n 0, 1) := by decide +kernel
theorem dX0_tellAllowed_45 : decode cX0_tellAllowed 45 = .ok (.getfield 20, 3) := by decide +kernel
theorem dX0_tellAllowed_48 : decode cX0_tellAllowed 48 = .ok (.iload 5, 2) := by decide +kernel
theorem dX0_tellAllowed_50 : decode cX0_tellAllowed 50 = .ok (.aaload, 1) := by decide +kernel
theorem dX0_tellAllowed_51 : decode cX0_tellAllowed 51 = .ok (.getfield 50, 3) := by decide +kernel
theorem dX0_tellAllowed_54 : decode cX0_tellAllowed 54 = .ok (.iload_n 1, 1) := by decide +kernel
theorem dX0_tellAllowed_55 : decode cX0_tellAllowed 55 = .ok (.invokestatic 46, 3) := by decide +kernel
theorem dX0_tellAllowed_58 : decode cX0_tellAllowed 58 = .ok (.ifCond .ne 6, 3) := by decide +kernel
theorem dX0_tellAllowed_61 : decode cX0_tellAllowed 61 = .ok (.iinc 4 1, 3) := by decide +kernel
theorem dX0_tellAllowed_64 : decode cX0_tellAllowed 64 = .ok (.iinc 5 1, 3) := by decide +kernel
theorem dX0_tellAllowed_67 : decode cX0_tellAllowed 67 = .ok (.goto (-30), 3) := by decide +kernel
theorem dX0_tellAllowed_70 : decode cX0_tellAllowed 70 = .ok (.iload 4, 2) := by decide +kernel
theorem dX0_tellAllowed_72 : decode cX0_tellAllowed 72 = .ok (.ireturn, 1) := by decide +kernel
theorem dX0_putOn_0 : decode cX0_putOn 0 = .ok (.aload_n 0, 1) := by decide +kernel
theorem dX0_putOn_1 : decode cX0_putOn 1 = .ok (.getfield 20, 3) := by decide +kernel
theorem dX0_putOn_4 : decode cX0_putOn 4 = .ok (.iload_n 2, 1) := by decide +kernel
theorem dX0_putOn_5 : decode cX0_putOn 5 = .ok (.aaload, 1) := by decide +kernel
theorem dX0_putOn_6 : decode cX0_putOn 6 = .ok (.iload_n 1, 1) := by decide +kernel
theorem dX0_putOn_7 : decode cX0_putOn 7 = .ok (.iload_n 3, 1) := by decide +kernel
theorem dX0_putOn_8 : decode cX0_putOn 8 = .ok (.invokevirtual 53, 3) := by decide +kernel
theorem dX0_putOn_11 : decode cX0_putOn 11 = .ok (.aload_n 0, 1) := by decide +kernel
theorem dX0_putOn_12 : decode cX0_putOn 12 = .ok (.getfield 24, 3) := by decide +kernel
theorem dX0_putOn_15 : decode cX0_putOn 15 = .ok (.getfield 57, 3) := by decide +kernel
theorem dX0_putOn_18 : decode cX0_putOn 18 = .ok (.iload_n 1, 1) := by decide +kernel
theorem dX0_putOn_19 : decode cX0_putOn 19 = .ok (.aaload, 1) := by decide +kernel
theorem dX0_putOn_20 : decode cX0_putOn 20 = .ok (.iload_n 2, 1) := by decide +kernel
theorem dX0_putOn_21 : decode cX0_putOn 21 = .ok (.putfield 63, 3) := by decide +kernel
theorem dX0_putOn_24 : decode cX0_putOn 24 = .ok (.return_, 1) := by decide +kernel
theorem dX0_takeOff_0 : decode cX0_takeOff 0 = .ok (.aload_n 0, 1) := by decide +kernel
theorem dX0_takeOff_1 : decode cX0_takeOff 1 = .ok (.getfield 24, 3) := by decide +kernel
theorem dX0_takeOff_4 : decode cX0_takeOff 4 = .ok (.getfield 57, 3) := by decide +kernel
theorem dX0_takeOff_7 : decode cX0_takeOff 7 = .ok (.iload_n 1, 1) := by decide +kernel
theorem dX0_takeOff_8 : decode cX0_takeOff 8 = .ok (.aaload, 1) := by decide +kernel
theorem dX0_takeOff_9 : decode cX0_takeOff 9 = .ok (.astore_n 2, 1) := by decide +kernel
theorem dX0_takeOff_10 : decode cX0_takeOff 10 = .ok (.aload_n 2, 1) := by decide +kernel
theorem dX0_takeOff_11 : decode cX0_takeOff 11 = .ok (.getfield 63, 3) := by decide +kernel
theorem dX0_takeOff_14 : decode cX0_takeOff 14 = .ok (.iconst (-1), 1) := by decide +kernel
theorem dX0_takeOff_15 : decode cX0_takeOff 15 = .ok (.if_icmp .ne 4, 3) := by decide +kernel
theorem dX0_takeOff_18 : decode cX0_takeOff 18 = .ok (.return_, 1) := by decide +kernel
theorem dX0_takeOff_19 : decode cX0_takeOff 19 = .ok (.aload_n 0, 1) := by decide +kernel
theorem dX0_takeOff_20 : decode cX0_takeOff 20 = .ok (.getfield 20, 3) := by decide +kernel
theorem dX0_takeOff_23 : decode cX0_takeOff 23 = .ok (.aload_n 2, 1) := by decide +kernel
theorem dX0_takeOff_24 : decode cX0_takeOff 24 = .ok (.getfield 63, 3) := by decide +kernel
theorem dX0_takeOff_27 : decode cX0_takeOff 27 = .ok (.aaload, 1) := by decide +kernel
theorem dX0_takeOff_28 : decode cX0_takeOff 28 = .ok (.iload_n 1, 1) := by decide +kernel
theorem dX0_takeOff_29 : decode cX0_takeOff 29 = .ok (.invokevirtual 68, 3) := by decide +kernel
theorem dX0_takeOff_32 : decode cX0_takeOff 32 = .ok (.aload_n 2, 1) := by decide +kernel
theorem dX0_takeOff_33 : decode cX0_takeOff 33 = .ok (.iconst (-1), 1) := by decide +kernel
theorem dX0_takeOff_34 : decode cX0_takeOff 34 = .ok (.putfield 63, 3) := by decide +kernel
theorem dX0_takeOff_37 : decode cX0_takeOff 37 = .ok (.return_, 1) := by decide +kernel
theorem dX0_endDay_0 : decode cX0_endDay 0 = .ok (.aload_n 0, 1) := by decide +kernel
theorem dX0_endDay_1 : decode cX0_endDay 1 = .ok (.getfield 20, 3) := by decide +kernel
theorem dX0_endDay_4 : decode cX0_endDay 4 = .ok (.aload_n 0, 1) := by decide +kernel
theorem dX0_endDay_5 : decode cX0_endDay 5 = .ok (.getfield 72, 3) := by decide +kernel
theorem dX0_endDay_8 : decode cX0_endDay 8 = .ok (.aaload, 1) := by decide +kernel
theorem dX0_endDay_9 : decode cX0_endDay 9 = .ok (.astore_n 1, 1) := by decide +kernel
theorem dX0_endDay_10 : decode cX0_endDay 10 = .ok (.aload_n 1, 1) := by decide +kernel
theorem dX0_endDay_11 : decode cX0_endDay 11 = .ok (.getfield 75, 3) := by decide +kernel
theorem dX0_endDay_14 : decode cX0_endDay 14 = .ok (.iconst 1, 1) := by decide +kernel
theorem dX0_endDay_15 : decode cX0_endDay 15 = .ok (.isub, 1) := by decide +kernel
theorem dX0_endDay_16 : decode cX0_endDay 16 = .ok (.istore_n 2, 1) := by decide +kernel
theorem dX0_endDay_17 : decode cX0_endDay 17 = .ok (.iload_n 2, 1) := by decide +kernel
theorem dX0_endDay_18 : decode cX0_endDay 18 = .ok (.ifCond .lt 46, 3) := by decide +kernel
theorem dX0_endDay_21 : decode cX0_endDay 21 = .ok (.aload_n 0, 1) := by decide +kernel
theorem dX0_endDay_22 : decode cX0_endDay 22 = .ok (.getfield 24, 3) := by decide +kernel
theorem dX0_endDay_25 : decode cX0_endDay 25 = .ok (.getfield 57, 3) := by decide +kernel
theorem dX0_endDay_28 : decode cX0_endDay 28 = .ok (.aload_n 1, 1) := by decide +kernel
theorem dX0_endDay_29 : decode cX0_endDay 29 = .ok (.getfield 78, 3) := by decide +kernel
theorem dX0_endDay_32 : decode cX0_endDay 32 = .ok (.iload_n 2, 1) := by decide +kernel
theorem dX0_endDay_33 : decode cX0_endDay 33 = .ok (.iaload, 1) := by decide +kernel
theorem dX0_endDay_34 : decode cX0_endDay 34 = .ok (.aaload, 1) := by decide +kernel
theorem dX0_endDay_35 : decode cX0_endDay 35 = .ok (.astore_n 3, 1) := by decide +kernel
theorem dX0_endDay_36 : decode cX0_endDay 36 = .ok (.aload_n 3, 1) := by decide +kernel
theorem dX0_endDay_37 : decode cX0_endDay 37 = .ok (.getfield 82, 3) := by decide +kernel
theorem dX0_endDay_40 : decode cX0_endDay 40 = .ok (.ifCond .ne 18, 3) := by decide +kernel
theorem dX0_endDay_43 : decode cX0_endDay 43 = .ok (.aload_n 3, 1) := by decide +kernel
theorem dX0_endDay_44 : decode cX0_endDay 44 = .ok (.iconst 1, 1) := by decide +kernel
theorem dX0_endDay_45 : decode cX0_endDay 45 = .ok (.putfield 86, 3) := by decide +kernel
theorem dX0_endDay_48 : decode cX0_endDay 48 = .ok (.aload_n 0, 1) := by decide +kernel
theorem dX0_endDay_49 : decode cX0_endDay 49 = .ok (.aload_n 1, 1) := by decide +kernel
theorem dX0_endDay_50 : decode cX0_endDay 50 = .ok (.getfield 78, 3) := by decide +kernel
theorem dX0_endDay_53 : decode cX0_endDay 53 = .ok (.iload_n 2, 1) := by decide +kernel
theorem dX0_endDay_54 : decode cX0_endDay 54 = .ok (.iaload, 1) := by decide +kernel
theorem dX0_endDay_55 : decode cX0_endDay 55 = .ok (.invokevirtual 89, 3) := by decide +kernel
theorem dX0_endDay_58 : decode cX0_endDay 58 = .ok (.iinc 2 (-1), 3) := by decide +kernel
theorem dX0_endDay_61 : decode cX0_endDay 61 = .ok (.goto (-44), 3) := by decide +kernel
theorem dX0_endDay_64 : decode cX0_endDay 64 = .ok (.aload_n 0, 1) := by decide +kernel
theorem dX0_endDay_65 : decode cX0_endDay 65 = .ok (.dup, 1) := by decide +kernel
theorem dX0_endDay_66 : decode cX0_endDay 66 = .ok (.getfield 72, 3) := by decide +kernel
theorem dX0_endDay_69 : decode cX0_endDay 69 = .ok (.iconst 1, 1) := by decide +kernel
theorem dX0_endDay_70 : decode cX0_endDay 70 = .ok (.iadd, 1) := by decide +kernel
theorem dX0_endDay_71 : decode cX0_endDay 71 = .ok (.putfield 72, 3) := by decide +kernel
theorem dX0_endDay_74 : decode cX0_endDay 74 = .ok (.return_, 1) := by decide +kernel
theorem dX0_clockOf_0 : decode cX0_clockOf 0 = .ok (.aload_n 0, 1) := by decide +kernel
theorem dX0_clockOf_1 : decode cX0_clockOf 1 = .ok (.getfield 33, 3) := by decide +kernel
theorem dX0_clockOf_4 : decode cX0_clockOf 4 = .ok (.aload_n 0, 1) := by decide +kernel
theorem dX0_clockOf_5 : decode cX0_clockOf 5 = .ok (.getfield 20, 3) := by decide +kernel
theorem dX0_clockOf_8 : decode cX0_clockOf 8 = .ok (.iload_n 1, 1) := by decide +kernel
theorem dX0_clockOf_9 : decode cX0_clockOf 9 = .ok (.aaload, 1) := by decide +kernel
theorem dX0_clockOf_10 : decode cX0_clockOf 10 = .ok (.invokevirtual 92, 3) := by decide +kernel
theorem dX0_clockOf_13 : decode cX0_clockOf 13 = .ok (.aload_n 0, 1) := by decide +kernel
theorem dX0_clockOf_14 : decode cX0_clockOf 14 = .ok (.getfield 33, 3) := by decide +kernel
theorem dX0_clockOf_17 : decode cX0_clockOf 17 = .ok (.areturn, 1) := by decide +kernel
theorem dX0_timeOf_0 : decode cX0_timeOf 0 = .ok (.aload_n 0, 1) := by decide +kernel
theorem dX0_timeOf_1 : decode cX0_timeOf 1 = .ok (.getfield 20, 3) := by decide +kernel
theorem dX0_timeOf_4 : decode cX0_timeOf 4 = .ok (.aload_n 0, 1) := by decide +kernel
theorem dX0_timeOf_5 : decode cX0_timeOf 5 = .ok (.getfield 24, 3) := by decide +kernel
theorem dX0_timeOf_8 : decode cX0_timeOf 8 = .ok (.getfield 57, 3) := by decide +kernel
theorem dX0_timeOf_11 : decode cX0_timeOf 11 = .ok (.iload_n 1, 1) := by decide +kernel
theorem dX0_timeOf_12 : decode cX0_timeOf 12 = .ok (.aaload, 1) := by decide +kernel
theorem dX0_timeOf_13 : decode cX0_timeOf 13 = .ok (.getfield 63, 3) := by decide +kernel
theorem dX0_timeOf_16 : decode cX0_timeOf 16 = .ok (.aaload, 1) := by decide +kernel
theorem dX0_timeOf_17 : decode cX0_timeOf 17 = .ok (.astore_n 3, 1) := by decide +kernel
theorem dX0_timeOf_18 : decode cX0_timeOf 18 = .ok (.aload_n 3, 1) := by decide +kernel
theorem dX0_timeOf_19 : decode cX0_timeOf 19 = .ok (.iload_n 1, 1) := by decide +kernel
theorem dX0_timeOf_20 : decode cX0_timeOf 20 = .ok (.invokevirtual 96, 3) := by decide +kernel
theorem dX0_timeOf_23 : decode cX0_timeOf 23 = .ok (.istore 4, 2) := by decide +kernel
theorem dX0_timeOf_25 : decode cX0_timeOf 25 = .ok (.aload_n 0, 1) := by decide +kernel
theorem dX0_timeOf_26 : decode cX0_timeOf 26 = .ok (.getfield 33, 3) := by decide +kernel
theorem dX0_timeOf_29 : decode cX0_timeOf 29 = .ok (.aload_n 3, 1) := by decide +kernel
theorem dX0_timeOf_30 : decode cX0_timeOf 30 = .ok (.invokevirtual 92, 3) := by decide +kernel
theorem dX0_timeOf_33 : decode cX0_timeOf 33 = .ok (.iload_n 2, 1) := by decide +kernel
theorem dX0_timeOf_34 : decode cX0_timeOf 34 = .ok (.ifCond .eq 16, 3) := by decide +kernel
theorem dX0_timeOf_37 : decode cX0_timeOf 37 = .ok (.aload_n 0, 1) := by decide +kernel
theorem dX0_timeOf_38 : decode cX0_timeOf 38 = .ok (.getfield 33, 3) := by decide +kernel
theorem dX0_timeOf_41 : decode cX0_timeOf 41 = .ok (.getfield 100, 3) := by decide +kernel
theorem dX0_timeOf_44 : decode cX0_timeOf 44 = .ok (.iload 4, 2) := by decide +kernel
theorem dX0_timeOf_46 : decode cX0_timeOf 46 = .ok (.iaload, 1) := by decide +kernel
theorem dX0_timeOf_47 : decode cX0_timeOf 47 = .ok (.goto 13, 3) := by decide +kernel
theorem dX0_timeOf_50 : decode cX0_timeOf 50 = .ok (.aload_n 0, 1) := by decide +kernel
theorem dX0_timeOf_51 : decode cX0_timeOf 51 = .ok (.getfield 33, 3) := by decide +kernel
theorem dX0_timeOf_54 : decode cX0_timeOf 54 = .ok (.getfield 103, 3) := by decide +kernel
theorem dX0_timeOf_57 : decode cX0_timeOf 57 = .ok (.iload 4, 2) := by decide +kernel
theorem dX0_timeOf_59 : decode cX0_timeOf 59 = .ok (.iaload, 1) := by decide +kernel
theorem dX0_timeOf_60 : decode cX0_timeOf 60 = .ok (.ireturn, 1) := by decide +kernel
theorem dX0_faultsOf_0 : decode cX0_faultsOf 0 = .ok (.aload_n 0, 1) := by decide +kernel
theorem dX0_faultsOf_1 : decode cX0_faultsOf 1 = .ok (.getfield 20, 3) := by decide +kernel
theorem dX0_faultsOf_4 : decode cX0_faultsOf 4 = .ok (.aload_n 0, 1) := by decide +kernel
theorem dX0_faultsOf_5 : decode cX0_faultsOf 5 = .ok (.getfield 24, 3) := by decide +kernel
theorem dX0_faultsOf_8 : decode cX0_faultsOf 8 = .ok (.getfield 57, 3) := by decide +kernel
theorem dX0_faultsOf_11 : decode cX0_faultsOf 11 = .ok (.iload_n 1, 1) := by decide +kernel
theorem dX0_faultsOf_12 : decode cX0_faultsOf 12 = .ok (.aaload, 1) := by decide +kernel
theorem dX0_faultsOf_13 : decode cX0_faultsOf 13 = .ok (.getfield 63, 3) := by decide +kernel
theorem dX0_faultsOf_16 : decode cX0_faultsOf 16 = .ok (.aaload, 1) := by decide +kernel
theorem dX0_faultsOf_17 : decode cX0_faultsOf 17 = .ok (.astore_n 2, 1) := by decide +kernel
theorem dX0_faultsOf_18 : decode cX0_faultsOf 18 = .ok (.aload_n 0, 1) := by decide +kernel
theorem dX0_faultsOf_19 : decode cX0_faultsOf 19 = .ok (.getfield 33, 3) := by decide +kernel
theorem dX0_faultsOf_22 : decode cX0_faultsOf 22 = .ok (.aload_n 2, 1) := by decide +kernel
theorem dX0_faultsOf_23 : decode cX0_faultsOf 23 = .ok (.invokevirtual 92, 3) := by decide +kernel
theorem dX0_faultsOf_26 : decode cX0_faultsOf 26 = .ok (.aload_n 0, 1) := by decide +kernel
theorem dX0_faultsOf_27 : decode cX0_faultsOf 27 = .ok (.aload_n 2, 1) := by decide +kernel
theorem dX0_faultsOf_28 : decode cX0_faultsOf 28 = .ok (.aload_n 2, 1) := by decide +kernel
theorem dX0_faultsOf_29 : decode cX0_faultsOf 29 = .ok (.iload_n 1, 1) := by decide +kernel
theorem dX0_faultsOf_30 : decode cX0_faultsOf 30 = .ok (.invokevirtual 96, 3) := by decide +kernel
theorem dX0_faultsOf_33 : decode cX0_faultsOf 33 = .ok (.invokevirtual 106, 3) := by decide +kernel
theorem dX0_faultsOf_36 : decode cX0_faultsOf 36 = .ok (.ireturn, 1) := by decide +kernel
theorem dX0_faultless_0 : decode cX0_faultless 0 = .ok (.aload_n 0, 1) := by decide +kernel
theorem dX0_faultless_1 : decode cX0_faultless 1 = .ok (.getfield 20, 3) := by decide +kernel
theorem dX0_faultless_4 : decode cX0_faultless 4 = .ok (.iload_n 1, 1) := by decide +kernel
theorem dX0_faultless_5 : decode cX0_faultless 5 = .ok (.aaload, 1) := by decide +kernel
theorem dX0_faultless_6 : decode cX0_faultless 6 = .ok (.astore_n 2, 1) := by decide +kernel
theorem dX0_faultless_7 : decode cX0_faultless 7 = .ok (.aload_n 0, 1) := by decide +kernel
theorem dX0_faultless_8 : decode cX0_faultless 8 = .ok (.getfield 33, 3) := by decide +kernel
theorem dX0_faultless_11 : decode cX0_faultless 11 = .ok (.aload_n 2, 1) := by decide +kernel
theorem dX0_faultless_12 : decode cX0_faultless 12 = .ok (.invokevirtual 92, 3) := by decide +kernel
theorem dX0_faultless_15 : decode cX0_faultless 15 = .ok (.iconst 0, 1) := by decide +kernel
theorem dX0_faultless_16 : decode cX0_faultless 16 = .ok (.istore_n 3, 1) := by decide +kernel
theorem dX0_faultless_17 : decode cX0_faultless 17 = .ok (.iconst 0, 1) := by decide +kernel
theorem dX0_faultless_18 : decode cX0_faultless 18 = .ok (.istore 4, 2) := by decide +kernel
theorem dX0_faultless_20 : decode cX0_faultless 20 = .ok (.iload 4, 2) := by decide +kernel
theorem dX0_faultless_22 : decode cX0_faultless 22 = .ok (.aload_n 2, 1) := by decide +kernel
theorem dX0_faultless_23 : decode cX0_faultless 23 = .ok (.getfield 75, 3) := by decide +kernel
theorem dX0_faultless_26 : decode cX0_faultless 26 = .ok (.if_icmp .ge 26, 3) := by decide +kernel
theorem dX0_faultless_29 : decode cX0_faultless 29 = .ok (.aload_n 0, 1) := by decide +kernel
theorem dX0_faultless_30 : decode cX0_faultless 30 = .ok (.aload_n 2, 1) := by decide +kernel
theorem dX0_faultless_31 : decode cX0_faultless 31 = .ok (.iload 4, 2) := by decide +kernel
theorem dX0_faultless_33 : decode cX0_faultless 33 = .ok (.invokevirtual 106, 3) := by decide +kernel
theorem dX0_faultless_36 : decode cX0_faultless 36 = .ok (.ifCond .ne 10, 3) := by decide +kernel
theorem dX0_faultless_39 : decode cX0_faultless 39 = .ok (.iload_n 3, 1) := by decide +kernel
theorem dX0_faultless_40 : decode cX0_faultless 40 = .ok (.iconst 1, 1) := by decide +kernel
theorem dX0_faultless_41 : decode cX0_faultless 41 = .ok (.iload 4, 2) := by decide +kernel
theorem dX0_faultless_43 : decode cX0_faultless 43 = .ok (.ishl, 1) := by decide +kernel
theorem dX0_faultless_44 : decode cX0_faultless 44 = .ok (.ior, 1) := by decide +kernel
theorem dX0_faultless_45 : decode cX0_faultless 45 = .ok (.istore_n 3, 1) := by decide +kernel
theorem dX0_faultless_46 : decode cX0_faultless 46 = .ok (.iinc 4 1, 3) := by decide +kernel
theorem dX0_faultless_49 : decode cX0_faultless 49 = .ok (.goto (-29), 3) := by decide +kernel
theorem dX0_faultless_52 : decode cX0_faultless 52 = .ok (.iload_n 3, 1) := by decide +kernel
theorem dX0_faultless_53 : decode cX0_faultless 53 = .ok (.ireturn, 1) := by decide +kernel
theorem dX0_faultsAt_0 : decode cX0_faultsAt 0 = .ok (.aload_n 0, 1) := by decide +kernel
theorem dX0_faultsAt_1 : decode cX0_faultsAt 1 = .ok (.getfield 24, 3) := by decide +kernel
theorem dX0_faultsAt_4 : decode cX0_faultsAt 4 = .ok (.getfield 57, 3) := by decide +kernel
theorem dX0_faultsAt_7 : decode cX0_faultsAt 7 = .ok (.aload_n 1, 1) := by decide +kernel
theorem dX0_faultsAt_8 : decode cX0_faultsAt 8 = .ok (.getfield 78, 3) := by decide +kernel
theorem dX0_faultsAt_11 : decode cX0_faultsAt 11 = .ok (.iload_n 2, 1) := by decide +kernel
theorem dX0_faultsAt_12 : decode cX0_faultsAt 12 = .ok (.iaload, 1) := by decide +kernel
theorem dX0_faultsAt_13 : decode cX0_faultsAt 13 = .ok (.aaload, 1) := by decide +kernel
theorem dX0_faultsAt_14 : decode cX0_faultsAt 14 = .ok (.astore_n 3, 1) := by decide +kernel
theorem dX0_faultsAt_15 : decode cX0_faultsAt 15 = .ok (.iconst 0, 1) := by decide +kernel
theorem dX0_faultsAt_16 : decode cX0_faultsAt 16 = .ok (.istore 4, 2) := by decide +kernel
theorem dX0_faultsAt_18 : decode cX0_faultsAt 18 = .ok (.aload_n 1, 1) := by decide +kernel
theorem dX0_faultsAt_19 : decode cX0_faultsAt 19 = .ok (.getfield 50, 3) := by decide +kernel
theorem dX0_faultsAt_22 : decode cX0_faultsAt 22 = .ok (.aload_n 3, 1) := by decide +kernel
theorem dX0_faultsAt_23 : decode cX0_faultsAt 23 = .ok (.getfield 110, 3) := by decide +kernel
theorem dX0_faultsAt_26 : decode cX0_faultsAt 26 = .ok (.invokestatic 46, 3) := by decide +kernel
theorem dX0_faultsAt_29 : decode cX0_faultsAt 29 = .ok (.ifCond .eq 6, 3) := by decide +kernel
theorem dX0_faultsAt_32 : decode cX0_faultsAt 32 = .ok (.iinc 4 1, 3) := by decide +kernel
theorem dX0_faultsAt_35 : decode cX0_faultsAt 35 = .ok (.aload_n 3, 1) := by decide +kernel
theorem dX0_faultsAt_36 : decode cX0_faultsAt 36 = .ok (.invokevirtual 113, 3) := by decide +kernel
theorem dX0_faultsAt_39 : decode cX0_faultsAt 39 = .ok (.ifCond .eq 15, 3) := by decide +kernel
theorem dX0_faultsAt_42 : decode cX0_faultsAt 42 = .ok (.aload_n 0, 1) := by decide +kernel
theorem dX0_faultsAt_43 : decode cX0_faultsAt 43 = .ok (.aload_n 1, 1) := by decide +kernel
theorem dX0_faultsAt_44 : decode cX0_faultsAt 44 = .ok (.iload_n 2, 1) := by decide +kernel
theorem dX0_faultsAt_45 : decode cX0_faultsAt 45 = .ok (.invokevirtual 117, 3) := by decide +kernel
theorem dX0_faultsAt_48 : decode cX0_faultsAt 48 = .ok (.ifCond .eq 6, 3) := by decide +kernel
theorem dX0_faultsAt_51 : decode cX0_faultsAt 51 = .ok (.iinc 4 2, 3) := by decide +kernel
theorem dX0_faultsAt_54 : decode cX0_faultsAt 54 = .ok (.aload_n 3, 1) := by decide +kernel
theorem dX0_faultsAt_55 : decode cX0_faultsAt 55 = .ok (.getfield 121, 3) := by decide +kernel
theorem dX0_faultsAt_58 : decode cX0_faultsAt 58 = .ok (.aload_n 1, 1) := by decide +kernel
theorem dX0_faultsAt_59 : decode cX0_faultsAt 59 = .ok (.getfield 38, 3) := by decide +kernel
theorem dX0_faultsAt_62 : decode cX0_faultsAt 62 = .ok (.iand, 1) := by decide +kernel
theorem dX0_faultsAt_63 : decode cX0_faultsAt 63 = .ok (.ifCond .eq 6, 3) := by decide +kernel
theorem dX0_faultsAt_66 : decode cX0_faultsAt 66 = .ok (.iinc 4 4, 3) := by decide +kernel
theorem dX0_faultsAt_69 : decode cX0_faultsAt 69 = .ok (.aload_n 3, 1) := by decide +kernel
theorem dX0_faultsAt_70 : decode cX0_faultsAt 70 = .ok (.getfield 121, 3) := by decide +kernel
theorem dX0_faultsAt_73 : decode cX0_faultsAt 73 = .ok (.aload_n 0, 1) := by decide +kernel
theorem dX0_faultsAt_74 : decode cX0_faultsAt 74 = .ok (.getfield 33, 3) := by decide +kernel
theorem dX0_faultsAt_77 : decode cX0_faultsAt 77 = .ok (.getfield 124, 3) := by decide +kernel
theorem dX0_faultsAt_80 : decode cX0_faultsAt 80 = .ok (.iand, 1) := by decide +kernel
theorem dX0_faultsAt_81 : decode cX0_faultsAt 81 = .ok (.ifCond .eq 6, 3) := by decide +kernel
theorem dX0_faultsAt_84 : decode cX0_faultsAt 84 = .ok (.iinc 4 8, 3) := by decide +kernel
theorem dX0_faultsAt_87 : decode cX0_faultsAt 87 = .ok (.aload_n 0, 1) := by decide +kernel
theorem dX0_faultsAt_88 : decode cX0_faultsAt 88 = .ok (.aload_n 3, 1) := by decide +kernel
theorem dX0_faultsAt_89 : decode cX0_faultsAt 89 = .ok (.aload_n 1, 1) := by decide +kernel
theorem dX0_faultsAt_90 : decode cX0_faultsAt 90 = .ok (.getfield 78, 3) := by decide +kernel
theorem dX0_faultsAt_93 : decode cX0_faultsAt 93 = .ok (.iload_n 2, 1) := by decide +kernel
theorem dX0_faultsAt_94 : decode cX0_faultsAt 94 = .ok (.invokevirtual 127, 3) := by decide +kernel
theorem dX0_faultsAt_97 : decode cX0_faultsAt 97 = .ok (.ifCond .eq 6, 3) := by decide +kernel
theorem dX0_faultsAt_100 : decode cX0_faultsAt 100 = .ok (.iinc 4 16, 3) := by decide +kernel
theorem dX0_faultsAt_103 : decode cX0_faultsAt 103 = .ok (.aload_n 0, 1) := by decide +kernel
theorem dX0_faultsAt_104 : decode cX0_faultsAt 104 = .ok (.getfield 33, 3) := by decide +kernel
theorem dX0_faultsAt_107 : decode cX0_faultsAt 107 = .ok (.getfield 131, 3) := by decide +kernel
theorem dX0_faultsAt_110 : decode cX0_faultsAt 110 = .ok (.ifCond .eq 6, 3) := by decide +kernel
theorem dX0_faultsAt_113 : decode cX0_faultsAt 113 = .ok (.iinc 4 32, 3) := by decide +kernel
theorem dX0_faultsAt_116 : decode cX0_faultsAt 116 = .ok (.iload 4, 2) := by decide +kernel
theorem dX0_faultsAt_118 : decode cX0_faultsAt 118 = .ok (.ireturn, 1) := by decide +kernel
theorem dX0_isDark_0 : decode cX0_isDark 0 = .ok (.aload_n 0, 1) := by decide +kernel
theorem dX0_isDark_1 : decode cX0_isDark 1 = .ok (.getfield 33, 3) := by decide +kernel
theorem dX0_isDark_4 : decode cX0_isDark 4 = .ok (.getfield 103, 3) := by decide +kernel
theorem dX0_isDark_7 : decode cX0_isDark 7 = .ok (.iload_n 2, 1) := by decide +kernel
theorem dX0_isDark_8 : decode cX0_isDark 8 = .ok (.iaload, 1) := by decide +kernel
theorem dX0_isDark_9 : decode cX0_isDark 9 = .ok (.aload_n 1, 1) := by decide +kernel
theorem dX0_isDark_10 : decode cX0_isDark 10 = .ok (.getfield 134, 3) := by decide +kernel
theorem dX0_isDark_13 : decode cX0_isDark 13 = .ok (.if_icmp .lt 19, 3) := by decide +kernel
theorem dX0_isDark_16 : decode cX0_isDark 16 = .ok (.aload_n 0, 1) := by decide +kernel
theorem dX0_isDark_17 : decode cX0_isDark 17 = .ok (.getfield 33, 3) := by decide +kernel
theorem dX0_isDark_20 : decode cX0_isDark 20 = .ok (.getfield 100, 3) := by decide +kernel
theorem dX0_isDark_23 : decode cX0_isDark 23 = .ok (.iload_n 2, 1) := by decide +kernel
theorem dX0_isDark_24 : decode cX0_isDark 24 = .ok (.iaload, 1) := by decide +kernel
theorem dX0_isDark_25 : decode cX0_isDark 25 = .ok (.aload_n 1, 1) := by decide +kernel
theorem dX0_isDark_26 : decode cX0_isDark 26 = .ok (.getfield 137, 3) := by decide +kernel
theorem dX0_isDark_29 : decode cX0_isDark 29 = .ok (.if_icmp .le 7, 3) := by decide +kernel
theorem dX0_isDark_32 : decode cX0_isDark 32 = .ok (.iconst 1, 1) := by decide +kernel
theorem dX0_isDark_33 : decode cX0_isDark 33 = .ok (.goto 4, 3) := by decide +kernel
theorem dX0_isDark_36 : decode cX0_isDark 36 = .ok (.iconst 0, 1) := by decide +kernel
theorem dX0_isDark_37 : decode cX0_isDark 37 = .ok (.ireturn, 1) := by decide +kernel
theorem dX0_isTooEarly_0 : decode cX0_isTooEarly 0 = .ok (.iconst 0, 1) := by decide +kernel
theorem dX0_isTooEarly_1 : decode cX0_isTooEarly 1 = .ok (.istore 4, 2) := by decide +kernel
theorem dX0_isTooEarly_3 : decode cX0_isTooEarly 3 = .ok (.iconst 0, 1) := by decide +kernel
theorem dX0_isTooEarly_4 : decode cX0_isTooEarly 4 = .ok (.istore 5, 2) := by decide +kernel
theorem dX0_isTooEarly_6 : decode cX0_isTooEarly 6 = .ok (.iload 5, 2) := by decide +kernel
theorem dX0_isTooEarly_8 : decode cX0_isTooEarly 8 = .ok (.iload_n 3, 1) := by decide +kernel
theorem dX0_isTooEarly_9 : decode cX0_isTooEarly 9 = .ok (.if_icmp .ge 20, 3) := by decide +kernel
theorem dX0_isTooEarly_12 : decode cX0_isTooEarly 12 = .ok (.iload 4, 2) := by decide +kernel
theorem dX0_isTooEarly_14 : decode cX0_isTooEarly 14 = .ok (.iconst 1, 1) := by decide +kernel
theorem dX0_isTooEarly_15 : decode cX0_isTooEarly 15 = .ok (.aload_n 2, 1) := by decide +kernel
theorem dX0_isTooEarly_16 : decode cX0_isTooEarly 16 = .ok (.iload 5, 2) := by decide +kernel
theorem dX0_isTooEarly_18 : decode cX0_isTooEarly 18 = .ok (.iaload, 1) := by decide +kernel
theorem dX0_isTooEarly_19 : decode cX0_isTooEarly 19 = .ok (.ishl, 1) := by decide +kernel
theorem dX0_isTooEarly_20 : decode cX0_isTooEarly 20 = .ok (.ior, 1) := by decide +kernel
theorem dX0_isTooEarly_21 : decode cX0_isTooEarly 21 = .ok (.istore 4, 2) := by decide +kernel
theorem dX0_isTooEarly_23 : decode cX0_isTooEarly 23 = .ok (.iinc 5 1, 3) := by decide +kernel
theorem dX0_isTooEarly_26 : decode cX0_isTooEarly 26 = .ok (.goto (-20), 3) := by decide +kernel
theorem dX0_isTooEarly_29 : decode cX0_isTooEarly 29 = .ok (.iconst 0, 1) := by decide +kernel
theorem dX0_isTooEarly_30 : decode cX0_isTooEarly 30 = .ok (.istore 5, 2) := by decide +kernel
theorem dX0_isTooEarly_32 : decode cX0_isTooEarly 32 = .ok (.iload 5, 2) := by decide +kernel
theorem dX0_isTooEarly_34 : decode cX0_isTooEarly 34 = .ok (.aload_n 0, 1) := by decide +kernel
theorem dX0_isTooEarly_35 : decode cX0_isTooEarly 35 = .ok (.getfield 24, 3) := by decide +kernel
theorem dX0_isTooEarly_38 : decode cX0_isTooEarly 38 = .ok (.getfield 140, 3) := by decide +kernel
theorem dX0_isTooEarly_41 : decode cX0_isTooEarly 41 = .ok (.if_icmp .ge 48, 3) := by decide +kernel
theorem dX0_isTooEarly_44 : decode cX0_isTooEarly 44 = .ok (.aload_n 1, 1) := by decide +kernel
theorem dX0_isTooEarly_45 : decode cX0_isTooEarly 45 = .ok (.getfield 143, 3) := by decide +kernel
theorem dX0_isTooEarly_48 : decode cX0_isTooEarly 48 = .ok (.iload 4, 2) := by decide +kernel
theorem dX0_isTooEarly_50 : decode cX0_isTooEarly 50 = .ok (.iconst (-1), 1) := by decide +kernel
theorem dX0_isTooEarly_51 : decode cX0_isTooEarly 51 = .ok (.ixor, 1) := by decide +kernel
theorem dX0_isTooEarly_52 : decode cX0_isTooEarly 52 = .ok (.iand, 1) := by decide +kernel
theorem dX0_isTooEarly_53 : decode cX0_isTooEarly 53 = .ok (.iload 5, 2) := by decide +kernel
theorem dX0_isTooEarly_55 : decode cX0_isTooEarly 55 = .ok (.invokestatic 46, 3) := by decide +kernel
theorem dX0_isTooEarly_58 : decode cX0_isTooEarly 58 = .ok (.ifCond .eq 25, 3) := by decide +kernel
theorem dX0_isTooEarly_61 : decode cX0_isTooEarly 61 = .ok (.aload_n 0, 1) := by decide +kernel
theorem dX0_isTooEarly_62 : decode cX0_isTooEarly 62 = .ok (.getfield 24, 3) := by decide +kernel
theorem dX0_isTooEarly_65 : decode cX0_isTooEarly 65 = .ok (.getfield 57, 3) := by decide +kernel
theorem dX0_isTooEarly_68 : decode cX0_isTooEarly 68 = .ok (.iload 5, 2) := by decide +kernel
theorem dX0_isTooEarly_70 : decode cX0_isTooEarly 70 = .ok (.aaload, 1) := by decide +kernel
theorem dX0_isTooEarly_71 : decode cX0_isTooEarly 71 = .ok (.aload_n 1, 1) := by decide +kernel
theorem dX0_isTooEarly_72 : decode cX0_isTooEarly 72 = .ok (.getfield 63, 3) := by decide +kernel
theorem dX0_isTooEarly_75 : decode cX0_isTooEarly 75 = .ok (.invokestatic 146, 3) := by decide +kernel
theorem dX0_isTooEarly_78 : decode cX0_isTooEarly 78 = .ok (.ifCond .ne 5, 3) := by decide +kernel
theorem dX0_isTooEarly_81 : decode cX0_isTooEarly 81 = .ok (.iconst 1, 1) := by decide +kernel
theorem dX0_isTooEarly_82 : decode cX0_isTooEarly 82 = .ok (.ireturn, 1) := by decide +kernel
theorem dX0_isTooEarly_83 : decode cX0_isTooEarly 83 = .ok (.iinc 5 1, 3) := by decide +kernel
theorem dX0_isTooEarly_86 : decode cX0_isTooEarly 86 = .ok (.goto (-54), 3) := by decide +kernel
theorem dX0_isTooEarly_89 : decode cX0_isTooEarly 89 = .ok (.iconst 0, 1) := by decide +kernel
theorem dX0_isTooEarly_90 : decode cX0_isTooEarly 90 = .ok (.ireturn, 1) := by decide +kernel
theorem dX0_isDoneBefore_0 : decode cX0_isDoneBefore 0 = .ok (.aload_n 0, 1) := by decide +kernel
theorem dX0_isDoneBefore_1 : decode cX0_isDoneBefore 1 = .ok (.getfield 150, 3) := by decide +kernel
theorem dX0_isDoneBefore_4 : decode cX0_isDoneBefore 4 = .ok (.ifCond .ne 26, 3) := by decide +kernel
theorem dX0_isDoneBefore_7 : decode cX0_isDoneBefore 7 = .ok (.aload_n 0, 1) := by decide +kernel
theorem dX0_isDoneBefore_8 : decode cX0_isDoneBefore 8 = .ok (.getfield 82, 3) := by decide +kernel
theorem dX0_isDoneBefore_11 : decode cX0_isDoneBefore 11 = .ok (.ifCond .ne 19, 3) := by decide +kernel
theorem dX0_isDoneBefore_14 : decode cX0_isDoneBefore 14 = .ok (.aload_n 0, 1) := by decide +kernel
theorem dX0_isDoneBefore_15 : decode cX0_isDoneBefore 15 = .ok (.getfield 63, 3) := by decide +kernel
theorem dX0_isDoneBefore_18 : decode cX0_isDoneBefore 18 = .ok (.iconst (-1), 1) := by decide +kernel
theorem dX0_isDoneBefore_19 : decode cX0_isDoneBefore 19 = .ok (.if_icmp .eq 15, 3) := by decide +kernel
theorem dX0_isDoneBefore_22 : decode cX0_isDoneBefore 22 = .ok (.aload_n 0, 1) := by decide +kernel
theorem dX0_isDoneBefore_23 : decode cX0_isDoneBefore 23 = .ok (.getfield 63, 3) := by decide +kernel
theorem dX0_isDoneBefore_26 : decode cX0_isDoneBefore 26 = .ok (.iload_n 1, 1) := by decide +kernel
theorem dX0_isDoneBefore_27 : decode cX0_isDoneBefore 27 = .ok (.if_icmp .ge 7, 3) := by decide +kernel
theorem dX0_isDoneBefore_30 : decode cX0_isDoneBefore 30 = .ok (.iconst 1, 1) := by decide +kernel
theorem dX0_isDoneBefore_31 : decode cX0_isDoneBefore 31 = .ok (.goto 4, 3) := by decide +kernel
theorem dX0_isDoneBefore_34 : decode cX0_isDoneBefore 34 = .ok (.iconst 0, 1) := by decide +kernel
theorem dX0_isDoneBefore_35 : decode cX0_isDoneBefore 35 = .ok (.ireturn, 1) := by decide +kernel
theorem dX1_init_0 : decode cX1_init 0 = .ok (.aload_n 0, 1) := by decide +kernel
theorem dX1_init_1 : decode cX1_init 1 = .ok (.invokespecial 3, 3) := by decide +kernel
theorem dX1_init_4 : decode cX1_init 4 = .ok (.aload_n 0, 1) := by decide +kernel
theorem dX1_init_5 : decode cX1_init 5 = .ok (.bipush 8, 2) := by decide +kernel
theorem dX1_init_7 : decode cX1_init 7 = .ok (.newarray .int, 2) := by decide +kernel
theorem dX1_init_9 : decode cX1_init 9 = .ok (.putfield 9, 3) := by decide +kernel
theorem dX1_init_12 : decode cX1_init 12 = .ok (.aload_n 0, 1) := by decide +kernel
theorem dX1_init_13 : decode cX1_init 13 = .ok (.bipush 8, 2) := by decide +kernel
theorem dX1_init_15 : decode cX1_init 15 = .ok (.newarray .int, 2) := by decide +kernel
theorem dX1_init_17 : decode cX1_init 17 = .ok (.putfield 15, 3) := by decide +kernel
theorem dX1_init_20 : decode cX1_init 20 = .ok (.aload_n 0, 1) := by decide +kernel
theorem dX1_init_21 : decode cX1_init 21 = .ok (.bipush 8, 2) := by decide +kernel
theorem dX1_init_23 : decode cX1_init 23 = .ok (.newarray .int, 2) := by decide +kernel
theorem dX1_init_25 : decode cX1_init 25 = .ok (.putfield 18, 3) := by decide +kernel
theorem dX1_init_28 : decode cX1_init 28 = .ok (.aload_n 0, 1) := by decide +kernel
theorem dX1_init_29 : decode cX1_init 29 = .ok (.bipush 8, 2) := by decide +kernel
theorem dX1_init_31 : decode cX1_init 31 = .ok (.newarray .int, 2) := by decide +kernel
theorem dX1_init_33 : decode cX1_init 33 = .ok (.putfield 21, 3) := by decide +kernel
theorem dX1_init_36 : decode cX1_init 36 = .ok (.aload_n 0, 1) := by decide +kernel
theorem dX1_init_37 : decode cX1_init 37 = .ok (.aload_n 1, 1) := by decide +kernel
theorem dX1_init_38 : decode cX1_init 38 = .ok (.putfield 24, 3) := by decide +kernel
theorem dX1_init_41 : decode cX1_init 41 = .ok (.aload_n 0, 1) := by decide +kernel
theorem dX1_init_42 : decode cX1_init 42 = .ok (.aload_n 2, 1) := by decide +kernel
theorem dX1_init_43 : decode cX1_init 43 = .ok (.putfield 28, 3) := by decide +kernel
theorem dX1_init_46 : decode cX1_init 46 = .ok (.aload_n 0, 1) := by decide +kernel
theorem dX1_init_47 : decode cX1_init 47 = .ok (.aload_n 3, 1) := by decide +kernel
theorem dX1_init_48 : decode cX1_init 48 = .ok (.putfield 32, 3) := by decide +kernel
theorem dX1_init_51 : decode cX1_init 51 = .ok (.aload_n 0, 1) := by decide +kernel
theorem dX1_init_52 : decode cX1_init 52 = .ok (.aload 4, 2) := by decide +kernel
theorem dX1_init_54 : decode cX1_init 54 = .ok (.putfield 36, 3) := by decide +kernel
theorem dX1_init_57 : decode cX1_init 57 = .ok (.return_, 1) := by decide +kernel
theorem dX1_read_0 : decode cX1_read 0 = .ok (.aload_n 0, 1) := by decide +kernel
theorem dX1_read_1 : decode cX1_read 1 = .ok (.aload_n 1, 1) := by decide +kernel
theorem dX1_read_2 : decode cX1_read 2 = .ok (.invokevirtual 40, 3) := by decide +kernel
theorem dX1_read_5 : decode cX1_read 5 = .ok (.aload_n 0, 1) := by decide +kernel
theorem dX1_read_6 : decode cX1_read 6 = .ok (.aload_n 1, 1) := by decide +kernel
theorem dX1_read_7 : decode cX1_read 7 = .ok (.invokevirtual 44, 3) := by decide +kernel
theorem dX1_read_10 : decode cX1_read 10 = .ok (.aload_n 0, 1) := by decide +kernel
theorem dX1_read_11 : decode cX1_read 11 = .ok (.invokevirtual 47, 3) := by decide +kernel
theorem dX1_read_14 : decode cX1_read 14 = .ok (.return_, 1) := by decide +kernel
theorem dX1_hasWorkFor_0 : decode cX1_hasWorkFor 0 = .ok (.aload_n 0, 1) := by decide +kernel
theorem dX1_hasWorkFor_1 : decode cX1_hasWorkFor 1 = .ok (.getfield 50, 3) := by decide +kernel
theorem dX1_hasWorkFor_4 : decode cX1_hasWorkFor 4 = .ok (.iload_n 1, 1) := by decide +kernel
theorem dX1_hasWorkFor_5 : decode cX1_hasWorkFor 5 = .ok (.invokestatic 54, 3) := by decide +kernel
theorem dX1_hasWorkFor_8 : decode cX1_hasWorkFor 8 = .ok (.ireturn, 1) := by decide +kernel
theorem dX1_readRow_0 : decode cX1_readRow 0 = .ok (.aload_n 0, 1) := by decide +kernel
theorem dX1_readRow_1 : decode cX1_readRow 1 = .ok (.getfield 36, 3) := by decide +kernel
theorem dX1_readRow_4 : decode cX1_readRow 4 = .ok (.invokevirtual 58, 3) := by decide +kernel
theorem dX1_readRow_7 : decode cX1_readRow 7 = .ok (.istore_n 2, 1) := by decide +kernel
theorem dX1_readRow_8 : decode cX1_readRow 8 = .ok (.aload_n 1, 1) := by decide +kernel
theorem dX1_readRow_9 : decode cX1_readRow 9 = .ok (.getfield 64, 3) := by decide +kernel
theorem dX1_readRow_12 : decode cX1_readRow 12 = .ok (.istore_n 3, 1) := by decide +kernel
theorem dX1_readRow_13 : decode cX1_readRow 13 = .ok (.aload_n 1, 1) := by decide +kernel
theorem dX1_readRow_14 : decode cX1_readRow 14 = .ok (.getfield 64, 3) := by decide +kernel
theorem dX1_readRow_17 : decode cX1_readRow 17 = .ok (.sipush 360, 3) := by decide +kernel
theorem dX1_readRow_20 : decode cX1_readRow 20 = .ok (.iadd, 1) := by decide +kernel
theorem dX1_readRow_21 : decode cX1_readRow 21 = .ok (.istore 4, 2) := by decide +kernel
theorem dX1_readRow_23 : decode cX1_readRow 23 = .ok (.iconst 0, 1) := by decide +kernel
theorem dX1_readRow_24 : decode cX1_readRow 24 = .ok (.istore 5, 2) := by decide +kernel
theorem dX1_readRow_26 : decode cX1_readRow 26 = .ok (.iconst 0, 1) := by decide +kernel
theorem dX1_readRow_27 : decode cX1_readRow 27 = .ok (.istore 6, 2) := by decide +kernel
theorem dX1_readRow_29 : decode cX1_readRow 29 = .ok (.iload 6, 2) := by decide +kernel
theorem dX1_readRow_31 : decode cX1_readRow 31 = .ok (.aload_n 1, 1) := by decide +kernel
theorem dX1_readRow_32 : decode cX1_readRow 32 = .ok (.getfield 69, 3) := by decide +kernel
theorem dX1_readRow_35 : decode cX1_readRow 35 = .ok (.if_icmp .ge 115, 3) := by decide +kernel
theorem dX1_readRow_38 : decode cX1_readRow 38 = .ok (.aload_n 0, 1) := by decide +kernel
theorem dX1_readRow_39 : decode cX1_readRow 39 = .ok (.getfield 24, 3) := by decide +kernel
theorem dX1_readRow_42 : decode cX1_readRow 42 = .ok (.getfield 72, 3) := by decide +kernel
theorem dX1_readRow_45 : decode cX1_readRow 45 = .ok (.aload_n 1, 1) := by decide +kernel
theorem dX1_readRow_46 : decode cX1_readRow 46 = .ok (.getfield 78, 3) := by decide +kernel
theorem dX1_readRow_49 : decode cX1_readRow 49 = .ok (.iload 6, 2) := by decide +kernel
theorem dX1_readRow_51 : decode cX1_readRow 51 = .ok (.iaload, 1) := by decide +kernel
theorem dX1_readRow_52 : decode cX1_readRow 52 = .ok (.aaload, 1) := by decide +kernel
theorem dX1_readRow_53 : decode cX1_readRow 53 = .ok (.astore 7, 2) := by decide +kernel
theorem dX1_readRow_55 : decode cX1_readRow 55 = .ok (.aload 7, 2) := by decide +kernel
theorem dX1_readRow_57 : decode cX1_readRow 57 = .ok (.iload_n 2, 1) := by decide +kernel
theorem dX1_readRow_58 : decode cX1_readRow 58 = .ok (.invokevirtual 81, 3) := by decide +kernel
theorem dX1_readRow_61 : decode cX1_readRow 61 = .ok (.istore 8, 2) := by decide +kernel
theorem dX1_readRow_63 : decode cX1_readRow 63 = .ok (.iload 6, 2) := by decide +kernel
theorem dX1_readRow_65 : decode cX1_readRow 65 = .ok (.ifCond .le 38, 3) := by decide +kernel
theorem dX1_readRow_68 : decode cX1_readRow 68 = .ok (.iload_n 3, 1) := by decide +kernel
theorem dX1_readRow_69 : decode cX1_readRow 69 = .ok (.aload_n 0, 1) := by decide +kernel
theorem dX1_readRow_70 : decode cX1_readRow 70 = .ok (.getfield 32, 3) := by decide +kernel
theorem dX1_readRow_73 : decode cX1_readRow 73 = .ok (.aload_n 0, 1) := by decide +kernel
theorem dX1_readRow_74 : decode cX1_readRow 74 = .ok (.getfield 24, 3) := by decide +kernel
theorem dX1_readRow_77 : decode cX1_readRow 77 = .ok (.getfield 72, 3) := by decide +kernel
theorem dX1_readRow_80 : decode cX1_readRow 80 = .ok (.aload_n 1, 1) := by decide +kernel
theorem dX1_readRow_81 : decode cX1_readRow 81 = .ok (.getfield 78, 3) := by decide +kernel
theorem dX1_readRow_84 : decode cX1_readRow 84 = .ok (.iload 6, 2) := by decide +kernel
theorem dX1_readRow_86 : decode cX1_readRow 86 = .ok (.iconst 1, 1) := by decide +kernel
theorem dX1_readRow_87 : decode cX1_readRow 87 = .ok (.isub, 1) := by decide +kernel
theorem dX1_readRow_88 : decode cX1_readRow 88 = .ok (.iaload, 1) := by decide +kernel
theorem dX1_readRow_89 : decode cX1_readRow 89 = .ok (.aaload, 1) := by decide +kernel
theorem dX1_readRow_90 : decode cX1_readRow 90 = .ok (.getfield 87, 3) := by decide +kernel
theorem dX1_readRow_93 : decode cX1_readRow 93 = .ok (.aload 7, 2) := by decide +kernel
theorem dX1_readRow_95 : decode cX1_readRow 95 = .ok (.getfield 87, 3) := by decide +kernel
theorem dX1_readRow_98 : decode cX1_readRow 98 = .ok (.invokevirtual 90, 3) := by decide +kernel
theorem dX1_readRow_101 : decode cX1_readRow 101 = .ok (.iadd, 1) := by decide +kernel
theorem dX1_readRow_102 : decode cX1_readRow 102 = .ok (.istore_n 3, 1) := by decide +kernel
theorem dX1_readRow_103 : decode cX1_readRow 103 = .ok (.iload 5, 2) := by decide +kernel
theorem dX1_readRow_105 : decode cX1_readRow 105 = .ok (.ifCond .ne 18, 3) := by decide +kernel
theorem dX1_readRow_108 : decode cX1_readRow 108 = .ok (.iload_n 3, 1) := by decide +kernel
theorem dX1_readRow_109 : decode cX1_readRow 109 = .ok (.iload 8, 2) := by decide +kernel
theorem dX1_readRow_111 : decode cX1_readRow 111 = .ok (.iadd, 1) := by decide +kernel
theorem dX1_readRow_112 : decode cX1_readRow 112 = .ok (.iload 4, 2) := by decide +kernel
theorem dX1_readRow_114 : decode cX1_readRow 114 = .ok (.if_icmp .le 9, 3) := by decide +kernel
theorem dX1_readRow_117 : decode cX1_readRow 117 = .ok (.iinc 3 30, 3) := by decide +kernel
theorem dX1_readRow_120 : decode cX1_readRow 120 = .ok (.iconst 1, 1) := by decide +kernel
theorem dX1_readRow_121 : decode cX1_readRow 121 = .ok (.istore 5, 2) := by decide +kernel
theorem dX1_readRow_123 : decode cX1_readRow 123 = .ok (.aload_n 0, 1) := by decide +kernel
theorem dX1_readRow_124 : decode cX1_readRow 124 = .ok (.getfield 9, 3) := by decide +kernel
theorem dX1_readRow_127 : decode cX1_readRow 127 = .ok (.iload 6, 2) := by decide +kernel
theorem dX1_readRow_129 : decode cX1_readRow 129 = .ok (.iload_n 3, 1) := by decide +kernel
theorem dX1_readRow_130 : decode cX1_readRow 130 = .ok (.iastore, 1) := by decide +kernel
theorem dX1_readRow_131 : decode cX1_readRow 131 = .ok (.iload_n 3, 1) := by decide +kernel
theorem dX1_readRow_132 : decode cX1_readRow 132 = .ok (.iload 8, 2) := by decide +kernel
theorem dX1_readRow_134 : decode cX1_readRow 134 = .ok (.iadd, 1) := by decide +kernel
theorem dX1_readRow_135 : decode cX1_readRow 135 = .ok (.istore_n 3, 1) := by decide +kernel
theorem dX1_readRow_136 : decode cX1_readRow 136 = .ok (.aload_n 0, 1) := by decide +kernel
theorem dX1_readRow_137 : decode cX1_readRow 137 = .ok (.getfield 15, 3) := by decide +kernel
theorem dX1_readRow_140 : decode cX1_readRow 140 = .ok (.iload 6, 2) := by decide +kernel
theorem dX1_readRow_142 : decode cX1_readRow 142 = .ok (.iload_n 3, 1) := by decide +kernel
theorem dX1_readRow_143 : decode cX1_readRow 143 = .ok (.iastore, 1) := by decide +kernel
theorem dX1_readRow_144 : decode cX1_readRow 144 = .ok (.iinc 6 1, 3) := by decide +kernel
theorem dX1_readRow_147 : decode cX1_readRow 147 = .ok (.goto (-118), 3) := by decide +kernel
theorem dX1_readRow_150 : decode cX1_readRow 150 = .ok (.aload_n 0, 1) := by decide +kernel
theorem dX1_readRow_151 : decode cX1_readRow 151 = .ok (.iload_n 3, 1) := by decide +kernel
theorem dX1_readRow_152 : decode cX1_readRow 152 = .ok (.aload_n 1, 1) := by decide +kernel
theorem dX1_readRow_153 : decode cX1_readRow 153 = .ok (.getfield 64, 3) := by decide +kernel
theorem dX1_readRow_156 : decode cX1_readRow 156 = .ok (.sipush 720, 3) := by decide +kernel
theorem dX1_readRow_159 : decode cX1_readRow 159 = .ok (.iadd, 1) := by decide +kernel
theorem dX1_readRow_160 : decode cX1_readRow 160 = .ok (.if_icmp .le 7, 3) := by decide +kernel
theorem dX1_readRow_163 : decode cX1_readRow 163 = .ok (.iconst 1, 1) := by decide +kernel
theorem dX1_readRow_164 : decode cX1_readRow 164 = .ok (.goto 4, 3) := by decide +kernel
theorem dX1_readRow_167 : decode cX1_readRow 167 = .ok (.iconst 0, 1) := by decide +kernel
theorem dX1_readRow_168 : decode cX1_readRow 168 = .ok (.putfield 96, 3) := by decide +kernel
theorem dX1_readRow_171 : decode cX1_readRow 171 = .ok (.return_, 1) := by decide +kernel
theorem dX1_readPeople_0 : decode cX1_readPeople 0 = .ok (.aload_n 0, 1) := by decide +kernel
theorem dX1_readPeople_1 : decode cX1_readPeople 1 = .ok (.iconst 0, 1) := by decide +kernel
theorem dX1_readPeople_2 : decode cX1_readPeople 2 = .ok (.putfield 50, 3) := by decide +kernel
theorem dX1_readPeople_5 : decode cX1_readPeople 5 = .ok (.iconst 0, 1) := by decide +kernel
theorem dX1_readPeople_6 : decode cX1_readPeople 6 = .ok (.istore_n 2, 1) := by decide +kernel
theorem dX1_readPeople_7 : decode cX1_readPeople 7 = .ok (.iload_n 2, 1) := by decide +kernel
theorem dX1_readPeople_8 : decode cX1_readPeople 8 = .ok (.aload_n 1, 1) := by decide +kernel
theorem dX1_readPeople_9 : decode cX1_readPeople 9 = .ok (.getfield 69, 3) := by decide +kernel
theorem dX1_readPeople_12 : decode cX1_readPeople 12 = .ok (.if_icmp .ge 119, 3) := by decide +kernel
theorem dX1_readPeople_15 : decode cX1_readPeople 15 = .ok (.aload_n 0, 1) := by decide +kernel
theorem dX1_readPeople_16 : decode cX1_readPeople 16 = .ok (.getfield 24, 3) := by decide +kernel
theorem dX1_readPeople_19 : decode cX1_readPeople 19 = .ok (.getfield 72, 3) := by decide +kernel
theorem dX1_readPeople_22 : decode cX1_readPeople 22 = .ok (.aload_n 1, 1) := by decide +kernel
theorem dX1_readPeople_23 : decode cX1_readPeople 23 = .ok (.getfield 78, 3) := by decide +kernel
theorem dX1_readPeople_26 : decode cX1_readPeople 26 = .ok (.iload_n 2, 1) := by decide +kernel
theorem dX1_readPeople_27 : decode cX1_readPeople 27 = .ok (.iaload, 1) := by decide +kernel
theorem dX1_readPeople_28 : decode cX1_readPeople 28 = .ok (.aaload, 1) := by decide +kernel
theorem dX1_readPeople_29 : decode cX1_readPeople 29 = .ok (.getfield 100, 3) := by decide +kernel
theorem dX1_readPeople_32 : decode cX1_readPeople 32 = .ok (.istore_n 3, 1) := by decide +kernel
theorem dX1_readPeople_33 : decode cX1_readPeople 33 = .ok (.iconst 0, 1) := by decide +kernel
theorem dX1_readPeople_34 : decode cX1_readPeople 34 = .ok (.istore 4, 2) := by decide +kernel
theorem dX1_readPeople_36 : decode cX1_readPeople 36 = .ok (.iload 4, 2) := by decide +kernel
theorem dX1_readPeople_38 : decode cX1_readPeople 38 = .ok (.aload_n 0, 1) := by decide +kernel
theorem dX1_readPeople_39 : decode cX1_readPeople 39 = .ok (.getfield 28, 3) := by decide +kernel
theorem dX1_readPeople_42 : decode cX1_readPeople 42 = .ok (.getfield 103, 3) := by decide +kernel
theorem dX1_readPeople_45 : decode cX1_readPeople 45 = .ok (.if_icmp .ge 70, 3) := by decide +kernel
theorem dX1_readPeople_48 : decode cX1_readPeople 48 = .ok (.iload_n 3, 1) := by decide +kernel
theorem dX1_readPeople_49 : decode cX1_readPeople 49 = .ok (.iload 4, 2) := by decide +kernel
theorem dX1_readPeople_51 : decode cX1_readPeople 51 = .ok (.invokestatic 54, 3) := by decide +kernel
theorem dX1_readPeople_54 : decode cX1_readPeople 54 = .ok (.ifCond .ne 6, 3) := by decide +kernel
theorem dX1_readPeople_57 : decode cX1_readPeople 57 = .ok (.goto 52, 3) := by decide +kernel
theorem dX1_readPeople_60 : decode cX1_readPeople 60 = .ok (.aload_n 0, 1) := by decide +kernel
theorem dX1_readPeople_61 : decode cX1_readPeople 61 = .ok (.getfield 50, 3) := by decide +kernel
theorem dX1_readPeople_64 : decode cX1_readPeople 64 = .ok (.iload 4, 2) := by decide +kernel
theorem dX1_readPeople_66 : decode cX1_readPeople 66 = .ok (.invokestatic 54, 3) := by decide +kernel
theorem dX1_readPeople_69 : decode cX1_readPeople 69 = .ok (.ifCond .ne 27, 3) := by decide +kernel
theorem dX1_readPeople_72 : decode cX1_readPeople 72 = .ok (.aload_n 0, 1) := by decide +kernel
theorem dX1_readPeople_73 : decode cX1_readPeople 73 = .ok (.getfield 18, 3) := by decide +kernel
theorem dX1_readPeople_76 : decode cX1_readPeople 76 = .ok (.iload 4, 2) := by decide +kernel
theorem dX1_readPeople_78 : decode cX1_readPeople 78 = .ok (.aload_n 0, 1) := by decide +kernel
theorem dX1_readPeople_79 : decode cX1_readPeople 79 = .ok (.getfield 9, 3) := by decide +kernel
theorem dX1_readPeople_82 : decode cX1_readPeople 82 = .ok (.iload_n 2, 1) := by decide +kernel
theorem dX1_readPeople_83 : decode cX1_readPeople 83 = .ok (.iaload, 1) := by decide +kernel
theorem dX1_readPeople_84 : decode cX1_readPeople 84 = .ok (.aload_n 0, 1) := by decide +kernel
theorem dX1_readPeople_85 : decode cX1_readPeople 85 = .ok (.getfield 28, 3) := by decide +kernel
theorem dX1_readPeople_88 : decode cX1_readPeople 88 = .ok (.getfield 106, 3) := by decide +kernel
theorem dX1_readPeople_91 : decode cX1_readPeople 91 = .ok (.iload 4, 2) := by decide +kernel
theorem dX1_readPeople_93 : decode cX1_readPeople 93 = .ok (.iaload, 1) := by decide +kernel
theorem dX1_readPeople_94 : decode cX1_readPeople 94 = .ok (.isub, 1) := by decide +kernel
theorem dX1_readPeople_95 : decode cX1_readPeople 95 = .ok (.iastore, 1) := by decide +kernel
theorem dX1_readPeople_96 : decode cX1_readPeople 96 = .ok (.aload_n 0, 1) := by decide +kernel
theorem dX1_readPeople_97 : decode cX1_readPeople 97 = .ok (.getfield 21, 3) := by decide +kernel
theorem dX1_readPeople_100 : decode cX1_readPeople 100 = .ok (.iload 4, 2) := by decide +kernel
theorem dX1_readPeople_102 : decode cX1_readPeople 102 = .ok (.aload_n 0, 1) := by decide +kernel
theorem dX1_readPeople_103 : decode cX1_readPeople 103 = .ok (.getfield 15, 3) := by decide +kernel
theorem dX1_readPeople_106 : decode cX1_readPeople 106 = .ok (.iload_n 2, 1) := by decide +kernel
theorem dX1_readPeople_107 : decode cX1_readPeople 107 = .ok (.iaload, 1) := by decide +kernel
theorem dX1_readPeople_108 : decode cX1_readPeople 108 = .ok (.iastore, 1) := by decide +kernel
theorem dX1_readPeople_109 : decode cX1_readPeople 109 = .ok (.iinc 4 1, 3) := by decide +kernel
theorem dX1_readPeople_112 : decode cX1_readPeople 112 = .ok (.goto (-76), 3) := by decide +kernel
theorem dX1_readPeople_115 : decode cX1_readPeople 115 = .ok (.aload_n 0, 1) := by decide +kernel
theorem dX1_readPeople_116 : decode cX1_readPeople 116 = .ok (.dup, 1) := by decide +kernel
theorem dX1_readPeople_117 : decode cX1_readPeople 117 = .ok (.getfield 50, 3) := by decide +kernel
theorem dX1_readPeople_120 : decode cX1_readPeople 120 = .ok (.iload_n 3, 1) := by decide +kernel
theorem dX1_readPeople_121 : decode cX1_readPeople 121 = .ok (.ior, 1) := by decide +kernel
theorem dX1_readPeople_122 : decode cX1_readPeople 122 = .ok (.putfield 50, 3) := by decide +kernel
theorem dX1_readPeople_125 : decode cX1_readPeople 125 = .ok (.iinc 2 1, 3) := by decide +kernel
theorem dX1_readPeople_128 : decode cX1_readPeople 128 = .ok (.goto (-121), 3) := by decide +kernel
theorem dX1_readPeople_131 : decode cX1_readPeople 131 = .ok (.return_, 1) := by decide +kernel
theorem dX1_readChildren_0 : decode cX1_readChildren 0 = .ok (.aload_n 0, 1) := by decide +kernel
theorem dX1_readChildren_1 : decode cX1_readChildren 1 = .ok (.iconst 0, 1) := by decide +kernel
theorem dX1_readChildren_2 : decode cX1_readChildren 2 = .ok (.putfield 109, 3) := by decide +kernel
theorem dX1_readChildren_5 : decode cX1_readChildren 5 = .ok (.aload_n 0, 1) := by decide +kernel
theorem dX1_readChildren_6 : decode cX1_readChildren 6 = .ok (.getfield 50, 3) := by decide +kernel
theorem dX1_readChildren_9 : decode cX1_readChildren 9 = .ok (.aload_n 0, 1) := by decide +kernel
theorem dX1_readChildren_10 : decode cX1_readChildren 10 = .ok (.getfield 28, 3) := by decide +kernel
theorem dX1_readChildren_13 : decode cX1_readChildren 13 = .ok (.getfield 112, 3) := by decide +kernel
theorem dX1_readChildren_16 : decode cX1_readChildren 16 = .ok (.iand, 1) := by decide +kernel
theorem dX1_readChildren_17 : decode cX1_readChildren 17 = .ok (.istore_n 1, 1) := by decide +kernel
theorem dX1_readChildren_18 : decode cX1_readChildren 18 = .ok (.iconst 0, 1) := by decide +kernel
theorem dX1_readChildren_19 : decode cX1_readChildren 19 = .ok (.istore_n 2, 1) := by decide +kernel
theorem dX1_readChildren_20 : decode cX1_readChildren 20 = .ok (.iload_n 2, 1) := by decide +kernel
theorem dX1_readChildren_21 : decode cX1_readChildren 21 = .ok (.aload_n 0, 1) := by decide +kernel
theorem dX1_readChildren_22 : decode cX1_readChildren 22 = .ok (.getfield 28, 3) := by decide +kernel
theorem dX1_readChildren_25 : decode cX1_readChildren 25 = .ok (.getfield 103, 3) := by decide +kernel
theorem dX1_readChildren_28 : decode cX1_readChildren 28 = .ok (.if_icmp .ge 48, 3) := by decide +kernel
theorem dX1_readChildren_31 : decode cX1_readChildren 31 = .ok (.iload_n 1, 1) := by decide +kernel
theorem dX1_readChildren_32 : decode cX1_readChildren 32 = .ok (.iload_n 2, 1) := by decide +kernel
theorem dX1_readChildren_33 : decode cX1_readChildren 33 = .ok (.invokestatic 54, 3) := by decide +kernel
theorem dX1_readChildren_36 : decode cX1_readChildren 36 = .ok (.ifCond .eq 34, 3) := by decide +kernel
theorem dX1_readChildren_39 : decode cX1_readChildren 39 = .ok (.aload_n 0, 1) := by decide +kernel
theorem dX1_readChildren_40 : decode cX1_readChildren 40 = .ok (.getfield 21, 3) := by decide +kernel
theorem dX1_readChildren_43 : decode cX1_readChildren 43 = .ok (.iload_n 2, 1) := by decide +kernel
theorem dX1_readChildren_44 : decode cX1_readChildren 44 = .ok (.iaload, 1) := by decide +kernel
theorem dX1_readChildren_45 : decode cX1_readChildren 45 = .ok (.aload_n 0, 1) := by decide +kernel
theorem dX1_readChildren_46 : decode cX1_readChildren 46 = .ok (.getfield 18, 3) := by decide +kernel
theorem dX1_readChildren_49 : decode cX1_readChildren 49 = .ok (.iload_n 2, 1) := by decide +kernel
theorem dX1_readChildren_50 : decode cX1_readChildren 50 = .ok (.iaload, 1) := by decide +kernel
theorem dX1_readChildren_51 : decode cX1_readChildren 51 = .ok (.isub, 1) := by decide +kernel
theorem dX1_readChildren_52 : decode cX1_readChildren 52 = .ok (.sipush 480, 3) := by decide +kernel
theorem dX1_readChildren_55 : decode cX1_readChildren 55 = .ok (.if_icmp .le 15, 3) := by decide +kernel
theorem dX1_readChildren_58 : decode cX1_readChildren 58 = .ok (.aload_n 0, 1) := by decide +kernel
theorem dX1_readChildren_59 : decode cX1_readChildren 59 = .ok (.dup, 1) := by decide +kernel
theorem dX1_readChildren_60 : decode cX1_readChildren 60 = .ok (.getfield 109, 3) := by decide +kernel
theorem dX1_readChildren_63 : decode cX1_readChildren 63 = .ok (.iconst 1, 1) := by decide +kernel
theorem dX1_readChildren_64 : decode cX1_readChildren 64 = .ok (.iload_n 2, 1) := by decide +kernel
theorem dX1_readChildren_65 : decode cX1_readChildren 65 = .ok (.ishl, 1) := by decide +kernel
theorem dX1_readChildren_66 : decode cX1_readChildren 66 = .ok (.ior, 1) := by decide +kernel
theorem dX1_readChildren_67 : decode cX1_readChildren 67 = .ok (.putfield 109, 3) := by decide +kernel
theorem dX1_readChildren_70 : decode cX1_readChildren 70 = .ok (.iinc 2 1, 3) := by decide +kernel
theorem dX1_readChildren_73 : decode cX1_readChildren 73 = .ok (.goto (-53), 3) := by decide +kernel
theorem dX1_readChildren_76 : decode cX1_readChildren 76 = .ok (.return_, 1) := by decide +kernel
theorem dX2_init_0 : decode cX2_init 0 = .ok (.aload_n 0, 1) := by decide +kernel
theorem dX2_init_1 : decode cX2_init 1 = .ok (.invokespecial 3, 3) := by decide +kernel
theorem dX2_init_4 : decode cX2_init 4 = .ok (.aload_n 0, 1) := by decide +kernel
theorem dX2_init_5 : decode cX2_init 5 = .ok (.bipush 8, 2) := by decide +kernel
theorem dX2_init_7 : decode cX2_init 7 = .ok (.newarray .int, 2) := by decide +kernel
theorem dX2_init_9 : decode cX2_init 9 = .ok (.putfield 9, 3) := by decide +kernel
theorem dX2_init_12 : decode cX2_init 12 = .ok (.aload_n 0, 1) := by decide +kernel
theorem dX2_init_13 : decode cX2_init 13 = .ok (.bipush 8, 2) := by decide +kernel
theorem dX2_init_15 : decode cX2_init 15 = .ok (.newarray .int, 2) := by decide +kernel
theorem dX2_init_17 : decode cX2_init 17 = .ok (.putfield 15, 3) := by decide +kernel
theorem dX2_init_20 : decode cX2_init 20 = .ok (.aload_n 0, 1) := by decide +kernel
theorem dX2_init_21 : decode cX2_init 21 = .ok (.bipush 8, 2) := by decide +kernel
theorem dX2_init_23 : decode cX2_init 23 = .ok (.newarray .int, 2) := by decide +kernel
theorem dX2_init_25 : decode cX2_init 25 = .ok (.putfield 18, 3) := by decide +kernel
theorem dX2_init_28 : decode cX2_init 28 = .ok (.return_, 1) := by decide +kernel
theorem dX2_add_0 : decode cX2_add 0 = .ok (.aload_n 0, 1) := by decide +kernel
theorem dX2_add_1 : decode cX2_add 1 = .ok (.getfield 9, 3) := by decide +kernel
theorem dX2_add_4 : decode cX2_add 4 = .ok (.aload_n 0, 1) := by decide +kernel
theorem dX2_add_5 : decode cX2_add 5 = .ok (.getfield 21, 3) := by decide +kernel
theorem dX2_add_8 : decode cX2_add 8 = .ok (.iload_n 1, 1) := by decide +kernel
theorem dX2_add_9 : decode cX2_add 9 = .ok (.iastore, 1) := by decide +kernel
theorem dX2_add_10 : decode cX2_add 10 = .ok (.aload_n 0, 1) := by decide +kernel
theorem dX2_add_11 : decode cX2_add 11 = .ok (.getfield 15, 3) := by decide +kernel
theorem dX2_add_14 : decode cX2_add 14 = .ok (.aload_n 0, 1) := by decide +kernel
theorem dX2_add_15 : decode cX2_add 15 = .ok (.getfield 21, 3) := by decide +kernel
theorem dX2_add_18 : decode cX2_add 18 = .ok (.iload_n 2, 1) := by decide +kernel
theorem dX2_add_19 : decode cX2_add 19 = .ok (.iastore, 1) := by decide +kernel
theorem dX2_add_20 : decode cX2_add 20 = .ok (.aload_n 0, 1) := by decide +kernel
theorem dX2_add_21 : decode cX2_add 21 = .ok (.getfield 18, 3) := by decide +kernel
theorem dX2_add_24 : decode cX2_add 24 = .ok (.aload_n 0, 1) := by decide +kernel
theorem dX2_add_25 : decode cX2_add 25 = .ok (.getfield 21, 3) := by decide +kernel
theorem dX2_add_28 : decode cX2_add 28 = .ok (.iload_n 3, 1) := by decide +kernel
theorem dX2_add_29 : decode cX2_add 29 = .ok (.iastore, 1) := by decide +kernel
theorem dX2_add_30 : decode cX2_add 30 = .ok (.aload_n 0, 1) := by decide +kernel
theorem dX2_add_31 : decode cX2_add 31 = .ok (.aload_n 0, 1) := by decide +kernel
theorem dX2_add_32 : decode cX2_add 32 = .ok (.getfield 25, 3) := by decide +kernel
theorem dX2_add_35 : decode cX2_add 35 = .ok (.aload_n 0, 1) := by decide +kernel
theorem dX2_add_36 : decode cX2_add 36 = .ok (.getfield 21, 3) := by decide +kernel
theorem dX2_add_39 : decode cX2_add 39 = .ok (.iload 4, 2) := by decide +kernel
theorem dX2_add_41 : decode cX2_add 41 = .ok (.invokestatic 28, 3) := by decide +kernel
theorem dX2_add_44 : decode cX2_add 44 = .ok (.putfield 25, 3) := by decide +kernel
theorem dX2_add_47 : decode cX2_add 47 = .ok (.aload_n 0, 1) := by decide +kernel
theorem dX2_add_48 : decode cX2_add 48 = .ok (.dup, 1) := by decide +kernel
theorem dX2_add_49 : decode cX2_add 49 = .ok (.getfield 21, 3) := by decide +kernel
theorem dX2_add_52 : decode cX2_add 52 = .ok (.iconst 1, 1) := by decide +kernel
theorem dX2_add_53 : decode cX2_add 53 = .ok (.iadd, 1) := by decide +kernel
theorem dX2_add_54 : decode cX2_add 54 = .ok (.putfield 21, 3) := by decide +kernel
theorem dX2_add_57 : decode cX2_add 57 = .ok (.aload_n 0, 1) := by decide +kernel
theorem dX2_add_58 : decode cX2_add 58 = .ok (.getfield 21, 3) := by decide +kernel
theorem dX2_add_61 : decode cX2_add 61 = .ok (.iconst 1, 1) := by decide +kernel
theorem dX2_add_62 : decode cX2_add 62 = .ok (.isub, 1) := by decide +kernel
theorem dX2_add_63 : decode cX2_add 63 = .ok (.ireturn, 1) := by decide +kernel
theorem dX3_init_0 : decode cX3_init 0 = .ok (.aload_n 0, 1) := by decide +kernel
theorem dX3_init_1 : decode cX3_init 1 = .ok (.invokespecial 3, 3) := by decide +kernel
theorem dX3_init_4 : decode cX3_init 4 = .ok (.aload_n 0, 1) := by decide +kernel
theorem dX3_init_5 : decode cX3_init 5 = .ok (.sipush 480, 3) := by decide +kernel
theorem dX3_init_8 : decode cX3_init 8 = .ok (.putfield 9, 3) := by decide +kernel
theorem dX3_init_11 : decode cX3_init 11 = .ok (.aload_n 0, 1) := by decide +kernel
theorem dX3_init_12 : decode cX3_init 12 = .ok (.sipush 360, 3) := by decide +kernel
theorem dX3_init_15 : decode cX3_init 15 = .ok (.putfield 15, 3) := by decide +kernel
theorem dX3_init_18 : decode cX3_init 18 = .ok (.aload_n 0, 1) := by decide +kernel
theorem dX3_init_19 : decode cX3_init 19 = .ok (.sipush 1080, 3) := by decide +kernel
theorem dX3_init_22 : decode cX3_init 22 = .ok (.putfield 18, 3) := by decide +kernel
theorem dX3_init_25 : decode cX3_init 25 = .ok (.aload_n 0, 1) := by decide +kernel
theorem dX3_init_26 : decode cX3_init 26 = .ok (.bipush 8, 2) := by decide +kernel
theorem dX3_init_28 : decode cX3_init 28 = .ok (.newarray .int, 2) := by decide +kernel
theorem dX3_init_30 : decode cX3_init 30 = .ok (.putfield 21, 3) := by decide +kernel
theorem dX3_init_33 : decode cX3_init 33 = .ok (.return_, 1) := by decide +kernel
theorem dX3_isFull_0 : decode cX3_isFull 0 = .ok (.aload_n 0, 1) := by decide +kernel
theorem dX3_isFull_1 : decode cX3_isFull 1 = .ok (.getfield 25, 3) := by decide +kernel
theorem dX3_isFull_4 : decode cX3_isFull 4 = .ok (.bipush 8, 2) := by decide +kernel
theorem dX3_isFull_6 : decode cX3_isFull 6 = .ok (.if_icmp .lt 7, 3) := by decide +kernel
theorem dX3_isFull_9 : decode cX3_isFull 9 = .ok (.iconst 1, 1) := by decide +kernel
theorem dX3_isFull_10 : decode cX3_isFull 10 = .ok (.goto 4, 3) := by decide +kernel
theorem dX3_isFull_13 : decode cX3_isFull 13 = .ok (.iconst 0, 1) := by decide +kernel
theorem dX3_isFull_14 : decode cX3_isFull 14 = .ok (.ireturn, 1) := by decide +kernel
theorem dX3_insert_0 : decode cX3_insert 0 = .ok (.aload_n 0, 1) := by decide +kernel
theorem dX3_insert_1 : decode cX3_insert 1 = .ok (.getfield 25, 3) := by decide +kernel
theorem dX3_insert_4 : decode cX3_insert 4 = .ok (.istore_n 3, 1) := by decide +kernel
theorem dX3_insert_5 : decode cX3_insert 5 = .ok (.iload_n 3, 1) := by decide +kernel
theorem dX3_insert_6 : decode cX3_insert 6 = .ok (.iload_n 2, 1) := by decide +kernel
theorem dX3_insert_7 : decode cX3_insert 7 = .ok (.if_icmp .le 23, 3) := by decide +kernel
theorem dX3_insert_10 : decode cX3_insert 10 = .ok (.aload_n 0, 1) := by decide +kernel
theorem dX3_insert_11 : decode cX3_insert 11 = .ok (.getfield 21, 3) := by decide +kernel
theorem dX3_insert_14 : decode cX3_insert 14 = .ok (.iload_n 3, 1) := by decide +kernel
theorem dX3_insert_15 : decode cX3_insert 15 = .ok (.aload_n 0, 1) := by decide +kernel
theorem dX3_insert_16 : decode cX3_insert 16 = .ok (.getfield 21, 3) := by decide +kernel
theorem dX3_insert_19 : decode cX3_insert 19 = .ok (.iload_n 3, 1) := by decide +kernel
theorem dX3_insert_20 : decode cX3_insert 20 = .ok (.iconst 1, 1) := by decide +kernel
theorem dX3_insert_21 : decode cX3_insert 21 = .ok (.isub, 1) := by decide +kernel
theorem dX3_insert_22 : decode cX3_insert 22 = .ok (.iaload, 1) := by decide +kernel
theorem dX3_insert_23 : decode cX3_insert 23 = .ok (.iastore, 1) := by decide +kernel
theorem dX3_insert_24 : decode cX3_insert 24 = .ok (.iinc 3 (-1), 3) := by decide +kernel
theorem dX3_insert_27 : decode cX3_insert 27 = .ok (.goto (-22), 3) := by decide +kernel
theorem dX3_insert_30 : decode cX3_insert 30 = .ok (.aload_n 0, 1) := by decide +kernel
theorem dX3_insert_31 : decode cX3_insert 31 = .ok (.getfield 21, 3) := by decide +kernel
theorem dX3_insert_34 : decode cX3_insert 34 = .ok (.iload_n 2, 1) := by decide +kernel
theorem dX3_insert_35 : decode cX3_insert 35 = .ok (.iload_n 1, 1) := by decide +kernel
theorem dX3_insert_36 : decode cX3_insert 36 = .ok (.iastore, 1) := by decide +kernel
theorem dX3_insert_37 : decode cX3_insert 37 = .ok (.aload_n 0, 1) := by decide +kernel
theorem dX3_insert_38 : decode cX3_insert 38 = .ok (.dup, 1) := by decide +kernel
theorem dX3_insert_39 : decode cX3_insert 39 = .ok (.getfield 25, 3) := by decide +kernel
theorem dX3_insert_42 : decode cX3_insert 42 = .ok (.iconst 1, 1) := by decide +kernel
theorem dX3_insert_43 : decode cX3_insert 43 = .ok (.iadd, 1) := by decide +kernel
theorem dX3_insert_44 : decode cX3_insert 44 = .ok (.putfield 25, 3) := by decide +kernel
theorem dX3_insert_47 : decode cX3_insert 47 = .ok (.return_, 1) := by decide +kernel
theorem dX3_remove_0 : decode cX3_remove 0 = .ok (.iconst 0, 1) := by decide +kernel
theorem dX3_remove_1 : decode cX3_remove 1 = .ok (.istore_n 2, 1) := by decide +kernel
theorem dX3_remove_2 : decode cX3_remove 2 = .ok (.iconst 0, 1) := by decide +kernel
theorem dX3_remove_3 : decode cX3_remove 3 = .ok (.istore_n 3, 1) := by decide +kernel
theorem dX3_remove_4 : decode cX3_remove 4 = .ok (.iload_n 3, 1) := by decide +kernel
theorem dX3_remove_5 : decode cX3_remove 5 = .ok (.aload_n 0, 1) := by decide +kernel
theorem dX3_remove_6 : decode cX3_remove 6 = .ok (.getfield 25, 3) := by decide +kernel
theorem dX3_remove_9 : decode cX3_remove 9 = .ok (.if_icmp .ge 34, 3) := by decide +kernel
theorem dX3_remove_12 : decode cX3_remove 12 = .ok (.aload_n 0, 1) := by decide +kernel
theorem dX3_remove_13 : decode cX3_remove 13 = .ok (.getfield 21, 3) := by decide +kernel
theorem dX3_remove_16 : decode cX3_remove 16 = .ok (.iload_n 3, 1) := by decide +kernel
theorem dX3_remove_17 : decode cX3_remove 17 = .ok (.iaload, 1) := by decide +kernel
theorem dX3_remove_18 : decode cX3_remove 18 = .ok (.iload_n 1, 1) := by decide +kernel
theorem dX3_remove_19 : decode cX3_remove 19 = .ok (.if_icmp .eq 18, 3) := by decide +kernel
theorem dX3_remove_22 : decode cX3_remove 22 = .ok (.aload_n 0, 1) := by decide +kernel
theorem dX3_remove_23 : decode cX3_remove 23 = .ok (.getfield 21, 3) := by decide +kernel
theorem dX3_remove_26 : decode cX3_remove 26 = .ok (.iload_n 2, 1) := by decide +kernel
theorem dX3_remove_27 : decode cX3_remove 27 = .ok (.aload_n 0, 1) := by decide +kernel
theorem dX3_remove_28 : decode cX3_remove 28 = .ok (.getfield 21, 3) := by decide +kernel
theorem dX3_remove_31 : decode cX3_remove 31 = .ok (.iload_n 3, 1) := by decide +kernel
theorem dX3_remove_32 : decode cX3_remove 32 = .ok (.iaload, 1) := by decide +kernel
theorem dX3_remove_33 : decode cX3_remove 33 = .ok (.iastore, 1) := by decide +kernel
theorem dX3_remove_34 : decode cX3_remove 34 = .ok (.iinc 2 1, 3) := by decide +kernel
theorem dX3_remove_37 : decode cX3_remove 37 = .ok (.iinc 3 1, 3) := by decide +kernel
theorem dX3_remove_40 : decode cX3_remove 40 = .ok (.goto (-36), 3) := by decide +kernel
theorem dX3_remove_43 : decode cX3_remove 43 = .ok (.aload_n 0, 1) := by decide +kernel
theorem dX3_remove_44 : decode cX3_remove 44 = .ok (.iload_n 2, 1) := by decide +kernel
theorem dX3_remove_45 : decode cX3_remove 45 = .ok (.putfield 25, 3) := by decide +kernel
theorem dX3_remove_48 : decode cX3_remove 48 = .ok (.return_, 1) := by decide +kernel
theorem dX3_spotOf_0 : decode cX3_spotOf 0 = .ok (.iconst 0, 1) := by decide +kernel
theorem dX3_spotOf_1 : decode cX3_spotOf 1 = .ok (.istore_n 2, 1) := by decide +kernel
theorem dX3_spotOf_2 : decode cX3_spotOf 2 = .ok (.iload_n 2, 1) := by decide +kernel
theorem dX3_spotOf_3 : decode cX3_spotOf 3 = .ok (.aload_n 0, 1) := by decide +kernel
theorem dX3_spotOf_4 : decode cX3_spotOf 4 = .ok (.getfield 25, 3) := by decide +kernel
theorem dX3_spotOf_7 : decode cX3_spotOf 7 = .ok (.if_icmp .ge 21, 3) := by decide +kernel
theorem dX3_spotOf_10 : decode cX3_spotOf 10 = .ok (.aload_n 0, 1) := by decide +kernel
theorem dX3_spotOf_11 : decode cX3_spotOf 11 = .ok (.getfield 21, 3) := by decide +kernel
theorem dX3_spotOf_14 : decode cX3_spotOf 14 = .ok (.iload_n 2, 1) := by decide +kernel
theorem dX3_spotOf_15 : decode cX3_spotOf 15 = .ok (.iaload, 1) := by decide +kernel
theorem dX3_spotOf_16 : decode cX3_spotOf 16 = .ok (.iload_n 1, 1) := by decide +kernel
theorem dX3_spotOf_17 : decode cX3_spotOf 17 = .ok (.if_icmp .ne 5, 3) := by decide +kernel
theorem dX3_spotOf_20 : decode cX3_spotOf 20 = .ok (.iload_n 2, 1) := by decide +kernel
theorem dX3_spotOf_21 : decode cX3_spotOf 21 = .ok (.ireturn, 1) := by decide +kernel
theorem dX3_spotOf_22 : decode cX3_spotOf 22 = .ok (.iinc 2 1, 3) := by decide +kernel
theorem dX3_spotOf_25 : decode cX3_spotOf 25 = .ok (.goto (-23), 3) := by decide +kernel
theorem dX3_spotOf_28 : decode cX3_spotOf 28 = .ok (.iconst 0, 1) := by decide +kernel
theorem dX3_spotOf_29 : decode cX3_spotOf 29 = .ok (.ireturn, 1) := by decide +kernel
theorem dX4_init_0 : decode cX4_init 0 = .ok (.aload_n 0, 1) := by decide +kernel
theorem dX4_init_1 : decode cX4_init 1 = .ok (.invokespecial 3, 3) := by decide +kernel
theorem dX4_init_4 : decode cX4_init 4 = .ok (.aload_n 0, 1) := by decide +kernel
theorem dX4_init_5 : decode cX4_init 5 = .ok (.bipush 8, 2) := by decide +kernel
theorem dX4_init_7 : decode cX4_init 7 = .ok (.newarray .int, 2) := by decide +kernel
theorem dX4_init_9 : decode cX4_init 9 = .ok (.putfield 9, 3) := by decide +kernel
theorem dX4_init_12 : decode cX4_init 12 = .ok (.aload_n 0, 1) := by decide +kernel
theorem dX4_init_13 : decode cX4_init 13 = .ok (.aload_n 1, 1) := by decide +kernel
theorem dX4_init_14 : decode cX4_init 14 = .ok (.putfield 15, 3) := by decide +kernel
theorem dX4_init_17 : decode cX4_init 17 = .ok (.aload_n 0, 1) := by decide +kernel
theorem dX4_init_18 : decode cX4_init 18 = .ok (.aload_n 2, 1) := by decide +kernel
theorem dX4_init_19 : decode cX4_init 19 = .ok (.putfield 19, 3) := by decide +kernel
theorem dX4_init_22 : decode cX4_init 22 = .ok (.return_, 1) := by decide +kernel
theorem dX4_takeIllOnes_0 : decode cX4_takeIllOnes 0 = .ok (.aload_n 0, 1) := by decide +kernel
theorem dX4_takeIllOnes_1 : decode cX4_takeIllOnes 1 = .ok (.getfield 19, 3) := by decide +kernel
theorem dX4_takeIllOnes_4 : decode cX4_takeIllOnes 4 = .ok (.getfield 23, 3) := by decide +kernel
theorem dX4_takeIllOnes_7 : decode cX4_takeIllOnes 7 = .ok (.iload_n 1, 1) := by decide +kernel
theorem dX4_takeIllOnes_8 : decode cX4_takeIllOnes 8 = .ok (.aaload, 1) := by decide +kernel
theorem dX4_takeIllOnes_9 : decode cX4_takeIllOnes 9 = .ok (.astore_n 2, 1) := by decide +kernel
theorem dX4_takeIllOnes_10 : decode cX4_takeIllOnes 10 = .ok (.iconst 0, 1) := by decide +kernel
theorem dX4_takeIllOnes_11 : decode cX4_takeIllOnes 11 = .ok (.istore_n 3, 1) := by decide +kernel
theorem dX4_takeIllOnes_12 : decode cX4_takeIllOnes 12 = .ok (.iconst 0, 1) := by decide +kernel
theorem dX4_takeIllOnes_13 : decode cX4_takeIllOnes 13 = .ok (.istore 4, 2) := by decide +kernel
theorem dX4_takeIllOnes_15 : decode cX4_takeIllOnes 15 = .ok (.iload 4, 2) := by decide +kernel
theorem dX4_takeIllOnes_17 : decode cX4_takeIllOnes 17 = .ok (.aload_n 2, 1) := by decide +kernel
theorem dX4_takeIllOnes_18 : decode cX4_takeIllOnes 18 = .ok (.getfield 29, 3) := by decide +kernel
theorem dX4_takeIllOnes_21 : decode cX4_takeIllOnes 21 = .ok (.if_icmp .ge 63, 3) := by decide +kernel
theorem dX4_takeIllOnes_24 : decode cX4_takeIllOnes 24 = .ok (.aload_n 0, 1) := by decide +kernel
theorem dX4_takeIllOnes_25 : decode cX4_takeIllOnes 25 = .ok (.getfield 15, 3) := by decide +kernel
theorem dX4_takeIllOnes_28 : decode cX4_takeIllOnes 28 = .ok (.getfield 35, 3) := by decide +kernel
theorem dX4_takeIllOnes_31 : decode cX4_takeIllOnes 31 = .ok (.aload_n 2, 1) := by decide +kernel
theorem dX4_takeIllOnes_32 : decode cX4_takeIllOnes 32 = .ok (.getfield 41, 3) := by decide +kernel
theorem dX4_takeIllOnes_35 : decode cX4_takeIllOnes 35 = .ok (.iload 4, 2) := by decide +kernel
theorem dX4_takeIllOnes_37 : decode cX4_takeIllOnes 37 = .ok (.iaload, 1) := by decide +kernel
theorem dX4_takeIllOnes_38 : decode cX4_takeIllOnes 38 = .ok (.aaload, 1) := by decide +kernel
theorem dX4_takeIllOnes_39 : decode cX4_takeIllOnes 39 = .ok (.astore 5, 2) := by decide +kernel
theorem dX4_takeIllOnes_41 : decode cX4_takeIllOnes 41 = .ok (.aload 5, 2) := by decide +kernel
theorem dX4_takeIllOnes_43 : decode cX4_takeIllOnes 43 = .ok (.getfield 44, 3) := by decide +kernel
theorem dX4_takeIllOnes_46 : decode cX4_takeIllOnes 46 = .ok (.ifCond .ne 32, 3) := by decide +kernel
theorem dX4_takeIllOnes_49 : decode cX4_takeIllOnes 49 = .ok (.aload 5, 2) := by decide +kernel
theorem dX4_takeIllOnes_51 : decode cX4_takeIllOnes 51 = .ok (.getfield 50, 3) := by decide +kernel
theorem dX4_takeIllOnes_54 : decode cX4_takeIllOnes 54 = .ok (.aload_n 2, 1) := by decide +kernel
theorem dX4_takeIllOnes_55 : decode cX4_takeIllOnes 55 = .ok (.getfield 53, 3) := by decide +kernel
theorem dX4_takeIllOnes_58 : decode cX4_takeIllOnes 58 = .ok (.iand, 1) := by decide +kernel
theorem dX4_takeIllOnes_59 : decode cX4_takeIllOnes 59 = .ok (.ifCond .eq 19, 3) := by decide +kernel
theorem dX4_takeIllOnes_62 : decode cX4_takeIllOnes 62 = .ok (.aload_n 0, 1) := by decide +kernel
theorem dX4_takeIllOnes_63 : decode cX4_takeIllOnes 63 = .ok (.getfield 9, 3) := by decide +kernel
theorem dX4_takeIllOnes_66 : decode cX4_takeIllOnes 66 = .ok (.iload_n 3, 1) := by decide +kernel
theorem dX4_takeIllOnes_67 : decode cX4_takeIllOnes 67 = .ok (.aload_n 2, 1) := by decide +kernel
theorem dX4_takeIllOnes_68 : decode cX4_takeIllOnes 68 = .ok (.getfield 41, 3) := by decide +kernel
theorem dX4_takeIllOnes_71 : decode cX4_takeIllOnes 71 = .ok (.iload 4, 2) := by decide +kernel
theorem dX4_takeIllOnes_73 : decode cX4_takeIllOnes 73 = .ok (.iaload, 1) := by decide +kernel
theorem dX4_takeIllOnes_74 : decode cX4_takeIllOnes 74 = .ok (.iastore, 1) := by decide +kernel
theorem dX4_takeIllOnes_75 : decode cX4_takeIllOnes 75 = .ok (.iinc 3 1, 3) := by decide +kernel
theorem dX4_takeIllOnes_78 : decode cX4_takeIllOnes 78 = .ok (.iinc 4 1, 3) := by decide +kernel
theorem dX4_takeIllOnes_81 : decode cX4_takeIllOnes 81 = .ok (.goto (-66), 3) := by decide +kernel
theorem dX4_takeIllOnes_84 : decode cX4_takeIllOnes 84 = .ok (.iconst 0, 1) := by decide +kernel
theorem dX4_takeIllOnes_85 : decode cX4_takeIllOnes 85 = .ok (.istore 4, 2) := by decide +kernel
theorem dX4_takeIllOnes_87 : decode cX4_takeIllOnes 87 = .ok (.iload 4, 2) := by decide +kernel
theorem dX4_takeIllOnes_89 : decode cX4_takeIllOnes 89 = .ok (.iload_n 3, 1) := by decide +kernel
theorem dX4_takeIllOnes_90 : decode cX4_takeIllOnes 90 = .ok (.if_icmp .ge 23, 3) := by decide +kernel
theorem dX4_takeIllOnes_93 : decode cX4_takeIllOnes 93 = .ok (.aload_n 0, 1) := by decide +kernel
theorem dX4_takeIllOnes_94 : decode cX4_takeIllOnes 94 = .ok (.getfield 19, 3) := by decide +kernel
theorem dX4_takeIllOnes_97 : decode cX4_takeIllOnes 97 = .ok (.aload_n 0, 1) := by decide +kernel
theorem dX4_takeIllOnes_98 : decode cX4_takeIllOnes 98 = .ok (.getfield 9, 3) := by decide +kernel
theorem dX4_takeIllOnes_101 : decode cX4_takeIllOnes 101 = .ok (.iload 4, 2) := by decide +kernel
theorem dX4_takeIllOnes_103 : decode cX4_takeIllOnes 103 = .ok (.iaload, 1) := by decide +kernel
theorem dX4_takeIllOnes_104 : decode cX4_takeIllOnes 104 = .ok (.invokevirtual 56, 3) := by decide +kernel
theorem dX4_takeIllOnes_107 : decode cX4_takeIllOnes 107 = .ok (.iinc 4 1, 3) := by decide +kernel
theorem dX4_takeIllOnes_110 : decode cX4_takeIllOnes 110 = .ok (.goto (-23), 3) := by decide +kernel
theorem dX4_takeIllOnes_113 : decode cX4_takeIllOnes 113 = .ok (.iload_n 3, 1) := by decide +kernel
theorem dX4_takeIllOnes_114 : decode cX4_takeIllOnes 114 = .ok (.ireturn, 1) := by decide +kernel
theorem dX4_findDay_0 : decode cX4_findDay 0 = .ok (.aload_n 0, 1) := by decide +kernel
theorem dX4_findDay_1 : decode cX4_findDay 1 = .ok (.getfield 19, 3) := by decide +kernel
theorem dX4_findDay_4 : decode cX4_findDay 4 = .ok (.getfield 60, 3) := by decide +kernel
theorem dX4_findDay_7 : decode cX4_findDay 7 = .ok (.istore_n 3, 1) := by decide +kernel
theorem dX4_findDay_8 : decode cX4_findDay 8 = .ok (.iload_n 3, 1) := by decide +kernel
theorem dX4_findDay_9 : decode cX4_findDay 9 = .ok (.bipush 30, 2) := by decide +kernel
theorem dX4_findDay_11 : decode cX4_findDay 11 = .ok (.if_icmp .ge 25, 3) := by decide +kernel
theorem dX4_findDay_14 : decode cX4_findDay 14 = .ok (.iload_n 3, 1) := by decide +kernel
theorem dX4_findDay_15 : decode cX4_findDay 15 = .ok (.iload_n 2, 1) := by decide +kernel
theorem dX4_findDay_16 : decode cX4_findDay 16 = .ok (.if_icmp .eq 14, 3) := by decide +kernel
theorem dX4_findDay_19 : decode cX4_findDay 19 = .ok (.aload_n 0, 1) := by decide +kernel
theorem dX4_findDay_20 : decode cX4_findDay 20 = .ok (.iload_n 1, 1) := by decide +kernel
theorem dX4_findDay_21 : decode cX4_findDay 21 = .ok (.iload_n 3, 1) := by decide +kernel
theorem dX4_findDay_22 : decode cX4_findDay 22 = .ok (.invokevirtual 63, 3) := by decide +kernel
theorem dX4_findDay_25 : decode cX4_findDay 25 = .ok (.ifCond .eq 5, 3) := by decide +kernel
theorem dX4_findDay_28 : decode cX4_findDay 28 = .ok (.iconst 1, 1) := by decide +kernel
theorem dX4_findDay_29 : decode cX4_findDay 29 = .ok (.ireturn, 1) := by decide +kernel
theorem dX4_findDay_30 : decode cX4_findDay 30 = .ok (.iinc 3 1, 3) := by decide +kernel
theorem dX4_findDay_33 : decode cX4_findDay 33 = .ok (.goto (-25), 3) := by decide +kernel
theorem dX4_findDay_36 : decode cX4_findDay 36 = .ok (.iconst 0, 1) := by decide +kernel
theorem dX4_findDay_37 : decode cX4_findDay 37 = .ok (.ireturn, 1) := by decide +kernel
theorem dX4_fits_0 : decode cX4_fits 0 = .ok (.aload_n 0, 1) := by decide +kernel
theorem dX4_fits_1 : decode cX4_fits 1 = .ok (.getfield 19, 3) := by decide +kernel
theorem dX4_fits_4 : decode cX4_fits 4 = .ok (.getfield 23, 3) := by decide +kernel
theorem dX4_fits_7 : decode cX4_fits 7 = .ok (.iload_n 2, 1) := by decide +kernel
theorem dX4_fits_8 : decode cX4_fits 8 = .ok (.aaload, 1) := by decide +kernel
theorem dX4_fits_9 : decode cX4_fits 9 = .ok (.astore_n 3, 1) := by decide +kernel
theorem dX4_fits_10 : decode cX4_fits 10 = .ok (.aload_n 3, 1) := by decide +kernel
theorem dX4_fits_11 : decode cX4_fits 11 = .ok (.invokevirtual 67, 3) := by decide +kernel
theorem dX4_fits_14 : decode cX4_fits 14 = .ok (.ifCond .eq 5, 3) := by decide +kernel
theorem dX4_fits_17 : decode cX4_fits 17 = .ok (.iconst 0, 1) := by decide +kernel
theorem dX4_fits_18 : decode cX4_fits 18 = .ok (.ireturn, 1) := by decide +kernel
theorem dX4_fits_19 : decode cX4_fits 19 = .ok (.aload_n 3, 1) := by decide +kernel
theorem dX4_fits_20 : decode cX4_fits 20 = .ok (.getfield 29, 3) := by decide +kernel
theorem dX4_fits_23 : decode cX4_fits 23 = .ok (.istore 4, 2) := by decide +kernel
theorem dX4_fits_25 : decode cX4_fits 25 = .ok (.aload_n 0, 1) := by decide +kernel
theorem dX4_fits_26 : decode cX4_fits 26 = .ok (.getfield 19, 3) := by decide +kernel
theorem dX4_fits_29 : decode cX4_fits 29 = .ok (.iload_n 2, 1) := by decide +kernel
theorem dX4_fits_30 : decode cX4_fits 30 = .ok (.invokevirtual 71, 3) := by decide +kernel
theorem dX4_fits_33 : decode cX4_fits 33 = .ok (.iconst 1, 1) := by decide +kernel
theorem dX4_fits_34 : decode cX4_fits 34 = .ok (.iload 4, 2) := by decide +kernel
theorem dX4_fits_36 : decode cX4_fits 36 = .ok (.ishl, 1) := by decide +kernel
theorem dX4_fits_37 : decode cX4_fits 37 = .ok (.ior, 1) := by decide +kernel
theorem dX4_fits_38 : decode cX4_fits 38 = .ok (.istore 5, 2) := by decide +kernel
theorem dX4_fits_40 : decode cX4_fits 40 = .ok (.aload_n 0, 1) := by decide +kernel
theorem dX4_fits_41 : decode cX4_fits 41 = .ok (.getfield 19, 3) := by decide +kernel
theorem dX4_fits_44 : decode cX4_fits 44 = .ok (.iload_n 1, 1) := by decide +kernel
theorem dX4_fits_45 : decode cX4_fits 45 = .ok (.iload_n 2, 1) := by decide +kernel
theorem dX4_fits_46 : decode cX4_fits 46 = .ok (.iload 4, 2) := by decide +kernel
theorem dX4_fits_48 : decode cX4_fits 48 = .ok (.invokevirtual 75, 3) := by decide +kernel
theorem dX4_fits_51 : decode cX4_fits 51 = .ok (.iload 5, 2) := by decide +kernel
theorem dX4_fits_53 : decode cX4_fits 53 = .ok (.aload_n 0, 1) := by decide +kernel
theorem dX4_fits_54 : decode cX4_fits 54 = .ok (.getfield 19, 3) := by decide +kernel
theorem dX4_fits_57 : decode cX4_fits 57 = .ok (.iload_n 2, 1) := by decide +kernel
theorem dX4_fits_58 : decode cX4_fits 58 = .ok (.invokevirtual 71, 3) := by decide +kernel
theorem dX4_fits_61 : decode cX4_fits 61 = .ok (.iconst (-1), 1) := by decide +kernel
theorem dX4_fits_62 : decode cX4_fits 62 = .ok (.ixor, 1) := by decide +kernel
theorem dX4_fits_63 : decode cX4_fits 63 = .ok (.iand, 1) := by decide +kernel
theorem dX4_fits_64 : decode cX4_fits 64 = .ok (.ifCond .ne 5, 3) := by decide +kernel
theorem dX4_fits_67 : decode cX4_fits 67 = .ok (.iconst 1, 1) := by decide +kernel
theorem dX4_fits_68 : decode cX4_fits 68 = .ok (.ireturn, 1) := by decide +kernel
theorem dX4_fits_69 : decode cX4_fits 69 = .ok (.aload_n 0, 1) := by decide +kernel
theorem dX4_fits_70 : decode cX4_fits 70 = .ok (.getfield 19, 3) := by decide +kernel
theorem dX4_fits_73 : decode cX4_fits 73 = .ok (.iload_n 1, 1) := by decide +kernel
theorem dX4_fits_74 : decode cX4_fits 74 = .ok (.invokevirtual 56, 3) := by decide +kernel
theorem dX4_fits_77 : decode cX4_fits 77 = .ok (.iconst 0, 1) := by decide +kernel
theorem dX4_fits_78 : decode cX4_fits 78 = .ok (.ireturn, 1) := by decide +kernel
theorem dX5_init_0 : decode cX5_init 0 = .ok (.aload_n 0, 1) := by decide +kernel
theorem dX5_init_1 : decode cX5_init 1 = .ok (.invokespecial 1, 3) := by decide +kernel
theorem dX5_init_4 : decode cX5_init 4 = .ok (.return_, 1) := by decide +kernel
theorem dX5_learn_0 : decode cX5_learn 0 = .ok (.aload_n 0, 1) := by decide +kernel
theorem dX5_learn_1 : decode cX5_learn 1 = .ok (.dup, 1) := by decide +kernel
theorem dX5_learn_2 : decode cX5_learn 2 = .ok (.getfield 7, 3) := by decide +kernel
theorem dX5_learn_5 : decode cX5_learn 5 = .ok (.iload_n 1, 1) := by decide +kernel
theorem dX5_learn_6 : decode cX5_learn 6 = .ok (.iadd, 1) := by decide +kernel
theorem dX5_learn_7 : decode cX5_learn 7 = .ok (.putfield 7, 3) := by decide +kernel
theorem dX5_learn_10 : decode cX5_learn 10 = .ok (.aload_n 0, 1) := by decide +kernel
theorem dX5_learn_11 : decode cX5_learn 11 = .ok (.dup, 1) := by decide +kernel
theorem dX5_learn_12 : decode cX5_learn 12 = .ok (.getfield 13, 3) := by decide +kernel
theorem dX5_learn_15 : decode cX5_learn 15 = .ok (.iload_n 2, 1) := by decide +kernel
theorem dX5_learn_16 : decode cX5_learn 16 = .ok (.iadd, 1) := by decide +kernel
theorem dX5_learn_17 : decode cX5_learn 17 = .ok (.putfield 13, 3) := by decide +kernel
theorem dX5_learn_20 : decode cX5_learn 20 = .ok (.aload_n 0, 1) := by decide +kernel
theorem dX5_learn_21 : decode cX5_learn 21 = .ok (.invokevirtual 16, 3) := by decide +kernel
theorem dX5_learn_24 : decode cX5_learn 24 = .ok (.ireturn, 1) := by decide +kernel
theorem dX5_ofEighth_0 : decode cX5_ofEighth 0 = .ok (.aload_n 0, 1) := by decide +kernel
theorem dX5_ofEighth_1 : decode cX5_ofEighth 1 = .ok (.getfield 13, 3) := by decide +kernel
theorem dX5_ofEighth_4 : decode cX5_ofEighth 4 = .ok (.ifCond .ne 8, 3) := by decide +kernel
theorem dX5_ofEighth_7 : decode cX5_ofEighth 7 = .ok (.bipush 15, 2) := by decide +kernel
theorem dX5_ofEighth_9 : decode cX5_ofEighth 9 = .ok (.goto 19, 3) := by decide +kernel
theorem dX5_ofEighth_12 : decode cX5_ofEighth 12 = .ok (.aload_n 0, 1) := by decide +kernel
theorem dX5_ofEighth_13 : decode cX5_ofEighth 13 = .ok (.getfield 7, 3) := by decide +kernel
theorem dX5_ofEighth_16 : decode cX5_ofEighth 16 = .ok (.aload_n 0, 1) := by decide +kernel
theorem dX5_ofEighth_17 : decode cX5_ofEighth 17 = .ok (.getfield 13, 3) := by decide +kernel
theorem dX5_ofEighth_20 : decode cX5_ofEighth 20 = .ok (.iadd, 1) := by decide +kernel
theorem dX5_ofEighth_21 : decode cX5_ofEighth 21 = .ok (.iconst 1, 1) := by decide +kernel
theorem dX5_ofEighth_22 : decode cX5_ofEighth 22 = .ok (.isub, 1) := by decide +kernel
theorem dX5_ofEighth_23 : decode cX5_ofEighth 23 = .ok (.aload_n 0, 1) := by decide +kernel
theorem dX5_ofEighth_24 : decode cX5_ofEighth 24 = .ok (.getfield 13, 3) := by decide +kernel
theorem dX5_ofEighth_27 : decode cX5_ofEighth 27 = .ok (.idiv, 1) := by decide +kernel
theorem dX5_ofEighth_28 : decode cX5_ofEighth 28 = .ok (.ireturn, 1) := by decide +kernel
theorem dX6_init_0 : decode cX6_init 0 = .ok (.aload_n 0, 1) := by decide +kernel
theorem dX6_init_1 : decode cX6_init 1 = .ok (.invokespecial 3, 3) := by decide +kernel
theorem dX6_init_4 : decode cX6_init 4 = .ok (.aload_n 0, 1) := by decide +kernel
theorem dX6_init_5 : decode cX6_init 5 = .ok (.aload_n 1, 1) := by decide +kernel
theorem dX6_init_6 : decode cX6_init 6 = .ok (.putfield 9, 3) := by decide +kernel
theorem dX6_init_9 : decode cX6_init 9 = .ok (.aload_n 0, 1) := by decide +kernel
theorem dX6_init_10 : decode cX6_init 10 = .ok (.aload_n 2, 1) := by decide +kernel
theorem dX6_init_11 : decode cX6_init 11 = .ok (.putfield 15, 3) := by decide +kernel
theorem dX6_init_14 : decode cX6_init 14 = .ok (.aload_n 0, 1) := by decide +kernel
theorem dX6_init_15 : decode cX6_init 15 = .ok (.aload_n 3, 1) := by decide +kernel
theorem dX6_init_16 : decode cX6_init 16 = .ok (.putfield 19, 3) := by decide +kernel
theorem dX6_init_19 : decode cX6_init 19 = .ok (.aload_n 0, 1) := by decide +kernel
theorem dX6_init_20 : decode cX6_init 20 = .ok (.aload 4, 2) := by decide +kernel
theorem dX6_init_22 : decode cX6_init 22 = .ok (.putfield 23, 3) := by decide +kernel
theorem dX6_init_25 : decode cX6_init 25 = .ok (.return_, 1) := by decide +kernel
theorem dX6_payOf_0 : decode cX6_payOf 0 = .ok (.aload_n 0, 1) := by decide +kernel
theorem dX6_payOf_1 : decode cX6_payOf 1 = .ok (.getfield 15, 3) := by decide +kernel
theorem dX6_payOf_4 : decode cX6_payOf 4 = .ok (.getfield 27, 3) := by decide +kernel
theorem dX6_payOf_7 : decode cX6_payOf 7 = .ok (.iload_n 1, 1) := by decide +kernel
theorem dX6_payOf_8 : decode cX6_payOf 8 = .ok (.iaload, 1) := by decide +kernel
theorem dX6_payOf_9 : decode cX6_payOf 9 = .ok (.istore_n 3, 1) := by decide +kernel
theorem dX6_payOf_10 : decode cX6_payOf 10 = .ok (.iconst 0, 1) := by decide +kernel
theorem dX6_payOf_11 : decode cX6_payOf 11 = .ok (.istore 4, 2) := by decide +kernel
theorem dX6_payOf_13 : decode cX6_payOf 13 = .ok (.iconst (-1), 1) := by decide +kernel
theorem dX6_payOf_14 : decode cX6_payOf 14 = .ok (.istore 5, 2) := by decide +kernel
theorem dX6_payOf_16 : decode cX6_payOf 16 = .ok (.iconst 0, 1) := by decide +kernel
theorem dX6_payOf_17 : decode cX6_payOf 17 = .ok (.istore 6, 2) := by decide +kernel
theorem dX6_payOf_19 : decode cX6_payOf 19 = .ok (.iconst 0, 1) := by decide +kernel
theorem dX6_payOf_20 : decode cX6_payOf 20 = .ok (.istore 7, 2) := by decide +kernel
theorem dX6_payOf_22 : decode cX6_payOf 22 = .ok (.iconst 0, 1) := by decide +kernel
theorem dX6_payOf_23 : decode cX6_payOf 23 = .ok (.istore 8, 2) := by decide +kernel
theorem dX6_payOf_25 : decode cX6_payOf 25 = .ok (.iload 8, 2) := by decide +kernel
theorem dX6_payOf_27 : decode cX6_payOf 27 = .ok (.bipush 30, 2) := by decide +kernel
theorem dX6_payOf_29 : decode cX6_payOf 29 = .ok (.if_icmp .ge 165, 3) := by decide +kernel
theorem dX6_payOf_32 : decode cX6_payOf 32 = .ok (.aload_n 0, 1) := by decide +kernel
theorem dX6_payOf_33 : decode cX6_payOf 33 = .ok (.getfield 23, 3) := by decide +kernel
theorem dX6_payOf_36 : decode cX6_payOf 36 = .ok (.iload 8, 2) := by decide +kernel
theorem dX6_payOf_38 : decode cX6_payOf 38 = .ok (.invokevirtual 33, 3) := by decide +kernel
theorem dX6_payOf_41 : decode cX6_payOf 41 = .ok (.astore 9, 2) := by decide +kernel
theorem dX6_payOf_43 : decode cX6_payOf 43 = .ok (.aload 9, 2) := by decide +kernel
theorem dX6_payOf_45 : decode cX6_payOf 45 = .ok (.iload_n 1, 1) := by decide +kernel
theorem dX6_payOf_46 : decode cX6_payOf 46 = .ok (.invokevirtual 39, 3) := by decide +kernel
theorem dX6_payOf_49 : decode cX6_payOf 49 = .ok (.ifCond .ne 9, 3) := by decide +kernel
theorem dX6_payOf_52 : decode cX6_payOf 52 = .ok (.iconst 0, 1) := by decide +kernel
theorem dX6_payOf_53 : decode cX6_payOf 53 = .ok (.istore 7, 2) := by decide +kernel
theorem dX6_payOf_55 : decode cX6_payOf 55 = .ok (.goto 133, 3) := by decide +kernel
theorem dX6_payOf_58 : decode cX6_payOf 58 = .ok (.aload 9, 2) := by decide +kernel
theorem dX6_payOf_60 : decode cX6_payOf 60 = .ok (.getfield 45, 3) := by decide +kernel
theorem dX6_payOf_63 : decode cX6_payOf 63 = .ok (.iload_n 1, 1) := by decide +kernel
theorem dX6_payOf_64 : decode cX6_payOf 64 = .ok (.iaload, 1) := by decide +kernel
theorem dX6_payOf_65 : decode cX6_payOf 65 = .ok (.istore 10, 2) := by decide +kernel
theorem dX6_payOf_67 : decode cX6_payOf 67 = .ok (.aload 9, 2) := by decide +kernel
theorem dX6_payOf_69 : decode cX6_payOf 69 = .ok (.getfield 48, 3) := by decide +kernel
theorem dX6_payOf_72 : decode cX6_payOf 72 = .ok (.iload_n 1, 1) := by decide +kernel
theorem dX6_payOf_73 : decode cX6_payOf 73 = .ok (.iaload, 1) := by decide +kernel
theorem dX6_payOf_74 : decode cX6_payOf 74 = .ok (.istore 11, 2) := by decide +kernel
theorem dX6_payOf_76 : decode cX6_payOf 76 = .ok (.iload_n 2, 1) := by decide +kernel
theorem dX6_payOf_77 : decode cX6_payOf 77 = .ok (.ifCond .ne 26, 3) := by decide +kernel
theorem dX6_payOf_80 : decode cX6_payOf 80 = .ok (.iload 4, 2) := by decide +kernel
theorem dX6_payOf_82 : decode cX6_payOf 82 = .ok (.iload_n 3, 1) := by decide +kernel
theorem dX6_payOf_83 : decode cX6_payOf 83 = .ok (.aload_n 0, 1) := by decide +kernel
theorem dX6_payOf_84 : decode cX6_payOf 84 = .ok (.getfield 15, 3) := by decide +kernel
theorem dX6_payOf_87 : decode cX6_payOf 87 = .ok (.getfield 51, 3) := by decide +kernel
theorem dX6_payOf_90 : decode cX6_payOf 90 = .ok (.iload_n 1, 1) := by decide +kernel
theorem dX6_payOf_91 : decode cX6_payOf 91 = .ok (.iaload, 1) := by decide +kernel
theorem dX6_payOf_92 : decode cX6_payOf 92 = .ok (.iload 8, 2) := by decide +kernel
theorem dX6_payOf_94 : decode cX6_payOf 94 = .ok (.iload 5, 2) := by decide +kernel
theorem dX6_payOf_96 : decode cX6_payOf 96 = .ok (.invokestatic 54, 3) := by decide +kernel
theorem dX6_payOf_99 : decode cX6_payOf 99 = .ok (.imul, 1) := by decide +kernel
theorem dX6_payOf_100 : decode cX6_payOf 100 = .ok (.iadd, 1) := by decide +kernel
theorem dX6_payOf_101 : decode cX6_payOf 101 = .ok (.istore 4, 2) := by decide +kernel
theorem dX6_payOf_103 : decode cX6_payOf 103 = .ok (.iload 4, 2) := by decide +kernel
theorem dX6_payOf_105 : decode cX6_payOf 105 = .ok (.iload 11, 2) := by decide +kernel
theorem dX6_payOf_107 : decode cX6_payOf 107 = .ok (.iload 10, 2) := by decide +kernel
theorem dX6_payOf_109 : decode cX6_payOf 109 = .ok (.isub, 1) := by decide +kernel
theorem dX6_payOf_110 : decode cX6_payOf 110 = .ok (.sipush 600, 3) := by decide +kernel
theorem dX6_payOf_113 : decode cX6_payOf 113 = .ok (.isub, 1) := by decide +kernel
theorem dX6_payOf_114 : decode cX6_payOf 114 = .ok (.invokestatic 58, 3) := by decide +kernel
theorem dX6_payOf_117 : decode cX6_payOf 117 = .ok (.iload 11, 2) := by decide +kernel
theorem dX6_payOf_119 : decode cX6_payOf 119 = .ok (.sipush 1320, 3) := by decide +kernel
theorem dX6_payOf_122 : decode cX6_payOf 122 = .ok (.isub, 1) := by decide +kernel
theorem dX6_payOf_123 : decode cX6_payOf 123 = .ok (.invokestatic 58, 3) := by decide +kernel
theorem dX6_payOf_126 : decode cX6_payOf 126 = .ok (.iadd, 1) := by decide +kernel
theorem dX6_payOf_127 : decode cX6_payOf 127 = .ok (.iload_n 3, 1) := by decide +kernel
theorem dX6_payOf_128 : decode cX6_payOf 128 = .ok (.bipush 10, 2) := by decide +kernel
theorem dX6_payOf_130 : decode cX6_payOf 130 = .ok (.idiv, 1) := by decide +kernel
theorem dX6_payOf_131 : decode cX6_payOf 131 = .ok (.imul, 1) := by decide +kernel
theorem dX6_payOf_132 : decode cX6_payOf 132 = .ok (.iadd, 1) := by decide +kernel
theorem dX6_payOf_133 : decode cX6_payOf 133 = .ok (.istore 4, 2) := by decide +kernel
theorem dX6_payOf_135 : decode cX6_payOf 135 = .ok (.iload 7, 2) := by decide +kernel
theorem dX6_payOf_137 : decode cX6_payOf 137 = .ok (.ifCond .le 26, 3) := by decide +kernel
theorem dX6_payOf_140 : decode cX6_payOf 140 = .ok (.iload 10, 2) := by decide +kernel
theorem dX6_payOf_142 : decode cX6_payOf 142 = .ok (.sipush 1440, 3) := by decide +kernel
theorem dX6_payOf_145 : decode cX6_payOf 145 = .ok (.iadd, 1) := by decide +kernel
theorem dX6_payOf_146 : decode cX6_payOf 146 = .ok (.iload 6, 2) := by decide +kernel
theorem dX6_payOf_148 : decode cX6_payOf 148 = .ok (.isub, 1) := by decide +kernel
theorem dX6_payOf_149 : decode cX6_payOf 149 = .ok (.sipush 660, 3) := by decide +kernel
theorem dX6_payOf_152 : decode cX6_payOf 152 = .ok (.if_icmp .ge 11, 3) := by decide +kernel
theorem dX6_payOf_155 : decode cX6_payOf 155 = .ok (.iload 4, 2) := by decide +kernel
theorem dX6_payOf_157 : decode cX6_payOf 157 = .ok (.iload_n 3, 1) := by decide +kernel
theorem dX6_payOf_158 : decode cX6_payOf 158 = .ok (.iconst 4, 1) := by decide +kernel
theorem dX6_payOf_159 : decode cX6_payOf 159 = .ok (.idiv, 1) := by decide +kernel
theorem dX6_payOf_160 : decode cX6_payOf 160 = .ok (.iadd, 1) := by decide +kernel
theorem dX6_payOf_161 : decode cX6_payOf 161 = .ok (.istore 4, 2) := by decide +kernel
theorem dX6_payOf_163 : decode cX6_payOf 163 = .ok (.iload 7, 2) := by decide +kernel
theorem dX6_payOf_165 : decode cX6_payOf 165 = .ok (.iconst 5, 1) := by decide +kernel
theorem dX6_payOf_166 : decode cX6_payOf 166 = .ok (.if_icmp .lt 11, 3) := by decide +kernel
theorem dX6_payOf_169 : decode cX6_payOf 169 = .ok (.iload 4, 2) := by decide +kernel
theorem dX6_payOf_171 : decode cX6_payOf 171 = .ok (.iload_n 3, 1) := by decide +kernel
theorem dX6_payOf_172 : decode cX6_payOf 172 = .ok (.iconst 2, 1) := by decide +kernel
theorem dX6_payOf_173 : decode cX6_payOf 173 = .ok (.idiv, 1) := by decide +kernel
theorem dX6_payOf_174 : decode cX6_payOf 174 = .ok (.iadd, 1) := by decide +kernel
theorem dX6_payOf_175 : decode cX6_payOf 175 = .ok (.istore 4, 2) := by decide +kernel
theorem dX6_payOf_177 : decode cX6_payOf 177 = .ok (.iinc 7 1, 3) := by decide +kernel
theorem dX6_payOf_180 : decode cX6_payOf 180 = .ok (.iload 8, 2) := by decide +kernel
theorem dX6_payOf_182 : decode cX6_payOf 182 = .ok (.istore 5, 2) := by decide +kernel
theorem dX6_payOf_184 : decode cX6_payOf 184 = .ok (.iload 11, 2) := by decide +kernel
theorem dX6_payOf_186 : decode cX6_payOf 186 = .ok (.istore 6, 2) := by decide +kernel
theorem dX6_payOf_188 : decode cX6_payOf 188 = .ok (.iinc 8 1, 3) := by decide +kernel
theorem dX6_payOf_191 : decode cX6_payOf 191 = .ok (.goto (-166), 3) := by decide +kernel
theorem dX6_payOf_194 : decode cX6_payOf 194 = .ok (.iload 4, 2) := by decide +kernel
theorem dX6_payOf_196 : decode cX6_payOf 196 = .ok (.ireturn, 1) := by decide +kernel
theorem dX6_dueTimes_0 : decode cX6_dueTimes 0 = .ok (.iload_n 2, 1) := by decide +kernel
theorem dX6_dueTimes_1 : decode cX6_dueTimes 1 = .ok (.iconst (-1), 1) := by decide +kernel
theorem dX6_dueTimes_2 : decode cX6_dueTimes 2 = .ok (.if_icmp .eq 7, 3) := by decide +kernel
theorem dX6_dueTimes_5 : decode cX6_dueTimes 5 = .ok (.iload_n 0, 1) := by decide +kernel
theorem dX6_dueTimes_6 : decode cX6_dueTimes 6 = .ok (.ifCond .ne 5, 3) := by decide +kernel
theorem dX6_dueTimes_9 : decode cX6_dueTimes 9 = .ok (.iconst 1, 1) := by decide +kernel
theorem dX6_dueTimes_10 : decode cX6_dueTimes 10 = .ok (.ireturn, 1) := by decide +kernel
theorem dX6_dueTimes_11 : decode cX6_dueTimes 11 = .ok (.iload_n 0, 1) := by decide +kernel
theorem dX6_dueTimes_12 : decode cX6_dueTimes 12 = .ok (.iconst 1, 1) := by decide +kernel
theorem dX6_dueTimes_13 : decode cX6_dueTimes 13 = .ok (.if_icmp .ne 20, 3) := by decide +kernel
theorem dX6_dueTimes_16 : decode cX6_dueTimes 16 = .ok (.iload_n 2, 1) := by decide +kernel
theorem dX6_dueTimes_17 : decode cX6_dueTimes 17 = .ok (.bipush 7, 2) := by decide +kernel
theorem dX6_dueTimes_19 : decode cX6_dueTimes 19 = .ok (.idiv, 1) := by decide +kernel
theorem dX6_dueTimes_20 : decode cX6_dueTimes 20 = .ok (.iload_n 1, 1) := by decide +kernel
theorem dX6_dueTimes_21 : decode cX6_dueTimes 21 = .ok (.bipush 7, 2) := by decide +kernel
theorem dX6_dueTimes_23 : decode cX6_dueTimes 23 = .ok (.idiv, 1) := by decide +kernel
theorem dX6_dueTimes_24 : decode cX6_dueTimes 24 = .ok (.if_icmp .ne 7, 3) := by decide +kernel
theorem dX6_dueTimes_27 : decode cX6_dueTimes 27 = .ok (.iconst 0, 1) := by decide +kernel
theorem dX6_dueTimes_28 : decode cX6_dueTimes 28 = .ok (.goto 4, 3) := by decide +kernel
theorem dX6_dueTimes_31 : decode cX6_dueTimes 31 = .ok (.iconst 1, 1) := by decide +kernel
theorem dX6_dueTimes_32 : decode cX6_dueTimes 32 = .ok (.ireturn, 1) := by decide +kernel
theorem dX6_dueTimes_33 : decode cX6_dueTimes 33 = .ok (.iload_n 1, 1) := by decide +kernel
theorem dX6_dueTimes_34 : decode cX6_dueTimes 34 = .ok (.iload_n 2, 1) := by decide +kernel
theorem dX6_dueTimes_35 : decode cX6_dueTimes 35 = .ok (.isub, 1) := by decide +kernel
theorem dX6_dueTimes_36 : decode cX6_dueTimes 36 = .ok (.bipush 10, 2) := by decide +kernel
theorem dX6_dueTimes_38 : decode cX6_dueTimes 38 = .ok (.if_icmp .le 7, 3) := by decide +kernel
theorem dX6_dueTimes_41 : decode cX6_dueTimes 41 = .ok (.iconst 1, 1) := by decide +kernel
theorem dX6_dueTimes_42 : decode cX6_dueTimes 42 = .ok (.goto 6, 3) := by decide +kernel
theorem dX6_dueTimes_45 : decode cX6_dueTimes 45 = .ok (.iload_n 1, 1) := by decide +kernel
theorem dX6_dueTimes_46 : decode cX6_dueTimes 46 = .ok (.iload_n 2, 1) := by decide +kernel
theorem dX6_dueTimes_47 : decode cX6_dueTimes 47 = .ok (.isub, 1) := by decide +kernel
theorem dX6_dueTimes_48 : decode cX6_dueTimes 48 = .ok (.ireturn, 1) := by decide +kernel
theorem dX6_begunHours_0 : decode cX6_begunHours 0 = .ok (.iload_n 0, 1) := by decide +kernel
theorem dX6_begunHours_1 : decode cX6_begunHours 1 = .ok (.ifCond .gt 7, 3) := by decide +kernel
theorem dX6_begunHours_4 : decode cX6_begunHours 4 = .ok (.iconst 0, 1) := by decide +kernel
theorem dX6_begunHours_5 : decode cX6_begunHours 5 = .ok (.goto 10, 3) := by decide +kernel
theorem dX6_begunHours_8 : decode cX6_begunHours 8 = .ok (.iload_n 0, 1) := by decide +kernel
theorem dX6_begunHours_9 : decode cX6_begunHours 9 = .ok (.bipush 59, 2) := by decide +kernel
theorem dX6_begunHours_11 : decode cX6_begunHours 11 = .ok (.iadd, 1) := by decide +kernel
theorem dX6_begunHours_12 : decode cX6_begunHours 12 = .ok (.bipush 60, 2) := by decide +kernel
theorem dX6_begunHours_14 : decode cX6_begunHours 14 = .ok (.idiv, 1) := by decide +kernel
theorem dX6_begunHours_15 : decode cX6_begunHours 15 = .ok (.ireturn, 1) := by decide +kernel
theorem dX6_costOfAll_0 : decode cX6_costOfAll 0 = .ok (.iconst 0, 1) := by decide +kernel
theorem dX6_costOfAll_1 : decode cX6_costOfAll 1 = .ok (.istore_n 1, 1) := by decide +kernel
theorem dX6_costOfAll_2 : decode cX6_costOfAll 2 = .ok (.iconst 0, 1) := by decide +kernel
theorem dX6_costOfAll_3 : decode cX6_costOfAll 3 = .ok (.istore_n 2, 1) := by decide +kernel
theorem dX6_costOfAll_4 : decode cX6_costOfAll 4 = .ok (.iload_n 2, 1) := by decide +kernel
theorem dX6_costOfAll_5 : decode cX6_costOfAll 5 = .ok (.aload_n 0, 1) := by decide +kernel
theorem dX6_costOfAll_6 : decode cX6_costOfAll 6 = .ok (.getfield 15, 3) := by decide +kernel
theorem dX6_costOfAll_9 : decode cX6_costOfAll 9 = .ok (.getfield 62, 3) := by decide +kernel
theorem dX6_costOfAll_12 : decode cX6_costOfAll 12 = .ok (.if_icmp .ge 18, 3) := by decide +kernel
theorem dX6_costOfAll_15 : decode cX6_costOfAll 15 = .ok (.iload_n 1, 1) := by decide +kernel
theorem dX6_costOfAll_16 : decode cX6_costOfAll 16 = .ok (.aload_n 0, 1) := by decide +kernel
theorem dX6_costOfAll_17 : decode cX6_costOfAll 17 = .ok (.iload_n 2, 1) := by decide +kernel
theorem dX6_costOfAll_18 : decode cX6_costOfAll 18 = .ok (.iconst 0, 1) := by decide +kernel
theorem dX6_costOfAll_19 : decode cX6_costOfAll 19 = .ok (.invokevirtual 66, 3) := by decide +kernel
theorem dX6_costOfAll_22 : decode cX6_costOfAll 22 = .ok (.iadd, 1) := by decide +kernel
theorem dX6_costOfAll_23 : decode cX6_costOfAll 23 = .ok (.istore_n 1, 1) := by decide +kernel
theorem dX6_costOfAll_24 : decode cX6_costOfAll 24 = .ok (.iinc 2 1, 3) := by decide +kernel
theorem dX6_costOfAll_27 : decode cX6_costOfAll 27 = .ok (.goto (-23), 3) := by decide +kernel
theorem dX6_costOfAll_30 : decode cX6_costOfAll 30 = .ok (.iconst 0, 1) := by decide +kernel
theorem dX6_costOfAll_31 : decode cX6_costOfAll 31 = .ok (.istore_n 2, 1) := by decide +kernel
theorem dX6_costOfAll_32 : decode cX6_costOfAll 32 = .ok (.iload_n 2, 1) := by decide +kernel
theorem dX6_costOfAll_33 : decode cX6_costOfAll 33 = .ok (.bipush 30, 2) := by decide +kernel
theorem dX6_costOfAll_35 : decode cX6_costOfAll 35 = .ok (.if_icmp .ge 25, 3) := by decide +kernel
theorem dX6_costOfAll_38 : decode cX6_costOfAll 38 = .ok (.iload_n 1, 1) := by decide +kernel
theorem dX6_costOfAll_39 : decode cX6_costOfAll 39 = .ok (.aload_n 0, 1) := by decide +kernel
theorem dX6_costOfAll_40 : decode cX6_costOfAll 40 = .ok (.aload_n 0, 1) := by decide +kernel
theorem dX6_costOfAll_41 : decode cX6_costOfAll 41 = .ok (.getfield 23, 3) := by decide +kernel
theorem dX6_costOfAll_44 : decode cX6_costOfAll 44 = .ok (.getfield 70, 3) := by decide +kernel
theorem dX6_costOfAll_47 : decode cX6_costOfAll 47 = .ok (.iload_n 2, 1) := by decide +kernel
theorem dX6_costOfAll_48 : decode cX6_costOfAll 48 = .ok (.aaload, 1) := by decide +kernel
theorem dX6_costOfAll_49 : decode cX6_costOfAll 49 = .ok (.invokevirtual 74, 3) := by decide +kernel
theorem dX6_costOfAll_52 : decode cX6_costOfAll 52 = .ok (.iadd, 1) := by decide +kernel
theorem dX6_costOfAll_53 : decode cX6_costOfAll 53 = .ok (.istore_n 1, 1) := by decide +kernel
theorem dX6_costOfAll_54 : decode cX6_costOfAll 54 = .ok (.iinc 2 1, 3) := by decide +kernel
theorem dX6_costOfAll_57 : decode cX6_costOfAll 57 = .ok (.goto (-25), 3) := by decide +kernel
theorem dX6_costOfAll_60 : decode cX6_costOfAll 60 = .ok (.iload_n 1, 1) := by decide +kernel
theorem dX6_costOfAll_61 : decode cX6_costOfAll 61 = .ok (.ireturn, 1) := by decide +kernel
theorem dX6_costOfPlaces_0 : decode cX6_costOfPlaces 0 = .ok (.iconst 0, 1) := by decide +kernel
theorem dX6_costOfPlaces_1 : decode cX6_costOfPlaces 1 = .ok (.istore_n 2, 1) := by decide +kernel
theorem dX6_costOfPlaces_2 : decode cX6_costOfPlaces 2 = .ok (.iconst 0, 1) := by decide +kernel
theorem dX6_costOfPlaces_3 : decode cX6_costOfPlaces 3 = .ok (.istore_n 3, 1) := by decide +kernel
theorem dX6_costOfPlaces_4 : decode cX6_costOfPlaces 4 = .ok (.iconst 0, 1) := by decide +kernel
theorem dX6_costOfPlaces_5 : decode cX6_costOfPlaces 5 = .ok (.istore 4, 2) := by decide +kernel
theorem dX6_costOfPlaces_7 : decode cX6_costOfPlaces 7 = .ok (.iload 4, 2) := by decide +kernel
theorem dX6_costOfPlaces_9 : decode cX6_costOfPlaces 9 = .ok (.aload_n 1, 1) := by decide +kernel
theorem dX6_costOfPlaces_10 : decode cX6_costOfPlaces 10 = .ok (.getfield 78, 3) := by decide +kernel
theorem dX6_costOfPlaces_13 : decode cX6_costOfPlaces 13 = .ok (.if_icmp .ge 58, 3) := by decide +kernel
theorem dX6_costOfPlaces_16 : decode cX6_costOfPlaces 16 = .ok (.aload_n 0, 1) := by decide +kernel
theorem dX6_costOfPlaces_17 : decode cX6_costOfPlaces 17 = .ok (.getfield 9, 3) := by decide +kernel
theorem dX6_costOfPlaces_20 : decode cX6_costOfPlaces 20 = .ok (.getfield 81, 3) := by decide +kernel
theorem dX6_costOfPlaces_23 : decode cX6_costOfPlaces 23 = .ok (.aload_n 1, 1) := by decide +kernel
theorem dX6_costOfPlaces_24 : decode cX6_costOfPlaces 24 = .ok (.getfield 87, 3) := by decide +kernel
theorem dX6_costOfPlaces_27 : decode cX6_costOfPlaces 27 = .ok (.iload 4, 2) := by decide +kernel
theorem dX6_costOfPlaces_29 : decode cX6_costOfPlaces 29 = .ok (.iaload, 1) := by decide +kernel
theorem dX6_costOfPlaces_30 : decode cX6_costOfPlaces 30 = .ok (.aaload, 1) := by decide +kernel
theorem dX6_costOfPlaces_31 : decode cX6_costOfPlaces 31 = .ok (.getfield 90, 3) := by decide +kernel
theorem dX6_costOfPlaces_34 : decode cX6_costOfPlaces 34 = .ok (.istore 5, 2) := by decide +kernel
theorem dX6_costOfPlaces_36 : decode cX6_costOfPlaces 36 = .ok (.iload_n 2, 1) := by decide +kernel
theorem dX6_costOfPlaces_37 : decode cX6_costOfPlaces 37 = .ok (.iload 5, 2) := by decide +kernel
theorem dX6_costOfPlaces_39 : decode cX6_costOfPlaces 39 = .ok (.invokestatic 95, 3) := by decide +kernel
theorem dX6_costOfPlaces_42 : decode cX6_costOfPlaces 42 = .ok (.ifCond .ne 16, 3) := by decide +kernel
theorem dX6_costOfPlaces_45 : decode cX6_costOfPlaces 45 = .ok (.iload_n 3, 1) := by decide +kernel
theorem dX6_costOfPlaces_46 : decode cX6_costOfPlaces 46 = .ok (.aload_n 0, 1) := by decide +kernel
theorem dX6_costOfPlaces_47 : decode cX6_costOfPlaces 47 = .ok (.getfield 19, 3) := by decide +kernel
theorem dX6_costOfPlaces_50 : decode cX6_costOfPlaces 50 = .ok (.getfield 99, 3) := by decide +kernel
theorem dX6_costOfPlaces_53 : decode cX6_costOfPlaces 53 = .ok (.iload 5, 2) := by decide +kernel
theorem dX6_costOfPlaces_55 : decode cX6_costOfPlaces 55 = .ok (.iaload, 1) := by decide +kernel
theorem dX6_costOfPlaces_56 : decode cX6_costOfPlaces 56 = .ok (.iadd, 1) := by decide +kernel
theorem dX6_costOfPlaces_57 : decode cX6_costOfPlaces 57 = .ok (.istore_n 3, 1) := by decide +kernel
theorem dX6_costOfPlaces_58 : decode cX6_costOfPlaces 58 = .ok (.iload_n 2, 1) := by decide +kernel
theorem dX6_costOfPlaces_59 : decode cX6_costOfPlaces 59 = .ok (.iconst 1, 1) := by decide +kernel
theorem dX6_costOfPlaces_60 : decode cX6_costOfPlaces 60 = .ok (.iload 5, 2) := by decide +kernel
theorem dX6_costOfPlaces_62 : decode cX6_costOfPlaces 62 = .ok (.ishl, 1) := by decide +kernel
theorem dX6_costOfPlaces_63 : decode cX6_costOfPlaces 63 = .ok (.ior, 1) := by decide +kernel
theorem dX6_costOfPlaces_64 : decode cX6_costOfPlaces 64 = .ok (.istore_n 2, 1) := by decide +kernel
theorem dX6_costOfPlaces_65 : decode cX6_costOfPlaces 65 = .ok (.iinc 4 1, 3) := by decide +kernel
theorem dX6_costOfPlaces_68 : decode cX6_costOfPlaces 68 = .ok (.goto (-61), 3) := by decide +kernel
theorem dX6_costOfPlaces_71 : decode cX6_costOfPlaces 71 = .ok (.iload_n 3, 1) := by decide +kernel
theorem dX6_costOfPlaces_72 : decode cX6_costOfPlaces 72 = .ok (.ireturn, 1) := by decide +kernel
theorem dX7_init_0 : decode cX7_init 0 = .ok (.aload_n 0, 1) := by decide +kernel
theorem dX7_init_1 : decode cX7_init 1 = .ok (.invokespecial 3, 3) := by decide +kernel
theorem dX7_init_4 : decode cX7_init 4 = .ok (.aload_n 0, 1) := by decide +kernel
theorem dX7_init_5 : decode cX7_init 5 = .ok (.bipush 6, 2) := by decide +kernel
theorem dX7_init_7 : decode cX7_init 7 = .ok (.newarray .int, 2) := by decide +kernel
