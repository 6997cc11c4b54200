theorem dX11_place_64 : decode cX11_place 64 = .ok (.iconst 1, 1) := by decide +kernel
theorem dX11_place_65 : decode cX11_place 65 = .ok (.iadd, 1) := by decide +kernel
theorem dX11_place_66 : decode cX11_place 66 = .ok (.putfield 124, 3) := by decide +kernel
theorem dX11_place_69 : decode cX11_place 69 = .ok (.aload_n 0, 1) := by decide +kernel
theorem dX11_place_70 : decode cX11_place 70 = .ok (.getfield 124, 3) := by decide +kernel
theorem dX11_place_73 : decode cX11_place 73 = .ok (.iconst 1, 1) := by decide +kernel
theorem dX11_place_74 : decode cX11_place 74 = .ok (.isub, 1) := by decide +kernel
theorem dX11_place_75 : decode cX11_place 75 = .ok (.ireturn, 1) := by decide +kernel
theorem dX11_permit_0 : decode cX11_permit 0 = .ok (.aload_n 0, 1) := by decide +kernel
theorem dX11_permit_1 : decode cX11_permit 1 = .ok (.aload_n 0, 1) := by decide +kernel
theorem dX11_permit_2 : decode cX11_permit 2 = .ok (.iload_n 1, 1) := by decide +kernel
theorem dX11_permit_3 : decode cX11_permit 3 = .ok (.invokevirtual 135, 3) := by decide +kernel
theorem dX11_permit_6 : decode cX11_permit 6 = .ok (.ifCond .eq 14, 3) := by decide +kernel
theorem dX11_permit_9 : decode cX11_permit 9 = .ok (.iload_n 2, 1) := by decide +kernel
theorem dX11_permit_10 : decode cX11_permit 10 = .ok (.invokestatic 168, 3) := by decide +kernel
theorem dX11_permit_13 : decode cX11_permit 13 = .ok (.ifCond .eq 7, 3) := by decide +kernel
theorem dX11_permit_16 : decode cX11_permit 16 = .ok (.iconst 0, 1) := by decide +kernel
theorem dX11_permit_17 : decode cX11_permit 17 = .ok (.goto 4, 3) := by decide +kernel
theorem dX11_permit_20 : decode cX11_permit 20 = .ok (.iconst 1, 1) := by decide +kernel
theorem dX11_permit_21 : decode cX11_permit 21 = .ok (.invokevirtual 138, 3) := by decide +kernel
theorem dX11_permit_24 : decode cX11_permit 24 = .ok (.ifCond .ne 5, 3) := by decide +kernel
theorem dX11_permit_27 : decode cX11_permit 27 = .ok (.iconst 0, 1) := by decide +kernel
theorem dX11_permit_28 : decode cX11_permit 28 = .ok (.ireturn, 1) := by decide +kernel
theorem dX11_permit_29 : decode cX11_permit 29 = .ok (.aload_n 0, 1) := by decide +kernel
theorem dX11_permit_30 : decode cX11_permit 30 = .ok (.getfield 77, 3) := by decide +kernel
theorem dX11_permit_33 : decode cX11_permit 33 = .ok (.iload_n 1, 1) := by decide +kernel
theorem dX11_permit_34 : decode cX11_permit 34 = .ok (.iload_n 3, 1) := by decide +kernel
theorem dX11_permit_35 : decode cX11_permit 35 = .ok (.ifCond .eq 16, 3) := by decide +kernel
theorem dX11_permit_38 : decode cX11_permit 38 = .ok (.aload_n 0, 1) := by decide +kernel
theorem dX11_permit_39 : decode cX11_permit 39 = .ok (.getfield 77, 3) := by decide +kernel
theorem dX11_permit_42 : decode cX11_permit 42 = .ok (.iload_n 1, 1) := by decide +kernel
theorem dX11_permit_43 : decode cX11_permit 43 = .ok (.iaload, 1) := by decide +kernel
theorem dX11_permit_44 : decode cX11_permit 44 = .ok (.iconst 1, 1) := by decide +kernel
theorem dX11_permit_45 : decode cX11_permit 45 = .ok (.iload_n 2, 1) := by decide +kernel
theorem dX11_permit_46 : decode cX11_permit 46 = .ok (.ishl, 1) := by decide +kernel
theorem dX11_permit_47 : decode cX11_permit 47 = .ok (.ior, 1) := by decide +kernel
theorem dX11_permit_48 : decode cX11_permit 48 = .ok (.goto 15, 3) := by decide +kernel
theorem dX11_permit_51 : decode cX11_permit 51 = .ok (.aload_n 0, 1) := by decide +kernel
theorem dX11_permit_52 : decode cX11_permit 52 = .ok (.getfield 77, 3) := by decide +kernel
theorem dX11_permit_55 : decode cX11_permit 55 = .ok (.iload_n 1, 1) := by decide +kernel
theorem dX11_permit_56 : decode cX11_permit 56 = .ok (.iaload, 1) := by decide +kernel
theorem dX11_permit_57 : decode cX11_permit 57 = .ok (.iconst 1, 1) := by decide +kernel
theorem dX11_permit_58 : decode cX11_permit 58 = .ok (.iload_n 2, 1) := by decide +kernel
theorem dX11_permit_59 : decode cX11_permit 59 = .ok (.ishl, 1) := by decide +kernel
theorem dX11_permit_60 : decode cX11_permit 60 = .ok (.iconst (-1), 1) := by decide +kernel
theorem dX11_permit_61 : decode cX11_permit 61 = .ok (.ixor, 1) := by decide +kernel
theorem dX11_permit_62 : decode cX11_permit 62 = .ok (.iand, 1) := by decide +kernel
theorem dX11_permit_63 : decode cX11_permit 63 = .ok (.iastore, 1) := by decide +kernel
theorem dX11_permit_64 : decode cX11_permit 64 = .ok (.aload_n 0, 1) := by decide +kernel
theorem dX11_permit_65 : decode cX11_permit 65 = .ok (.getfield 77, 3) := by decide +kernel
theorem dX11_permit_68 : decode cX11_permit 68 = .ok (.iload_n 1, 1) := by decide +kernel
theorem dX11_permit_69 : decode cX11_permit 69 = .ok (.iaload, 1) := by decide +kernel
theorem dX11_permit_70 : decode cX11_permit 70 = .ok (.invokestatic 151, 3) := by decide +kernel
theorem dX11_permit_73 : decode cX11_permit 73 = .ok (.ireturn, 1) := by decide +kernel
theorem dX11_move_0 : decode cX11_move 0 = .ok (.aload_n 0, 1) := by decide +kernel
theorem dX11_move_1 : decode cX11_move 1 = .ok (.iload_n 1, 1) := by decide +kernel
theorem dX11_move_2 : decode cX11_move 2 = .ok (.invokevirtual 135, 3) := by decide +kernel
theorem dX11_move_5 : decode cX11_move 5 = .ok (.ifCond .eq 15, 3) := by decide +kernel
theorem dX11_move_8 : decode cX11_move 8 = .ok (.aload_n 0, 1) := by decide +kernel
theorem dX11_move_9 : decode cX11_move 9 = .ok (.iload_n 2, 1) := by decide +kernel
theorem dX11_move_10 : decode cX11_move 10 = .ok (.invokevirtual 135, 3) := by decide +kernel
theorem dX11_move_13 : decode cX11_move 13 = .ok (.ifCond .eq 7, 3) := by decide +kernel
theorem dX11_move_16 : decode cX11_move 16 = .ok (.iconst 1, 1) := by decide +kernel
theorem dX11_move_17 : decode cX11_move 17 = .ok (.goto 4, 3) := by decide +kernel
theorem dX11_move_20 : decode cX11_move 20 = .ok (.iconst 0, 1) := by decide +kernel
theorem dX11_move_21 : decode cX11_move 21 = .ok (.istore 4, 2) := by decide +kernel
theorem dX11_move_23 : decode cX11_move 23 = .ok (.aload_n 0, 1) := by decide +kernel
theorem dX11_move_24 : decode cX11_move 24 = .ok (.iload 4, 2) := by decide +kernel
theorem dX11_move_26 : decode cX11_move 26 = .ok (.ifCond .ne 7, 3) := by decide +kernel
theorem dX11_move_29 : decode cX11_move 29 = .ok (.iconst 1, 1) := by decide +kernel
theorem dX11_move_30 : decode cX11_move 30 = .ok (.goto 24, 3) := by decide +kernel
theorem dX11_move_33 : decode cX11_move 33 = .ok (.iload_n 1, 1) := by decide +kernel
theorem dX11_move_34 : decode cX11_move 34 = .ok (.iload_n 2, 1) := by decide +kernel
theorem dX11_move_35 : decode cX11_move 35 = .ok (.if_icmp .eq 14, 3) := by decide +kernel
theorem dX11_move_38 : decode cX11_move 38 = .ok (.iload_n 3, 1) := by decide +kernel
theorem dX11_move_39 : decode cX11_move 39 = .ok (.iconst 0, 1) := by decide +kernel
theorem dX11_move_40 : decode cX11_move 40 = .ok (.sipush 300, 3) := by decide +kernel
theorem dX11_move_43 : decode cX11_move 43 = .ok (.invokestatic 117, 3) := by decide +kernel
theorem dX11_move_46 : decode cX11_move 46 = .ok (.ifCond .ne 7, 3) := by decide +kernel
theorem dX11_move_49 : decode cX11_move 49 = .ok (.iconst 2, 1) := by decide +kernel
theorem dX11_move_50 : decode cX11_move 50 = .ok (.goto 4, 3) := by decide +kernel
theorem dX11_move_53 : decode cX11_move 53 = .ok (.iconst 0, 1) := by decide +kernel
theorem dX11_move_54 : decode cX11_move 54 = .ok (.invokevirtual 138, 3) := by decide +kernel
theorem dX11_move_57 : decode cX11_move 57 = .ok (.ifCond .ne 5, 3) := by decide +kernel
theorem dX11_move_60 : decode cX11_move 60 = .ok (.iconst 0, 1) := by decide +kernel
theorem dX11_move_61 : decode cX11_move 61 = .ok (.ireturn, 1) := by decide +kernel
theorem dX11_move_62 : decode cX11_move 62 = .ok (.aload_n 0, 1) := by decide +kernel
theorem dX11_move_63 : decode cX11_move 63 = .ok (.getfield 80, 3) := by decide +kernel
theorem dX11_move_66 : decode cX11_move 66 = .ok (.bipush 6, 2) := by decide +kernel
theorem dX11_move_68 : decode cX11_move 68 = .ok (.iload_n 1, 1) := by decide +kernel
theorem dX11_move_69 : decode cX11_move 69 = .ok (.imul, 1) := by decide +kernel
theorem dX11_move_70 : decode cX11_move 70 = .ok (.iload_n 2, 1) := by decide +kernel
theorem dX11_move_71 : decode cX11_move 71 = .ok (.iadd, 1) := by decide +kernel
theorem dX11_move_72 : decode cX11_move 72 = .ok (.iaload, 1) := by decide +kernel
theorem dX11_move_73 : decode cX11_move 73 = .ok (.istore 5, 2) := by decide +kernel
theorem dX11_move_75 : decode cX11_move 75 = .ok (.aload_n 0, 1) := by decide +kernel
theorem dX11_move_76 : decode cX11_move 76 = .ok (.getfield 80, 3) := by decide +kernel
theorem dX11_move_79 : decode cX11_move 79 = .ok (.bipush 6, 2) := by decide +kernel
theorem dX11_move_81 : decode cX11_move 81 = .ok (.iload_n 1, 1) := by decide +kernel
theorem dX11_move_82 : decode cX11_move 82 = .ok (.imul, 1) := by decide +kernel
theorem dX11_move_83 : decode cX11_move 83 = .ok (.iload_n 2, 1) := by decide +kernel
theorem dX11_move_84 : decode cX11_move 84 = .ok (.iadd, 1) := by decide +kernel
theorem dX11_move_85 : decode cX11_move 85 = .ok (.iload_n 3, 1) := by decide +kernel
theorem dX11_move_86 : decode cX11_move 86 = .ok (.iastore, 1) := by decide +kernel
theorem dX11_move_87 : decode cX11_move 87 = .ok (.aload_n 0, 1) := by decide +kernel
theorem dX11_move_88 : decode cX11_move 88 = .ok (.getfield 80, 3) := by decide +kernel
theorem dX11_move_91 : decode cX11_move 91 = .ok (.bipush 6, 2) := by decide +kernel
theorem dX11_move_93 : decode cX11_move 93 = .ok (.iload_n 2, 1) := by decide +kernel
theorem dX11_move_94 : decode cX11_move 94 = .ok (.imul, 1) := by decide +kernel
theorem dX11_move_95 : decode cX11_move 95 = .ok (.iload_n 1, 1) := by decide +kernel
theorem dX11_move_96 : decode cX11_move 96 = .ok (.iadd, 1) := by decide +kernel
theorem dX11_move_97 : decode cX11_move 97 = .ok (.iload_n 3, 1) := by decide +kernel
theorem dX11_move_98 : decode cX11_move 98 = .ok (.iastore, 1) := by decide +kernel
theorem dX11_move_99 : decode cX11_move 99 = .ok (.iload 5, 2) := by decide +kernel
theorem dX11_move_101 : decode cX11_move 101 = .ok (.ireturn, 1) := by decide +kernel
theorem dX11_light_0 : decode cX11_light 0 = .ok (.iload_n 1, 1) := by decide +kernel
theorem dX11_light_1 : decode cX11_light 1 = .ok (.invokestatic 168, 3) := by decide +kernel
theorem dX11_light_4 : decode cX11_light 4 = .ok (.istore 5, 2) := by decide +kernel
theorem dX11_light_6 : decode cX11_light 6 = .ok (.iload_n 2, 1) := by decide +kernel
theorem dX11_light_7 : decode cX11_light 7 = .ok (.iconst 0, 1) := by decide +kernel
theorem dX11_light_8 : decode cX11_light 8 = .ok (.sipush 1200, 3) := by decide +kernel
theorem dX11_light_11 : decode cX11_light 11 = .ok (.invokestatic 117, 3) := by decide +kernel
theorem dX11_light_14 : decode cX11_light 14 = .ok (.ifCond .eq 30, 3) := by decide +kernel
theorem dX11_light_17 : decode cX11_light 17 = .ok (.iload_n 3, 1) := by decide +kernel
theorem dX11_light_18 : decode cX11_light 18 = .ok (.iconst 0, 1) := by decide +kernel
theorem dX11_light_19 : decode cX11_light 19 = .ok (.sipush 1440, 3) := by decide +kernel
theorem dX11_light_22 : decode cX11_light 22 = .ok (.invokestatic 117, 3) := by decide +kernel
theorem dX11_light_25 : decode cX11_light 25 = .ok (.ifCond .eq 19, 3) := by decide +kernel
theorem dX11_light_28 : decode cX11_light 28 = .ok (.iload 4, 2) := by decide +kernel
theorem dX11_light_30 : decode cX11_light 30 = .ok (.iload_n 3, 1) := by decide +kernel
theorem dX11_light_31 : decode cX11_light 31 = .ok (.sipush 1440, 3) := by decide +kernel
theorem dX11_light_34 : decode cX11_light 34 = .ok (.invokestatic 117, 3) := by decide +kernel
theorem dX11_light_37 : decode cX11_light 37 = .ok (.ifCond .eq 7, 3) := by decide +kernel
theorem dX11_light_40 : decode cX11_light 40 = .ok (.iconst 1, 1) := by decide +kernel
theorem dX11_light_41 : decode cX11_light 41 = .ok (.goto 4, 3) := by decide +kernel
theorem dX11_light_44 : decode cX11_light 44 = .ok (.iconst 0, 1) := by decide +kernel
theorem dX11_light_45 : decode cX11_light 45 = .ok (.istore 6, 2) := by decide +kernel
theorem dX11_light_47 : decode cX11_light 47 = .ok (.aload_n 0, 1) := by decide +kernel
theorem dX11_light_48 : decode cX11_light 48 = .ok (.iload 5, 2) := by decide +kernel
theorem dX11_light_50 : decode cX11_light 50 = .ok (.ifCond .ne 7, 3) := by decide +kernel
theorem dX11_light_53 : decode cX11_light 53 = .ok (.iconst 1, 1) := by decide +kernel
theorem dX11_light_54 : decode cX11_light 54 = .ok (.goto 13, 3) := by decide +kernel
theorem dX11_light_57 : decode cX11_light 57 = .ok (.iload 6, 2) := by decide +kernel
theorem dX11_light_59 : decode cX11_light 59 = .ok (.ifCond .eq 7, 3) := by decide +kernel
theorem dX11_light_62 : decode cX11_light 62 = .ok (.iconst 0, 1) := by decide +kernel
theorem dX11_light_63 : decode cX11_light 63 = .ok (.goto 4, 3) := by decide +kernel
theorem dX11_light_66 : decode cX11_light 66 = .ok (.iconst 2, 1) := by decide +kernel
theorem dX11_light_67 : decode cX11_light 67 = .ok (.invokevirtual 138, 3) := by decide +kernel
theorem dX11_light_70 : decode cX11_light 70 = .ok (.ifCond .eq 25, 3) := by decide +kernel
theorem dX11_light_73 : decode cX11_light 73 = .ok (.aload_n 0, 1) := by decide +kernel
theorem dX11_light_74 : decode cX11_light 74 = .ok (.getfield 83, 3) := by decide +kernel
theorem dX11_light_77 : decode cX11_light 77 = .ok (.iload_n 1, 1) := by decide +kernel
theorem dX11_light_78 : decode cX11_light 78 = .ok (.iload_n 2, 1) := by decide +kernel
theorem dX11_light_79 : decode cX11_light 79 = .ok (.iastore, 1) := by decide +kernel
theorem dX11_light_80 : decode cX11_light 80 = .ok (.aload_n 0, 1) := by decide +kernel
theorem dX11_light_81 : decode cX11_light 81 = .ok (.getfield 86, 3) := by decide +kernel
theorem dX11_light_84 : decode cX11_light 84 = .ok (.iload_n 1, 1) := by decide +kernel
theorem dX11_light_85 : decode cX11_light 85 = .ok (.iload_n 3, 1) := by decide +kernel
theorem dX11_light_86 : decode cX11_light 86 = .ok (.iastore, 1) := by decide +kernel
theorem dX11_light_87 : decode cX11_light 87 = .ok (.aload_n 0, 1) := by decide +kernel
theorem dX11_light_88 : decode cX11_light 88 = .ok (.getfield 89, 3) := by decide +kernel
theorem dX11_light_91 : decode cX11_light 91 = .ok (.iload_n 1, 1) := by decide +kernel
theorem dX11_light_92 : decode cX11_light 92 = .ok (.iload 4, 2) := by decide +kernel
theorem dX11_light_94 : decode cX11_light 94 = .ok (.iastore, 1) := by decide +kernel
theorem dX11_light_95 : decode cX11_light 95 = .ok (.return_, 1) := by decide +kernel
theorem dX11_eighth_0 : decode cX11_eighth 0 = .ok (.aload_n 0, 1) := by decide +kernel
theorem dX11_eighth_1 : decode cX11_eighth 1 = .ok (.getfield 172, 3) := by decide +kernel
theorem dX11_eighth_4 : decode cX11_eighth 4 = .ok (.ifCond .ne 8, 3) := by decide +kernel
theorem dX11_eighth_7 : decode cX11_eighth 7 = .ok (.bipush 15, 2) := by decide +kernel
theorem dX11_eighth_9 : decode cX11_eighth 9 = .ok (.goto 19, 3) := by decide +kernel
theorem dX11_eighth_12 : decode cX11_eighth 12 = .ok (.aload_n 0, 1) := by decide +kernel
theorem dX11_eighth_13 : decode cX11_eighth 13 = .ok (.getfield 175, 3) := by decide +kernel
theorem dX11_eighth_16 : decode cX11_eighth 16 = .ok (.aload_n 0, 1) := by decide +kernel
theorem dX11_eighth_17 : decode cX11_eighth 17 = .ok (.getfield 172, 3) := by decide +kernel
theorem dX11_eighth_20 : decode cX11_eighth 20 = .ok (.iadd, 1) := by decide +kernel
theorem dX11_eighth_21 : decode cX11_eighth 21 = .ok (.iconst 1, 1) := by decide +kernel
theorem dX11_eighth_22 : decode cX11_eighth 22 = .ok (.isub, 1) := by decide +kernel
theorem dX11_eighth_23 : decode cX11_eighth 23 = .ok (.aload_n 0, 1) := by decide +kernel
theorem dX11_eighth_24 : decode cX11_eighth 24 = .ok (.getfield 172, 3) := by decide +kernel
theorem dX11_eighth_27 : decode cX11_eighth 27 = .ok (.idiv, 1) := by decide +kernel
theorem dX11_eighth_28 : decode cX11_eighth 28 = .ok (.ireturn, 1) := by decide +kernel
theorem dX11_clock_0 : decode cX11_clock 0 = .ok (.iconst 0, 1) := by decide +kernel
theorem dX11_clock_1 : decode cX11_clock 1 = .ok (.istore_n 2, 1) := by decide +kernel
theorem dX11_clock_2 : decode cX11_clock 2 = .ok (.aload_n 0, 1) := by decide +kernel
theorem dX11_clock_3 : decode cX11_clock 3 = .ok (.getfield 83, 3) := by decide +kernel
theorem dX11_clock_6 : decode cX11_clock 6 = .ok (.iload_n 1, 1) := by decide +kernel
theorem dX11_clock_7 : decode cX11_clock 7 = .ok (.iaload, 1) := by decide +kernel
theorem dX11_clock_8 : decode cX11_clock 8 = .ok (.istore_n 3, 1) := by decide +kernel
theorem dX11_clock_9 : decode cX11_clock 9 = .ok (.iconst 0, 1) := by decide +kernel
theorem dX11_clock_10 : decode cX11_clock 10 = .ok (.istore 4, 2) := by decide +kernel
theorem dX11_clock_12 : decode cX11_clock 12 = .ok (.iload 4, 2) := by decide +kernel
theorem dX11_clock_14 : decode cX11_clock 14 = .ok (.aload_n 0, 1) := by decide +kernel
theorem dX11_clock_15 : decode cX11_clock 15 = .ok (.getfield 95, 3) := by decide +kernel
theorem dX11_clock_18 : decode cX11_clock 18 = .ok (.iload_n 1, 1) := by decide +kernel
theorem dX11_clock_19 : decode cX11_clock 19 = .ok (.iaload, 1) := by decide +kernel
theorem dX11_clock_20 : decode cX11_clock 20 = .ok (.if_icmp .ge 177, 3) := by decide +kernel
theorem dX11_clock_23 : decode cX11_clock 23 = .ok (.aload_n 0, 1) := by decide +kernel
theorem dX11_clock_24 : decode cX11_clock 24 = .ok (.getfield 92, 3) := by decide +kernel
theorem dX11_clock_27 : decode cX11_clock 27 = .ok (.bipush 8, 2) := by decide +kernel
theorem dX11_clock_29 : decode cX11_clock 29 = .ok (.iload_n 1, 1) := by decide +kernel
theorem dX11_clock_30 : decode cX11_clock 30 = .ok (.imul, 1) := by decide +kernel
theorem dX11_clock_31 : decode cX11_clock 31 = .ok (.iload 4, 2) := by decide +kernel
theorem dX11_clock_33 : decode cX11_clock 33 = .ok (.iadd, 1) := by decide +kernel
theorem dX11_clock_34 : decode cX11_clock 34 = .ok (.iaload, 1) := by decide +kernel
theorem dX11_clock_35 : decode cX11_clock 35 = .ok (.istore 5, 2) := by decide +kernel
theorem dX11_clock_37 : decode cX11_clock 37 = .ok (.iload 4, 2) := by decide +kernel
theorem dX11_clock_39 : decode cX11_clock 39 = .ok (.ifCond .ne 8, 3) := by decide +kernel
theorem dX11_clock_42 : decode cX11_clock 42 = .ok (.iload 5, 2) := by decide +kernel
theorem dX11_clock_44 : decode cX11_clock 44 = .ok (.goto 17, 3) := by decide +kernel
theorem dX11_clock_47 : decode cX11_clock 47 = .ok (.aload_n 0, 1) := by decide +kernel
theorem dX11_clock_48 : decode cX11_clock 48 = .ok (.getfield 92, 3) := by decide +kernel
theorem dX11_clock_51 : decode cX11_clock 51 = .ok (.bipush 8, 2) := by decide +kernel
theorem dX11_clock_53 : decode cX11_clock 53 = .ok (.iload_n 1, 1) := by decide +kernel
theorem dX11_clock_54 : decode cX11_clock 54 = .ok (.imul, 1) := by decide +kernel
theorem dX11_clock_55 : decode cX11_clock 55 = .ok (.iload 4, 2) := by decide +kernel
theorem dX11_clock_57 : decode cX11_clock 57 = .ok (.iadd, 1) := by decide +kernel
theorem dX11_clock_58 : decode cX11_clock 58 = .ok (.iconst 1, 1) := by decide +kernel
theorem dX11_clock_59 : decode cX11_clock 59 = .ok (.isub, 1) := by decide +kernel
theorem dX11_clock_60 : decode cX11_clock 60 = .ok (.iaload, 1) := by decide +kernel
theorem dX11_clock_61 : decode cX11_clock 61 = .ok (.istore 6, 2) := by decide +kernel
theorem dX11_clock_63 : decode cX11_clock 63 = .ok (.iload_n 3, 1) := by decide +kernel
theorem dX11_clock_64 : decode cX11_clock 64 = .ok (.aload_n 0, 1) := by decide +kernel
theorem dX11_clock_65 : decode cX11_clock 65 = .ok (.getfield 19, 3) := by decide +kernel
theorem dX11_clock_68 : decode cX11_clock 68 = .ok (.iload 6, 2) := by decide +kernel
theorem dX11_clock_70 : decode cX11_clock 70 = .ok (.iaload, 1) := by decide +kernel
theorem dX11_clock_71 : decode cX11_clock 71 = .ok (.aload_n 0, 1) := by decide +kernel
theorem dX11_clock_72 : decode cX11_clock 72 = .ok (.getfield 19, 3) := by decide +kernel
theorem dX11_clock_75 : decode cX11_clock 75 = .ok (.iload 5, 2) := by decide +kernel
theorem dX11_clock_77 : decode cX11_clock 77 = .ok (.iaload, 1) := by decide +kernel
theorem dX11_clock_78 : decode cX11_clock 78 = .ok (.if_icmp .ne 7, 3) := by decide +kernel
theorem dX11_clock_81 : decode cX11_clock 81 = .ok (.iconst 0, 1) := by decide +kernel
theorem dX11_clock_82 : decode cX11_clock 82 = .ok (.goto 26, 3) := by decide +kernel
theorem dX11_clock_85 : decode cX11_clock 85 = .ok (.aload_n 0, 1) := by decide +kernel
theorem dX11_clock_86 : decode cX11_clock 86 = .ok (.getfield 80, 3) := by decide +kernel
theorem dX11_clock_89 : decode cX11_clock 89 = .ok (.bipush 6, 2) := by decide +kernel
theorem dX11_clock_91 : decode cX11_clock 91 = .ok (.aload_n 0, 1) := by decide +kernel
theorem dX11_clock_92 : decode cX11_clock 92 = .ok (.getfield 19, 3) := by decide +kernel
theorem dX11_clock_95 : decode cX11_clock 95 = .ok (.iload 6, 2) := by decide +kernel
theorem dX11_clock_97 : decode cX11_clock 97 = .ok (.iaload, 1) := by decide +kernel
theorem dX11_clock_98 : decode cX11_clock 98 = .ok (.imul, 1) := by decide +kernel
theorem dX11_clock_99 : decode cX11_clock 99 = .ok (.aload_n 0, 1) := by decide +kernel
theorem dX11_clock_100 : decode cX11_clock 100 = .ok (.getfield 19, 3) := by decide +kernel
theorem dX11_clock_103 : decode cX11_clock 103 = .ok (.iload 5, 2) := by decide +kernel
theorem dX11_clock_105 : decode cX11_clock 105 = .ok (.iaload, 1) := by decide +kernel
theorem dX11_clock_106 : decode cX11_clock 106 = .ok (.iadd, 1) := by decide +kernel
theorem dX11_clock_107 : decode cX11_clock 107 = .ok (.iaload, 1) := by decide +kernel
theorem dX11_clock_108 : decode cX11_clock 108 = .ok (.iadd, 1) := by decide +kernel
theorem dX11_clock_109 : decode cX11_clock 109 = .ok (.istore_n 3, 1) := by decide +kernel
theorem dX11_clock_110 : decode cX11_clock 110 = .ok (.aload_n 0, 1) := by decide +kernel
theorem dX11_clock_111 : decode cX11_clock 111 = .ok (.getfield 47, 3) := by decide +kernel
theorem dX11_clock_114 : decode cX11_clock 114 = .ok (.iload 5, 2) := by decide +kernel
theorem dX11_clock_116 : decode cX11_clock 116 = .ok (.baload, 1) := by decide +kernel
theorem dX11_clock_117 : decode cX11_clock 117 = .ok (.ifCond .eq 13, 3) := by decide +kernel
theorem dX11_clock_120 : decode cX11_clock 120 = .ok (.aload_n 0, 1) := by decide +kernel
theorem dX11_clock_121 : decode cX11_clock 121 = .ok (.getfield 53, 3) := by decide +kernel
theorem dX11_clock_124 : decode cX11_clock 124 = .ok (.iload 5, 2) := by decide +kernel
theorem dX11_clock_126 : decode cX11_clock 126 = .ok (.iaload, 1) := by decide +kernel
theorem dX11_clock_127 : decode cX11_clock 127 = .ok (.goto 15, 3) := by decide +kernel
theorem dX11_clock_130 : decode cX11_clock 130 = .ok (.aload_n 0, 1) := by decide +kernel
theorem dX11_clock_131 : decode cX11_clock 131 = .ok (.getfield 29, 3) := by decide +kernel
theorem dX11_clock_134 : decode cX11_clock 134 = .ok (.iload 5, 2) := by decide +kernel
theorem dX11_clock_136 : decode cX11_clock 136 = .ok (.iaload, 1) := by decide +kernel
theorem dX11_clock_137 : decode cX11_clock 137 = .ok (.aload_n 0, 1) := by decide +kernel
theorem dX11_clock_138 : decode cX11_clock 138 = .ok (.invokevirtual 178, 3) := by decide +kernel
theorem dX11_clock_141 : decode cX11_clock 141 = .ok (.imul, 1) := by decide +kernel
theorem dX11_clock_142 : decode cX11_clock 142 = .ok (.istore 7, 2) := by decide +kernel
theorem dX11_clock_144 : decode cX11_clock 144 = .ok (.iload_n 2, 1) := by decide +kernel
theorem dX11_clock_145 : decode cX11_clock 145 = .ok (.ifCond .ne 25, 3) := by decide +kernel
theorem dX11_clock_148 : decode cX11_clock 148 = .ok (.iload_n 3, 1) := by decide +kernel
theorem dX11_clock_149 : decode cX11_clock 149 = .ok (.iload 7, 2) := by decide +kernel
theorem dX11_clock_151 : decode cX11_clock 151 = .ok (.iadd, 1) := by decide +kernel
theorem dX11_clock_152 : decode cX11_clock 152 = .ok (.aload_n 0, 1) := by decide +kernel
theorem dX11_clock_153 : decode cX11_clock 153 = .ok (.getfield 83, 3) := by decide +kernel
theorem dX11_clock_156 : decode cX11_clock 156 = .ok (.iload_n 1, 1) := by decide +kernel
theorem dX11_clock_157 : decode cX11_clock 157 = .ok (.iaload, 1) := by decide +kernel
theorem dX11_clock_158 : decode cX11_clock 158 = .ok (.sipush 360, 3) := by decide +kernel
theorem dX11_clock_161 : decode cX11_clock 161 = .ok (.iadd, 1) := by decide +kernel
theorem dX11_clock_162 : decode cX11_clock 162 = .ok (.if_icmp .le 8, 3) := by decide +kernel
theorem dX11_clock_165 : decode cX11_clock 165 = .ok (.iconst 1, 1) := by decide +kernel
theorem dX11_clock_166 : decode cX11_clock 166 = .ok (.istore_n 2, 1) := by decide +kernel
theorem dX11_clock_167 : decode cX11_clock 167 = .ok (.iinc 3 30, 3) := by decide +kernel
theorem dX11_clock_170 : decode cX11_clock 170 = .ok (.aload_n 0, 1) := by decide +kernel
theorem dX11_clock_171 : decode cX11_clock 171 = .ok (.getfield 101, 3) := by decide +kernel
theorem dX11_clock_174 : decode cX11_clock 174 = .ok (.iload 4, 2) := by decide +kernel
theorem dX11_clock_176 : decode cX11_clock 176 = .ok (.iload_n 3, 1) := by decide +kernel
theorem dX11_clock_177 : decode cX11_clock 177 = .ok (.iastore, 1) := by decide +kernel
theorem dX11_clock_178 : decode cX11_clock 178 = .ok (.iload_n 3, 1) := by decide +kernel
theorem dX11_clock_179 : decode cX11_clock 179 = .ok (.iload 7, 2) := by decide +kernel
theorem dX11_clock_181 : decode cX11_clock 181 = .ok (.iadd, 1) := by decide +kernel
theorem dX11_clock_182 : decode cX11_clock 182 = .ok (.istore_n 3, 1) := by decide +kernel
theorem dX11_clock_183 : decode cX11_clock 183 = .ok (.aload_n 0, 1) := by decide +kernel
theorem dX11_clock_184 : decode cX11_clock 184 = .ok (.getfield 104, 3) := by decide +kernel
theorem dX11_clock_187 : decode cX11_clock 187 = .ok (.iload 4, 2) := by decide +kernel
theorem dX11_clock_189 : decode cX11_clock 189 = .ok (.iload_n 3, 1) := by decide +kernel
theorem dX11_clock_190 : decode cX11_clock 190 = .ok (.iastore, 1) := by decide +kernel
theorem dX11_clock_191 : decode cX11_clock 191 = .ok (.iinc 4 1, 3) := by decide +kernel
theorem dX11_clock_194 : decode cX11_clock 194 = .ok (.goto (-182), 3) := by decide +kernel
theorem dX11_clock_197 : decode cX11_clock 197 = .ok (.return_, 1) := by decide +kernel
theorem dX11_callOf_0 : decode cX11_callOf 0 = .ok (.sipush (-10000), 3) := by decide +kernel
theorem dX11_callOf_3 : decode cX11_callOf 3 = .ok (.istore 4, 2) := by decide +kernel
theorem dX11_callOf_5 : decode cX11_callOf 5 = .ok (.sipush (-10000), 3) := by decide +kernel
theorem dX11_callOf_8 : decode cX11_callOf 8 = .ok (.istore 5, 2) := by decide +kernel
theorem dX11_callOf_10 : decode cX11_callOf 10 = .ok (.aload_n 0, 1) := by decide +kernel
theorem dX11_callOf_11 : decode cX11_callOf 11 = .ok (.getfield 95, 3) := by decide +kernel
theorem dX11_callOf_14 : decode cX11_callOf 14 = .ok (.iload_n 2, 1) := by decide +kernel
theorem dX11_callOf_15 : decode cX11_callOf 15 = .ok (.iaload, 1) := by decide +kernel
theorem dX11_callOf_16 : decode cX11_callOf 16 = .ok (.iconst 1, 1) := by decide +kernel
theorem dX11_callOf_17 : decode cX11_callOf 17 = .ok (.isub, 1) := by decide +kernel
theorem dX11_callOf_18 : decode cX11_callOf 18 = .ok (.istore 6, 2) := by decide +kernel
theorem dX11_callOf_20 : decode cX11_callOf 20 = .ok (.iload 6, 2) := by decide +kernel
theorem dX11_callOf_22 : decode cX11_callOf 22 = .ok (.ifCond .lt 85, 3) := by decide +kernel
theorem dX11_callOf_25 : decode cX11_callOf 25 = .ok (.aload_n 0, 1) := by decide +kernel
theorem dX11_callOf_26 : decode cX11_callOf 26 = .ok (.getfield 32, 3) := by decide +kernel
theorem dX11_callOf_29 : decode cX11_callOf 29 = .ok (.aload_n 0, 1) := by decide +kernel
theorem dX11_callOf_30 : decode cX11_callOf 30 = .ok (.getfield 92, 3) := by decide +kernel
theorem dX11_callOf_33 : decode cX11_callOf 33 = .ok (.bipush 8, 2) := by decide +kernel
theorem dX11_callOf_35 : decode cX11_callOf 35 = .ok (.iload_n 2, 1) := by decide +kernel
theorem dX11_callOf_36 : decode cX11_callOf 36 = .ok (.imul, 1) := by decide +kernel
theorem dX11_callOf_37 : decode cX11_callOf 37 = .ok (.iload 6, 2) := by decide +kernel
theorem dX11_callOf_39 : decode cX11_callOf 39 = .ok (.iadd, 1) := by decide +kernel
theorem dX11_callOf_40 : decode cX11_callOf 40 = .ok (.iaload, 1) := by decide +kernel
theorem dX11_callOf_41 : decode cX11_callOf 41 = .ok (.iaload, 1) := by decide +kernel
theorem dX11_callOf_42 : decode cX11_callOf 42 = .ok (.iload_n 1, 1) := by decide +kernel
theorem dX11_callOf_43 : decode cX11_callOf 43 = .ok (.invokestatic 158, 3) := by decide +kernel
theorem dX11_callOf_46 : decode cX11_callOf 46 = .ok (.istore 7, 2) := by decide +kernel
theorem dX11_callOf_48 : decode cX11_callOf 48 = .ok (.iload 7, 2) := by decide +kernel
theorem dX11_callOf_50 : decode cX11_callOf 50 = .ok (.ifCond .eq 21, 3) := by decide +kernel
theorem dX11_callOf_53 : decode cX11_callOf 53 = .ok (.iload 5, 2) := by decide +kernel
theorem dX11_callOf_55 : decode cX11_callOf 55 = .ok (.sipush (-10000), 3) := by decide +kernel
theorem dX11_callOf_58 : decode cX11_callOf 58 = .ok (.if_icmp .ne 13, 3) := by decide +kernel
theorem dX11_callOf_61 : decode cX11_callOf 61 = .ok (.aload_n 0, 1) := by decide +kernel
theorem dX11_callOf_62 : decode cX11_callOf 62 = .ok (.getfield 104, 3) := by decide +kernel
theorem dX11_callOf_65 : decode cX11_callOf 65 = .ok (.iload 6, 2) := by decide +kernel
theorem dX11_callOf_67 : decode cX11_callOf 67 = .ok (.iaload, 1) := by decide +kernel
theorem dX11_callOf_68 : decode cX11_callOf 68 = .ok (.goto 5, 3) := by decide +kernel
theorem dX11_callOf_71 : decode cX11_callOf 71 = .ok (.iload 5, 2) := by decide +kernel
theorem dX11_callOf_73 : decode cX11_callOf 73 = .ok (.istore 5, 2) := by decide +kernel
theorem dX11_callOf_75 : decode cX11_callOf 75 = .ok (.iload 7, 2) := by decide +kernel
theorem dX11_callOf_77 : decode cX11_callOf 77 = .ok (.ifCond .eq 20, 3) := by decide +kernel
theorem dX11_callOf_80 : decode cX11_callOf 80 = .ok (.aload_n 0, 1) := by decide +kernel
theorem dX11_callOf_81 : decode cX11_callOf 81 = .ok (.getfield 101, 3) := by decide +kernel
theorem dX11_callOf_84 : decode cX11_callOf 84 = .ok (.iload 6, 2) := by decide +kernel
theorem dX11_callOf_86 : decode cX11_callOf 86 = .ok (.iaload, 1) := by decide +kernel
theorem dX11_callOf_87 : decode cX11_callOf 87 = .ok (.aload_n 0, 1) := by decide +kernel
theorem dX11_callOf_88 : decode cX11_callOf 88 = .ok (.getfield 65, 3) := by decide +kernel
theorem dX11_callOf_91 : decode cX11_callOf 91 = .ok (.iload_n 1, 1) := by decide +kernel
theorem dX11_callOf_92 : decode cX11_callOf 92 = .ok (.iaload, 1) := by decide +kernel
theorem dX11_callOf_93 : decode cX11_callOf 93 = .ok (.isub, 1) := by decide +kernel
theorem dX11_callOf_94 : decode cX11_callOf 94 = .ok (.goto 5, 3) := by decide +kernel
theorem dX11_callOf_97 : decode cX11_callOf 97 = .ok (.iload 4, 2) := by decide +kernel
theorem dX11_callOf_99 : decode cX11_callOf 99 = .ok (.istore 4, 2) := by decide +kernel
theorem dX11_callOf_101 : decode cX11_callOf 101 = .ok (.iinc 6 (-1), 3) := by decide +kernel
theorem dX11_callOf_104 : decode cX11_callOf 104 = .ok (.goto (-84), 3) := by decide +kernel
theorem dX11_callOf_107 : decode cX11_callOf 107 = .ok (.iload_n 3, 1) := by decide +kernel
theorem dX11_callOf_108 : decode cX11_callOf 108 = .ok (.ifCond .eq 8, 3) := by decide +kernel
theorem dX11_callOf_111 : decode cX11_callOf 111 = .ok (.iload 5, 2) := by decide +kernel
theorem dX11_callOf_113 : decode cX11_callOf 113 = .ok (.goto 5, 3) := by decide +kernel
theorem dX11_callOf_116 : decode cX11_callOf 116 = .ok (.iload 4, 2) := by decide +kernel
theorem dX11_callOf_118 : decode cX11_callOf 118 = .ok (.ireturn, 1) := by decide +kernel
theorem dX11_placeOn_0 : decode cX11_placeOn 0 = .ok (.iconst 0, 1) := by decide +kernel
theorem dX11_placeOn_1 : decode cX11_placeOn 1 = .ok (.istore_n 3, 1) := by decide +kernel
theorem dX11_placeOn_2 : decode cX11_placeOn 2 = .ok (.aload_n 0, 1) := by decide +kernel
theorem dX11_placeOn_3 : decode cX11_placeOn 3 = .ok (.getfield 92, 3) := by decide +kernel
theorem dX11_placeOn_6 : decode cX11_placeOn 6 = .ok (.bipush 8, 2) := by decide +kernel
theorem dX11_placeOn_8 : decode cX11_placeOn 8 = .ok (.iload_n 2, 1) := by decide +kernel
theorem dX11_placeOn_9 : decode cX11_placeOn 9 = .ok (.imul, 1) := by decide +kernel
theorem dX11_placeOn_10 : decode cX11_placeOn 10 = .ok (.iload_n 3, 1) := by decide +kernel
theorem dX11_placeOn_11 : decode cX11_placeOn 11 = .ok (.iadd, 1) := by decide +kernel
theorem dX11_placeOn_12 : decode cX11_placeOn 12 = .ok (.iaload, 1) := by decide +kernel
theorem dX11_placeOn_13 : decode cX11_placeOn 13 = .ok (.iload_n 1, 1) := by decide +kernel
theorem dX11_placeOn_14 : decode cX11_placeOn 14 = .ok (.if_icmp .eq 9, 3) := by decide +kernel
theorem dX11_placeOn_17 : decode cX11_placeOn 17 = .ok (.iinc 3 1, 3) := by decide +kernel
theorem dX11_placeOn_20 : decode cX11_placeOn 20 = .ok (.goto (-18), 3) := by decide +kernel
theorem dX11_placeOn_23 : decode cX11_placeOn 23 = .ok (.iload_n 3, 1) := by decide +kernel
theorem dX11_placeOn_24 : decode cX11_placeOn 24 = .ok (.ireturn, 1) := by decide +kernel
theorem dX11_isBehind_0 : decode cX11_isBehind 0 = .ok (.aload_n 0, 1) := by decide +kernel
theorem dX11_isBehind_1 : decode cX11_isBehind 1 = .ok (.getfield 47, 3) := by decide +kernel
theorem dX11_isBehind_4 : decode cX11_isBehind 4 = .ok (.iload_n 2, 1) := by decide +kernel
theorem dX11_isBehind_5 : decode cX11_isBehind 5 = .ok (.baload, 1) := by decide +kernel
theorem dX11_isBehind_6 : decode cX11_isBehind 6 = .ok (.ifCond .ne 12, 3) := by decide +kernel
theorem dX11_isBehind_9 : decode cX11_isBehind 9 = .ok (.aload_n 0, 1) := by decide +kernel
theorem dX11_isBehind_10 : decode cX11_isBehind 10 = .ok (.getfield 44, 3) := by decide +kernel
theorem dX11_isBehind_13 : decode cX11_isBehind 13 = .ok (.iload_n 2, 1) := by decide +kernel
theorem dX11_isBehind_14 : decode cX11_isBehind 14 = .ok (.baload, 1) := by decide +kernel
theorem dX11_isBehind_15 : decode cX11_isBehind 15 = .ok (.ifCond .eq 5, 3) := by decide +kernel
theorem dX11_isBehind_18 : decode cX11_isBehind 18 = .ok (.iconst 1, 1) := by decide +kernel
theorem dX11_isBehind_19 : decode cX11_isBehind 19 = .ok (.ireturn, 1) := by decide +kernel
theorem dX11_isBehind_20 : decode cX11_isBehind 20 = .ok (.aload_n 0, 1) := by decide +kernel
theorem dX11_isBehind_21 : decode cX11_isBehind 21 = .ok (.getfield 56, 3) := by decide +kernel
theorem dX11_isBehind_24 : decode cX11_isBehind 24 = .ok (.iload_n 2, 1) := by decide +kernel
theorem dX11_isBehind_25 : decode cX11_isBehind 25 = .ok (.iaload, 1) := by decide +kernel
theorem dX11_isBehind_26 : decode cX11_isBehind 26 = .ok (.iconst (-1), 1) := by decide +kernel
theorem dX11_isBehind_27 : decode cX11_isBehind 27 = .ok (.if_icmp .eq 62, 3) := by decide +kernel
theorem dX11_isBehind_30 : decode cX11_isBehind 30 = .ok (.aload_n 0, 1) := by decide +kernel
theorem dX11_isBehind_31 : decode cX11_isBehind 31 = .ok (.getfield 56, 3) := by decide +kernel
theorem dX11_isBehind_34 : decode cX11_isBehind 34 = .ok (.iload_n 2, 1) := by decide +kernel
theorem dX11_isBehind_35 : decode cX11_isBehind 35 = .ok (.iaload, 1) := by decide +kernel
theorem dX11_isBehind_36 : decode cX11_isBehind 36 = .ok (.aload_n 0, 1) := by decide +kernel
theorem dX11_isBehind_37 : decode cX11_isBehind 37 = .ok (.getfield 56, 3) := by decide +kernel
theorem dX11_isBehind_40 : decode cX11_isBehind 40 = .ok (.iload_n 1, 1) := by decide +kernel
theorem dX11_isBehind_41 : decode cX11_isBehind 41 = .ok (.iaload, 1) := by decide +kernel
theorem dX11_isBehind_42 : decode cX11_isBehind 42 = .ok (.if_icmp .lt 43, 3) := by decide +kernel
theorem dX11_isBehind_45 : decode cX11_isBehind 45 = .ok (.aload_n 0, 1) := by decide +kernel
theorem dX11_isBehind_46 : decode cX11_isBehind 46 = .ok (.getfield 56, 3) := by decide +kernel
theorem dX11_isBehind_49 : decode cX11_isBehind 49 = .ok (.iload_n 2, 1) := by decide +kernel
theorem dX11_isBehind_50 : decode cX11_isBehind 50 = .ok (.iaload, 1) := by decide +kernel
theorem dX11_isBehind_51 : decode cX11_isBehind 51 = .ok (.aload_n 0, 1) := by decide +kernel
theorem dX11_isBehind_52 : decode cX11_isBehind 52 = .ok (.getfield 56, 3) := by decide +kernel
theorem dX11_isBehind_55 : decode cX11_isBehind 55 = .ok (.iload_n 1, 1) := by decide +kernel
theorem dX11_isBehind_56 : decode cX11_isBehind 56 = .ok (.iaload, 1) := by decide +kernel
theorem dX11_isBehind_57 : decode cX11_isBehind 57 = .ok (.if_icmp .ne 32, 3) := by decide +kernel
theorem dX11_isBehind_60 : decode cX11_isBehind 60 = .ok (.aload_n 0, 1) := by decide +kernel
theorem dX11_isBehind_61 : decode cX11_isBehind 61 = .ok (.iload_n 2, 1) := by decide +kernel
theorem dX11_isBehind_62 : decode cX11_isBehind 62 = .ok (.aload_n 0, 1) := by decide +kernel
theorem dX11_isBehind_63 : decode cX11_isBehind 63 = .ok (.getfield 56, 3) := by decide +kernel
theorem dX11_isBehind_66 : decode cX11_isBehind 66 = .ok (.iload_n 1, 1) := by decide +kernel
theorem dX11_isBehind_67 : decode cX11_isBehind 67 = .ok (.iaload, 1) := by decide +kernel
theorem dX11_isBehind_68 : decode cX11_isBehind 68 = .ok (.invokevirtual 181, 3) := by decide +kernel
theorem dX11_isBehind_71 : decode cX11_isBehind 71 = .ok (.aload_n 0, 1) := by decide +kernel
theorem dX11_isBehind_72 : decode cX11_isBehind 72 = .ok (.iload_n 1, 1) := by decide +kernel
theorem dX11_isBehind_73 : decode cX11_isBehind 73 = .ok (.aload_n 0, 1) := by decide +kernel
theorem dX11_isBehind_74 : decode cX11_isBehind 74 = .ok (.getfield 56, 3) := by decide +kernel
theorem dX11_isBehind_77 : decode cX11_isBehind 77 = .ok (.iload_n 1, 1) := by decide +kernel
theorem dX11_isBehind_78 : decode cX11_isBehind 78 = .ok (.iaload, 1) := by decide +kernel
theorem dX11_isBehind_79 : decode cX11_isBehind 79 = .ok (.invokevirtual 181, 3) := by decide +kernel
theorem dX11_isBehind_82 : decode cX11_isBehind 82 = .ok (.if_icmp .ge 7, 3) := by decide +kernel
theorem dX11_isBehind_85 : decode cX11_isBehind 85 = .ok (.iconst 1, 1) := by decide +kernel
theorem dX11_isBehind_86 : decode cX11_isBehind 86 = .ok (.goto 4, 3) := by decide +kernel
theorem dX11_isBehind_89 : decode cX11_isBehind 89 = .ok (.iconst 0, 1) := by decide +kernel
theorem dX11_isBehind_90 : decode cX11_isBehind 90 = .ok (.ireturn, 1) := by decide +kernel
theorem dX11_faultsOf_0 : decode cX11_faultsOf 0 = .ok (.aload_n 0, 1) := by decide +kernel
theorem dX11_faultsOf_1 : decode cX11_faultsOf 1 = .ok (.getfield 56, 3) := by decide +kernel
theorem dX11_faultsOf_4 : decode cX11_faultsOf 4 = .ok (.iload_n 1, 1) := by decide +kernel
theorem dX11_faultsOf_5 : decode cX11_faultsOf 5 = .ok (.iaload, 1) := by decide +kernel
theorem dX11_faultsOf_6 : decode cX11_faultsOf 6 = .ok (.istore_n 2, 1) := by decide +kernel
theorem dX11_faultsOf_7 : decode cX11_faultsOf 7 = .ok (.aload_n 0, 1) := by decide +kernel
theorem dX11_faultsOf_8 : decode cX11_faultsOf 8 = .ok (.iload_n 1, 1) := by decide +kernel
theorem dX11_faultsOf_9 : decode cX11_faultsOf 9 = .ok (.iload_n 2, 1) := by decide +kernel
theorem dX11_faultsOf_10 : decode cX11_faultsOf 10 = .ok (.invokevirtual 181, 3) := by decide +kernel
theorem dX11_faultsOf_13 : decode cX11_faultsOf 13 = .ok (.istore_n 3, 1) := by decide +kernel
theorem dX11_faultsOf_14 : decode cX11_faultsOf 14 = .ok (.aload_n 0, 1) := by decide +kernel
theorem dX11_faultsOf_15 : decode cX11_faultsOf 15 = .ok (.getfield 77, 3) := by decide +kernel
theorem dX11_faultsOf_18 : decode cX11_faultsOf 18 = .ok (.aload_n 0, 1) := by decide +kernel
theorem dX11_faultsOf_19 : decode cX11_faultsOf 19 = .ok (.getfield 19, 3) := by decide +kernel
theorem dX11_faultsOf_22 : decode cX11_faultsOf 22 = .ok (.iload_n 1, 1) := by decide +kernel
theorem dX11_faultsOf_23 : decode cX11_faultsOf 23 = .ok (.iaload, 1) := by decide +kernel
theorem dX11_faultsOf_24 : decode cX11_faultsOf 24 = .ok (.iaload, 1) := by decide +kernel
theorem dX11_faultsOf_25 : decode cX11_faultsOf 25 = .ok (.iload_n 2, 1) := by decide +kernel
theorem dX11_faultsOf_26 : decode cX11_faultsOf 26 = .ok (.invokestatic 158, 3) := by decide +kernel
theorem dX11_faultsOf_29 : decode cX11_faultsOf 29 = .ok (.ifCond .eq 7, 3) := by decide +kernel
theorem dX11_faultsOf_32 : decode cX11_faultsOf 32 = .ok (.iconst 0, 1) := by decide +kernel
theorem dX11_faultsOf_33 : decode cX11_faultsOf 33 = .ok (.goto 4, 3) := by decide +kernel
theorem dX11_faultsOf_36 : decode cX11_faultsOf 36 = .ok (.iconst 1, 1) := by decide +kernel
theorem dX11_faultsOf_37 : decode cX11_faultsOf 37 = .ok (.istore 4, 2) := by decide +kernel
theorem dX11_faultsOf_39 : decode cX11_faultsOf 39 = .ok (.iload 4, 2) := by decide +kernel
theorem dX11_faultsOf_41 : decode cX11_faultsOf 41 = .ok (.aload_n 0, 1) := by decide +kernel
theorem dX11_faultsOf_42 : decode cX11_faultsOf 42 = .ok (.getfield 26, 3) := by decide +kernel
theorem dX11_faultsOf_45 : decode cX11_faultsOf 45 = .ok (.iload_n 1, 1) := by decide +kernel
theorem dX11_faultsOf_46 : decode cX11_faultsOf 46 = .ok (.baload, 1) := by decide +kernel
theorem dX11_faultsOf_47 : decode cX11_faultsOf 47 = .ok (.ifCond .ne 46, 3) := by decide +kernel
theorem dX11_faultsOf_50 : decode cX11_faultsOf 50 = .ok (.aload_n 0, 1) := by decide +kernel
theorem dX11_faultsOf_51 : decode cX11_faultsOf 51 = .ok (.getfield 22, 3) := by decide +kernel
theorem dX11_faultsOf_54 : decode cX11_faultsOf 54 = .ok (.iload_n 1, 1) := by decide +kernel
theorem dX11_faultsOf_55 : decode cX11_faultsOf 55 = .ok (.baload, 1) := by decide +kernel
theorem dX11_faultsOf_56 : decode cX11_faultsOf 56 = .ok (.ifCond .eq 37, 3) := by decide +kernel
theorem dX11_faultsOf_59 : decode cX11_faultsOf 59 = .ok (.aload_n 0, 1) := by decide +kernel
theorem dX11_faultsOf_60 : decode cX11_faultsOf 60 = .ok (.getfield 101, 3) := by decide +kernel
theorem dX11_faultsOf_63 : decode cX11_faultsOf 63 = .ok (.iload_n 3, 1) := by decide +kernel
theorem dX11_faultsOf_64 : decode cX11_faultsOf 64 = .ok (.iaload, 1) := by decide +kernel
theorem dX11_faultsOf_65 : decode cX11_faultsOf 65 = .ok (.aload_n 0, 1) := by decide +kernel
theorem dX11_faultsOf_66 : decode cX11_faultsOf 66 = .ok (.getfield 86, 3) := by decide +kernel
theorem dX11_faultsOf_69 : decode cX11_faultsOf 69 = .ok (.iload_n 2, 1) := by decide +kernel
theorem dX11_faultsOf_70 : decode cX11_faultsOf 70 = .ok (.iaload, 1) := by decide +kernel
theorem dX11_faultsOf_71 : decode cX11_faultsOf 71 = .ok (.if_icmp .lt 18, 3) := by decide +kernel
theorem dX11_faultsOf_74 : decode cX11_faultsOf 74 = .ok (.aload_n 0, 1) := by decide +kernel
theorem dX11_faultsOf_75 : decode cX11_faultsOf 75 = .ok (.getfield 104, 3) := by decide +kernel
theorem dX11_faultsOf_78 : decode cX11_faultsOf 78 = .ok (.iload_n 3, 1) := by decide +kernel
theorem dX11_faultsOf_79 : decode cX11_faultsOf 79 = .ok (.iaload, 1) := by decide +kernel
theorem dX11_faultsOf_80 : decode cX11_faultsOf 80 = .ok (.aload_n 0, 1) := by decide +kernel
theorem dX11_faultsOf_81 : decode cX11_faultsOf 81 = .ok (.getfield 89, 3) := by decide +kernel
theorem dX11_faultsOf_84 : decode cX11_faultsOf 84 = .ok (.iload_n 2, 1) := by decide +kernel
theorem dX11_faultsOf_85 : decode cX11_faultsOf 85 = .ok (.iaload, 1) := by decide +kernel
theorem dX11_faultsOf_86 : decode cX11_faultsOf 86 = .ok (.if_icmp .le 7, 3) := by decide +kernel
theorem dX11_faultsOf_89 : decode cX11_faultsOf 89 = .ok (.iconst 2, 1) := by decide +kernel
theorem dX11_faultsOf_90 : decode cX11_faultsOf 90 = .ok (.goto 4, 3) := by decide +kernel
theorem dX11_faultsOf_93 : decode cX11_faultsOf 93 = .ok (.iconst 0, 1) := by decide +kernel
theorem dX11_faultsOf_94 : decode cX11_faultsOf 94 = .ok (.ior, 1) := by decide +kernel
theorem dX11_faultsOf_95 : decode cX11_faultsOf 95 = .ok (.istore 4, 2) := by decide +kernel
theorem dX11_faultsOf_97 : decode cX11_faultsOf 97 = .ok (.iconst 0, 1) := by decide +kernel
theorem dX11_faultsOf_98 : decode cX11_faultsOf 98 = .ok (.istore 5, 2) := by decide +kernel
theorem dX11_faultsOf_100 : decode cX11_faultsOf 100 = .ok (.iload 5, 2) := by decide +kernel
theorem dX11_faultsOf_102 : decode cX11_faultsOf 102 = .ok (.aload_n 0, 1) := by decide +kernel
theorem dX11_faultsOf_103 : decode cX11_faultsOf 103 = .ok (.getfield 121, 3) := by decide +kernel
theorem dX11_faultsOf_106 : decode cX11_faultsOf 106 = .ok (.if_icmp .ge 100, 3) := by decide +kernel
theorem dX11_faultsOf_109 : decode cX11_faultsOf 109 = .ok (.aload_n 0, 1) := by decide +kernel
theorem dX11_faultsOf_110 : decode cX11_faultsOf 110 = .ok (.getfield 32, 3) := by decide +kernel
theorem dX11_faultsOf_113 : decode cX11_faultsOf 113 = .ok (.iload_n 1, 1) := by decide +kernel
theorem dX11_faultsOf_114 : decode cX11_faultsOf 114 = .ok (.iaload, 1) := by decide +kernel
theorem dX11_faultsOf_115 : decode cX11_faultsOf 115 = .ok (.iload 5, 2) := by decide +kernel
theorem dX11_faultsOf_117 : decode cX11_faultsOf 117 = .ok (.invokestatic 158, 3) := by decide +kernel
theorem dX11_faultsOf_120 : decode cX11_faultsOf 120 = .ok (.istore 6, 2) := by decide +kernel
theorem dX11_faultsOf_122 : decode cX11_faultsOf 122 = .ok (.iload 4, 2) := by decide +kernel
theorem dX11_faultsOf_124 : decode cX11_faultsOf 124 = .ok (.iload 6, 2) := by decide +kernel
theorem dX11_faultsOf_126 : decode cX11_faultsOf 126 = .ok (.ifCond .eq 21, 3) := by decide +kernel
theorem dX11_faultsOf_129 : decode cX11_faultsOf 129 = .ok (.aload_n 0, 1) := by decide +kernel
theorem dX11_faultsOf_130 : decode cX11_faultsOf 130 = .ok (.getfield 71, 3) := by decide +kernel
theorem dX11_faultsOf_133 : decode cX11_faultsOf 133 = .ok (.iload 5, 2) := by decide +kernel
theorem dX11_faultsOf_135 : decode cX11_faultsOf 135 = .ok (.iaload, 1) := by decide +kernel
theorem dX11_faultsOf_136 : decode cX11_faultsOf 136 = .ok (.iload_n 2, 1) := by decide +kernel
theorem dX11_faultsOf_137 : decode cX11_faultsOf 137 = .ok (.invokestatic 158, 3) := by decide +kernel
theorem dX11_faultsOf_140 : decode cX11_faultsOf 140 = .ok (.ifCond .eq 7, 3) := by decide +kernel
theorem dX11_faultsOf_143 : decode cX11_faultsOf 143 = .ok (.iconst 4, 1) := by decide +kernel
theorem dX11_faultsOf_144 : decode cX11_faultsOf 144 = .ok (.goto 4, 3) := by decide +kernel
theorem dX11_faultsOf_147 : decode cX11_faultsOf 147 = .ok (.iconst 0, 1) := by decide +kernel
theorem dX11_faultsOf_148 : decode cX11_faultsOf 148 = .ok (.ior, 1) := by decide +kernel
theorem dX11_faultsOf_149 : decode cX11_faultsOf 149 = .ok (.istore 4, 2) := by decide +kernel
theorem dX11_faultsOf_151 : decode cX11_faultsOf 151 = .ok (.iload 4, 2) := by decide +kernel
theorem dX11_faultsOf_153 : decode cX11_faultsOf 153 = .ok (.iload 6, 2) := by decide +kernel
theorem dX11_faultsOf_155 : decode cX11_faultsOf 155 = .ok (.ifCond .eq 41, 3) := by decide +kernel
theorem dX11_faultsOf_158 : decode cX11_faultsOf 158 = .ok (.aload_n 0, 1) := by decide +kernel
theorem dX11_faultsOf_159 : decode cX11_faultsOf 159 = .ok (.getfield 68, 3) := by decide +kernel
theorem dX11_faultsOf_162 : decode cX11_faultsOf 162 = .ok (.iload 5, 2) := by decide +kernel
theorem dX11_faultsOf_164 : decode cX11_faultsOf 164 = .ok (.baload, 1) := by decide +kernel
theorem dX11_faultsOf_165 : decode cX11_faultsOf 165 = .ok (.ifCond .eq 31, 3) := by decide +kernel
theorem dX11_faultsOf_168 : decode cX11_faultsOf 168 = .ok (.aload_n 0, 1) := by decide +kernel
theorem dX11_faultsOf_169 : decode cX11_faultsOf 169 = .ok (.iload 5, 2) := by decide +kernel
theorem dX11_faultsOf_171 : decode cX11_faultsOf 171 = .ok (.iload_n 2, 1) := by decide +kernel
theorem dX11_faultsOf_172 : decode cX11_faultsOf 172 = .ok (.iconst 1, 1) := by decide +kernel
theorem dX11_faultsOf_173 : decode cX11_faultsOf 173 = .ok (.invokevirtual 185, 3) := by decide +kernel
theorem dX11_faultsOf_176 : decode cX11_faultsOf 176 = .ok (.aload_n 0, 1) := by decide +kernel
theorem dX11_faultsOf_177 : decode cX11_faultsOf 177 = .ok (.iload 5, 2) := by decide +kernel
theorem dX11_faultsOf_179 : decode cX11_faultsOf 179 = .ok (.iload_n 2, 1) := by decide +kernel
theorem dX11_faultsOf_180 : decode cX11_faultsOf 180 = .ok (.iconst 0, 1) := by decide +kernel
theorem dX11_faultsOf_181 : decode cX11_faultsOf 181 = .ok (.invokevirtual 185, 3) := by decide +kernel
theorem dX11_faultsOf_184 : decode cX11_faultsOf 184 = .ok (.isub, 1) := by decide +kernel
theorem dX11_faultsOf_185 : decode cX11_faultsOf 185 = .ok (.sipush 480, 3) := by decide +kernel
theorem dX11_faultsOf_188 : decode cX11_faultsOf 188 = .ok (.if_icmp .le 8, 3) := by decide +kernel
theorem dX11_faultsOf_191 : decode cX11_faultsOf 191 = .ok (.bipush 8, 2) := by decide +kernel
theorem dX11_faultsOf_193 : decode cX11_faultsOf 193 = .ok (.goto 4, 3) := by decide +kernel
theorem dX11_faultsOf_196 : decode cX11_faultsOf 196 = .ok (.iconst 0, 1) := by decide +kernel
theorem dX11_faultsOf_197 : decode cX11_faultsOf 197 = .ok (.ior, 1) := by decide +kernel
theorem dX11_faultsOf_198 : decode cX11_faultsOf 198 = .ok (.istore 4, 2) := by decide +kernel
theorem dX11_faultsOf_200 : decode cX11_faultsOf 200 = .ok (.iinc 5 1, 3) := by decide +kernel
theorem dX11_faultsOf_203 : decode cX11_faultsOf 203 = .ok (.goto (-103), 3) := by decide +kernel
theorem dX11_faultsOf_206 : decode cX11_faultsOf 206 = .ok (.iconst 0, 1) := by decide +kernel
theorem dX11_faultsOf_207 : decode cX11_faultsOf 207 = .ok (.istore 5, 2) := by decide +kernel
theorem dX11_faultsOf_209 : decode cX11_faultsOf 209 = .ok (.iload 5, 2) := by decide +kernel
theorem dX11_faultsOf_211 : decode cX11_faultsOf 211 = .ok (.aload_n 0, 1) := by decide +kernel
theorem dX11_faultsOf_212 : decode cX11_faultsOf 212 = .ok (.getfield 114, 3) := by decide +kernel
theorem dX11_faultsOf_215 : decode cX11_faultsOf 215 = .ok (.if_icmp .ge 44, 3) := by decide +kernel
theorem dX11_faultsOf_218 : decode cX11_faultsOf 218 = .ok (.iload 4, 2) := by decide +kernel
theorem dX11_faultsOf_220 : decode cX11_faultsOf 220 = .ok (.aload_n 0, 1) := by decide +kernel
theorem dX11_faultsOf_221 : decode cX11_faultsOf 221 = .ok (.getfield 41, 3) := by decide +kernel
theorem dX11_faultsOf_224 : decode cX11_faultsOf 224 = .ok (.iload_n 1, 1) := by decide +kernel
theorem dX11_faultsOf_225 : decode cX11_faultsOf 225 = .ok (.iaload, 1) := by decide +kernel
theorem dX11_faultsOf_226 : decode cX11_faultsOf 226 = .ok (.iload 5, 2) := by decide +kernel
theorem dX11_faultsOf_228 : decode cX11_faultsOf 228 = .ok (.invokestatic 158, 3) := by decide +kernel
theorem dX11_faultsOf_231 : decode cX11_faultsOf 231 = .ok (.ifCond .eq 18, 3) := by decide +kernel
theorem dX11_faultsOf_234 : decode cX11_faultsOf 234 = .ok (.aload_n 0, 1) := by decide +kernel
theorem dX11_faultsOf_235 : decode cX11_faultsOf 235 = .ok (.iload_n 1, 1) := by decide +kernel
theorem dX11_faultsOf_236 : decode cX11_faultsOf 236 = .ok (.iload 5, 2) := by decide +kernel
theorem dX11_faultsOf_238 : decode cX11_faultsOf 238 = .ok (.invokevirtual 189, 3) := by decide +kernel
theorem dX11_faultsOf_241 : decode cX11_faultsOf 241 = .ok (.ifCond .ne 8, 3) := by decide +kernel
theorem dX11_faultsOf_244 : decode cX11_faultsOf 244 = .ok (.bipush 16, 2) := by decide +kernel
theorem dX11_faultsOf_246 : decode cX11_faultsOf 246 = .ok (.goto 4, 3) := by decide +kernel
theorem dX11_faultsOf_249 : decode cX11_faultsOf 249 = .ok (.iconst 0, 1) := by decide +kernel
theorem dX11_faultsOf_250 : decode cX11_faultsOf 250 = .ok (.ior, 1) := by decide +kernel
theorem dX11_faultsOf_251 : decode cX11_faultsOf 251 = .ok (.istore 4, 2) := by decide +kernel
theorem dX11_faultsOf_253 : decode cX11_faultsOf 253 = .ok (.iinc 5 1, 3) := by decide +kernel
theorem dX11_faultsOf_256 : decode cX11_faultsOf 256 = .ok (.goto (-47), 3) := by decide +kernel
theorem dX11_faultsOf_259 : decode cX11_faultsOf 259 = .ok (.iload 4, 2) := by decide +kernel
theorem dX11_faultsOf_261 : decode cX11_faultsOf 261 = .ok (.aload_n 0, 1) := by decide +kernel
theorem dX11_faultsOf_262 : decode cX11_faultsOf 262 = .ok (.getfield 104, 3) := by decide +kernel
theorem dX11_faultsOf_265 : decode cX11_faultsOf 265 = .ok (.aload_n 0, 1) := by decide +kernel
theorem dX11_faultsOf_266 : decode cX11_faultsOf 266 = .ok (.getfield 95, 3) := by decide +kernel
theorem dX11_faultsOf_269 : decode cX11_faultsOf 269 = .ok (.iload_n 2, 1) := by decide +kernel
theorem dX11_faultsOf_270 : decode cX11_faultsOf 270 = .ok (.iaload, 1) := by decide +kernel
theorem dX11_faultsOf_271 : decode cX11_faultsOf 271 = .ok (.iconst 1, 1) := by decide +kernel
theorem dX11_faultsOf_272 : decode cX11_faultsOf 272 = .ok (.isub, 1) := by decide +kernel
theorem dX11_faultsOf_273 : decode cX11_faultsOf 273 = .ok (.iaload, 1) := by decide +kernel
theorem dX11_faultsOf_274 : decode cX11_faultsOf 274 = .ok (.aload_n 0, 1) := by decide +kernel
theorem dX11_faultsOf_275 : decode cX11_faultsOf 275 = .ok (.getfield 83, 3) := by decide +kernel
theorem dX11_faultsOf_278 : decode cX11_faultsOf 278 = .ok (.iload_n 2, 1) := by decide +kernel
theorem dX11_faultsOf_279 : decode cX11_faultsOf 279 = .ok (.iaload, 1) := by decide +kernel
theorem dX11_faultsOf_280 : decode cX11_faultsOf 280 = .ok (.sipush 720, 3) := by decide +kernel
theorem dX11_faultsOf_283 : decode cX11_faultsOf 283 = .ok (.iadd, 1) := by decide +kernel
theorem dX11_faultsOf_284 : decode cX11_faultsOf 284 = .ok (.if_icmp .le 8, 3) := by decide +kernel
theorem dX11_faultsOf_287 : decode cX11_faultsOf 287 = .ok (.bipush 32, 2) := by decide +kernel
theorem dX11_faultsOf_289 : decode cX11_faultsOf 289 = .ok (.goto 4, 3) := by decide +kernel
theorem dX11_faultsOf_292 : decode cX11_faultsOf 292 = .ok (.iconst 0, 1) := by decide +kernel
theorem dX11_faultsOf_293 : decode cX11_faultsOf 293 = .ok (.ior, 1) := by decide +kernel
theorem dX11_faultsOf_294 : decode cX11_faultsOf 294 = .ok (.ireturn, 1) := by decide +kernel
theorem dX11_on_0 : decode cX11_on 0 = .ok (.aload_n 0, 1) := by decide +kernel
theorem dX11_on_1 : decode cX11_on 1 = .ok (.getfield 95, 3) := by decide +kernel
theorem dX11_on_4 : decode cX11_on 4 = .ok (.iload_n 2, 1) := by decide +kernel
theorem dX11_on_5 : decode cX11_on 5 = .ok (.iaload, 1) := by decide +kernel
theorem dX11_on_6 : decode cX11_on 6 = .ok (.istore 4, 2) := by decide +kernel
theorem dX11_on_8 : decode cX11_on 8 = .ok (.iload 4, 2) := by decide +kernel
theorem dX11_on_10 : decode cX11_on 10 = .ok (.iload_n 3, 1) := by decide +kernel
theorem dX11_on_11 : decode cX11_on 11 = .ok (.if_icmp .le 35, 3) := by decide +kernel
theorem dX11_on_14 : decode cX11_on 14 = .ok (.aload_n 0, 1) := by decide +kernel
theorem dX11_on_15 : decode cX11_on 15 = .ok (.getfield 92, 3) := by decide +kernel
theorem dX11_on_18 : decode cX11_on 18 = .ok (.bipush 8, 2) := by decide +kernel
theorem dX11_on_20 : decode cX11_on 20 = .ok (.iload_n 2, 1) := by decide +kernel
theorem dX11_on_21 : decode cX11_on 21 = .ok (.imul, 1) := by decide +kernel
theorem dX11_on_22 : decode cX11_on 22 = .ok (.iload 4, 2) := by decide +kernel
theorem dX11_on_24 : decode cX11_on 24 = .ok (.iadd, 1) := by decide +kernel
theorem dX11_on_25 : decode cX11_on 25 = .ok (.aload_n 0, 1) := by decide +kernel
theorem dX11_on_26 : decode cX11_on 26 = .ok (.getfield 92, 3) := by decide +kernel
theorem dX11_on_29 : decode cX11_on 29 = .ok (.bipush 8, 2) := by decide +kernel
theorem dX11_on_31 : decode cX11_on 31 = .ok (.iload_n 2, 1) := by decide +kernel
theorem dX11_on_32 : decode cX11_on 32 = .ok (.imul, 1) := by decide +kernel
theorem dX11_on_33 : decode cX11_on 33 = .ok (.iload 4, 2) := by decide +kernel
theorem dX11_on_35 : decode cX11_on 35 = .ok (.iadd, 1) := by decide +kernel
theorem dX11_on_36 : decode cX11_on 36 = .ok (.iconst 1, 1) := by decide +kernel
theorem dX11_on_37 : decode cX11_on 37 = .ok (.isub, 1) := by decide +kernel
theorem dX11_on_38 : decode cX11_on 38 = .ok (.iaload, 1) := by decide +kernel
theorem dX11_on_39 : decode cX11_on 39 = .ok (.iastore, 1) := by decide +kernel
theorem dX11_on_40 : decode cX11_on 40 = .ok (.iinc 4 (-1), 3) := by decide +kernel
theorem dX11_on_43 : decode cX11_on 43 = .ok (.goto (-35), 3) := by decide +kernel
theorem dX11_on_46 : decode cX11_on 46 = .ok (.aload_n 0, 1) := by decide +kernel
theorem dX11_on_47 : decode cX11_on 47 = .ok (.getfield 92, 3) := by decide +kernel
theorem dX11_on_50 : decode cX11_on 50 = .ok (.bipush 8, 2) := by decide +kernel
theorem dX11_on_52 : decode cX11_on 52 = .ok (.iload_n 2, 1) := by decide +kernel
theorem dX11_on_53 : decode cX11_on 53 = .ok (.imul, 1) := by decide +kernel
theorem dX11_on_54 : decode cX11_on 54 = .ok (.iload_n 3, 1) := by decide +kernel
theorem dX11_on_55 : decode cX11_on 55 = .ok (.iadd, 1) := by decide +kernel
theorem dX11_on_56 : decode cX11_on 56 = .ok (.iload_n 1, 1) := by decide +kernel
theorem dX11_on_57 : decode cX11_on 57 = .ok (.iastore, 1) := by decide +kernel
theorem dX11_on_58 : decode cX11_on 58 = .ok (.aload_n 0, 1) := by decide +kernel
theorem dX11_on_59 : decode cX11_on 59 = .ok (.getfield 95, 3) := by decide +kernel
theorem dX11_on_62 : decode cX11_on 62 = .ok (.iload_n 2, 1) := by decide +kernel
theorem dX11_on_63 : decode cX11_on 63 = .ok (.dup2, 1) := by decide +kernel
theorem dX11_on_64 : decode cX11_on 64 = .ok (.iaload, 1) := by decide +kernel
theorem dX11_on_65 : decode cX11_on 65 = .ok (.iconst 1, 1) := by decide +kernel
theorem dX11_on_66 : decode cX11_on 66 = .ok (.iadd, 1) := by decide +kernel
theorem dX11_on_67 : decode cX11_on 67 = .ok (.iastore, 1) := by decide +kernel
theorem dX11_on_68 : decode cX11_on 68 = .ok (.aload_n 0, 1) := by decide +kernel
theorem dX11_on_69 : decode cX11_on 69 = .ok (.getfield 56, 3) := by decide +kernel
theorem dX11_on_72 : decode cX11_on 72 = .ok (.iload_n 1, 1) := by decide +kernel
theorem dX11_on_73 : decode cX11_on 73 = .ok (.iload_n 2, 1) := by decide +kernel
theorem dX11_on_74 : decode cX11_on 74 = .ok (.iastore, 1) := by decide +kernel
theorem dX11_on_75 : decode cX11_on 75 = .ok (.return_, 1) := by decide +kernel
theorem dX11_off_0 : decode cX11_off 0 = .ok (.aload_n 0, 1) := by decide +kernel
theorem dX11_off_1 : decode cX11_off 1 = .ok (.getfield 56, 3) := by decide +kernel
theorem dX11_off_4 : decode cX11_off 4 = .ok (.iload_n 1, 1) := by decide +kernel
theorem dX11_off_5 : decode cX11_off 5 = .ok (.iaload, 1) := by decide +kernel
theorem dX11_off_6 : decode cX11_off 6 = .ok (.istore_n 2, 1) := by decide +kernel
theorem dX11_off_7 : decode cX11_off 7 = .ok (.iload_n 2, 1) := by decide +kernel
theorem dX11_off_8 : decode cX11_off 8 = .ok (.iconst (-1), 1) := by decide +kernel
theorem dX11_off_9 : decode cX11_off 9 = .ok (.if_icmp .ne 4, 3) := by decide +kernel
theorem dX11_off_12 : decode cX11_off 12 = .ok (.return_, 1) := by decide +kernel
theorem dX11_off_13 : decode cX11_off 13 = .ok (.aload_n 0, 1) := by decide +kernel
theorem dX11_off_14 : decode cX11_off 14 = .ok (.iload_n 1, 1) := by decide +kernel
theorem dX11_off_15 : decode cX11_off 15 = .ok (.iload_n 2, 1) := by decide +kernel
theorem dX11_off_16 : decode cX11_off 16 = .ok (.invokevirtual 181, 3) := by decide +kernel
theorem dX11_off_19 : decode cX11_off 19 = .ok (.istore_n 3, 1) := by decide +kernel
theorem dX11_off_20 : decode cX11_off 20 = .ok (.iload_n 3, 1) := by decide +kernel
theorem dX11_off_21 : decode cX11_off 21 = .ok (.aload_n 0, 1) := by decide +kernel
theorem dX11_off_22 : decode cX11_off 22 = .ok (.getfield 95, 3) := by decide +kernel
theorem dX11_off_25 : decode cX11_off 25 = .ok (.iload_n 2, 1) := by decide +kernel
theorem dX11_off_26 : decode cX11_off 26 = .ok (.iaload, 1) := by decide +kernel
theorem dX11_off_27 : decode cX11_off 27 = .ok (.iconst 1, 1) := by decide +kernel
theorem dX11_off_28 : decode cX11_off 28 = .ok (.isub, 1) := by decide +kernel
theorem dX11_off_29 : decode cX11_off 29 = .ok (.if_icmp .ge 33, 3) := by decide +kernel
theorem dX11_off_32 : decode cX11_off 32 = .ok (.aload_n 0, 1) := by decide +kernel
theorem dX11_off_33 : decode cX11_off 33 = .ok (.getfield 92, 3) := by decide +kernel
theorem dX11_off_36 : decode cX11_off 36 = .ok (.bipush 8, 2) := by decide +kernel
theorem dX11_off_38 : decode cX11_off 38 = .ok (.iload_n 2, 1) := by decide +kernel
theorem dX11_off_39 : decode cX11_off 39 = .ok (.imul, 1) := by decide +kernel
theorem dX11_off_40 : decode cX11_off 40 = .ok (.iload_n 3, 1) := by decide +kernel
theorem dX11_off_41 : decode cX11_off 41 = .ok (.iadd, 1) := by decide +kernel
theorem dX11_off_42 : decode cX11_off 42 = .ok (.aload_n 0, 1) := by decide +kernel
theorem dX11_off_43 : decode cX11_off 43 = .ok (.getfield 92, 3) := by decide +kernel
theorem dX11_off_46 : decode cX11_off 46 = .ok (.bipush 8, 2) := by decide +kernel
theorem dX11_off_48 : decode cX11_off 48 = .ok (.iload_n 2, 1) := by decide +kernel
theorem dX11_off_49 : decode cX11_off 49 = .ok (.imul, 1) := by decide +kernel
theorem dX11_off_50 : decode cX11_off 50 = .ok (.iload_n 3, 1) := by decide +kernel
theorem dX11_off_51 : decode cX11_off 51 = .ok (.iadd, 1) := by decide +kernel
theorem dX11_off_52 : decode cX11_off 52 = .ok (.iconst 1, 1) := by decide +kernel
theorem dX11_off_53 : decode cX11_off 53 = .ok (.iadd, 1) := by decide +kernel
theorem dX11_off_54 : decode cX11_off 54 = .ok (.iaload, 1) := by decide +kernel
theorem dX11_off_55 : decode cX11_off 55 = .ok (.iastore, 1) := by decide +kernel
theorem dX11_off_56 : decode cX11_off 56 = .ok (.iinc 3 1, 3) := by decide +kernel
theorem dX11_off_59 : decode cX11_off 59 = .ok (.goto (-39), 3) := by decide +kernel
theorem dX11_off_62 : decode cX11_off 62 = .ok (.aload_n 0, 1) := by decide +kernel
theorem dX11_off_63 : decode cX11_off 63 = .ok (.getfield 95, 3) := by decide +kernel
theorem dX11_off_66 : decode cX11_off 66 = .ok (.iload_n 2, 1) := by decide +kernel
theorem dX11_off_67 : decode cX11_off 67 = .ok (.dup2, 1) := by decide +kernel
theorem dX11_off_68 : decode cX11_off 68 = .ok (.iaload, 1) := by decide +kernel
theorem dX11_off_69 : decode cX11_off 69 = .ok (.iconst 1, 1) := by decide +kernel
theorem dX11_off_70 : decode cX11_off 70 = .ok (.isub, 1) := by decide +kernel
theorem dX11_off_71 : decode cX11_off 71 = .ok (.iastore, 1) := by decide +kernel
theorem dX11_off_72 : decode cX11_off 72 = .ok (.aload_n 0, 1) := by decide +kernel
theorem dX11_off_73 : decode cX11_off 73 = .ok (.getfield 56, 3) := by decide +kernel
theorem dX11_off_76 : decode cX11_off 76 = .ok (.iload_n 1, 1) := by decide +kernel
theorem dX11_off_77 : decode cX11_off 77 = .ok (.iconst (-1), 1) := by decide +kernel
theorem dX11_off_78 : decode cX11_off 78 = .ok (.iastore, 1) := by decide +kernel
theorem dX11_off_79 : decode cX11_off 79 = .ok (.return_, 1) := by decide +kernel
theorem dX11_put_0 : decode cX11_put 0 = .ok (.aload_n 0, 1) := by decide +kernel
theorem dX11_put_1 : decode cX11_put 1 = .ok (.iload_n 1, 1) := by decide +kernel
theorem dX11_put_2 : decode cX11_put 2 = .ok (.invokevirtual 131, 3) := by decide +kernel
theorem dX11_put_5 : decode cX11_put 5 = .ok (.ifCond .eq 14, 3) := by decide +kernel
theorem dX11_put_8 : decode cX11_put 8 = .ok (.iload_n 2, 1) := by decide +kernel
theorem dX11_put_9 : decode cX11_put 9 = .ok (.invokestatic 168, 3) := by decide +kernel
theorem dX11_put_12 : decode cX11_put 12 = .ok (.ifCond .eq 7, 3) := by decide +kernel
theorem dX11_put_15 : decode cX11_put 15 = .ok (.iconst 1, 1) := by decide +kernel
theorem dX11_put_16 : decode cX11_put 16 = .ok (.goto 4, 3) := by decide +kernel
theorem dX11_put_19 : decode cX11_put 19 = .ok (.iconst 0, 1) := by decide +kernel
theorem dX11_put_20 : decode cX11_put 20 = .ok (.istore 4, 2) := by decide +kernel
theorem dX11_put_22 : decode cX11_put 22 = .ok (.iload 4, 2) := by decide +kernel
theorem dX11_put_24 : decode cX11_put 24 = .ok (.ifCond .eq 21, 3) := by decide +kernel
theorem dX11_put_27 : decode cX11_put 27 = .ok (.iload_n 3, 1) := by decide +kernel
theorem dX11_put_28 : decode cX11_put 28 = .ok (.iconst 0, 1) := by decide +kernel
theorem dX11_put_29 : decode cX11_put 29 = .ok (.aload_n 0, 1) := by decide +kernel
theorem dX11_put_30 : decode cX11_put 30 = .ok (.getfield 95, 3) := by decide +kernel
theorem dX11_put_33 : decode cX11_put 33 = .ok (.iload_n 2, 1) := by decide +kernel
theorem dX11_put_34 : decode cX11_put 34 = .ok (.iaload, 1) := by decide +kernel
theorem dX11_put_35 : decode cX11_put 35 = .ok (.invokestatic 117, 3) := by decide +kernel
theorem dX11_put_38 : decode cX11_put 38 = .ok (.ifCond .eq 7, 3) := by decide +kernel
theorem dX11_put_41 : decode cX11_put 41 = .ok (.iconst 1, 1) := by decide +kernel
theorem dX11_put_42 : decode cX11_put 42 = .ok (.goto 4, 3) := by decide +kernel
theorem dX11_put_45 : decode cX11_put 45 = .ok (.iconst 0, 1) := by decide +kernel
theorem dX11_put_46 : decode cX11_put 46 = .ok (.istore 4, 2) := by decide +kernel
theorem dX11_put_48 : decode cX11_put 48 = .ok (.iload 4, 2) := by decide +kernel
theorem dX11_put_50 : decode cX11_put 50 = .ok (.ifCond .eq 54, 3) := by decide +kernel
theorem dX11_put_53 : decode cX11_put 53 = .ok (.aload_n 0, 1) := by decide +kernel
theorem dX11_put_54 : decode cX11_put 54 = .ok (.getfield 56, 3) := by decide +kernel
theorem dX11_put_57 : decode cX11_put 57 = .ok (.iload_n 1, 1) := by decide +kernel
theorem dX11_put_58 : decode cX11_put 58 = .ok (.iaload, 1) := by decide +kernel
theorem dX11_put_59 : decode cX11_put 59 = .ok (.iconst (-1), 1) := by decide +kernel
theorem dX11_put_60 : decode cX11_put 60 = .ok (.if_icmp .ne 44, 3) := by decide +kernel
theorem dX11_put_63 : decode cX11_put 63 = .ok (.aload_n 0, 1) := by decide +kernel
theorem dX11_put_64 : decode cX11_put 64 = .ok (.getfield 47, 3) := by decide +kernel
theorem dX11_put_67 : decode cX11_put 67 = .ok (.iload_n 1, 1) := by decide +kernel
theorem dX11_put_68 : decode cX11_put 68 = .ok (.baload, 1) := by decide +kernel
theorem dX11_put_69 : decode cX11_put 69 = .ok (.ifCond .ne 35, 3) := by decide +kernel
theorem dX11_put_72 : decode cX11_put 72 = .ok (.aload_n 0, 1) := by decide +kernel
theorem dX11_put_73 : decode cX11_put 73 = .ok (.getfield 44, 3) := by decide +kernel
theorem dX11_put_76 : decode cX11_put 76 = .ok (.iload_n 1, 1) := by decide +kernel
theorem dX11_put_77 : decode cX11_put 77 = .ok (.baload, 1) := by decide +kernel
theorem dX11_put_78 : decode cX11_put 78 = .ok (.ifCond .ne 26, 3) := by decide +kernel
theorem dX11_put_81 : decode cX11_put 81 = .ok (.iload_n 2, 1) := by decide +kernel
theorem dX11_put_82 : decode cX11_put 82 = .ok (.aload_n 0, 1) := by decide +kernel
theorem dX11_put_83 : decode cX11_put 83 = .ok (.getfield 192, 3) := by decide +kernel
theorem dX11_put_86 : decode cX11_put 86 = .ok (.if_icmp .lt 18, 3) := by decide +kernel
theorem dX11_put_89 : decode cX11_put 89 = .ok (.aload_n 0, 1) := by decide +kernel
theorem dX11_put_90 : decode cX11_put 90 = .ok (.getfield 95, 3) := by decide +kernel
theorem dX11_put_93 : decode cX11_put 93 = .ok (.iload_n 2, 1) := by decide +kernel
theorem dX11_put_94 : decode cX11_put 94 = .ok (.iaload, 1) := by decide +kernel
theorem dX11_put_95 : decode cX11_put 95 = .ok (.bipush 8, 2) := by decide +kernel
theorem dX11_put_97 : decode cX11_put 97 = .ok (.if_icmp .ge 7, 3) := by decide +kernel
theorem dX11_put_100 : decode cX11_put 100 = .ok (.iconst 1, 1) := by decide +kernel
theorem dX11_put_101 : decode cX11_put 101 = .ok (.goto 4, 3) := by decide +kernel
theorem dX11_put_104 : decode cX11_put 104 = .ok (.iconst 0, 1) := by decide +kernel
theorem dX11_put_105 : decode cX11_put 105 = .ok (.istore 5, 2) := by decide +kernel
theorem dX11_put_107 : decode cX11_put 107 = .ok (.aload_n 0, 1) := by decide +kernel
theorem dX11_put_108 : decode cX11_put 108 = .ok (.iload 4, 2) := by decide +kernel
theorem dX11_put_110 : decode cX11_put 110 = .ok (.ifCond .ne 7, 3) := by decide +kernel
theorem dX11_put_113 : decode cX11_put 113 = .ok (.iconst 1, 1) := by decide +kernel
theorem dX11_put_114 : decode cX11_put 114 = .ok (.goto 13, 3) := by decide +kernel
theorem dX11_put_117 : decode cX11_put 117 = .ok (.iload 5, 2) := by decide +kernel
theorem dX11_put_119 : decode cX11_put 119 = .ok (.ifCond .eq 7, 3) := by decide +kernel
theorem dX11_put_122 : decode cX11_put 122 = .ok (.iconst 0, 1) := by decide +kernel
theorem dX11_put_123 : decode cX11_put 123 = .ok (.goto 4, 3) := by decide +kernel
theorem dX11_put_126 : decode cX11_put 126 = .ok (.iconst 2, 1) := by decide +kernel
theorem dX11_put_127 : decode cX11_put 127 = .ok (.invokevirtual 138, 3) := by decide +kernel
theorem dX11_put_130 : decode cX11_put 130 = .ok (.ifCond .ne 5, 3) := by decide +kernel
theorem dX11_put_133 : decode cX11_put 133 = .ok (.iconst 0, 1) := by decide +kernel
theorem dX11_put_134 : decode cX11_put 134 = .ok (.ireturn, 1) := by decide +kernel
theorem dX11_put_135 : decode cX11_put 135 = .ok (.aload_n 0, 1) := by decide +kernel
theorem dX11_put_136 : decode cX11_put 136 = .ok (.iload_n 1, 1) := by decide +kernel
theorem dX11_put_137 : decode cX11_put 137 = .ok (.iload_n 2, 1) := by decide +kernel
theorem dX11_put_138 : decode cX11_put 138 = .ok (.iload_n 3, 1) := by decide +kernel
theorem dX11_put_139 : decode cX11_put 139 = .ok (.invokevirtual 195, 3) := by decide +kernel
theorem dX11_put_142 : decode cX11_put 142 = .ok (.aload_n 0, 1) := by decide +kernel
theorem dX11_put_143 : decode cX11_put 143 = .ok (.iload_n 2, 1) := by decide +kernel
theorem dX11_put_144 : decode cX11_put 144 = .ok (.invokevirtual 199, 3) := by decide +kernel
theorem dX11_put_147 : decode cX11_put 147 = .ok (.aload_n 0, 1) := by decide +kernel
theorem dX11_put_148 : decode cX11_put 148 = .ok (.iload_n 1, 1) := by decide +kernel
theorem dX11_put_149 : decode cX11_put 149 = .ok (.invokevirtual 202, 3) := by decide +kernel
theorem dX11_put_152 : decode cX11_put 152 = .ok (.ireturn, 1) := by decide +kernel
theorem dX11_take_0 : decode cX11_take 0 = .ok (.aload_n 0, 1) := by decide +kernel
theorem dX11_take_1 : decode cX11_take 1 = .ok (.iload_n 1, 1) := by decide +kernel
theorem dX11_take_2 : decode cX11_take 2 = .ok (.invokevirtual 131, 3) := by decide +kernel
theorem dX11_take_5 : decode cX11_take 5 = .ok (.istore_n 2, 1) := by decide +kernel
theorem dX11_take_6 : decode cX11_take 6 = .ok (.aload_n 0, 1) := by decide +kernel
theorem dX11_take_7 : decode cX11_take 7 = .ok (.iload_n 2, 1) := by decide +kernel
theorem dX11_take_8 : decode cX11_take 8 = .ok (.ifCond .ne 7, 3) := by decide +kernel
theorem dX11_take_11 : decode cX11_take 11 = .ok (.iconst 1, 1) := by decide +kernel
theorem dX11_take_12 : decode cX11_take 12 = .ok (.goto 27, 3) := by decide +kernel
theorem dX11_take_15 : decode cX11_take 15 = .ok (.aload_n 0, 1) := by decide +kernel
theorem dX11_take_16 : decode cX11_take 16 = .ok (.getfield 56, 3) := by decide +kernel
theorem dX11_take_19 : decode cX11_take 19 = .ok (.iload_n 1, 1) := by decide +kernel
theorem dX11_take_20 : decode cX11_take 20 = .ok (.iaload, 1) := by decide +kernel
theorem dX11_take_21 : decode cX11_take 21 = .ok (.iconst (-1), 1) := by decide +kernel
theorem dX11_take_22 : decode cX11_take 22 = .ok (.if_icmp .eq 12, 3) := by decide +kernel
theorem dX11_take_25 : decode cX11_take 25 = .ok (.aload_n 0, 1) := by decide +kernel
theorem dX11_take_26 : decode cX11_take 26 = .ok (.getfield 47, 3) := by decide +kernel
theorem dX11_take_29 : decode cX11_take 29 = .ok (.iload_n 1, 1) := by decide +kernel
theorem dX11_take_30 : decode cX11_take 30 = .ok (.baload, 1) := by decide +kernel
theorem dX11_take_31 : decode cX11_take 31 = .ok (.ifCond .eq 7, 3) := by decide +kernel
theorem dX11_take_34 : decode cX11_take 34 = .ok (.iconst 2, 1) := by decide +kernel
theorem dX11_take_35 : decode cX11_take 35 = .ok (.goto 4, 3) := by decide +kernel
theorem dX11_take_38 : decode cX11_take 38 = .ok (.iconst 0, 1) := by decide +kernel
theorem dX11_take_39 : decode cX11_take 39 = .ok (.invokevirtual 138, 3) := by decide +kernel
theorem dX11_take_42 : decode cX11_take 42 = .ok (.ifCond .ne 5, 3) := by decide +kernel
theorem dX11_take_45 : decode cX11_take 45 = .ok (.iconst 0, 1) := by decide +kernel
theorem dX11_take_46 : decode cX11_take 46 = .ok (.ireturn, 1) := by decide +kernel
theorem dX11_take_47 : decode cX11_take 47 = .ok (.aload_n 0, 1) := by decide +kernel
theorem dX11_take_48 : decode cX11_take 48 = .ok (.getfield 56, 3) := by decide +kernel
theorem dX11_take_51 : decode cX11_take 51 = .ok (.iload_n 1, 1) := by decide +kernel
theorem dX11_take_52 : decode cX11_take 52 = .ok (.iaload, 1) := by decide +kernel
theorem dX11_take_53 : decode cX11_take 53 = .ok (.istore_n 3, 1) := by decide +kernel
theorem dX11_take_54 : decode cX11_take 54 = .ok (.aload_n 0, 1) := by decide +kernel
theorem dX11_take_55 : decode cX11_take 55 = .ok (.iload_n 1, 1) := by decide +kernel
theorem dX11_take_56 : decode cX11_take 56 = .ok (.invokevirtual 148, 3) := by decide +kernel
theorem dX11_take_59 : decode cX11_take 59 = .ok (.iload_n 3, 1) := by decide +kernel
theorem dX11_take_60 : decode cX11_take 60 = .ok (.ireturn, 1) := by decide +kernel
theorem dX11_faultless_0 : decode cX11_faultless 0 = .ok (.iconst 0, 1) := by decide +kernel
theorem dX11_faultless_1 : decode cX11_faultless 1 = .ok (.istore_n 2, 1) := by decide +kernel
theorem dX11_faultless_2 : decode cX11_faultless 2 = .ok (.aload_n 0, 1) := by decide +kernel
theorem dX11_faultless_3 : decode cX11_faultless 3 = .ok (.iload_n 1, 1) := by decide +kernel
theorem dX11_faultless_4 : decode cX11_faultless 4 = .ok (.invokevirtual 199, 3) := by decide +kernel
theorem dX11_faultless_7 : decode cX11_faultless 7 = .ok (.iconst 0, 1) := by decide +kernel
theorem dX11_faultless_8 : decode cX11_faultless 8 = .ok (.istore_n 3, 1) := by decide +kernel
theorem dX11_faultless_9 : decode cX11_faultless 9 = .ok (.iload_n 3, 1) := by decide +kernel
theorem dX11_faultless_10 : decode cX11_faultless 10 = .ok (.aload_n 0, 1) := by decide +kernel
theorem dX11_faultless_11 : decode cX11_faultless 11 = .ok (.getfield 95, 3) := by decide +kernel
theorem dX11_faultless_14 : decode cX11_faultless 14 = .ok (.iload_n 1, 1) := by decide +kernel
theorem dX11_faultless_15 : decode cX11_faultless 15 = .ok (.iaload, 1) := by decide +kernel
theorem dX11_faultless_16 : decode cX11_faultless 16 = .ok (.if_icmp .ge 42, 3) := by decide +kernel
theorem dX11_faultless_19 : decode cX11_faultless 19 = .ok (.aload_n 0, 1) := by decide +kernel
theorem dX11_faultless_20 : decode cX11_faultless 20 = .ok (.getfield 92, 3) := by decide +kernel
theorem dX11_faultless_23 : decode cX11_faultless 23 = .ok (.bipush 8, 2) := by decide +kernel
theorem dX11_faultless_25 : decode cX11_faultless 25 = .ok (.iload_n 1, 1) := by decide +kernel
theorem dX11_faultless_26 : decode cX11_faultless 26 = .ok (.imul, 1) := by decide +kernel
theorem dX11_faultless_27 : decode cX11_faultless 27 = .ok (.iload_n 3, 1) := by decide +kernel
theorem dX11_faultless_28 : decode cX11_faultless 28 = .ok (.iadd, 1) := by decide +kernel
theorem dX11_faultless_29 : decode cX11_faultless 29 = .ok (.iaload, 1) := by decide +kernel
theorem dX11_faultless_30 : decode cX11_faultless 30 = .ok (.istore 4, 2) := by decide +kernel
theorem dX11_faultless_32 : decode cX11_faultless 32 = .ok (.iload_n 2, 1) := by decide +kernel
theorem dX11_faultless_33 : decode cX11_faultless 33 = .ok (.aload_n 0, 1) := by decide +kernel
theorem dX11_faultless_34 : decode cX11_faultless 34 = .ok (.iload 4, 2) := by decide +kernel
theorem dX11_faultless_36 : decode cX11_faultless 36 = .ok (.invokevirtual 202, 3) := by decide +kernel
theorem dX11_faultless_39 : decode cX11_faultless 39 = .ok (.ifCond .ne 10, 3) := by decide +kernel
theorem dX11_faultless_42 : decode cX11_faultless 42 = .ok (.iconst 1, 1) := by decide +kernel
theorem dX11_faultless_43 : decode cX11_faultless 43 = .ok (.iload 4, 2) := by decide +kernel
theorem dX11_faultless_45 : decode cX11_faultless 45 = .ok (.ishl, 1) := by decide +kernel
theorem dX11_faultless_46 : decode cX11_faultless 46 = .ok (.goto 4, 3) := by decide +kernel
theorem dX11_faultless_49 : decode cX11_faultless 49 = .ok (.iconst 0, 1) := by decide +kernel
theorem dX11_faultless_50 : decode cX11_faultless 50 = .ok (.ior, 1) := by decide +kernel
theorem dX11_faultless_51 : decode cX11_faultless 51 = .ok (.istore_n 2, 1) := by decide +kernel
theorem dX11_faultless_52 : decode cX11_faultless 52 = .ok (.iinc 3 1, 3) := by decide +kernel
theorem dX11_faultless_55 : decode cX11_faultless 55 = .ok (.goto (-46), 3) := by decide +kernel
theorem dX11_faultless_58 : decode cX11_faultless 58 = .ok (.iload_n 2, 1) := by decide +kernel
theorem dX11_faultless_59 : decode cX11_faultless 59 = .ok (.ireturn, 1) := by decide +kernel
theorem dX11_find_0 : decode cX11_find 0 = .ok (.aload_n 0, 1) := by decide +kernel
theorem dX11_find_1 : decode cX11_find 1 = .ok (.getfield 192, 3) := by decide +kernel
theorem dX11_find_4 : decode cX11_find 4 = .ok (.istore_n 3, 1) := by decide +kernel
theorem dX11_find_5 : decode cX11_find 5 = .ok (.iload_n 3, 1) := by decide +kernel
theorem dX11_find_6 : decode cX11_find 6 = .ok (.bipush 30, 2) := by decide +kernel
theorem dX11_find_8 : decode cX11_find 8 = .ok (.if_icmp .ge 68, 3) := by decide +kernel
theorem dX11_find_11 : decode cX11_find 11 = .ok (.iload_n 3, 1) := by decide +kernel
theorem dX11_find_12 : decode cX11_find 12 = .ok (.iload_n 2, 1) := by decide +kernel
theorem dX11_find_13 : decode cX11_find 13 = .ok (.if_icmp .eq 57, 3) := by decide +kernel
theorem dX11_find_16 : decode cX11_find 16 = .ok (.aload_n 0, 1) := by decide +kernel
theorem dX11_find_17 : decode cX11_find 17 = .ok (.getfield 95, 3) := by decide +kernel
theorem dX11_find_20 : decode cX11_find 20 = .ok (.iload_n 3, 1) := by decide +kernel
theorem dX11_find_21 : decode cX11_find 21 = .ok (.iaload, 1) := by decide +kernel
theorem dX11_find_22 : decode cX11_find 22 = .ok (.bipush 8, 2) := by decide +kernel
theorem dX11_find_24 : decode cX11_find 24 = .ok (.if_icmp .ge 46, 3) := by decide +kernel
theorem dX11_find_27 : decode cX11_find 27 = .ok (.aload_n 0, 1) := by decide +kernel
theorem dX11_find_28 : decode cX11_find 28 = .ok (.iload_n 3, 1) := by decide +kernel
theorem dX11_find_29 : decode cX11_find 29 = .ok (.invokevirtual 205, 3) := by decide +kernel
theorem dX11_find_32 : decode cX11_find 32 = .ok (.iconst 1, 1) := by decide +kernel
theorem dX11_find_33 : decode cX11_find 33 = .ok (.iload_n 1, 1) := by decide +kernel
theorem dX11_find_34 : decode cX11_find 34 = .ok (.ishl, 1) := by decide +kernel
theorem dX11_find_35 : decode cX11_find 35 = .ok (.ior, 1) := by decide +kernel
theorem dX11_find_36 : decode cX11_find 36 = .ok (.istore 4, 2) := by decide +kernel
theorem dX11_find_38 : decode cX11_find 38 = .ok (.aload_n 0, 1) := by decide +kernel
theorem dX11_find_39 : decode cX11_find 39 = .ok (.iload_n 1, 1) := by decide +kernel
theorem dX11_find_40 : decode cX11_find 40 = .ok (.iload_n 3, 1) := by decide +kernel
theorem dX11_find_41 : decode cX11_find 41 = .ok (.aload_n 0, 1) := by decide +kernel
theorem dX11_find_42 : decode cX11_find 42 = .ok (.getfield 95, 3) := by decide +kernel
theorem dX11_find_45 : decode cX11_find 45 = .ok (.iload_n 3, 1) := by decide +kernel
theorem dX11_find_46 : decode cX11_find 46 = .ok (.iaload, 1) := by decide +kernel
theorem dX11_find_47 : decode cX11_find 47 = .ok (.invokevirtual 195, 3) := by decide +kernel
theorem dX11_find_50 : decode cX11_find 50 = .ok (.iload 4, 2) := by decide +kernel
theorem dX11_find_52 : decode cX11_find 52 = .ok (.aload_n 0, 1) := by decide +kernel
theorem dX11_find_53 : decode cX11_find 53 = .ok (.iload_n 3, 1) := by decide +kernel
theorem dX11_find_54 : decode cX11_find 54 = .ok (.invokevirtual 205, 3) := by decide +kernel
theorem dX11_find_57 : decode cX11_find 57 = .ok (.iconst (-1), 1) := by decide +kernel
theorem dX11_find_58 : decode cX11_find 58 = .ok (.ixor, 1) := by decide +kernel
theorem dX11_find_59 : decode cX11_find 59 = .ok (.iand, 1) := by decide +kernel
theorem dX11_find_60 : decode cX11_find 60 = .ok (.ifCond .ne 5, 3) := by decide +kernel
theorem dX11_find_63 : decode cX11_find 63 = .ok (.iconst 1, 1) := by decide +kernel
theorem dX11_find_64 : decode cX11_find 64 = .ok (.ireturn, 1) := by decide +kernel
theorem dX11_find_65 : decode cX11_find 65 = .ok (.aload_n 0, 1) := by decide +kernel
theorem dX11_find_66 : decode cX11_find 66 = .ok (.iload_n 1, 1) := by decide +kernel
theorem dX11_find_67 : decode cX11_find 67 = .ok (.invokevirtual 148, 3) := by decide +kernel
theorem dX11_find_70 : decode cX11_find 70 = .ok (.iinc 3 1, 3) := by decide +kernel
theorem dX11_find_73 : decode cX11_find 73 = .ok (.goto (-68), 3) := by decide +kernel
theorem dX11_find_76 : decode cX11_find 76 = .ok (.iconst 0, 1) := by decide +kernel
theorem dX11_find_77 : decode cX11_find 77 = .ok (.ireturn, 1) := by decide +kernel
theorem dX11_canTry_0 : decode cX11_canTry 0 = .ok (.aload_n 0, 1) := by decide +kernel
theorem dX11_canTry_1 : decode cX11_canTry 1 = .ok (.getfield 44, 3) := by decide +kernel
theorem dX11_canTry_4 : decode cX11_canTry 4 = .ok (.iload_n 1, 1) := by decide +kernel
theorem dX11_canTry_5 : decode cX11_canTry 5 = .ok (.baload, 1) := by decide +kernel
theorem dX11_canTry_6 : decode cX11_canTry 6 = .ok (.ifCond .ne 26, 3) := by decide +kernel
theorem dX11_canTry_9 : decode cX11_canTry 9 = .ok (.aload_n 0, 1) := by decide +kernel
theorem dX11_canTry_10 : decode cX11_canTry 10 = .ok (.getfield 47, 3) := by decide +kernel
theorem dX11_canTry_13 : decode cX11_canTry 13 = .ok (.iload_n 1, 1) := by decide +kernel
theorem dX11_canTry_14 : decode cX11_canTry 14 = .ok (.baload, 1) := by decide +kernel
theorem dX11_canTry_15 : decode cX11_canTry 15 = .ok (.ifCond .ne 17, 3) := by decide +kernel
theorem dX11_canTry_18 : decode cX11_canTry 18 = .ok (.aload_n 0, 1) := by decide +kernel
theorem dX11_canTry_19 : decode cX11_canTry 19 = .ok (.getfield 56, 3) := by decide +kernel
theorem dX11_canTry_22 : decode cX11_canTry 22 = .ok (.iload_n 1, 1) := by decide +kernel
theorem dX11_canTry_23 : decode cX11_canTry 23 = .ok (.iaload, 1) := by decide +kernel
theorem dX11_canTry_24 : decode cX11_canTry 24 = .ok (.iconst (-1), 1) := by decide +kernel
theorem dX11_canTry_25 : decode cX11_canTry 25 = .ok (.if_icmp .ne 7, 3) := by decide +kernel
theorem dX11_canTry_28 : decode cX11_canTry 28 = .ok (.iconst 1, 1) := by decide +kernel
theorem dX11_canTry_29 : decode cX11_canTry 29 = .ok (.goto 4, 3) := by decide +kernel
theorem dX11_canTry_32 : decode cX11_canTry 32 = .ok (.iconst 0, 1) := by decide +kernel
theorem dX11_canTry_33 : decode cX11_canTry 33 = .ok (.istore_n 2, 1) := by decide +kernel
theorem dX11_canTry_34 : decode cX11_canTry 34 = .ok (.iconst 0, 1) := by decide +kernel
theorem dX11_canTry_35 : decode cX11_canTry 35 = .ok (.istore_n 3, 1) := by decide +kernel
theorem dX11_canTry_36 : decode cX11_canTry 36 = .ok (.iload_n 3, 1) := by decide +kernel
theorem dX11_canTry_37 : decode cX11_canTry 37 = .ok (.aload_n 0, 1) := by decide +kernel
theorem dX11_canTry_38 : decode cX11_canTry 38 = .ok (.getfield 114, 3) := by decide +kernel
theorem dX11_canTry_41 : decode cX11_canTry 41 = .ok (.if_icmp .ge 60, 3) := by decide +kernel
theorem dX11_canTry_44 : decode cX11_canTry 44 = .ok (.iload_n 2, 1) := by decide +kernel
theorem dX11_canTry_45 : decode cX11_canTry 45 = .ok (.ifCond .eq 48, 3) := by decide +kernel
theorem dX11_canTry_48 : decode cX11_canTry 48 = .ok (.aload_n 0, 1) := by decide +kernel
theorem dX11_canTry_49 : decode cX11_canTry 49 = .ok (.getfield 41, 3) := by decide +kernel
theorem dX11_canTry_52 : decode cX11_canTry 52 = .ok (.iload_n 1, 1) := by decide +kernel
theorem dX11_canTry_53 : decode cX11_canTry 53 = .ok (.iaload, 1) := by decide +kernel
theorem dX11_canTry_54 : decode cX11_canTry 54 = .ok (.iload_n 3, 1) := by decide +kernel
theorem dX11_canTry_55 : decode cX11_canTry 55 = .ok (.invokestatic 158, 3) := by decide +kernel
theorem dX11_canTry_58 : decode cX11_canTry 58 = .ok (.ifCond .eq 31, 3) := by decide +kernel
theorem dX11_canTry_61 : decode cX11_canTry 61 = .ok (.aload_n 0, 1) := by decide +kernel
theorem dX11_canTry_62 : decode cX11_canTry 62 = .ok (.getfield 56, 3) := by decide +kernel
theorem dX11_canTry_65 : decode cX11_canTry 65 = .ok (.iload_n 3, 1) := by decide +kernel
theorem dX11_canTry_66 : decode cX11_canTry 66 = .ok (.iaload, 1) := by decide +kernel
theorem dX11_canTry_67 : decode cX11_canTry 67 = .ok (.iconst (-1), 1) := by decide +kernel
theorem dX11_canTry_68 : decode cX11_canTry 68 = .ok (.if_icmp .ne 21, 3) := by decide +kernel
theorem dX11_canTry_71 : decode cX11_canTry 71 = .ok (.aload_n 0, 1) := by decide +kernel
theorem dX11_canTry_72 : decode cX11_canTry 72 = .ok (.getfield 47, 3) := by decide +kernel
theorem dX11_canTry_75 : decode cX11_canTry 75 = .ok (.iload_n 3, 1) := by decide +kernel
theorem dX11_canTry_76 : decode cX11_canTry 76 = .ok (.baload, 1) := by decide +kernel
theorem dX11_canTry_77 : decode cX11_canTry 77 = .ok (.ifCond .ne 12, 3) := by decide +kernel
theorem dX11_canTry_80 : decode cX11_canTry 80 = .ok (.aload_n 0, 1) := by decide +kernel
theorem dX11_canTry_81 : decode cX11_canTry 81 = .ok (.getfield 44, 3) := by decide +kernel
theorem dX11_canTry_84 : decode cX11_canTry 84 = .ok (.iload_n 3, 1) := by decide +kernel
theorem dX11_canTry_85 : decode cX11_canTry 85 = .ok (.baload, 1) := by decide +kernel
theorem dX11_canTry_86 : decode cX11_canTry 86 = .ok (.ifCond .eq 7, 3) := by decide +kernel
theorem dX11_canTry_89 : decode cX11_canTry 89 = .ok (.iconst 1, 1) := by decide +kernel
theorem dX11_canTry_90 : decode cX11_canTry 90 = .ok (.goto 4, 3) := by decide +kernel
theorem dX11_canTry_93 : decode cX11_canTry 93 = .ok (.iconst 0, 1) := by decide +kernel
theorem dX11_canTry_94 : decode cX11_canTry 94 = .ok (.istore_n 2, 1) := by decide +kernel
theorem dX11_canTry_95 : decode cX11_canTry 95 = .ok (.iinc 3 1, 3) := by decide +kernel
theorem dX11_canTry_98 : decode cX11_canTry 98 = .ok (.goto (-62), 3) := by decide +kernel
theorem dX11_canTry_101 : decode cX11_canTry 101 = .ok (.iload_n 2, 1) := by decide +kernel
theorem dX11_canTry_102 : decode cX11_canTry 102 = .ok (.ireturn, 1) := by decide +kernel
theorem dX11_fill_0 : decode cX11_fill 0 = .ok (.aload_n 0, 1) := by decide +kernel
theorem dX11_fill_1 : decode cX11_fill 1 = .ok (.iconst 0, 1) := by decide +kernel
theorem dX11_fill_2 : decode cX11_fill 2 = .ok (.putfield 110, 3) := by decide +kernel
theorem dX11_fill_5 : decode cX11_fill 5 = .ok (.iconst 0, 1) := by decide +kernel
theorem dX11_fill_6 : decode cX11_fill 6 = .ok (.istore_n 1, 1) := by decide +kernel
theorem dX11_fill_7 : decode cX11_fill 7 = .ok (.iconst 0, 1) := by decide +kernel
theorem dX11_fill_8 : decode cX11_fill 8 = .ok (.istore_n 2, 1) := by decide +kernel
theorem dX11_fill_9 : decode cX11_fill 9 = .ok (.iconst 0, 1) := by decide +kernel
theorem dX11_fill_10 : decode cX11_fill 10 = .ok (.istore_n 3, 1) := by decide +kernel
theorem dX11_fill_11 : decode cX11_fill 11 = .ok (.iload_n 3, 1) := by decide +kernel
theorem dX11_fill_12 : decode cX11_fill 12 = .ok (.iconst (-1), 1) := by decide +kernel
theorem dX11_fill_13 : decode cX11_fill 13 = .ok (.if_icmp .eq 95, 3) := by decide +kernel
theorem dX11_fill_16 : decode cX11_fill 16 = .ok (.iconst (-1), 1) := by decide +kernel
theorem dX11_fill_17 : decode cX11_fill 17 = .ok (.istore_n 3, 1) := by decide +kernel
theorem dX11_fill_18 : decode cX11_fill 18 = .ok (.aload_n 0, 1) := by decide +kernel
theorem dX11_fill_19 : decode cX11_fill 19 = .ok (.getfield 114, 3) := by decide +kernel
theorem dX11_fill_22 : decode cX11_fill 22 = .ok (.iconst 1, 1) := by decide +kernel
theorem dX11_fill_23 : decode cX11_fill 23 = .ok (.isub, 1) := by decide +kernel
theorem dX11_fill_24 : decode cX11_fill 24 = .ok (.istore 4, 2) := by decide +kernel
theorem dX11_fill_26 : decode cX11_fill 26 = .ok (.iload 4, 2) := by decide +kernel
theorem dX11_fill_28 : decode cX11_fill 28 = .ok (.ifCond .lt 49, 3) := by decide +kernel
theorem dX11_fill_31 : decode cX11_fill 31 = .ok (.iload_n 2, 1) := by decide +kernel
theorem dX11_fill_32 : decode cX11_fill 32 = .ok (.aload_n 0, 1) := by decide +kernel
theorem dX11_fill_33 : decode cX11_fill 33 = .ok (.getfield 7, 3) := by decide +kernel
theorem dX11_fill_36 : decode cX11_fill 36 = .ok (.iload 4, 2) := by decide +kernel
theorem dX11_fill_38 : decode cX11_fill 38 = .ok (.iaload, 1) := by decide +kernel
theorem dX11_fill_39 : decode cX11_fill 39 = .ok (.invokestatic 158, 3) := by decide +kernel
theorem dX11_fill_42 : decode cX11_fill 42 = .ok (.ifCond .ne 27, 3) := by decide +kernel
theorem dX11_fill_45 : decode cX11_fill 45 = .ok (.aload_n 0, 1) := by decide +kernel
theorem dX11_fill_46 : decode cX11_fill 46 = .ok (.aload_n 0, 1) := by decide +kernel
theorem dX11_fill_47 : decode cX11_fill 47 = .ok (.getfield 7, 3) := by decide +kernel
theorem dX11_fill_50 : decode cX11_fill 50 = .ok (.iload 4, 2) := by decide +kernel
theorem dX11_fill_52 : decode cX11_fill 52 = .ok (.iaload, 1) := by decide +kernel
theorem dX11_fill_53 : decode cX11_fill 53 = .ok (.invokevirtual 208, 3) := by decide +kernel
theorem dX11_fill_56 : decode cX11_fill 56 = .ok (.ifCond .eq 13, 3) := by decide +kernel
theorem dX11_fill_59 : decode cX11_fill 59 = .ok (.aload_n 0, 1) := by decide +kernel
theorem dX11_fill_60 : decode cX11_fill 60 = .ok (.getfield 7, 3) := by decide +kernel
theorem dX11_fill_63 : decode cX11_fill 63 = .ok (.iload 4, 2) := by decide +kernel
theorem dX11_fill_65 : decode cX11_fill 65 = .ok (.iaload, 1) := by decide +kernel
theorem dX11_fill_66 : decode cX11_fill 66 = .ok (.goto 4, 3) := by decide +kernel
theorem dX11_fill_69 : decode cX11_fill 69 = .ok (.iload_n 3, 1) := by decide +kernel
theorem dX11_fill_70 : decode cX11_fill 70 = .ok (.istore_n 3, 1) := by decide +kernel
theorem dX11_fill_71 : decode cX11_fill 71 = .ok (.iinc 4 (-1), 3) := by decide +kernel
theorem dX11_fill_74 : decode cX11_fill 74 = .ok (.goto (-48), 3) := by decide +kernel
theorem dX11_fill_77 : decode cX11_fill 77 = .ok (.iload_n 3, 1) := by decide +kernel
theorem dX11_fill_78 : decode cX11_fill 78 = .ok (.iconst (-1), 1) := by decide +kernel
theorem dX11_fill_79 : decode cX11_fill 79 = .ok (.if_icmp .eq (-68), 3) := by decide +kernel
theorem dX11_fill_82 : decode cX11_fill 82 = .ok (.iload_n 2, 1) := by decide +kernel
theorem dX11_fill_83 : decode cX11_fill 83 = .ok (.iconst 1, 1) := by decide +kernel
theorem dX11_fill_84 : decode cX11_fill 84 = .ok (.iload_n 3, 1) := by decide +kernel
theorem dX11_fill_85 : decode cX11_fill 85 = .ok (.ishl, 1) := by decide +kernel
theorem dX11_fill_86 : decode cX11_fill 86 = .ok (.ior, 1) := by decide +kernel
theorem dX11_fill_87 : decode cX11_fill 87 = .ok (.istore_n 2, 1) := by decide +kernel
theorem dX11_fill_88 : decode cX11_fill 88 = .ok (.iload_n 1, 1) := by decide +kernel
theorem dX11_fill_89 : decode cX11_fill 89 = .ok (.aload_n 0, 1) := by decide +kernel
theorem dX11_fill_90 : decode cX11_fill 90 = .ok (.iload_n 3, 1) := by decide +kernel
theorem dX11_fill_91 : decode cX11_fill 91 = .ok (.iconst (-1), 1) := by decide +kernel
theorem dX11_fill_92 : decode cX11_fill 92 = .ok (.invokevirtual 211, 3) := by decide +kernel
theorem dX11_fill_95 : decode cX11_fill 95 = .ok (.ifCond .eq 7, 3) := by decide +kernel
theorem dX11_fill_98 : decode cX11_fill 98 = .ok (.iconst 1, 1) := by decide +kernel
theorem dX11_fill_99 : decode cX11_fill 99 = .ok (.goto 4, 3) := by decide +kernel
theorem dX11_fill_102 : decode cX11_fill 102 = .ok (.iconst 0, 1) := by decide +kernel
theorem dX11_fill_103 : decode cX11_fill 103 = .ok (.iadd, 1) := by decide +kernel
theorem dX11_fill_104 : decode cX11_fill 104 = .ok (.istore_n 1, 1) := by decide +kernel
theorem dX11_fill_105 : decode cX11_fill 105 = .ok (.goto (-94), 3) := by decide +kernel
theorem dX11_fill_108 : decode cX11_fill 108 = .ok (.iload_n 1, 1) := by decide +kernel
theorem dX11_fill_109 : decode cX11_fill 109 = .ok (.ireturn, 1) := by decide +kernel
theorem dX11_mend_0 : decode cX11_mend 0 = .ok (.iload_n 1, 1) := by decide +kernel
theorem dX11_mend_1 : decode cX11_mend 1 = .ok (.invokestatic 168, 3) := by decide +kernel
theorem dX11_mend_4 : decode cX11_mend 4 = .ok (.istore_n 2, 1) := by decide +kernel
theorem dX11_mend_5 : decode cX11_mend 5 = .ok (.aload_n 0, 1) := by decide +kernel
theorem dX11_mend_6 : decode cX11_mend 6 = .ok (.iload_n 2, 1) := by decide +kernel
theorem dX11_mend_7 : decode cX11_mend 7 = .ok (.ifCond .ne 7, 3) := by decide +kernel
theorem dX11_mend_10 : decode cX11_mend 10 = .ok (.iconst 1, 1) := by decide +kernel
theorem dX11_mend_11 : decode cX11_mend 11 = .ok (.goto 16, 3) := by decide +kernel
theorem dX11_mend_14 : decode cX11_mend 14 = .ok (.iload_n 1, 1) := by decide +kernel
theorem dX11_mend_15 : decode cX11_mend 15 = .ok (.aload_n 0, 1) := by decide +kernel
theorem dX11_mend_16 : decode cX11_mend 16 = .ok (.getfield 192, 3) := by decide +kernel
theorem dX11_mend_19 : decode cX11_mend 19 = .ok (.if_icmp .ge 7, 3) := by decide +kernel
theorem dX11_mend_22 : decode cX11_mend 22 = .ok (.iconst 2, 1) := by decide +kernel
theorem dX11_mend_23 : decode cX11_mend 23 = .ok (.goto 4, 3) := by decide +kernel
theorem dX11_mend_26 : decode cX11_mend 26 = .ok (.iconst 0, 1) := by decide +kernel
theorem dX11_mend_27 : decode cX11_mend 27 = .ok (.invokevirtual 138, 3) := by decide +kernel
theorem dX11_mend_30 : decode cX11_mend 30 = .ok (.ifCond .ne 5, 3) := by decide +kernel
theorem dX11_mend_33 : decode cX11_mend 33 = .ok (.iconst 0, 1) := by decide +kernel
theorem dX11_mend_34 : decode cX11_mend 34 = .ok (.ireturn, 1) := by decide +kernel
theorem dX11_mend_35 : decode cX11_mend 35 = .ok (.iconst 0, 1) := by decide +kernel
theorem dX11_mend_36 : decode cX11_mend 36 = .ok (.istore_n 3, 1) := by decide +kernel
theorem dX11_mend_37 : decode cX11_mend 37 = .ok (.iconst 0, 1) := by decide +kernel
theorem dX11_mend_38 : decode cX11_mend 38 = .ok (.istore 4, 2) := by decide +kernel
theorem dX11_mend_40 : decode cX11_mend 40 = .ok (.iload 4, 2) := by decide +kernel
theorem dX11_mend_42 : decode cX11_mend 42 = .ok (.aload_n 0, 1) := by decide +kernel
theorem dX11_mend_43 : decode cX11_mend 43 = .ok (.getfield 121, 3) := by decide +kernel
theorem dX11_mend_46 : decode cX11_mend 46 = .ok (.if_icmp .ge 34, 3) := by decide +kernel
theorem dX11_mend_49 : decode cX11_mend 49 = .ok (.iload_n 3, 1) := by decide +kernel
theorem dX11_mend_50 : decode cX11_mend 50 = .ok (.aload_n 0, 1) := by decide +kernel
theorem dX11_mend_51 : decode cX11_mend 51 = .ok (.getfield 71, 3) := by decide +kernel
theorem dX11_mend_54 : decode cX11_mend 54 = .ok (.iload 4, 2) := by decide +kernel
theorem dX11_mend_56 : decode cX11_mend 56 = .ok (.iaload, 1) := by decide +kernel
theorem dX11_mend_57 : decode cX11_mend 57 = .ok (.iload_n 1, 1) := by decide +kernel
theorem dX11_mend_58 : decode cX11_mend 58 = .ok (.invokestatic 158, 3) := by decide +kernel
theorem dX11_mend_61 : decode cX11_mend 61 = .ok (.ifCond .eq 10, 3) := by decide +kernel
theorem dX11_mend_64 : decode cX11_mend 64 = .ok (.iconst 1, 1) := by decide +kernel
theorem dX11_mend_65 : decode cX11_mend 65 = .ok (.iload 4, 2) := by decide +kernel
theorem dX11_mend_67 : decode cX11_mend 67 = .ok (.ishl, 1) := by decide +kernel
theorem dX11_mend_68 : decode cX11_mend 68 = .ok (.goto 4, 3) := by decide +kernel
theorem dX11_mend_71 : decode cX11_mend 71 = .ok (.iconst 0, 1) := by decide +kernel
theorem dX11_mend_72 : decode cX11_mend 72 = .ok (.ior, 1) := by decide +kernel
theorem dX11_mend_73 : decode cX11_mend 73 = .ok (.istore_n 3, 1) := by decide +kernel
theorem dX11_mend_74 : decode cX11_mend 74 = .ok (.iinc 4 1, 3) := by decide +kernel
theorem dX11_mend_77 : decode cX11_mend 77 = .ok (.goto (-37), 3) := by decide +kernel
theorem dX11_mend_80 : decode cX11_mend 80 = .ok (.iconst 0, 1) := by decide +kernel
theorem dX11_mend_81 : decode cX11_mend 81 = .ok (.istore 4, 2) := by decide +kernel
theorem dX11_mend_83 : decode cX11_mend 83 = .ok (.iconst 0, 1) := by decide +kernel
theorem dX11_mend_84 : decode cX11_mend 84 = .ok (.istore 5, 2) := by decide +kernel
theorem dX11_mend_86 : decode cX11_mend 86 = .ok (.iload 5, 2) := by decide +kernel
theorem dX11_mend_88 : decode cX11_mend 88 = .ok (.aload_n 0, 1) := by decide +kernel
theorem dX11_mend_89 : decode cX11_mend 89 = .ok (.getfield 95, 3) := by decide +kernel
theorem dX11_mend_92 : decode cX11_mend 92 = .ok (.iload_n 1, 1) := by decide +kernel
theorem dX11_mend_93 : decode cX11_mend 93 = .ok (.iaload, 1) := by decide +kernel
theorem dX11_mend_94 : decode cX11_mend 94 = .ok (.if_icmp .ge 57, 3) := by decide +kernel
theorem dX11_mend_97 : decode cX11_mend 97 = .ok (.aload_n 0, 1) := by decide +kernel
theorem dX11_mend_98 : decode cX11_mend 98 = .ok (.getfield 92, 3) := by decide +kernel
theorem dX11_mend_101 : decode cX11_mend 101 = .ok (.bipush 8, 2) := by decide +kernel
theorem dX11_mend_103 : decode cX11_mend 103 = .ok (.iload_n 1, 1) := by decide +kernel
theorem dX11_mend_104 : decode cX11_mend 104 = .ok (.imul, 1) := by decide +kernel
theorem dX11_mend_105 : decode cX11_mend 105 = .ok (.iload 5, 2) := by decide +kernel
theorem dX11_mend_107 : decode cX11_mend 107 = .ok (.iadd, 1) := by decide +kernel
theorem dX11_mend_108 : decode cX11_mend 108 = .ok (.iaload, 1) := by decide +kernel
theorem dX11_mend_109 : decode cX11_mend 109 = .ok (.istore 6, 2) := by decide +kernel
theorem dX11_mend_111 : decode cX11_mend 111 = .ok (.aload_n 0, 1) := by decide +kernel
theorem dX11_mend_112 : decode cX11_mend 112 = .ok (.getfield 47, 3) := by decide +kernel
theorem dX11_mend_115 : decode cX11_mend 115 = .ok (.iload 6, 2) := by decide +kernel
theorem dX11_mend_117 : decode cX11_mend 117 = .ok (.baload, 1) := by decide +kernel
theorem dX11_mend_118 : decode cX11_mend 118 = .ok (.ifCond .ne 27, 3) := by decide +kernel
theorem dX11_mend_121 : decode cX11_mend 121 = .ok (.aload_n 0, 1) := by decide +kernel
theorem dX11_mend_122 : decode cX11_mend 122 = .ok (.getfield 32, 3) := by decide +kernel
theorem dX11_mend_125 : decode cX11_mend 125 = .ok (.iload 6, 2) := by decide +kernel
theorem dX11_mend_127 : decode cX11_mend 127 = .ok (.iaload, 1) := by decide +kernel
theorem dX11_mend_128 : decode cX11_mend 128 = .ok (.iload_n 3, 1) := by decide +kernel
theorem dX11_mend_129 : decode cX11_mend 129 = .ok (.iand, 1) := by decide +kernel
theorem dX11_mend_130 : decode cX11_mend 130 = .ok (.ifCond .eq 15, 3) := by decide +kernel
theorem dX11_mend_133 : decode cX11_mend 133 = .ok (.aload_n 0, 1) := by decide +kernel
theorem dX11_mend_134 : decode cX11_mend 134 = .ok (.getfield 107, 3) := by decide +kernel
theorem dX11_mend_137 : decode cX11_mend 137 = .ok (.iload 4, 2) := by decide +kernel
theorem dX11_mend_139 : decode cX11_mend 139 = .ok (.iload 6, 2) := by decide +kernel
theorem dX11_mend_141 : decode cX11_mend 141 = .ok (.iastore, 1) := by decide +kernel
theorem dX11_mend_142 : decode cX11_mend 142 = .ok (.iinc 4 1, 3) := by decide +kernel
theorem dX11_mend_145 : decode cX11_mend 145 = .ok (.iinc 5 1, 3) := by decide +kernel
theorem dX11_mend_148 : decode cX11_mend 148 = .ok (.goto (-62), 3) := by decide +kernel
theorem dX11_mend_151 : decode cX11_mend 151 = .ok (.iconst 0, 1) := by decide +kernel
theorem dX11_mend_152 : decode cX11_mend 152 = .ok (.istore 5, 2) := by decide +kernel
theorem dX11_mend_154 : decode cX11_mend 154 = .ok (.iload 5, 2) := by decide +kernel
theorem dX11_mend_156 : decode cX11_mend 156 = .ok (.iload 4, 2) := by decide +kernel
theorem dX11_mend_158 : decode cX11_mend 158 = .ok (.if_icmp .ge 20, 3) := by decide +kernel
theorem dX11_mend_161 : decode cX11_mend 161 = .ok (.aload_n 0, 1) := by decide +kernel
theorem dX11_mend_162 : decode cX11_mend 162 = .ok (.aload_n 0, 1) := by decide +kernel
theorem dX11_mend_163 : decode cX11_mend 163 = .ok (.getfield 107, 3) := by decide +kernel
theorem dX11_mend_166 : decode cX11_mend 166 = .ok (.iload 5, 2) := by decide +kernel
theorem dX11_mend_168 : decode cX11_mend 168 = .ok (.iaload, 1) := by decide +kernel
theorem dX11_mend_169 : decode cX11_mend 169 = .ok (.invokevirtual 148, 3) := by decide +kernel
theorem dX11_mend_172 : decode cX11_mend 172 = .ok (.iinc 5 1, 3) := by decide +kernel
theorem dX11_mend_175 : decode cX11_mend 175 = .ok (.goto (-21), 3) := by decide +kernel
theorem dX11_mend_178 : decode cX11_mend 178 = .ok (.iconst 0, 1) := by decide +kernel
theorem dX11_mend_179 : decode cX11_mend 179 = .ok (.istore 5, 2) := by decide +kernel
theorem dX11_mend_181 : decode cX11_mend 181 = .ok (.iconst 0, 1) := by decide +kernel
theorem dX11_mend_182 : decode cX11_mend 182 = .ok (.istore 6, 2) := by decide +kernel
theorem dX11_mend_184 : decode cX11_mend 184 = .ok (.iload 6, 2) := by decide +kernel
theorem dX11_mend_186 : decode cX11_mend 186 = .ok (.iload 4, 2) := by decide +kernel
theorem dX11_mend_188 : decode cX11_mend 188 = .ok (.if_icmp .ge 34, 3) := by decide +kernel
theorem dX11_mend_191 : decode cX11_mend 191 = .ok (.iload 5, 2) := by decide +kernel
theorem dX11_mend_193 : decode cX11_mend 193 = .ok (.aload_n 0, 1) := by decide +kernel
theorem dX11_mend_194 : decode cX11_mend 194 = .ok (.aload_n 0, 1) := by decide +kernel
theorem dX11_mend_195 : decode cX11_mend 195 = .ok (.getfield 107, 3) := by decide +kernel
theorem dX11_mend_198 : decode cX11_mend 198 = .ok (.iload 6, 2) := by decide +kernel
theorem dX11_mend_200 : decode cX11_mend 200 = .ok (.iaload, 1) := by decide +kernel
theorem dX11_mend_201 : decode cX11_mend 201 = .ok (.iload_n 1, 1) := by decide +kernel
theorem dX11_mend_202 : decode cX11_mend 202 = .ok (.invokevirtual 211, 3) := by decide +kernel
theorem dX11_mend_205 : decode cX11_mend 205 = .ok (.ifCond .eq 7, 3) := by decide +kernel
theorem dX11_mend_208 : decode cX11_mend 208 = .ok (.iconst 1, 1) := by decide +kernel
theorem dX11_mend_209 : decode cX11_mend 209 = .ok (.goto 4, 3) := by decide +kernel
theorem dX11_mend_212 : decode cX11_mend 212 = .ok (.iconst 0, 1) := by decide +kernel
theorem dX11_mend_213 : decode cX11_mend 213 = .ok (.iadd, 1) := by decide +kernel
theorem dX11_mend_214 : decode cX11_mend 214 = .ok (.istore 5, 2) := by decide +kernel
theorem dX11_mend_216 : decode cX11_mend 216 = .ok (.iinc 6 1, 3) := by decide +kernel
theorem dX11_mend_219 : decode cX11_mend 219 = .ok (.goto (-35), 3) := by decide +kernel
theorem dX11_mend_222 : decode cX11_mend 222 = .ok (.iload 5, 2) := by decide +kernel
theorem dX11_mend_224 : decode cX11_mend 224 = .ok (.ireturn, 1) := by decide +kernel
theorem dX11_strip_0 : decode cX11_strip 0 = .ok (.aload_n 0, 1) := by decide +kernel
theorem dX11_strip_1 : decode cX11_strip 1 = .ok (.iload_n 1, 1) := by decide +kernel
theorem dX11_strip_2 : decode cX11_strip 2 = .ok (.invokestatic 168, 3) := by decide +kernel
theorem dX11_strip_5 : decode cX11_strip 5 = .ok (.ifCond .eq 11, 3) := by decide +kernel
theorem dX11_strip_8 : decode cX11_strip 8 = .ok (.iload_n 2, 1) := by decide +kernel
theorem dX11_strip_9 : decode cX11_strip 9 = .ok (.ifCond .lt 7, 3) := by decide +kernel
theorem dX11_strip_12 : decode cX11_strip 12 = .ok (.iconst 0, 1) := by decide +kernel
theorem dX11_strip_13 : decode cX11_strip 13 = .ok (.goto 4, 3) := by decide +kernel
theorem dX11_strip_16 : decode cX11_strip 16 = .ok (.iconst 1, 1) := by decide +kernel
theorem dX11_strip_17 : decode cX11_strip 17 = .ok (.invokevirtual 138, 3) := by decide +kernel
theorem dX11_strip_20 : decode cX11_strip 20 = .ok (.ifCond .ne 5, 3) := by decide +kernel
theorem dX11_strip_23 : decode cX11_strip 23 = .ok (.iconst 0, 1) := by decide +kernel
theorem dX11_strip_24 : decode cX11_strip 24 = .ok (.ireturn, 1) := by decide +kernel
theorem dX11_strip_25 : decode cX11_strip 25 = .ok (.iload_n 2, 1) := by decide +kernel
theorem dX11_strip_26 : decode cX11_strip 26 = .ok (.aload_n 0, 1) := by decide +kernel
theorem dX11_strip_27 : decode cX11_strip 27 = .ok (.getfield 95, 3) := by decide +kernel
theorem dX11_strip_30 : decode cX11_strip 30 = .ok (.iload_n 1, 1) := by decide +kernel
theorem dX11_strip_31 : decode cX11_strip 31 = .ok (.iaload, 1) := by decide +kernel
theorem dX11_strip_32 : decode cX11_strip 32 = .ok (.if_icmp .ge 17, 3) := by decide +kernel
theorem dX11_strip_35 : decode cX11_strip 35 = .ok (.aload_n 0, 1) := by decide +kernel
theorem dX11_strip_36 : decode cX11_strip 36 = .ok (.getfield 92, 3) := by decide +kernel
theorem dX11_strip_39 : decode cX11_strip 39 = .ok (.bipush 8, 2) := by decide +kernel
theorem dX11_strip_41 : decode cX11_strip 41 = .ok (.iload_n 1, 1) := by decide +kernel
theorem dX11_strip_42 : decode cX11_strip 42 = .ok (.imul, 1) := by decide +kernel
theorem dX11_strip_43 : decode cX11_strip 43 = .ok (.iload_n 2, 1) := by decide +kernel
theorem dX11_strip_44 : decode cX11_strip 44 = .ok (.iadd, 1) := by decide +kernel
theorem dX11_strip_45 : decode cX11_strip 45 = .ok (.iaload, 1) := by decide +kernel
theorem dX11_strip_46 : decode cX11_strip 46 = .ok (.goto 4, 3) := by decide +kernel
theorem dX11_strip_49 : decode cX11_strip 49 = .ok (.iconst (-1), 1) := by decide +kernel
theorem dX11_strip_50 : decode cX11_strip 50 = .ok (.ireturn, 1) := by decide +kernel
theorem dX11_stateOf_0 : decode cX11_stateOf 0 = .ok (.aload_n 0, 1) := by decide +kernel
theorem dX11_stateOf_1 : decode cX11_stateOf 1 = .ok (.getfield 44, 3) := by decide +kernel
theorem dX11_stateOf_4 : decode cX11_stateOf 4 = .ok (.iload_n 1, 1) := by decide +kernel
theorem dX11_stateOf_5 : decode cX11_stateOf 5 = .ok (.baload, 1) := by decide +kernel
theorem dX11_stateOf_6 : decode cX11_stateOf 6 = .ok (.ifCond .eq 7, 3) := by decide +kernel
theorem dX11_stateOf_9 : decode cX11_stateOf 9 = .ok (.iconst 4, 1) := by decide +kernel
theorem dX11_stateOf_10 : decode cX11_stateOf 10 = .ok (.goto 44, 3) := by decide +kernel
theorem dX11_stateOf_13 : decode cX11_stateOf 13 = .ok (.aload_n 0, 1) := by decide +kernel
theorem dX11_stateOf_14 : decode cX11_stateOf 14 = .ok (.getfield 47, 3) := by decide +kernel
theorem dX11_stateOf_17 : decode cX11_stateOf 17 = .ok (.iload_n 1, 1) := by decide +kernel
theorem dX11_stateOf_18 : decode cX11_stateOf 18 = .ok (.baload, 1) := by decide +kernel
theorem dX11_stateOf_19 : decode cX11_stateOf 19 = .ok (.ifCond .eq 7, 3) := by decide +kernel
theorem dX11_stateOf_22 : decode cX11_stateOf 22 = .ok (.iconst 2, 1) := by decide +kernel
theorem dX11_stateOf_23 : decode cX11_stateOf 23 = .ok (.goto 31, 3) := by decide +kernel
theorem dX11_stateOf_26 : decode cX11_stateOf 26 = .ok (.aload_n 0, 1) := by decide +kernel
theorem dX11_stateOf_27 : decode cX11_stateOf 27 = .ok (.getfield 56, 3) := by decide +kernel
theorem dX11_stateOf_30 : decode cX11_stateOf 30 = .ok (.iload_n 1, 1) := by decide +kernel
theorem dX11_stateOf_31 : decode cX11_stateOf 31 = .ok (.iaload, 1) := by decide +kernel
theorem dX11_stateOf_32 : decode cX11_stateOf 32 = .ok (.iconst (-1), 1) := by decide +kernel
theorem dX11_stateOf_33 : decode cX11_stateOf 33 = .ok (.if_icmp .eq 7, 3) := by decide +kernel
theorem dX11_stateOf_36 : decode cX11_stateOf 36 = .ok (.iconst 1, 1) := by decide +kernel
theorem dX11_stateOf_37 : decode cX11_stateOf 37 = .ok (.goto 17, 3) := by decide +kernel
theorem dX11_stateOf_40 : decode cX11_stateOf 40 = .ok (.aload_n 0, 1) := by decide +kernel
theorem dX11_stateOf_41 : decode cX11_stateOf 41 = .ok (.getfield 50, 3) := by decide +kernel
theorem dX11_stateOf_44 : decode cX11_stateOf 44 = .ok (.iload_n 1, 1) := by decide +kernel
theorem dX11_stateOf_45 : decode cX11_stateOf 45 = .ok (.baload, 1) := by decide +kernel
theorem dX11_stateOf_46 : decode cX11_stateOf 46 = .ok (.ifCond .eq 7, 3) := by decide +kernel
theorem dX11_stateOf_49 : decode cX11_stateOf 49 = .ok (.iconst 3, 1) := by decide +kernel
theorem dX11_stateOf_50 : decode cX11_stateOf 50 = .ok (.goto 4, 3) := by decide +kernel
theorem dX11_stateOf_53 : decode cX11_stateOf 53 = .ok (.iconst 0, 1) := by decide +kernel
theorem dX11_stateOf_54 : decode cX11_stateOf 54 = .ok (.ireturn, 1) := by decide +kernel
theorem dX11_ofScene_0 : decode cX11_ofScene 0 = .ok (.aload_n 0, 1) := by decide +kernel
theorem dX11_ofScene_1 : decode cX11_ofScene 1 = .ok (.iload_n 1, 1) := by decide +kernel
theorem dX11_ofScene_2 : decode cX11_ofScene 2 = .ok (.invokevirtual 131, 3) := by decide +kernel
theorem dX11_ofScene_5 : decode cX11_ofScene 5 = .ok (.istore_n 3, 1) := by decide +kernel
theorem dX11_ofScene_6 : decode cX11_ofScene 6 = .ok (.aload_n 0, 1) := by decide +kernel
theorem dX11_ofScene_7 : decode cX11_ofScene 7 = .ok (.iload_n 3, 1) := by decide +kernel
theorem dX11_ofScene_8 : decode cX11_ofScene 8 = .ok (.ifCond .ne 7, 3) := by decide +kernel
theorem dX11_ofScene_11 : decode cX11_ofScene 11 = .ok (.iconst 1, 1) := by decide +kernel
theorem dX11_ofScene_12 : decode cX11_ofScene 12 = .ok (.goto 17, 3) := by decide +kernel
theorem dX11_ofScene_15 : decode cX11_ofScene 15 = .ok (.iload_n 2, 1) := by decide +kernel
theorem dX11_ofScene_16 : decode cX11_ofScene 16 = .ok (.iconst 0, 1) := by decide +kernel
theorem dX11_ofScene_17 : decode cX11_ofScene 17 = .ok (.iconst 4, 1) := by decide +kernel
theorem dX11_ofScene_18 : decode cX11_ofScene 18 = .ok (.invokestatic 117, 3) := by decide +kernel
theorem dX11_ofScene_21 : decode cX11_ofScene 21 = .ok (.ifCond .eq 7, 3) := by decide +kernel
theorem dX11_ofScene_24 : decode cX11_ofScene 24 = .ok (.iconst 0, 1) := by decide +kernel
theorem dX11_ofScene_25 : decode cX11_ofScene 25 = .ok (.goto 4, 3) := by decide +kernel
theorem dX11_ofScene_28 : decode cX11_ofScene 28 = .ok (.iconst 2, 1) := by decide +kernel
theorem dX11_ofScene_29 : decode cX11_ofScene 29 = .ok (.invokevirtual 138, 3) := by decide +kernel
theorem dX11_ofScene_32 : decode cX11_ofScene 32 = .ok (.ifCond .ne 5, 3) := by decide +kernel
theorem dX11_ofScene_35 : decode cX11_ofScene 35 = .ok (.iconst 0, 1) := by decide +kernel
theorem dX11_ofScene_36 : decode cX11_ofScene 36 = .ok (.ireturn, 1) := by decide +kernel
theorem dX11_ofScene_37 : decode cX11_ofScene 37 = .ok (.aload_n 0, 1) := by decide +kernel
theorem dX11_ofScene_38 : decode cX11_ofScene 38 = .ok (.getfield 56, 3) := by decide +kernel
theorem dX11_ofScene_41 : decode cX11_ofScene 41 = .ok (.iload_n 1, 1) := by decide +kernel
theorem dX11_ofScene_42 : decode cX11_ofScene 42 = .ok (.iaload, 1) := by decide +kernel
theorem dX11_ofScene_43 : decode cX11_ofScene 43 = .ok (.istore 4, 2) := by decide +kernel
theorem dX11_ofScene_45 : decode cX11_ofScene 45 = .ok (.iload_n 2, 1) := by decide +kernel
theorem dX11_ofScene_46 : decode cX11_ofScene 46 = .ok (.ifCond .ne 9, 3) := by decide +kernel
theorem dX11_ofScene_49 : decode cX11_ofScene 49 = .ok (.aload_n 0, 1) := by decide +kernel
theorem dX11_ofScene_50 : decode cX11_ofScene 50 = .ok (.iload_n 1, 1) := by decide +kernel
theorem dX11_ofScene_51 : decode cX11_ofScene 51 = .ok (.invokevirtual 214, 3) := by decide +kernel
theorem dX11_ofScene_54 : decode cX11_ofScene 54 = .ok (.ireturn, 1) := by decide +kernel
theorem dX11_ofScene_55 : decode cX11_ofScene 55 = .ok (.iload 4, 2) := by decide +kernel
theorem dX11_ofScene_57 : decode cX11_ofScene 57 = .ok (.iconst (-1), 1) := by decide +kernel
theorem dX11_ofScene_58 : decode cX11_ofScene 58 = .ok (.if_icmp .ne 5, 3) := by decide +kernel
theorem dX11_ofScene_61 : decode cX11_ofScene 61 = .ok (.iconst (-1), 1) := by decide +kernel
theorem dX11_ofScene_62 : decode cX11_ofScene 62 = .ok (.ireturn, 1) := by decide +kernel
