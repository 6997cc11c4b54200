theorem dX11_ofScene_63 : decode cX11_ofScene 63 = .ok (.aload_n 0, 1) := by decide +kernel
theorem dX11_ofScene_64 : decode cX11_ofScene 64 = .ok (.iload 4, 2) := by decide +kernel
theorem dX11_ofScene_66 : decode cX11_ofScene 66 = .ok (.invokevirtual 199, 3) := by decide +kernel
theorem dX11_ofScene_69 : decode cX11_ofScene 69 = .ok (.iload_n 2, 1) := by decide +kernel
theorem dX11_ofScene_70 : decode cX11_ofScene 70 = .ok (.iconst 1, 1) := by decide +kernel
theorem dX11_ofScene_71 : decode cX11_ofScene 71 = .ok (.if_icmp .ne 8, 3) := by decide +kernel
theorem dX11_ofScene_74 : decode cX11_ofScene 74 = .ok (.iload 4, 2) := by decide +kernel
theorem dX11_ofScene_76 : decode cX11_ofScene 76 = .ok (.goto 48, 3) := by decide +kernel
theorem dX11_ofScene_79 : decode cX11_ofScene 79 = .ok (.iload_n 2, 1) := by decide +kernel
theorem dX11_ofScene_80 : decode cX11_ofScene 80 = .ok (.iconst 2, 1) := by decide +kernel
theorem dX11_ofScene_81 : decode cX11_ofScene 81 = .ok (.if_icmp .ne 18, 3) := by decide +kernel
theorem dX11_ofScene_84 : decode cX11_ofScene 84 = .ok (.aload_n 0, 1) := by decide +kernel
theorem dX11_ofScene_85 : decode cX11_ofScene 85 = .ok (.getfield 101, 3) := by decide +kernel
theorem dX11_ofScene_88 : decode cX11_ofScene 88 = .ok (.aload_n 0, 1) := by decide +kernel
theorem dX11_ofScene_89 : decode cX11_ofScene 89 = .ok (.iload_n 1, 1) := by decide +kernel
theorem dX11_ofScene_90 : decode cX11_ofScene 90 = .ok (.iload 4, 2) := by decide +kernel
theorem dX11_ofScene_92 : decode cX11_ofScene 92 = .ok (.invokevirtual 181, 3) := by decide +kernel
theorem dX11_ofScene_95 : decode cX11_ofScene 95 = .ok (.iaload, 1) := by decide +kernel
theorem dX11_ofScene_96 : decode cX11_ofScene 96 = .ok (.goto 28, 3) := by decide +kernel
theorem dX11_ofScene_99 : decode cX11_ofScene 99 = .ok (.iload_n 2, 1) := by decide +kernel
theorem dX11_ofScene_100 : decode cX11_ofScene 100 = .ok (.iconst 3, 1) := by decide +kernel
theorem dX11_ofScene_101 : decode cX11_ofScene 101 = .ok (.if_icmp .ne 18, 3) := by decide +kernel
theorem dX11_ofScene_104 : decode cX11_ofScene 104 = .ok (.aload_n 0, 1) := by decide +kernel
theorem dX11_ofScene_105 : decode cX11_ofScene 105 = .ok (.getfield 104, 3) := by decide +kernel
theorem dX11_ofScene_108 : decode cX11_ofScene 108 = .ok (.aload_n 0, 1) := by decide +kernel
theorem dX11_ofScene_109 : decode cX11_ofScene 109 = .ok (.iload_n 1, 1) := by decide +kernel
theorem dX11_ofScene_110 : decode cX11_ofScene 110 = .ok (.iload 4, 2) := by decide +kernel
theorem dX11_ofScene_112 : decode cX11_ofScene 112 = .ok (.invokevirtual 181, 3) := by decide +kernel
theorem dX11_ofScene_115 : decode cX11_ofScene 115 = .ok (.iaload, 1) := by decide +kernel
theorem dX11_ofScene_116 : decode cX11_ofScene 116 = .ok (.goto 8, 3) := by decide +kernel
theorem dX11_ofScene_119 : decode cX11_ofScene 119 = .ok (.aload_n 0, 1) := by decide +kernel
theorem dX11_ofScene_120 : decode cX11_ofScene 120 = .ok (.iload_n 1, 1) := by decide +kernel
theorem dX11_ofScene_121 : decode cX11_ofScene 121 = .ok (.invokevirtual 202, 3) := by decide +kernel
theorem dX11_ofScene_124 : decode cX11_ofScene 124 = .ok (.ireturn, 1) := by decide +kernel
theorem dX11_call_0 : decode cX11_call 0 = .ok (.aload_n 0, 1) := by decide +kernel
theorem dX11_call_1 : decode cX11_call 1 = .ok (.aload_n 0, 1) := by decide +kernel
theorem dX11_call_2 : decode cX11_call 2 = .ok (.iload_n 1, 1) := by decide +kernel
theorem dX11_call_3 : decode cX11_call 3 = .ok (.invokevirtual 165, 3) := by decide +kernel
theorem dX11_call_6 : decode cX11_call 6 = .ok (.ifCond .eq 14, 3) := by decide +kernel
theorem dX11_call_9 : decode cX11_call 9 = .ok (.iload_n 2, 1) := by decide +kernel
theorem dX11_call_10 : decode cX11_call 10 = .ok (.invokestatic 168, 3) := by decide +kernel
theorem dX11_call_13 : decode cX11_call 13 = .ok (.ifCond .eq 7, 3) := by decide +kernel
theorem dX11_call_16 : decode cX11_call 16 = .ok (.iconst 0, 1) := by decide +kernel
theorem dX11_call_17 : decode cX11_call 17 = .ok (.goto 4, 3) := by decide +kernel
theorem dX11_call_20 : decode cX11_call 20 = .ok (.iconst 1, 1) := by decide +kernel
theorem dX11_call_21 : decode cX11_call 21 = .ok (.invokevirtual 138, 3) := by decide +kernel
theorem dX11_call_24 : decode cX11_call 24 = .ok (.ifCond .ne 5, 3) := by decide +kernel
theorem dX11_call_27 : decode cX11_call 27 = .ok (.iconst 0, 1) := by decide +kernel
theorem dX11_call_28 : decode cX11_call 28 = .ok (.ireturn, 1) := by decide +kernel
theorem dX11_call_29 : decode cX11_call 29 = .ok (.aload_n 0, 1) := by decide +kernel
theorem dX11_call_30 : decode cX11_call 30 = .ok (.iload_n 2, 1) := by decide +kernel
theorem dX11_call_31 : decode cX11_call 31 = .ok (.invokevirtual 199, 3) := by decide +kernel
theorem dX11_call_34 : decode cX11_call 34 = .ok (.aload_n 0, 1) := by decide +kernel
theorem dX11_call_35 : decode cX11_call 35 = .ok (.iload_n 1, 1) := by decide +kernel
theorem dX11_call_36 : decode cX11_call 36 = .ok (.iload_n 2, 1) := by decide +kernel
theorem dX11_call_37 : decode cX11_call 37 = .ok (.iload_n 3, 1) := by decide +kernel
theorem dX11_call_38 : decode cX11_call 38 = .ok (.invokevirtual 185, 3) := by decide +kernel
theorem dX11_call_41 : decode cX11_call 41 = .ok (.ireturn, 1) := by decide +kernel
theorem dX11_owed_0 : decode cX11_owed 0 = .ok (.iconst 0, 1) := by decide +kernel
theorem dX11_owed_1 : decode cX11_owed 1 = .ok (.istore_n 1, 1) := by decide +kernel
theorem dX11_owed_2 : decode cX11_owed 2 = .ok (.iconst 0, 1) := by decide +kernel
theorem dX11_owed_3 : decode cX11_owed 3 = .ok (.istore_n 2, 1) := by decide +kernel
theorem dX11_owed_4 : decode cX11_owed 4 = .ok (.iload_n 2, 1) := by decide +kernel
theorem dX11_owed_5 : decode cX11_owed 5 = .ok (.aload_n 0, 1) := by decide +kernel
theorem dX11_owed_6 : decode cX11_owed 6 = .ok (.getfield 114, 3) := by decide +kernel
theorem dX11_owed_9 : decode cX11_owed 9 = .ok (.if_icmp .ge 26, 3) := by decide +kernel
theorem dX11_owed_12 : decode cX11_owed 12 = .ok (.iload_n 1, 1) := by decide +kernel
theorem dX11_owed_13 : decode cX11_owed 13 = .ok (.aload_n 0, 1) := by decide +kernel
theorem dX11_owed_14 : decode cX11_owed 14 = .ok (.iload_n 2, 1) := by decide +kernel
theorem dX11_owed_15 : decode cX11_owed 15 = .ok (.invokevirtual 214, 3) := by decide +kernel
theorem dX11_owed_18 : decode cX11_owed 18 = .ok (.iconst 3, 1) := by decide +kernel
theorem dX11_owed_19 : decode cX11_owed 19 = .ok (.if_icmp .ne 7, 3) := by decide +kernel
theorem dX11_owed_22 : decode cX11_owed 22 = .ok (.iconst 1, 1) := by decide +kernel
theorem dX11_owed_23 : decode cX11_owed 23 = .ok (.goto 4, 3) := by decide +kernel
theorem dX11_owed_26 : decode cX11_owed 26 = .ok (.iconst 0, 1) := by decide +kernel
theorem dX11_owed_27 : decode cX11_owed 27 = .ok (.iadd, 1) := by decide +kernel
theorem dX11_owed_28 : decode cX11_owed 28 = .ok (.istore_n 1, 1) := by decide +kernel
theorem dX11_owed_29 : decode cX11_owed 29 = .ok (.iinc 2 1, 3) := by decide +kernel
theorem dX11_owed_32 : decode cX11_owed 32 = .ok (.goto (-28), 3) := by decide +kernel
theorem dX11_owed_35 : decode cX11_owed 35 = .ok (.iload_n 1, 1) := by decide +kernel
theorem dX11_owed_36 : decode cX11_owed 36 = .ok (.ireturn, 1) := by decide +kernel
theorem dX11_shoot_0 : decode cX11_shoot 0 = .ok (.aload_n 0, 1) := by decide +kernel
theorem dX11_shoot_1 : decode cX11_shoot 1 = .ok (.iload_n 1, 1) := by decide +kernel
theorem dX11_shoot_2 : decode cX11_shoot 2 = .ok (.invokevirtual 131, 3) := by decide +kernel
theorem dX11_shoot_5 : decode cX11_shoot 5 = .ok (.istore_n 3, 1) := by decide +kernel
theorem dX11_shoot_6 : decode cX11_shoot 6 = .ok (.iload_n 3, 1) := by decide +kernel
theorem dX11_shoot_7 : decode cX11_shoot 7 = .ok (.ifCond .eq 29, 3) := by decide +kernel
theorem dX11_shoot_10 : decode cX11_shoot 10 = .ok (.aload_n 0, 1) := by decide +kernel
theorem dX11_shoot_11 : decode cX11_shoot 11 = .ok (.getfield 56, 3) := by decide +kernel
theorem dX11_shoot_14 : decode cX11_shoot 14 = .ok (.iload_n 1, 1) := by decide +kernel
theorem dX11_shoot_15 : decode cX11_shoot 15 = .ok (.iaload, 1) := by decide +kernel
theorem dX11_shoot_16 : decode cX11_shoot 16 = .ok (.aload_n 0, 1) := by decide +kernel
theorem dX11_shoot_17 : decode cX11_shoot 17 = .ok (.getfield 192, 3) := by decide +kernel
theorem dX11_shoot_20 : decode cX11_shoot 20 = .ok (.if_icmp .ne 16, 3) := by decide +kernel
theorem dX11_shoot_23 : decode cX11_shoot 23 = .ok (.aload_n 0, 1) := by decide +kernel
theorem dX11_shoot_24 : decode cX11_shoot 24 = .ok (.getfield 47, 3) := by decide +kernel
theorem dX11_shoot_27 : decode cX11_shoot 27 = .ok (.iload_n 1, 1) := by decide +kernel
theorem dX11_shoot_28 : decode cX11_shoot 28 = .ok (.baload, 1) := by decide +kernel
theorem dX11_shoot_29 : decode cX11_shoot 29 = .ok (.ifCond .ne 7, 3) := by decide +kernel
theorem dX11_shoot_32 : decode cX11_shoot 32 = .ok (.iconst 1, 1) := by decide +kernel
theorem dX11_shoot_33 : decode cX11_shoot 33 = .ok (.goto 4, 3) := by decide +kernel
theorem dX11_shoot_36 : decode cX11_shoot 36 = .ok (.iconst 0, 1) := by decide +kernel
theorem dX11_shoot_37 : decode cX11_shoot 37 = .ok (.istore 4, 2) := by decide +kernel
theorem dX11_shoot_39 : decode cX11_shoot 39 = .ok (.aload_n 0, 1) := by decide +kernel
theorem dX11_shoot_40 : decode cX11_shoot 40 = .ok (.iload_n 3, 1) := by decide +kernel
theorem dX11_shoot_41 : decode cX11_shoot 41 = .ok (.ifCond .ne 7, 3) := by decide +kernel
theorem dX11_shoot_44 : decode cX11_shoot 44 = .ok (.iconst 1, 1) := by decide +kernel
theorem dX11_shoot_45 : decode cX11_shoot 45 = .ok (.goto 28, 3) := by decide +kernel
theorem dX11_shoot_48 : decode cX11_shoot 48 = .ok (.iload_n 2, 1) := by decide +kernel
theorem dX11_shoot_49 : decode cX11_shoot 49 = .ok (.iconst 1, 1) := by decide +kernel
theorem dX11_shoot_50 : decode cX11_shoot 50 = .ok (.sipush 1000, 3) := by decide +kernel
theorem dX11_shoot_53 : decode cX11_shoot 53 = .ok (.invokestatic 117, 3) := by decide +kernel
theorem dX11_shoot_56 : decode cX11_shoot 56 = .ok (.ifCond .ne 7, 3) := by decide +kernel
theorem dX11_shoot_59 : decode cX11_shoot 59 = .ok (.iconst 2, 1) := by decide +kernel
theorem dX11_shoot_60 : decode cX11_shoot 60 = .ok (.goto 13, 3) := by decide +kernel
theorem dX11_shoot_63 : decode cX11_shoot 63 = .ok (.iload 4, 2) := by decide +kernel
theorem dX11_shoot_65 : decode cX11_shoot 65 = .ok (.ifCond .eq 7, 3) := by decide +kernel
theorem dX11_shoot_68 : decode cX11_shoot 68 = .ok (.iconst 0, 1) := by decide +kernel
theorem dX11_shoot_69 : decode cX11_shoot 69 = .ok (.goto 4, 3) := by decide +kernel
theorem dX11_shoot_72 : decode cX11_shoot 72 = .ok (.iconst 3, 1) := by decide +kernel
theorem dX11_shoot_73 : decode cX11_shoot 73 = .ok (.invokevirtual 138, 3) := by decide +kernel
theorem dX11_shoot_76 : decode cX11_shoot 76 = .ok (.ifCond .ne 5, 3) := by decide +kernel
theorem dX11_shoot_79 : decode cX11_shoot 79 = .ok (.iconst 0, 1) := by decide +kernel
theorem dX11_shoot_80 : decode cX11_shoot 80 = .ok (.ireturn, 1) := by decide +kernel
theorem dX11_shoot_81 : decode cX11_shoot 81 = .ok (.aload_n 0, 1) := by decide +kernel
theorem dX11_shoot_82 : decode cX11_shoot 82 = .ok (.getfield 47, 3) := by decide +kernel
theorem dX11_shoot_85 : decode cX11_shoot 85 = .ok (.iload_n 1, 1) := by decide +kernel
theorem dX11_shoot_86 : decode cX11_shoot 86 = .ok (.iconst 1, 1) := by decide +kernel
theorem dX11_shoot_87 : decode cX11_shoot 87 = .ok (.bastore, 1) := by decide +kernel
theorem dX11_shoot_88 : decode cX11_shoot 88 = .ok (.aload_n 0, 1) := by decide +kernel
theorem dX11_shoot_89 : decode cX11_shoot 89 = .ok (.getfield 50, 3) := by decide +kernel
theorem dX11_shoot_92 : decode cX11_shoot 92 = .ok (.iload_n 1, 1) := by decide +kernel
theorem dX11_shoot_93 : decode cX11_shoot 93 = .ok (.iconst 0, 1) := by decide +kernel
theorem dX11_shoot_94 : decode cX11_shoot 94 = .ok (.bastore, 1) := by decide +kernel
theorem dX11_shoot_95 : decode cX11_shoot 95 = .ok (.aload_n 0, 1) := by decide +kernel
theorem dX11_shoot_96 : decode cX11_shoot 96 = .ok (.getfield 53, 3) := by decide +kernel
theorem dX11_shoot_99 : decode cX11_shoot 99 = .ok (.iload_n 1, 1) := by decide +kernel
theorem dX11_shoot_100 : decode cX11_shoot 100 = .ok (.iload_n 2, 1) := by decide +kernel
theorem dX11_shoot_101 : decode cX11_shoot 101 = .ok (.iastore, 1) := by decide +kernel
theorem dX11_shoot_102 : decode cX11_shoot 102 = .ok (.aload_n 0, 1) := by decide +kernel
theorem dX11_shoot_103 : decode cX11_shoot 103 = .ok (.dup, 1) := by decide +kernel
theorem dX11_shoot_104 : decode cX11_shoot 104 = .ok (.getfield 175, 3) := by decide +kernel
theorem dX11_shoot_107 : decode cX11_shoot 107 = .ok (.iload_n 2, 1) := by decide +kernel
theorem dX11_shoot_108 : decode cX11_shoot 108 = .ok (.iadd, 1) := by decide +kernel
theorem dX11_shoot_109 : decode cX11_shoot 109 = .ok (.putfield 175, 3) := by decide +kernel
theorem dX11_shoot_112 : decode cX11_shoot 112 = .ok (.aload_n 0, 1) := by decide +kernel
theorem dX11_shoot_113 : decode cX11_shoot 113 = .ok (.dup, 1) := by decide +kernel
theorem dX11_shoot_114 : decode cX11_shoot 114 = .ok (.getfield 172, 3) := by decide +kernel
theorem dX11_shoot_117 : decode cX11_shoot 117 = .ok (.aload_n 0, 1) := by decide +kernel
theorem dX11_shoot_118 : decode cX11_shoot 118 = .ok (.getfield 29, 3) := by decide +kernel
theorem dX11_shoot_121 : decode cX11_shoot 121 = .ok (.iload_n 1, 1) := by decide +kernel
theorem dX11_shoot_122 : decode cX11_shoot 122 = .ok (.iaload, 1) := by decide +kernel
theorem dX11_shoot_123 : decode cX11_shoot 123 = .ok (.iadd, 1) := by decide +kernel
theorem dX11_shoot_124 : decode cX11_shoot 124 = .ok (.putfield 172, 3) := by decide +kernel
theorem dX11_shoot_127 : decode cX11_shoot 127 = .ok (.aload_n 0, 1) := by decide +kernel
theorem dX11_shoot_128 : decode cX11_shoot 128 = .ok (.invokevirtual 178, 3) := by decide +kernel
theorem dX11_shoot_131 : decode cX11_shoot 131 = .ok (.ireturn, 1) := by decide +kernel
theorem dX11_lose_0 : decode cX11_lose 0 = .ok (.aload_n 0, 1) := by decide +kernel
theorem dX11_lose_1 : decode cX11_lose 1 = .ok (.iload_n 1, 1) := by decide +kernel
theorem dX11_lose_2 : decode cX11_lose 2 = .ok (.invokevirtual 131, 3) := by decide +kernel
theorem dX11_lose_5 : decode cX11_lose 5 = .ok (.istore_n 2, 1) := by decide +kernel
theorem dX11_lose_6 : decode cX11_lose 6 = .ok (.aload_n 0, 1) := by decide +kernel
theorem dX11_lose_7 : decode cX11_lose 7 = .ok (.iload_n 2, 1) := by decide +kernel
theorem dX11_lose_8 : decode cX11_lose 8 = .ok (.ifCond .ne 7, 3) := by decide +kernel
theorem dX11_lose_11 : decode cX11_lose 11 = .ok (.iconst 1, 1) := by decide +kernel
theorem dX11_lose_12 : decode cX11_lose 12 = .ok (.goto 17, 3) := by decide +kernel
theorem dX11_lose_15 : decode cX11_lose 15 = .ok (.aload_n 0, 1) := by decide +kernel
theorem dX11_lose_16 : decode cX11_lose 16 = .ok (.getfield 47, 3) := by decide +kernel
theorem dX11_lose_19 : decode cX11_lose 19 = .ok (.iload_n 1, 1) := by decide +kernel
theorem dX11_lose_20 : decode cX11_lose 20 = .ok (.baload, 1) := by decide +kernel
theorem dX11_lose_21 : decode cX11_lose 21 = .ok (.ifCond .eq 7, 3) := by decide +kernel
theorem dX11_lose_24 : decode cX11_lose 24 = .ok (.iconst 0, 1) := by decide +kernel
theorem dX11_lose_25 : decode cX11_lose 25 = .ok (.goto 4, 3) := by decide +kernel
theorem dX11_lose_28 : decode cX11_lose 28 = .ok (.iconst 2, 1) := by decide +kernel
theorem dX11_lose_29 : decode cX11_lose 29 = .ok (.invokevirtual 138, 3) := by decide +kernel
theorem dX11_lose_32 : decode cX11_lose 32 = .ok (.ifCond .ne 5, 3) := by decide +kernel
theorem dX11_lose_35 : decode cX11_lose 35 = .ok (.iconst 0, 1) := by decide +kernel
theorem dX11_lose_36 : decode cX11_lose 36 = .ok (.ireturn, 1) := by decide +kernel
theorem dX11_lose_37 : decode cX11_lose 37 = .ok (.aload_n 0, 1) := by decide +kernel
theorem dX11_lose_38 : decode cX11_lose 38 = .ok (.getfield 47, 3) := by decide +kernel
theorem dX11_lose_41 : decode cX11_lose 41 = .ok (.iload_n 1, 1) := by decide +kernel
theorem dX11_lose_42 : decode cX11_lose 42 = .ok (.iconst 0, 1) := by decide +kernel
theorem dX11_lose_43 : decode cX11_lose 43 = .ok (.bastore, 1) := by decide +kernel
theorem dX11_lose_44 : decode cX11_lose 44 = .ok (.aload_n 0, 1) := by decide +kernel
theorem dX11_lose_45 : decode cX11_lose 45 = .ok (.getfield 50, 3) := by decide +kernel
theorem dX11_lose_48 : decode cX11_lose 48 = .ok (.iload_n 1, 1) := by decide +kernel
theorem dX11_lose_49 : decode cX11_lose 49 = .ok (.iconst 1, 1) := by decide +kernel
theorem dX11_lose_50 : decode cX11_lose 50 = .ok (.bastore, 1) := by decide +kernel
theorem dX11_lose_51 : decode cX11_lose 51 = .ok (.aload_n 0, 1) := by decide +kernel
theorem dX11_lose_52 : decode cX11_lose 52 = .ok (.iload_n 1, 1) := by decide +kernel
theorem dX11_lose_53 : decode cX11_lose 53 = .ok (.invokevirtual 148, 3) := by decide +kernel
theorem dX11_lose_56 : decode cX11_lose 56 = .ok (.aload_n 0, 1) := by decide +kernel
theorem dX11_lose_57 : decode cX11_lose 57 = .ok (.invokevirtual 217, 3) := by decide +kernel
theorem dX11_lose_60 : decode cX11_lose 60 = .ok (.ireturn, 1) := by decide +kernel
theorem dX11_next_0 : decode cX11_next 0 = .ok (.aload_n 0, 1) := by decide +kernel
theorem dX11_next_1 : decode cX11_next 1 = .ok (.aload_n 0, 1) := by decide +kernel
theorem dX11_next_2 : decode cX11_next 2 = .ok (.getfield 192, 3) := by decide +kernel
theorem dX11_next_5 : decode cX11_next 5 = .ok (.bipush 29, 2) := by decide +kernel
theorem dX11_next_7 : decode cX11_next 7 = .ok (.if_icmp .ne 7, 3) := by decide +kernel
theorem dX11_next_10 : decode cX11_next 10 = .ok (.iconst 1, 1) := by decide +kernel
theorem dX11_next_11 : decode cX11_next 11 = .ok (.goto 4, 3) := by decide +kernel
theorem dX11_next_14 : decode cX11_next 14 = .ok (.iconst 0, 1) := by decide +kernel
theorem dX11_next_15 : decode cX11_next 15 = .ok (.invokevirtual 138, 3) := by decide +kernel
theorem dX11_next_18 : decode cX11_next 18 = .ok (.ifCond .ne 5, 3) := by decide +kernel
theorem dX11_next_21 : decode cX11_next 21 = .ok (.iconst 0, 1) := by decide +kernel
theorem dX11_next_22 : decode cX11_next 22 = .ok (.ireturn, 1) := by decide +kernel
theorem dX11_next_23 : decode cX11_next 23 = .ok (.aload_n 0, 1) := by decide +kernel
theorem dX11_next_24 : decode cX11_next 24 = .ok (.getfield 95, 3) := by decide +kernel
theorem dX11_next_27 : decode cX11_next 27 = .ok (.aload_n 0, 1) := by decide +kernel
theorem dX11_next_28 : decode cX11_next 28 = .ok (.getfield 192, 3) := by decide +kernel
theorem dX11_next_31 : decode cX11_next 31 = .ok (.iaload, 1) := by decide +kernel
theorem dX11_next_32 : decode cX11_next 32 = .ok (.iconst 1, 1) := by decide +kernel
theorem dX11_next_33 : decode cX11_next 33 = .ok (.isub, 1) := by decide +kernel
theorem dX11_next_34 : decode cX11_next 34 = .ok (.istore_n 1, 1) := by decide +kernel
theorem dX11_next_35 : decode cX11_next 35 = .ok (.iload_n 1, 1) := by decide +kernel
theorem dX11_next_36 : decode cX11_next 36 = .ok (.ifCond .lt 45, 3) := by decide +kernel
theorem dX11_next_39 : decode cX11_next 39 = .ok (.aload_n 0, 1) := by decide +kernel
theorem dX11_next_40 : decode cX11_next 40 = .ok (.getfield 92, 3) := by decide +kernel
theorem dX11_next_43 : decode cX11_next 43 = .ok (.bipush 8, 2) := by decide +kernel
theorem dX11_next_45 : decode cX11_next 45 = .ok (.aload_n 0, 1) := by decide +kernel
theorem dX11_next_46 : decode cX11_next 46 = .ok (.getfield 192, 3) := by decide +kernel
theorem dX11_next_49 : decode cX11_next 49 = .ok (.imul, 1) := by decide +kernel
theorem dX11_next_50 : decode cX11_next 50 = .ok (.iload_n 1, 1) := by decide +kernel
theorem dX11_next_51 : decode cX11_next 51 = .ok (.iadd, 1) := by decide +kernel
theorem dX11_next_52 : decode cX11_next 52 = .ok (.iaload, 1) := by decide +kernel
theorem dX11_next_53 : decode cX11_next 53 = .ok (.istore_n 2, 1) := by decide +kernel
theorem dX11_next_54 : decode cX11_next 54 = .ok (.aload_n 0, 1) := by decide +kernel
theorem dX11_next_55 : decode cX11_next 55 = .ok (.getfield 47, 3) := by decide +kernel
theorem dX11_next_58 : decode cX11_next 58 = .ok (.iload_n 2, 1) := by decide +kernel
theorem dX11_next_59 : decode cX11_next 59 = .ok (.baload, 1) := by decide +kernel
theorem dX11_next_60 : decode cX11_next 60 = .ok (.ifCond .ne 15, 3) := by decide +kernel
theorem dX11_next_63 : decode cX11_next 63 = .ok (.aload_n 0, 1) := by decide +kernel
theorem dX11_next_64 : decode cX11_next 64 = .ok (.getfield 50, 3) := by decide +kernel
theorem dX11_next_67 : decode cX11_next 67 = .ok (.iload_n 2, 1) := by decide +kernel
theorem dX11_next_68 : decode cX11_next 68 = .ok (.iconst 1, 1) := by decide +kernel
theorem dX11_next_69 : decode cX11_next 69 = .ok (.bastore, 1) := by decide +kernel
theorem dX11_next_70 : decode cX11_next 70 = .ok (.aload_n 0, 1) := by decide +kernel
theorem dX11_next_71 : decode cX11_next 71 = .ok (.iload_n 2, 1) := by decide +kernel
theorem dX11_next_72 : decode cX11_next 72 = .ok (.invokevirtual 148, 3) := by decide +kernel
theorem dX11_next_75 : decode cX11_next 75 = .ok (.iinc 1 (-1), 3) := by decide +kernel
theorem dX11_next_78 : decode cX11_next 78 = .ok (.goto (-43), 3) := by decide +kernel
theorem dX11_next_81 : decode cX11_next 81 = .ok (.aload_n 0, 1) := by decide +kernel
theorem dX11_next_82 : decode cX11_next 82 = .ok (.dup, 1) := by decide +kernel
theorem dX11_next_83 : decode cX11_next 83 = .ok (.getfield 192, 3) := by decide +kernel
theorem dX11_next_86 : decode cX11_next 86 = .ok (.iconst 1, 1) := by decide +kernel
theorem dX11_next_87 : decode cX11_next 87 = .ok (.iadd, 1) := by decide +kernel
theorem dX11_next_88 : decode cX11_next 88 = .ok (.putfield 192, 3) := by decide +kernel
theorem dX11_next_91 : decode cX11_next 91 = .ok (.aload_n 0, 1) := by decide +kernel
theorem dX11_next_92 : decode cX11_next 92 = .ok (.invokevirtual 217, 3) := by decide +kernel
theorem dX11_next_95 : decode cX11_next 95 = .ok (.ireturn, 1) := by decide +kernel
theorem dX11_works_0 : decode cX11_works 0 = .ok (.iconst 0, 1) := by decide +kernel
theorem dX11_works_1 : decode cX11_works 1 = .ok (.istore_n 3, 1) := by decide +kernel
theorem dX11_works_2 : decode cX11_works 2 = .ok (.iconst 0, 1) := by decide +kernel
theorem dX11_works_3 : decode cX11_works 3 = .ok (.istore 4, 2) := by decide +kernel
theorem dX11_works_5 : decode cX11_works 5 = .ok (.iload 4, 2) := by decide +kernel
theorem dX11_works_7 : decode cX11_works 7 = .ok (.aload_n 0, 1) := by decide +kernel
theorem dX11_works_8 : decode cX11_works 8 = .ok (.getfield 95, 3) := by decide +kernel
theorem dX11_works_11 : decode cX11_works 11 = .ok (.iload_n 2, 1) := by decide +kernel
theorem dX11_works_12 : decode cX11_works 12 = .ok (.iaload, 1) := by decide +kernel
theorem dX11_works_13 : decode cX11_works 13 = .ok (.if_icmp .ge 43, 3) := by decide +kernel
theorem dX11_works_16 : decode cX11_works 16 = .ok (.iload_n 3, 1) := by decide +kernel
theorem dX11_works_17 : decode cX11_works 17 = .ok (.ifCond .ne 27, 3) := by decide +kernel
theorem dX11_works_20 : decode cX11_works 20 = .ok (.aload_n 0, 1) := by decide +kernel
theorem dX11_works_21 : decode cX11_works 21 = .ok (.getfield 32, 3) := by decide +kernel
theorem dX11_works_24 : decode cX11_works 24 = .ok (.aload_n 0, 1) := by decide +kernel
theorem dX11_works_25 : decode cX11_works 25 = .ok (.getfield 92, 3) := by decide +kernel
theorem dX11_works_28 : decode cX11_works 28 = .ok (.bipush 8, 2) := by decide +kernel
theorem dX11_works_30 : decode cX11_works 30 = .ok (.iload_n 2, 1) := by decide +kernel
theorem dX11_works_31 : decode cX11_works 31 = .ok (.imul, 1) := by decide +kernel
theorem dX11_works_32 : decode cX11_works 32 = .ok (.iload 4, 2) := by decide +kernel
theorem dX11_works_34 : decode cX11_works 34 = .ok (.iadd, 1) := by decide +kernel
theorem dX11_works_35 : decode cX11_works 35 = .ok (.iaload, 1) := by decide +kernel
theorem dX11_works_36 : decode cX11_works 36 = .ok (.iaload, 1) := by decide +kernel
theorem dX11_works_37 : decode cX11_works 37 = .ok (.iload_n 1, 1) := by decide +kernel
theorem dX11_works_38 : decode cX11_works 38 = .ok (.invokestatic 158, 3) := by decide +kernel
theorem dX11_works_41 : decode cX11_works 41 = .ok (.ifCond .eq 7, 3) := by decide +kernel
theorem dX11_works_44 : decode cX11_works 44 = .ok (.iconst 1, 1) := by decide +kernel
theorem dX11_works_45 : decode cX11_works 45 = .ok (.goto 4, 3) := by decide +kernel
theorem dX11_works_48 : decode cX11_works 48 = .ok (.iconst 0, 1) := by decide +kernel
theorem dX11_works_49 : decode cX11_works 49 = .ok (.istore_n 3, 1) := by decide +kernel
theorem dX11_works_50 : decode cX11_works 50 = .ok (.iinc 4 1, 3) := by decide +kernel
theorem dX11_works_53 : decode cX11_works 53 = .ok (.goto (-48), 3) := by decide +kernel
theorem dX11_works_56 : decode cX11_works 56 = .ok (.iload_n 3, 1) := by decide +kernel
theorem dX11_works_57 : decode cX11_works 57 = .ok (.ireturn, 1) := by decide +kernel
theorem dX11_days_0 : decode cX11_days 0 = .ok (.iconst 0, 1) := by decide +kernel
theorem dX11_days_1 : decode cX11_days 1 = .ok (.istore_n 2, 1) := by decide +kernel
theorem dX11_days_2 : decode cX11_days 2 = .ok (.iconst 0, 1) := by decide +kernel
theorem dX11_days_3 : decode cX11_days 3 = .ok (.istore_n 3, 1) := by decide +kernel
theorem dX11_days_4 : decode cX11_days 4 = .ok (.iload_n 3, 1) := by decide +kernel
theorem dX11_days_5 : decode cX11_days 5 = .ok (.bipush 30, 2) := by decide +kernel
theorem dX11_days_7 : decode cX11_days 7 = .ok (.if_icmp .ge 28, 3) := by decide +kernel
theorem dX11_days_10 : decode cX11_days 10 = .ok (.iload_n 2, 1) := by decide +kernel
theorem dX11_days_11 : decode cX11_days 11 = .ok (.aload_n 0, 1) := by decide +kernel
theorem dX11_days_12 : decode cX11_days 12 = .ok (.iload_n 1, 1) := by decide +kernel
theorem dX11_days_13 : decode cX11_days 13 = .ok (.iload_n 3, 1) := by decide +kernel
theorem dX11_days_14 : decode cX11_days 14 = .ok (.invokevirtual 220, 3) := by decide +kernel
theorem dX11_days_17 : decode cX11_days 17 = .ok (.ifCond .eq 9, 3) := by decide +kernel
theorem dX11_days_20 : decode cX11_days 20 = .ok (.iconst 1, 1) := by decide +kernel
theorem dX11_days_21 : decode cX11_days 21 = .ok (.iload_n 3, 1) := by decide +kernel
theorem dX11_days_22 : decode cX11_days 22 = .ok (.ishl, 1) := by decide +kernel
theorem dX11_days_23 : decode cX11_days 23 = .ok (.goto 4, 3) := by decide +kernel
theorem dX11_days_26 : decode cX11_days 26 = .ok (.iconst 0, 1) := by decide +kernel
theorem dX11_days_27 : decode cX11_days 27 = .ok (.ior, 1) := by decide +kernel
theorem dX11_days_28 : decode cX11_days 28 = .ok (.istore_n 2, 1) := by decide +kernel
theorem dX11_days_29 : decode cX11_days 29 = .ok (.iinc 3 1, 3) := by decide +kernel
theorem dX11_days_32 : decode cX11_days 32 = .ok (.goto (-28), 3) := by decide +kernel
theorem dX11_days_35 : decode cX11_days 35 = .ok (.iload_n 2, 1) := by decide +kernel
theorem dX11_days_36 : decode cX11_days 36 = .ok (.ireturn, 1) := by decide +kernel
theorem dX11_weeks_0 : decode cX11_weeks 0 = .ok (.iconst 0, 1) := by decide +kernel
theorem dX11_weeks_1 : decode cX11_weeks 1 = .ok (.istore_n 1, 1) := by decide +kernel
theorem dX11_weeks_2 : decode cX11_weeks 2 = .ok (.iconst 0, 1) := by decide +kernel
theorem dX11_weeks_3 : decode cX11_weeks 3 = .ok (.istore_n 2, 1) := by decide +kernel
theorem dX11_weeks_4 : decode cX11_weeks 4 = .ok (.iload_n 2, 1) := by decide +kernel
theorem dX11_weeks_5 : decode cX11_weeks 5 = .ok (.bipush 30, 2) := by decide +kernel
theorem dX11_weeks_7 : decode cX11_weeks 7 = .ok (.if_icmp .ge 26, 3) := by decide +kernel
theorem dX11_weeks_10 : decode cX11_weeks 10 = .ok (.iload_n 1, 1) := by decide +kernel
theorem dX11_weeks_11 : decode cX11_weeks 11 = .ok (.iload_n 0, 1) := by decide +kernel
theorem dX11_weeks_12 : decode cX11_weeks 12 = .ok (.iload_n 2, 1) := by decide +kernel
theorem dX11_weeks_13 : decode cX11_weeks 13 = .ok (.ishr, 1) := by decide +kernel
theorem dX11_weeks_14 : decode cX11_weeks 14 = .ok (.bipush 127, 2) := by decide +kernel
theorem dX11_weeks_16 : decode cX11_weeks 16 = .ok (.iand, 1) := by decide +kernel
theorem dX11_weeks_17 : decode cX11_weeks 17 = .ok (.ifCond .eq 7, 3) := by decide +kernel
theorem dX11_weeks_20 : decode cX11_weeks 20 = .ok (.iconst 1, 1) := by decide +kernel
theorem dX11_weeks_21 : decode cX11_weeks 21 = .ok (.goto 4, 3) := by decide +kernel
theorem dX11_weeks_24 : decode cX11_weeks 24 = .ok (.iconst 0, 1) := by decide +kernel
theorem dX11_weeks_25 : decode cX11_weeks 25 = .ok (.iadd, 1) := by decide +kernel
theorem dX11_weeks_26 : decode cX11_weeks 26 = .ok (.istore_n 1, 1) := by decide +kernel
theorem dX11_weeks_27 : decode cX11_weeks 27 = .ok (.iinc 2 7, 3) := by decide +kernel
theorem dX11_weeks_30 : decode cX11_weeks 30 = .ok (.goto (-26), 3) := by decide +kernel
theorem dX11_weeks_33 : decode cX11_weeks 33 = .ok (.iload_n 1, 1) := by decide +kernel
theorem dX11_weeks_34 : decode cX11_weeks 34 = .ok (.ireturn, 1) := by decide +kernel
theorem dX11_run_0 : decode cX11_run 0 = .ok (.iconst 0, 1) := by decide +kernel
theorem dX11_run_1 : decode cX11_run 1 = .ok (.istore_n 1, 1) := by decide +kernel
theorem dX11_run_2 : decode cX11_run 2 = .ok (.iconst (-1), 1) := by decide +kernel
theorem dX11_run_3 : decode cX11_run 3 = .ok (.istore_n 2, 1) := by decide +kernel
theorem dX11_run_4 : decode cX11_run 4 = .ok (.iconst 0, 1) := by decide +kernel
theorem dX11_run_5 : decode cX11_run 5 = .ok (.istore_n 3, 1) := by decide +kernel
theorem dX11_run_6 : decode cX11_run 6 = .ok (.iload_n 3, 1) := by decide +kernel
theorem dX11_run_7 : decode cX11_run 7 = .ok (.bipush 30, 2) := by decide +kernel
theorem dX11_run_9 : decode cX11_run 9 = .ok (.if_icmp .ge 42, 3) := by decide +kernel
theorem dX11_run_12 : decode cX11_run 12 = .ok (.iload_n 0, 1) := by decide +kernel
theorem dX11_run_13 : decode cX11_run 13 = .ok (.iload_n 3, 1) := by decide +kernel
theorem dX11_run_14 : decode cX11_run 14 = .ok (.invokestatic 158, 3) := by decide +kernel
theorem dX11_run_17 : decode cX11_run 17 = .ok (.ifCond .eq 28, 3) := by decide +kernel
theorem dX11_run_20 : decode cX11_run 20 = .ok (.iload_n 1, 1) := by decide +kernel
theorem dX11_run_21 : decode cX11_run 21 = .ok (.iload_n 2, 1) := by decide +kernel
theorem dX11_run_22 : decode cX11_run 22 = .ok (.iconst (-1), 1) := by decide +kernel
theorem dX11_run_23 : decode cX11_run 23 = .ok (.if_icmp .eq 11, 3) := by decide +kernel
theorem dX11_run_26 : decode cX11_run 26 = .ok (.iload_n 3, 1) := by decide +kernel
theorem dX11_run_27 : decode cX11_run 27 = .ok (.iload_n 2, 1) := by decide +kernel
theorem dX11_run_28 : decode cX11_run 28 = .ok (.isub, 1) := by decide +kernel
theorem dX11_run_29 : decode cX11_run 29 = .ok (.bipush 10, 2) := by decide +kernel
theorem dX11_run_31 : decode cX11_run 31 = .ok (.if_icmp .le 7, 3) := by decide +kernel
theorem dX11_run_34 : decode cX11_run 34 = .ok (.iconst 1, 1) := by decide +kernel
theorem dX11_run_35 : decode cX11_run 35 = .ok (.goto 6, 3) := by decide +kernel
theorem dX11_run_38 : decode cX11_run 38 = .ok (.iload_n 3, 1) := by decide +kernel
theorem dX11_run_39 : decode cX11_run 39 = .ok (.iload_n 2, 1) := by decide +kernel
theorem dX11_run_40 : decode cX11_run 40 = .ok (.isub, 1) := by decide +kernel
theorem dX11_run_41 : decode cX11_run 41 = .ok (.iadd, 1) := by decide +kernel
theorem dX11_run_42 : decode cX11_run 42 = .ok (.istore_n 1, 1) := by decide +kernel
theorem dX11_run_43 : decode cX11_run 43 = .ok (.iload_n 3, 1) := by decide +kernel
theorem dX11_run_44 : decode cX11_run 44 = .ok (.istore_n 2, 1) := by decide +kernel
theorem dX11_run_45 : decode cX11_run 45 = .ok (.iinc 3 1, 3) := by decide +kernel
theorem dX11_run_48 : decode cX11_run 48 = .ok (.goto (-42), 3) := by decide +kernel
theorem dX11_run_51 : decode cX11_run 51 = .ok (.iload_n 1, 1) := by decide +kernel
theorem dX11_run_52 : decode cX11_run 52 = .ok (.ireturn, 1) := by decide +kernel
theorem dX11_hours_0 : decode cX11_hours 0 = .ok (.iload_n 0, 1) := by decide +kernel
theorem dX11_hours_1 : decode cX11_hours 1 = .ok (.ifCond .le 13, 3) := by decide +kernel
theorem dX11_hours_4 : decode cX11_hours 4 = .ok (.iload_n 0, 1) := by decide +kernel
theorem dX11_hours_5 : decode cX11_hours 5 = .ok (.bipush 59, 2) := by decide +kernel
theorem dX11_hours_7 : decode cX11_hours 7 = .ok (.iadd, 1) := by decide +kernel
theorem dX11_hours_8 : decode cX11_hours 8 = .ok (.bipush 60, 2) := by decide +kernel
theorem dX11_hours_10 : decode cX11_hours 10 = .ok (.idiv, 1) := by decide +kernel
theorem dX11_hours_11 : decode cX11_hours 11 = .ok (.goto 4, 3) := by decide +kernel
theorem dX11_hours_14 : decode cX11_hours 14 = .ok (.iconst 0, 1) := by decide +kernel
theorem dX11_hours_15 : decode cX11_hours 15 = .ok (.ireturn, 1) := by decide +kernel
theorem dX11_besides_0 : decode cX11_besides 0 = .ok (.iconst 0, 1) := by decide +kernel
theorem dX11_besides_1 : decode cX11_besides 1 = .ok (.istore_n 3, 1) := by decide +kernel
theorem dX11_besides_2 : decode cX11_besides 2 = .ok (.sipush (-10000), 3) := by decide +kernel
theorem dX11_besides_5 : decode cX11_besides 5 = .ok (.istore 4, 2) := by decide +kernel
theorem dX11_besides_7 : decode cX11_besides 7 = .ok (.iconst 0, 1) := by decide +kernel
theorem dX11_besides_8 : decode cX11_besides 8 = .ok (.istore 5, 2) := by decide +kernel
theorem dX11_besides_10 : decode cX11_besides 10 = .ok (.iload 5, 2) := by decide +kernel
theorem dX11_besides_12 : decode cX11_besides 12 = .ok (.bipush 30, 2) := by decide +kernel
theorem dX11_besides_14 : decode cX11_besides 14 = .ok (.if_icmp .ge 164, 3) := by decide +kernel
theorem dX11_besides_17 : decode cX11_besides 17 = .ok (.iload_n 2, 1) := by decide +kernel
theorem dX11_besides_18 : decode cX11_besides 18 = .ok (.iload 5, 2) := by decide +kernel
theorem dX11_besides_20 : decode cX11_besides 20 = .ok (.invokestatic 158, 3) := by decide +kernel
theorem dX11_besides_23 : decode cX11_besides 23 = .ok (.ifCond .eq 149, 3) := by decide +kernel
theorem dX11_besides_26 : decode cX11_besides 26 = .ok (.aload_n 0, 1) := by decide +kernel
theorem dX11_besides_27 : decode cX11_besides 27 = .ok (.iload 5, 2) := by decide +kernel
theorem dX11_besides_29 : decode cX11_besides 29 = .ok (.invokevirtual 199, 3) := by decide +kernel
theorem dX11_besides_32 : decode cX11_besides 32 = .ok (.aload_n 0, 1) := by decide +kernel
theorem dX11_besides_33 : decode cX11_besides 33 = .ok (.iload_n 1, 1) := by decide +kernel
theorem dX11_besides_34 : decode cX11_besides 34 = .ok (.iload 5, 2) := by decide +kernel
theorem dX11_besides_36 : decode cX11_besides 36 = .ok (.iconst 0, 1) := by decide +kernel
theorem dX11_besides_37 : decode cX11_besides 37 = .ok (.invokevirtual 185, 3) := by decide +kernel
theorem dX11_besides_40 : decode cX11_besides 40 = .ok (.istore 6, 2) := by decide +kernel
theorem dX11_besides_42 : decode cX11_besides 42 = .ok (.aload_n 0, 1) := by decide +kernel
theorem dX11_besides_43 : decode cX11_besides 43 = .ok (.iload_n 1, 1) := by decide +kernel
theorem dX11_besides_44 : decode cX11_besides 44 = .ok (.iload 5, 2) := by decide +kernel
theorem dX11_besides_46 : decode cX11_besides 46 = .ok (.iconst 1, 1) := by decide +kernel
theorem dX11_besides_47 : decode cX11_besides 47 = .ok (.invokevirtual 185, 3) := by decide +kernel
theorem dX11_besides_50 : decode cX11_besides 50 = .ok (.istore 7, 2) := by decide +kernel
theorem dX11_besides_52 : decode cX11_besides 52 = .ok (.iload_n 3, 1) := by decide +kernel
theorem dX11_besides_53 : decode cX11_besides 53 = .ok (.iload 7, 2) := by decide +kernel
theorem dX11_besides_55 : decode cX11_besides 55 = .ok (.iload 6, 2) := by decide +kernel
theorem dX11_besides_57 : decode cX11_besides 57 = .ok (.isub, 1) := by decide +kernel
theorem dX11_besides_58 : decode cX11_besides 58 = .ok (.sipush 600, 3) := by decide +kernel
theorem dX11_besides_61 : decode cX11_besides 61 = .ok (.isub, 1) := by decide +kernel
theorem dX11_besides_62 : decode cX11_besides 62 = .ok (.invokestatic 223, 3) := by decide +kernel
theorem dX11_besides_65 : decode cX11_besides 65 = .ok (.iload 7, 2) := by decide +kernel
theorem dX11_besides_67 : decode cX11_besides 67 = .ok (.sipush 1320, 3) := by decide +kernel
theorem dX11_besides_70 : decode cX11_besides 70 = .ok (.isub, 1) := by decide +kernel
theorem dX11_besides_71 : decode cX11_besides 71 = .ok (.invokestatic 223, 3) := by decide +kernel
theorem dX11_besides_74 : decode cX11_besides 74 = .ok (.iadd, 1) := by decide +kernel
theorem dX11_besides_75 : decode cX11_besides 75 = .ok (.aload_n 0, 1) := by decide +kernel
theorem dX11_besides_76 : decode cX11_besides 76 = .ok (.getfield 62, 3) := by decide +kernel
theorem dX11_besides_79 : decode cX11_besides 79 = .ok (.iload_n 1, 1) := by decide +kernel
theorem dX11_besides_80 : decode cX11_besides 80 = .ok (.iaload, 1) := by decide +kernel
theorem dX11_besides_81 : decode cX11_besides 81 = .ok (.bipush 10, 2) := by decide +kernel
theorem dX11_besides_83 : decode cX11_besides 83 = .ok (.idiv, 1) := by decide +kernel
theorem dX11_besides_84 : decode cX11_besides 84 = .ok (.imul, 1) := by decide +kernel
theorem dX11_besides_85 : decode cX11_besides 85 = .ok (.iadd, 1) := by decide +kernel
theorem dX11_besides_86 : decode cX11_besides 86 = .ok (.istore_n 3, 1) := by decide +kernel
theorem dX11_besides_87 : decode cX11_besides 87 = .ok (.iload_n 3, 1) := by decide +kernel
theorem dX11_besides_88 : decode cX11_besides 88 = .ok (.iload 5, 2) := by decide +kernel
theorem dX11_besides_90 : decode cX11_besides 90 = .ok (.ifCond .le 40, 3) := by decide +kernel
theorem dX11_besides_93 : decode cX11_besides 93 = .ok (.iload_n 2, 1) := by decide +kernel
theorem dX11_besides_94 : decode cX11_besides 94 = .ok (.iload 5, 2) := by decide +kernel
theorem dX11_besides_96 : decode cX11_besides 96 = .ok (.iconst 1, 1) := by decide +kernel
theorem dX11_besides_97 : decode cX11_besides 97 = .ok (.isub, 1) := by decide +kernel
theorem dX11_besides_98 : decode cX11_besides 98 = .ok (.invokestatic 158, 3) := by decide +kernel
theorem dX11_besides_101 : decode cX11_besides 101 = .ok (.ifCond .eq 29, 3) := by decide +kernel
theorem dX11_besides_104 : decode cX11_besides 104 = .ok (.iload 6, 2) := by decide +kernel
theorem dX11_besides_106 : decode cX11_besides 106 = .ok (.sipush 1440, 3) := by decide +kernel
theorem dX11_besides_109 : decode cX11_besides 109 = .ok (.iadd, 1) := by decide +kernel
theorem dX11_besides_110 : decode cX11_besides 110 = .ok (.iload 4, 2) := by decide +kernel
theorem dX11_besides_112 : decode cX11_besides 112 = .ok (.isub, 1) := by decide +kernel
theorem dX11_besides_113 : decode cX11_besides 113 = .ok (.sipush 660, 3) := by decide +kernel
theorem dX11_besides_116 : decode cX11_besides 116 = .ok (.if_icmp .ge 14, 3) := by decide +kernel
theorem dX11_besides_119 : decode cX11_besides 119 = .ok (.aload_n 0, 1) := by decide +kernel
theorem dX11_besides_120 : decode cX11_besides 120 = .ok (.getfield 62, 3) := by decide +kernel
theorem dX11_besides_123 : decode cX11_besides 123 = .ok (.iload_n 1, 1) := by decide +kernel
theorem dX11_besides_124 : decode cX11_besides 124 = .ok (.iaload, 1) := by decide +kernel
theorem dX11_besides_125 : decode cX11_besides 125 = .ok (.iconst 4, 1) := by decide +kernel
theorem dX11_besides_126 : decode cX11_besides 126 = .ok (.idiv, 1) := by decide +kernel
theorem dX11_besides_127 : decode cX11_besides 127 = .ok (.goto 4, 3) := by decide +kernel
theorem dX11_besides_130 : decode cX11_besides 130 = .ok (.iconst 0, 1) := by decide +kernel
theorem dX11_besides_131 : decode cX11_besides 131 = .ok (.iadd, 1) := by decide +kernel
theorem dX11_besides_132 : decode cX11_besides 132 = .ok (.istore_n 3, 1) := by decide +kernel
theorem dX11_besides_133 : decode cX11_besides 133 = .ok (.iload_n 3, 1) := by decide +kernel
theorem dX11_besides_134 : decode cX11_besides 134 = .ok (.iload 5, 2) := by decide +kernel
theorem dX11_besides_136 : decode cX11_besides 136 = .ok (.iconst 4, 1) := by decide +kernel
theorem dX11_besides_137 : decode cX11_besides 137 = .ok (.if_icmp .le 28, 3) := by decide +kernel
theorem dX11_besides_140 : decode cX11_besides 140 = .ok (.iload_n 2, 1) := by decide +kernel
theorem dX11_besides_141 : decode cX11_besides 141 = .ok (.iload 5, 2) := by decide +kernel
theorem dX11_besides_143 : decode cX11_besides 143 = .ok (.iconst 5, 1) := by decide +kernel
theorem dX11_besides_144 : decode cX11_besides 144 = .ok (.isub, 1) := by decide +kernel
theorem dX11_besides_145 : decode cX11_besides 145 = .ok (.ishr, 1) := by decide +kernel
theorem dX11_besides_146 : decode cX11_besides 146 = .ok (.bipush 31, 2) := by decide +kernel
theorem dX11_besides_148 : decode cX11_besides 148 = .ok (.iand, 1) := by decide +kernel
theorem dX11_besides_149 : decode cX11_besides 149 = .ok (.bipush 31, 2) := by decide +kernel
theorem dX11_besides_151 : decode cX11_besides 151 = .ok (.if_icmp .ne 14, 3) := by decide +kernel
theorem dX11_besides_154 : decode cX11_besides 154 = .ok (.aload_n 0, 1) := by decide +kernel
theorem dX11_besides_155 : decode cX11_besides 155 = .ok (.getfield 62, 3) := by decide +kernel
theorem dX11_besides_158 : decode cX11_besides 158 = .ok (.iload_n 1, 1) := by decide +kernel
theorem dX11_besides_159 : decode cX11_besides 159 = .ok (.iaload, 1) := by decide +kernel
theorem dX11_besides_160 : decode cX11_besides 160 = .ok (.iconst 2, 1) := by decide +kernel
theorem dX11_besides_161 : decode cX11_besides 161 = .ok (.idiv, 1) := by decide +kernel
theorem dX11_besides_162 : decode cX11_besides 162 = .ok (.goto 4, 3) := by decide +kernel
theorem dX11_besides_165 : decode cX11_besides 165 = .ok (.iconst 0, 1) := by decide +kernel
theorem dX11_besides_166 : decode cX11_besides 166 = .ok (.iadd, 1) := by decide +kernel
theorem dX11_besides_167 : decode cX11_besides 167 = .ok (.istore_n 3, 1) := by decide +kernel
theorem dX11_besides_168 : decode cX11_besides 168 = .ok (.iload 7, 2) := by decide +kernel
theorem dX11_besides_170 : decode cX11_besides 170 = .ok (.istore 4, 2) := by decide +kernel
theorem dX11_besides_172 : decode cX11_besides 172 = .ok (.iinc 5 1, 3) := by decide +kernel
theorem dX11_besides_175 : decode cX11_besides 175 = .ok (.goto (-165), 3) := by decide +kernel
theorem dX11_besides_178 : decode cX11_besides 178 = .ok (.iload_n 3, 1) := by decide +kernel
theorem dX11_besides_179 : decode cX11_besides 179 = .ok (.ireturn, 1) := by decide +kernel
theorem dX11_payOf_0 : decode cX11_payOf 0 = .ok (.aload_n 0, 1) := by decide +kernel
theorem dX11_payOf_1 : decode cX11_payOf 1 = .ok (.iload_n 1, 1) := by decide +kernel
theorem dX11_payOf_2 : decode cX11_payOf 2 = .ok (.invokevirtual 226, 3) := by decide +kernel
theorem dX11_payOf_5 : decode cX11_payOf 5 = .ok (.istore_n 3, 1) := by decide +kernel
theorem dX11_payOf_6 : decode cX11_payOf 6 = .ok (.aload_n 0, 1) := by decide +kernel
theorem dX11_payOf_7 : decode cX11_payOf 7 = .ok (.getfield 59, 3) := by decide +kernel
theorem dX11_payOf_10 : decode cX11_payOf 10 = .ok (.iload_n 1, 1) := by decide +kernel
theorem dX11_payOf_11 : decode cX11_payOf 11 = .ok (.iaload, 1) := by decide +kernel
theorem dX11_payOf_12 : decode cX11_payOf 12 = .ok (.ifCond .ne 10, 3) := by decide +kernel
theorem dX11_payOf_15 : decode cX11_payOf 15 = .ok (.iload_n 3, 1) := by decide +kernel
theorem dX11_payOf_16 : decode cX11_payOf 16 = .ok (.invokestatic 151, 3) := by decide +kernel
theorem dX11_payOf_19 : decode cX11_payOf 19 = .ok (.goto 24, 3) := by decide +kernel
theorem dX11_payOf_22 : decode cX11_payOf 22 = .ok (.aload_n 0, 1) := by decide +kernel
theorem dX11_payOf_23 : decode cX11_payOf 23 = .ok (.getfield 59, 3) := by decide +kernel
theorem dX11_payOf_26 : decode cX11_payOf 26 = .ok (.iload_n 1, 1) := by decide +kernel
theorem dX11_payOf_27 : decode cX11_payOf 27 = .ok (.iaload, 1) := by decide +kernel
theorem dX11_payOf_28 : decode cX11_payOf 28 = .ok (.iconst 1, 1) := by decide +kernel
theorem dX11_payOf_29 : decode cX11_payOf 29 = .ok (.if_icmp .ne 10, 3) := by decide +kernel
theorem dX11_payOf_32 : decode cX11_payOf 32 = .ok (.iload_n 3, 1) := by decide +kernel
theorem dX11_payOf_33 : decode cX11_payOf 33 = .ok (.invokestatic 229, 3) := by decide +kernel
theorem dX11_payOf_36 : decode cX11_payOf 36 = .ok (.goto 7, 3) := by decide +kernel
theorem dX11_payOf_39 : decode cX11_payOf 39 = .ok (.iload_n 3, 1) := by decide +kernel
theorem dX11_payOf_40 : decode cX11_payOf 40 = .ok (.invokestatic 232, 3) := by decide +kernel
theorem dX11_payOf_43 : decode cX11_payOf 43 = .ok (.istore 4, 2) := by decide +kernel
theorem dX11_payOf_45 : decode cX11_payOf 45 = .ok (.aload_n 0, 1) := by decide +kernel
theorem dX11_payOf_46 : decode cX11_payOf 46 = .ok (.iload_n 1, 1) := by decide +kernel
theorem dX11_payOf_47 : decode cX11_payOf 47 = .ok (.iload_n 3, 1) := by decide +kernel
theorem dX11_payOf_48 : decode cX11_payOf 48 = .ok (.invokevirtual 235, 3) := by decide +kernel
theorem dX11_payOf_51 : decode cX11_payOf 51 = .ok (.iload_n 2, 1) := by decide +kernel
theorem dX11_payOf_52 : decode cX11_payOf 52 = .ok (.ifCond .eq 7, 3) := by decide +kernel
theorem dX11_payOf_55 : decode cX11_payOf 55 = .ok (.iconst 0, 1) := by decide +kernel
theorem dX11_payOf_56 : decode cX11_payOf 56 = .ok (.goto 12, 3) := by decide +kernel
theorem dX11_payOf_59 : decode cX11_payOf 59 = .ok (.iload 4, 2) := by decide +kernel
theorem dX11_payOf_61 : decode cX11_payOf 61 = .ok (.aload_n 0, 1) := by decide +kernel
theorem dX11_payOf_62 : decode cX11_payOf 62 = .ok (.getfield 62, 3) := by decide +kernel
theorem dX11_payOf_65 : decode cX11_payOf 65 = .ok (.iload_n 1, 1) := by decide +kernel
theorem dX11_payOf_66 : decode cX11_payOf 66 = .ok (.iaload, 1) := by decide +kernel
theorem dX11_payOf_67 : decode cX11_payOf 67 = .ok (.imul, 1) := by decide +kernel
theorem dX11_payOf_68 : decode cX11_payOf 68 = .ok (.iadd, 1) := by decide +kernel
theorem dX11_payOf_69 : decode cX11_payOf 69 = .ok (.ireturn, 1) := by decide +kernel
theorem dX11_pay_0 : decode cX11_pay 0 = .ok (.aload_n 0, 1) := by decide +kernel
theorem dX11_pay_1 : decode cX11_pay 1 = .ok (.aload_n 0, 1) := by decide +kernel
theorem dX11_pay_2 : decode cX11_pay 2 = .ok (.iload_n 1, 1) := by decide +kernel
theorem dX11_pay_3 : decode cX11_pay 3 = .ok (.invokevirtual 165, 3) := by decide +kernel
theorem dX11_pay_6 : decode cX11_pay 6 = .ok (.ifCond .eq 7, 3) := by decide +kernel
theorem dX11_pay_9 : decode cX11_pay 9 = .ok (.iconst 0, 1) := by decide +kernel
theorem dX11_pay_10 : decode cX11_pay 10 = .ok (.goto 4, 3) := by decide +kernel
theorem dX11_pay_13 : decode cX11_pay 13 = .ok (.iconst 1, 1) := by decide +kernel
theorem dX11_pay_14 : decode cX11_pay 14 = .ok (.invokevirtual 138, 3) := by decide +kernel
theorem dX11_pay_17 : decode cX11_pay 17 = .ok (.ifCond .eq 12, 3) := by decide +kernel
theorem dX11_pay_20 : decode cX11_pay 20 = .ok (.aload_n 0, 1) := by decide +kernel
theorem dX11_pay_21 : decode cX11_pay 21 = .ok (.iload_n 1, 1) := by decide +kernel
theorem dX11_pay_22 : decode cX11_pay 22 = .ok (.iload_n 2, 1) := by decide +kernel
theorem dX11_pay_23 : decode cX11_pay 23 = .ok (.invokevirtual 238, 3) := by decide +kernel
theorem dX11_pay_26 : decode cX11_pay 26 = .ok (.goto 4, 3) := by decide +kernel
theorem dX11_pay_29 : decode cX11_pay 29 = .ok (.iconst 0, 1) := by decide +kernel
theorem dX11_pay_30 : decode cX11_pay 30 = .ok (.ireturn, 1) := by decide +kernel
theorem dX11_cost_0 : decode cX11_cost 0 = .ok (.aload_n 0, 1) := by decide +kernel
theorem dX11_cost_1 : decode cX11_cost 1 = .ok (.iconst 0, 1) := by decide +kernel
theorem dX11_cost_2 : decode cX11_cost 2 = .ok (.putfield 110, 3) := by decide +kernel
theorem dX11_cost_5 : decode cX11_cost 5 = .ok (.iconst 0, 1) := by decide +kernel
theorem dX11_cost_6 : decode cX11_cost 6 = .ok (.istore_n 1, 1) := by decide +kernel
theorem dX11_cost_7 : decode cX11_cost 7 = .ok (.iconst 0, 1) := by decide +kernel
theorem dX11_cost_8 : decode cX11_cost 8 = .ok (.istore_n 2, 1) := by decide +kernel
theorem dX11_cost_9 : decode cX11_cost 9 = .ok (.iload_n 2, 1) := by decide +kernel
theorem dX11_cost_10 : decode cX11_cost 10 = .ok (.aload_n 0, 1) := by decide +kernel
theorem dX11_cost_11 : decode cX11_cost 11 = .ok (.getfield 121, 3) := by decide +kernel
theorem dX11_cost_14 : decode cX11_cost 14 = .ok (.if_icmp .ge 18, 3) := by decide +kernel
theorem dX11_cost_17 : decode cX11_cost 17 = .ok (.iload_n 1, 1) := by decide +kernel
theorem dX11_cost_18 : decode cX11_cost 18 = .ok (.aload_n 0, 1) := by decide +kernel
theorem dX11_cost_19 : decode cX11_cost 19 = .ok (.iload_n 2, 1) := by decide +kernel
theorem dX11_cost_20 : decode cX11_cost 20 = .ok (.iconst 0, 1) := by decide +kernel
theorem dX11_cost_21 : decode cX11_cost 21 = .ok (.invokevirtual 238, 3) := by decide +kernel
theorem dX11_cost_24 : decode cX11_cost 24 = .ok (.iadd, 1) := by decide +kernel
theorem dX11_cost_25 : decode cX11_cost 25 = .ok (.istore_n 1, 1) := by decide +kernel
theorem dX11_cost_26 : decode cX11_cost 26 = .ok (.iinc 2 1, 3) := by decide +kernel
theorem dX11_cost_29 : decode cX11_cost 29 = .ok (.goto (-20), 3) := by decide +kernel
theorem dX11_cost_32 : decode cX11_cost 32 = .ok (.iconst 0, 1) := by decide +kernel
theorem dX11_cost_33 : decode cX11_cost 33 = .ok (.istore_n 2, 1) := by decide +kernel
theorem dX11_cost_34 : decode cX11_cost 34 = .ok (.iload_n 2, 1) := by decide +kernel
theorem dX11_cost_35 : decode cX11_cost 35 = .ok (.bipush 30, 2) := by decide +kernel
theorem dX11_cost_37 : decode cX11_cost 37 = .ok (.if_icmp .ge 94, 3) := by decide +kernel
theorem dX11_cost_40 : decode cX11_cost 40 = .ok (.iconst 0, 1) := by decide +kernel
theorem dX11_cost_41 : decode cX11_cost 41 = .ok (.istore_n 3, 1) := by decide +kernel
theorem dX11_cost_42 : decode cX11_cost 42 = .ok (.iconst 0, 1) := by decide +kernel
theorem dX11_cost_43 : decode cX11_cost 43 = .ok (.istore 4, 2) := by decide +kernel
theorem dX11_cost_45 : decode cX11_cost 45 = .ok (.iload 4, 2) := by decide +kernel
theorem dX11_cost_47 : decode cX11_cost 47 = .ok (.aload_n 0, 1) := by decide +kernel
theorem dX11_cost_48 : decode cX11_cost 48 = .ok (.getfield 95, 3) := by decide +kernel
theorem dX11_cost_51 : decode cX11_cost 51 = .ok (.iload_n 2, 1) := by decide +kernel
theorem dX11_cost_52 : decode cX11_cost 52 = .ok (.iaload, 1) := by decide +kernel
theorem dX11_cost_53 : decode cX11_cost 53 = .ok (.if_icmp .ge 31, 3) := by decide +kernel
theorem dX11_cost_56 : decode cX11_cost 56 = .ok (.iload_n 3, 1) := by decide +kernel
theorem dX11_cost_57 : decode cX11_cost 57 = .ok (.iconst 1, 1) := by decide +kernel
theorem dX11_cost_58 : decode cX11_cost 58 = .ok (.aload_n 0, 1) := by decide +kernel
theorem dX11_cost_59 : decode cX11_cost 59 = .ok (.getfield 19, 3) := by decide +kernel
theorem dX11_cost_62 : decode cX11_cost 62 = .ok (.aload_n 0, 1) := by decide +kernel
theorem dX11_cost_63 : decode cX11_cost 63 = .ok (.getfield 92, 3) := by decide +kernel
theorem dX11_cost_66 : decode cX11_cost 66 = .ok (.bipush 8, 2) := by decide +kernel
theorem dX11_cost_68 : decode cX11_cost 68 = .ok (.iload_n 2, 1) := by decide +kernel
theorem dX11_cost_69 : decode cX11_cost 69 = .ok (.imul, 1) := by decide +kernel
theorem dX11_cost_70 : decode cX11_cost 70 = .ok (.iload 4, 2) := by decide +kernel
theorem dX11_cost_72 : decode cX11_cost 72 = .ok (.iadd, 1) := by decide +kernel
theorem dX11_cost_73 : decode cX11_cost 73 = .ok (.iaload, 1) := by decide +kernel
theorem dX11_cost_74 : decode cX11_cost 74 = .ok (.iaload, 1) := by decide +kernel
theorem dX11_cost_75 : decode cX11_cost 75 = .ok (.ishl, 1) := by decide +kernel
theorem dX11_cost_76 : decode cX11_cost 76 = .ok (.ior, 1) := by decide +kernel
theorem dX11_cost_77 : decode cX11_cost 77 = .ok (.istore_n 3, 1) := by decide +kernel
theorem dX11_cost_78 : decode cX11_cost 78 = .ok (.iinc 4 1, 3) := by decide +kernel
theorem dX11_cost_81 : decode cX11_cost 81 = .ok (.goto (-36), 3) := by decide +kernel
theorem dX11_cost_84 : decode cX11_cost 84 = .ok (.iconst 0, 1) := by decide +kernel
theorem dX11_cost_85 : decode cX11_cost 85 = .ok (.istore 4, 2) := by decide +kernel
theorem dX11_cost_87 : decode cX11_cost 87 = .ok (.iload 4, 2) := by decide +kernel
theorem dX11_cost_89 : decode cX11_cost 89 = .ok (.aload_n 0, 1) := by decide +kernel
theorem dX11_cost_90 : decode cX11_cost 90 = .ok (.getfield 124, 3) := by decide +kernel
theorem dX11_cost_93 : decode cX11_cost 93 = .ok (.if_icmp .ge 32, 3) := by decide +kernel
theorem dX11_cost_96 : decode cX11_cost 96 = .ok (.iload_n 1, 1) := by decide +kernel
theorem dX11_cost_97 : decode cX11_cost 97 = .ok (.iload_n 3, 1) := by decide +kernel
theorem dX11_cost_98 : decode cX11_cost 98 = .ok (.iload 4, 2) := by decide +kernel
theorem dX11_cost_100 : decode cX11_cost 100 = .ok (.invokestatic 158, 3) := by decide +kernel
theorem dX11_cost_103 : decode cX11_cost 103 = .ok (.ifCond .eq 13, 3) := by decide +kernel
theorem dX11_cost_106 : decode cX11_cost 106 = .ok (.aload_n 0, 1) := by decide +kernel
theorem dX11_cost_107 : decode cX11_cost 107 = .ok (.getfield 74, 3) := by decide +kernel
theorem dX11_cost_110 : decode cX11_cost 110 = .ok (.iload 4, 2) := by decide +kernel
theorem dX11_cost_112 : decode cX11_cost 112 = .ok (.iaload, 1) := by decide +kernel
theorem dX11_cost_113 : decode cX11_cost 113 = .ok (.goto 4, 3) := by decide +kernel
theorem dX11_cost_116 : decode cX11_cost 116 = .ok (.iconst 0, 1) := by decide +kernel
theorem dX11_cost_117 : decode cX11_cost 117 = .ok (.iadd, 1) := by decide +kernel
theorem dX11_cost_118 : decode cX11_cost 118 = .ok (.istore_n 1, 1) := by decide +kernel
theorem dX11_cost_119 : decode cX11_cost 119 = .ok (.iinc 4 1, 3) := by decide +kernel
theorem dX11_cost_122 : decode cX11_cost 122 = .ok (.goto (-35), 3) := by decide +kernel
theorem dX11_cost_125 : decode cX11_cost 125 = .ok (.iinc 2 1, 3) := by decide +kernel
theorem dX11_cost_128 : decode cX11_cost 128 = .ok (.goto (-94), 3) := by decide +kernel
theorem dX11_cost_131 : decode cX11_cost 131 = .ok (.iload_n 1, 1) := by decide +kernel
theorem dX11_cost_132 : decode cX11_cost 132 = .ok (.ireturn, 1) := by decide +kernel
theorem dJ6_bitCount_0f7a4_0 : decode cJ6_bitCount_0f7a4 0 = .ok (.iload_n 0, 1) := by decide +kernel
theorem dJ6_bitCount_0f7a4_1 : decode cJ6_bitCount_0f7a4 1 = .ok (.iload_n 0, 1) := by decide +kernel
theorem dJ6_bitCount_0f7a4_2 : decode cJ6_bitCount_0f7a4 2 = .ok (.iconst 1, 1) := by decide +kernel
theorem dJ6_bitCount_0f7a4_3 : decode cJ6_bitCount_0f7a4 3 = .ok (.iushr, 1) := by decide +kernel
theorem dJ6_bitCount_0f7a4_4 : decode cJ6_bitCount_0f7a4 4 = .ok (.ldc_w 265, 3) := by decide +kernel
theorem dJ6_bitCount_0f7a4_7 : decode cJ6_bitCount_0f7a4 7 = .ok (.iand, 1) := by decide +kernel
theorem dJ6_bitCount_0f7a4_8 : decode cJ6_bitCount_0f7a4 8 = .ok (.isub, 1) := by decide +kernel
theorem dJ6_bitCount_0f7a4_9 : decode cJ6_bitCount_0f7a4 9 = .ok (.istore_n 0, 1) := by decide +kernel
theorem dJ6_bitCount_0f7a4_10 : decode cJ6_bitCount_0f7a4 10 = .ok (.iload_n 0, 1) := by decide +kernel
theorem dJ6_bitCount_0f7a4_11 : decode cJ6_bitCount_0f7a4 11 = .ok (.ldc_w 266, 3) := by decide +kernel
theorem dJ6_bitCount_0f7a4_14 : decode cJ6_bitCount_0f7a4 14 = .ok (.iand, 1) := by decide +kernel
theorem dJ6_bitCount_0f7a4_15 : decode cJ6_bitCount_0f7a4 15 = .ok (.iload_n 0, 1) := by decide +kernel
theorem dJ6_bitCount_0f7a4_16 : decode cJ6_bitCount_0f7a4 16 = .ok (.iconst 2, 1) := by decide +kernel
theorem dJ6_bitCount_0f7a4_17 : decode cJ6_bitCount_0f7a4 17 = .ok (.iushr, 1) := by decide +kernel
theorem dJ6_bitCount_0f7a4_18 : decode cJ6_bitCount_0f7a4 18 = .ok (.ldc_w 266, 3) := by decide +kernel
theorem dJ6_bitCount_0f7a4_21 : decode cJ6_bitCount_0f7a4 21 = .ok (.iand, 1) := by decide +kernel
theorem dJ6_bitCount_0f7a4_22 : decode cJ6_bitCount_0f7a4 22 = .ok (.iadd, 1) := by decide +kernel
theorem dJ6_bitCount_0f7a4_23 : decode cJ6_bitCount_0f7a4 23 = .ok (.istore_n 0, 1) := by decide +kernel
theorem dJ6_bitCount_0f7a4_24 : decode cJ6_bitCount_0f7a4 24 = .ok (.iload_n 0, 1) := by decide +kernel
theorem dJ6_bitCount_0f7a4_25 : decode cJ6_bitCount_0f7a4 25 = .ok (.iload_n 0, 1) := by decide +kernel
theorem dJ6_bitCount_0f7a4_26 : decode cJ6_bitCount_0f7a4 26 = .ok (.iconst 4, 1) := by decide +kernel
theorem dJ6_bitCount_0f7a4_27 : decode cJ6_bitCount_0f7a4 27 = .ok (.iushr, 1) := by decide +kernel
theorem dJ6_bitCount_0f7a4_28 : decode cJ6_bitCount_0f7a4 28 = .ok (.iadd, 1) := by decide +kernel
theorem dJ6_bitCount_0f7a4_29 : decode cJ6_bitCount_0f7a4 29 = .ok (.ldc_w 267, 3) := by decide +kernel
theorem dJ6_bitCount_0f7a4_32 : decode cJ6_bitCount_0f7a4 32 = .ok (.iand, 1) := by decide +kernel
theorem dJ6_bitCount_0f7a4_33 : decode cJ6_bitCount_0f7a4 33 = .ok (.istore_n 0, 1) := by decide +kernel
theorem dJ6_bitCount_0f7a4_34 : decode cJ6_bitCount_0f7a4 34 = .ok (.iload_n 0, 1) := by decide +kernel
theorem dJ6_bitCount_0f7a4_35 : decode cJ6_bitCount_0f7a4 35 = .ok (.iload_n 0, 1) := by decide +kernel
theorem dJ6_bitCount_0f7a4_36 : decode cJ6_bitCount_0f7a4 36 = .ok (.bipush 8, 2) := by decide +kernel
theorem dJ6_bitCount_0f7a4_38 : decode cJ6_bitCount_0f7a4 38 = .ok (.iushr, 1) := by decide +kernel
theorem dJ6_bitCount_0f7a4_39 : decode cJ6_bitCount_0f7a4 39 = .ok (.iadd, 1) := by decide +kernel
theorem dJ6_bitCount_0f7a4_40 : decode cJ6_bitCount_0f7a4 40 = .ok (.istore_n 0, 1) := by decide +kernel
theorem dJ6_bitCount_0f7a4_41 : decode cJ6_bitCount_0f7a4 41 = .ok (.iload_n 0, 1) := by decide +kernel
theorem dJ6_bitCount_0f7a4_42 : decode cJ6_bitCount_0f7a4 42 = .ok (.iload_n 0, 1) := by decide +kernel
theorem dJ6_bitCount_0f7a4_43 : decode cJ6_bitCount_0f7a4 43 = .ok (.bipush 16, 2) := by decide +kernel
theorem dJ6_bitCount_0f7a4_45 : decode cJ6_bitCount_0f7a4 45 = .ok (.iushr, 1) := by decide +kernel
theorem dJ6_bitCount_0f7a4_46 : decode cJ6_bitCount_0f7a4 46 = .ok (.iadd, 1) := by decide +kernel
theorem dJ6_bitCount_0f7a4_47 : decode cJ6_bitCount_0f7a4 47 = .ok (.istore_n 0, 1) := by decide +kernel
theorem dJ6_bitCount_0f7a4_48 : decode cJ6_bitCount_0f7a4 48 = .ok (.iload_n 0, 1) := by decide +kernel
theorem dJ6_bitCount_0f7a4_49 : decode cJ6_bitCount_0f7a4 49 = .ok (.bipush 63, 2) := by decide +kernel
theorem dJ6_bitCount_0f7a4_51 : decode cJ6_bitCount_0f7a4 51 = .ok (.iand, 1) := by decide +kernel
theorem dJ6_bitCount_0f7a4_52 : decode cJ6_bitCount_0f7a4 52 = .ok (.ireturn, 1) := by decide +kernel
theorem dJ7_fill_53178_0 : decode cJ7_fill_53178 0 = .ok (.iconst 0, 1) := by decide +kernel
theorem dJ7_fill_53178_1 : decode cJ7_fill_53178 1 = .ok (.istore_n 2, 1) := by decide +kernel
theorem dJ7_fill_53178_2 : decode cJ7_fill_53178 2 = .ok (.aload_n 0, 1) := by decide +kernel
theorem dJ7_fill_53178_3 : decode cJ7_fill_53178 3 = .ok (.arraylength, 1) := by decide +kernel
theorem dJ7_fill_53178_4 : decode cJ7_fill_53178 4 = .ok (.istore_n 3, 1) := by decide +kernel
theorem dJ7_fill_53178_5 : decode cJ7_fill_53178 5 = .ok (.iload_n 2, 1) := by decide +kernel
theorem dJ7_fill_53178_6 : decode cJ7_fill_53178 6 = .ok (.iload_n 3, 1) := by decide +kernel
theorem dJ7_fill_53178_7 : decode cJ7_fill_53178 7 = .ok (.if_icmp .ge 13, 3) := by decide +kernel
theorem dJ7_fill_53178_10 : decode cJ7_fill_53178 10 = .ok (.aload_n 0, 1) := by decide +kernel
theorem dJ7_fill_53178_11 : decode cJ7_fill_53178 11 = .ok (.iload_n 2, 1) := by decide +kernel
theorem dJ7_fill_53178_12 : decode cJ7_fill_53178 12 = .ok (.iload_n 1, 1) := by decide +kernel
theorem dJ7_fill_53178_13 : decode cJ7_fill_53178 13 = .ok (.iastore, 1) := by decide +kernel
theorem dJ7_fill_53178_14 : decode cJ7_fill_53178 14 = .ok (.iinc 2 1, 3) := by decide +kernel
theorem dJ7_fill_53178_17 : decode cJ7_fill_53178 17 = .ok (.goto (-12), 3) := by decide +kernel
theorem dJ7_fill_53178_20 : decode cJ7_fill_53178 20 = .ok (.return_, 1) := by decide +kernel
theorem dL_scene_0 : decode cL_scene 0 = .ok (.aload 6, 2) := by decide +kernel
theorem dL_scene_2 : decode cL_scene 2 = .ok (.iconst 0, 1) := by decide +kernel
theorem dL_scene_3 : decode cL_scene 3 = .ok (.aload_n 0, 1) := by decide +kernel
theorem dL_scene_4 : decode cL_scene 4 = .ok (.iload_n 1, 1) := by decide +kernel
theorem dL_scene_5 : decode cL_scene 5 = .ok (.iload_n 2, 1) := by decide +kernel
theorem dL_scene_6 : decode cL_scene 6 = .ok (.iload_n 3, 1) := by decide +kernel
theorem dL_scene_7 : decode cL_scene 7 = .ok (.iload 4, 2) := by decide +kernel
theorem dL_scene_9 : decode cL_scene 9 = .ok (.iload 5, 2) := by decide +kernel
theorem dL_scene_11 : decode cL_scene 11 = .ok (.invokevirtual 7, 3) := by decide +kernel
theorem dL_scene_14 : decode cL_scene 14 = .ok (.i2l, 1) := by decide +kernel
theorem dL_scene_15 : decode cL_scene 15 = .ok (.lastore, 1) := by decide +kernel
theorem dL_scene_16 : decode cL_scene 16 = .ok (.goto 15, 3) := by decide +kernel
theorem dL_scene_19 : decode cL_scene 19 = .ok (.astore 7, 2) := by decide +kernel
theorem dL_scene_21 : decode cL_scene 21 = .ok (.iconst 1, 1) := by decide +kernel
theorem dL_scene_22 : decode cL_scene 22 = .ok (.ireturn, 1) := by decide +kernel
theorem dL_scene_23 : decode cL_scene 23 = .ok (.astore 7, 2) := by decide +kernel
theorem dL_scene_25 : decode cL_scene 25 = .ok (.iconst 2, 1) := by decide +kernel
theorem dL_scene_26 : decode cL_scene 26 = .ok (.ireturn, 1) := by decide +kernel
theorem dL_scene_27 : decode cL_scene 27 = .ok (.astore 7, 2) := by decide +kernel
theorem dL_scene_29 : decode cL_scene 29 = .ok (.iconst 3, 1) := by decide +kernel
theorem dL_scene_30 : decode cL_scene 30 = .ok (.ireturn, 1) := by decide +kernel
theorem dL_scene_31 : decode cL_scene 31 = .ok (.iconst 0, 1) := by decide +kernel
theorem dL_scene_32 : decode cL_scene 32 = .ok (.ireturn, 1) := by decide +kernel
theorem dL_lock_0 : decode cL_lock 0 = .ok (.aload_n 1, 1) := by decide +kernel
theorem dL_lock_1 : decode cL_lock 1 = .ok (.iconst 0, 1) := by decide +kernel
theorem dL_lock_2 : decode cL_lock 2 = .ok (.aload_n 0, 1) := by decide +kernel
theorem dL_lock_3 : decode cL_lock 3 = .ok (.invokevirtual 19, 3) := by decide +kernel
theorem dL_lock_6 : decode cL_lock 6 = .ok (.i2l, 1) := by decide +kernel
theorem dL_lock_7 : decode cL_lock 7 = .ok (.lastore, 1) := by decide +kernel
theorem dL_lock_8 : decode cL_lock 8 = .ok (.goto 6, 3) := by decide +kernel
theorem dL_lock_11 : decode cL_lock 11 = .ok (.astore_n 2, 1) := by decide +kernel
theorem dL_lock_12 : decode cL_lock 12 = .ok (.iconst 1, 1) := by decide +kernel
theorem dL_lock_13 : decode cL_lock 13 = .ok (.ireturn, 1) := by decide +kernel
theorem dL_lock_14 : decode cL_lock 14 = .ok (.iconst 0, 1) := by decide +kernel
theorem dL_lock_15 : decode cL_lock 15 = .ok (.ireturn, 1) := by decide +kernel
theorem dL_omit_0 : decode cL_omit 0 = .ok (.aload_n 2, 1) := by decide +kernel
theorem dL_omit_1 : decode cL_omit 1 = .ok (.iconst 0, 1) := by decide +kernel
theorem dL_omit_2 : decode cL_omit 2 = .ok (.aload_n 0, 1) := by decide +kernel
theorem dL_omit_3 : decode cL_omit 3 = .ok (.iload_n 1, 1) := by decide +kernel
theorem dL_omit_4 : decode cL_omit 4 = .ok (.invokevirtual 23, 3) := by decide +kernel
theorem dL_omit_7 : decode cL_omit 7 = .ok (.i2l, 1) := by decide +kernel
theorem dL_omit_8 : decode cL_omit 8 = .ok (.lastore, 1) := by decide +kernel
theorem dL_omit_9 : decode cL_omit 9 = .ok (.goto 9, 3) := by decide +kernel
theorem dL_omit_12 : decode cL_omit 12 = .ok (.astore_n 3, 1) := by decide +kernel
theorem dL_omit_13 : decode cL_omit 13 = .ok (.iconst 1, 1) := by decide +kernel
theorem dL_omit_14 : decode cL_omit 14 = .ok (.ireturn, 1) := by decide +kernel
theorem dL_omit_15 : decode cL_omit 15 = .ok (.astore_n 3, 1) := by decide +kernel
theorem dL_omit_16 : decode cL_omit 16 = .ok (.iconst 2, 1) := by decide +kernel
theorem dL_omit_17 : decode cL_omit 17 = .ok (.ireturn, 1) := by decide +kernel
theorem dL_omit_18 : decode cL_omit 18 = .ok (.iconst 0, 1) := by decide +kernel
theorem dL_omit_19 : decode cL_omit 19 = .ok (.ireturn, 1) := by decide +kernel
theorem dL_label_0 : decode cL_label 0 = .ok (.aload_n 2, 1) := by decide +kernel
theorem dL_label_1 : decode cL_label 1 = .ok (.iconst 0, 1) := by decide +kernel
theorem dL_label_2 : decode cL_label 2 = .ok (.aload_n 0, 1) := by decide +kernel
theorem dL_label_3 : decode cL_label 3 = .ok (.iload_n 1, 1) := by decide +kernel
theorem dL_label_4 : decode cL_label 4 = .ok (.invokevirtual 27, 3) := by decide +kernel
theorem dL_label_7 : decode cL_label 7 = .ok (.i2l, 1) := by decide +kernel
theorem dL_label_8 : decode cL_label 8 = .ok (.lastore, 1) := by decide +kernel
theorem dL_label_9 : decode cL_label 9 = .ok (.goto 6, 3) := by decide +kernel
theorem dL_label_12 : decode cL_label 12 = .ok (.astore_n 3, 1) := by decide +kernel
theorem dL_label_13 : decode cL_label 13 = .ok (.iconst 1, 1) := by decide +kernel
theorem dL_label_14 : decode cL_label 14 = .ok (.ireturn, 1) := by decide +kernel
theorem dL_label_15 : decode cL_label 15 = .ok (.iconst 0, 1) := by decide +kernel
theorem dL_label_16 : decode cL_label 16 = .ok (.ireturn, 1) := by decide +kernel
theorem dL_needs_0 : decode cL_needs 0 = .ok (.aload_n 3, 1) := by decide +kernel
theorem dL_needs_1 : decode cL_needs 1 = .ok (.iconst 0, 1) := by decide +kernel
theorem dL_needs_2 : decode cL_needs 2 = .ok (.aload_n 0, 1) := by decide +kernel
theorem dL_needs_3 : decode cL_needs 3 = .ok (.iload_n 1, 1) := by decide +kernel
theorem dL_needs_4 : decode cL_needs 4 = .ok (.iload_n 2, 1) := by decide +kernel
theorem dL_needs_5 : decode cL_needs 5 = .ok (.invokevirtual 30, 3) := by decide +kernel
theorem dL_needs_8 : decode cL_needs 8 = .ok (.i2l, 1) := by decide +kernel
theorem dL_needs_9 : decode cL_needs 9 = .ok (.lastore, 1) := by decide +kernel
theorem dL_needs_10 : decode cL_needs 10 = .ok (.goto 11, 3) := by decide +kernel
theorem dL_needs_13 : decode cL_needs 13 = .ok (.astore 4, 2) := by decide +kernel
theorem dL_needs_15 : decode cL_needs 15 = .ok (.iconst 1, 1) := by decide +kernel
theorem dL_needs_16 : decode cL_needs 16 = .ok (.ireturn, 1) := by decide +kernel
theorem dL_needs_17 : decode cL_needs 17 = .ok (.astore 4, 2) := by decide +kernel
theorem dL_needs_19 : decode cL_needs 19 = .ok (.iconst 2, 1) := by decide +kernel
theorem dL_needs_20 : decode cL_needs 20 = .ok (.ireturn, 1) := by decide +kernel
theorem dL_needs_21 : decode cL_needs 21 = .ok (.iconst 0, 1) := by decide +kernel
theorem dL_needs_22 : decode cL_needs 22 = .ok (.ireturn, 1) := by decide +kernel
theorem dL_look_0 : decode cL_look 0 = .ok (.aload 5, 2) := by decide +kernel
theorem dL_look_2 : decode cL_look 2 = .ok (.iconst 0, 1) := by decide +kernel
theorem dL_look_3 : decode cL_look 3 = .ok (.aload_n 0, 1) := by decide +kernel
theorem dL_look_4 : decode cL_look 4 = .ok (.iload_n 1, 1) := by decide +kernel
theorem dL_look_5 : decode cL_look 5 = .ok (.iload_n 2, 1) := by decide +kernel
theorem dL_look_6 : decode cL_look 6 = .ok (.iload_n 3, 1) := by decide +kernel
theorem dL_look_7 : decode cL_look 7 = .ok (.iload 4, 2) := by decide +kernel
theorem dL_look_9 : decode cL_look 9 = .ok (.invokevirtual 34, 3) := by decide +kernel
theorem dL_look_12 : decode cL_look 12 = .ok (.i2l, 1) := by decide +kernel
theorem dL_look_13 : decode cL_look 13 = .ok (.lastore, 1) := by decide +kernel
theorem dL_look_14 : decode cL_look 14 = .ok (.goto 11, 3) := by decide +kernel
theorem dL_look_17 : decode cL_look 17 = .ok (.astore 6, 2) := by decide +kernel
theorem dL_look_19 : decode cL_look 19 = .ok (.iconst 1, 1) := by decide +kernel
theorem dL_look_20 : decode cL_look 20 = .ok (.ireturn, 1) := by decide +kernel
theorem dL_look_21 : decode cL_look 21 = .ok (.astore 6, 2) := by decide +kernel
theorem dL_look_23 : decode cL_look 23 = .ok (.iconst 2, 1) := by decide +kernel
theorem dL_look_24 : decode cL_look 24 = .ok (.ireturn, 1) := by decide +kernel
theorem dL_look_25 : decode cL_look 25 = .ok (.iconst 0, 1) := by decide +kernel
theorem dL_look_26 : decode cL_look 26 = .ok (.ireturn, 1) := by decide +kernel
theorem dL_clashes_0 : decode cL_clashes 0 = .ok (.aload_n 2, 1) := by decide +kernel
theorem dL_clashes_1 : decode cL_clashes 1 = .ok (.iconst 0, 1) := by decide +kernel
theorem dL_clashes_2 : decode cL_clashes 2 = .ok (.aload_n 0, 1) := by decide +kernel
theorem dL_clashes_3 : decode cL_clashes 3 = .ok (.iload_n 1, 1) := by decide +kernel
theorem dL_clashes_4 : decode cL_clashes 4 = .ok (.invokevirtual 38, 3) := by decide +kernel
theorem dL_clashes_7 : decode cL_clashes 7 = .ok (.ifCond .eq 7, 3) := by decide +kernel
theorem dL_clashes_10 : decode cL_clashes 10 = .ok (.lconst 1, 1) := by decide +kernel
theorem dL_clashes_11 : decode cL_clashes 11 = .ok (.goto 4, 3) := by decide +kernel
theorem dL_clashes_14 : decode cL_clashes 14 = .ok (.lconst 0, 1) := by decide +kernel
theorem dL_clashes_15 : decode cL_clashes 15 = .ok (.lastore, 1) := by decide +kernel
theorem dL_clashes_16 : decode cL_clashes 16 = .ok (.goto 6, 3) := by decide +kernel
theorem dL_clashes_19 : decode cL_clashes 19 = .ok (.astore_n 3, 1) := by decide +kernel
theorem dL_clashes_20 : decode cL_clashes 20 = .ok (.iconst 1, 1) := by decide +kernel
theorem dL_clashes_21 : decode cL_clashes 21 = .ok (.ireturn, 1) := by decide +kernel
theorem dL_clashes_22 : decode cL_clashes 22 = .ok (.iconst 0, 1) := by decide +kernel
theorem dL_clashes_23 : decode cL_clashes 23 = .ok (.ireturn, 1) := by decide +kernel
theorem dL_bind_0 : decode cL_bind 0 = .ok (.aload_n 3, 1) := by decide +kernel
theorem dL_bind_1 : decode cL_bind 1 = .ok (.iconst 0, 1) := by decide +kernel
theorem dL_bind_2 : decode cL_bind 2 = .ok (.aload_n 0, 1) := by decide +kernel
theorem dL_bind_3 : decode cL_bind 3 = .ok (.iload_n 1, 1) := by decide +kernel
theorem dL_bind_4 : decode cL_bind 4 = .ok (.iload_n 2, 1) := by decide +kernel
theorem dL_bind_5 : decode cL_bind 5 = .ok (.invokevirtual 42, 3) := by decide +kernel
theorem dL_bind_8 : decode cL_bind 8 = .ok (.i2l, 1) := by decide +kernel
theorem dL_bind_9 : decode cL_bind 9 = .ok (.lastore, 1) := by decide +kernel
theorem dL_bind_10 : decode cL_bind 10 = .ok (.goto 11, 3) := by decide +kernel
theorem dL_bind_13 : decode cL_bind 13 = .ok (.astore 4, 2) := by decide +kernel
theorem dL_bind_15 : decode cL_bind 15 = .ok (.iconst 1, 1) := by decide +kernel
theorem dL_bind_16 : decode cL_bind 16 = .ok (.ireturn, 1) := by decide +kernel
theorem dL_bind_17 : decode cL_bind 17 = .ok (.astore 4, 2) := by decide +kernel
theorem dL_bind_19 : decode cL_bind 19 = .ok (.iconst 2, 1) := by decide +kernel
theorem dL_bind_20 : decode cL_bind 20 = .ok (.ireturn, 1) := by decide +kernel
theorem dL_bind_21 : decode cL_bind 21 = .ok (.iconst 0, 1) := by decide +kernel
theorem dL_bind_22 : decode cL_bind 22 = .ok (.ireturn, 1) := by decide +kernel
theorem dL_person_0 : decode cL_person 0 = .ok (.aload 5, 2) := by decide +kernel
theorem dL_person_2 : decode cL_person 2 = .ok (.iconst 0, 1) := by decide +kernel
theorem dL_person_3 : decode cL_person 3 = .ok (.aload_n 0, 1) := by decide +kernel
theorem dL_person_4 : decode cL_person 4 = .ok (.iload_n 1, 1) := by decide +kernel
theorem dL_person_5 : decode cL_person 5 = .ok (.iload_n 2, 1) := by decide +kernel
theorem dL_person_6 : decode cL_person 6 = .ok (.iload_n 3, 1) := by decide +kernel
theorem dL_person_7 : decode cL_person 7 = .ok (.iload 4, 2) := by decide +kernel
theorem dL_person_9 : decode cL_person 9 = .ok (.invokevirtual 45, 3) := by decide +kernel
theorem dL_person_12 : decode cL_person 12 = .ok (.i2l, 1) := by decide +kernel
theorem dL_person_13 : decode cL_person 13 = .ok (.lastore, 1) := by decide +kernel
theorem dL_person_14 : decode cL_person 14 = .ok (.goto 11, 3) := by decide +kernel
theorem dL_person_17 : decode cL_person 17 = .ok (.astore 6, 2) := by decide +kernel
theorem dL_person_19 : decode cL_person 19 = .ok (.iconst 1, 1) := by decide +kernel
theorem dL_person_20 : decode cL_person 20 = .ok (.ireturn, 1) := by decide +kernel
theorem dL_person_21 : decode cL_person 21 = .ok (.astore 6, 2) := by decide +kernel
theorem dL_person_23 : decode cL_person 23 = .ok (.iconst 2, 1) := by decide +kernel
theorem dL_person_24 : decode cL_person 24 = .ok (.ireturn, 1) := by decide +kernel
theorem dL_person_25 : decode cL_person 25 = .ok (.iconst 0, 1) := by decide +kernel
theorem dL_person_26 : decode cL_person 26 = .ok (.ireturn, 1) := by decide +kernel
theorem dL_ill_0 : decode cL_ill 0 = .ok (.aload 4, 2) := by decide +kernel
theorem dL_ill_2 : decode cL_ill 2 = .ok (.iconst 0, 1) := by decide +kernel
theorem dL_ill_3 : decode cL_ill 3 = .ok (.aload_n 0, 1) := by decide +kernel
theorem dL_ill_4 : decode cL_ill 4 = .ok (.iload_n 1, 1) := by decide +kernel
theorem dL_ill_5 : decode cL_ill 5 = .ok (.iload_n 2, 1) := by decide +kernel
theorem dL_ill_6 : decode cL_ill 6 = .ok (.iload_n 3, 1) := by decide +kernel
theorem dL_ill_7 : decode cL_ill 7 = .ok (.invokevirtual 49, 3) := by decide +kernel
theorem dL_ill_10 : decode cL_ill 10 = .ok (.i2l, 1) := by decide +kernel
theorem dL_ill_11 : decode cL_ill 11 = .ok (.lastore, 1) := by decide +kernel
theorem dL_ill_12 : decode cL_ill 12 = .ok (.goto 7, 3) := by decide +kernel
theorem dL_ill_15 : decode cL_ill 15 = .ok (.astore 5, 2) := by decide +kernel
theorem dL_ill_17 : decode cL_ill 17 = .ok (.iconst 1, 1) := by decide +kernel
theorem dL_ill_18 : decode cL_ill 18 = .ok (.ireturn, 1) := by decide +kernel
theorem dL_ill_19 : decode cL_ill 19 = .ok (.iconst 0, 1) := by decide +kernel
theorem dL_ill_20 : decode cL_ill 20 = .ok (.ireturn, 1) := by decide +kernel
theorem dL_place_0 : decode cL_place 0 = .ok (.aload_n 2, 1) := by decide +kernel
theorem dL_place_1 : decode cL_place 1 = .ok (.iconst 0, 1) := by decide +kernel
theorem dL_place_2 : decode cL_place 2 = .ok (.aload_n 0, 1) := by decide +kernel
theorem dL_place_3 : decode cL_place 3 = .ok (.iload_n 1, 1) := by decide +kernel
theorem dL_place_4 : decode cL_place 4 = .ok (.invokevirtual 53, 3) := by decide +kernel
theorem dL_place_7 : decode cL_place 7 = .ok (.i2l, 1) := by decide +kernel
theorem dL_place_8 : decode cL_place 8 = .ok (.lastore, 1) := by decide +kernel
theorem dL_place_9 : decode cL_place 9 = .ok (.goto 9, 3) := by decide +kernel
theorem dL_place_12 : decode cL_place 12 = .ok (.astore_n 3, 1) := by decide +kernel
theorem dL_place_13 : decode cL_place 13 = .ok (.iconst 1, 1) := by decide +kernel
theorem dL_place_14 : decode cL_place 14 = .ok (.ireturn, 1) := by decide +kernel
theorem dL_place_15 : decode cL_place 15 = .ok (.astore_n 3, 1) := by decide +kernel
theorem dL_place_16 : decode cL_place 16 = .ok (.iconst 2, 1) := by decide +kernel
theorem dL_place_17 : decode cL_place 17 = .ok (.ireturn, 1) := by decide +kernel
theorem dL_place_18 : decode cL_place 18 = .ok (.iconst 0, 1) := by decide +kernel
theorem dL_place_19 : decode cL_place 19 = .ok (.ireturn, 1) := by decide +kernel
theorem dL_permit_0 : decode cL_permit 0 = .ok (.aload 4, 2) := by decide +kernel
theorem dL_permit_2 : decode cL_permit 2 = .ok (.iconst 0, 1) := by decide +kernel
theorem dL_permit_3 : decode cL_permit 3 = .ok (.aload_n 0, 1) := by decide +kernel
theorem dL_permit_4 : decode cL_permit 4 = .ok (.iload_n 1, 1) := by decide +kernel
theorem dL_permit_5 : decode cL_permit 5 = .ok (.iload_n 2, 1) := by decide +kernel
theorem dL_permit_6 : decode cL_permit 6 = .ok (.iload_n 3, 1) := by decide +kernel
theorem dL_permit_7 : decode cL_permit 7 = .ok (.invokevirtual 56, 3) := by decide +kernel
theorem dL_permit_10 : decode cL_permit 10 = .ok (.i2l, 1) := by decide +kernel
theorem dL_permit_11 : decode cL_permit 11 = .ok (.lastore, 1) := by decide +kernel
theorem dL_permit_12 : decode cL_permit 12 = .ok (.goto 7, 3) := by decide +kernel
theorem dL_permit_15 : decode cL_permit 15 = .ok (.astore 5, 2) := by decide +kernel
theorem dL_permit_17 : decode cL_permit 17 = .ok (.iconst 1, 1) := by decide +kernel
theorem dL_permit_18 : decode cL_permit 18 = .ok (.ireturn, 1) := by decide +kernel
theorem dL_permit_19 : decode cL_permit 19 = .ok (.iconst 0, 1) := by decide +kernel
theorem dL_permit_20 : decode cL_permit 20 = .ok (.ireturn, 1) := by decide +kernel
theorem dL_move_0 : decode cL_move 0 = .ok (.aload 4, 2) := by decide +kernel
theorem dL_move_2 : decode cL_move 2 = .ok (.iconst 0, 1) := by decide +kernel
theorem dL_move_3 : decode cL_move 3 = .ok (.aload_n 0, 1) := by decide +kernel
theorem dL_move_4 : decode cL_move 4 = .ok (.iload_n 1, 1) := by decide +kernel
theorem dL_move_5 : decode cL_move 5 = .ok (.iload_n 2, 1) := by decide +kernel
theorem dL_move_6 : decode cL_move 6 = .ok (.iload_n 3, 1) := by decide +kernel
theorem dL_move_7 : decode cL_move 7 = .ok (.invokevirtual 59, 3) := by decide +kernel
theorem dL_move_10 : decode cL_move 10 = .ok (.i2l, 1) := by decide +kernel
theorem dL_move_11 : decode cL_move 11 = .ok (.lastore, 1) := by decide +kernel
theorem dL_move_12 : decode cL_move 12 = .ok (.goto 11, 3) := by decide +kernel
theorem dL_move_15 : decode cL_move 15 = .ok (.astore 5, 2) := by decide +kernel
theorem dL_move_17 : decode cL_move 17 = .ok (.iconst 1, 1) := by decide +kernel
theorem dL_move_18 : decode cL_move 18 = .ok (.ireturn, 1) := by decide +kernel
theorem dL_move_19 : decode cL_move 19 = .ok (.astore 5, 2) := by decide +kernel
theorem dL_move_21 : decode cL_move 21 = .ok (.iconst 2, 1) := by decide +kernel
theorem dL_move_22 : decode cL_move 22 = .ok (.ireturn, 1) := by decide +kernel
theorem dL_move_23 : decode cL_move 23 = .ok (.iconst 0, 1) := by decide +kernel
theorem dL_move_24 : decode cL_move 24 = .ok (.ireturn, 1) := by decide +kernel
theorem dL_light_0 : decode cL_light 0 = .ok (.aload_n 0, 1) := by decide +kernel
theorem dL_light_1 : decode cL_light 1 = .ok (.iload_n 1, 1) := by decide +kernel
theorem dL_light_2 : decode cL_light 2 = .ok (.iload_n 2, 1) := by decide +kernel
theorem dL_light_3 : decode cL_light 3 = .ok (.iload_n 3, 1) := by decide +kernel
theorem dL_light_4 : decode cL_light 4 = .ok (.iload 4, 2) := by decide +kernel
theorem dL_light_6 : decode cL_light 6 = .ok (.invokevirtual 63, 3) := by decide +kernel
theorem dL_light_9 : decode cL_light 9 = .ok (.goto 11, 3) := by decide +kernel
theorem dL_light_12 : decode cL_light 12 = .ok (.astore 5, 2) := by decide +kernel
theorem dL_light_14 : decode cL_light 14 = .ok (.iconst 1, 1) := by decide +kernel
theorem dL_light_15 : decode cL_light 15 = .ok (.ireturn, 1) := by decide +kernel
theorem dL_light_16 : decode cL_light 16 = .ok (.astore 5, 2) := by decide +kernel
theorem dL_light_18 : decode cL_light 18 = .ok (.iconst 2, 1) := by decide +kernel
theorem dL_light_19 : decode cL_light 19 = .ok (.ireturn, 1) := by decide +kernel
theorem dL_light_20 : decode cL_light 20 = .ok (.iconst 0, 1) := by decide +kernel
theorem dL_light_21 : decode cL_light 21 = .ok (.ireturn, 1) := by decide +kernel
theorem dL_put_0 : decode cL_put 0 = .ok (.aload 4, 2) := by decide +kernel
theorem dL_put_2 : decode cL_put 2 = .ok (.iconst 0, 1) := by decide +kernel
theorem dL_put_3 : decode cL_put 3 = .ok (.aload_n 0, 1) := by decide +kernel
theorem dL_put_4 : decode cL_put 4 = .ok (.iload_n 1, 1) := by decide +kernel
theorem dL_put_5 : decode cL_put 5 = .ok (.iload_n 2, 1) := by decide +kernel
theorem dL_put_6 : decode cL_put 6 = .ok (.iload_n 3, 1) := by decide +kernel
theorem dL_put_7 : decode cL_put 7 = .ok (.invokevirtual 67, 3) := by decide +kernel
theorem dL_put_10 : decode cL_put 10 = .ok (.i2l, 1) := by decide +kernel
theorem dL_put_11 : decode cL_put 11 = .ok (.lastore, 1) := by decide +kernel
theorem dL_put_12 : decode cL_put 12 = .ok (.goto 11, 3) := by decide +kernel
theorem dL_put_15 : decode cL_put 15 = .ok (.astore 5, 2) := by decide +kernel
theorem dL_put_17 : decode cL_put 17 = .ok (.iconst 1, 1) := by decide +kernel
theorem dL_put_18 : decode cL_put 18 = .ok (.ireturn, 1) := by decide +kernel
theorem dL_put_19 : decode cL_put 19 = .ok (.astore 5, 2) := by decide +kernel
theorem dL_put_21 : decode cL_put 21 = .ok (.iconst 2, 1) := by decide +kernel
theorem dL_put_22 : decode cL_put 22 = .ok (.ireturn, 1) := by decide +kernel
theorem dL_put_23 : decode cL_put 23 = .ok (.iconst 0, 1) := by decide +kernel
theorem dL_put_24 : decode cL_put 24 = .ok (.ireturn, 1) := by decide +kernel
theorem dL_take_0 : decode cL_take 0 = .ok (.aload_n 2, 1) := by decide +kernel
theorem dL_take_1 : decode cL_take 1 = .ok (.iconst 0, 1) := by decide +kernel
theorem dL_take_2 : decode cL_take 2 = .ok (.aload_n 0, 1) := by decide +kernel
theorem dL_take_3 : decode cL_take 3 = .ok (.iload_n 1, 1) := by decide +kernel
theorem dL_take_4 : decode cL_take 4 = .ok (.invokevirtual 70, 3) := by decide +kernel
theorem dL_take_7 : decode cL_take 7 = .ok (.i2l, 1) := by decide +kernel
theorem dL_take_8 : decode cL_take 8 = .ok (.lastore, 1) := by decide +kernel
theorem dL_take_9 : decode cL_take 9 = .ok (.goto 9, 3) := by decide +kernel
theorem dL_take_12 : decode cL_take 12 = .ok (.astore_n 3, 1) := by decide +kernel
theorem dL_take_13 : decode cL_take 13 = .ok (.iconst 1, 1) := by decide +kernel
theorem dL_take_14 : decode cL_take 14 = .ok (.ireturn, 1) := by decide +kernel
theorem dL_take_15 : decode cL_take 15 = .ok (.astore_n 3, 1) := by decide +kernel
theorem dL_take_16 : decode cL_take 16 = .ok (.iconst 2, 1) := by decide +kernel
theorem dL_take_17 : decode cL_take 17 = .ok (.ireturn, 1) := by decide +kernel
theorem dL_take_18 : decode cL_take 18 = .ok (.iconst 0, 1) := by decide +kernel
theorem dL_take_19 : decode cL_take 19 = .ok (.ireturn, 1) := by decide +kernel
theorem dL_mend_0 : decode cL_mend 0 = .ok (.aload_n 2, 1) := by decide +kernel
theorem dL_mend_1 : decode cL_mend 1 = .ok (.iconst 0, 1) := by decide +kernel
theorem dL_mend_2 : decode cL_mend 2 = .ok (.aload_n 0, 1) := by decide +kernel
theorem dL_mend_3 : decode cL_mend 3 = .ok (.iload_n 1, 1) := by decide +kernel
theorem dL_mend_4 : decode cL_mend 4 = .ok (.invokevirtual 73, 3) := by decide +kernel
theorem dL_mend_7 : decode cL_mend 7 = .ok (.i2l, 1) := by decide +kernel
theorem dL_mend_8 : decode cL_mend 8 = .ok (.lastore, 1) := by decide +kernel
theorem dL_mend_9 : decode cL_mend 9 = .ok (.goto 9, 3) := by decide +kernel
theorem dL_mend_12 : decode cL_mend 12 = .ok (.astore_n 3, 1) := by decide +kernel
theorem dL_mend_13 : decode cL_mend 13 = .ok (.iconst 1, 1) := by decide +kernel
theorem dL_mend_14 : decode cL_mend 14 = .ok (.ireturn, 1) := by decide +kernel
theorem dL_mend_15 : decode cL_mend 15 = .ok (.astore_n 3, 1) := by decide +kernel
theorem dL_mend_16 : decode cL_mend 16 = .ok (.iconst 2, 1) := by decide +kernel
theorem dL_mend_17 : decode cL_mend 17 = .ok (.ireturn, 1) := by decide +kernel
theorem dL_mend_18 : decode cL_mend 18 = .ok (.iconst 0, 1) := by decide +kernel
theorem dL_mend_19 : decode cL_mend 19 = .ok (.ireturn, 1) := by decide +kernel
theorem dL_strip_0 : decode cL_strip 0 = .ok (.aload_n 3, 1) := by decide +kernel
theorem dL_strip_1 : decode cL_strip 1 = .ok (.iconst 0, 1) := by decide +kernel
theorem dL_strip_2 : decode cL_strip 2 = .ok (.aload_n 0, 1) := by decide +kernel
theorem dL_strip_3 : decode cL_strip 3 = .ok (.iload_n 1, 1) := by decide +kernel
theorem dL_strip_4 : decode cL_strip 4 = .ok (.iload_n 2, 1) := by decide +kernel
theorem dL_strip_5 : decode cL_strip 5 = .ok (.invokevirtual 76, 3) := by decide +kernel
theorem dL_strip_8 : decode cL_strip 8 = .ok (.i2l, 1) := by decide +kernel
theorem dL_strip_9 : decode cL_strip 9 = .ok (.lastore, 1) := by decide +kernel
theorem dL_strip_10 : decode cL_strip 10 = .ok (.goto 7, 3) := by decide +kernel
theorem dL_strip_13 : decode cL_strip 13 = .ok (.astore 4, 2) := by decide +kernel
theorem dL_strip_15 : decode cL_strip 15 = .ok (.iconst 1, 1) := by decide +kernel
theorem dL_strip_16 : decode cL_strip 16 = .ok (.ireturn, 1) := by decide +kernel
theorem dL_strip_17 : decode cL_strip 17 = .ok (.iconst 0, 1) := by decide +kernel
theorem dL_strip_18 : decode cL_strip 18 = .ok (.ireturn, 1) := by decide +kernel
theorem dL_ofScene_0 : decode cL_ofScene 0 = .ok (.aload_n 3, 1) := by decide +kernel
theorem dL_ofScene_1 : decode cL_ofScene 1 = .ok (.iconst 0, 1) := by decide +kernel
theorem dL_ofScene_2 : decode cL_ofScene 2 = .ok (.aload_n 0, 1) := by decide +kernel
theorem dL_ofScene_3 : decode cL_ofScene 3 = .ok (.iload_n 1, 1) := by decide +kernel
theorem dL_ofScene_4 : decode cL_ofScene 4 = .ok (.iload_n 2, 1) := by decide +kernel
theorem dL_ofScene_5 : decode cL_ofScene 5 = .ok (.invokevirtual 79, 3) := by decide +kernel
theorem dL_ofScene_8 : decode cL_ofScene 8 = .ok (.i2l, 1) := by decide +kernel
theorem dL_ofScene_9 : decode cL_ofScene 9 = .ok (.lastore, 1) := by decide +kernel
theorem dL_ofScene_10 : decode cL_ofScene 10 = .ok (.goto 11, 3) := by decide +kernel
theorem dL_ofScene_13 : decode cL_ofScene 13 = .ok (.astore 4, 2) := by decide +kernel
theorem dL_ofScene_15 : decode cL_ofScene 15 = .ok (.iconst 1, 1) := by decide +kernel
theorem dL_ofScene_16 : decode cL_ofScene 16 = .ok (.ireturn, 1) := by decide +kernel
theorem dL_ofScene_17 : decode cL_ofScene 17 = .ok (.astore 4, 2) := by decide +kernel
theorem dL_ofScene_19 : decode cL_ofScene 19 = .ok (.iconst 2, 1) := by decide +kernel
theorem dL_ofScene_20 : decode cL_ofScene 20 = .ok (.ireturn, 1) := by decide +kernel
theorem dL_ofScene_21 : decode cL_ofScene 21 = .ok (.iconst 0, 1) := by decide +kernel
theorem dL_ofScene_22 : decode cL_ofScene 22 = .ok (.ireturn, 1) := by decide +kernel
theorem dL_call_0 : decode cL_call 0 = .ok (.aload 4, 2) := by decide +kernel
theorem dL_call_2 : decode cL_call 2 = .ok (.iconst 0, 1) := by decide +kernel
theorem dL_call_3 : decode cL_call 3 = .ok (.aload_n 0, 1) := by decide +kernel
theorem dL_call_4 : decode cL_call 4 = .ok (.iload_n 1, 1) := by decide +kernel
theorem dL_call_5 : decode cL_call 5 = .ok (.iload_n 2, 1) := by decide +kernel
theorem dL_call_6 : decode cL_call 6 = .ok (.iload_n 3, 1) := by decide +kernel
theorem dL_call_7 : decode cL_call 7 = .ok (.invokevirtual 82, 3) := by decide +kernel
theorem dL_call_10 : decode cL_call 10 = .ok (.i2l, 1) := by decide +kernel
theorem dL_call_11 : decode cL_call 11 = .ok (.lastore, 1) := by decide +kernel
theorem dL_call_12 : decode cL_call 12 = .ok (.goto 7, 3) := by decide +kernel
theorem dL_call_15 : decode cL_call 15 = .ok (.astore 5, 2) := by decide +kernel
theorem dL_call_17 : decode cL_call 17 = .ok (.iconst 1, 1) := by decide +kernel
theorem dL_call_18 : decode cL_call 18 = .ok (.ireturn, 1) := by decide +kernel
theorem dL_call_19 : decode cL_call 19 = .ok (.iconst 0, 1) := by decide +kernel
theorem dL_call_20 : decode cL_call 20 = .ok (.ireturn, 1) := by decide +kernel
theorem dL_shoot_0 : decode cL_shoot 0 = .ok (.aload_n 3, 1) := by decide +kernel
theorem dL_shoot_1 : decode cL_shoot 1 = .ok (.iconst 0, 1) := by decide +kernel
theorem dL_shoot_2 : decode cL_shoot 2 = .ok (.aload_n 0, 1) := by decide +kernel
theorem dL_shoot_3 : decode cL_shoot 3 = .ok (.iload_n 1, 1) := by decide +kernel
theorem dL_shoot_4 : decode cL_shoot 4 = .ok (.iload_n 2, 1) := by decide +kernel
theorem dL_shoot_5 : decode cL_shoot 5 = .ok (.invokevirtual 85, 3) := by decide +kernel
theorem dL_shoot_8 : decode cL_shoot 8 = .ok (.i2l, 1) := by decide +kernel
theorem dL_shoot_9 : decode cL_shoot 9 = .ok (.lastore, 1) := by decide +kernel
theorem dL_shoot_10 : decode cL_shoot 10 = .ok (.goto 15, 3) := by decide +kernel
theorem dL_shoot_13 : decode cL_shoot 13 = .ok (.astore 4, 2) := by decide +kernel
theorem dL_shoot_15 : decode cL_shoot 15 = .ok (.iconst 1, 1) := by decide +kernel
theorem dL_shoot_16 : decode cL_shoot 16 = .ok (.ireturn, 1) := by decide +kernel
theorem dL_shoot_17 : decode cL_shoot 17 = .ok (.astore 4, 2) := by decide +kernel
theorem dL_shoot_19 : decode cL_shoot 19 = .ok (.iconst 2, 1) := by decide +kernel
theorem dL_shoot_20 : decode cL_shoot 20 = .ok (.ireturn, 1) := by decide +kernel
theorem dL_shoot_21 : decode cL_shoot 21 = .ok (.astore 4, 2) := by decide +kernel
theorem dL_shoot_23 : decode cL_shoot 23 = .ok (.iconst 3, 1) := by decide +kernel
theorem dL_shoot_24 : decode cL_shoot 24 = .ok (.ireturn, 1) := by decide +kernel
theorem dL_shoot_25 : decode cL_shoot 25 = .ok (.iconst 0, 1) := by decide +kernel
theorem dL_shoot_26 : decode cL_shoot 26 = .ok (.ireturn, 1) := by decide +kernel
theorem dL_lose_0 : decode cL_lose 0 = .ok (.aload_n 2, 1) := by decide +kernel
theorem dL_lose_1 : decode cL_lose 1 = .ok (.iconst 0, 1) := by decide +kernel
theorem dL_lose_2 : decode cL_lose 2 = .ok (.aload_n 0, 1) := by decide +kernel
theorem dL_lose_3 : decode cL_lose 3 = .ok (.iload_n 1, 1) := by decide +kernel
theorem dL_lose_4 : decode cL_lose 4 = .ok (.invokevirtual 88, 3) := by decide +kernel
theorem dL_lose_7 : decode cL_lose 7 = .ok (.i2l, 1) := by decide +kernel
theorem dL_lose_8 : decode cL_lose 8 = .ok (.lastore, 1) := by decide +kernel
theorem dL_lose_9 : decode cL_lose 9 = .ok (.goto 9, 3) := by decide +kernel
theorem dL_lose_12 : decode cL_lose 12 = .ok (.astore_n 3, 1) := by decide +kernel
theorem dL_lose_13 : decode cL_lose 13 = .ok (.iconst 1, 1) := by decide +kernel
theorem dL_lose_14 : decode cL_lose 14 = .ok (.ireturn, 1) := by decide +kernel
theorem dL_lose_15 : decode cL_lose 15 = .ok (.astore_n 3, 1) := by decide +kernel
theorem dL_lose_16 : decode cL_lose 16 = .ok (.iconst 2, 1) := by decide +kernel
theorem dL_lose_17 : decode cL_lose 17 = .ok (.ireturn, 1) := by decide +kernel
theorem dL_lose_18 : decode cL_lose 18 = .ok (.iconst 0, 1) := by decide +kernel
theorem dL_lose_19 : decode cL_lose 19 = .ok (.ireturn, 1) := by decide +kernel
theorem dL_next_0 : decode cL_next 0 = .ok (.aload_n 1, 1) := by decide +kernel
theorem dL_next_1 : decode cL_next 1 = .ok (.iconst 0, 1) := by decide +kernel
theorem dL_next_2 : decode cL_next 2 = .ok (.aload_n 0, 1) := by decide +kernel
theorem dL_next_3 : decode cL_next 3 = .ok (.invokevirtual 91, 3) := by decide +kernel
theorem dL_next_6 : decode cL_next 6 = .ok (.i2l, 1) := by decide +kernel
theorem dL_next_7 : decode cL_next 7 = .ok (.lastore, 1) := by decide +kernel
theorem dL_next_8 : decode cL_next 8 = .ok (.goto 6, 3) := by decide +kernel
theorem dL_next_11 : decode cL_next 11 = .ok (.astore_n 2, 1) := by decide +kernel
theorem dL_next_12 : decode cL_next 12 = .ok (.iconst 1, 1) := by decide +kernel
theorem dL_next_13 : decode cL_next 13 = .ok (.ireturn, 1) := by decide +kernel
theorem dL_next_14 : decode cL_next 14 = .ok (.iconst 0, 1) := by decide +kernel
theorem dL_next_15 : decode cL_next 15 = .ok (.ireturn, 1) := by decide +kernel
theorem dL_pay_0 : decode cL_pay 0 = .ok (.aload_n 3, 1) := by decide +kernel
theorem dL_pay_1 : decode cL_pay 1 = .ok (.iconst 0, 1) := by decide +kernel
theorem dL_pay_2 : decode cL_pay 2 = .ok (.aload_n 0, 1) := by decide +kernel
theorem dL_pay_3 : decode cL_pay 3 = .ok (.iload_n 1, 1) := by decide +kernel
theorem dL_pay_4 : decode cL_pay 4 = .ok (.iload_n 2, 1) := by decide +kernel
theorem dL_pay_5 : decode cL_pay 5 = .ok (.invokevirtual 94, 3) := by decide +kernel
theorem dL_pay_8 : decode cL_pay 8 = .ok (.i2l, 1) := by decide +kernel
theorem dL_pay_9 : decode cL_pay 9 = .ok (.lastore, 1) := by decide +kernel
theorem dL_pay_10 : decode cL_pay 10 = .ok (.goto 7, 3) := by decide +kernel
theorem dL_pay_13 : decode cL_pay 13 = .ok (.astore 4, 2) := by decide +kernel
theorem dL_pay_15 : decode cL_pay 15 = .ok (.iconst 1, 1) := by decide +kernel
theorem dL_pay_16 : decode cL_pay 16 = .ok (.ireturn, 1) := by decide +kernel
theorem dL_pay_17 : decode cL_pay 17 = .ok (.iconst 0, 1) := by decide +kernel
theorem dL_pay_18 : decode cL_pay 18 = .ok (.ireturn, 1) := by decide +kernel
theorem dL_law_0 : decode cL_law 0 = .ok (.new 8, 3) := by decide +kernel
theorem dL_law_3 : decode cL_law 3 = .ok (.dup, 1) := by decide +kernel
theorem dL_law_4 : decode cL_law 4 = .ok (.invokespecial 98, 3) := by decide +kernel
theorem dL_law_7 : decode cL_law 7 = .ok (.astore_n 1, 1) := by decide +kernel
theorem dL_law_8 : decode cL_law 8 = .ok (.new 99, 3) := by decide +kernel
theorem dL_law_11 : decode cL_law 11 = .ok (.dup, 1) := by decide +kernel
theorem dL_law_12 : decode cL_law 12 = .ok (.invokespecial 101, 3) := by decide +kernel
theorem dL_law_15 : decode cL_law 15 = .ok (.astore_n 2, 1) := by decide +kernel
theorem dL_law_16 : decode cL_law 16 = .ok (.iconst 1, 1) := by decide +kernel
theorem dL_law_17 : decode cL_law 17 = .ok (.newarray .long, 2) := by decide +kernel
theorem dL_law_19 : decode cL_law 19 = .ok (.astore_n 3, 1) := by decide +kernel
theorem dL_law_20 : decode cL_law 20 = .ok (.iconst 0, 1) := by decide +kernel
theorem dL_law_21 : decode cL_law 21 = .ok (.istore 4, 2) := by decide +kernel
theorem dL_law_23 : decode cL_law 23 = .ok (.iload 4, 2) := by decide +kernel
theorem dL_law_25 : decode cL_law 25 = .ok (.aload_n 0, 1) := by decide +kernel
theorem dL_law_26 : decode cL_law 26 = .ok (.arraylength, 1) := by decide +kernel
theorem dL_law_27 : decode cL_law 27 = .ok (.bipush 6, 2) := by decide +kernel
theorem dL_law_29 : decode cL_law 29 = .ok (.isub, 1) := by decide +kernel
theorem dL_law_30 : decode cL_law 30 = .ok (.if_icmp .gt 1945, 3) := by decide +kernel
theorem dL_law_33 : decode cL_law 33 = .ok (.aload_n 0, 1) := by decide +kernel
theorem dL_law_34 : decode cL_law 34 = .ok (.iload 4, 2) := by decide +kernel
theorem dL_law_36 : decode cL_law 36 = .ok (.iaload, 1) := by decide +kernel
theorem dL_law_37 : decode cL_law 37 = .ok (.bipush 31, 2) := by decide +kernel
theorem dL_law_39 : decode cL_law 39 = .ok (.iand, 1) := by decide +kernel
theorem dL_law_40 : decode cL_law 40 = .ok (.tableswitch 1929 0 25 #[120, 256, 300, 356, 412, 480, 588, 651, 719, 827, 923, 979, 1075, 1155, 1227, 1307, 1363, 1376, 1432, 1500, 1568, 1664, 1732, 1788, 1832, 1916], 120) := by decide +kernel
theorem dL_law_160 : decode cL_law 160 = .ok (.aload_n 1, 1) := by decide +kernel
theorem dL_law_161 : decode cL_law 161 = .ok (.aload_n 0, 1) := by decide +kernel
theorem dL_law_162 : decode cL_law 162 = .ok (.iload 4, 2) := by decide +kernel
theorem dL_law_164 : decode cL_law 164 = .ok (.iconst 1, 1) := by decide +kernel
theorem dL_law_165 : decode cL_law 165 = .ok (.iadd, 1) := by decide +kernel
theorem dL_law_166 : decode cL_law 166 = .ok (.iaload, 1) := by decide +kernel
theorem dL_law_167 : decode cL_law 167 = .ok (.aload_n 0, 1) := by decide +kernel
theorem dL_law_168 : decode cL_law 168 = .ok (.iload 4, 2) := by decide +kernel
theorem dL_law_170 : decode cL_law 170 = .ok (.iconst 2, 1) := by decide +kernel
theorem dL_law_171 : decode cL_law 171 = .ok (.iadd, 1) := by decide +kernel
theorem dL_law_172 : decode cL_law 172 = .ok (.iaload, 1) := by decide +kernel
theorem dL_law_173 : decode cL_law 173 = .ok (.aload_n 0, 1) := by decide +kernel
theorem dL_law_174 : decode cL_law 174 = .ok (.iload 4, 2) := by decide +kernel
theorem dL_law_176 : decode cL_law 176 = .ok (.iconst 3, 1) := by decide +kernel
theorem dL_law_177 : decode cL_law 177 = .ok (.iadd, 1) := by decide +kernel
theorem dL_law_178 : decode cL_law 178 = .ok (.iaload, 1) := by decide +kernel
theorem dL_law_179 : decode cL_law 179 = .ok (.ifCond .eq 7, 3) := by decide +kernel
theorem dL_law_182 : decode cL_law 182 = .ok (.iconst 1, 1) := by decide +kernel
theorem dL_law_183 : decode cL_law 183 = .ok (.goto 4, 3) := by decide +kernel
theorem dL_law_186 : decode cL_law 186 = .ok (.iconst 0, 1) := by decide +kernel
theorem dL_law_187 : decode cL_law 187 = .ok (.aload_n 0, 1) := by decide +kernel
theorem dL_law_188 : decode cL_law 188 = .ok (.iload 4, 2) := by decide +kernel
theorem dL_law_190 : decode cL_law 190 = .ok (.iconst 4, 1) := by decide +kernel
theorem dL_law_191 : decode cL_law 191 = .ok (.iadd, 1) := by decide +kernel
theorem dL_law_192 : decode cL_law 192 = .ok (.iaload, 1) := by decide +kernel
theorem dL_law_193 : decode cL_law 193 = .ok (.ifCond .eq 7, 3) := by decide +kernel
theorem dL_law_196 : decode cL_law 196 = .ok (.iconst 1, 1) := by decide +kernel
theorem dL_law_197 : decode cL_law 197 = .ok (.goto 4, 3) := by decide +kernel
theorem dL_law_200 : decode cL_law 200 = .ok (.iconst 0, 1) := by decide +kernel
theorem dL_law_201 : decode cL_law 201 = .ok (.aload_n 0, 1) := by decide +kernel
theorem dL_law_202 : decode cL_law 202 = .ok (.iload 4, 2) := by decide +kernel
theorem dL_law_204 : decode cL_law 204 = .ok (.iconst 5, 1) := by decide +kernel
theorem dL_law_205 : decode cL_law 205 = .ok (.iadd, 1) := by decide +kernel
theorem dL_law_206 : decode cL_law 206 = .ok (.iaload, 1) := by decide +kernel
theorem dL_law_207 : decode cL_law 207 = .ok (.aload_n 3, 1) := by decide +kernel
theorem dL_law_208 : decode cL_law 208 = .ok (.invokestatic 102, 3) := by decide +kernel
theorem dL_law_211 : decode cL_law 211 = .ok (.istore 5, 2) := by decide +kernel
theorem dL_law_213 : decode cL_law 213 = .ok (.aload_n 2, 1) := by decide +kernel
theorem dL_law_214 : decode cL_law 214 = .ok (.aload_n 0, 1) := by decide +kernel
theorem dL_law_215 : decode cL_law 215 = .ok (.iload 4, 2) := by decide +kernel
theorem dL_law_217 : decode cL_law 217 = .ok (.iconst 1, 1) := by decide +kernel
theorem dL_law_218 : decode cL_law 218 = .ok (.iadd, 1) := by decide +kernel
theorem dL_law_219 : decode cL_law 219 = .ok (.iaload, 1) := by decide +kernel
theorem dL_law_220 : decode cL_law 220 = .ok (.aload_n 0, 1) := by decide +kernel
theorem dL_law_221 : decode cL_law 221 = .ok (.iload 4, 2) := by decide +kernel
theorem dL_law_223 : decode cL_law 223 = .ok (.iconst 2, 1) := by decide +kernel
theorem dL_law_224 : decode cL_law 224 = .ok (.iadd, 1) := by decide +kernel
theorem dL_law_225 : decode cL_law 225 = .ok (.iaload, 1) := by decide +kernel
theorem dL_law_226 : decode cL_law 226 = .ok (.aload_n 0, 1) := by decide +kernel
theorem dL_law_227 : decode cL_law 227 = .ok (.iload 4, 2) := by decide +kernel
theorem dL_law_229 : decode cL_law 229 = .ok (.iconst 3, 1) := by decide +kernel
theorem dL_law_230 : decode cL_law 230 = .ok (.iadd, 1) := by decide +kernel
theorem dL_law_231 : decode cL_law 231 = .ok (.iaload, 1) := by decide +kernel
theorem dL_law_232 : decode cL_law 232 = .ok (.ifCond .eq 7, 3) := by decide +kernel
theorem dL_law_235 : decode cL_law 235 = .ok (.iconst 1, 1) := by decide +kernel
theorem dL_law_236 : decode cL_law 236 = .ok (.goto 4, 3) := by decide +kernel
theorem dL_law_239 : decode cL_law 239 = .ok (.iconst 0, 1) := by decide +kernel
theorem dL_law_240 : decode cL_law 240 = .ok (.aload_n 0, 1) := by decide +kernel
theorem dL_law_241 : decode cL_law 241 = .ok (.iload 4, 2) := by decide +kernel
theorem dL_law_243 : decode cL_law 243 = .ok (.iconst 4, 1) := by decide +kernel
theorem dL_law_244 : decode cL_law 244 = .ok (.iadd, 1) := by decide +kernel
theorem dL_law_245 : decode cL_law 245 = .ok (.iaload, 1) := by decide +kernel
theorem dL_law_246 : decode cL_law 246 = .ok (.ifCond .eq 7, 3) := by decide +kernel
theorem dL_law_249 : decode cL_law 249 = .ok (.iconst 1, 1) := by decide +kernel
theorem dL_law_250 : decode cL_law 250 = .ok (.goto 4, 3) := by decide +kernel
theorem dL_law_253 : decode cL_law 253 = .ok (.iconst 0, 1) := by decide +kernel
theorem dL_law_254 : decode cL_law 254 = .ok (.aload_n 0, 1) := by decide +kernel
theorem dL_law_255 : decode cL_law 255 = .ok (.iload 4, 2) := by decide +kernel
theorem dL_law_257 : decode cL_law 257 = .ok (.iconst 5, 1) := by decide +kernel
theorem dL_law_258 : decode cL_law 258 = .ok (.iadd, 1) := by decide +kernel
theorem dL_law_259 : decode cL_law 259 = .ok (.iaload, 1) := by decide +kernel
theorem dL_law_260 : decode cL_law 260 = .ok (.invokevirtual 107, 3) := by decide +kernel
theorem dL_law_263 : decode cL_law 263 = .ok (.istore 6, 2) := by decide +kernel
theorem dL_law_265 : decode cL_law 265 = .ok (.aload_n 2, 1) := by decide +kernel
theorem dL_law_266 : decode cL_law 266 = .ok (.invokevirtual 108, 3) := by decide +kernel
theorem dL_law_269 : decode cL_law 269 = .ok (.iload 5, 2) := by decide +kernel
theorem dL_law_271 : decode cL_law 271 = .ok (.if_icmp .eq 5, 3) := by decide +kernel
theorem dL_law_274 : decode cL_law 274 = .ok (.iconst 0, 1) := by decide +kernel
theorem dL_law_275 : decode cL_law 275 = .ok (.ireturn, 1) := by decide +kernel
theorem dL_law_276 : decode cL_law 276 = .ok (.iload 5, 2) := by decide +kernel
theorem dL_law_278 : decode cL_law 278 = .ok (.ifCond .ne 15, 3) := by decide +kernel
theorem dL_law_281 : decode cL_law 281 = .ok (.aload_n 3, 1) := by decide +kernel
theorem dL_law_282 : decode cL_law 282 = .ok (.iconst 0, 1) := by decide +kernel
theorem dL_law_283 : decode cL_law 283 = .ok (.laload, 1) := by decide +kernel
theorem dL_law_284 : decode cL_law 284 = .ok (.iload 6, 2) := by decide +kernel
theorem dL_law_286 : decode cL_law 286 = .ok (.i2l, 1) := by decide +kernel
theorem dL_law_287 : decode cL_law 287 = .ok (.lcmp, 1) := by decide +kernel
theorem dL_law_288 : decode cL_law 288 = .ok (.ifCond .eq 5, 3) := by decide +kernel
theorem dL_law_291 : decode cL_law 291 = .ok (.iconst 0, 1) := by decide +kernel
theorem dL_law_292 : decode cL_law 292 = .ok (.ireturn, 1) := by decide +kernel
theorem dL_law_293 : decode cL_law 293 = .ok (.goto 1676, 3) := by decide +kernel
theorem dL_law_296 : decode cL_law 296 = .ok (.aload_n 1, 1) := by decide +kernel
theorem dL_law_297 : decode cL_law 297 = .ok (.aload_n 3, 1) := by decide +kernel
theorem dL_law_298 : decode cL_law 298 = .ok (.invokestatic 111, 3) := by decide +kernel
theorem dL_law_301 : decode cL_law 301 = .ok (.istore 5, 2) := by decide +kernel
theorem dL_law_303 : decode cL_law 303 = .ok (.aload_n 2, 1) := by decide +kernel
theorem dL_law_304 : decode cL_law 304 = .ok (.invokevirtual 114, 3) := by decide +kernel
theorem dL_law_307 : decode cL_law 307 = .ok (.istore 6, 2) := by decide +kernel
theorem dL_law_309 : decode cL_law 309 = .ok (.aload_n 2, 1) := by decide +kernel
theorem dL_law_310 : decode cL_law 310 = .ok (.invokevirtual 108, 3) := by decide +kernel
theorem dL_law_313 : decode cL_law 313 = .ok (.iload 5, 2) := by decide +kernel
theorem dL_law_315 : decode cL_law 315 = .ok (.if_icmp .eq 5, 3) := by decide +kernel
theorem dL_law_318 : decode cL_law 318 = .ok (.iconst 0, 1) := by decide +kernel
theorem dL_law_319 : decode cL_law 319 = .ok (.ireturn, 1) := by decide +kernel
theorem dL_law_320 : decode cL_law 320 = .ok (.iload 5, 2) := by decide +kernel
theorem dL_law_322 : decode cL_law 322 = .ok (.ifCond .ne 15, 3) := by decide +kernel
theorem dL_law_325 : decode cL_law 325 = .ok (.aload_n 3, 1) := by decide +kernel
theorem dL_law_326 : decode cL_law 326 = .ok (.iconst 0, 1) := by decide +kernel
theorem dL_law_327 : decode cL_law 327 = .ok (.laload, 1) := by decide +kernel
theorem dL_law_328 : decode cL_law 328 = .ok (.iload 6, 2) := by decide +kernel
theorem dL_law_330 : decode cL_law 330 = .ok (.i2l, 1) := by decide +kernel
theorem dL_law_331 : decode cL_law 331 = .ok (.lcmp, 1) := by decide +kernel
theorem dL_law_332 : decode cL_law 332 = .ok (.ifCond .eq 5, 3) := by decide +kernel
theorem dL_law_335 : decode cL_law 335 = .ok (.iconst 0, 1) := by decide +kernel
theorem dL_law_336 : decode cL_law 336 = .ok (.ireturn, 1) := by decide +kernel
theorem dL_law_337 : decode cL_law 337 = .ok (.goto 1632, 3) := by decide +kernel
theorem dL_law_340 : decode cL_law 340 = .ok (.aload_n 1, 1) := by decide +kernel
theorem dL_law_341 : decode cL_law 341 = .ok (.aload_n 0, 1) := by decide +kernel
theorem dL_law_342 : decode cL_law 342 = .ok (.iload 4, 2) := by decide +kernel
theorem dL_law_344 : decode cL_law 344 = .ok (.iconst 1, 1) := by decide +kernel
theorem dL_law_345 : decode cL_law 345 = .ok (.iadd, 1) := by decide +kernel
theorem dL_law_346 : decode cL_law 346 = .ok (.iaload, 1) := by decide +kernel
theorem dL_law_347 : decode cL_law 347 = .ok (.aload_n 3, 1) := by decide +kernel
theorem dL_law_348 : decode cL_law 348 = .ok (.invokestatic 115, 3) := by decide +kernel
theorem dL_law_351 : decode cL_law 351 = .ok (.istore 5, 2) := by decide +kernel
theorem dL_law_353 : decode cL_law 353 = .ok (.aload_n 2, 1) := by decide +kernel
theorem dL_law_354 : decode cL_law 354 = .ok (.aload_n 0, 1) := by decide +kernel
theorem dL_law_355 : decode cL_law 355 = .ok (.iload 4, 2) := by decide +kernel
theorem dL_law_357 : decode cL_law 357 = .ok (.iconst 1, 1) := by decide +kernel
theorem dL_law_358 : decode cL_law 358 = .ok (.iadd, 1) := by decide +kernel
theorem dL_law_359 : decode cL_law 359 = .ok (.iaload, 1) := by decide +kernel
theorem dL_law_360 : decode cL_law 360 = .ok (.invokevirtual 118, 3) := by decide +kernel
theorem dL_law_363 : decode cL_law 363 = .ok (.istore 6, 2) := by decide +kernel
theorem dL_law_365 : decode cL_law 365 = .ok (.aload_n 2, 1) := by decide +kernel
theorem dL_law_366 : decode cL_law 366 = .ok (.invokevirtual 108, 3) := by decide +kernel
theorem dL_law_369 : decode cL_law 369 = .ok (.iload 5, 2) := by decide +kernel
theorem dL_law_371 : decode cL_law 371 = .ok (.if_icmp .eq 5, 3) := by decide +kernel
theorem dL_law_374 : decode cL_law 374 = .ok (.iconst 0, 1) := by decide +kernel
theorem dL_law_375 : decode cL_law 375 = .ok (.ireturn, 1) := by decide +kernel
theorem dL_law_376 : decode cL_law 376 = .ok (.iload 5, 2) := by decide +kernel
theorem dL_law_378 : decode cL_law 378 = .ok (.ifCond .ne 15, 3) := by decide +kernel
theorem dL_law_381 : decode cL_law 381 = .ok (.aload_n 3, 1) := by decide +kernel
theorem dL_law_382 : decode cL_law 382 = .ok (.iconst 0, 1) := by decide +kernel
theorem dL_law_383 : decode cL_law 383 = .ok (.laload, 1) := by decide +kernel
theorem dL_law_384 : decode cL_law 384 = .ok (.iload 6, 2) := by decide +kernel
theorem dL_law_386 : decode cL_law 386 = .ok (.i2l, 1) := by decide +kernel
theorem dL_law_387 : decode cL_law 387 = .ok (.lcmp, 1) := by decide +kernel
theorem dL_law_388 : decode cL_law 388 = .ok (.ifCond .eq 5, 3) := by decide +kernel
theorem dL_law_391 : decode cL_law 391 = .ok (.iconst 0, 1) := by decide +kernel
theorem dL_law_392 : decode cL_law 392 = .ok (.ireturn, 1) := by decide +kernel
theorem dL_law_393 : decode cL_law 393 = .ok (.goto 1576, 3) := by decide +kernel
theorem dL_law_396 : decode cL_law 396 = .ok (.aload_n 1, 1) := by decide +kernel
theorem dL_law_397 : decode cL_law 397 = .ok (.aload_n 0, 1) := by decide +kernel
theorem dL_law_398 : decode cL_law 398 = .ok (.iload 4, 2) := by decide +kernel
theorem dL_law_400 : decode cL_law 400 = .ok (.iconst 1, 1) := by decide +kernel
theorem dL_law_401 : decode cL_law 401 = .ok (.iadd, 1) := by decide +kernel
theorem dL_law_402 : decode cL_law 402 = .ok (.iaload, 1) := by decide +kernel
theorem dL_law_403 : decode cL_law 403 = .ok (.aload_n 3, 1) := by decide +kernel
theorem dL_law_404 : decode cL_law 404 = .ok (.invokestatic 119, 3) := by decide +kernel
theorem dL_law_407 : decode cL_law 407 = .ok (.istore 5, 2) := by decide +kernel
theorem dL_law_409 : decode cL_law 409 = .ok (.aload_n 2, 1) := by decide +kernel
theorem dL_law_410 : decode cL_law 410 = .ok (.aload_n 0, 1) := by decide +kernel
theorem dL_law_411 : decode cL_law 411 = .ok (.iload 4, 2) := by decide +kernel
theorem dL_law_413 : decode cL_law 413 = .ok (.iconst 1, 1) := by decide +kernel
