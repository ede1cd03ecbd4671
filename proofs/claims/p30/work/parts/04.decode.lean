theorem dX0_init_0 : decode cX0_init 0 = .ok (.aload_n 0, 1) := by decide +kernel
theorem dX0_init_1 : decode cX0_init 1 = .ok (.invokespecial 3, 3) := by decide +kernel
theorem dX0_init_4 : decode cX0_init 4 = .ok (.aload_n 0, 1) := by decide +kernel
theorem dX0_init_5 : decode cX0_init 5 = .ok (.new 9, 3) := by decide +kernel
theorem dX0_init_8 : decode cX0_init 8 = .ok (.dup, 1) := by decide +kernel
theorem dX0_init_9 : decode cX0_init 9 = .ok (.invokespecial 11, 3) := by decide +kernel
theorem dX0_init_12 : decode cX0_init 12 = .ok (.putfield 12, 3) := by decide +kernel
theorem dX0_init_15 : decode cX0_init 15 = .ok (.return_, 1) := by decide +kernel
theorem dX1_init_0 : decode cX1_init 0 = .ok (.aload_n 0, 1) := by decide +kernel
theorem dX1_init_1 : decode cX1_init 1 = .ok (.invokespecial 3, 3) := by decide +kernel
theorem dX1_init_4 : decode cX1_init 4 = .ok (.aload_n 0, 1) := by decide +kernel
theorem dX1_init_5 : decode cX1_init 5 = .ok (.bipush 6, 2) := by decide +kernel
theorem dX1_init_7 : decode cX1_init 7 = .ok (.newarray .int, 2) := by decide +kernel
theorem dX1_init_9 : decode cX1_init 9 = .ok (.putfield 9, 3) := by decide +kernel
theorem dX1_init_12 : decode cX1_init 12 = .ok (.return_, 1) := by decide +kernel
theorem dX1_clear_0 : decode cX1_clear 0 = .ok (.aload_n 0, 1) := by decide +kernel
theorem dX1_clear_1 : decode cX1_clear 1 = .ok (.iconst 0, 1) := by decide +kernel
theorem dX1_clear_2 : decode cX1_clear 2 = .ok (.putfield 15, 3) := by decide +kernel
theorem dX1_clear_5 : decode cX1_clear 5 = .ok (.return_, 1) := by decide +kernel
theorem dX1_copyFrom_0 : decode cX1_copyFrom 0 = .ok (.aload_n 1, 1) := by decide +kernel
theorem dX1_copyFrom_1 : decode cX1_copyFrom 1 = .ok (.getfield 9, 3) := by decide +kernel
theorem dX1_copyFrom_4 : decode cX1_copyFrom 4 = .ok (.iconst 0, 1) := by decide +kernel
theorem dX1_copyFrom_5 : decode cX1_copyFrom 5 = .ok (.aload_n 0, 1) := by decide +kernel
theorem dX1_copyFrom_6 : decode cX1_copyFrom 6 = .ok (.getfield 9, 3) := by decide +kernel
theorem dX1_copyFrom_9 : decode cX1_copyFrom 9 = .ok (.iconst 0, 1) := by decide +kernel
theorem dX1_copyFrom_10 : decode cX1_copyFrom 10 = .ok (.bipush 6, 2) := by decide +kernel
theorem dX1_copyFrom_12 : decode cX1_copyFrom 12 = .ok (.invokestatic 19, 3) := by decide +kernel
theorem dX1_copyFrom_15 : decode cX1_copyFrom 15 = .ok (.aload_n 0, 1) := by decide +kernel
theorem dX1_copyFrom_16 : decode cX1_copyFrom 16 = .ok (.aload_n 1, 1) := by decide +kernel
theorem dX1_copyFrom_17 : decode cX1_copyFrom 17 = .ok (.getfield 15, 3) := by decide +kernel
theorem dX1_copyFrom_20 : decode cX1_copyFrom 20 = .ok (.putfield 15, 3) := by decide +kernel
theorem dX1_copyFrom_23 : decode cX1_copyFrom 23 = .ok (.return_, 1) := by decide +kernel
theorem dX1_add_0 : decode cX1_add 0 = .ok (.aload_n 0, 1) := by decide +kernel
theorem dX1_add_1 : decode cX1_add 1 = .ok (.getfield 9, 3) := by decide +kernel
theorem dX1_add_4 : decode cX1_add 4 = .ok (.aload_n 0, 1) := by decide +kernel
theorem dX1_add_5 : decode cX1_add 5 = .ok (.getfield 15, 3) := by decide +kernel
theorem dX1_add_8 : decode cX1_add 8 = .ok (.bipush 6, 2) := by decide +kernel
theorem dX1_add_10 : decode cX1_add 10 = .ok (.invokestatic 25, 3) := by decide +kernel
theorem dX1_add_13 : decode cX1_add 13 = .ok (.iload_n 1, 1) := by decide +kernel
theorem dX1_add_14 : decode cX1_add 14 = .ok (.iastore, 1) := by decide +kernel
theorem dX1_add_15 : decode cX1_add 15 = .ok (.aload_n 0, 1) := by decide +kernel
theorem dX1_add_16 : decode cX1_add 16 = .ok (.dup, 1) := by decide +kernel
theorem dX1_add_17 : decode cX1_add 17 = .ok (.getfield 15, 3) := by decide +kernel
theorem dX1_add_20 : decode cX1_add 20 = .ok (.iconst 1, 1) := by decide +kernel
theorem dX1_add_21 : decode cX1_add 21 = .ok (.iadd, 1) := by decide +kernel
theorem dX1_add_22 : decode cX1_add 22 = .ok (.putfield 15, 3) := by decide +kernel
theorem dX1_add_25 : decode cX1_add 25 = .ok (.return_, 1) := by decide +kernel
theorem dX1_usual_0 : decode cX1_usual 0 = .ok (.aload_n 0, 1) := by decide +kernel
theorem dX1_usual_1 : decode cX1_usual 1 = .ok (.getfield 15, 3) := by decide +kernel
theorem dX1_usual_4 : decode cX1_usual 4 = .ok (.bipush 6, 2) := by decide +kernel
theorem dX1_usual_6 : decode cX1_usual 6 = .ok (.invokestatic 31, 3) := by decide +kernel
theorem dX1_usual_9 : decode cX1_usual 9 = .ok (.istore_n 2, 1) := by decide +kernel
theorem dX1_usual_10 : decode cX1_usual 10 = .ok (.iload_n 2, 1) := by decide +kernel
theorem dX1_usual_11 : decode cX1_usual 11 = .ok (.ifCond .gt 5, 3) := by decide +kernel
theorem dX1_usual_14 : decode cX1_usual 14 = .ok (.iload_n 1, 1) := by decide +kernel
theorem dX1_usual_15 : decode cX1_usual 15 = .ok (.ireturn, 1) := by decide +kernel
theorem dX1_usual_16 : decode cX1_usual 16 = .ok (.iconst 0, 1) := by decide +kernel
theorem dX1_usual_17 : decode cX1_usual 17 = .ok (.istore_n 3, 1) := by decide +kernel
theorem dX1_usual_18 : decode cX1_usual 18 = .ok (.iconst 0, 1) := by decide +kernel
theorem dX1_usual_19 : decode cX1_usual 19 = .ok (.istore 4, 2) := by decide +kernel
theorem dX1_usual_21 : decode cX1_usual 21 = .ok (.iload 4, 2) := by decide +kernel
theorem dX1_usual_23 : decode cX1_usual 23 = .ok (.iload_n 2, 1) := by decide +kernel
theorem dX1_usual_24 : decode cX1_usual 24 = .ok (.if_icmp .ge 19, 3) := by decide +kernel
theorem dX1_usual_27 : decode cX1_usual 27 = .ok (.iload_n 3, 1) := by decide +kernel
theorem dX1_usual_28 : decode cX1_usual 28 = .ok (.aload_n 0, 1) := by decide +kernel
theorem dX1_usual_29 : decode cX1_usual 29 = .ok (.getfield 9, 3) := by decide +kernel
theorem dX1_usual_32 : decode cX1_usual 32 = .ok (.iload 4, 2) := by decide +kernel
theorem dX1_usual_34 : decode cX1_usual 34 = .ok (.iaload, 1) := by decide +kernel
theorem dX1_usual_35 : decode cX1_usual 35 = .ok (.iadd, 1) := by decide +kernel
theorem dX1_usual_36 : decode cX1_usual 36 = .ok (.istore_n 3, 1) := by decide +kernel
theorem dX1_usual_37 : decode cX1_usual 37 = .ok (.iinc 4 1, 3) := by decide +kernel
theorem dX1_usual_40 : decode cX1_usual 40 = .ok (.goto (-19), 3) := by decide +kernel
theorem dX1_usual_43 : decode cX1_usual 43 = .ok (.iload_n 3, 1) := by decide +kernel
theorem dX1_usual_44 : decode cX1_usual 44 = .ok (.iload_n 2, 1) := by decide +kernel
theorem dX1_usual_45 : decode cX1_usual 45 = .ok (.idiv, 1) := by decide +kernel
theorem dX1_usual_46 : decode cX1_usual 46 = .ok (.ireturn, 1) := by decide +kernel
theorem dX2_init_0 : decode cX2_init 0 = .ok (.aload_n 0, 1) := by decide +kernel
theorem dX2_init_1 : decode cX2_init 1 = .ok (.invokespecial 3, 3) := by decide +kernel
theorem dX2_init_4 : decode cX2_init 4 = .ok (.aload_n 0, 1) := by decide +kernel
theorem dX2_init_5 : decode cX2_init 5 = .ok (.sipush 700, 3) := by decide +kernel
theorem dX2_init_8 : decode cX2_init 8 = .ok (.newarray .byte, 2) := by decide +kernel
theorem dX2_init_10 : decode cX2_init 10 = .ok (.putfield 9, 3) := by decide +kernel
theorem dX2_init_13 : decode cX2_init 13 = .ok (.aload_n 0, 1) := by decide +kernel
theorem dX2_init_14 : decode cX2_init 14 = .ok (.new 15, 3) := by decide +kernel
theorem dX2_init_17 : decode cX2_init 17 = .ok (.dup, 1) := by decide +kernel
theorem dX2_init_18 : decode cX2_init 18 = .ok (.invokespecial 17, 3) := by decide +kernel
theorem dX2_init_21 : decode cX2_init 21 = .ok (.putfield 18, 3) := by decide +kernel
theorem dX2_init_24 : decode cX2_init 24 = .ok (.return_, 1) := by decide +kernel
theorem dX2_addFour_0 : decode cX2_addFour 0 = .ok (.bipush 24, 2) := by decide +kernel
theorem dX2_addFour_2 : decode cX2_addFour 2 = .ok (.istore_n 2, 1) := by decide +kernel
theorem dX2_addFour_3 : decode cX2_addFour 3 = .ok (.iload_n 2, 1) := by decide +kernel
theorem dX2_addFour_4 : decode cX2_addFour 4 = .ok (.ifCond .lt 42, 3) := by decide +kernel
theorem dX2_addFour_7 : decode cX2_addFour 7 = .ok (.aload_n 0, 1) := by decide +kernel
theorem dX2_addFour_8 : decode cX2_addFour 8 = .ok (.getfield 22, 3) := by decide +kernel
theorem dX2_addFour_11 : decode cX2_addFour 11 = .ok (.sipush 700, 3) := by decide +kernel
theorem dX2_addFour_14 : decode cX2_addFour 14 = .ok (.if_icmp .ge 32, 3) := by decide +kernel
theorem dX2_addFour_17 : decode cX2_addFour 17 = .ok (.aload_n 0, 1) := by decide +kernel
theorem dX2_addFour_18 : decode cX2_addFour 18 = .ok (.getfield 9, 3) := by decide +kernel
theorem dX2_addFour_21 : decode cX2_addFour 21 = .ok (.aload_n 0, 1) := by decide +kernel
theorem dX2_addFour_22 : decode cX2_addFour 22 = .ok (.getfield 22, 3) := by decide +kernel
theorem dX2_addFour_25 : decode cX2_addFour 25 = .ok (.iload_n 1, 1) := by decide +kernel
theorem dX2_addFour_26 : decode cX2_addFour 26 = .ok (.iload_n 2, 1) := by decide +kernel
theorem dX2_addFour_27 : decode cX2_addFour 27 = .ok (.ishr, 1) := by decide +kernel
theorem dX2_addFour_28 : decode cX2_addFour 28 = .ok (.i2b, 1) := by decide +kernel
theorem dX2_addFour_29 : decode cX2_addFour 29 = .ok (.bastore, 1) := by decide +kernel
theorem dX2_addFour_30 : decode cX2_addFour 30 = .ok (.aload_n 0, 1) := by decide +kernel
theorem dX2_addFour_31 : decode cX2_addFour 31 = .ok (.dup, 1) := by decide +kernel
theorem dX2_addFour_32 : decode cX2_addFour 32 = .ok (.getfield 22, 3) := by decide +kernel
theorem dX2_addFour_35 : decode cX2_addFour 35 = .ok (.iconst 1, 1) := by decide +kernel
theorem dX2_addFour_36 : decode cX2_addFour 36 = .ok (.iadd, 1) := by decide +kernel
theorem dX2_addFour_37 : decode cX2_addFour 37 = .ok (.putfield 22, 3) := by decide +kernel
theorem dX2_addFour_40 : decode cX2_addFour 40 = .ok (.iinc 2 (-8), 3) := by decide +kernel
theorem dX2_addFour_43 : decode cX2_addFour 43 = .ok (.goto (-40), 3) := by decide +kernel
theorem dX2_addFour_46 : decode cX2_addFour 46 = .ok (.return_, 1) := by decide +kernel
theorem dX2_exchange_0 : decode cX2_exchange 0 = .ok (.aload_n 0, 1) := by decide +kernel
theorem dX2_exchange_1 : decode cX2_exchange 1 = .ok (.getfield 18, 3) := by decide +kernel
theorem dX2_exchange_4 : decode cX2_exchange 4 = .ok (.astore_n 2, 1) := by decide +kernel
theorem dX2_exchange_5 : decode cX2_exchange 5 = .ok (.aload_n 0, 1) := by decide +kernel
theorem dX2_exchange_6 : decode cX2_exchange 6 = .ok (.aload_n 1, 1) := by decide +kernel
theorem dX2_exchange_7 : decode cX2_exchange 7 = .ok (.putfield 18, 3) := by decide +kernel
theorem dX2_exchange_10 : decode cX2_exchange 10 = .ok (.aload_n 2, 1) := by decide +kernel
theorem dX2_exchange_11 : decode cX2_exchange 11 = .ok (.areturn, 1) := by decide +kernel
theorem dX2_read_0 : decode cX2_read 0 = .ok (.aload_n 0, 1) := by decide +kernel
theorem dX2_read_1 : decode cX2_read 1 = .ok (.iload_n 1, 1) := by decide +kernel
theorem dX2_read_2 : decode cX2_read 2 = .ok (.aload_n 0, 1) := by decide +kernel
theorem dX2_read_3 : decode cX2_read 3 = .ok (.getfield 22, 3) := by decide +kernel
theorem dX2_read_6 : decode cX2_read 6 = .ok (.invokestatic 26, 3) := by decide +kernel
theorem dX2_read_9 : decode cX2_read 9 = .ok (.putfield 32, 3) := by decide +kernel
theorem dX2_read_12 : decode cX2_read 12 = .ok (.aload_n 0, 1) := by decide +kernel
theorem dX2_read_13 : decode cX2_read 13 = .ok (.iconst 0, 1) := by decide +kernel
theorem dX2_read_14 : decode cX2_read 14 = .ok (.putfield 22, 3) := by decide +kernel
theorem dX2_read_17 : decode cX2_read 17 = .ok (.aload_n 0, 1) := by decide +kernel
theorem dX2_read_18 : decode cX2_read 18 = .ok (.getfield 18, 3) := by decide +kernel
theorem dX2_read_21 : decode cX2_read 21 = .ok (.invokevirtual 35, 3) := by decide +kernel
theorem dX2_read_24 : decode cX2_read 24 = .ok (.aload_n 0, 1) := by decide +kernel
theorem dX2_read_25 : decode cX2_read 25 = .ok (.iconst (-1), 1) := by decide +kernel
theorem dX2_read_26 : decode cX2_read 26 = .ok (.putfield 38, 3) := by decide +kernel
theorem dX2_read_29 : decode cX2_read 29 = .ok (.aload_n 0, 1) := by decide +kernel
theorem dX2_read_30 : decode cX2_read 30 = .ok (.iconst 0, 1) := by decide +kernel
theorem dX2_read_31 : decode cX2_read 31 = .ok (.putfield 41, 3) := by decide +kernel
theorem dX2_read_34 : decode cX2_read 34 = .ok (.aload_n 0, 1) := by decide +kernel
theorem dX2_read_35 : decode cX2_read 35 = .ok (.iconst 0, 1) := by decide +kernel
theorem dX2_read_36 : decode cX2_read 36 = .ok (.putfield 45, 3) := by decide +kernel
theorem dX2_read_39 : decode cX2_read 39 = .ok (.aload_n 0, 1) := by decide +kernel
theorem dX2_read_40 : decode cX2_read 40 = .ok (.iconst 0, 1) := by decide +kernel
theorem dX2_read_41 : decode cX2_read 41 = .ok (.putfield 48, 3) := by decide +kernel
theorem dX2_read_44 : decode cX2_read 44 = .ok (.aload_n 0, 1) := by decide +kernel
theorem dX2_read_45 : decode cX2_read 45 = .ok (.invokevirtual 51, 3) := by decide +kernel
theorem dX2_read_48 : decode cX2_read 48 = .ok (.aload_n 0, 1) := by decide +kernel
theorem dX2_read_49 : decode cX2_read 49 = .ok (.ldc 54, 2) := by decide +kernel
theorem dX2_read_51 : decode cX2_read 51 = .ok (.invokevirtual 56, 3) := by decide +kernel
theorem dX2_read_54 : decode cX2_read 54 = .ok (.ifCond .ne 8, 3) := by decide +kernel
theorem dX2_read_57 : decode cX2_read 57 = .ok (.aload_n 0, 1) := by decide +kernel
theorem dX2_read_58 : decode cX2_read 58 = .ok (.iconst 1, 1) := by decide +kernel
theorem dX2_read_59 : decode cX2_read 59 = .ok (.invokevirtual 60, 3) := by decide +kernel
theorem dX2_read_62 : decode cX2_read 62 = .ok (.aload_n 0, 1) := by decide +kernel
theorem dX2_read_63 : decode cX2_read 63 = .ok (.getfield 18, 3) := by decide +kernel
theorem dX2_read_66 : decode cX2_read 66 = .ok (.aload_n 0, 1) := by decide +kernel
theorem dX2_read_67 : decode cX2_read 67 = .ok (.bipush 50, 2) := by decide +kernel
theorem dX2_read_69 : decode cX2_read 69 = .ok (.sipush 500, 3) := by decide +kernel
theorem dX2_read_72 : decode cX2_read 72 = .ok (.invokevirtual 64, 3) := by decide +kernel
theorem dX2_read_75 : decode cX2_read 75 = .ok (.putfield 67, 3) := by decide +kernel
theorem dX2_read_78 : decode cX2_read 78 = .ok (.aload_n 0, 1) := by decide +kernel
theorem dX2_read_79 : decode cX2_read 79 = .ok (.getfield 18, 3) := by decide +kernel
theorem dX2_read_82 : decode cX2_read 82 = .ok (.aload_n 0, 1) := by decide +kernel
theorem dX2_read_83 : decode cX2_read 83 = .ok (.bipush 30, 2) := by decide +kernel
theorem dX2_read_85 : decode cX2_read 85 = .ok (.sipush 500, 3) := by decide +kernel
theorem dX2_read_88 : decode cX2_read 88 = .ok (.invokevirtual 64, 3) := by decide +kernel
theorem dX2_read_91 : decode cX2_read 91 = .ok (.putfield 70, 3) := by decide +kernel
theorem dX2_read_94 : decode cX2_read 94 = .ok (.aload_n 0, 1) := by decide +kernel
theorem dX2_read_95 : decode cX2_read 95 = .ok (.invokevirtual 73, 3) := by decide +kernel
theorem dX2_read_98 : decode cX2_read 98 = .ok (.iconst 0, 1) := by decide +kernel
theorem dX2_read_99 : decode cX2_read 99 = .ok (.istore_n 2, 1) := by decide +kernel
theorem dX2_read_100 : decode cX2_read 100 = .ok (.iload_n 2, 1) := by decide +kernel
theorem dX2_read_101 : decode cX2_read 101 = .ok (.sipush 700, 3) := by decide +kernel
theorem dX2_read_104 : decode cX2_read 104 = .ok (.if_icmp .ge 32, 3) := by decide +kernel
theorem dX2_read_107 : decode cX2_read 107 = .ok (.aload_n 0, 1) := by decide +kernel
theorem dX2_read_108 : decode cX2_read 108 = .ok (.getfield 38, 3) := by decide +kernel
theorem dX2_read_111 : decode cX2_read 111 = .ok (.iconst (-1), 1) := by decide +kernel
theorem dX2_read_112 : decode cX2_read 112 = .ok (.if_icmp .ne 24, 3) := by decide +kernel
theorem dX2_read_115 : decode cX2_read 115 = .ok (.aload_n 0, 1) := by decide +kernel
theorem dX2_read_116 : decode cX2_read 116 = .ok (.getfield 76, 3) := by decide +kernel
theorem dX2_read_119 : decode cX2_read 119 = .ok (.ifCond .eq 17, 3) := by decide +kernel
theorem dX2_read_122 : decode cX2_read 122 = .ok (.aload_n 0, 1) := by decide +kernel
theorem dX2_read_123 : decode cX2_read 123 = .ok (.invokevirtual 79, 3) := by decide +kernel
theorem dX2_read_126 : decode cX2_read 126 = .ok (.aload_n 0, 1) := by decide +kernel
theorem dX2_read_127 : decode cX2_read 127 = .ok (.invokevirtual 73, 3) := by decide +kernel
theorem dX2_read_130 : decode cX2_read 130 = .ok (.iinc 2 1, 3) := by decide +kernel
theorem dX2_read_133 : decode cX2_read 133 = .ok (.goto (-33), 3) := by decide +kernel
theorem dX2_read_136 : decode cX2_read 136 = .ok (.aload_n 0, 1) := by decide +kernel
theorem dX2_read_137 : decode cX2_read 137 = .ok (.getfield 38, 3) := by decide +kernel
theorem dX2_read_140 : decode cX2_read 140 = .ok (.ireturn, 1) := by decide +kernel
theorem dX2_readStatement_0 : decode cX2_readStatement 0 = .ok (.aload_n 0, 1) := by decide +kernel
theorem dX2_readStatement_1 : decode cX2_readStatement 1 = .ok (.ldc 82, 2) := by decide +kernel
theorem dX2_readStatement_3 : decode cX2_readStatement 3 = .ok (.invokevirtual 84, 3) := by decide +kernel
theorem dX2_readStatement_6 : decode cX2_readStatement 6 = .ok (.ifCond .eq 11, 3) := by decide +kernel
theorem dX2_readStatement_9 : decode cX2_readStatement 9 = .ok (.aload_n 0, 1) := by decide +kernel
theorem dX2_readStatement_10 : decode cX2_readStatement 10 = .ok (.iconst 0, 1) := by decide +kernel
theorem dX2_readStatement_11 : decode cX2_readStatement 11 = .ok (.invokevirtual 87, 3) := by decide +kernel
theorem dX2_readStatement_14 : decode cX2_readStatement 14 = .ok (.goto 73, 3) := by decide +kernel
theorem dX2_readStatement_17 : decode cX2_readStatement 17 = .ok (.aload_n 0, 1) := by decide +kernel
theorem dX2_readStatement_18 : decode cX2_readStatement 18 = .ok (.ldc 91, 2) := by decide +kernel
theorem dX2_readStatement_20 : decode cX2_readStatement 20 = .ok (.invokevirtual 84, 3) := by decide +kernel
theorem dX2_readStatement_23 : decode cX2_readStatement 23 = .ok (.ifCond .eq 11, 3) := by decide +kernel
theorem dX2_readStatement_26 : decode cX2_readStatement 26 = .ok (.aload_n 0, 1) := by decide +kernel
theorem dX2_readStatement_27 : decode cX2_readStatement 27 = .ok (.iconst 1, 1) := by decide +kernel
theorem dX2_readStatement_28 : decode cX2_readStatement 28 = .ok (.invokevirtual 87, 3) := by decide +kernel
theorem dX2_readStatement_31 : decode cX2_readStatement 31 = .ok (.goto 56, 3) := by decide +kernel
theorem dX2_readStatement_34 : decode cX2_readStatement 34 = .ok (.aload_n 0, 1) := by decide +kernel
theorem dX2_readStatement_35 : decode cX2_readStatement 35 = .ok (.ldc 93, 2) := by decide +kernel
theorem dX2_readStatement_37 : decode cX2_readStatement 37 = .ok (.invokevirtual 84, 3) := by decide +kernel
theorem dX2_readStatement_40 : decode cX2_readStatement 40 = .ok (.ifCond .eq 10, 3) := by decide +kernel
theorem dX2_readStatement_43 : decode cX2_readStatement 43 = .ok (.aload_n 0, 1) := by decide +kernel
theorem dX2_readStatement_44 : decode cX2_readStatement 44 = .ok (.invokevirtual 95, 3) := by decide +kernel
theorem dX2_readStatement_47 : decode cX2_readStatement 47 = .ok (.goto 40, 3) := by decide +kernel
theorem dX2_readStatement_50 : decode cX2_readStatement 50 = .ok (.aload_n 0, 1) := by decide +kernel
theorem dX2_readStatement_51 : decode cX2_readStatement 51 = .ok (.ldc 98, 2) := by decide +kernel
theorem dX2_readStatement_53 : decode cX2_readStatement 53 = .ok (.invokevirtual 84, 3) := by decide +kernel
theorem dX2_readStatement_56 : decode cX2_readStatement 56 = .ok (.ifCond .eq 10, 3) := by decide +kernel
theorem dX2_readStatement_59 : decode cX2_readStatement 59 = .ok (.aload_n 0, 1) := by decide +kernel
theorem dX2_readStatement_60 : decode cX2_readStatement 60 = .ok (.invokevirtual 100, 3) := by decide +kernel
theorem dX2_readStatement_63 : decode cX2_readStatement 63 = .ok (.goto 24, 3) := by decide +kernel
theorem dX2_readStatement_66 : decode cX2_readStatement 66 = .ok (.aload_n 0, 1) := by decide +kernel
theorem dX2_readStatement_67 : decode cX2_readStatement 67 = .ok (.ldc 103, 2) := by decide +kernel
theorem dX2_readStatement_69 : decode cX2_readStatement 69 = .ok (.invokevirtual 84, 3) := by decide +kernel
theorem dX2_readStatement_72 : decode cX2_readStatement 72 = .ok (.ifCond .eq 10, 3) := by decide +kernel
theorem dX2_readStatement_75 : decode cX2_readStatement 75 = .ok (.aload_n 0, 1) := by decide +kernel
theorem dX2_readStatement_76 : decode cX2_readStatement 76 = .ok (.invokevirtual 105, 3) := by decide +kernel
theorem dX2_readStatement_79 : decode cX2_readStatement 79 = .ok (.goto 8, 3) := by decide +kernel
theorem dX2_readStatement_82 : decode cX2_readStatement 82 = .ok (.aload_n 0, 1) := by decide +kernel
theorem dX2_readStatement_83 : decode cX2_readStatement 83 = .ok (.iconst 1, 1) := by decide +kernel
theorem dX2_readStatement_84 : decode cX2_readStatement 84 = .ok (.invokevirtual 60, 3) := by decide +kernel
theorem dX2_readStatement_87 : decode cX2_readStatement 87 = .ok (.return_, 1) := by decide +kernel
theorem dX2_readSheet_0 : decode cX2_readSheet 0 = .ok (.aload_n 0, 1) := by decide +kernel
theorem dX2_readSheet_1 : decode cX2_readSheet 1 = .ok (.getfield 18, 3) := by decide +kernel
theorem dX2_readSheet_4 : decode cX2_readSheet 4 = .ok (.getfield 108, 3) := by decide +kernel
theorem dX2_readSheet_7 : decode cX2_readSheet 7 = .ok (.istore_n 2, 1) := by decide +kernel
theorem dX2_readSheet_8 : decode cX2_readSheet 8 = .ok (.iload_n 2, 1) := by decide +kernel
theorem dX2_readSheet_9 : decode cX2_readSheet 9 = .ok (.bipush 40, 2) := by decide +kernel
theorem dX2_readSheet_11 : decode cX2_readSheet 11 = .ok (.if_icmp .lt 9, 3) := by decide +kernel
theorem dX2_readSheet_14 : decode cX2_readSheet 14 = .ok (.aload_n 0, 1) := by decide +kernel
theorem dX2_readSheet_15 : decode cX2_readSheet 15 = .ok (.iconst 5, 1) := by decide +kernel
theorem dX2_readSheet_16 : decode cX2_readSheet 16 = .ok (.invokevirtual 60, 3) := by decide +kernel
theorem dX2_readSheet_19 : decode cX2_readSheet 19 = .ok (.return_, 1) := by decide +kernel
theorem dX2_readSheet_20 : decode cX2_readSheet 20 = .ok (.aload_n 0, 1) := by decide +kernel
theorem dX2_readSheet_21 : decode cX2_readSheet 21 = .ok (.invokevirtual 51, 3) := by decide +kernel
theorem dX2_readSheet_24 : decode cX2_readSheet 24 = .ok (.aload_n 0, 1) := by decide +kernel
theorem dX2_readSheet_25 : decode cX2_readSheet 25 = .ok (.getfield 18, 3) := by decide +kernel
theorem dX2_readSheet_28 : decode cX2_readSheet 28 = .ok (.getfield 111, 3) := by decide +kernel
theorem dX2_readSheet_31 : decode cX2_readSheet 31 = .ok (.iload_n 2, 1) := by decide +kernel
theorem dX2_readSheet_32 : decode cX2_readSheet 32 = .ok (.iload_n 1, 1) := by decide +kernel
theorem dX2_readSheet_33 : decode cX2_readSheet 33 = .ok (.ifCond .eq 14, 3) := by decide +kernel
theorem dX2_readSheet_36 : decode cX2_readSheet 36 = .ok (.aload_n 0, 1) := by decide +kernel
theorem dX2_readSheet_37 : decode cX2_readSheet 37 = .ok (.iconst 0, 1) := by decide +kernel
theorem dX2_readSheet_38 : decode cX2_readSheet 38 = .ok (.sipush 999, 3) := by decide +kernel
theorem dX2_readSheet_41 : decode cX2_readSheet 41 = .ok (.invokevirtual 64, 3) := by decide +kernel
theorem dX2_readSheet_44 : decode cX2_readSheet 44 = .ok (.goto 4, 3) := by decide +kernel
theorem dX2_readSheet_47 : decode cX2_readSheet 47 = .ok (.iconst (-1), 1) := by decide +kernel
theorem dX2_readSheet_48 : decode cX2_readSheet 48 = .ok (.iastore, 1) := by decide +kernel
theorem dX2_readSheet_49 : decode cX2_readSheet 49 = .ok (.aload_n 0, 1) := by decide +kernel
theorem dX2_readSheet_50 : decode cX2_readSheet 50 = .ok (.getfield 18, 3) := by decide +kernel
theorem dX2_readSheet_53 : decode cX2_readSheet 53 = .ok (.getfield 114, 3) := by decide +kernel
theorem dX2_readSheet_56 : decode cX2_readSheet 56 = .ok (.iload_n 2, 1) := by decide +kernel
theorem dX2_readSheet_57 : decode cX2_readSheet 57 = .ok (.aload_n 0, 1) := by decide +kernel
theorem dX2_readSheet_58 : decode cX2_readSheet 58 = .ok (.bipush 50, 2) := by decide +kernel
theorem dX2_readSheet_60 : decode cX2_readSheet 60 = .ok (.sipush 500, 3) := by decide +kernel
theorem dX2_readSheet_63 : decode cX2_readSheet 63 = .ok (.invokevirtual 64, 3) := by decide +kernel
theorem dX2_readSheet_66 : decode cX2_readSheet 66 = .ok (.iastore, 1) := by decide +kernel
theorem dX2_readSheet_67 : decode cX2_readSheet 67 = .ok (.aload_n 0, 1) := by decide +kernel
theorem dX2_readSheet_68 : decode cX2_readSheet 68 = .ok (.getfield 18, 3) := by decide +kernel
theorem dX2_readSheet_71 : decode cX2_readSheet 71 = .ok (.getfield 116, 3) := by decide +kernel
theorem dX2_readSheet_74 : decode cX2_readSheet 74 = .ok (.iload_n 2, 1) := by decide +kernel
theorem dX2_readSheet_75 : decode cX2_readSheet 75 = .ok (.aload_n 0, 1) := by decide +kernel
theorem dX2_readSheet_76 : decode cX2_readSheet 76 = .ok (.bipush 30, 2) := by decide +kernel
theorem dX2_readSheet_78 : decode cX2_readSheet 78 = .ok (.sipush 500, 3) := by decide +kernel
theorem dX2_readSheet_81 : decode cX2_readSheet 81 = .ok (.invokevirtual 64, 3) := by decide +kernel
theorem dX2_readSheet_84 : decode cX2_readSheet 84 = .ok (.iastore, 1) := by decide +kernel
theorem dX2_readSheet_85 : decode cX2_readSheet 85 = .ok (.aload_n 0, 1) := by decide +kernel
theorem dX2_readSheet_86 : decode cX2_readSheet 86 = .ok (.invokevirtual 119, 3) := by decide +kernel
theorem dX2_readSheet_89 : decode cX2_readSheet 89 = .ok (.istore_n 3, 1) := by decide +kernel
theorem dX2_readSheet_90 : decode cX2_readSheet 90 = .ok (.aload_n 0, 1) := by decide +kernel
theorem dX2_readSheet_91 : decode cX2_readSheet 91 = .ok (.iconst 0, 1) := by decide +kernel
theorem dX2_readSheet_92 : decode cX2_readSheet 92 = .ok (.bipush 99, 2) := by decide +kernel
theorem dX2_readSheet_94 : decode cX2_readSheet 94 = .ok (.invokevirtual 64, 3) := by decide +kernel
theorem dX2_readSheet_97 : decode cX2_readSheet 97 = .ok (.istore 4, 2) := by decide +kernel
theorem dX2_readSheet_99 : decode cX2_readSheet 99 = .ok (.aload_n 0, 1) := by decide +kernel
theorem dX2_readSheet_100 : decode cX2_readSheet 100 = .ok (.getfield 18, 3) := by decide +kernel
theorem dX2_readSheet_103 : decode cX2_readSheet 103 = .ok (.getfield 123, 3) := by decide +kernel
theorem dX2_readSheet_106 : decode cX2_readSheet 106 = .ok (.iload_n 2, 1) := by decide +kernel
theorem dX2_readSheet_107 : decode cX2_readSheet 107 = .ok (.iload_n 3, 1) := by decide +kernel
theorem dX2_readSheet_108 : decode cX2_readSheet 108 = .ok (.ifCond .eq 9, 3) := by decide +kernel
theorem dX2_readSheet_111 : decode cX2_readSheet 111 = .ok (.iload 4, 2) := by decide +kernel
theorem dX2_readSheet_113 : decode cX2_readSheet 113 = .ok (.ineg, 1) := by decide +kernel
theorem dX2_readSheet_114 : decode cX2_readSheet 114 = .ok (.goto 5, 3) := by decide +kernel
theorem dX2_readSheet_117 : decode cX2_readSheet 117 = .ok (.iload 4, 2) := by decide +kernel
theorem dX2_readSheet_119 : decode cX2_readSheet 119 = .ok (.iastore, 1) := by decide +kernel
theorem dX2_readSheet_120 : decode cX2_readSheet 120 = .ok (.aload_n 0, 1) := by decide +kernel
theorem dX2_readSheet_121 : decode cX2_readSheet 121 = .ok (.getfield 18, 3) := by decide +kernel
theorem dX2_readSheet_124 : decode cX2_readSheet 124 = .ok (.getfield 126, 3) := by decide +kernel
theorem dX2_readSheet_127 : decode cX2_readSheet 127 = .ok (.iload_n 2, 1) := by decide +kernel
theorem dX2_readSheet_128 : decode cX2_readSheet 128 = .ok (.iload_n 1, 1) := by decide +kernel
theorem dX2_readSheet_129 : decode cX2_readSheet 129 = .ok (.ifCond .eq 7, 3) := by decide +kernel
theorem dX2_readSheet_132 : decode cX2_readSheet 132 = .ok (.iconst 0, 1) := by decide +kernel
theorem dX2_readSheet_133 : decode cX2_readSheet 133 = .ok (.goto 11, 3) := by decide +kernel
theorem dX2_readSheet_136 : decode cX2_readSheet 136 = .ok (.aload_n 0, 1) := by decide +kernel
theorem dX2_readSheet_137 : decode cX2_readSheet 137 = .ok (.iconst 0, 1) := by decide +kernel
theorem dX2_readSheet_138 : decode cX2_readSheet 138 = .ok (.sipush 1000, 3) := by decide +kernel
theorem dX2_readSheet_141 : decode cX2_readSheet 141 = .ok (.invokevirtual 64, 3) := by decide +kernel
theorem dX2_readSheet_144 : decode cX2_readSheet 144 = .ok (.iastore, 1) := by decide +kernel
theorem dX2_readSheet_145 : decode cX2_readSheet 145 = .ok (.aload_n 0, 1) := by decide +kernel
theorem dX2_readSheet_146 : decode cX2_readSheet 146 = .ok (.getfield 18, 3) := by decide +kernel
theorem dX2_readSheet_149 : decode cX2_readSheet 149 = .ok (.getfield 129, 3) := by decide +kernel
theorem dX2_readSheet_152 : decode cX2_readSheet 152 = .ok (.iload_n 2, 1) := by decide +kernel
theorem dX2_readSheet_153 : decode cX2_readSheet 153 = .ok (.iload_n 1, 1) := by decide +kernel
theorem dX2_readSheet_154 : decode cX2_readSheet 154 = .ok (.ifCond .eq 7, 3) := by decide +kernel
theorem dX2_readSheet_157 : decode cX2_readSheet 157 = .ok (.iconst 0, 1) := by decide +kernel
theorem dX2_readSheet_158 : decode cX2_readSheet 158 = .ok (.goto 11, 3) := by decide +kernel
theorem dX2_readSheet_161 : decode cX2_readSheet 161 = .ok (.aload_n 0, 1) := by decide +kernel
theorem dX2_readSheet_162 : decode cX2_readSheet 162 = .ok (.iconst 0, 1) := by decide +kernel
theorem dX2_readSheet_163 : decode cX2_readSheet 163 = .ok (.sipush 1000, 3) := by decide +kernel
theorem dX2_readSheet_166 : decode cX2_readSheet 166 = .ok (.invokevirtual 64, 3) := by decide +kernel
theorem dX2_readSheet_169 : decode cX2_readSheet 169 = .ok (.iastore, 1) := by decide +kernel
theorem dX2_readSheet_170 : decode cX2_readSheet 170 = .ok (.aload_n 0, 1) := by decide +kernel
theorem dX2_readSheet_171 : decode cX2_readSheet 171 = .ok (.getfield 18, 3) := by decide +kernel
theorem dX2_readSheet_174 : decode cX2_readSheet 174 = .ok (.getfield 132, 3) := by decide +kernel
theorem dX2_readSheet_177 : decode cX2_readSheet 177 = .ok (.iload_n 2, 1) := by decide +kernel
theorem dX2_readSheet_178 : decode cX2_readSheet 178 = .ok (.aload_n 0, 1) := by decide +kernel
theorem dX2_readSheet_179 : decode cX2_readSheet 179 = .ok (.ldc 135, 2) := by decide +kernel
theorem dX2_readSheet_181 : decode cX2_readSheet 181 = .ok (.invokevirtual 56, 3) := by decide +kernel
theorem dX2_readSheet_184 : decode cX2_readSheet 184 = .ok (.ifCond .eq 14, 3) := by decide +kernel
theorem dX2_readSheet_187 : decode cX2_readSheet 187 = .ok (.aload_n 0, 1) := by decide +kernel
theorem dX2_readSheet_188 : decode cX2_readSheet 188 = .ok (.iconst 0, 1) := by decide +kernel
theorem dX2_readSheet_189 : decode cX2_readSheet 189 = .ok (.sipush 400, 3) := by decide +kernel
theorem dX2_readSheet_192 : decode cX2_readSheet 192 = .ok (.invokevirtual 64, 3) := by decide +kernel
theorem dX2_readSheet_195 : decode cX2_readSheet 195 = .ok (.goto 4, 3) := by decide +kernel
theorem dX2_readSheet_198 : decode cX2_readSheet 198 = .ok (.iconst (-1), 1) := by decide +kernel
theorem dX2_readSheet_199 : decode cX2_readSheet 199 = .ok (.iastore, 1) := by decide +kernel
theorem dX2_readSheet_200 : decode cX2_readSheet 200 = .ok (.aload_n 0, 1) := by decide +kernel
theorem dX2_readSheet_201 : decode cX2_readSheet 201 = .ok (.getfield 18, 3) := by decide +kernel
theorem dX2_readSheet_204 : decode cX2_readSheet 204 = .ok (.iload_n 2, 1) := by decide +kernel
theorem dX2_readSheet_205 : decode cX2_readSheet 205 = .ok (.iconst 1, 1) := by decide +kernel
theorem dX2_readSheet_206 : decode cX2_readSheet 206 = .ok (.iadd, 1) := by decide +kernel
theorem dX2_readSheet_207 : decode cX2_readSheet 207 = .ok (.putfield 108, 3) := by decide +kernel
theorem dX2_readSheet_210 : decode cX2_readSheet 210 = .ok (.return_, 1) := by decide +kernel
theorem dX2_readAgain_0 : decode cX2_readAgain 0 = .ok (.aload_n 0, 1) := by decide +kernel
theorem dX2_readAgain_1 : decode cX2_readAgain 1 = .ok (.getfield 18, 3) := by decide +kernel
theorem dX2_readAgain_4 : decode cX2_readAgain 4 = .ok (.getfield 108, 3) := by decide +kernel
theorem dX2_readAgain_7 : decode cX2_readAgain 7 = .ok (.ifCond .ne 9, 3) := by decide +kernel
theorem dX2_readAgain_10 : decode cX2_readAgain 10 = .ok (.aload_n 0, 1) := by decide +kernel
theorem dX2_readAgain_11 : decode cX2_readAgain 11 = .ok (.iconst 3, 1) := by decide +kernel
theorem dX2_readAgain_12 : decode cX2_readAgain 12 = .ok (.invokevirtual 60, 3) := by decide +kernel
theorem dX2_readAgain_15 : decode cX2_readAgain 15 = .ok (.return_, 1) := by decide +kernel
theorem dX2_readAgain_16 : decode cX2_readAgain 16 = .ok (.aload_n 0, 1) := by decide +kernel
theorem dX2_readAgain_17 : decode cX2_readAgain 17 = .ok (.invokevirtual 51, 3) := by decide +kernel
theorem dX2_readAgain_20 : decode cX2_readAgain 20 = .ok (.aload_n 0, 1) := by decide +kernel
theorem dX2_readAgain_21 : decode cX2_readAgain 21 = .ok (.getfield 137, 3) := by decide +kernel
theorem dX2_readAgain_24 : decode cX2_readAgain 24 = .ok (.istore_n 1, 1) := by decide +kernel
theorem dX2_readAgain_25 : decode cX2_readAgain 25 = .ok (.aload_n 0, 1) := by decide +kernel
theorem dX2_readAgain_26 : decode cX2_readAgain 26 = .ok (.iconst 1, 1) := by decide +kernel
theorem dX2_readAgain_27 : decode cX2_readAgain 27 = .ok (.bipush 39, 2) := by decide +kernel
theorem dX2_readAgain_29 : decode cX2_readAgain 29 = .ok (.invokevirtual 64, 3) := by decide +kernel
theorem dX2_readAgain_32 : decode cX2_readAgain 32 = .ok (.istore_n 2, 1) := by decide +kernel
theorem dX2_readAgain_33 : decode cX2_readAgain 33 = .ok (.aload_n 0, 1) := by decide +kernel
theorem dX2_readAgain_34 : decode cX2_readAgain 34 = .ok (.getfield 38, 3) := by decide +kernel
theorem dX2_readAgain_37 : decode cX2_readAgain 37 = .ok (.iconst (-1), 1) := by decide +kernel
theorem dX2_readAgain_38 : decode cX2_readAgain 38 = .ok (.if_icmp .eq 4, 3) := by decide +kernel
theorem dX2_readAgain_41 : decode cX2_readAgain 41 = .ok (.return_, 1) := by decide +kernel
theorem dX2_readAgain_42 : decode cX2_readAgain 42 = .ok (.aload_n 0, 1) := by decide +kernel
theorem dX2_readAgain_43 : decode cX2_readAgain 43 = .ok (.getfield 18, 3) := by decide +kernel
theorem dX2_readAgain_46 : decode cX2_readAgain 46 = .ok (.getfield 108, 3) := by decide +kernel
theorem dX2_readAgain_49 : decode cX2_readAgain 49 = .ok (.iload_n 2, 1) := by decide +kernel
theorem dX2_readAgain_50 : decode cX2_readAgain 50 = .ok (.iadd, 1) := by decide +kernel
theorem dX2_readAgain_51 : decode cX2_readAgain 51 = .ok (.bipush 40, 2) := by decide +kernel
theorem dX2_readAgain_53 : decode cX2_readAgain 53 = .ok (.if_icmp .le 14, 3) := by decide +kernel
theorem dX2_readAgain_56 : decode cX2_readAgain 56 = .ok (.aload_n 0, 1) := by decide +kernel
theorem dX2_readAgain_57 : decode cX2_readAgain 57 = .ok (.bipush 8, 2) := by decide +kernel
theorem dX2_readAgain_59 : decode cX2_readAgain 59 = .ok (.iload_n 1, 1) := by decide +kernel
theorem dX2_readAgain_60 : decode cX2_readAgain 60 = .ok (.imul, 1) := by decide +kernel
theorem dX2_readAgain_61 : decode cX2_readAgain 61 = .ok (.iconst 5, 1) := by decide +kernel
theorem dX2_readAgain_62 : decode cX2_readAgain 62 = .ok (.iadd, 1) := by decide +kernel
theorem dX2_readAgain_63 : decode cX2_readAgain 63 = .ok (.putfield 38, 3) := by decide +kernel
theorem dX2_readAgain_66 : decode cX2_readAgain 66 = .ok (.return_, 1) := by decide +kernel
theorem dX2_readAgain_67 : decode cX2_readAgain 67 = .ok (.aload_n 0, 1) := by decide +kernel
theorem dX2_readAgain_68 : decode cX2_readAgain 68 = .ok (.getfield 18, 3) := by decide +kernel
theorem dX2_readAgain_71 : decode cX2_readAgain 71 = .ok (.iload_n 2, 1) := by decide +kernel
theorem dX2_readAgain_72 : decode cX2_readAgain 72 = .ok (.invokevirtual 140, 3) := by decide +kernel
theorem dX2_readAgain_75 : decode cX2_readAgain 75 = .ok (.return_, 1) := by decide +kernel
theorem dX2_readLimits_0 : decode cX2_readLimits 0 = .ok (.aload_n 0, 1) := by decide +kernel
theorem dX2_readLimits_1 : decode cX2_readLimits 1 = .ok (.getfield 41, 3) := by decide +kernel
theorem dX2_readLimits_4 : decode cX2_readLimits 4 = .ok (.ifCond .eq 9, 3) := by decide +kernel
theorem dX2_readLimits_7 : decode cX2_readLimits 7 = .ok (.aload_n 0, 1) := by decide +kernel
theorem dX2_readLimits_8 : decode cX2_readLimits 8 = .ok (.iconst 2, 1) := by decide +kernel
theorem dX2_readLimits_9 : decode cX2_readLimits 9 = .ok (.invokevirtual 60, 3) := by decide +kernel
theorem dX2_readLimits_12 : decode cX2_readLimits 12 = .ok (.return_, 1) := by decide +kernel
theorem dX2_readLimits_13 : decode cX2_readLimits 13 = .ok (.aload_n 0, 1) := by decide +kernel
theorem dX2_readLimits_14 : decode cX2_readLimits 14 = .ok (.iconst 1, 1) := by decide +kernel
theorem dX2_readLimits_15 : decode cX2_readLimits 15 = .ok (.putfield 41, 3) := by decide +kernel
theorem dX2_readLimits_18 : decode cX2_readLimits 18 = .ok (.aload_n 0, 1) := by decide +kernel
theorem dX2_readLimits_19 : decode cX2_readLimits 19 = .ok (.invokevirtual 51, 3) := by decide +kernel
theorem dX2_readLimits_22 : decode cX2_readLimits 22 = .ok (.iconst 0, 1) := by decide +kernel
theorem dX2_readLimits_23 : decode cX2_readLimits 23 = .ok (.istore_n 1, 1) := by decide +kernel
theorem dX2_readLimits_24 : decode cX2_readLimits 24 = .ok (.iload_n 1, 1) := by decide +kernel
theorem dX2_readLimits_25 : decode cX2_readLimits 25 = .ok (.iconst 4, 1) := by decide +kernel
theorem dX2_readLimits_26 : decode cX2_readLimits 26 = .ok (.if_icmp .ge 32, 3) := by decide +kernel
theorem dX2_readLimits_29 : decode cX2_readLimits 29 = .ok (.aload_n 0, 1) := by decide +kernel
theorem dX2_readLimits_30 : decode cX2_readLimits 30 = .ok (.getfield 18, 3) := by decide +kernel
theorem dX2_readLimits_33 : decode cX2_readLimits 33 = .ok (.getfield 143, 3) := by decide +kernel
theorem dX2_readLimits_36 : decode cX2_readLimits 36 = .ok (.iload_n 1, 1) := by decide +kernel
theorem dX2_readLimits_37 : decode cX2_readLimits 37 = .ok (.aload_n 0, 1) := by decide +kernel
theorem dX2_readLimits_38 : decode cX2_readLimits 38 = .ok (.getstatic 145, 3) := by decide +kernel
theorem dX2_readLimits_41 : decode cX2_readLimits 41 = .ok (.iload_n 1, 1) := by decide +kernel
theorem dX2_readLimits_42 : decode cX2_readLimits 42 = .ok (.iaload, 1) := by decide +kernel
theorem dX2_readLimits_43 : decode cX2_readLimits 43 = .ok (.getstatic 148, 3) := by decide +kernel
theorem dX2_readLimits_46 : decode cX2_readLimits 46 = .ok (.iload_n 1, 1) := by decide +kernel
theorem dX2_readLimits_47 : decode cX2_readLimits 47 = .ok (.iaload, 1) := by decide +kernel
theorem dX2_readLimits_48 : decode cX2_readLimits 48 = .ok (.invokevirtual 64, 3) := by decide +kernel
theorem dX2_readLimits_51 : decode cX2_readLimits 51 = .ok (.iastore, 1) := by decide +kernel
theorem dX2_readLimits_52 : decode cX2_readLimits 52 = .ok (.iinc 1 1, 3) := by decide +kernel
theorem dX2_readLimits_55 : decode cX2_readLimits 55 = .ok (.goto (-31), 3) := by decide +kernel
theorem dX2_readLimits_58 : decode cX2_readLimits 58 = .ok (.return_, 1) := by decide +kernel
theorem dX2_readSimplex_0 : decode cX2_readSimplex 0 = .ok (.aload_n 0, 1) := by decide +kernel
theorem dX2_readSimplex_1 : decode cX2_readSimplex 1 = .ok (.getfield 45, 3) := by decide +kernel
theorem dX2_readSimplex_4 : decode cX2_readSimplex 4 = .ok (.ifCond .eq 9, 3) := by decide +kernel
theorem dX2_readSimplex_7 : decode cX2_readSimplex 7 = .ok (.aload_n 0, 1) := by decide +kernel
theorem dX2_readSimplex_8 : decode cX2_readSimplex 8 = .ok (.iconst 2, 1) := by decide +kernel
theorem dX2_readSimplex_9 : decode cX2_readSimplex 9 = .ok (.invokevirtual 60, 3) := by decide +kernel
theorem dX2_readSimplex_12 : decode cX2_readSimplex 12 = .ok (.return_, 1) := by decide +kernel
theorem dX2_readSimplex_13 : decode cX2_readSimplex 13 = .ok (.aload_n 0, 1) := by decide +kernel
theorem dX2_readSimplex_14 : decode cX2_readSimplex 14 = .ok (.iconst 1, 1) := by decide +kernel
theorem dX2_readSimplex_15 : decode cX2_readSimplex 15 = .ok (.putfield 45, 3) := by decide +kernel
theorem dX2_readSimplex_18 : decode cX2_readSimplex 18 = .ok (.aload_n 0, 1) := by decide +kernel
theorem dX2_readSimplex_19 : decode cX2_readSimplex 19 = .ok (.invokevirtual 51, 3) := by decide +kernel
theorem dX2_readSimplex_22 : decode cX2_readSimplex 22 = .ok (.aload_n 0, 1) := by decide +kernel
theorem dX2_readSimplex_23 : decode cX2_readSimplex 23 = .ok (.getfield 18, 3) := by decide +kernel
theorem dX2_readSimplex_26 : decode cX2_readSimplex 26 = .ok (.iconst 0, 1) := by decide +kernel
theorem dX2_readSimplex_27 : decode cX2_readSimplex 27 = .ok (.putfield 151, 3) := by decide +kernel
theorem dX2_readSimplex_30 : decode cX2_readSimplex 30 = .ok (.return_, 1) := by decide +kernel
theorem dX2_fail_0 : decode cX2_fail 0 = .ok (.aload_n 0, 1) := by decide +kernel
theorem dX2_fail_1 : decode cX2_fail 1 = .ok (.getfield 38, 3) := by decide +kernel
theorem dX2_fail_4 : decode cX2_fail 4 = .ok (.iconst (-1), 1) := by decide +kernel
theorem dX2_fail_5 : decode cX2_fail 5 = .ok (.if_icmp .ne 16, 3) := by decide +kernel
theorem dX2_fail_8 : decode cX2_fail 8 = .ok (.aload_n 0, 1) := by decide +kernel
theorem dX2_fail_9 : decode cX2_fail 9 = .ok (.bipush 8, 2) := by decide +kernel
theorem dX2_fail_11 : decode cX2_fail 11 = .ok (.aload_n 0, 1) := by decide +kernel
theorem dX2_fail_12 : decode cX2_fail 12 = .ok (.getfield 137, 3) := by decide +kernel
theorem dX2_fail_15 : decode cX2_fail 15 = .ok (.imul, 1) := by decide +kernel
theorem dX2_fail_16 : decode cX2_fail 16 = .ok (.iload_n 1, 1) := by decide +kernel
theorem dX2_fail_17 : decode cX2_fail 17 = .ok (.iadd, 1) := by decide +kernel
theorem dX2_fail_18 : decode cX2_fail 18 = .ok (.putfield 38, 3) := by decide +kernel
theorem dX2_fail_21 : decode cX2_fail 21 = .ok (.return_, 1) := by decide +kernel
theorem dX2_takeIf_0 : decode cX2_takeIf 0 = .ok (.aload_n 0, 1) := by decide +kernel
theorem dX2_takeIf_1 : decode cX2_takeIf 1 = .ok (.aload_n 1, 1) := by decide +kernel
theorem dX2_takeIf_2 : decode cX2_takeIf 2 = .ok (.invokevirtual 84, 3) := by decide +kernel
theorem dX2_takeIf_5 : decode cX2_takeIf 5 = .ok (.ifCond .ne 5, 3) := by decide +kernel
theorem dX2_takeIf_8 : decode cX2_takeIf 8 = .ok (.iconst 0, 1) := by decide +kernel
theorem dX2_takeIf_9 : decode cX2_takeIf 9 = .ok (.ireturn, 1) := by decide +kernel
theorem dX2_takeIf_10 : decode cX2_takeIf 10 = .ok (.aload_n 0, 1) := by decide +kernel
theorem dX2_takeIf_11 : decode cX2_takeIf 11 = .ok (.invokevirtual 51, 3) := by decide +kernel
theorem dX2_takeIf_14 : decode cX2_takeIf 14 = .ok (.iconst 1, 1) := by decide +kernel
theorem dX2_takeIf_15 : decode cX2_takeIf 15 = .ok (.ireturn, 1) := by decide +kernel
theorem dX2_takeSemicolon_0 : decode cX2_takeSemicolon 0 = .ok (.aload_n 0, 1) := by decide +kernel
theorem dX2_takeSemicolon_1 : decode cX2_takeSemicolon 1 = .ok (.getfield 38, 3) := by decide +kernel
theorem dX2_takeSemicolon_4 : decode cX2_takeSemicolon 4 = .ok (.iconst (-1), 1) := by decide +kernel
theorem dX2_takeSemicolon_5 : decode cX2_takeSemicolon 5 = .ok (.if_icmp .ne 18, 3) := by decide +kernel
theorem dX2_takeSemicolon_8 : decode cX2_takeSemicolon 8 = .ok (.aload_n 0, 1) := by decide +kernel
theorem dX2_takeSemicolon_9 : decode cX2_takeSemicolon 9 = .ok (.getfield 76, 3) := by decide +kernel
theorem dX2_takeSemicolon_12 : decode cX2_takeSemicolon 12 = .ok (.iconst 3, 1) := by decide +kernel
theorem dX2_takeSemicolon_13 : decode cX2_takeSemicolon 13 = .ok (.if_icmp .ne 10, 3) := by decide +kernel
theorem dX2_takeSemicolon_16 : decode cX2_takeSemicolon 16 = .ok (.aload_n 0, 1) := by decide +kernel
theorem dX2_takeSemicolon_17 : decode cX2_takeSemicolon 17 = .ok (.invokevirtual 51, 3) := by decide +kernel
theorem dX2_takeSemicolon_20 : decode cX2_takeSemicolon 20 = .ok (.goto 8, 3) := by decide +kernel
theorem dX2_takeSemicolon_23 : decode cX2_takeSemicolon 23 = .ok (.aload_n 0, 1) := by decide +kernel
theorem dX2_takeSemicolon_24 : decode cX2_takeSemicolon 24 = .ok (.iconst 1, 1) := by decide +kernel
theorem dX2_takeSemicolon_25 : decode cX2_takeSemicolon 25 = .ok (.invokevirtual 60, 3) := by decide +kernel
theorem dX2_takeSemicolon_28 : decode cX2_takeSemicolon 28 = .ok (.return_, 1) := by decide +kernel
theorem dX2_takeMinus_0 : decode cX2_takeMinus 0 = .ok (.aload_n 0, 1) := by decide +kernel
theorem dX2_takeMinus_1 : decode cX2_takeMinus 1 = .ok (.getfield 38, 3) := by decide +kernel
theorem dX2_takeMinus_4 : decode cX2_takeMinus 4 = .ok (.iconst (-1), 1) := by decide +kernel
theorem dX2_takeMinus_5 : decode cX2_takeMinus 5 = .ok (.if_icmp .ne 11, 3) := by decide +kernel
theorem dX2_takeMinus_8 : decode cX2_takeMinus 8 = .ok (.aload_n 0, 1) := by decide +kernel
theorem dX2_takeMinus_9 : decode cX2_takeMinus 9 = .ok (.getfield 76, 3) := by decide +kernel
theorem dX2_takeMinus_12 : decode cX2_takeMinus 12 = .ok (.iconst 4, 1) := by decide +kernel
theorem dX2_takeMinus_13 : decode cX2_takeMinus 13 = .ok (.if_icmp .eq 5, 3) := by decide +kernel
theorem dX2_takeMinus_16 : decode cX2_takeMinus 16 = .ok (.iconst 0, 1) := by decide +kernel
theorem dX2_takeMinus_17 : decode cX2_takeMinus 17 = .ok (.ireturn, 1) := by decide +kernel
theorem dX2_takeMinus_18 : decode cX2_takeMinus 18 = .ok (.aload_n 0, 1) := by decide +kernel
theorem dX2_takeMinus_19 : decode cX2_takeMinus 19 = .ok (.invokevirtual 51, 3) := by decide +kernel
theorem dX2_takeMinus_22 : decode cX2_takeMinus 22 = .ok (.iconst 1, 1) := by decide +kernel
theorem dX2_takeMinus_23 : decode cX2_takeMinus 23 = .ok (.ireturn, 1) := by decide +kernel
theorem dX2_takeNumber_0 : decode cX2_takeNumber 0 = .ok (.aload_n 0, 1) := by decide +kernel
theorem dX2_takeNumber_1 : decode cX2_takeNumber 1 = .ok (.getfield 38, 3) := by decide +kernel
theorem dX2_takeNumber_4 : decode cX2_takeNumber 4 = .ok (.iconst (-1), 1) := by decide +kernel
theorem dX2_takeNumber_5 : decode cX2_takeNumber 5 = .ok (.if_icmp .ne 11, 3) := by decide +kernel
theorem dX2_takeNumber_8 : decode cX2_takeNumber 8 = .ok (.aload_n 0, 1) := by decide +kernel
theorem dX2_takeNumber_9 : decode cX2_takeNumber 9 = .ok (.getfield 76, 3) := by decide +kernel
theorem dX2_takeNumber_12 : decode cX2_takeNumber 12 = .ok (.iconst 2, 1) := by decide +kernel
theorem dX2_takeNumber_13 : decode cX2_takeNumber 13 = .ok (.if_icmp .eq 10, 3) := by decide +kernel
theorem dX2_takeNumber_16 : decode cX2_takeNumber 16 = .ok (.aload_n 0, 1) := by decide +kernel
theorem dX2_takeNumber_17 : decode cX2_takeNumber 17 = .ok (.iconst 1, 1) := by decide +kernel
theorem dX2_takeNumber_18 : decode cX2_takeNumber 18 = .ok (.invokevirtual 60, 3) := by decide +kernel
theorem dX2_takeNumber_21 : decode cX2_takeNumber 21 = .ok (.iconst (-1), 1) := by decide +kernel
theorem dX2_takeNumber_22 : decode cX2_takeNumber 22 = .ok (.ireturn, 1) := by decide +kernel
theorem dX2_takeNumber_23 : decode cX2_takeNumber 23 = .ok (.iconst 0, 1) := by decide +kernel
theorem dX2_takeNumber_24 : decode cX2_takeNumber 24 = .ok (.istore_n 3, 1) := by decide +kernel
theorem dX2_takeNumber_25 : decode cX2_takeNumber 25 = .ok (.aload_n 0, 1) := by decide +kernel
theorem dX2_takeNumber_26 : decode cX2_takeNumber 26 = .ok (.getfield 137, 3) := by decide +kernel
theorem dX2_takeNumber_29 : decode cX2_takeNumber 29 = .ok (.istore 4, 2) := by decide +kernel
theorem dX2_takeNumber_31 : decode cX2_takeNumber 31 = .ok (.iload 4, 2) := by decide +kernel
theorem dX2_takeNumber_33 : decode cX2_takeNumber 33 = .ok (.aload_n 0, 1) := by decide +kernel
theorem dX2_takeNumber_34 : decode cX2_takeNumber 34 = .ok (.getfield 48, 3) := by decide +kernel
theorem dX2_takeNumber_37 : decode cX2_takeNumber 37 = .ok (.if_icmp .ge 25, 3) := by decide +kernel
theorem dX2_takeNumber_40 : decode cX2_takeNumber 40 = .ok (.bipush 10, 2) := by decide +kernel
theorem dX2_takeNumber_42 : decode cX2_takeNumber 42 = .ok (.iload_n 3, 1) := by decide +kernel
theorem dX2_takeNumber_43 : decode cX2_takeNumber 43 = .ok (.imul, 1) := by decide +kernel
theorem dX2_takeNumber_44 : decode cX2_takeNumber 44 = .ok (.aload_n 0, 1) := by decide +kernel
theorem dX2_takeNumber_45 : decode cX2_takeNumber 45 = .ok (.getfield 9, 3) := by decide +kernel
theorem dX2_takeNumber_48 : decode cX2_takeNumber 48 = .ok (.iload 4, 2) := by decide +kernel
theorem dX2_takeNumber_50 : decode cX2_takeNumber 50 = .ok (.baload, 1) := by decide +kernel
theorem dX2_takeNumber_51 : decode cX2_takeNumber 51 = .ok (.bipush 48, 2) := by decide +kernel
theorem dX2_takeNumber_53 : decode cX2_takeNumber 53 = .ok (.isub, 1) := by decide +kernel
theorem dX2_takeNumber_54 : decode cX2_takeNumber 54 = .ok (.iadd, 1) := by decide +kernel
theorem dX2_takeNumber_55 : decode cX2_takeNumber 55 = .ok (.istore_n 3, 1) := by decide +kernel
theorem dX2_takeNumber_56 : decode cX2_takeNumber 56 = .ok (.iinc 4 1, 3) := by decide +kernel
theorem dX2_takeNumber_59 : decode cX2_takeNumber 59 = .ok (.goto (-28), 3) := by decide +kernel
theorem dX2_takeNumber_62 : decode cX2_takeNumber 62 = .ok (.iload_n 3, 1) := by decide +kernel
theorem dX2_takeNumber_63 : decode cX2_takeNumber 63 = .ok (.iload_n 1, 1) := by decide +kernel
theorem dX2_takeNumber_64 : decode cX2_takeNumber 64 = .ok (.if_icmp .lt 8, 3) := by decide +kernel
theorem dX2_takeNumber_67 : decode cX2_takeNumber 67 = .ok (.iload_n 3, 1) := by decide +kernel
theorem dX2_takeNumber_68 : decode cX2_takeNumber 68 = .ok (.iload_n 2, 1) := by decide +kernel
theorem dX2_takeNumber_69 : decode cX2_takeNumber 69 = .ok (.if_icmp .le 10, 3) := by decide +kernel
theorem dX2_takeNumber_72 : decode cX2_takeNumber 72 = .ok (.aload_n 0, 1) := by decide +kernel
theorem dX2_takeNumber_73 : decode cX2_takeNumber 73 = .ok (.iconst 4, 1) := by decide +kernel
theorem dX2_takeNumber_74 : decode cX2_takeNumber 74 = .ok (.invokevirtual 60, 3) := by decide +kernel
theorem dX2_takeNumber_77 : decode cX2_takeNumber 77 = .ok (.iconst (-1), 1) := by decide +kernel
theorem dX2_takeNumber_78 : decode cX2_takeNumber 78 = .ok (.ireturn, 1) := by decide +kernel
theorem dX2_takeNumber_79 : decode cX2_takeNumber 79 = .ok (.aload_n 0, 1) := by decide +kernel
theorem dX2_takeNumber_80 : decode cX2_takeNumber 80 = .ok (.invokevirtual 51, 3) := by decide +kernel
theorem dX2_takeNumber_83 : decode cX2_takeNumber 83 = .ok (.iload_n 3, 1) := by decide +kernel
theorem dX2_takeNumber_84 : decode cX2_takeNumber 84 = .ok (.ireturn, 1) := by decide +kernel
theorem dX2_isWord_0 : decode cX2_isWord 0 = .ok (.aload_n 0, 1) := by decide +kernel
theorem dX2_isWord_1 : decode cX2_isWord 1 = .ok (.getfield 38, 3) := by decide +kernel
theorem dX2_isWord_4 : decode cX2_isWord 4 = .ok (.iconst (-1), 1) := by decide +kernel
theorem dX2_isWord_5 : decode cX2_isWord 5 = .ok (.if_icmp .ne 27, 3) := by decide +kernel
theorem dX2_isWord_8 : decode cX2_isWord 8 = .ok (.aload_n 0, 1) := by decide +kernel
theorem dX2_isWord_9 : decode cX2_isWord 9 = .ok (.getfield 76, 3) := by decide +kernel
theorem dX2_isWord_12 : decode cX2_isWord 12 = .ok (.iconst 1, 1) := by decide +kernel
theorem dX2_isWord_13 : decode cX2_isWord 13 = .ok (.if_icmp .ne 19, 3) := by decide +kernel
theorem dX2_isWord_16 : decode cX2_isWord 16 = .ok (.aload_n 0, 1) := by decide +kernel
theorem dX2_isWord_17 : decode cX2_isWord 17 = .ok (.getfield 48, 3) := by decide +kernel
theorem dX2_isWord_20 : decode cX2_isWord 20 = .ok (.aload_n 0, 1) := by decide +kernel
theorem dX2_isWord_21 : decode cX2_isWord 21 = .ok (.getfield 137, 3) := by decide +kernel
theorem dX2_isWord_24 : decode cX2_isWord 24 = .ok (.isub, 1) := by decide +kernel
theorem dX2_isWord_25 : decode cX2_isWord 25 = .ok (.aload_n 1, 1) := by decide +kernel
theorem dX2_isWord_26 : decode cX2_isWord 26 = .ok (.invokevirtual 154, 3) := by decide +kernel
theorem dX2_isWord_29 : decode cX2_isWord 29 = .ok (.if_icmp .eq 5, 3) := by decide +kernel
theorem dX2_isWord_32 : decode cX2_isWord 32 = .ok (.iconst 0, 1) := by decide +kernel
theorem dX2_isWord_33 : decode cX2_isWord 33 = .ok (.ireturn, 1) := by decide +kernel
theorem dX2_isWord_34 : decode cX2_isWord 34 = .ok (.iconst 0, 1) := by decide +kernel
theorem dX2_isWord_35 : decode cX2_isWord 35 = .ok (.istore_n 2, 1) := by decide +kernel
theorem dX2_isWord_36 : decode cX2_isWord 36 = .ok (.iload_n 2, 1) := by decide +kernel
theorem dX2_isWord_37 : decode cX2_isWord 37 = .ok (.aload_n 1, 1) := by decide +kernel
theorem dX2_isWord_38 : decode cX2_isWord 38 = .ok (.invokevirtual 154, 3) := by decide +kernel
theorem dX2_isWord_41 : decode cX2_isWord 41 = .ok (.if_icmp .ge 30, 3) := by decide +kernel
theorem dX2_isWord_44 : decode cX2_isWord 44 = .ok (.aload_n 0, 1) := by decide +kernel
theorem dX2_isWord_45 : decode cX2_isWord 45 = .ok (.getfield 9, 3) := by decide +kernel
theorem dX2_isWord_48 : decode cX2_isWord 48 = .ok (.aload_n 0, 1) := by decide +kernel
theorem dX2_isWord_49 : decode cX2_isWord 49 = .ok (.getfield 137, 3) := by decide +kernel
theorem dX2_isWord_52 : decode cX2_isWord 52 = .ok (.iload_n 2, 1) := by decide +kernel
theorem dX2_isWord_53 : decode cX2_isWord 53 = .ok (.iadd, 1) := by decide +kernel
theorem dX2_isWord_54 : decode cX2_isWord 54 = .ok (.baload, 1) := by decide +kernel
theorem dX2_isWord_55 : decode cX2_isWord 55 = .ok (.aload_n 1, 1) := by decide +kernel
theorem dX2_isWord_56 : decode cX2_isWord 56 = .ok (.iload_n 2, 1) := by decide +kernel
theorem dX2_isWord_57 : decode cX2_isWord 57 = .ok (.invokevirtual 159, 3) := by decide +kernel
theorem dX2_isWord_60 : decode cX2_isWord 60 = .ok (.if_icmp .eq 5, 3) := by decide +kernel
theorem dX2_isWord_63 : decode cX2_isWord 63 = .ok (.iconst 0, 1) := by decide +kernel
theorem dX2_isWord_64 : decode cX2_isWord 64 = .ok (.ireturn, 1) := by decide +kernel
theorem dX2_isWord_65 : decode cX2_isWord 65 = .ok (.iinc 2 1, 3) := by decide +kernel
theorem dX2_isWord_68 : decode cX2_isWord 68 = .ok (.goto (-32), 3) := by decide +kernel
theorem dX2_isWord_71 : decode cX2_isWord 71 = .ok (.iconst 1, 1) := by decide +kernel
theorem dX2_isWord_72 : decode cX2_isWord 72 = .ok (.ireturn, 1) := by decide +kernel
theorem dX2_advance_0 : decode cX2_advance 0 = .ok (.aload_n 0, 1) := by decide +kernel
theorem dX2_advance_1 : decode cX2_advance 1 = .ok (.aload_n 0, 1) := by decide +kernel
theorem dX2_advance_2 : decode cX2_advance 2 = .ok (.getfield 48, 3) := by decide +kernel
theorem dX2_advance_5 : decode cX2_advance 5 = .ok (.putfield 137, 3) := by decide +kernel
theorem dX2_advance_8 : decode cX2_advance 8 = .ok (.aload_n 0, 1) := by decide +kernel
theorem dX2_advance_9 : decode cX2_advance 9 = .ok (.getfield 137, 3) := by decide +kernel
theorem dX2_advance_12 : decode cX2_advance 12 = .ok (.aload_n 0, 1) := by decide +kernel
theorem dX2_advance_13 : decode cX2_advance 13 = .ok (.getfield 32, 3) := by decide +kernel
theorem dX2_advance_16 : decode cX2_advance 16 = .ok (.if_icmp .ge 44, 3) := by decide +kernel
theorem dX2_advance_19 : decode cX2_advance 19 = .ok (.aload_n 0, 1) := by decide +kernel
theorem dX2_advance_20 : decode cX2_advance 20 = .ok (.getfield 9, 3) := by decide +kernel
theorem dX2_advance_23 : decode cX2_advance 23 = .ok (.aload_n 0, 1) := by decide +kernel
theorem dX2_advance_24 : decode cX2_advance 24 = .ok (.getfield 137, 3) := by decide +kernel
theorem dX2_advance_27 : decode cX2_advance 27 = .ok (.baload, 1) := by decide +kernel
theorem dX2_advance_28 : decode cX2_advance 28 = .ok (.bipush 32, 2) := by decide +kernel
theorem dX2_advance_30 : decode cX2_advance 30 = .ok (.if_icmp .eq 17, 3) := by decide +kernel
theorem dX2_advance_33 : decode cX2_advance 33 = .ok (.aload_n 0, 1) := by decide +kernel
theorem dX2_advance_34 : decode cX2_advance 34 = .ok (.getfield 9, 3) := by decide +kernel
theorem dX2_advance_37 : decode cX2_advance 37 = .ok (.aload_n 0, 1) := by decide +kernel
theorem dX2_advance_38 : decode cX2_advance 38 = .ok (.getfield 137, 3) := by decide +kernel
theorem dX2_advance_41 : decode cX2_advance 41 = .ok (.baload, 1) := by decide +kernel
theorem dX2_advance_42 : decode cX2_advance 42 = .ok (.bipush 10, 2) := by decide +kernel
theorem dX2_advance_44 : decode cX2_advance 44 = .ok (.if_icmp .ne 16, 3) := by decide +kernel
theorem dX2_advance_47 : decode cX2_advance 47 = .ok (.aload_n 0, 1) := by decide +kernel
theorem dX2_advance_48 : decode cX2_advance 48 = .ok (.dup, 1) := by decide +kernel
theorem dX2_advance_49 : decode cX2_advance 49 = .ok (.getfield 137, 3) := by decide +kernel
theorem dX2_advance_52 : decode cX2_advance 52 = .ok (.iconst 1, 1) := by decide +kernel
theorem dX2_advance_53 : decode cX2_advance 53 = .ok (.iadd, 1) := by decide +kernel
theorem dX2_advance_54 : decode cX2_advance 54 = .ok (.putfield 137, 3) := by decide +kernel
theorem dX2_advance_57 : decode cX2_advance 57 = .ok (.goto (-49), 3) := by decide +kernel
theorem dX2_advance_60 : decode cX2_advance 60 = .ok (.aload_n 0, 1) := by decide +kernel
theorem dX2_advance_61 : decode cX2_advance 61 = .ok (.getfield 137, 3) := by decide +kernel
theorem dX2_advance_64 : decode cX2_advance 64 = .ok (.aload_n 0, 1) := by decide +kernel
theorem dX2_advance_65 : decode cX2_advance 65 = .ok (.getfield 32, 3) := by decide +kernel
theorem dX2_advance_68 : decode cX2_advance 68 = .ok (.if_icmp .lt 19, 3) := by decide +kernel
theorem dX2_advance_71 : decode cX2_advance 71 = .ok (.aload_n 0, 1) := by decide +kernel
theorem dX2_advance_72 : decode cX2_advance 72 = .ok (.aload_n 0, 1) := by decide +kernel
theorem dX2_advance_73 : decode cX2_advance 73 = .ok (.getfield 32, 3) := by decide +kernel
theorem dX2_advance_76 : decode cX2_advance 76 = .ok (.putfield 48, 3) := by decide +kernel
theorem dX2_advance_79 : decode cX2_advance 79 = .ok (.aload_n 0, 1) := by decide +kernel
theorem dX2_advance_80 : decode cX2_advance 80 = .ok (.iconst 0, 1) := by decide +kernel
theorem dX2_advance_81 : decode cX2_advance 81 = .ok (.putfield 76, 3) := by decide +kernel
theorem dX2_advance_84 : decode cX2_advance 84 = .ok (.goto 185, 3) := by decide +kernel
theorem dX2_advance_87 : decode cX2_advance 87 = .ok (.aload_n 0, 1) := by decide +kernel
theorem dX2_advance_88 : decode cX2_advance 88 = .ok (.getfield 9, 3) := by decide +kernel
theorem dX2_advance_91 : decode cX2_advance 91 = .ok (.aload_n 0, 1) := by decide +kernel
theorem dX2_advance_92 : decode cX2_advance 92 = .ok (.getfield 137, 3) := by decide +kernel
theorem dX2_advance_95 : decode cX2_advance 95 = .ok (.baload, 1) := by decide +kernel
theorem dX2_advance_96 : decode cX2_advance 96 = .ok (.bipush 97, 2) := by decide +kernel
theorem dX2_advance_98 : decode cX2_advance 98 = .ok (.if_icmp .lt 55, 3) := by decide +kernel
theorem dX2_advance_101 : decode cX2_advance 101 = .ok (.aload_n 0, 1) := by decide +kernel
theorem dX2_advance_102 : decode cX2_advance 102 = .ok (.getfield 9, 3) := by decide +kernel
theorem dX2_advance_105 : decode cX2_advance 105 = .ok (.aload_n 0, 1) := by decide +kernel
theorem dX2_advance_106 : decode cX2_advance 106 = .ok (.getfield 137, 3) := by decide +kernel
theorem dX2_advance_109 : decode cX2_advance 109 = .ok (.baload, 1) := by decide +kernel
theorem dX2_advance_110 : decode cX2_advance 110 = .ok (.bipush 122, 2) := by decide +kernel
theorem dX2_advance_112 : decode cX2_advance 112 = .ok (.if_icmp .gt 41, 3) := by decide +kernel
theorem dX2_advance_115 : decode cX2_advance 115 = .ok (.aload_n 0, 1) := by decide +kernel
theorem dX2_advance_116 : decode cX2_advance 116 = .ok (.aload_n 0, 1) := by decide +kernel
theorem dX2_advance_117 : decode cX2_advance 117 = .ok (.bipush 97, 2) := by decide +kernel
theorem dX2_advance_119 : decode cX2_advance 119 = .ok (.bipush 122, 2) := by decide +kernel
theorem dX2_advance_121 : decode cX2_advance 121 = .ok (.invokevirtual 163, 3) := by decide +kernel
theorem dX2_advance_124 : decode cX2_advance 124 = .ok (.putfield 48, 3) := by decide +kernel
theorem dX2_advance_127 : decode cX2_advance 127 = .ok (.aload_n 0, 1) := by decide +kernel
theorem dX2_advance_128 : decode cX2_advance 128 = .ok (.aload_n 0, 1) := by decide +kernel
theorem dX2_advance_129 : decode cX2_advance 129 = .ok (.getfield 48, 3) := by decide +kernel
theorem dX2_advance_132 : decode cX2_advance 132 = .ok (.aload_n 0, 1) := by decide +kernel
theorem dX2_advance_133 : decode cX2_advance 133 = .ok (.getfield 137, 3) := by decide +kernel
theorem dX2_advance_136 : decode cX2_advance 136 = .ok (.isub, 1) := by decide +kernel
theorem dX2_advance_137 : decode cX2_advance 137 = .ok (.bipush 8, 2) := by decide +kernel
theorem dX2_advance_139 : decode cX2_advance 139 = .ok (.if_icmp .gt 7, 3) := by decide +kernel
theorem dX2_advance_142 : decode cX2_advance 142 = .ok (.iconst 1, 1) := by decide +kernel
theorem dX2_advance_143 : decode cX2_advance 143 = .ok (.goto 4, 3) := by decide +kernel
theorem dX2_advance_146 : decode cX2_advance 146 = .ok (.iconst 5, 1) := by decide +kernel
theorem dX2_advance_147 : decode cX2_advance 147 = .ok (.putfield 76, 3) := by decide +kernel
theorem dX2_advance_150 : decode cX2_advance 150 = .ok (.goto 119, 3) := by decide +kernel
theorem dX2_advance_153 : decode cX2_advance 153 = .ok (.aload_n 0, 1) := by decide +kernel
theorem dX2_advance_154 : decode cX2_advance 154 = .ok (.getfield 9, 3) := by decide +kernel
theorem dX2_advance_157 : decode cX2_advance 157 = .ok (.aload_n 0, 1) := by decide +kernel
theorem dX2_advance_158 : decode cX2_advance 158 = .ok (.getfield 137, 3) := by decide +kernel
theorem dX2_advance_161 : decode cX2_advance 161 = .ok (.baload, 1) := by decide +kernel
theorem dX2_advance_162 : decode cX2_advance 162 = .ok (.bipush 48, 2) := by decide +kernel
theorem dX2_advance_164 : decode cX2_advance 164 = .ok (.if_icmp .lt 54, 3) := by decide +kernel
theorem dX2_advance_167 : decode cX2_advance 167 = .ok (.aload_n 0, 1) := by decide +kernel
theorem dX2_advance_168 : decode cX2_advance 168 = .ok (.getfield 9, 3) := by decide +kernel
theorem dX2_advance_171 : decode cX2_advance 171 = .ok (.aload_n 0, 1) := by decide +kernel
theorem dX2_advance_172 : decode cX2_advance 172 = .ok (.getfield 137, 3) := by decide +kernel
theorem dX2_advance_175 : decode cX2_advance 175 = .ok (.baload, 1) := by decide +kernel
theorem dX2_advance_176 : decode cX2_advance 176 = .ok (.bipush 57, 2) := by decide +kernel
theorem dX2_advance_178 : decode cX2_advance 178 = .ok (.if_icmp .gt 40, 3) := by decide +kernel
theorem dX2_advance_181 : decode cX2_advance 181 = .ok (.aload_n 0, 1) := by decide +kernel
theorem dX2_advance_182 : decode cX2_advance 182 = .ok (.aload_n 0, 1) := by decide +kernel
theorem dX2_advance_183 : decode cX2_advance 183 = .ok (.bipush 48, 2) := by decide +kernel
theorem dX2_advance_185 : decode cX2_advance 185 = .ok (.bipush 57, 2) := by decide +kernel
theorem dX2_advance_187 : decode cX2_advance 187 = .ok (.invokevirtual 163, 3) := by decide +kernel
theorem dX2_advance_190 : decode cX2_advance 190 = .ok (.putfield 48, 3) := by decide +kernel
theorem dX2_advance_193 : decode cX2_advance 193 = .ok (.aload_n 0, 1) := by decide +kernel
theorem dX2_advance_194 : decode cX2_advance 194 = .ok (.aload_n 0, 1) := by decide +kernel
theorem dX2_advance_195 : decode cX2_advance 195 = .ok (.getfield 48, 3) := by decide +kernel
theorem dX2_advance_198 : decode cX2_advance 198 = .ok (.aload_n 0, 1) := by decide +kernel
theorem dX2_advance_199 : decode cX2_advance 199 = .ok (.getfield 137, 3) := by decide +kernel
theorem dX2_advance_202 : decode cX2_advance 202 = .ok (.isub, 1) := by decide +kernel
theorem dX2_advance_203 : decode cX2_advance 203 = .ok (.iconst 4, 1) := by decide +kernel
theorem dX2_advance_204 : decode cX2_advance 204 = .ok (.if_icmp .gt 7, 3) := by decide +kernel
theorem dX2_advance_207 : decode cX2_advance 207 = .ok (.iconst 2, 1) := by decide +kernel
theorem dX2_advance_208 : decode cX2_advance 208 = .ok (.goto 4, 3) := by decide +kernel
theorem dX2_advance_211 : decode cX2_advance 211 = .ok (.iconst 5, 1) := by decide +kernel
theorem dX2_advance_212 : decode cX2_advance 212 = .ok (.putfield 76, 3) := by decide +kernel
theorem dX2_advance_215 : decode cX2_advance 215 = .ok (.goto 54, 3) := by decide +kernel
theorem dX2_advance_218 : decode cX2_advance 218 = .ok (.aload_n 0, 1) := by decide +kernel
theorem dX2_advance_219 : decode cX2_advance 219 = .ok (.aload_n 0, 1) := by decide +kernel
theorem dX2_advance_220 : decode cX2_advance 220 = .ok (.getfield 137, 3) := by decide +kernel
theorem dX2_advance_223 : decode cX2_advance 223 = .ok (.iconst 1, 1) := by decide +kernel
theorem dX2_advance_224 : decode cX2_advance 224 = .ok (.iadd, 1) := by decide +kernel
theorem dX2_advance_225 : decode cX2_advance 225 = .ok (.putfield 48, 3) := by decide +kernel
theorem dX2_advance_228 : decode cX2_advance 228 = .ok (.aload_n 0, 1) := by decide +kernel
theorem dX2_advance_229 : decode cX2_advance 229 = .ok (.aload_n 0, 1) := by decide +kernel
theorem dX2_advance_230 : decode cX2_advance 230 = .ok (.getfield 9, 3) := by decide +kernel
theorem dX2_advance_233 : decode cX2_advance 233 = .ok (.aload_n 0, 1) := by decide +kernel
theorem dX2_advance_234 : decode cX2_advance 234 = .ok (.getfield 137, 3) := by decide +kernel
theorem dX2_advance_237 : decode cX2_advance 237 = .ok (.baload, 1) := by decide +kernel
theorem dX2_advance_238 : decode cX2_advance 238 = .ok (.bipush 59, 2) := by decide +kernel
theorem dX2_advance_240 : decode cX2_advance 240 = .ok (.if_icmp .ne 7, 3) := by decide +kernel
theorem dX2_advance_243 : decode cX2_advance 243 = .ok (.iconst 3, 1) := by decide +kernel
theorem dX2_advance_244 : decode cX2_advance 244 = .ok (.goto 22, 3) := by decide +kernel
theorem dX2_advance_247 : decode cX2_advance 247 = .ok (.aload_n 0, 1) := by decide +kernel
theorem dX2_advance_248 : decode cX2_advance 248 = .ok (.getfield 9, 3) := by decide +kernel
theorem dX2_advance_251 : decode cX2_advance 251 = .ok (.aload_n 0, 1) := by decide +kernel
theorem dX2_advance_252 : decode cX2_advance 252 = .ok (.getfield 137, 3) := by decide +kernel
theorem dX2_advance_255 : decode cX2_advance 255 = .ok (.baload, 1) := by decide +kernel
theorem dX2_advance_256 : decode cX2_advance 256 = .ok (.bipush 45, 2) := by decide +kernel
theorem dX2_advance_258 : decode cX2_advance 258 = .ok (.if_icmp .ne 7, 3) := by decide +kernel
theorem dX2_advance_261 : decode cX2_advance 261 = .ok (.iconst 4, 1) := by decide +kernel
theorem dX2_advance_262 : decode cX2_advance 262 = .ok (.goto 4, 3) := by decide +kernel
theorem dX2_advance_265 : decode cX2_advance 265 = .ok (.iconst 5, 1) := by decide +kernel
theorem dX2_advance_266 : decode cX2_advance 266 = .ok (.putfield 76, 3) := by decide +kernel
theorem dX2_advance_269 : decode cX2_advance 269 = .ok (.return_, 1) := by decide +kernel
theorem dX2_runEnd_0 : decode cX2_runEnd 0 = .ok (.aload_n 0, 1) := by decide +kernel
theorem dX2_runEnd_1 : decode cX2_runEnd 1 = .ok (.getfield 137, 3) := by decide +kernel
theorem dX2_runEnd_4 : decode cX2_runEnd 4 = .ok (.istore_n 3, 1) := by decide +kernel
theorem dX2_runEnd_5 : decode cX2_runEnd 5 = .ok (.iload_n 3, 1) := by decide +kernel
theorem dX2_runEnd_6 : decode cX2_runEnd 6 = .ok (.aload_n 0, 1) := by decide +kernel
theorem dX2_runEnd_7 : decode cX2_runEnd 7 = .ok (.getfield 32, 3) := by decide +kernel
theorem dX2_runEnd_10 : decode cX2_runEnd 10 = .ok (.if_icmp .ge 29, 3) := by decide +kernel
theorem dX2_runEnd_13 : decode cX2_runEnd 13 = .ok (.aload_n 0, 1) := by decide +kernel
theorem dX2_runEnd_14 : decode cX2_runEnd 14 = .ok (.getfield 9, 3) := by decide +kernel
theorem dX2_runEnd_17 : decode cX2_runEnd 17 = .ok (.iload_n 3, 1) := by decide +kernel
theorem dX2_runEnd_18 : decode cX2_runEnd 18 = .ok (.baload, 1) := by decide +kernel
theorem dX2_runEnd_19 : decode cX2_runEnd 19 = .ok (.iload_n 1, 1) := by decide +kernel
theorem dX2_runEnd_20 : decode cX2_runEnd 20 = .ok (.if_icmp .lt 19, 3) := by decide +kernel
theorem dX2_runEnd_23 : decode cX2_runEnd 23 = .ok (.aload_n 0, 1) := by decide +kernel
theorem dX2_runEnd_24 : decode cX2_runEnd 24 = .ok (.getfield 9, 3) := by decide +kernel
theorem dX2_runEnd_27 : decode cX2_runEnd 27 = .ok (.iload_n 3, 1) := by decide +kernel
theorem dX2_runEnd_28 : decode cX2_runEnd 28 = .ok (.baload, 1) := by decide +kernel
theorem dX2_runEnd_29 : decode cX2_runEnd 29 = .ok (.iload_n 2, 1) := by decide +kernel
theorem dX2_runEnd_30 : decode cX2_runEnd 30 = .ok (.if_icmp .gt 9, 3) := by decide +kernel
theorem dX2_runEnd_33 : decode cX2_runEnd 33 = .ok (.iinc 3 1, 3) := by decide +kernel
theorem dX2_runEnd_36 : decode cX2_runEnd 36 = .ok (.goto (-31), 3) := by decide +kernel
theorem dX2_runEnd_39 : decode cX2_runEnd 39 = .ok (.iload_n 3, 1) := by decide +kernel
theorem dX2_runEnd_40 : decode cX2_runEnd 40 = .ok (.ireturn, 1) := by decide +kernel
theorem dX3_init_0 : decode cX3_init 0 = .ok (.aload_n 0, 1) := by decide +kernel
theorem dX3_init_1 : decode cX3_init 1 = .ok (.invokespecial 3, 3) := by decide +kernel
theorem dX3_init_4 : decode cX3_init 4 = .ok (.return_, 1) := by decide +kernel
theorem dX3_measure_0 : decode cX3_measure 0 = .ok (.aload_n 0, 1) := by decide +kernel
theorem dX3_measure_1 : decode cX3_measure 1 = .ok (.iload_n 3, 1) := by decide +kernel
theorem dX3_measure_2 : decode cX3_measure 2 = .ok (.putfield 9, 3) := by decide +kernel
theorem dX3_measure_5 : decode cX3_measure 5 = .ok (.aload_n 0, 1) := by decide +kernel
theorem dX3_measure_6 : decode cX3_measure 6 = .ok (.iconst 0, 1) := by decide +kernel
theorem dX3_measure_7 : decode cX3_measure 7 = .ok (.putfield 15, 3) := by decide +kernel
theorem dX3_measure_10 : decode cX3_measure 10 = .ok (.aload_n 0, 1) := by decide +kernel
theorem dX3_measure_11 : decode cX3_measure 11 = .ok (.iconst 0, 1) := by decide +kernel
theorem dX3_measure_12 : decode cX3_measure 12 = .ok (.putfield 18, 3) := by decide +kernel
theorem dX3_measure_15 : decode cX3_measure 15 = .ok (.aload_n 0, 1) := by decide +kernel
theorem dX3_measure_16 : decode cX3_measure 16 = .ok (.iconst 0, 1) := by decide +kernel
theorem dX3_measure_17 : decode cX3_measure 17 = .ok (.putfield 21, 3) := by decide +kernel
theorem dX3_measure_20 : decode cX3_measure 20 = .ok (.aload_n 0, 1) := by decide +kernel
theorem dX3_measure_21 : decode cX3_measure 21 = .ok (.iload_n 3, 1) := by decide +kernel
theorem dX3_measure_22 : decode cX3_measure 22 = .ok (.ifCond .lt 20, 3) := by decide +kernel
theorem dX3_measure_25 : decode cX3_measure 25 = .ok (.iload_n 3, 1) := by decide +kernel
theorem dX3_measure_26 : decode cX3_measure 26 = .ok (.aload_n 1, 1) := by decide +kernel
theorem dX3_measure_27 : decode cX3_measure 27 = .ok (.getfield 24, 3) := by decide +kernel
theorem dX3_measure_30 : decode cX3_measure 30 = .ok (.if_icmp .ge 12, 3) := by decide +kernel
theorem dX3_measure_33 : decode cX3_measure 33 = .ok (.aload_n 2, 1) := by decide +kernel
theorem dX3_measure_34 : decode cX3_measure 34 = .ok (.getfield 27, 3) := by decide +kernel
theorem dX3_measure_37 : decode cX3_measure 37 = .ok (.iload_n 3, 1) := by decide +kernel
theorem dX3_measure_38 : decode cX3_measure 38 = .ok (.iaload, 1) := by decide +kernel
theorem dX3_measure_39 : decode cX3_measure 39 = .ok (.goto 4, 3) := by decide +kernel
theorem dX3_measure_42 : decode cX3_measure 42 = .ok (.iconst 0, 1) := by decide +kernel
theorem dX3_measure_43 : decode cX3_measure 43 = .ok (.putfield 33, 3) := by decide +kernel
theorem dX3_measure_46 : decode cX3_measure 46 = .ok (.iconst 0, 1) := by decide +kernel
theorem dX3_measure_47 : decode cX3_measure 47 = .ok (.istore 4, 2) := by decide +kernel
theorem dX3_measure_49 : decode cX3_measure 49 = .ok (.iload_n 3, 1) := by decide +kernel
theorem dX3_measure_50 : decode cX3_measure 50 = .ok (.istore 5, 2) := by decide +kernel
theorem dX3_measure_52 : decode cX3_measure 52 = .ok (.iload 5, 2) := by decide +kernel
theorem dX3_measure_54 : decode cX3_measure 54 = .ok (.ifCond .lt 91, 3) := by decide +kernel
theorem dX3_measure_57 : decode cX3_measure 57 = .ok (.iload 5, 2) := by decide +kernel
theorem dX3_measure_59 : decode cX3_measure 59 = .ok (.aload_n 1, 1) := by decide +kernel
theorem dX3_measure_60 : decode cX3_measure 60 = .ok (.getfield 24, 3) := by decide +kernel
theorem dX3_measure_63 : decode cX3_measure 63 = .ok (.if_icmp .ge 82, 3) := by decide +kernel
theorem dX3_measure_66 : decode cX3_measure 66 = .ok (.aload_n 0, 1) := by decide +kernel
theorem dX3_measure_67 : decode cX3_measure 67 = .ok (.dup, 1) := by decide +kernel
theorem dX3_measure_68 : decode cX3_measure 68 = .ok (.getfield 15, 3) := by decide +kernel
theorem dX3_measure_71 : decode cX3_measure 71 = .ok (.iconst 1, 1) := by decide +kernel
theorem dX3_measure_72 : decode cX3_measure 72 = .ok (.iadd, 1) := by decide +kernel
theorem dX3_measure_73 : decode cX3_measure 73 = .ok (.putfield 15, 3) := by decide +kernel
theorem dX3_measure_76 : decode cX3_measure 76 = .ok (.aload_n 0, 1) := by decide +kernel
theorem dX3_measure_77 : decode cX3_measure 77 = .ok (.dup, 1) := by decide +kernel
theorem dX3_measure_78 : decode cX3_measure 78 = .ok (.getfield 18, 3) := by decide +kernel
theorem dX3_measure_81 : decode cX3_measure 81 = .ok (.aload_n 1, 1) := by decide +kernel
theorem dX3_measure_82 : decode cX3_measure 82 = .ok (.getfield 35, 3) := by decide +kernel
theorem dX3_measure_85 : decode cX3_measure 85 = .ok (.iload 5, 2) := by decide +kernel
theorem dX3_measure_87 : decode cX3_measure 87 = .ok (.iaload, 1) := by decide +kernel
theorem dX3_measure_88 : decode cX3_measure 88 = .ok (.iadd, 1) := by decide +kernel
theorem dX3_measure_89 : decode cX3_measure 89 = .ok (.putfield 18, 3) := by decide +kernel
theorem dX3_measure_92 : decode cX3_measure 92 = .ok (.aload_n 0, 1) := by decide +kernel
theorem dX3_measure_93 : decode cX3_measure 93 = .ok (.aload_n 0, 1) := by decide +kernel
theorem dX3_measure_94 : decode cX3_measure 94 = .ok (.getfield 21, 3) := by decide +kernel
theorem dX3_measure_97 : decode cX3_measure 97 = .ok (.iload 4, 2) := by decide +kernel
theorem dX3_measure_99 : decode cX3_measure 99 = .ok (.aload_n 1, 1) := by decide +kernel
theorem dX3_measure_100 : decode cX3_measure 100 = .ok (.getfield 38, 3) := by decide +kernel
theorem dX3_measure_103 : decode cX3_measure 103 = .ok (.iload 5, 2) := by decide +kernel
theorem dX3_measure_105 : decode cX3_measure 105 = .ok (.iaload, 1) := by decide +kernel
theorem dX3_measure_106 : decode cX3_measure 106 = .ok (.iadd, 1) := by decide +kernel
theorem dX3_measure_107 : decode cX3_measure 107 = .ok (.invokestatic 40, 3) := by decide +kernel
theorem dX3_measure_110 : decode cX3_measure 110 = .ok (.putfield 21, 3) := by decide +kernel
theorem dX3_measure_113 : decode cX3_measure 113 = .ok (.aload_n 2, 1) := by decide +kernel
theorem dX3_measure_114 : decode cX3_measure 114 = .ok (.getfield 46, 3) := by decide +kernel
theorem dX3_measure_117 : decode cX3_measure 117 = .ok (.iload 5, 2) := by decide +kernel
theorem dX3_measure_119 : decode cX3_measure 119 = .ok (.iaload, 1) := by decide +kernel
theorem dX3_measure_120 : decode cX3_measure 120 = .ok (.iconst (-1), 1) := by decide +kernel
theorem dX3_measure_121 : decode cX3_measure 121 = .ok (.if_icmp .ne 6, 3) := by decide +kernel
theorem dX3_measure_124 : decode cX3_measure 124 = .ok (.goto 21, 3) := by decide +kernel
theorem dX3_measure_127 : decode cX3_measure 127 = .ok (.iload 4, 2) := by decide +kernel
theorem dX3_measure_129 : decode cX3_measure 129 = .ok (.aload_n 2, 1) := by decide +kernel
theorem dX3_measure_130 : decode cX3_measure 130 = .ok (.getfield 46, 3) := by decide +kernel
theorem dX3_measure_133 : decode cX3_measure 133 = .ok (.iload 5, 2) := by decide +kernel
theorem dX3_measure_135 : decode cX3_measure 135 = .ok (.iaload, 1) := by decide +kernel
theorem dX3_measure_136 : decode cX3_measure 136 = .ok (.iadd, 1) := by decide +kernel
theorem dX3_measure_137 : decode cX3_measure 137 = .ok (.istore 4, 2) := by decide +kernel
theorem dX3_measure_139 : decode cX3_measure 139 = .ok (.iinc 5 1, 3) := by decide +kernel
theorem dX3_measure_142 : decode cX3_measure 142 = .ok (.goto (-90), 3) := by decide +kernel
theorem dX3_measure_145 : decode cX3_measure 145 = .ok (.return_, 1) := by decide +kernel
theorem dX4_init_0 : decode cX4_init 0 = .ok (.aload_n 0, 1) := by decide +kernel
theorem dX4_init_1 : decode cX4_init 1 = .ok (.invokespecial 3, 3) := by decide +kernel
theorem dX4_init_4 : decode cX4_init 4 = .ok (.aload_n 0, 1) := by decide +kernel
theorem dX4_init_5 : decode cX4_init 5 = .ok (.bipush 40, 2) := by decide +kernel
theorem dX4_init_7 : decode cX4_init 7 = .ok (.newarray .int, 2) := by decide +kernel
theorem dX4_init_9 : decode cX4_init 9 = .ok (.putfield 9, 3) := by decide +kernel
theorem dX4_init_12 : decode cX4_init 12 = .ok (.aload_n 0, 1) := by decide +kernel
theorem dX4_init_13 : decode cX4_init 13 = .ok (.bipush 40, 2) := by decide +kernel
theorem dX4_init_15 : decode cX4_init 15 = .ok (.newarray .int, 2) := by decide +kernel
theorem dX4_init_17 : decode cX4_init 17 = .ok (.putfield 15, 3) := by decide +kernel
theorem dX4_init_20 : decode cX4_init 20 = .ok (.aload_n 0, 1) := by decide +kernel
theorem dX4_init_21 : decode cX4_init 21 = .ok (.bipush 40, 2) := by decide +kernel
theorem dX4_init_23 : decode cX4_init 23 = .ok (.newarray .int, 2) := by decide +kernel
theorem dX4_init_25 : decode cX4_init 25 = .ok (.putfield 18, 3) := by decide +kernel
theorem dX4_init_28 : decode cX4_init 28 = .ok (.aload_n 0, 1) := by decide +kernel
theorem dX4_init_29 : decode cX4_init 29 = .ok (.bipush 40, 2) := by decide +kernel
theorem dX4_init_31 : decode cX4_init 31 = .ok (.newarray .int, 2) := by decide +kernel
theorem dX4_init_33 : decode cX4_init 33 = .ok (.putfield 21, 3) := by decide +kernel
theorem dX4_init_36 : decode cX4_init 36 = .ok (.aload_n 0, 1) := by decide +kernel
theorem dX4_init_37 : decode cX4_init 37 = .ok (.bipush 40, 2) := by decide +kernel
theorem dX4_init_39 : decode cX4_init 39 = .ok (.newarray .int, 2) := by decide +kernel
theorem dX4_init_41 : decode cX4_init 41 = .ok (.putfield 24, 3) := by decide +kernel
theorem dX4_init_44 : decode cX4_init 44 = .ok (.aload_n 0, 1) := by decide +kernel
theorem dX4_init_45 : decode cX4_init 45 = .ok (.bipush 40, 2) := by decide +kernel
theorem dX4_init_47 : decode cX4_init 47 = .ok (.newarray .int, 2) := by decide +kernel
theorem dX4_init_49 : decode cX4_init 49 = .ok (.putfield 27, 3) := by decide +kernel
theorem dX4_init_52 : decode cX4_init 52 = .ok (.aload_n 0, 1) := by decide +kernel
theorem dX4_init_53 : decode cX4_init 53 = .ok (.bipush 40, 2) := by decide +kernel
theorem dX4_init_55 : decode cX4_init 55 = .ok (.newarray .int, 2) := by decide +kernel
theorem dX4_init_57 : decode cX4_init 57 = .ok (.putfield 30, 3) := by decide +kernel
theorem dX4_init_60 : decode cX4_init 60 = .ok (.aload_n 0, 1) := by decide +kernel
theorem dX4_init_61 : decode cX4_init 61 = .ok (.iconst 4, 1) := by decide +kernel
theorem dX4_init_62 : decode cX4_init 62 = .ok (.newarray .int, 2) := by decide +kernel
theorem dX4_init_64 : decode cX4_init 64 = .ok (.putfield 33, 3) := by decide +kernel
theorem dX4_init_67 : decode cX4_init 67 = .ok (.return_, 1) := by decide +kernel
theorem dX4_clear_0 : decode cX4_clear 0 = .ok (.aload_n 0, 1) := by decide +kernel
theorem dX4_clear_1 : decode cX4_clear 1 = .ok (.iconst 0, 1) := by decide +kernel
theorem dX4_clear_2 : decode cX4_clear 2 = .ok (.putfield 36, 3) := by decide +kernel
theorem dX4_clear_5 : decode cX4_clear 5 = .ok (.aload_n 0, 1) := by decide +kernel
theorem dX4_clear_6 : decode cX4_clear 6 = .ok (.iconst 1, 1) := by decide +kernel
theorem dX4_clear_7 : decode cX4_clear 7 = .ok (.putfield 40, 3) := by decide +kernel
theorem dX4_clear_10 : decode cX4_clear 10 = .ok (.getstatic 44, 3) := by decide +kernel
theorem dX4_clear_13 : decode cX4_clear 13 = .ok (.iconst 0, 1) := by decide +kernel
theorem dX4_clear_14 : decode cX4_clear 14 = .ok (.aload_n 0, 1) := by decide +kernel
theorem dX4_clear_15 : decode cX4_clear 15 = .ok (.getfield 33, 3) := by decide +kernel
theorem dX4_clear_18 : decode cX4_clear 18 = .ok (.iconst 0, 1) := by decide +kernel
theorem dX4_clear_19 : decode cX4_clear 19 = .ok (.iconst 4, 1) := by decide +kernel
theorem dX4_clear_20 : decode cX4_clear 20 = .ok (.invokestatic 47, 3) := by decide +kernel
theorem dX4_clear_23 : decode cX4_clear 23 = .ok (.return_, 1) := by decide +kernel
theorem dX4_ink_0 : decode cX4_ink 0 = .ok (.iload_n 1, 1) := by decide +kernel
theorem dX4_ink_1 : decode cX4_ink 1 = .ok (.ifCond .lt 11, 3) := by decide +kernel
theorem dX4_ink_4 : decode cX4_ink 4 = .ok (.iload_n 1, 1) := by decide +kernel
theorem dX4_ink_5 : decode cX4_ink 5 = .ok (.aload_n 0, 1) := by decide +kernel
theorem dX4_ink_6 : decode cX4_ink 6 = .ok (.getfield 36, 3) := by decide +kernel
theorem dX4_ink_9 : decode cX4_ink 9 = .ok (.if_icmp .lt 5, 3) := by decide +kernel
theorem dX4_ink_12 : decode cX4_ink 12 = .ok (.iconst 0, 1) := by decide +kernel
theorem dX4_ink_13 : decode cX4_ink 13 = .ok (.ireturn, 1) := by decide +kernel
theorem dX4_ink_14 : decode cX4_ink 14 = .ok (.iload_n 2, 1) := by decide +kernel
theorem dX4_ink_15 : decode cX4_ink 15 = .ok (.ifCond .ne 12, 3) := by decide +kernel
theorem dX4_ink_18 : decode cX4_ink 18 = .ok (.aload_n 0, 1) := by decide +kernel
theorem dX4_ink_19 : decode cX4_ink 19 = .ok (.getfield 21, 3) := by decide +kernel
theorem dX4_ink_22 : decode cX4_ink 22 = .ok (.iload_n 1, 1) := by decide +kernel
theorem dX4_ink_23 : decode cX4_ink 23 = .ok (.iaload, 1) := by decide +kernel
theorem dX4_ink_24 : decode cX4_ink 24 = .ok (.goto 9, 3) := by decide +kernel
theorem dX4_ink_27 : decode cX4_ink 27 = .ok (.aload_n 0, 1) := by decide +kernel
theorem dX4_ink_28 : decode cX4_ink 28 = .ok (.getfield 24, 3) := by decide +kernel
theorem dX4_ink_31 : decode cX4_ink 31 = .ok (.iload_n 1, 1) := by decide +kernel
theorem dX4_ink_32 : decode cX4_ink 32 = .ok (.iaload, 1) := by decide +kernel
theorem dX4_ink_33 : decode cX4_ink 33 = .ok (.ireturn, 1) := by decide +kernel
theorem dX4_repeatLast_0 : decode cX4_repeatLast 0 = .ok (.iconst 0, 1) := by decide +kernel
theorem dX4_repeatLast_1 : decode cX4_repeatLast 1 = .ok (.istore_n 2, 1) := by decide +kernel
theorem dX4_repeatLast_2 : decode cX4_repeatLast 2 = .ok (.iload_n 2, 1) := by decide +kernel
theorem dX4_repeatLast_3 : decode cX4_repeatLast 3 = .ok (.iload_n 1, 1) := by decide +kernel
theorem dX4_repeatLast_4 : decode cX4_repeatLast 4 = .ok (.if_icmp .ge 175, 3) := by decide +kernel
theorem dX4_repeatLast_7 : decode cX4_repeatLast 7 = .ok (.aload_n 0, 1) := by decide +kernel
theorem dX4_repeatLast_8 : decode cX4_repeatLast 8 = .ok (.getfield 36, 3) := by decide +kernel
theorem dX4_repeatLast_11 : decode cX4_repeatLast 11 = .ok (.ifCond .le 168, 3) := by decide +kernel
theorem dX4_repeatLast_14 : decode cX4_repeatLast 14 = .ok (.aload_n 0, 1) := by decide +kernel
theorem dX4_repeatLast_15 : decode cX4_repeatLast 15 = .ok (.getfield 36, 3) := by decide +kernel
theorem dX4_repeatLast_18 : decode cX4_repeatLast 18 = .ok (.bipush 40, 2) := by decide +kernel
theorem dX4_repeatLast_20 : decode cX4_repeatLast 20 = .ok (.if_icmp .ge 159, 3) := by decide +kernel
theorem dX4_repeatLast_23 : decode cX4_repeatLast 23 = .ok (.aload_n 0, 1) := by decide +kernel
theorem dX4_repeatLast_24 : decode cX4_repeatLast 24 = .ok (.getfield 9, 3) := by decide +kernel
theorem dX4_repeatLast_27 : decode cX4_repeatLast 27 = .ok (.aload_n 0, 1) := by decide +kernel
theorem dX4_repeatLast_28 : decode cX4_repeatLast 28 = .ok (.getfield 36, 3) := by decide +kernel
theorem dX4_repeatLast_31 : decode cX4_repeatLast 31 = .ok (.aload_n 0, 1) := by decide +kernel
theorem dX4_repeatLast_32 : decode cX4_repeatLast 32 = .ok (.getfield 9, 3) := by decide +kernel
theorem dX4_repeatLast_35 : decode cX4_repeatLast 35 = .ok (.aload_n 0, 1) := by decide +kernel
theorem dX4_repeatLast_36 : decode cX4_repeatLast 36 = .ok (.getfield 36, 3) := by decide +kernel
theorem dX4_repeatLast_39 : decode cX4_repeatLast 39 = .ok (.iconst 1, 1) := by decide +kernel
theorem dX4_repeatLast_40 : decode cX4_repeatLast 40 = .ok (.isub, 1) := by decide +kernel
theorem dX4_repeatLast_41 : decode cX4_repeatLast 41 = .ok (.iaload, 1) := by decide +kernel
theorem dX4_repeatLast_42 : decode cX4_repeatLast 42 = .ok (.iastore, 1) := by decide +kernel
theorem dX4_repeatLast_43 : decode cX4_repeatLast 43 = .ok (.aload_n 0, 1) := by decide +kernel
theorem dX4_repeatLast_44 : decode cX4_repeatLast 44 = .ok (.getfield 15, 3) := by decide +kernel
theorem dX4_repeatLast_47 : decode cX4_repeatLast 47 = .ok (.aload_n 0, 1) := by decide +kernel
theorem dX4_repeatLast_48 : decode cX4_repeatLast 48 = .ok (.getfield 36, 3) := by decide +kernel
theorem dX4_repeatLast_51 : decode cX4_repeatLast 51 = .ok (.aload_n 0, 1) := by decide +kernel
theorem dX4_repeatLast_52 : decode cX4_repeatLast 52 = .ok (.getfield 15, 3) := by decide +kernel
theorem dX4_repeatLast_55 : decode cX4_repeatLast 55 = .ok (.aload_n 0, 1) := by decide +kernel
theorem dX4_repeatLast_56 : decode cX4_repeatLast 56 = .ok (.getfield 36, 3) := by decide +kernel
theorem dX4_repeatLast_59 : decode cX4_repeatLast 59 = .ok (.iconst 1, 1) := by decide +kernel
theorem dX4_repeatLast_60 : decode cX4_repeatLast 60 = .ok (.isub, 1) := by decide +kernel
theorem dX4_repeatLast_61 : decode cX4_repeatLast 61 = .ok (.iaload, 1) := by decide +kernel
theorem dX4_repeatLast_62 : decode cX4_repeatLast 62 = .ok (.iastore, 1) := by decide +kernel
theorem dX4_repeatLast_63 : decode cX4_repeatLast 63 = .ok (.aload_n 0, 1) := by decide +kernel
theorem dX4_repeatLast_64 : decode cX4_repeatLast 64 = .ok (.getfield 18, 3) := by decide +kernel
theorem dX4_repeatLast_67 : decode cX4_repeatLast 67 = .ok (.aload_n 0, 1) := by decide +kernel
theorem dX4_repeatLast_68 : decode cX4_repeatLast 68 = .ok (.getfield 36, 3) := by decide +kernel
theorem dX4_repeatLast_71 : decode cX4_repeatLast 71 = .ok (.aload_n 0, 1) := by decide +kernel
theorem dX4_repeatLast_72 : decode cX4_repeatLast 72 = .ok (.getfield 18, 3) := by decide +kernel
theorem dX4_repeatLast_75 : decode cX4_repeatLast 75 = .ok (.aload_n 0, 1) := by decide +kernel
theorem dX4_repeatLast_76 : decode cX4_repeatLast 76 = .ok (.getfield 36, 3) := by decide +kernel
theorem dX4_repeatLast_79 : decode cX4_repeatLast 79 = .ok (.iconst 1, 1) := by decide +kernel
theorem dX4_repeatLast_80 : decode cX4_repeatLast 80 = .ok (.isub, 1) := by decide +kernel
theorem dX4_repeatLast_81 : decode cX4_repeatLast 81 = .ok (.iaload, 1) := by decide +kernel
theorem dX4_repeatLast_82 : decode cX4_repeatLast 82 = .ok (.iastore, 1) := by decide +kernel
theorem dX4_repeatLast_83 : decode cX4_repeatLast 83 = .ok (.aload_n 0, 1) := by decide +kernel
theorem dX4_repeatLast_84 : decode cX4_repeatLast 84 = .ok (.getfield 21, 3) := by decide +kernel
theorem dX4_repeatLast_87 : decode cX4_repeatLast 87 = .ok (.aload_n 0, 1) := by decide +kernel
theorem dX4_repeatLast_88 : decode cX4_repeatLast 88 = .ok (.getfield 36, 3) := by decide +kernel
theorem dX4_repeatLast_91 : decode cX4_repeatLast 91 = .ok (.aload_n 0, 1) := by decide +kernel
theorem dX4_repeatLast_92 : decode cX4_repeatLast 92 = .ok (.getfield 21, 3) := by decide +kernel
theorem dX4_repeatLast_95 : decode cX4_repeatLast 95 = .ok (.aload_n 0, 1) := by decide +kernel
theorem dX4_repeatLast_96 : decode cX4_repeatLast 96 = .ok (.getfield 36, 3) := by decide +kernel
theorem dX4_repeatLast_99 : decode cX4_repeatLast 99 = .ok (.iconst 1, 1) := by decide +kernel
theorem dX4_repeatLast_100 : decode cX4_repeatLast 100 = .ok (.isub, 1) := by decide +kernel
theorem dX4_repeatLast_101 : decode cX4_repeatLast 101 = .ok (.iaload, 1) := by decide +kernel
theorem dX4_repeatLast_102 : decode cX4_repeatLast 102 = .ok (.iastore, 1) := by decide +kernel
theorem dX4_repeatLast_103 : decode cX4_repeatLast 103 = .ok (.aload_n 0, 1) := by decide +kernel
theorem dX4_repeatLast_104 : decode cX4_repeatLast 104 = .ok (.getfield 24, 3) := by decide +kernel
theorem dX4_repeatLast_107 : decode cX4_repeatLast 107 = .ok (.aload_n 0, 1) := by decide +kernel
theorem dX4_repeatLast_108 : decode cX4_repeatLast 108 = .ok (.getfield 36, 3) := by decide +kernel
theorem dX4_repeatLast_111 : decode cX4_repeatLast 111 = .ok (.aload_n 0, 1) := by decide +kernel
theorem dX4_repeatLast_112 : decode cX4_repeatLast 112 = .ok (.getfield 24, 3) := by decide +kernel
theorem dX4_repeatLast_115 : decode cX4_repeatLast 115 = .ok (.aload_n 0, 1) := by decide +kernel
theorem dX4_repeatLast_116 : decode cX4_repeatLast 116 = .ok (.getfield 36, 3) := by decide +kernel
theorem dX4_repeatLast_119 : decode cX4_repeatLast 119 = .ok (.iconst 1, 1) := by decide +kernel
theorem dX4_repeatLast_120 : decode cX4_repeatLast 120 = .ok (.isub, 1) := by decide +kernel
theorem dX4_repeatLast_121 : decode cX4_repeatLast 121 = .ok (.iaload, 1) := by decide +kernel
theorem dX4_repeatLast_122 : decode cX4_repeatLast 122 = .ok (.iastore, 1) := by decide +kernel
theorem dX4_repeatLast_123 : decode cX4_repeatLast 123 = .ok (.aload_n 0, 1) := by decide +kernel
theorem dX4_repeatLast_124 : decode cX4_repeatLast 124 = .ok (.getfield 27, 3) := by decide +kernel
theorem dX4_repeatLast_127 : decode cX4_repeatLast 127 = .ok (.aload_n 0, 1) := by decide +kernel
theorem dX4_repeatLast_128 : decode cX4_repeatLast 128 = .ok (.getfield 36, 3) := by decide +kernel
theorem dX4_repeatLast_131 : decode cX4_repeatLast 131 = .ok (.aload_n 0, 1) := by decide +kernel
theorem dX4_repeatLast_132 : decode cX4_repeatLast 132 = .ok (.getfield 27, 3) := by decide +kernel
theorem dX4_repeatLast_135 : decode cX4_repeatLast 135 = .ok (.aload_n 0, 1) := by decide +kernel
theorem dX4_repeatLast_136 : decode cX4_repeatLast 136 = .ok (.getfield 36, 3) := by decide +kernel
theorem dX4_repeatLast_139 : decode cX4_repeatLast 139 = .ok (.iconst 1, 1) := by decide +kernel
theorem dX4_repeatLast_140 : decode cX4_repeatLast 140 = .ok (.isub, 1) := by decide +kernel
theorem dX4_repeatLast_141 : decode cX4_repeatLast 141 = .ok (.iaload, 1) := by decide +kernel
theorem dX4_repeatLast_142 : decode cX4_repeatLast 142 = .ok (.iastore, 1) := by decide +kernel
theorem dX4_repeatLast_143 : decode cX4_repeatLast 143 = .ok (.aload_n 0, 1) := by decide +kernel
theorem dX4_repeatLast_144 : decode cX4_repeatLast 144 = .ok (.getfield 30, 3) := by decide +kernel
theorem dX4_repeatLast_147 : decode cX4_repeatLast 147 = .ok (.aload_n 0, 1) := by decide +kernel
theorem dX4_repeatLast_148 : decode cX4_repeatLast 148 = .ok (.getfield 36, 3) := by decide +kernel
theorem dX4_repeatLast_151 : decode cX4_repeatLast 151 = .ok (.aload_n 0, 1) := by decide +kernel
theorem dX4_repeatLast_152 : decode cX4_repeatLast 152 = .ok (.getfield 30, 3) := by decide +kernel
theorem dX4_repeatLast_155 : decode cX4_repeatLast 155 = .ok (.aload_n 0, 1) := by decide +kernel
theorem dX4_repeatLast_156 : decode cX4_repeatLast 156 = .ok (.getfield 36, 3) := by decide +kernel
theorem dX4_repeatLast_159 : decode cX4_repeatLast 159 = .ok (.iconst 1, 1) := by decide +kernel
theorem dX4_repeatLast_160 : decode cX4_repeatLast 160 = .ok (.isub, 1) := by decide +kernel
theorem dX4_repeatLast_161 : decode cX4_repeatLast 161 = .ok (.iaload, 1) := by decide +kernel
theorem dX4_repeatLast_162 : decode cX4_repeatLast 162 = .ok (.iastore, 1) := by decide +kernel
theorem dX4_repeatLast_163 : decode cX4_repeatLast 163 = .ok (.aload_n 0, 1) := by decide +kernel
theorem dX4_repeatLast_164 : decode cX4_repeatLast 164 = .ok (.dup, 1) := by decide +kernel
theorem dX4_repeatLast_165 : decode cX4_repeatLast 165 = .ok (.getfield 36, 3) := by decide +kernel
theorem dX4_repeatLast_168 : decode cX4_repeatLast 168 = .ok (.iconst 1, 1) := by decide +kernel
theorem dX4_repeatLast_169 : decode cX4_repeatLast 169 = .ok (.iadd, 1) := by decide +kernel
theorem dX4_repeatLast_170 : decode cX4_repeatLast 170 = .ok (.putfield 36, 3) := by decide +kernel
theorem dX4_repeatLast_173 : decode cX4_repeatLast 173 = .ok (.iinc 2 1, 3) := by decide +kernel
theorem dX4_repeatLast_176 : decode cX4_repeatLast 176 = .ok (.goto (-174), 3) := by decide +kernel
theorem dX4_repeatLast_179 : decode cX4_repeatLast 179 = .ok (.return_, 1) := by decide +kernel
theorem dX5_init_0 : decode cX5_init 0 = .ok (.aload_n 0, 1) := by decide +kernel
theorem dX5_init_1 : decode cX5_init 1 = .ok (.invokespecial 3, 3) := by decide +kernel
theorem dX5_init_4 : decode cX5_init 4 = .ok (.aload_n 0, 1) := by decide +kernel
theorem dX5_init_5 : decode cX5_init 5 = .ok (.bipush 40, 2) := by decide +kernel
theorem dX5_init_7 : decode cX5_init 7 = .ok (.newarray .int, 2) := by decide +kernel
theorem dX5_init_9 : decode cX5_init 9 = .ok (.putfield 9, 3) := by decide +kernel
theorem dX5_init_12 : decode cX5_init 12 = .ok (.aload_n 0, 1) := by decide +kernel
theorem dX5_init_13 : decode cX5_init 13 = .ok (.bipush 40, 2) := by decide +kernel
theorem dX5_init_15 : decode cX5_init 15 = .ok (.newarray .int, 2) := by decide +kernel
theorem dX5_init_17 : decode cX5_init 17 = .ok (.putfield 15, 3) := by decide +kernel
theorem dX5_init_20 : decode cX5_init 20 = .ok (.aload_n 0, 1) := by decide +kernel
theorem dX5_init_21 : decode cX5_init 21 = .ok (.bipush 40, 2) := by decide +kernel
theorem dX5_init_23 : decode cX5_init 23 = .ok (.newarray .int, 2) := by decide +kernel
theorem dX5_init_25 : decode cX5_init 25 = .ok (.putfield 18, 3) := by decide +kernel
theorem dX5_init_28 : decode cX5_init 28 = .ok (.aload_n 0, 1) := by decide +kernel
theorem dX5_init_29 : decode cX5_init 29 = .ok (.bipush 40, 2) := by decide +kernel
theorem dX5_init_31 : decode cX5_init 31 = .ok (.newarray .int, 2) := by decide +kernel
theorem dX5_init_33 : decode cX5_init 33 = .ok (.putfield 21, 3) := by decide +kernel
theorem dX5_init_36 : decode cX5_init 36 = .ok (.aload_n 0, 1) := by decide +kernel
theorem dX5_init_37 : decode cX5_init 37 = .ok (.bipush 80, 2) := by decide +kernel
theorem dX5_init_39 : decode cX5_init 39 = .ok (.newarray .int, 2) := by decide +kernel
theorem dX5_init_41 : decode cX5_init 41 = .ok (.putfield 24, 3) := by decide +kernel
theorem dX5_init_44 : decode cX5_init 44 = .ok (.aload_n 0, 1) := by decide +kernel
theorem dX5_init_45 : decode cX5_init 45 = .ok (.bipush 80, 2) := by decide +kernel
theorem dX5_init_47 : decode cX5_init 47 = .ok (.newarray .int, 2) := by decide +kernel
theorem dX5_init_49 : decode cX5_init 49 = .ok (.putfield 27, 3) := by decide +kernel
theorem dX5_init_52 : decode cX5_init 52 = .ok (.aload_n 0, 1) := by decide +kernel
theorem dX5_init_53 : decode cX5_init 53 = .ok (.bipush 80, 2) := by decide +kernel
theorem dX5_init_55 : decode cX5_init 55 = .ok (.newarray .int, 2) := by decide +kernel
theorem dX5_init_57 : decode cX5_init 57 = .ok (.putfield 30, 3) := by decide +kernel
theorem dX5_init_60 : decode cX5_init 60 = .ok (.aload_n 0, 1) := by decide +kernel
theorem dX5_init_61 : decode cX5_init 61 = .ok (.sipush 139, 3) := by decide +kernel
theorem dX5_init_64 : decode cX5_init 64 = .ok (.newarray .int, 2) := by decide +kernel
theorem dX5_init_66 : decode cX5_init 66 = .ok (.putfield 33, 3) := by decide +kernel
theorem dX5_init_69 : decode cX5_init 69 = .ok (.aload_n 0, 1) := by decide +kernel
theorem dX5_init_70 : decode cX5_init 70 = .ok (.iconst 4, 1) := by decide +kernel
theorem dX5_init_71 : decode cX5_init 71 = .ok (.newarray .int, 2) := by decide +kernel
theorem dX5_init_73 : decode cX5_init 73 = .ok (.putfield 36, 3) := by decide +kernel
theorem dX5_init_76 : decode cX5_init 76 = .ok (.aload_n 0, 1) := by decide +kernel
theorem dX5_init_77 : decode cX5_init 77 = .ok (.bipush 9, 2) := by decide +kernel
theorem dX5_init_79 : decode cX5_init 79 = .ok (.newarray .int, 2) := by decide +kernel
theorem dX5_init_81 : decode cX5_init 81 = .ok (.putfield 39, 3) := by decide +kernel
theorem dX5_init_84 : decode cX5_init 84 = .ok (.aload_n 0, 1) := by decide +kernel
theorem dX5_init_85 : decode cX5_init 85 = .ok (.new 42, 3) := by decide +kernel
theorem dX5_init_88 : decode cX5_init 88 = .ok (.dup, 1) := by decide +kernel
theorem dX5_init_89 : decode cX5_init 89 = .ok (.invokespecial 44, 3) := by decide +kernel
theorem dX5_init_92 : decode cX5_init 92 = .ok (.putfield 45, 3) := by decide +kernel
theorem dX5_init_95 : decode cX5_init 95 = .ok (.return_, 1) := by decide +kernel
theorem dX5_begin_0 : decode cX5_begin 0 = .ok (.iconst 0, 1) := by decide +kernel
theorem dX5_begin_1 : decode cX5_begin 1 = .ok (.istore_n 2, 1) := by decide +kernel
theorem dX5_begin_2 : decode cX5_begin 2 = .ok (.iload_n 2, 1) := by decide +kernel
theorem dX5_begin_3 : decode cX5_begin 3 = .ok (.bipush 40, 2) := by decide +kernel
theorem dX5_begin_5 : decode cX5_begin 5 = .ok (.if_icmp .ge 23, 3) := by decide +kernel
theorem dX5_begin_8 : decode cX5_begin 8 = .ok (.aload_n 0, 1) := by decide +kernel
theorem dX5_begin_9 : decode cX5_begin 9 = .ok (.getfield 9, 3) := by decide +kernel
theorem dX5_begin_12 : decode cX5_begin 12 = .ok (.iload_n 2, 1) := by decide +kernel
theorem dX5_begin_13 : decode cX5_begin 13 = .ok (.iconst 0, 1) := by decide +kernel
theorem dX5_begin_14 : decode cX5_begin 14 = .ok (.iastore, 1) := by decide +kernel
theorem dX5_begin_15 : decode cX5_begin 15 = .ok (.aload_n 0, 1) := by decide +kernel
theorem dX5_begin_16 : decode cX5_begin 16 = .ok (.getfield 21, 3) := by decide +kernel
theorem dX5_begin_19 : decode cX5_begin 19 = .ok (.iload_n 2, 1) := by decide +kernel
theorem dX5_begin_20 : decode cX5_begin 20 = .ok (.iconst 0, 1) := by decide +kernel
theorem dX5_begin_21 : decode cX5_begin 21 = .ok (.iastore, 1) := by decide +kernel
theorem dX5_begin_22 : decode cX5_begin 22 = .ok (.iinc 2 1, 3) := by decide +kernel
theorem dX5_begin_25 : decode cX5_begin 25 = .ok (.goto (-23), 3) := by decide +kernel
theorem dX5_begin_28 : decode cX5_begin 28 = .ok (.aload_n 1, 1) := by decide +kernel
theorem dX5_begin_29 : decode cX5_begin 29 = .ok (.getfield 49, 3) := by decide +kernel
theorem dX5_begin_32 : decode cX5_begin 32 = .ok (.iconst 0, 1) := by decide +kernel
theorem dX5_begin_33 : decode cX5_begin 33 = .ok (.aload_n 0, 1) := by decide +kernel
theorem dX5_begin_34 : decode cX5_begin 34 = .ok (.getfield 15, 3) := by decide +kernel
theorem dX5_begin_37 : decode cX5_begin 37 = .ok (.iconst 0, 1) := by decide +kernel
theorem dX5_begin_38 : decode cX5_begin 38 = .ok (.bipush 40, 2) := by decide +kernel
theorem dX5_begin_40 : decode cX5_begin 40 = .ok (.invokestatic 52, 3) := by decide +kernel
theorem dX5_begin_43 : decode cX5_begin 43 = .ok (.aload_n 1, 1) := by decide +kernel
theorem dX5_begin_44 : decode cX5_begin 44 = .ok (.getfield 58, 3) := by decide +kernel
theorem dX5_begin_47 : decode cX5_begin 47 = .ok (.iconst 0, 1) := by decide +kernel
theorem dX5_begin_48 : decode cX5_begin 48 = .ok (.aload_n 0, 1) := by decide +kernel
theorem dX5_begin_49 : decode cX5_begin 49 = .ok (.getfield 18, 3) := by decide +kernel
theorem dX5_begin_52 : decode cX5_begin 52 = .ok (.iconst 0, 1) := by decide +kernel
theorem dX5_begin_53 : decode cX5_begin 53 = .ok (.bipush 40, 2) := by decide +kernel
theorem dX5_begin_55 : decode cX5_begin 55 = .ok (.invokestatic 52, 3) := by decide +kernel
theorem dX5_begin_58 : decode cX5_begin 58 = .ok (.aload_n 1, 1) := by decide +kernel
theorem dX5_begin_59 : decode cX5_begin 59 = .ok (.getfield 59, 3) := by decide +kernel
theorem dX5_begin_62 : decode cX5_begin 62 = .ok (.iconst 0, 1) := by decide +kernel
theorem dX5_begin_63 : decode cX5_begin 63 = .ok (.aload_n 0, 1) := by decide +kernel
theorem dX5_begin_64 : decode cX5_begin 64 = .ok (.getfield 36, 3) := by decide +kernel
theorem dX5_begin_67 : decode cX5_begin 67 = .ok (.iconst 0, 1) := by decide +kernel
theorem dX5_begin_68 : decode cX5_begin 68 = .ok (.iconst 4, 1) := by decide +kernel
theorem dX5_begin_69 : decode cX5_begin 69 = .ok (.invokestatic 52, 3) := by decide +kernel
theorem dX5_begin_72 : decode cX5_begin 72 = .ok (.iconst 0, 1) := by decide +kernel
theorem dX5_begin_73 : decode cX5_begin 73 = .ok (.istore_n 2, 1) := by decide +kernel
theorem dX5_begin_74 : decode cX5_begin 74 = .ok (.iload_n 2, 1) := by decide +kernel
theorem dX5_begin_75 : decode cX5_begin 75 = .ok (.bipush 9, 2) := by decide +kernel
theorem dX5_begin_77 : decode cX5_begin 77 = .ok (.if_icmp .ge 16, 3) := by decide +kernel
theorem dX5_begin_80 : decode cX5_begin 80 = .ok (.aload_n 0, 1) := by decide +kernel
theorem dX5_begin_81 : decode cX5_begin 81 = .ok (.getfield 39, 3) := by decide +kernel
theorem dX5_begin_84 : decode cX5_begin 84 = .ok (.iload_n 2, 1) := by decide +kernel
theorem dX5_begin_85 : decode cX5_begin 85 = .ok (.iconst 0, 1) := by decide +kernel
theorem dX5_begin_86 : decode cX5_begin 86 = .ok (.iastore, 1) := by decide +kernel
theorem dX5_begin_87 : decode cX5_begin 87 = .ok (.iinc 2 1, 3) := by decide +kernel
theorem dX5_begin_90 : decode cX5_begin 90 = .ok (.goto (-16), 3) := by decide +kernel
theorem dX5_begin_93 : decode cX5_begin 93 = .ok (.aload_n 0, 1) := by decide +kernel
theorem dX5_begin_94 : decode cX5_begin 94 = .ok (.getfield 45, 3) := by decide +kernel
theorem dX5_begin_97 : decode cX5_begin 97 = .ok (.invokevirtual 60, 3) := by decide +kernel
theorem dX5_begin_100 : decode cX5_begin 100 = .ok (.aload_n 0, 1) := by decide +kernel
theorem dX5_begin_101 : decode cX5_begin 101 = .ok (.iconst 0, 1) := by decide +kernel
theorem dX5_begin_102 : decode cX5_begin 102 = .ok (.putfield 63, 3) := by decide +kernel
theorem dX5_begin_105 : decode cX5_begin 105 = .ok (.aload_n 0, 1) := by decide +kernel
theorem dX5_begin_106 : decode cX5_begin 106 = .ok (.iconst 0, 1) := by decide +kernel
theorem dX5_begin_107 : decode cX5_begin 107 = .ok (.putfield 67, 3) := by decide +kernel
theorem dX5_begin_110 : decode cX5_begin 110 = .ok (.aload_n 0, 1) := by decide +kernel
theorem dX5_begin_111 : decode cX5_begin 111 = .ok (.iconst 0, 1) := by decide +kernel
theorem dX5_begin_112 : decode cX5_begin 112 = .ok (.putfield 70, 3) := by decide +kernel
theorem dX5_begin_115 : decode cX5_begin 115 = .ok (.aload_n 0, 1) := by decide +kernel
theorem dX5_begin_116 : decode cX5_begin 116 = .ok (.iconst 0, 1) := by decide +kernel
theorem dX5_begin_117 : decode cX5_begin 117 = .ok (.putfield 73, 3) := by decide +kernel
theorem dX5_begin_120 : decode cX5_begin 120 = .ok (.aload_n 0, 1) := by decide +kernel
theorem dX5_begin_121 : decode cX5_begin 121 = .ok (.iconst 0, 1) := by decide +kernel
theorem dX5_begin_122 : decode cX5_begin 122 = .ok (.putfield 76, 3) := by decide +kernel
theorem dX5_begin_125 : decode cX5_begin 125 = .ok (.aload_n 0, 1) := by decide +kernel
theorem dX5_begin_126 : decode cX5_begin 126 = .ok (.aload_n 1, 1) := by decide +kernel
theorem dX5_begin_127 : decode cX5_begin 127 = .ok (.getfield 79, 3) := by decide +kernel
theorem dX5_begin_130 : decode cX5_begin 130 = .ok (.putfield 83, 3) := by decide +kernel
theorem dX5_begin_133 : decode cX5_begin 133 = .ok (.aload_n 0, 1) := by decide +kernel
theorem dX5_begin_134 : decode cX5_begin 134 = .ok (.iconst (-1), 1) := by decide +kernel
theorem dX5_begin_135 : decode cX5_begin 135 = .ok (.invokevirtual 84, 3) := by decide +kernel
theorem dX5_begin_138 : decode cX5_begin 138 = .ok (.return_, 1) := by decide +kernel
theorem dX5_copyFrom_0 : decode cX5_copyFrom 0 = .ok (.aload_n 1, 1) := by decide +kernel
theorem dX5_copyFrom_1 : decode cX5_copyFrom 1 = .ok (.getfield 9, 3) := by decide +kernel
theorem dX5_copyFrom_4 : decode cX5_copyFrom 4 = .ok (.iconst 0, 1) := by decide +kernel
theorem dX5_copyFrom_5 : decode cX5_copyFrom 5 = .ok (.aload_n 0, 1) := by decide +kernel
theorem dX5_copyFrom_6 : decode cX5_copyFrom 6 = .ok (.getfield 9, 3) := by decide +kernel
theorem dX5_copyFrom_9 : decode cX5_copyFrom 9 = .ok (.iconst 0, 1) := by decide +kernel
theorem dX5_copyFrom_10 : decode cX5_copyFrom 10 = .ok (.bipush 40, 2) := by decide +kernel
theorem dX5_copyFrom_12 : decode cX5_copyFrom 12 = .ok (.invokestatic 52, 3) := by decide +kernel
theorem dX5_copyFrom_15 : decode cX5_copyFrom 15 = .ok (.aload_n 1, 1) := by decide +kernel
theorem dX5_copyFrom_16 : decode cX5_copyFrom 16 = .ok (.getfield 15, 3) := by decide +kernel
theorem dX5_copyFrom_19 : decode cX5_copyFrom 19 = .ok (.iconst 0, 1) := by decide +kernel
theorem dX5_copyFrom_20 : decode cX5_copyFrom 20 = .ok (.aload_n 0, 1) := by decide +kernel
theorem dX5_copyFrom_21 : decode cX5_copyFrom 21 = .ok (.getfield 15, 3) := by decide +kernel
theorem dX5_copyFrom_24 : decode cX5_copyFrom 24 = .ok (.iconst 0, 1) := by decide +kernel
theorem dX5_copyFrom_25 : decode cX5_copyFrom 25 = .ok (.bipush 40, 2) := by decide +kernel
theorem dX5_copyFrom_27 : decode cX5_copyFrom 27 = .ok (.invokestatic 52, 3) := by decide +kernel
theorem dX5_copyFrom_30 : decode cX5_copyFrom 30 = .ok (.aload_n 1, 1) := by decide +kernel
theorem dX5_copyFrom_31 : decode cX5_copyFrom 31 = .ok (.getfield 18, 3) := by decide +kernel
theorem dX5_copyFrom_34 : decode cX5_copyFrom 34 = .ok (.iconst 0, 1) := by decide +kernel
theorem dX5_copyFrom_35 : decode cX5_copyFrom 35 = .ok (.aload_n 0, 1) := by decide +kernel
theorem dX5_copyFrom_36 : decode cX5_copyFrom 36 = .ok (.getfield 18, 3) := by decide +kernel
theorem dX5_copyFrom_39 : decode cX5_copyFrom 39 = .ok (.iconst 0, 1) := by decide +kernel
theorem dX5_copyFrom_40 : decode cX5_copyFrom 40 = .ok (.bipush 40, 2) := by decide +kernel
theorem dX5_copyFrom_42 : decode cX5_copyFrom 42 = .ok (.invokestatic 52, 3) := by decide +kernel
theorem dX5_copyFrom_45 : decode cX5_copyFrom 45 = .ok (.aload_n 1, 1) := by decide +kernel
theorem dX5_copyFrom_46 : decode cX5_copyFrom 46 = .ok (.getfield 21, 3) := by decide +kernel
theorem dX5_copyFrom_49 : decode cX5_copyFrom 49 = .ok (.iconst 0, 1) := by decide +kernel
theorem dX5_copyFrom_50 : decode cX5_copyFrom 50 = .ok (.aload_n 0, 1) := by decide +kernel
theorem dX5_copyFrom_51 : decode cX5_copyFrom 51 = .ok (.getfield 21, 3) := by decide +kernel
theorem dX5_copyFrom_54 : decode cX5_copyFrom 54 = .ok (.iconst 0, 1) := by decide +kernel
theorem dX5_copyFrom_55 : decode cX5_copyFrom 55 = .ok (.bipush 40, 2) := by decide +kernel
theorem dX5_copyFrom_57 : decode cX5_copyFrom 57 = .ok (.invokestatic 52, 3) := by decide +kernel
theorem dX5_copyFrom_60 : decode cX5_copyFrom 60 = .ok (.aload_n 1, 1) := by decide +kernel
theorem dX5_copyFrom_61 : decode cX5_copyFrom 61 = .ok (.getfield 24, 3) := by decide +kernel
theorem dX5_copyFrom_64 : decode cX5_copyFrom 64 = .ok (.iconst 0, 1) := by decide +kernel
theorem dX5_copyFrom_65 : decode cX5_copyFrom 65 = .ok (.aload_n 0, 1) := by decide +kernel
theorem dX5_copyFrom_66 : decode cX5_copyFrom 66 = .ok (.getfield 24, 3) := by decide +kernel
theorem dX5_copyFrom_69 : decode cX5_copyFrom 69 = .ok (.iconst 0, 1) := by decide +kernel
theorem dX5_copyFrom_70 : decode cX5_copyFrom 70 = .ok (.bipush 80, 2) := by decide +kernel
theorem dX5_copyFrom_72 : decode cX5_copyFrom 72 = .ok (.invokestatic 52, 3) := by decide +kernel
theorem dX5_copyFrom_75 : decode cX5_copyFrom 75 = .ok (.aload_n 1, 1) := by decide +kernel
theorem dX5_copyFrom_76 : decode cX5_copyFrom 76 = .ok (.getfield 27, 3) := by decide +kernel
theorem dX5_copyFrom_79 : decode cX5_copyFrom 79 = .ok (.iconst 0, 1) := by decide +kernel
theorem dX5_copyFrom_80 : decode cX5_copyFrom 80 = .ok (.aload_n 0, 1) := by decide +kernel
theorem dX5_copyFrom_81 : decode cX5_copyFrom 81 = .ok (.getfield 27, 3) := by decide +kernel
theorem dX5_copyFrom_84 : decode cX5_copyFrom 84 = .ok (.iconst 0, 1) := by decide +kernel
theorem dX5_copyFrom_85 : decode cX5_copyFrom 85 = .ok (.bipush 80, 2) := by decide +kernel
theorem dX5_copyFrom_87 : decode cX5_copyFrom 87 = .ok (.invokestatic 52, 3) := by decide +kernel
theorem dX5_copyFrom_90 : decode cX5_copyFrom 90 = .ok (.aload_n 1, 1) := by decide +kernel
theorem dX5_copyFrom_91 : decode cX5_copyFrom 91 = .ok (.getfield 30, 3) := by decide +kernel
theorem dX5_copyFrom_94 : decode cX5_copyFrom 94 = .ok (.iconst 0, 1) := by decide +kernel
theorem dX5_copyFrom_95 : decode cX5_copyFrom 95 = .ok (.aload_n 0, 1) := by decide +kernel
theorem dX5_copyFrom_96 : decode cX5_copyFrom 96 = .ok (.getfield 30, 3) := by decide +kernel
theorem dX5_copyFrom_99 : decode cX5_copyFrom 99 = .ok (.iconst 0, 1) := by decide +kernel
theorem dX5_copyFrom_100 : decode cX5_copyFrom 100 = .ok (.bipush 80, 2) := by decide +kernel
theorem dX5_copyFrom_102 : decode cX5_copyFrom 102 = .ok (.invokestatic 52, 3) := by decide +kernel
theorem dX5_copyFrom_105 : decode cX5_copyFrom 105 = .ok (.aload_n 1, 1) := by decide +kernel
theorem dX5_copyFrom_106 : decode cX5_copyFrom 106 = .ok (.getfield 33, 3) := by decide +kernel
theorem dX5_copyFrom_109 : decode cX5_copyFrom 109 = .ok (.iconst 0, 1) := by decide +kernel
theorem dX5_copyFrom_110 : decode cX5_copyFrom 110 = .ok (.aload_n 0, 1) := by decide +kernel
theorem dX5_copyFrom_111 : decode cX5_copyFrom 111 = .ok (.getfield 33, 3) := by decide +kernel
theorem dX5_copyFrom_114 : decode cX5_copyFrom 114 = .ok (.iconst 0, 1) := by decide +kernel
theorem dX5_copyFrom_115 : decode cX5_copyFrom 115 = .ok (.sipush 139, 3) := by decide +kernel
theorem dX5_copyFrom_118 : decode cX5_copyFrom 118 = .ok (.invokestatic 52, 3) := by decide +kernel
theorem dX5_copyFrom_121 : decode cX5_copyFrom 121 = .ok (.aload_n 1, 1) := by decide +kernel
theorem dX5_copyFrom_122 : decode cX5_copyFrom 122 = .ok (.getfield 36, 3) := by decide +kernel
theorem dX5_copyFrom_125 : decode cX5_copyFrom 125 = .ok (.iconst 0, 1) := by decide +kernel
theorem dX5_copyFrom_126 : decode cX5_copyFrom 126 = .ok (.aload_n 0, 1) := by decide +kernel
theorem dX5_copyFrom_127 : decode cX5_copyFrom 127 = .ok (.getfield 36, 3) := by decide +kernel
theorem dX5_copyFrom_130 : decode cX5_copyFrom 130 = .ok (.iconst 0, 1) := by decide +kernel
theorem dX5_copyFrom_131 : decode cX5_copyFrom 131 = .ok (.iconst 4, 1) := by decide +kernel
theorem dX5_copyFrom_132 : decode cX5_copyFrom 132 = .ok (.invokestatic 52, 3) := by decide +kernel
theorem dX5_copyFrom_135 : decode cX5_copyFrom 135 = .ok (.aload_n 1, 1) := by decide +kernel
theorem dX5_copyFrom_136 : decode cX5_copyFrom 136 = .ok (.getfield 39, 3) := by decide +kernel
theorem dX5_copyFrom_139 : decode cX5_copyFrom 139 = .ok (.iconst 0, 1) := by decide +kernel
theorem dX5_copyFrom_140 : decode cX5_copyFrom 140 = .ok (.aload_n 0, 1) := by decide +kernel
theorem dX5_copyFrom_141 : decode cX5_copyFrom 141 = .ok (.getfield 39, 3) := by decide +kernel
theorem dX5_copyFrom_144 : decode cX5_copyFrom 144 = .ok (.iconst 0, 1) := by decide +kernel
theorem dX5_copyFrom_145 : decode cX5_copyFrom 145 = .ok (.bipush 9, 2) := by decide +kernel
theorem dX5_copyFrom_147 : decode cX5_copyFrom 147 = .ok (.invokestatic 52, 3) := by decide +kernel
theorem dX5_copyFrom_150 : decode cX5_copyFrom 150 = .ok (.aload_n 0, 1) := by decide +kernel
theorem dX5_copyFrom_151 : decode cX5_copyFrom 151 = .ok (.getfield 45, 3) := by decide +kernel
theorem dX5_copyFrom_154 : decode cX5_copyFrom 154 = .ok (.aload_n 1, 1) := by decide +kernel
theorem dX5_copyFrom_155 : decode cX5_copyFrom 155 = .ok (.getfield 45, 3) := by decide +kernel
theorem dX5_copyFrom_158 : decode cX5_copyFrom 158 = .ok (.invokevirtual 88, 3) := by decide +kernel
theorem dX5_copyFrom_161 : decode cX5_copyFrom 161 = .ok (.aload_n 0, 1) := by decide +kernel
theorem dX5_copyFrom_162 : decode cX5_copyFrom 162 = .ok (.aload_n 1, 1) := by decide +kernel
theorem dX5_copyFrom_163 : decode cX5_copyFrom 163 = .ok (.getfield 63, 3) := by decide +kernel
theorem dX5_copyFrom_166 : decode cX5_copyFrom 166 = .ok (.putfield 63, 3) := by decide +kernel
theorem dX5_copyFrom_169 : decode cX5_copyFrom 169 = .ok (.aload_n 0, 1) := by decide +kernel
theorem dX5_copyFrom_170 : decode cX5_copyFrom 170 = .ok (.aload_n 1, 1) := by decide +kernel
theorem dX5_copyFrom_171 : decode cX5_copyFrom 171 = .ok (.getfield 67, 3) := by decide +kernel
theorem dX5_copyFrom_174 : decode cX5_copyFrom 174 = .ok (.putfield 67, 3) := by decide +kernel
theorem dX5_copyFrom_177 : decode cX5_copyFrom 177 = .ok (.aload_n 0, 1) := by decide +kernel
theorem dX5_copyFrom_178 : decode cX5_copyFrom 178 = .ok (.aload_n 1, 1) := by decide +kernel
theorem dX5_copyFrom_179 : decode cX5_copyFrom 179 = .ok (.getfield 70, 3) := by decide +kernel
theorem dX5_copyFrom_182 : decode cX5_copyFrom 182 = .ok (.putfield 70, 3) := by decide +kernel
theorem dX5_copyFrom_185 : decode cX5_copyFrom 185 = .ok (.aload_n 0, 1) := by decide +kernel
theorem dX5_copyFrom_186 : decode cX5_copyFrom 186 = .ok (.aload_n 1, 1) := by decide +kernel
theorem dX5_copyFrom_187 : decode cX5_copyFrom 187 = .ok (.getfield 73, 3) := by decide +kernel
theorem dX5_copyFrom_190 : decode cX5_copyFrom 190 = .ok (.putfield 73, 3) := by decide +kernel
theorem dX5_copyFrom_193 : decode cX5_copyFrom 193 = .ok (.aload_n 0, 1) := by decide +kernel
theorem dX5_copyFrom_194 : decode cX5_copyFrom 194 = .ok (.aload_n 1, 1) := by decide +kernel
theorem dX5_copyFrom_195 : decode cX5_copyFrom 195 = .ok (.getfield 76, 3) := by decide +kernel
theorem dX5_copyFrom_198 : decode cX5_copyFrom 198 = .ok (.putfield 76, 3) := by decide +kernel
theorem dX5_copyFrom_201 : decode cX5_copyFrom 201 = .ok (.aload_n 0, 1) := by decide +kernel
theorem dX5_copyFrom_202 : decode cX5_copyFrom 202 = .ok (.aload_n 1, 1) := by decide +kernel
theorem dX5_copyFrom_203 : decode cX5_copyFrom 203 = .ok (.getfield 83, 3) := by decide +kernel
theorem dX5_copyFrom_206 : decode cX5_copyFrom 206 = .ok (.putfield 83, 3) := by decide +kernel
theorem dX5_copyFrom_209 : decode cX5_copyFrom 209 = .ok (.return_, 1) := by decide +kernel
theorem dX5_count_0 : decode cX5_count 0 = .ok (.iload_n 1, 1) := by decide +kernel
theorem dX5_count_1 : decode cX5_count 1 = .ok (.ifCond .lt 19, 3) := by decide +kernel
theorem dX5_count_4 : decode cX5_count 4 = .ok (.iload_n 1, 1) := by decide +kernel
theorem dX5_count_5 : decode cX5_count 5 = .ok (.bipush 9, 2) := by decide +kernel
theorem dX5_count_7 : decode cX5_count 7 = .ok (.if_icmp .ge 13, 3) := by decide +kernel
theorem dX5_count_10 : decode cX5_count 10 = .ok (.aload_n 0, 1) := by decide +kernel
theorem dX5_count_11 : decode cX5_count 11 = .ok (.getfield 39, 3) := by decide +kernel
theorem dX5_count_14 : decode cX5_count 14 = .ok (.iload_n 1, 1) := by decide +kernel
theorem dX5_count_15 : decode cX5_count 15 = .ok (.dup2, 1) := by decide +kernel
theorem dX5_count_16 : decode cX5_count 16 = .ok (.iaload, 1) := by decide +kernel
theorem dX5_count_17 : decode cX5_count 17 = .ok (.iload_n 2, 1) := by decide +kernel
theorem dX5_count_18 : decode cX5_count 18 = .ok (.iadd, 1) := by decide +kernel
theorem dX5_count_19 : decode cX5_count 19 = .ok (.iastore, 1) := by decide +kernel
theorem dX5_count_20 : decode cX5_count 20 = .ok (.return_, 1) := by decide +kernel
theorem dX5_beginJob_0 : decode cX5_beginJob 0 = .ok (.aload_n 0, 1) := by decide +kernel
theorem dX5_beginJob_1 : decode cX5_beginJob 1 = .ok (.getfield 76, 3) := by decide +kernel
theorem dX5_beginJob_4 : decode cX5_beginJob 4 = .ok (.sipush 139, 3) := by decide +kernel
theorem dX5_beginJob_7 : decode cX5_beginJob 7 = .ok (.if_icmp .ge 23, 3) := by decide +kernel
theorem dX5_beginJob_10 : decode cX5_beginJob 10 = .ok (.aload_n 0, 1) := by decide +kernel
theorem dX5_beginJob_11 : decode cX5_beginJob 11 = .ok (.getfield 33, 3) := by decide +kernel
theorem dX5_beginJob_14 : decode cX5_beginJob 14 = .ok (.aload_n 0, 1) := by decide +kernel
theorem dX5_beginJob_15 : decode cX5_beginJob 15 = .ok (.getfield 76, 3) := by decide +kernel
theorem dX5_beginJob_18 : decode cX5_beginJob 18 = .ok (.iload_n 1, 1) := by decide +kernel
theorem dX5_beginJob_19 : decode cX5_beginJob 19 = .ok (.iastore, 1) := by decide +kernel
theorem dX5_beginJob_20 : decode cX5_beginJob 20 = .ok (.aload_n 0, 1) := by decide +kernel
theorem dX5_beginJob_21 : decode cX5_beginJob 21 = .ok (.dup, 1) := by decide +kernel
theorem dX5_beginJob_22 : decode cX5_beginJob 22 = .ok (.getfield 76, 3) := by decide +kernel
theorem dX5_beginJob_25 : decode cX5_beginJob 25 = .ok (.iconst 1, 1) := by decide +kernel
theorem dX5_beginJob_26 : decode cX5_beginJob 26 = .ok (.iadd, 1) := by decide +kernel
theorem dX5_beginJob_27 : decode cX5_beginJob 27 = .ok (.putfield 76, 3) := by decide +kernel
theorem dX5_beginJob_30 : decode cX5_beginJob 30 = .ok (.return_, 1) := by decide +kernel
theorem dX5_addPage_0 : decode cX5_addPage 0 = .ok (.aload_n 0, 1) := by decide +kernel
theorem dX5_addPage_1 : decode cX5_addPage 1 = .ok (.getfield 73, 3) := by decide +kernel
theorem dX5_addPage_4 : decode cX5_addPage 4 = .ok (.bipush 80, 2) := by decide +kernel
theorem dX5_addPage_6 : decode cX5_addPage 6 = .ok (.if_icmp .ge 48, 3) := by decide +kernel
theorem dX5_addPage_9 : decode cX5_addPage 9 = .ok (.aload_n 0, 1) := by decide +kernel
theorem dX5_addPage_10 : decode cX5_addPage 10 = .ok (.getfield 24, 3) := by decide +kernel
theorem dX5_addPage_13 : decode cX5_addPage 13 = .ok (.aload_n 0, 1) := by decide +kernel
theorem dX5_addPage_14 : decode cX5_addPage 14 = .ok (.getfield 73, 3) := by decide +kernel
theorem dX5_addPage_17 : decode cX5_addPage 17 = .ok (.iload_n 1, 1) := by decide +kernel
theorem dX5_addPage_18 : decode cX5_addPage 18 = .ok (.iastore, 1) := by decide +kernel
theorem dX5_addPage_19 : decode cX5_addPage 19 = .ok (.aload_n 0, 1) := by decide +kernel
theorem dX5_addPage_20 : decode cX5_addPage 20 = .ok (.getfield 27, 3) := by decide +kernel
theorem dX5_addPage_23 : decode cX5_addPage 23 = .ok (.aload_n 0, 1) := by decide +kernel
theorem dX5_addPage_24 : decode cX5_addPage 24 = .ok (.getfield 73, 3) := by decide +kernel
theorem dX5_addPage_27 : decode cX5_addPage 27 = .ok (.iload_n 2, 1) := by decide +kernel
theorem dX5_addPage_28 : decode cX5_addPage 28 = .ok (.iastore, 1) := by decide +kernel
theorem dX5_addPage_29 : decode cX5_addPage 29 = .ok (.aload_n 0, 1) := by decide +kernel
theorem dX5_addPage_30 : decode cX5_addPage 30 = .ok (.getfield 30, 3) := by decide +kernel
theorem dX5_addPage_33 : decode cX5_addPage 33 = .ok (.aload_n 0, 1) := by decide +kernel
theorem dX5_addPage_34 : decode cX5_addPage 34 = .ok (.getfield 73, 3) := by decide +kernel
theorem dX5_addPage_37 : decode cX5_addPage 37 = .ok (.aload_n 0, 1) := by decide +kernel
theorem dX5_addPage_38 : decode cX5_addPage 38 = .ok (.getfield 76, 3) := by decide +kernel
theorem dX5_addPage_41 : decode cX5_addPage 41 = .ok (.iconst 1, 1) := by decide +kernel
theorem dX5_addPage_42 : decode cX5_addPage 42 = .ok (.isub, 1) := by decide +kernel
theorem dX5_addPage_43 : decode cX5_addPage 43 = .ok (.iastore, 1) := by decide +kernel
theorem dX5_addPage_44 : decode cX5_addPage 44 = .ok (.aload_n 0, 1) := by decide +kernel
theorem dX5_addPage_45 : decode cX5_addPage 45 = .ok (.dup, 1) := by decide +kernel
theorem dX5_addPage_46 : decode cX5_addPage 46 = .ok (.getfield 73, 3) := by decide +kernel
theorem dX5_addPage_49 : decode cX5_addPage 49 = .ok (.iconst 1, 1) := by decide +kernel
theorem dX5_addPage_50 : decode cX5_addPage 50 = .ok (.iadd, 1) := by decide +kernel
theorem dX5_addPage_51 : decode cX5_addPage 51 = .ok (.putfield 73, 3) := by decide +kernel
theorem dX5_addPage_54 : decode cX5_addPage 54 = .ok (.return_, 1) := by decide +kernel
theorem dX5_pagesOfJob_0 : decode cX5_pagesOfJob 0 = .ok (.iconst 0, 1) := by decide +kernel
theorem dX5_pagesOfJob_1 : decode cX5_pagesOfJob 1 = .ok (.istore_n 2, 1) := by decide +kernel
theorem dX5_pagesOfJob_2 : decode cX5_pagesOfJob 2 = .ok (.iconst 0, 1) := by decide +kernel
theorem dX5_pagesOfJob_3 : decode cX5_pagesOfJob 3 = .ok (.istore_n 3, 1) := by decide +kernel
theorem dX5_pagesOfJob_4 : decode cX5_pagesOfJob 4 = .ok (.iload_n 3, 1) := by decide +kernel
theorem dX5_pagesOfJob_5 : decode cX5_pagesOfJob 5 = .ok (.aload_n 0, 1) := by decide +kernel
theorem dX5_pagesOfJob_6 : decode cX5_pagesOfJob 6 = .ok (.getfield 73, 3) := by decide +kernel
theorem dX5_pagesOfJob_9 : decode cX5_pagesOfJob 9 = .ok (.if_icmp .ge 22, 3) := by decide +kernel
theorem dX5_pagesOfJob_12 : decode cX5_pagesOfJob 12 = .ok (.aload_n 0, 1) := by decide +kernel
theorem dX5_pagesOfJob_13 : decode cX5_pagesOfJob 13 = .ok (.getfield 30, 3) := by decide +kernel
theorem dX5_pagesOfJob_16 : decode cX5_pagesOfJob 16 = .ok (.iload_n 3, 1) := by decide +kernel
theorem dX5_pagesOfJob_17 : decode cX5_pagesOfJob 17 = .ok (.iaload, 1) := by decide +kernel
theorem dX5_pagesOfJob_18 : decode cX5_pagesOfJob 18 = .ok (.iload_n 1, 1) := by decide +kernel
theorem dX5_pagesOfJob_19 : decode cX5_pagesOfJob 19 = .ok (.if_icmp .ne 6, 3) := by decide +kernel
theorem dX5_pagesOfJob_22 : decode cX5_pagesOfJob 22 = .ok (.iinc 2 1, 3) := by decide +kernel
theorem dX5_pagesOfJob_25 : decode cX5_pagesOfJob 25 = .ok (.iinc 3 1, 3) := by decide +kernel
theorem dX5_pagesOfJob_28 : decode cX5_pagesOfJob 28 = .ok (.goto (-24), 3) := by decide +kernel
theorem dX5_pagesOfJob_31 : decode cX5_pagesOfJob 31 = .ok (.iload_n 2, 1) := by decide +kernel
theorem dX5_pagesOfJob_32 : decode cX5_pagesOfJob 32 = .ok (.ireturn, 1) := by decide +kernel
theorem dX5_firstPageOfJob_0 : decode cX5_firstPageOfJob 0 = .ok (.iconst 0, 1) := by decide +kernel
theorem dX5_firstPageOfJob_1 : decode cX5_firstPageOfJob 1 = .ok (.istore_n 2, 1) := by decide +kernel
theorem dX5_firstPageOfJob_2 : decode cX5_firstPageOfJob 2 = .ok (.iload_n 2, 1) := by decide +kernel
theorem dX5_firstPageOfJob_3 : decode cX5_firstPageOfJob 3 = .ok (.aload_n 0, 1) := by decide +kernel
theorem dX5_firstPageOfJob_4 : decode cX5_firstPageOfJob 4 = .ok (.getfield 73, 3) := by decide +kernel
theorem dX5_firstPageOfJob_7 : decode cX5_firstPageOfJob 7 = .ok (.if_icmp .ge 21, 3) := by decide +kernel
theorem dX5_firstPageOfJob_10 : decode cX5_firstPageOfJob 10 = .ok (.aload_n 0, 1) := by decide +kernel
theorem dX5_firstPageOfJob_11 : decode cX5_firstPageOfJob 11 = .ok (.getfield 30, 3) := by decide +kernel
theorem dX5_firstPageOfJob_14 : decode cX5_firstPageOfJob 14 = .ok (.iload_n 2, 1) := by decide +kernel
theorem dX5_firstPageOfJob_15 : decode cX5_firstPageOfJob 15 = .ok (.iaload, 1) := by decide +kernel
theorem dX5_firstPageOfJob_16 : decode cX5_firstPageOfJob 16 = .ok (.iload_n 1, 1) := by decide +kernel
theorem dX5_firstPageOfJob_17 : decode cX5_firstPageOfJob 17 = .ok (.if_icmp .ne 5, 3) := by decide +kernel
theorem dX5_firstPageOfJob_20 : decode cX5_firstPageOfJob 20 = .ok (.iload_n 2, 1) := by decide +kernel
theorem dX5_firstPageOfJob_21 : decode cX5_firstPageOfJob 21 = .ok (.ireturn, 1) := by decide +kernel
theorem dX5_firstPageOfJob_22 : decode cX5_firstPageOfJob 22 = .ok (.iinc 2 1, 3) := by decide +kernel
theorem dX5_firstPageOfJob_25 : decode cX5_firstPageOfJob 25 = .ok (.goto (-23), 3) := by decide +kernel
theorem dX5_firstPageOfJob_28 : decode cX5_firstPageOfJob 28 = .ok (.iconst (-1), 1) := by decide +kernel
theorem dX5_firstPageOfJob_29 : decode cX5_firstPageOfJob 29 = .ok (.ireturn, 1) := by decide +kernel
theorem dX5_sheetsOfJob_0 : decode cX5_sheetsOfJob 0 = .ok (.iconst 0, 1) := by decide +kernel
theorem dX5_sheetsOfJob_1 : decode cX5_sheetsOfJob 1 = .ok (.istore_n 2, 1) := by decide +kernel
theorem dX5_sheetsOfJob_2 : decode cX5_sheetsOfJob 2 = .ok (.iconst 0, 1) := by decide +kernel
theorem dX5_sheetsOfJob_3 : decode cX5_sheetsOfJob 3 = .ok (.istore_n 3, 1) := by decide +kernel
theorem dX5_sheetsOfJob_4 : decode cX5_sheetsOfJob 4 = .ok (.iload_n 3, 1) := by decide +kernel
theorem dX5_sheetsOfJob_5 : decode cX5_sheetsOfJob 5 = .ok (.aload_n 0, 1) := by decide +kernel
theorem dX5_sheetsOfJob_6 : decode cX5_sheetsOfJob 6 = .ok (.getfield 73, 3) := by decide +kernel
theorem dX5_sheetsOfJob_9 : decode cX5_sheetsOfJob 9 = .ok (.if_icmp .ge 43, 3) := by decide +kernel
theorem dX5_sheetsOfJob_12 : decode cX5_sheetsOfJob 12 = .ok (.aload_n 0, 1) := by decide +kernel
theorem dX5_sheetsOfJob_13 : decode cX5_sheetsOfJob 13 = .ok (.getfield 30, 3) := by decide +kernel
theorem dX5_sheetsOfJob_16 : decode cX5_sheetsOfJob 16 = .ok (.iload_n 3, 1) := by decide +kernel
theorem dX5_sheetsOfJob_17 : decode cX5_sheetsOfJob 17 = .ok (.iaload, 1) := by decide +kernel
theorem dX5_sheetsOfJob_18 : decode cX5_sheetsOfJob 18 = .ok (.iload_n 1, 1) := by decide +kernel
theorem dX5_sheetsOfJob_19 : decode cX5_sheetsOfJob 19 = .ok (.if_icmp .ne 27, 3) := by decide +kernel
theorem dX5_sheetsOfJob_22 : decode cX5_sheetsOfJob 22 = .ok (.iload_n 3, 1) := by decide +kernel
theorem dX5_sheetsOfJob_23 : decode cX5_sheetsOfJob 23 = .ok (.ifCond .eq 20, 3) := by decide +kernel
theorem dX5_sheetsOfJob_26 : decode cX5_sheetsOfJob 26 = .ok (.aload_n 0, 1) := by decide +kernel
theorem dX5_sheetsOfJob_27 : decode cX5_sheetsOfJob 27 = .ok (.getfield 24, 3) := by decide +kernel
theorem dX5_sheetsOfJob_30 : decode cX5_sheetsOfJob 30 = .ok (.iload_n 3, 1) := by decide +kernel
theorem dX5_sheetsOfJob_31 : decode cX5_sheetsOfJob 31 = .ok (.iaload, 1) := by decide +kernel
theorem dX5_sheetsOfJob_32 : decode cX5_sheetsOfJob 32 = .ok (.aload_n 0, 1) := by decide +kernel
theorem dX5_sheetsOfJob_33 : decode cX5_sheetsOfJob 33 = .ok (.getfield 24, 3) := by decide +kernel
theorem dX5_sheetsOfJob_36 : decode cX5_sheetsOfJob 36 = .ok (.iload_n 3, 1) := by decide +kernel
theorem dX5_sheetsOfJob_37 : decode cX5_sheetsOfJob 37 = .ok (.iconst 1, 1) := by decide +kernel
theorem dX5_sheetsOfJob_38 : decode cX5_sheetsOfJob 38 = .ok (.isub, 1) := by decide +kernel
theorem dX5_sheetsOfJob_39 : decode cX5_sheetsOfJob 39 = .ok (.iaload, 1) := by decide +kernel
theorem dX5_sheetsOfJob_40 : decode cX5_sheetsOfJob 40 = .ok (.if_icmp .eq 6, 3) := by decide +kernel
theorem dX5_sheetsOfJob_43 : decode cX5_sheetsOfJob 43 = .ok (.iinc 2 1, 3) := by decide +kernel
theorem dX5_sheetsOfJob_46 : decode cX5_sheetsOfJob 46 = .ok (.iinc 3 1, 3) := by decide +kernel
theorem dX5_sheetsOfJob_49 : decode cX5_sheetsOfJob 49 = .ok (.goto (-45), 3) := by decide +kernel
theorem dX5_sheetsOfJob_52 : decode cX5_sheetsOfJob 52 = .ok (.iload_n 2, 1) := by decide +kernel
theorem dX5_sheetsOfJob_53 : decode cX5_sheetsOfJob 53 = .ok (.ireturn, 1) := by decide +kernel
theorem dX6_init_0 : decode cX6_init 0 = .ok (.aload_n 0, 1) := by decide +kernel
theorem dX6_init_1 : decode cX6_init 1 = .ok (.invokespecial 3, 3) := by decide +kernel
theorem dX6_init_4 : decode cX6_init 4 = .ok (.aload_n 0, 1) := by decide +kernel
theorem dX6_init_5 : decode cX6_init 5 = .ok (.new 9, 3) := by decide +kernel
theorem dX6_init_8 : decode cX6_init 8 = .ok (.dup, 1) := by decide +kernel
theorem dX6_init_9 : decode cX6_init 9 = .ok (.invokespecial 11, 3) := by decide +kernel
theorem dX6_init_12 : decode cX6_init 12 = .ok (.putfield 12, 3) := by decide +kernel
theorem dX6_init_15 : decode cX6_init 15 = .ok (.aload_n 0, 1) := by decide +kernel
theorem dX6_init_16 : decode cX6_init 16 = .ok (.new 16, 3) := by decide +kernel
theorem dX6_init_19 : decode cX6_init 19 = .ok (.dup, 1) := by decide +kernel
theorem dX6_init_20 : decode cX6_init 20 = .ok (.invokespecial 18, 3) := by decide +kernel
theorem dX6_init_23 : decode cX6_init 23 = .ok (.putfield 19, 3) := by decide +kernel
theorem dX6_init_26 : decode cX6_init 26 = .ok (.aload_n 0, 1) := by decide +kernel
theorem dX6_init_27 : decode cX6_init 27 = .ok (.new 23, 3) := by decide +kernel
theorem dX6_init_30 : decode cX6_init 30 = .ok (.dup, 1) := by decide +kernel
theorem dX6_init_31 : decode cX6_init 31 = .ok (.invokespecial 25, 3) := by decide +kernel
theorem dX6_init_34 : decode cX6_init 34 = .ok (.putfield 26, 3) := by decide +kernel
theorem dX6_init_37 : decode cX6_init 37 = .ok (.aload_n 0, 1) := by decide +kernel
theorem dX6_init_38 : decode cX6_init 38 = .ok (.bipush 10, 2) := by decide +kernel
theorem dX6_init_40 : decode cX6_init 40 = .ok (.anewarray 23, 3) := by decide +kernel
theorem dX6_init_43 : decode cX6_init 43 = .ok (.putfield 30, 3) := by decide +kernel
theorem dX6_init_46 : decode cX6_init 46 = .ok (.aload_n 0, 1) := by decide +kernel
theorem dX6_init_47 : decode cX6_init 47 = .ok (.iconst 2, 1) := by decide +kernel
theorem dX6_init_48 : decode cX6_init 48 = .ok (.anewarray 23, 3) := by decide +kernel
theorem dX6_init_51 : decode cX6_init 51 = .ok (.putfield 34, 3) := by decide +kernel
theorem dX6_init_54 : decode cX6_init 54 = .ok (.aload_n 0, 1) := by decide +kernel
theorem dX6_init_55 : decode cX6_init 55 = .ok (.iconst 2, 1) := by decide +kernel
theorem dX6_init_56 : decode cX6_init 56 = .ok (.newarray .boolean, 2) := by decide +kernel
theorem dX6_init_58 : decode cX6_init 58 = .ok (.putfield 37, 3) := by decide +kernel
theorem dX6_init_61 : decode cX6_init 61 = .ok (.aload_n 0, 1) := by decide +kernel
theorem dX6_init_62 : decode cX6_init 62 = .ok (.new 41, 3) := by decide +kernel
theorem dX6_init_65 : decode cX6_init 65 = .ok (.dup, 1) := by decide +kernel
theorem dX6_init_66 : decode cX6_init 66 = .ok (.invokespecial 43, 3) := by decide +kernel
theorem dX6_init_69 : decode cX6_init 69 = .ok (.putfield 44, 3) := by decide +kernel
theorem dX6_init_72 : decode cX6_init 72 = .ok (.aload_n 0, 1) := by decide +kernel
theorem dX6_init_73 : decode cX6_init 73 = .ok (.new 48, 3) := by decide +kernel
theorem dX6_init_76 : decode cX6_init 76 = .ok (.dup, 1) := by decide +kernel
theorem dX6_init_77 : decode cX6_init 77 = .ok (.invokespecial 50, 3) := by decide +kernel
theorem dX6_init_80 : decode cX6_init 80 = .ok (.putfield 51, 3) := by decide +kernel
theorem dX6_init_83 : decode cX6_init 83 = .ok (.iconst 0, 1) := by decide +kernel
theorem dX6_init_84 : decode cX6_init 84 = .ok (.istore_n 1, 1) := by decide +kernel
theorem dX6_init_85 : decode cX6_init 85 = .ok (.iload_n 1, 1) := by decide +kernel
theorem dX6_init_86 : decode cX6_init 86 = .ok (.bipush 10, 2) := by decide +kernel
theorem dX6_init_88 : decode cX6_init 88 = .ok (.if_icmp .ge 22, 3) := by decide +kernel
theorem dX6_init_91 : decode cX6_init 91 = .ok (.aload_n 0, 1) := by decide +kernel
theorem dX6_init_92 : decode cX6_init 92 = .ok (.getfield 30, 3) := by decide +kernel
theorem dX6_init_95 : decode cX6_init 95 = .ok (.iload_n 1, 1) := by decide +kernel
theorem dX6_init_96 : decode cX6_init 96 = .ok (.new 23, 3) := by decide +kernel
theorem dX6_init_99 : decode cX6_init 99 = .ok (.dup, 1) := by decide +kernel
theorem dX6_init_100 : decode cX6_init 100 = .ok (.invokespecial 25, 3) := by decide +kernel
theorem dX6_init_103 : decode cX6_init 103 = .ok (.aastore, 1) := by decide +kernel
theorem dX6_init_104 : decode cX6_init 104 = .ok (.iinc 1 1, 3) := by decide +kernel
theorem dX6_init_107 : decode cX6_init 107 = .ok (.goto (-22), 3) := by decide +kernel
theorem dX6_init_110 : decode cX6_init 110 = .ok (.iconst 0, 1) := by decide +kernel
theorem dX6_init_111 : decode cX6_init 111 = .ok (.istore_n 1, 1) := by decide +kernel
theorem dX6_init_112 : decode cX6_init 112 = .ok (.iload_n 1, 1) := by decide +kernel
theorem dX6_init_113 : decode cX6_init 113 = .ok (.iconst 2, 1) := by decide +kernel
theorem dX6_init_114 : decode cX6_init 114 = .ok (.if_icmp .ge 22, 3) := by decide +kernel
theorem dX6_init_117 : decode cX6_init 117 = .ok (.aload_n 0, 1) := by decide +kernel
theorem dX6_init_118 : decode cX6_init 118 = .ok (.getfield 34, 3) := by decide +kernel
theorem dX6_init_121 : decode cX6_init 121 = .ok (.iload_n 1, 1) := by decide +kernel
theorem dX6_init_122 : decode cX6_init 122 = .ok (.new 23, 3) := by decide +kernel
theorem dX6_init_125 : decode cX6_init 125 = .ok (.dup, 1) := by decide +kernel
theorem dX6_init_126 : decode cX6_init 126 = .ok (.invokespecial 25, 3) := by decide +kernel
theorem dX6_init_129 : decode cX6_init 129 = .ok (.aastore, 1) := by decide +kernel
theorem dX6_init_130 : decode cX6_init 130 = .ok (.iinc 1 1, 3) := by decide +kernel
theorem dX6_init_133 : decode cX6_init 133 = .ok (.goto (-21), 3) := by decide +kernel
theorem dX6_init_136 : decode cX6_init 136 = .ok (.aload_n 0, 1) := by decide +kernel
theorem dX6_init_137 : decode cX6_init 137 = .ok (.getfield 19, 3) := by decide +kernel
theorem dX6_init_140 : decode cX6_init 140 = .ok (.invokevirtual 55, 3) := by decide +kernel
theorem dX6_init_143 : decode cX6_init 143 = .ok (.aload_n 0, 1) := by decide +kernel
theorem dX6_init_144 : decode cX6_init 144 = .ok (.getfield 19, 3) := by decide +kernel
theorem dX6_init_147 : decode cX6_init 147 = .ok (.bipush 50, 2) := by decide +kernel
theorem dX6_init_149 : decode cX6_init 149 = .ok (.putfield 58, 3) := by decide +kernel
theorem dX6_init_152 : decode cX6_init 152 = .ok (.aload_n 0, 1) := by decide +kernel
theorem dX6_init_153 : decode cX6_init 153 = .ok (.getfield 19, 3) := by decide +kernel
theorem dX6_init_156 : decode cX6_init 156 = .ok (.bipush 30, 2) := by decide +kernel
theorem dX6_init_158 : decode cX6_init 158 = .ok (.putfield 62, 3) := by decide +kernel
theorem dX6_init_161 : decode cX6_init 161 = .ok (.aload_n 0, 1) := by decide +kernel
theorem dX6_init_162 : decode cX6_init 162 = .ok (.invokevirtual 65, 3) := by decide +kernel
theorem dX6_init_165 : decode cX6_init 165 = .ok (.return_, 1) := by decide +kernel
theorem dX6_append_0 : decode cX6_append 0 = .ok (.aload_n 0, 1) := by decide +kernel
theorem dX6_append_1 : decode cX6_append 1 = .ok (.getfield 12, 3) := by decide +kernel
theorem dX6_append_4 : decode cX6_append 4 = .ok (.getfield 68, 3) := by decide +kernel
theorem dX6_append_7 : decode cX6_append 7 = .ok (.bipush 20, 2) := by decide +kernel
theorem dX6_append_9 : decode cX6_append 9 = .ok (.iadd, 1) := by decide +kernel
theorem dX6_append_10 : decode cX6_append 10 = .ok (.sipush 700, 3) := by decide +kernel
theorem dX6_append_13 : decode cX6_append 13 = .ok (.if_icmp .le 5, 3) := by decide +kernel
theorem dX6_append_16 : decode cX6_append 16 = .ok (.iconst (-1), 1) := by decide +kernel
theorem dX6_append_17 : decode cX6_append 17 = .ok (.ireturn, 1) := by decide +kernel
theorem dX6_append_18 : decode cX6_append 18 = .ok (.aload_n 0, 1) := by decide +kernel
theorem dX6_append_19 : decode cX6_append 19 = .ok (.getfield 12, 3) := by decide +kernel
theorem dX6_append_22 : decode cX6_append 22 = .ok (.iload_n 1, 1) := by decide +kernel
theorem dX6_append_23 : decode cX6_append 23 = .ok (.invokevirtual 71, 3) := by decide +kernel
theorem dX6_append_26 : decode cX6_append 26 = .ok (.aload_n 0, 1) := by decide +kernel
theorem dX6_append_27 : decode cX6_append 27 = .ok (.getfield 12, 3) := by decide +kernel
theorem dX6_append_30 : decode cX6_append 30 = .ok (.iload_n 2, 1) := by decide +kernel
theorem dX6_append_31 : decode cX6_append 31 = .ok (.invokevirtual 71, 3) := by decide +kernel
theorem dX6_append_34 : decode cX6_append 34 = .ok (.aload_n 0, 1) := by decide +kernel
theorem dX6_append_35 : decode cX6_append 35 = .ok (.getfield 12, 3) := by decide +kernel
theorem dX6_append_38 : decode cX6_append 38 = .ok (.iload_n 3, 1) := by decide +kernel
theorem dX6_append_39 : decode cX6_append 39 = .ok (.invokevirtual 71, 3) := by decide +kernel
theorem dX6_append_42 : decode cX6_append 42 = .ok (.aload_n 0, 1) := by decide +kernel
theorem dX6_append_43 : decode cX6_append 43 = .ok (.getfield 12, 3) := by decide +kernel
theorem dX6_append_46 : decode cX6_append 46 = .ok (.iload 4, 2) := by decide +kernel
theorem dX6_append_48 : decode cX6_append 48 = .ok (.invokevirtual 71, 3) := by decide +kernel
theorem dX6_append_51 : decode cX6_append 51 = .ok (.aload_n 0, 1) := by decide +kernel
theorem dX6_append_52 : decode cX6_append 52 = .ok (.getfield 12, 3) := by decide +kernel
theorem dX6_append_55 : decode cX6_append 55 = .ok (.iload 5, 2) := by decide +kernel
theorem dX6_append_57 : decode cX6_append 57 = .ok (.invokevirtual 71, 3) := by decide +kernel
theorem dX6_append_60 : decode cX6_append 60 = .ok (.aload_n 0, 1) := by decide +kernel
theorem dX6_append_61 : decode cX6_append 61 = .ok (.getfield 12, 3) := by decide +kernel
theorem dX6_append_64 : decode cX6_append 64 = .ok (.getfield 68, 3) := by decide +kernel
theorem dX6_append_67 : decode cX6_append 67 = .ok (.ireturn, 1) := by decide +kernel
theorem dX6_parse_0 : decode cX6_parse 0 = .ok (.iload_n 1, 1) := by decide +kernel
theorem dX6_parse_1 : decode cX6_parse 1 = .ok (.ifCond .lt 14, 3) := by decide +kernel
theorem dX6_parse_4 : decode cX6_parse 4 = .ok (.iload_n 1, 1) := by decide +kernel
theorem dX6_parse_5 : decode cX6_parse 5 = .ok (.aload_n 0, 1) := by decide +kernel
theorem dX6_parse_6 : decode cX6_parse 6 = .ok (.getfield 12, 3) := by decide +kernel
theorem dX6_parse_9 : decode cX6_parse 9 = .ok (.getfield 68, 3) := by decide +kernel
theorem dX6_parse_12 : decode cX6_parse 12 = .ok (.if_icmp .le 13, 3) := by decide +kernel
theorem dX6_parse_15 : decode cX6_parse 15 = .ok (.new 75, 3) := by decide +kernel
theorem dX6_parse_18 : decode cX6_parse 18 = .ok (.dup, 1) := by decide +kernel
theorem dX6_parse_19 : decode cX6_parse 19 = .ok (.ldc 77, 2) := by decide +kernel
theorem dX6_parse_21 : decode cX6_parse 21 = .ok (.invokespecial 79, 3) := by decide +kernel
theorem dX6_parse_24 : decode cX6_parse 24 = .ok (.athrow, 1) := by decide +kernel
theorem dX6_parse_25 : decode cX6_parse 25 = .ok (.aload_n 0, 1) := by decide +kernel
theorem dX6_parse_26 : decode cX6_parse 26 = .ok (.getfield 12, 3) := by decide +kernel
theorem dX6_parse_29 : decode cX6_parse 29 = .ok (.iload_n 1, 1) := by decide +kernel
theorem dX6_parse_30 : decode cX6_parse 30 = .ok (.invokevirtual 82, 3) := by decide +kernel
theorem dX6_parse_33 : decode cX6_parse 33 = .ok (.istore_n 2, 1) := by decide +kernel
theorem dX6_parse_34 : decode cX6_parse 34 = .ok (.iload_n 2, 1) := by decide +kernel
theorem dX6_parse_35 : decode cX6_parse 35 = .ok (.iconst (-1), 1) := by decide +kernel
theorem dX6_parse_36 : decode cX6_parse 36 = .ok (.if_icmp .eq 8, 3) := by decide +kernel
theorem dX6_parse_39 : decode cX6_parse 39 = .ok (.bipush (-2), 2) := by decide +kernel
theorem dX6_parse_41 : decode cX6_parse 41 = .ok (.iload_n 2, 1) := by decide +kernel
theorem dX6_parse_42 : decode cX6_parse 42 = .ok (.isub, 1) := by decide +kernel
theorem dX6_parse_43 : decode cX6_parse 43 = .ok (.ireturn, 1) := by decide +kernel
theorem dX6_parse_44 : decode cX6_parse 44 = .ok (.aload_n 0, 1) := by decide +kernel
theorem dX6_parse_45 : decode cX6_parse 45 = .ok (.aload_n 0, 1) := by decide +kernel
theorem dX6_parse_46 : decode cX6_parse 46 = .ok (.getfield 12, 3) := by decide +kernel
theorem dX6_parse_49 : decode cX6_parse 49 = .ok (.aload_n 0, 1) := by decide +kernel
theorem dX6_parse_50 : decode cX6_parse 50 = .ok (.getfield 19, 3) := by decide +kernel
theorem dX6_parse_53 : decode cX6_parse 53 = .ok (.invokevirtual 86, 3) := by decide +kernel
theorem dX6_parse_56 : decode cX6_parse 56 = .ok (.putfield 19, 3) := by decide +kernel
theorem dX6_parse_59 : decode cX6_parse 59 = .ok (.aload_n 0, 1) := by decide +kernel
theorem dX6_parse_60 : decode cX6_parse 60 = .ok (.invokevirtual 65, 3) := by decide +kernel
theorem dX6_parse_63 : decode cX6_parse 63 = .ok (.aload_n 0, 1) := by decide +kernel
theorem dX6_parse_64 : decode cX6_parse 64 = .ok (.getfield 19, 3) := by decide +kernel
theorem dX6_parse_67 : decode cX6_parse 67 = .ok (.getfield 90, 3) := by decide +kernel
theorem dX6_parse_70 : decode cX6_parse 70 = .ok (.ireturn, 1) := by decide +kernel
theorem dX6_size_0 : decode cX6_size 0 = .ok (.iload_n 1, 1) := by decide +kernel
theorem dX6_size_1 : decode cX6_size 1 = .ok (.tableswitch 168 0 11 #[63, 71, 76, 84, 92, 100, 108, 124, 132, 140, 158, 163], 63) := by decide +kernel
theorem dX6_size_64 : decode cX6_size 64 = .ok (.aload_n 0, 1) := by decide +kernel
theorem dX6_size_65 : decode cX6_size 65 = .ok (.getfield 19, 3) := by decide +kernel
theorem dX6_size_68 : decode cX6_size 68 = .ok (.getfield 90, 3) := by decide +kernel
theorem dX6_size_71 : decode cX6_size 71 = .ok (.ireturn, 1) := by decide +kernel
theorem dX6_size_72 : decode cX6_size 72 = .ok (.aload_n 0, 1) := by decide +kernel
theorem dX6_size_73 : decode cX6_size 73 = .ok (.invokevirtual 93, 3) := by decide +kernel
theorem dX6_size_76 : decode cX6_size 76 = .ok (.ireturn, 1) := by decide +kernel
theorem dX6_size_77 : decode cX6_size 77 = .ok (.aload_n 0, 1) := by decide +kernel
theorem dX6_size_78 : decode cX6_size 78 = .ok (.getfield 26, 3) := by decide +kernel
theorem dX6_size_81 : decode cX6_size 81 = .ok (.getfield 97, 3) := by decide +kernel
theorem dX6_size_84 : decode cX6_size 84 = .ok (.ireturn, 1) := by decide +kernel
theorem dX6_size_85 : decode cX6_size 85 = .ok (.aload_n 0, 1) := by decide +kernel
theorem dX6_size_86 : decode cX6_size 86 = .ok (.getfield 26, 3) := by decide +kernel
theorem dX6_size_89 : decode cX6_size 89 = .ok (.getfield 100, 3) := by decide +kernel
theorem dX6_size_92 : decode cX6_size 92 = .ok (.ireturn, 1) := by decide +kernel
theorem dX6_size_93 : decode cX6_size 93 = .ok (.aload_n 0, 1) := by decide +kernel
theorem dX6_size_94 : decode cX6_size 94 = .ok (.getfield 26, 3) := by decide +kernel
theorem dX6_size_97 : decode cX6_size 97 = .ok (.getfield 103, 3) := by decide +kernel
theorem dX6_size_100 : decode cX6_size 100 = .ok (.ireturn, 1) := by decide +kernel
theorem dX6_size_101 : decode cX6_size 101 = .ok (.aload_n 0, 1) := by decide +kernel
theorem dX6_size_102 : decode cX6_size 102 = .ok (.getfield 26, 3) := by decide +kernel
theorem dX6_size_105 : decode cX6_size 105 = .ok (.getfield 106, 3) := by decide +kernel
theorem dX6_size_108 : decode cX6_size 108 = .ok (.ireturn, 1) := by decide +kernel
theorem dX6_size_109 : decode cX6_size 109 = .ok (.aload_n 0, 1) := by decide +kernel
theorem dX6_size_110 : decode cX6_size 110 = .ok (.getfield 26, 3) := by decide +kernel
theorem dX6_size_113 : decode cX6_size 113 = .ok (.getfield 109, 3) := by decide +kernel
theorem dX6_size_116 : decode cX6_size 116 = .ok (.ifCond .eq 7, 3) := by decide +kernel
theorem dX6_size_119 : decode cX6_size 119 = .ok (.iconst 1, 1) := by decide +kernel
theorem dX6_size_120 : decode cX6_size 120 = .ok (.goto 4, 3) := by decide +kernel
theorem dX6_size_123 : decode cX6_size 123 = .ok (.iconst 0, 1) := by decide +kernel
theorem dX6_size_124 : decode cX6_size 124 = .ok (.ireturn, 1) := by decide +kernel
theorem dX6_size_125 : decode cX6_size 125 = .ok (.aload_n 0, 1) := by decide +kernel
theorem dX6_size_126 : decode cX6_size 126 = .ok (.getfield 19, 3) := by decide +kernel
theorem dX6_size_129 : decode cX6_size 129 = .ok (.getfield 58, 3) := by decide +kernel
theorem dX6_size_132 : decode cX6_size 132 = .ok (.ireturn, 1) := by decide +kernel
theorem dX6_size_133 : decode cX6_size 133 = .ok (.aload_n 0, 1) := by decide +kernel
theorem dX6_size_134 : decode cX6_size 134 = .ok (.getfield 19, 3) := by decide +kernel
theorem dX6_size_137 : decode cX6_size 137 = .ok (.getfield 62, 3) := by decide +kernel
theorem dX6_size_140 : decode cX6_size 140 = .ok (.ireturn, 1) := by decide +kernel
theorem dX6_size_141 : decode cX6_size 141 = .ok (.aload_n 0, 1) := by decide +kernel
theorem dX6_size_142 : decode cX6_size 142 = .ok (.getfield 26, 3) := by decide +kernel
theorem dX6_size_145 : decode cX6_size 145 = .ok (.getfield 113, 3) := by decide +kernel
theorem dX6_size_148 : decode cX6_size 148 = .ok (.aload_n 0, 1) := by decide +kernel
theorem dX6_size_149 : decode cX6_size 149 = .ok (.getfield 19, 3) := by decide +kernel
theorem dX6_size_152 : decode cX6_size 152 = .ok (.getfield 62, 3) := by decide +kernel
theorem dX6_size_155 : decode cX6_size 155 = .ok (.invokevirtual 117, 3) := by decide +kernel
theorem dX6_size_158 : decode cX6_size 158 = .ok (.ireturn, 1) := by decide +kernel
theorem dX6_size_159 : decode cX6_size 159 = .ok (.aload_n 0, 1) := by decide +kernel
theorem dX6_size_160 : decode cX6_size 160 = .ok (.invokevirtual 122, 3) := by decide +kernel
theorem dX6_size_163 : decode cX6_size 163 = .ok (.ireturn, 1) := by decide +kernel
theorem dX6_size_164 : decode cX6_size 164 = .ok (.aload_n 0, 1) := by decide +kernel
theorem dX6_size_165 : decode cX6_size 165 = .ok (.getfield 125, 3) := by decide +kernel
theorem dX6_size_168 : decode cX6_size 168 = .ok (.ireturn, 1) := by decide +kernel
theorem dX6_size_169 : decode cX6_size 169 = .ok (.new 75, 3) := by decide +kernel
theorem dX6_size_172 : decode cX6_size 172 = .ok (.dup, 1) := by decide +kernel
theorem dX6_size_173 : decode cX6_size 173 = .ok (.ldc 128, 2) := by decide +kernel
theorem dX6_size_175 : decode cX6_size 175 = .ok (.invokespecial 79, 3) := by decide +kernel
theorem dX6_size_178 : decode cX6_size 178 = .ok (.athrow, 1) := by decide +kernel
theorem dX6_limit_0 : decode cX6_limit 0 = .ok (.iload_n 1, 1) := by decide +kernel
theorem dX6_limit_1 : decode cX6_limit 1 = .ok (.ifCond .lt 8, 3) := by decide +kernel
theorem dX6_limit_4 : decode cX6_limit 4 = .ok (.iload_n 1, 1) := by decide +kernel
theorem dX6_limit_5 : decode cX6_limit 5 = .ok (.iconst 4, 1) := by decide +kernel
theorem dX6_limit_6 : decode cX6_limit 6 = .ok (.if_icmp .lt 13, 3) := by decide +kernel
theorem dX6_limit_9 : decode cX6_limit 9 = .ok (.new 75, 3) := by decide +kernel
theorem dX6_limit_12 : decode cX6_limit 12 = .ok (.dup, 1) := by decide +kernel
theorem dX6_limit_13 : decode cX6_limit 13 = .ok (.ldc 128, 2) := by decide +kernel
theorem dX6_limit_15 : decode cX6_limit 15 = .ok (.invokespecial 79, 3) := by decide +kernel
theorem dX6_limit_18 : decode cX6_limit 18 = .ok (.athrow, 1) := by decide +kernel
theorem dX6_limit_19 : decode cX6_limit 19 = .ok (.aload_n 0, 1) := by decide +kernel
theorem dX6_limit_20 : decode cX6_limit 20 = .ok (.getfield 26, 3) := by decide +kernel
theorem dX6_limit_23 : decode cX6_limit 23 = .ok (.getfield 130, 3) := by decide +kernel
theorem dX6_limit_26 : decode cX6_limit 26 = .ok (.iload_n 1, 1) := by decide +kernel
theorem dX6_limit_27 : decode cX6_limit 27 = .ok (.iaload, 1) := by decide +kernel
theorem dX6_limit_28 : decode cX6_limit 28 = .ok (.ireturn, 1) := by decide +kernel
theorem dX6_sheet_0 : decode cX6_sheet 0 = .ok (.aload_n 0, 1) := by decide +kernel
theorem dX6_sheet_1 : decode cX6_sheet 1 = .ok (.iload_n 1, 1) := by decide +kernel
theorem dX6_sheet_2 : decode cX6_sheet 2 = .ok (.invokevirtual 134, 3) := by decide +kernel
theorem dX6_sheet_5 : decode cX6_sheet 5 = .ok (.ifCond .ne 13, 3) := by decide +kernel
theorem dX6_sheet_8 : decode cX6_sheet 8 = .ok (.new 138, 3) := by decide +kernel
theorem dX6_sheet_11 : decode cX6_sheet 11 = .ok (.dup, 1) := by decide +kernel
theorem dX6_sheet_12 : decode cX6_sheet 12 = .ok (.ldc 140, 2) := by decide +kernel
theorem dX6_sheet_14 : decode cX6_sheet 14 = .ok (.invokespecial 142, 3) := by decide +kernel
theorem dX6_sheet_17 : decode cX6_sheet 17 = .ok (.athrow, 1) := by decide +kernel
theorem dX6_sheet_18 : decode cX6_sheet 18 = .ok (.iload_n 2, 1) := by decide +kernel
theorem dX6_sheet_19 : decode cX6_sheet 19 = .ok (.tableswitch 125 0 7 #[45, 55, 65, 75, 85, 95, 105, 115], 45) := by decide +kernel
theorem dX6_sheet_64 : decode cX6_sheet 64 = .ok (.aload_n 0, 1) := by decide +kernel
theorem dX6_sheet_65 : decode cX6_sheet 65 = .ok (.getfield 19, 3) := by decide +kernel
theorem dX6_sheet_68 : decode cX6_sheet 68 = .ok (.getfield 143, 3) := by decide +kernel
theorem dX6_sheet_71 : decode cX6_sheet 71 = .ok (.iload_n 1, 1) := by decide +kernel
theorem dX6_sheet_72 : decode cX6_sheet 72 = .ok (.iaload, 1) := by decide +kernel
theorem dX6_sheet_73 : decode cX6_sheet 73 = .ok (.ireturn, 1) := by decide +kernel
theorem dX6_sheet_74 : decode cX6_sheet 74 = .ok (.aload_n 0, 1) := by decide +kernel
theorem dX6_sheet_75 : decode cX6_sheet 75 = .ok (.getfield 19, 3) := by decide +kernel
theorem dX6_sheet_78 : decode cX6_sheet 78 = .ok (.getfield 146, 3) := by decide +kernel
theorem dX6_sheet_81 : decode cX6_sheet 81 = .ok (.iload_n 1, 1) := by decide +kernel
theorem dX6_sheet_82 : decode cX6_sheet 82 = .ok (.iaload, 1) := by decide +kernel
theorem dX6_sheet_83 : decode cX6_sheet 83 = .ok (.ireturn, 1) := by decide +kernel
theorem dX6_sheet_84 : decode cX6_sheet 84 = .ok (.aload_n 0, 1) := by decide +kernel
theorem dX6_sheet_85 : decode cX6_sheet 85 = .ok (.getfield 26, 3) := by decide +kernel
theorem dX6_sheet_88 : decode cX6_sheet 88 = .ok (.getfield 149, 3) := by decide +kernel
theorem dX6_sheet_91 : decode cX6_sheet 91 = .ok (.iload_n 1, 1) := by decide +kernel
theorem dX6_sheet_92 : decode cX6_sheet 92 = .ok (.iaload, 1) := by decide +kernel
theorem dX6_sheet_93 : decode cX6_sheet 93 = .ok (.ireturn, 1) := by decide +kernel
theorem dX6_sheet_94 : decode cX6_sheet 94 = .ok (.aload_n 0, 1) := by decide +kernel
theorem dX6_sheet_95 : decode cX6_sheet 95 = .ok (.getfield 19, 3) := by decide +kernel
theorem dX6_sheet_98 : decode cX6_sheet 98 = .ok (.getfield 152, 3) := by decide +kernel
theorem dX6_sheet_101 : decode cX6_sheet 101 = .ok (.iload_n 1, 1) := by decide +kernel
theorem dX6_sheet_102 : decode cX6_sheet 102 = .ok (.iaload, 1) := by decide +kernel
theorem dX6_sheet_103 : decode cX6_sheet 103 = .ok (.ireturn, 1) := by decide +kernel
theorem dX6_sheet_104 : decode cX6_sheet 104 = .ok (.aload_n 0, 1) := by decide +kernel
theorem dX6_sheet_105 : decode cX6_sheet 105 = .ok (.getfield 19, 3) := by decide +kernel
theorem dX6_sheet_108 : decode cX6_sheet 108 = .ok (.getfield 155, 3) := by decide +kernel
theorem dX6_sheet_111 : decode cX6_sheet 111 = .ok (.iload_n 1, 1) := by decide +kernel
theorem dX6_sheet_112 : decode cX6_sheet 112 = .ok (.iaload, 1) := by decide +kernel
theorem dX6_sheet_113 : decode cX6_sheet 113 = .ok (.ireturn, 1) := by decide +kernel
theorem dX6_sheet_114 : decode cX6_sheet 114 = .ok (.aload_n 0, 1) := by decide +kernel
theorem dX6_sheet_115 : decode cX6_sheet 115 = .ok (.getfield 19, 3) := by decide +kernel
theorem dX6_sheet_118 : decode cX6_sheet 118 = .ok (.getfield 158, 3) := by decide +kernel
theorem dX6_sheet_121 : decode cX6_sheet 121 = .ok (.iload_n 1, 1) := by decide +kernel
theorem dX6_sheet_122 : decode cX6_sheet 122 = .ok (.iaload, 1) := by decide +kernel
theorem dX6_sheet_123 : decode cX6_sheet 123 = .ok (.ireturn, 1) := by decide +kernel
theorem dX6_sheet_124 : decode cX6_sheet 124 = .ok (.aload_n 0, 1) := by decide +kernel
theorem dX6_sheet_125 : decode cX6_sheet 125 = .ok (.getfield 26, 3) := by decide +kernel
theorem dX6_sheet_128 : decode cX6_sheet 128 = .ok (.getfield 161, 3) := by decide +kernel
theorem dX6_sheet_131 : decode cX6_sheet 131 = .ok (.iload_n 1, 1) := by decide +kernel
theorem dX6_sheet_132 : decode cX6_sheet 132 = .ok (.iaload, 1) := by decide +kernel
theorem dX6_sheet_133 : decode cX6_sheet 133 = .ok (.ireturn, 1) := by decide +kernel
theorem dX6_sheet_134 : decode cX6_sheet 134 = .ok (.aload_n 0, 1) := by decide +kernel
theorem dX6_sheet_135 : decode cX6_sheet 135 = .ok (.getfield 26, 3) := by decide +kernel
theorem dX6_sheet_138 : decode cX6_sheet 138 = .ok (.getfield 164, 3) := by decide +kernel
theorem dX6_sheet_141 : decode cX6_sheet 141 = .ok (.iload_n 1, 1) := by decide +kernel
theorem dX6_sheet_142 : decode cX6_sheet 142 = .ok (.iaload, 1) := by decide +kernel
theorem dX6_sheet_143 : decode cX6_sheet 143 = .ok (.ireturn, 1) := by decide +kernel
theorem dX6_sheet_144 : decode cX6_sheet 144 = .ok (.new 75, 3) := by decide +kernel
theorem dX6_sheet_147 : decode cX6_sheet 147 = .ok (.dup, 1) := by decide +kernel
theorem dX6_sheet_148 : decode cX6_sheet 148 = .ok (.ldc 128, 2) := by decide +kernel
theorem dX6_sheet_150 : decode cX6_sheet 150 = .ok (.invokespecial 79, 3) := by decide +kernel
theorem dX6_sheet_153 : decode cX6_sheet 153 = .ok (.athrow, 1) := by decide +kernel
theorem dX6_stack_0 : decode cX6_stack 0 = .ok (.iload_n 1, 1) := by decide +kernel
theorem dX6_stack_1 : decode cX6_stack 1 = .ok (.ifCond .lt 23, 3) := by decide +kernel
theorem dX6_stack_4 : decode cX6_stack 4 = .ok (.iload_n 1, 1) := by decide +kernel
theorem dX6_stack_5 : decode cX6_stack 5 = .ok (.aload_n 0, 1) := by decide +kernel
theorem dX6_stack_6 : decode cX6_stack 6 = .ok (.invokevirtual 93, 3) := by decide +kernel
theorem dX6_stack_9 : decode cX6_stack 9 = .ok (.if_icmp .ge 15, 3) := by decide +kernel
theorem dX6_stack_12 : decode cX6_stack 12 = .ok (.aload_n 0, 1) := by decide +kernel
theorem dX6_stack_13 : decode cX6_stack 13 = .ok (.getfield 26, 3) := by decide +kernel
theorem dX6_stack_16 : decode cX6_stack 16 = .ok (.getfield 167, 3) := by decide +kernel
theorem dX6_stack_19 : decode cX6_stack 19 = .ok (.iload_n 1, 1) := by decide +kernel
theorem dX6_stack_20 : decode cX6_stack 20 = .ok (.iadd, 1) := by decide +kernel
theorem dX6_stack_21 : decode cX6_stack 21 = .ok (.goto 4, 3) := by decide +kernel
theorem dX6_stack_24 : decode cX6_stack 24 = .ok (.iconst (-1), 1) := by decide +kernel
theorem dX6_stack_25 : decode cX6_stack 25 = .ok (.ireturn, 1) := by decide +kernel
theorem dX6_path_0 : decode cX6_path 0 = .ok (.iload_n 1, 1) := by decide +kernel
theorem dX6_path_1 : decode cX6_path 1 = .ok (.ifCond .lt 23, 3) := by decide +kernel
theorem dX6_path_4 : decode cX6_path 4 = .ok (.iload_n 1, 1) := by decide +kernel
theorem dX6_path_5 : decode cX6_path 5 = .ok (.aload_n 0, 1) := by decide +kernel
theorem dX6_path_6 : decode cX6_path 6 = .ok (.getfield 26, 3) := by decide +kernel
theorem dX6_path_9 : decode cX6_path 9 = .ok (.getfield 97, 3) := by decide +kernel
theorem dX6_path_12 : decode cX6_path 12 = .ok (.if_icmp .ge 12, 3) := by decide +kernel
theorem dX6_path_15 : decode cX6_path 15 = .ok (.aload_n 0, 1) := by decide +kernel
theorem dX6_path_16 : decode cX6_path 16 = .ok (.invokevirtual 170, 3) := by decide +kernel
theorem dX6_path_19 : decode cX6_path 19 = .ok (.iload_n 1, 1) := by decide +kernel
theorem dX6_path_20 : decode cX6_path 20 = .ok (.iadd, 1) := by decide +kernel
theorem dX6_path_21 : decode cX6_path 21 = .ok (.goto 4, 3) := by decide +kernel
theorem dX6_path_24 : decode cX6_path 24 = .ok (.iconst (-1), 1) := by decide +kernel
theorem dX6_path_25 : decode cX6_path 25 = .ok (.ireturn, 1) := by decide +kernel
theorem dX6_page_0 : decode cX6_page 0 = .ok (.iload_n 1, 1) := by decide +kernel
theorem dX6_page_1 : decode cX6_page 1 = .ok (.ifCond .lt 14, 3) := by decide +kernel
theorem dX6_page_4 : decode cX6_page 4 = .ok (.iload_n 1, 1) := by decide +kernel
theorem dX6_page_5 : decode cX6_page 5 = .ok (.aload_n 0, 1) := by decide +kernel
theorem dX6_page_6 : decode cX6_page 6 = .ok (.getfield 26, 3) := by decide +kernel
theorem dX6_page_9 : decode cX6_page 9 = .ok (.getfield 103, 3) := by decide +kernel
theorem dX6_page_12 : decode cX6_page 12 = .ok (.if_icmp .lt 13, 3) := by decide +kernel
theorem dX6_page_15 : decode cX6_page 15 = .ok (.new 138, 3) := by decide +kernel
theorem dX6_page_18 : decode cX6_page 18 = .ok (.dup, 1) := by decide +kernel
theorem dX6_page_19 : decode cX6_page 19 = .ok (.ldc 173, 2) := by decide +kernel
theorem dX6_page_21 : decode cX6_page 21 = .ok (.invokespecial 142, 3) := by decide +kernel
theorem dX6_page_24 : decode cX6_page 24 = .ok (.athrow, 1) := by decide +kernel
theorem dX6_page_25 : decode cX6_page 25 = .ok (.iload_n 2, 1) := by decide +kernel
theorem dX6_page_26 : decode cX6_page 26 = .ok (.tableswitch 56 0 2 #[26, 36, 46], 26) := by decide +kernel
theorem dX6_page_52 : decode cX6_page 52 = .ok (.aload_n 0, 1) := by decide +kernel
theorem dX6_page_53 : decode cX6_page 53 = .ok (.getfield 26, 3) := by decide +kernel
theorem dX6_page_56 : decode cX6_page 56 = .ok (.getfield 175, 3) := by decide +kernel
theorem dX6_page_59 : decode cX6_page 59 = .ok (.iload_n 1, 1) := by decide +kernel
theorem dX6_page_60 : decode cX6_page 60 = .ok (.iaload, 1) := by decide +kernel
theorem dX6_page_61 : decode cX6_page 61 = .ok (.ireturn, 1) := by decide +kernel
theorem dX6_page_62 : decode cX6_page 62 = .ok (.aload_n 0, 1) := by decide +kernel
theorem dX6_page_63 : decode cX6_page 63 = .ok (.getfield 26, 3) := by decide +kernel
theorem dX6_page_66 : decode cX6_page 66 = .ok (.getfield 178, 3) := by decide +kernel
theorem dX6_page_69 : decode cX6_page 69 = .ok (.iload_n 1, 1) := by decide +kernel
theorem dX6_page_70 : decode cX6_page 70 = .ok (.iaload, 1) := by decide +kernel
theorem dX6_page_71 : decode cX6_page 71 = .ok (.ireturn, 1) := by decide +kernel
theorem dX6_page_72 : decode cX6_page 72 = .ok (.aload_n 0, 1) := by decide +kernel
theorem dX6_page_73 : decode cX6_page 73 = .ok (.getfield 26, 3) := by decide +kernel
theorem dX6_page_76 : decode cX6_page 76 = .ok (.getfield 181, 3) := by decide +kernel
theorem dX6_page_79 : decode cX6_page 79 = .ok (.iload_n 1, 1) := by decide +kernel
theorem dX6_page_80 : decode cX6_page 80 = .ok (.iaload, 1) := by decide +kernel
theorem dX6_page_81 : decode cX6_page 81 = .ok (.ireturn, 1) := by decide +kernel
theorem dX6_page_82 : decode cX6_page 82 = .ok (.new 75, 3) := by decide +kernel
theorem dX6_page_85 : decode cX6_page 85 = .ok (.dup, 1) := by decide +kernel
theorem dX6_page_86 : decode cX6_page 86 = .ok (.ldc 128, 2) := by decide +kernel
theorem dX6_page_88 : decode cX6_page 88 = .ok (.invokespecial 79, 3) := by decide +kernel
theorem dX6_page_91 : decode cX6_page 91 = .ok (.athrow, 1) := by decide +kernel
theorem dX6_job_0 : decode cX6_job 0 = .ok (.iload_n 1, 1) := by decide +kernel
theorem dX6_job_1 : decode cX6_job 1 = .ok (.ifCond .lt 14, 3) := by decide +kernel
theorem dX6_job_4 : decode cX6_job 4 = .ok (.iload_n 1, 1) := by decide +kernel
theorem dX6_job_5 : decode cX6_job 5 = .ok (.aload_n 0, 1) := by decide +kernel
theorem dX6_job_6 : decode cX6_job 6 = .ok (.getfield 26, 3) := by decide +kernel
theorem dX6_job_9 : decode cX6_job 9 = .ok (.getfield 106, 3) := by decide +kernel
theorem dX6_job_12 : decode cX6_job 12 = .ok (.if_icmp .lt 13, 3) := by decide +kernel
theorem dX6_job_15 : decode cX6_job 15 = .ok (.new 138, 3) := by decide +kernel
theorem dX6_job_18 : decode cX6_job 18 = .ok (.dup, 1) := by decide +kernel
theorem dX6_job_19 : decode cX6_job 19 = .ok (.ldc 184, 2) := by decide +kernel
theorem dX6_job_21 : decode cX6_job 21 = .ok (.invokespecial 142, 3) := by decide +kernel
theorem dX6_job_24 : decode cX6_job 24 = .ok (.athrow, 1) := by decide +kernel
theorem dX6_job_25 : decode cX6_job 25 = .ok (.iload_n 2, 1) := by decide +kernel
theorem dX6_job_26 : decode cX6_job 26 = .ok (.tableswitch 67 0 3 #[30, 40, 49, 58], 30) := by decide +kernel
theorem dX6_job_56 : decode cX6_job 56 = .ok (.aload_n 0, 1) := by decide +kernel
theorem dX6_job_57 : decode cX6_job 57 = .ok (.getfield 26, 3) := by decide +kernel
theorem dX6_job_60 : decode cX6_job 60 = .ok (.getfield 186, 3) := by decide +kernel
theorem dX6_job_63 : decode cX6_job 63 = .ok (.iload_n 1, 1) := by decide +kernel
theorem dX6_job_64 : decode cX6_job 64 = .ok (.iaload, 1) := by decide +kernel
theorem dX6_job_65 : decode cX6_job 65 = .ok (.ireturn, 1) := by decide +kernel
theorem dX6_job_66 : decode cX6_job 66 = .ok (.aload_n 0, 1) := by decide +kernel
theorem dX6_job_67 : decode cX6_job 67 = .ok (.getfield 26, 3) := by decide +kernel
theorem dX6_job_70 : decode cX6_job 70 = .ok (.iload_n 1, 1) := by decide +kernel
theorem dX6_job_71 : decode cX6_job 71 = .ok (.invokevirtual 189, 3) := by decide +kernel
theorem dX6_job_74 : decode cX6_job 74 = .ok (.ireturn, 1) := by decide +kernel
theorem dX6_job_75 : decode cX6_job 75 = .ok (.aload_n 0, 1) := by decide +kernel
theorem dX6_job_76 : decode cX6_job 76 = .ok (.getfield 26, 3) := by decide +kernel
theorem dX6_job_79 : decode cX6_job 79 = .ok (.iload_n 1, 1) := by decide +kernel
theorem dX6_job_80 : decode cX6_job 80 = .ok (.invokevirtual 192, 3) := by decide +kernel
theorem dX6_job_83 : decode cX6_job 83 = .ok (.ireturn, 1) := by decide +kernel
theorem dX6_job_84 : decode cX6_job 84 = .ok (.aload_n 0, 1) := by decide +kernel
theorem dX6_job_85 : decode cX6_job 85 = .ok (.getfield 26, 3) := by decide +kernel
theorem dX6_job_88 : decode cX6_job 88 = .ok (.iload_n 1, 1) := by decide +kernel
theorem dX6_job_89 : decode cX6_job 89 = .ok (.invokevirtual 195, 3) := by decide +kernel
theorem dX6_job_92 : decode cX6_job 92 = .ok (.ireturn, 1) := by decide +kernel
theorem dX6_job_93 : decode cX6_job 93 = .ok (.new 75, 3) := by decide +kernel
theorem dX6_job_96 : decode cX6_job 96 = .ok (.dup, 1) := by decide +kernel
theorem dX6_job_97 : decode cX6_job 97 = .ok (.ldc 128, 2) := by decide +kernel
theorem dX6_job_99 : decode cX6_job 99 = .ok (.invokespecial 79, 3) := by decide +kernel
theorem dX6_job_102 : decode cX6_job 102 = .ok (.athrow, 1) := by decide +kernel
theorem dX6_next_0 : decode cX6_next 0 = .ok (.iload_n 1, 1) := by decide +kernel
theorem dX6_next_1 : decode cX6_next 1 = .ok (.ifCond .lt 8, 3) := by decide +kernel
theorem dX6_next_4 : decode cX6_next 4 = .ok (.iload_n 1, 1) := by decide +kernel
theorem dX6_next_5 : decode cX6_next 5 = .ok (.iconst 4, 1) := by decide +kernel
theorem dX6_next_6 : decode cX6_next 6 = .ok (.if_icmp .le 13, 3) := by decide +kernel
theorem dX6_next_9 : decode cX6_next 9 = .ok (.new 75, 3) := by decide +kernel
theorem dX6_next_12 : decode cX6_next 12 = .ok (.dup, 1) := by decide +kernel
theorem dX6_next_13 : decode cX6_next 13 = .ok (.ldc 128, 2) := by decide +kernel
theorem dX6_next_15 : decode cX6_next 15 = .ok (.invokespecial 79, 3) := by decide +kernel
theorem dX6_next_18 : decode cX6_next 18 = .ok (.athrow, 1) := by decide +kernel
theorem dX6_next_19 : decode cX6_next 19 = .ok (.aload_n 0, 1) := by decide +kernel
theorem dX6_next_20 : decode cX6_next 20 = .ok (.invokevirtual 93, 3) := by decide +kernel
theorem dX6_next_23 : decode cX6_next 23 = .ok (.ifCond .ne 5, 3) := by decide +kernel
theorem dX6_next_26 : decode cX6_next 26 = .ok (.iconst (-1), 1) := by decide +kernel
theorem dX6_next_27 : decode cX6_next 27 = .ok (.ireturn, 1) := by decide +kernel
theorem dX6_next_28 : decode cX6_next 28 = .ok (.aload_n 0, 1) := by decide +kernel
theorem dX6_next_29 : decode cX6_next 29 = .ok (.getfield 44, 3) := by decide +kernel
theorem dX6_next_32 : decode cX6_next 32 = .ok (.aload_n 0, 1) := by decide +kernel
theorem dX6_next_33 : decode cX6_next 33 = .ok (.getfield 19, 3) := by decide +kernel
theorem dX6_next_36 : decode cX6_next 36 = .ok (.aload_n 0, 1) := by decide +kernel
theorem dX6_next_37 : decode cX6_next 37 = .ok (.getfield 26, 3) := by decide +kernel
theorem dX6_next_40 : decode cX6_next 40 = .ok (.aload_n 0, 1) := by decide +kernel
theorem dX6_next_41 : decode cX6_next 41 = .ok (.getfield 26, 3) := by decide +kernel
theorem dX6_next_44 : decode cX6_next 44 = .ok (.getfield 167, 3) := by decide +kernel
theorem dX6_next_47 : decode cX6_next 47 = .ok (.invokevirtual 201, 3) := by decide +kernel
theorem dX6_next_50 : decode cX6_next 50 = .ok (.iload_n 1, 1) := by decide +kernel
theorem dX6_next_51 : decode cX6_next 51 = .ok (.tableswitch 84 0 3 #[29, 37, 45, 53], 29) := by decide +kernel
theorem dX6_next_80 : decode cX6_next 80 = .ok (.aload_n 0, 1) := by decide +kernel
theorem dX6_next_81 : decode cX6_next 81 = .ok (.getfield 44, 3) := by decide +kernel
theorem dX6_next_84 : decode cX6_next 84 = .ok (.getfield 205, 3) := by decide +kernel
theorem dX6_next_87 : decode cX6_next 87 = .ok (.ireturn, 1) := by decide +kernel
theorem dX6_next_88 : decode cX6_next 88 = .ok (.aload_n 0, 1) := by decide +kernel
theorem dX6_next_89 : decode cX6_next 89 = .ok (.getfield 44, 3) := by decide +kernel
theorem dX6_next_92 : decode cX6_next 92 = .ok (.getfield 206, 3) := by decide +kernel
theorem dX6_next_95 : decode cX6_next 95 = .ok (.ireturn, 1) := by decide +kernel
theorem dX6_next_96 : decode cX6_next 96 = .ok (.aload_n 0, 1) := by decide +kernel
theorem dX6_next_97 : decode cX6_next 97 = .ok (.getfield 44, 3) := by decide +kernel
theorem dX6_next_100 : decode cX6_next 100 = .ok (.getfield 209, 3) := by decide +kernel
theorem dX6_next_103 : decode cX6_next 103 = .ok (.ireturn, 1) := by decide +kernel
theorem dX6_next_104 : decode cX6_next 104 = .ok (.aload_n 0, 1) := by decide +kernel
theorem dX6_next_105 : decode cX6_next 105 = .ok (.aload_n 0, 1) := by decide +kernel
theorem dX6_next_106 : decode cX6_next 106 = .ok (.getfield 26, 3) := by decide +kernel
theorem dX6_next_109 : decode cX6_next 109 = .ok (.getfield 130, 3) := by decide +kernel
theorem dX6_next_112 : decode cX6_next 112 = .ok (.iconst 0, 1) := by decide +kernel
theorem dX6_next_113 : decode cX6_next 113 = .ok (.iaload, 1) := by decide +kernel
theorem dX6_next_114 : decode cX6_next 114 = .ok (.aload_n 0, 1) := by decide +kernel
theorem dX6_next_115 : decode cX6_next 115 = .ok (.getfield 26, 3) := by decide +kernel
theorem dX6_next_118 : decode cX6_next 118 = .ok (.getfield 113, 3) := by decide +kernel
theorem dX6_next_121 : decode cX6_next 121 = .ok (.aload_n 0, 1) := by decide +kernel
theorem dX6_next_122 : decode cX6_next 122 = .ok (.getfield 19, 3) := by decide +kernel
theorem dX6_next_125 : decode cX6_next 125 = .ok (.getfield 62, 3) := by decide +kernel
theorem dX6_next_128 : decode cX6_next 128 = .ok (.invokevirtual 117, 3) := by decide +kernel
theorem dX6_next_131 : decode cX6_next 131 = .ok (.invokevirtual 211, 3) := by decide +kernel
theorem dX6_next_134 : decode cX6_next 134 = .ok (.ireturn, 1) := by decide +kernel
theorem dX6_next_135 : decode cX6_next 135 = .ok (.aload_n 0, 1) := by decide +kernel
theorem dX6_next_136 : decode cX6_next 136 = .ok (.aload_n 0, 1) := by decide +kernel
theorem dX6_next_137 : decode cX6_next 137 = .ok (.getfield 44, 3) := by decide +kernel
theorem dX6_next_140 : decode cX6_next 140 = .ok (.getfield 215, 3) := by decide +kernel
theorem dX6_next_143 : decode cX6_next 143 = .ok (.invokevirtual 218, 3) := by decide +kernel
theorem dX6_next_146 : decode cX6_next 146 = .ok (.ireturn, 1) := by decide +kernel
theorem dX6_sheetsAt_0 : decode cX6_sheetsAt 0 = .ok (.iload_n 1, 1) := by decide +kernel
theorem dX6_sheetsAt_1 : decode cX6_sheetsAt 1 = .ok (.ifCond .lt 9, 3) := by decide +kernel
theorem dX6_sheetsAt_4 : decode cX6_sheetsAt 4 = .ok (.iload_n 1, 1) := by decide +kernel
theorem dX6_sheetsAt_5 : decode cX6_sheetsAt 5 = .ok (.bipush 6, 2) := by decide +kernel
theorem dX6_sheetsAt_7 : decode cX6_sheetsAt 7 = .ok (.if_icmp .le 14, 3) := by decide +kernel
theorem dX6_sheetsAt_10 : decode cX6_sheetsAt 10 = .ok (.new 75, 3) := by decide +kernel
theorem dX6_sheetsAt_13 : decode cX6_sheetsAt 13 = .ok (.dup, 1) := by decide +kernel
theorem dX6_sheetsAt_14 : decode cX6_sheetsAt 14 = .ok (.ldc_w 257, 3) := by decide +kernel
theorem dX6_sheetsAt_17 : decode cX6_sheetsAt 17 = .ok (.invokespecial 79, 3) := by decide +kernel
theorem dX6_sheetsAt_20 : decode cX6_sheetsAt 20 = .ok (.athrow, 1) := by decide +kernel
theorem dX6_sheetsAt_21 : decode cX6_sheetsAt 21 = .ok (.iconst 0, 1) := by decide +kernel
theorem dX6_sheetsAt_22 : decode cX6_sheetsAt 22 = .ok (.istore_n 2, 1) := by decide +kernel
theorem dX6_sheetsAt_23 : decode cX6_sheetsAt 23 = .ok (.iconst 0, 1) := by decide +kernel
theorem dX6_sheetsAt_24 : decode cX6_sheetsAt 24 = .ok (.istore_n 3, 1) := by decide +kernel
theorem dX6_sheetsAt_25 : decode cX6_sheetsAt 25 = .ok (.iload_n 3, 1) := by decide +kernel
theorem dX6_sheetsAt_26 : decode cX6_sheetsAt 26 = .ok (.aload_n 0, 1) := by decide +kernel
theorem dX6_sheetsAt_27 : decode cX6_sheetsAt 27 = .ok (.getfield 19, 3) := by decide +kernel
theorem dX6_sheetsAt_30 : decode cX6_sheetsAt 30 = .ok (.getfield 90, 3) := by decide +kernel
theorem dX6_sheetsAt_33 : decode cX6_sheetsAt 33 = .ok (.if_icmp .ge 25, 3) := by decide +kernel
theorem dX6_sheetsAt_36 : decode cX6_sheetsAt 36 = .ok (.aload_n 0, 1) := by decide +kernel
theorem dX6_sheetsAt_37 : decode cX6_sheetsAt 37 = .ok (.getfield 26, 3) := by decide +kernel
theorem dX6_sheetsAt_40 : decode cX6_sheetsAt 40 = .ok (.getfield 164, 3) := by decide +kernel
theorem dX6_sheetsAt_43 : decode cX6_sheetsAt 43 = .ok (.iload_n 3, 1) := by decide +kernel
theorem dX6_sheetsAt_44 : decode cX6_sheetsAt 44 = .ok (.iaload, 1) := by decide +kernel
theorem dX6_sheetsAt_45 : decode cX6_sheetsAt 45 = .ok (.iload_n 1, 1) := by decide +kernel
theorem dX6_sheetsAt_46 : decode cX6_sheetsAt 46 = .ok (.if_icmp .ne 6, 3) := by decide +kernel
theorem dX6_sheetsAt_49 : decode cX6_sheetsAt 49 = .ok (.iinc 2 1, 3) := by decide +kernel
theorem dX6_sheetsAt_52 : decode cX6_sheetsAt 52 = .ok (.iinc 3 1, 3) := by decide +kernel
theorem dX6_sheetsAt_55 : decode cX6_sheetsAt 55 = .ok (.goto (-30), 3) := by decide +kernel
theorem dX6_sheetsAt_58 : decode cX6_sheetsAt 58 = .ok (.iload_n 2, 1) := by decide +kernel
theorem dX6_sheetsAt_59 : decode cX6_sheetsAt 59 = .ok (.ireturn, 1) := by decide +kernel
theorem dX6_feed_0 : decode cX6_feed 0 = .ok (.iload_n 1, 1) := by decide +kernel
theorem dX6_feed_1 : decode cX6_feed 1 = .ok (.iconst 1, 1) := by decide +kernel
theorem dX6_feed_2 : decode cX6_feed 2 = .ok (.if_icmp .lt 9, 3) := by decide +kernel
theorem dX6_feed_5 : decode cX6_feed 5 = .ok (.iload_n 1, 1) := by decide +kernel
theorem dX6_feed_6 : decode cX6_feed 6 = .ok (.bipush 40, 2) := by decide +kernel
theorem dX6_feed_8 : decode cX6_feed 8 = .ok (.if_icmp .le 14, 3) := by decide +kernel
theorem dX6_feed_11 : decode cX6_feed 11 = .ok (.new 75, 3) := by decide +kernel
theorem dX6_feed_14 : decode cX6_feed 14 = .ok (.dup, 1) := by decide +kernel
theorem dX6_feed_15 : decode cX6_feed 15 = .ok (.ldc_w 262, 3) := by decide +kernel
theorem dX6_feed_18 : decode cX6_feed 18 = .ok (.invokespecial 79, 3) := by decide +kernel
theorem dX6_feed_21 : decode cX6_feed 21 = .ok (.athrow, 1) := by decide +kernel
theorem dX6_feed_22 : decode cX6_feed 22 = .ok (.aload_n 0, 1) := by decide +kernel
theorem dX6_feed_23 : decode cX6_feed 23 = .ok (.invokevirtual 264, 3) := by decide +kernel
theorem dX6_feed_26 : decode cX6_feed 26 = .ok (.ifCond .eq 14, 3) := by decide +kernel
theorem dX6_feed_29 : decode cX6_feed 29 = .ok (.new 268, 3) := by decide +kernel
theorem dX6_feed_32 : decode cX6_feed 32 = .ok (.dup, 1) := by decide +kernel
theorem dX6_feed_33 : decode cX6_feed 33 = .ok (.ldc_w 270, 3) := by decide +kernel
theorem dX6_feed_36 : decode cX6_feed 36 = .ok (.invokespecial 272, 3) := by decide +kernel
theorem dX6_feed_39 : decode cX6_feed 39 = .ok (.athrow, 1) := by decide +kernel
theorem dX6_feed_40 : decode cX6_feed 40 = .ok (.aload_n 0, 1) := by decide +kernel
theorem dX6_feed_41 : decode cX6_feed 41 = .ok (.invokevirtual 273, 3) := by decide +kernel
theorem dX6_feed_44 : decode cX6_feed 44 = .ok (.iconst 0, 1) := by decide +kernel
theorem dX6_feed_45 : decode cX6_feed 45 = .ok (.istore_n 2, 1) := by decide +kernel
theorem dX6_feed_46 : decode cX6_feed 46 = .ok (.iconst 0, 1) := by decide +kernel
theorem dX6_feed_47 : decode cX6_feed 47 = .ok (.istore_n 3, 1) := by decide +kernel
theorem dX6_feed_48 : decode cX6_feed 48 = .ok (.iload_n 3, 1) := by decide +kernel
theorem dX6_feed_49 : decode cX6_feed 49 = .ok (.iload_n 1, 1) := by decide +kernel
theorem dX6_feed_50 : decode cX6_feed 50 = .ok (.if_icmp .ge 33, 3) := by decide +kernel
theorem dX6_feed_53 : decode cX6_feed 53 = .ok (.aload_n 0, 1) := by decide +kernel
theorem dX6_feed_54 : decode cX6_feed 54 = .ok (.invokevirtual 264, 3) := by decide +kernel
theorem dX6_feed_57 : decode cX6_feed 57 = .ok (.ifCond .ne 26, 3) := by decide +kernel
theorem dX6_feed_60 : decode cX6_feed 60 = .ok (.aload_n 0, 1) := by decide +kernel
theorem dX6_feed_61 : decode cX6_feed 61 = .ok (.invokevirtual 93, 3) := by decide +kernel
theorem dX6_feed_64 : decode cX6_feed 64 = .ok (.ifCond .le 19, 3) := by decide +kernel
theorem dX6_feed_67 : decode cX6_feed 67 = .ok (.aload_n 0, 1) := by decide +kernel
theorem dX6_feed_68 : decode cX6_feed 68 = .ok (.invokevirtual 276, 3) := by decide +kernel
theorem dX6_feed_71 : decode cX6_feed 71 = .ok (.ifCond .eq 6, 3) := by decide +kernel
theorem dX6_feed_74 : decode cX6_feed 74 = .ok (.iinc 2 1, 3) := by decide +kernel
theorem dX6_feed_77 : decode cX6_feed 77 = .ok (.iinc 3 1, 3) := by decide +kernel
theorem dX6_feed_80 : decode cX6_feed 80 = .ok (.goto (-32), 3) := by decide +kernel
theorem dX6_feed_83 : decode cX6_feed 83 = .ok (.iload_n 2, 1) := by decide +kernel
theorem dX6_feed_84 : decode cX6_feed 84 = .ok (.ireturn, 1) := by decide +kernel
theorem dX6_putBack_0 : decode cX6_putBack 0 = .ok (.aload_n 0, 1) := by decide +kernel
theorem dX6_putBack_1 : decode cX6_putBack 1 = .ok (.invokevirtual 264, 3) := by decide +kernel
theorem dX6_putBack_4 : decode cX6_putBack 4 = .ok (.ifCond .ne 14, 3) := by decide +kernel
theorem dX6_putBack_7 : decode cX6_putBack 7 = .ok (.new 268, 3) := by decide +kernel
theorem dX6_putBack_10 : decode cX6_putBack 10 = .ok (.dup, 1) := by decide +kernel
theorem dX6_putBack_11 : decode cX6_putBack 11 = .ok (.ldc_w 279, 3) := by decide +kernel
theorem dX6_putBack_14 : decode cX6_putBack 14 = .ok (.invokespecial 272, 3) := by decide +kernel
theorem dX6_putBack_17 : decode cX6_putBack 17 = .ok (.athrow, 1) := by decide +kernel
theorem dX6_putBack_18 : decode cX6_putBack 18 = .ok (.aload_n 0, 1) := by decide +kernel
theorem dX6_putBack_19 : decode cX6_putBack 19 = .ok (.invokevirtual 273, 3) := by decide +kernel
theorem dX6_putBack_22 : decode cX6_putBack 22 = .ok (.aload_n 0, 1) := by decide +kernel
theorem dX6_putBack_23 : decode cX6_putBack 23 = .ok (.invokevirtual 170, 3) := by decide +kernel
theorem dX6_putBack_26 : decode cX6_putBack 26 = .ok (.istore_n 1, 1) := by decide +kernel
theorem dX6_putBack_27 : decode cX6_putBack 27 = .ok (.iload_n 1, 1) := by decide +kernel
theorem dX6_putBack_28 : decode cX6_putBack 28 = .ok (.istore_n 2, 1) := by decide +kernel
theorem dX6_putBack_29 : decode cX6_putBack 29 = .ok (.aload_n 0, 1) := by decide +kernel
theorem dX6_putBack_30 : decode cX6_putBack 30 = .ok (.iload_n 2, 1) := by decide +kernel
theorem dX6_putBack_31 : decode cX6_putBack 31 = .ok (.invokevirtual 134, 3) := by decide +kernel
theorem dX6_putBack_34 : decode cX6_putBack 34 = .ok (.ifCond .eq 40, 3) := by decide +kernel
theorem dX6_putBack_37 : decode cX6_putBack 37 = .ok (.iload_n 2, 1) := by decide +kernel
theorem dX6_putBack_38 : decode cX6_putBack 38 = .ok (.aload_n 0, 1) := by decide +kernel
theorem dX6_putBack_39 : decode cX6_putBack 39 = .ok (.getfield 26, 3) := by decide +kernel
theorem dX6_putBack_42 : decode cX6_putBack 42 = .ok (.getfield 167, 3) := by decide +kernel
theorem dX6_putBack_45 : decode cX6_putBack 45 = .ok (.if_icmp .ge 29, 3) := by decide +kernel
theorem dX6_putBack_48 : decode cX6_putBack 48 = .ok (.aload_n 0, 1) := by decide +kernel
theorem dX6_putBack_49 : decode cX6_putBack 49 = .ok (.getfield 26, 3) := by decide +kernel
theorem dX6_putBack_52 : decode cX6_putBack 52 = .ok (.getfield 164, 3) := by decide +kernel
theorem dX6_putBack_55 : decode cX6_putBack 55 = .ok (.iload_n 2, 1) := by decide +kernel
theorem dX6_putBack_56 : decode cX6_putBack 56 = .ok (.iconst 0, 1) := by decide +kernel
theorem dX6_putBack_57 : decode cX6_putBack 57 = .ok (.iastore, 1) := by decide +kernel
theorem dX6_putBack_58 : decode cX6_putBack 58 = .ok (.aload_n 0, 1) := by decide +kernel
theorem dX6_putBack_59 : decode cX6_putBack 59 = .ok (.getfield 26, 3) := by decide +kernel
theorem dX6_putBack_62 : decode cX6_putBack 62 = .ok (.getfield 161, 3) := by decide +kernel
theorem dX6_putBack_65 : decode cX6_putBack 65 = .ok (.iload_n 2, 1) := by decide +kernel
theorem dX6_putBack_66 : decode cX6_putBack 66 = .ok (.iconst (-1), 1) := by decide +kernel
theorem dX6_putBack_67 : decode cX6_putBack 67 = .ok (.iastore, 1) := by decide +kernel
theorem dX6_putBack_68 : decode cX6_putBack 68 = .ok (.iinc 2 1, 3) := by decide +kernel
theorem dX6_putBack_71 : decode cX6_putBack 71 = .ok (.goto (-42), 3) := by decide +kernel
theorem dX6_putBack_74 : decode cX6_putBack 74 = .ok (.aload_n 0, 1) := by decide +kernel
theorem dX6_putBack_75 : decode cX6_putBack 75 = .ok (.iload_n 1, 1) := by decide +kernel
theorem dX6_putBack_76 : decode cX6_putBack 76 = .ok (.invokevirtual 134, 3) := by decide +kernel
theorem dX6_putBack_79 : decode cX6_putBack 79 = .ok (.ifCond .eq 16, 3) := by decide +kernel
theorem dX6_putBack_82 : decode cX6_putBack 82 = .ok (.aload_n 0, 1) := by decide +kernel
theorem dX6_putBack_83 : decode cX6_putBack 83 = .ok (.getfield 26, 3) := by decide +kernel
theorem dX6_putBack_86 : decode cX6_putBack 86 = .ok (.getfield 149, 3) := by decide +kernel
theorem dX6_putBack_89 : decode cX6_putBack 89 = .ok (.iload_n 1, 1) := by decide +kernel
theorem dX6_putBack_90 : decode cX6_putBack 90 = .ok (.dup2, 1) := by decide +kernel
theorem dX6_putBack_91 : decode cX6_putBack 91 = .ok (.iaload, 1) := by decide +kernel
theorem dX6_putBack_92 : decode cX6_putBack 92 = .ok (.iconst 2, 1) := by decide +kernel
theorem dX6_putBack_93 : decode cX6_putBack 93 = .ok (.idiv, 1) := by decide +kernel
theorem dX6_putBack_94 : decode cX6_putBack 94 = .ok (.iastore, 1) := by decide +kernel
theorem dX6_putBack_95 : decode cX6_putBack 95 = .ok (.aload_n 0, 1) := by decide +kernel
theorem dX6_putBack_96 : decode cX6_putBack 96 = .ok (.getfield 26, 3) := by decide +kernel
theorem dX6_putBack_99 : decode cX6_putBack 99 = .ok (.bipush 7, 2) := by decide +kernel
theorem dX6_putBack_101 : decode cX6_putBack 101 = .ok (.aload_n 0, 1) := by decide +kernel
theorem dX6_putBack_102 : decode cX6_putBack 102 = .ok (.getfield 26, 3) := by decide +kernel
theorem dX6_putBack_105 : decode cX6_putBack 105 = .ok (.getfield 97, 3) := by decide +kernel
theorem dX6_putBack_108 : decode cX6_putBack 108 = .ok (.invokevirtual 281, 3) := by decide +kernel
theorem dX6_putBack_111 : decode cX6_putBack 111 = .ok (.aload_n 0, 1) := by decide +kernel
theorem dX6_putBack_112 : decode cX6_putBack 112 = .ok (.getfield 26, 3) := by decide +kernel
theorem dX6_putBack_115 : decode cX6_putBack 115 = .ok (.iload_n 1, 1) := by decide +kernel
theorem dX6_putBack_116 : decode cX6_putBack 116 = .ok (.putfield 167, 3) := by decide +kernel
theorem dX6_putBack_119 : decode cX6_putBack 119 = .ok (.aload_n 0, 1) := by decide +kernel
theorem dX6_putBack_120 : decode cX6_putBack 120 = .ok (.invokevirtual 285, 3) := by decide +kernel
theorem dX6_putBack_123 : decode cX6_putBack 123 = .ok (.aload_n 0, 1) := by decide +kernel
theorem dX6_putBack_124 : decode cX6_putBack 124 = .ok (.invokevirtual 93, 3) := by decide +kernel
theorem dX6_putBack_127 : decode cX6_putBack 127 = .ok (.ireturn, 1) := by decide +kernel
theorem dX6_remove_0 : decode cX6_remove 0 = .ok (.aload_n 0, 1) := by decide +kernel
theorem dX6_remove_1 : decode cX6_remove 1 = .ok (.invokevirtual 264, 3) := by decide +kernel
theorem dX6_remove_4 : decode cX6_remove 4 = .ok (.ifCond .ne 14, 3) := by decide +kernel
theorem dX6_remove_7 : decode cX6_remove 7 = .ok (.new 268, 3) := by decide +kernel
theorem dX6_remove_10 : decode cX6_remove 10 = .ok (.dup, 1) := by decide +kernel
theorem dX6_remove_11 : decode cX6_remove 11 = .ok (.ldc_w 279, 3) := by decide +kernel
theorem dX6_remove_14 : decode cX6_remove 14 = .ok (.invokespecial 272, 3) := by decide +kernel
theorem dX6_remove_17 : decode cX6_remove 17 = .ok (.athrow, 1) := by decide +kernel
theorem dX6_remove_18 : decode cX6_remove 18 = .ok (.aload_n 0, 1) := by decide +kernel
theorem dX6_remove_19 : decode cX6_remove 19 = .ok (.invokevirtual 273, 3) := by decide +kernel
theorem dX6_remove_22 : decode cX6_remove 22 = .ok (.aload_n 0, 1) := by decide +kernel
theorem dX6_remove_23 : decode cX6_remove 23 = .ok (.invokevirtual 170, 3) := by decide +kernel
theorem dX6_remove_26 : decode cX6_remove 26 = .ok (.istore_n 1, 1) := by decide +kernel
theorem dX6_remove_27 : decode cX6_remove 27 = .ok (.aload_n 0, 1) := by decide +kernel
theorem dX6_remove_28 : decode cX6_remove 28 = .ok (.iload_n 1, 1) := by decide +kernel
theorem dX6_remove_29 : decode cX6_remove 29 = .ok (.invokevirtual 134, 3) := by decide +kernel
theorem dX6_remove_32 : decode cX6_remove 32 = .ok (.ifCond .eq 59, 3) := by decide +kernel
theorem dX6_remove_35 : decode cX6_remove 35 = .ok (.iload_n 1, 1) := by decide +kernel
theorem dX6_remove_36 : decode cX6_remove 36 = .ok (.aload_n 0, 1) := by decide +kernel
theorem dX6_remove_37 : decode cX6_remove 37 = .ok (.getfield 26, 3) := by decide +kernel
theorem dX6_remove_40 : decode cX6_remove 40 = .ok (.getfield 167, 3) := by decide +kernel
theorem dX6_remove_43 : decode cX6_remove 43 = .ok (.if_icmp .ge 48, 3) := by decide +kernel
theorem dX6_remove_46 : decode cX6_remove 46 = .ok (.aload_n 0, 1) := by decide +kernel
theorem dX6_remove_47 : decode cX6_remove 47 = .ok (.getfield 26, 3) := by decide +kernel
theorem dX6_remove_50 : decode cX6_remove 50 = .ok (.getfield 164, 3) := by decide +kernel
theorem dX6_remove_53 : decode cX6_remove 53 = .ok (.iload_n 1, 1) := by decide +kernel
theorem dX6_remove_54 : decode cX6_remove 54 = .ok (.bipush 6, 2) := by decide +kernel
theorem dX6_remove_56 : decode cX6_remove 56 = .ok (.iastore, 1) := by decide +kernel
theorem dX6_remove_57 : decode cX6_remove 57 = .ok (.aload_n 0, 1) := by decide +kernel
theorem dX6_remove_58 : decode cX6_remove 58 = .ok (.getfield 26, 3) := by decide +kernel
theorem dX6_remove_61 : decode cX6_remove 61 = .ok (.bipush 6, 2) := by decide +kernel
theorem dX6_remove_63 : decode cX6_remove 63 = .ok (.aload_n 0, 1) := by decide +kernel
theorem dX6_remove_64 : decode cX6_remove 64 = .ok (.getfield 26, 3) := by decide +kernel
theorem dX6_remove_67 : decode cX6_remove 67 = .ok (.getfield 198, 3) := by decide +kernel
theorem dX6_remove_70 : decode cX6_remove 70 = .ok (.iload_n 1, 1) := by decide +kernel
theorem dX6_remove_71 : decode cX6_remove 71 = .ok (.iaload, 1) := by decide +kernel
theorem dX6_remove_72 : decode cX6_remove 72 = .ok (.invokevirtual 281, 3) := by decide +kernel
theorem dX6_remove_75 : decode cX6_remove 75 = .ok (.aload_n 0, 1) := by decide +kernel
theorem dX6_remove_76 : decode cX6_remove 76 = .ok (.getfield 26, 3) := by decide +kernel
theorem dX6_remove_79 : decode cX6_remove 79 = .ok (.getfield 198, 3) := by decide +kernel
theorem dX6_remove_82 : decode cX6_remove 82 = .ok (.iload_n 1, 1) := by decide +kernel
theorem dX6_remove_83 : decode cX6_remove 83 = .ok (.iconst 0, 1) := by decide +kernel
theorem dX6_remove_84 : decode cX6_remove 84 = .ok (.iastore, 1) := by decide +kernel
theorem dX6_remove_85 : decode cX6_remove 85 = .ok (.iinc 1 1, 3) := by decide +kernel
theorem dX6_remove_88 : decode cX6_remove 88 = .ok (.goto (-61), 3) := by decide +kernel
theorem dX6_remove_91 : decode cX6_remove 91 = .ok (.aload_n 0, 1) := by decide +kernel
theorem dX6_remove_92 : decode cX6_remove 92 = .ok (.getfield 26, 3) := by decide +kernel
theorem dX6_remove_95 : decode cX6_remove 95 = .ok (.getfield 97, 3) := by decide +kernel
theorem dX6_remove_98 : decode cX6_remove 98 = .ok (.istore_n 1, 1) := by decide +kernel
theorem dX6_remove_99 : decode cX6_remove 99 = .ok (.aload_n 0, 1) := by decide +kernel
theorem dX6_remove_100 : decode cX6_remove 100 = .ok (.invokevirtual 285, 3) := by decide +kernel
theorem dX6_remove_103 : decode cX6_remove 103 = .ok (.iload_n 1, 1) := by decide +kernel
theorem dX6_remove_104 : decode cX6_remove 104 = .ok (.ireturn, 1) := by decide +kernel
theorem dX6_accept_0 : decode cX6_accept 0 = .ok (.aload_n 0, 1) := by decide +kernel
theorem dX6_accept_1 : decode cX6_accept 1 = .ok (.invokevirtual 264, 3) := by decide +kernel
theorem dX6_accept_4 : decode cX6_accept 4 = .ok (.ifCond .eq 14, 3) := by decide +kernel
theorem dX6_accept_7 : decode cX6_accept 7 = .ok (.aload_n 0, 1) := by decide +kernel
theorem dX6_accept_8 : decode cX6_accept 8 = .ok (.getfield 26, 3) := by decide +kernel
theorem dX6_accept_11 : decode cX6_accept 11 = .ok (.getfield 100, 3) := by decide +kernel
theorem dX6_accept_14 : decode cX6_accept 14 = .ok (.iconst 3, 1) := by decide +kernel
theorem dX6_accept_15 : decode cX6_accept 15 = .ok (.if_icmp .ne 14, 3) := by decide +kernel
theorem dX6_accept_18 : decode cX6_accept 18 = .ok (.new 268, 3) := by decide +kernel
theorem dX6_accept_21 : decode cX6_accept 21 = .ok (.dup, 1) := by decide +kernel
theorem dX6_accept_22 : decode cX6_accept 22 = .ok (.ldc_w 288, 3) := by decide +kernel
theorem dX6_accept_25 : decode cX6_accept 25 = .ok (.invokespecial 272, 3) := by decide +kernel
theorem dX6_accept_28 : decode cX6_accept 28 = .ok (.athrow, 1) := by decide +kernel
theorem dX6_accept_29 : decode cX6_accept 29 = .ok (.aload_n 0, 1) := by decide +kernel
theorem dX6_accept_30 : decode cX6_accept 30 = .ok (.invokevirtual 273, 3) := by decide +kernel
theorem dX6_accept_33 : decode cX6_accept 33 = .ok (.aload_n 0, 1) := by decide +kernel
theorem dX6_accept_34 : decode cX6_accept 34 = .ok (.getfield 26, 3) := by decide +kernel
theorem dX6_accept_37 : decode cX6_accept 37 = .ok (.bipush 8, 2) := by decide +kernel
theorem dX6_accept_39 : decode cX6_accept 39 = .ok (.iconst 1, 1) := by decide +kernel
theorem dX6_accept_40 : decode cX6_accept 40 = .ok (.invokevirtual 281, 3) := by decide +kernel
theorem dX6_accept_43 : decode cX6_accept 43 = .ok (.aload_n 0, 1) := by decide +kernel
theorem dX6_accept_44 : decode cX6_accept 44 = .ok (.aload_n 0, 1) := by decide +kernel
theorem dX6_accept_45 : decode cX6_accept 45 = .ok (.invokevirtual 170, 3) := by decide +kernel
theorem dX6_accept_48 : decode cX6_accept 48 = .ok (.aload_n 0, 1) := by decide +kernel
theorem dX6_accept_49 : decode cX6_accept 49 = .ok (.getfield 26, 3) := by decide +kernel
theorem dX6_accept_52 : decode cX6_accept 52 = .ok (.getfield 97, 3) := by decide +kernel
theorem dX6_accept_55 : decode cX6_accept 55 = .ok (.invokevirtual 290, 3) := by decide +kernel
theorem dX6_accept_58 : decode cX6_accept 58 = .ok (.istore_n 1, 1) := by decide +kernel
theorem dX6_accept_59 : decode cX6_accept 59 = .ok (.aload_n 0, 1) := by decide +kernel
theorem dX6_accept_60 : decode cX6_accept 60 = .ok (.invokevirtual 285, 3) := by decide +kernel
theorem dX6_accept_63 : decode cX6_accept 63 = .ok (.iload_n 1, 1) := by decide +kernel
theorem dX6_accept_64 : decode cX6_accept 64 = .ok (.ireturn, 1) := by decide +kernel
theorem dX6_setDuplex_0 : decode cX6_setDuplex 0 = .ok (.aload_n 0, 1) := by decide +kernel
theorem dX6_setDuplex_1 : decode cX6_setDuplex 1 = .ok (.invokevirtual 273, 3) := by decide +kernel
theorem dX6_setDuplex_4 : decode cX6_setDuplex 4 = .ok (.aload_n 0, 1) := by decide +kernel
theorem dX6_setDuplex_5 : decode cX6_setDuplex 5 = .ok (.getfield 26, 3) := by decide +kernel
theorem dX6_setDuplex_8 : decode cX6_setDuplex 8 = .ok (.getfield 109, 3) := by decide +kernel
theorem dX6_setDuplex_11 : decode cX6_setDuplex 11 = .ok (.istore_n 2, 1) := by decide +kernel
theorem dX6_setDuplex_12 : decode cX6_setDuplex 12 = .ok (.aload_n 0, 1) := by decide +kernel
theorem dX6_setDuplex_13 : decode cX6_setDuplex 13 = .ok (.getfield 26, 3) := by decide +kernel
theorem dX6_setDuplex_16 : decode cX6_setDuplex 16 = .ok (.iload_n 1, 1) := by decide +kernel
theorem dX6_setDuplex_17 : decode cX6_setDuplex 17 = .ok (.putfield 109, 3) := by decide +kernel
theorem dX6_setDuplex_20 : decode cX6_setDuplex 20 = .ok (.iload_n 2, 1) := by decide +kernel
theorem dX6_setDuplex_21 : decode cX6_setDuplex 21 = .ok (.ireturn, 1) := by decide +kernel
theorem dX6_undo_0 : decode cX6_undo 0 = .ok (.aload_n 0, 1) := by decide +kernel
theorem dX6_undo_1 : decode cX6_undo 1 = .ok (.getfield 125, 3) := by decide +kernel
theorem dX6_undo_4 : decode cX6_undo 4 = .ok (.ifCond .gt 5, 3) := by decide +kernel
theorem dX6_undo_7 : decode cX6_undo 7 = .ok (.iconst (-1), 1) := by decide +kernel
theorem dX6_undo_8 : decode cX6_undo 8 = .ok (.ireturn, 1) := by decide +kernel
theorem dX6_undo_9 : decode cX6_undo 9 = .ok (.aload_n 0, 1) := by decide +kernel
theorem dX6_undo_10 : decode cX6_undo 10 = .ok (.dup, 1) := by decide +kernel
theorem dX6_undo_11 : decode cX6_undo 11 = .ok (.getfield 302, 3) := by decide +kernel
theorem dX6_undo_14 : decode cX6_undo 14 = .ok (.iconst 1, 1) := by decide +kernel
theorem dX6_undo_15 : decode cX6_undo 15 = .ok (.isub, 1) := by decide +kernel
theorem dX6_undo_16 : decode cX6_undo 16 = .ok (.putfield 302, 3) := by decide +kernel
theorem dX6_undo_19 : decode cX6_undo 19 = .ok (.aload_n 0, 1) := by decide +kernel
theorem dX6_undo_20 : decode cX6_undo 20 = .ok (.dup, 1) := by decide +kernel
theorem dX6_undo_21 : decode cX6_undo 21 = .ok (.getfield 125, 3) := by decide +kernel
theorem dX6_undo_24 : decode cX6_undo 24 = .ok (.iconst 1, 1) := by decide +kernel
theorem dX6_undo_25 : decode cX6_undo 25 = .ok (.isub, 1) := by decide +kernel
theorem dX6_undo_26 : decode cX6_undo 26 = .ok (.putfield 125, 3) := by decide +kernel
theorem dX6_undo_29 : decode cX6_undo 29 = .ok (.aload_n 0, 1) := by decide +kernel
theorem dX6_undo_30 : decode cX6_undo 30 = .ok (.getfield 26, 3) := by decide +kernel
theorem dX6_undo_33 : decode cX6_undo 33 = .ok (.aload_n 0, 1) := by decide +kernel
theorem dX6_undo_34 : decode cX6_undo 34 = .ok (.getfield 30, 3) := by decide +kernel
theorem dX6_undo_37 : decode cX6_undo 37 = .ok (.aload_n 0, 1) := by decide +kernel
theorem dX6_undo_38 : decode cX6_undo 38 = .ok (.getfield 302, 3) := by decide +kernel
theorem dX6_undo_41 : decode cX6_undo 41 = .ok (.bipush 10, 2) := by decide +kernel
theorem dX6_undo_43 : decode cX6_undo 43 = .ok (.invokestatic 305, 3) := by decide +kernel
theorem dX6_undo_46 : decode cX6_undo 46 = .ok (.aaload, 1) := by decide +kernel
theorem dX6_undo_47 : decode cX6_undo 47 = .ok (.invokevirtual 310, 3) := by decide +kernel
theorem dX6_undo_50 : decode cX6_undo 50 = .ok (.aload_n 0, 1) := by decide +kernel
theorem dX6_undo_51 : decode cX6_undo 51 = .ok (.getfield 125, 3) := by decide +kernel
theorem dX6_undo_54 : decode cX6_undo 54 = .ok (.ireturn, 1) := by decide +kernel
theorem dX6_saveSnapshot_0 : decode cX6_saveSnapshot 0 = .ok (.iload_n 1, 1) := by decide +kernel
theorem dX6_saveSnapshot_1 : decode cX6_saveSnapshot 1 = .ok (.ifCond .lt 8, 3) := by decide +kernel
theorem dX6_saveSnapshot_4 : decode cX6_saveSnapshot 4 = .ok (.iload_n 1, 1) := by decide +kernel
theorem dX6_saveSnapshot_5 : decode cX6_saveSnapshot 5 = .ok (.iconst 2, 1) := by decide +kernel
theorem dX6_saveSnapshot_6 : decode cX6_saveSnapshot 6 = .ok (.if_icmp .lt 5, 3) := by decide +kernel
theorem dX6_saveSnapshot_9 : decode cX6_saveSnapshot 9 = .ok (.iconst 0, 1) := by decide +kernel
theorem dX6_saveSnapshot_10 : decode cX6_saveSnapshot 10 = .ok (.ireturn, 1) := by decide +kernel
theorem dX6_saveSnapshot_11 : decode cX6_saveSnapshot 11 = .ok (.aload_n 0, 1) := by decide +kernel
theorem dX6_saveSnapshot_12 : decode cX6_saveSnapshot 12 = .ok (.getfield 34, 3) := by decide +kernel
theorem dX6_saveSnapshot_15 : decode cX6_saveSnapshot 15 = .ok (.iload_n 1, 1) := by decide +kernel
theorem dX6_saveSnapshot_16 : decode cX6_saveSnapshot 16 = .ok (.aaload, 1) := by decide +kernel
theorem dX6_saveSnapshot_17 : decode cX6_saveSnapshot 17 = .ok (.aload_n 0, 1) := by decide +kernel
theorem dX6_saveSnapshot_18 : decode cX6_saveSnapshot 18 = .ok (.getfield 26, 3) := by decide +kernel
theorem dX6_saveSnapshot_21 : decode cX6_saveSnapshot 21 = .ok (.invokevirtual 310, 3) := by decide +kernel
theorem dX6_saveSnapshot_24 : decode cX6_saveSnapshot 24 = .ok (.aload_n 0, 1) := by decide +kernel
theorem dX6_saveSnapshot_25 : decode cX6_saveSnapshot 25 = .ok (.getfield 37, 3) := by decide +kernel
theorem dX6_saveSnapshot_28 : decode cX6_saveSnapshot 28 = .ok (.iload_n 1, 1) := by decide +kernel
theorem dX6_saveSnapshot_29 : decode cX6_saveSnapshot 29 = .ok (.iconst 1, 1) := by decide +kernel
theorem dX6_saveSnapshot_30 : decode cX6_saveSnapshot 30 = .ok (.bastore, 1) := by decide +kernel
theorem dX6_saveSnapshot_31 : decode cX6_saveSnapshot 31 = .ok (.iconst 1, 1) := by decide +kernel
theorem dX6_saveSnapshot_32 : decode cX6_saveSnapshot 32 = .ok (.ireturn, 1) := by decide +kernel
theorem dX6_restoreSnapshot_0 : decode cX6_restoreSnapshot 0 = .ok (.iload_n 1, 1) := by decide +kernel
theorem dX6_restoreSnapshot_1 : decode cX6_restoreSnapshot 1 = .ok (.ifCond .lt 17, 3) := by decide +kernel
theorem dX6_restoreSnapshot_4 : decode cX6_restoreSnapshot 4 = .ok (.iload_n 1, 1) := by decide +kernel
theorem dX6_restoreSnapshot_5 : decode cX6_restoreSnapshot 5 = .ok (.iconst 2, 1) := by decide +kernel
theorem dX6_restoreSnapshot_6 : decode cX6_restoreSnapshot 6 = .ok (.if_icmp .ge 12, 3) := by decide +kernel
theorem dX6_restoreSnapshot_9 : decode cX6_restoreSnapshot 9 = .ok (.aload_n 0, 1) := by decide +kernel
theorem dX6_restoreSnapshot_10 : decode cX6_restoreSnapshot 10 = .ok (.getfield 37, 3) := by decide +kernel
theorem dX6_restoreSnapshot_13 : decode cX6_restoreSnapshot 13 = .ok (.iload_n 1, 1) := by decide +kernel
theorem dX6_restoreSnapshot_14 : decode cX6_restoreSnapshot 14 = .ok (.baload, 1) := by decide +kernel
theorem dX6_restoreSnapshot_15 : decode cX6_restoreSnapshot 15 = .ok (.ifCond .ne 5, 3) := by decide +kernel
theorem dX6_restoreSnapshot_18 : decode cX6_restoreSnapshot 18 = .ok (.iconst 0, 1) := by decide +kernel
theorem dX6_restoreSnapshot_19 : decode cX6_restoreSnapshot 19 = .ok (.ireturn, 1) := by decide +kernel
theorem dX6_restoreSnapshot_20 : decode cX6_restoreSnapshot 20 = .ok (.aload_n 0, 1) := by decide +kernel
theorem dX6_restoreSnapshot_21 : decode cX6_restoreSnapshot 21 = .ok (.getfield 26, 3) := by decide +kernel
theorem dX6_restoreSnapshot_24 : decode cX6_restoreSnapshot 24 = .ok (.aload_n 0, 1) := by decide +kernel
theorem dX6_restoreSnapshot_25 : decode cX6_restoreSnapshot 25 = .ok (.getfield 34, 3) := by decide +kernel
theorem dX6_restoreSnapshot_28 : decode cX6_restoreSnapshot 28 = .ok (.iload_n 1, 1) := by decide +kernel
theorem dX6_restoreSnapshot_29 : decode cX6_restoreSnapshot 29 = .ok (.aaload, 1) := by decide +kernel
theorem dX6_restoreSnapshot_30 : decode cX6_restoreSnapshot 30 = .ok (.invokevirtual 310, 3) := by decide +kernel
theorem dX6_restoreSnapshot_33 : decode cX6_restoreSnapshot 33 = .ok (.aload_n 0, 1) := by decide +kernel
theorem dX6_restoreSnapshot_34 : decode cX6_restoreSnapshot 34 = .ok (.iconst 0, 1) := by decide +kernel
theorem dX6_restoreSnapshot_35 : decode cX6_restoreSnapshot 35 = .ok (.putfield 125, 3) := by decide +kernel
theorem dX6_restoreSnapshot_38 : decode cX6_restoreSnapshot 38 = .ok (.iconst 1, 1) := by decide +kernel
theorem dX6_restoreSnapshot_39 : decode cX6_restoreSnapshot 39 = .ok (.ireturn, 1) := by decide +kernel
theorem dX6_beginAnew_0 : decode cX6_beginAnew 0 = .ok (.aload_n 0, 1) := by decide +kernel
theorem dX6_beginAnew_1 : decode cX6_beginAnew 1 = .ok (.getfield 26, 3) := by decide +kernel
theorem dX6_beginAnew_4 : decode cX6_beginAnew 4 = .ok (.aload_n 0, 1) := by decide +kernel
theorem dX6_beginAnew_5 : decode cX6_beginAnew 5 = .ok (.getfield 19, 3) := by decide +kernel
theorem dX6_beginAnew_8 : decode cX6_beginAnew 8 = .ok (.invokevirtual 314, 3) := by decide +kernel
theorem dX6_beginAnew_11 : decode cX6_beginAnew 11 = .ok (.aload_n 0, 1) := by decide +kernel
theorem dX6_beginAnew_12 : decode cX6_beginAnew 12 = .ok (.iconst 0, 1) := by decide +kernel
theorem dX6_beginAnew_13 : decode cX6_beginAnew 13 = .ok (.putfield 125, 3) := by decide +kernel
theorem dX6_beginAnew_16 : decode cX6_beginAnew 16 = .ok (.iconst 0, 1) := by decide +kernel
theorem dX6_beginAnew_17 : decode cX6_beginAnew 17 = .ok (.istore_n 1, 1) := by decide +kernel
theorem dX6_beginAnew_18 : decode cX6_beginAnew 18 = .ok (.iload_n 1, 1) := by decide +kernel
theorem dX6_beginAnew_19 : decode cX6_beginAnew 19 = .ok (.iconst 2, 1) := by decide +kernel
theorem dX6_beginAnew_20 : decode cX6_beginAnew 20 = .ok (.if_icmp .ge 16, 3) := by decide +kernel
theorem dX6_beginAnew_23 : decode cX6_beginAnew 23 = .ok (.aload_n 0, 1) := by decide +kernel
theorem dX6_beginAnew_24 : decode cX6_beginAnew 24 = .ok (.getfield 37, 3) := by decide +kernel
theorem dX6_beginAnew_27 : decode cX6_beginAnew 27 = .ok (.iload_n 1, 1) := by decide +kernel
theorem dX6_beginAnew_28 : decode cX6_beginAnew 28 = .ok (.iconst 0, 1) := by decide +kernel
theorem dX6_beginAnew_29 : decode cX6_beginAnew 29 = .ok (.bastore, 1) := by decide +kernel
theorem dX6_beginAnew_30 : decode cX6_beginAnew 30 = .ok (.iinc 1 1, 3) := by decide +kernel
theorem dX6_beginAnew_33 : decode cX6_beginAnew 33 = .ok (.goto (-15), 3) := by decide +kernel
theorem dX6_beginAnew_36 : decode cX6_beginAnew 36 = .ok (.return_, 1) := by decide +kernel
theorem dX6_remember_0 : decode cX6_remember 0 = .ok (.aload_n 0, 1) := by decide +kernel
theorem dX6_remember_1 : decode cX6_remember 1 = .ok (.getfield 30, 3) := by decide +kernel
theorem dX6_remember_4 : decode cX6_remember 4 = .ok (.aload_n 0, 1) := by decide +kernel
theorem dX6_remember_5 : decode cX6_remember 5 = .ok (.getfield 302, 3) := by decide +kernel
theorem dX6_remember_8 : decode cX6_remember 8 = .ok (.bipush 10, 2) := by decide +kernel
theorem dX6_remember_10 : decode cX6_remember 10 = .ok (.invokestatic 305, 3) := by decide +kernel
theorem dX6_remember_13 : decode cX6_remember 13 = .ok (.aaload, 1) := by decide +kernel
theorem dX6_remember_14 : decode cX6_remember 14 = .ok (.aload_n 0, 1) := by decide +kernel
theorem dX6_remember_15 : decode cX6_remember 15 = .ok (.getfield 26, 3) := by decide +kernel
theorem dX6_remember_18 : decode cX6_remember 18 = .ok (.invokevirtual 310, 3) := by decide +kernel
theorem dX6_remember_21 : decode cX6_remember 21 = .ok (.aload_n 0, 1) := by decide +kernel
theorem dX6_remember_22 : decode cX6_remember 22 = .ok (.dup, 1) := by decide +kernel
theorem dX6_remember_23 : decode cX6_remember 23 = .ok (.getfield 302, 3) := by decide +kernel
theorem dX6_remember_26 : decode cX6_remember 26 = .ok (.iconst 1, 1) := by decide +kernel
theorem dX6_remember_27 : decode cX6_remember 27 = .ok (.iadd, 1) := by decide +kernel
theorem dX6_remember_28 : decode cX6_remember 28 = .ok (.putfield 302, 3) := by decide +kernel
theorem dX6_remember_31 : decode cX6_remember 31 = .ok (.aload_n 0, 1) := by decide +kernel
theorem dX6_remember_32 : decode cX6_remember 32 = .ok (.aload_n 0, 1) := by decide +kernel
theorem dX6_remember_33 : decode cX6_remember 33 = .ok (.getfield 125, 3) := by decide +kernel
theorem dX6_remember_36 : decode cX6_remember 36 = .ok (.iconst 1, 1) := by decide +kernel
theorem dX6_remember_37 : decode cX6_remember 37 = .ok (.iadd, 1) := by decide +kernel
theorem dX6_remember_38 : decode cX6_remember 38 = .ok (.bipush 10, 2) := by decide +kernel
theorem dX6_remember_40 : decode cX6_remember 40 = .ok (.invokestatic 318, 3) := by decide +kernel
theorem dX6_remember_43 : decode cX6_remember 43 = .ok (.putfield 125, 3) := by decide +kernel
theorem dX6_remember_46 : decode cX6_remember 46 = .ok (.return_, 1) := by decide +kernel
theorem dX6_isSheet_0 : decode cX6_isSheet 0 = .ok (.iload_n 1, 1) := by decide +kernel
theorem dX6_isSheet_1 : decode cX6_isSheet 1 = .ok (.ifCond .lt 18, 3) := by decide +kernel
theorem dX6_isSheet_4 : decode cX6_isSheet 4 = .ok (.iload_n 1, 1) := by decide +kernel
theorem dX6_isSheet_5 : decode cX6_isSheet 5 = .ok (.aload_n 0, 1) := by decide +kernel
theorem dX6_isSheet_6 : decode cX6_isSheet 6 = .ok (.getfield 19, 3) := by decide +kernel
theorem dX6_isSheet_9 : decode cX6_isSheet 9 = .ok (.getfield 90, 3) := by decide +kernel
theorem dX6_isSheet_12 : decode cX6_isSheet 12 = .ok (.if_icmp .ge 7, 3) := by decide +kernel
theorem dX6_isSheet_15 : decode cX6_isSheet 15 = .ok (.iconst 1, 1) := by decide +kernel
theorem dX6_isSheet_16 : decode cX6_isSheet 16 = .ok (.goto 4, 3) := by decide +kernel
theorem dX6_isSheet_19 : decode cX6_isSheet 19 = .ok (.iconst 0, 1) := by decide +kernel
theorem dX6_isSheet_20 : decode cX6_isSheet 20 = .ok (.ireturn, 1) := by decide +kernel
theorem dX6_isStopped_0 : decode cX6_isStopped 0 = .ok (.aload_n 0, 1) := by decide +kernel
theorem dX6_isStopped_1 : decode cX6_isStopped 1 = .ok (.getfield 26, 3) := by decide +kernel
theorem dX6_isStopped_4 : decode cX6_isStopped 4 = .ok (.getfield 100, 3) := by decide +kernel
theorem dX6_isStopped_7 : decode cX6_isStopped 7 = .ok (.ifCond .eq 7, 3) := by decide +kernel
theorem dX6_isStopped_10 : decode cX6_isStopped 10 = .ok (.iconst 1, 1) := by decide +kernel
theorem dX6_isStopped_11 : decode cX6_isStopped 11 = .ok (.goto 4, 3) := by decide +kernel
theorem dX6_isStopped_14 : decode cX6_isStopped 14 = .ok (.iconst 0, 1) := by decide +kernel
theorem dX6_isStopped_15 : decode cX6_isStopped 15 = .ok (.ireturn, 1) := by decide +kernel
theorem dX6_stackSize_0 : decode cX6_stackSize 0 = .ok (.aload_n 0, 1) := by decide +kernel
theorem dX6_stackSize_1 : decode cX6_stackSize 1 = .ok (.getfield 19, 3) := by decide +kernel
theorem dX6_stackSize_4 : decode cX6_stackSize 4 = .ok (.getfield 90, 3) := by decide +kernel
theorem dX6_stackSize_7 : decode cX6_stackSize 7 = .ok (.aload_n 0, 1) := by decide +kernel
theorem dX6_stackSize_8 : decode cX6_stackSize 8 = .ok (.getfield 26, 3) := by decide +kernel
theorem dX6_stackSize_11 : decode cX6_stackSize 11 = .ok (.getfield 167, 3) := by decide +kernel
theorem dX6_stackSize_14 : decode cX6_stackSize 14 = .ok (.isub, 1) := by decide +kernel
theorem dX6_stackSize_15 : decode cX6_stackSize 15 = .ok (.ireturn, 1) := by decide +kernel
theorem dX6_firstInPath_0 : decode cX6_firstInPath 0 = .ok (.aload_n 0, 1) := by decide +kernel
theorem dX6_firstInPath_1 : decode cX6_firstInPath 1 = .ok (.getfield 26, 3) := by decide +kernel
theorem dX6_firstInPath_4 : decode cX6_firstInPath 4 = .ok (.getfield 167, 3) := by decide +kernel
theorem dX6_firstInPath_7 : decode cX6_firstInPath 7 = .ok (.aload_n 0, 1) := by decide +kernel
theorem dX6_firstInPath_8 : decode cX6_firstInPath 8 = .ok (.getfield 26, 3) := by decide +kernel
theorem dX6_firstInPath_11 : decode cX6_firstInPath 11 = .ok (.getfield 97, 3) := by decide +kernel
theorem dX6_firstInPath_14 : decode cX6_firstInPath 14 = .ok (.isub, 1) := by decide +kernel
theorem dX6_firstInPath_15 : decode cX6_firstInPath 15 = .ok (.ireturn, 1) := by decide +kernel
theorem dX6_halves_0 : decode cX6_halves 0 = .ok (.iconst 0, 1) := by decide +kernel
theorem dX6_halves_1 : decode cX6_halves 1 = .ok (.istore_n 1, 1) := by decide +kernel
theorem dX6_halves_2 : decode cX6_halves 2 = .ok (.iconst 0, 1) := by decide +kernel
theorem dX6_halves_3 : decode cX6_halves 3 = .ok (.istore_n 2, 1) := by decide +kernel
theorem dX6_halves_4 : decode cX6_halves 4 = .ok (.iload_n 2, 1) := by decide +kernel
theorem dX6_halves_5 : decode cX6_halves 5 = .ok (.aload_n 0, 1) := by decide +kernel
theorem dX6_halves_6 : decode cX6_halves 6 = .ok (.getfield 19, 3) := by decide +kernel
theorem dX6_halves_9 : decode cX6_halves 9 = .ok (.getfield 90, 3) := by decide +kernel
theorem dX6_halves_12 : decode cX6_halves 12 = .ok (.if_icmp .ge 21, 3) := by decide +kernel
theorem dX6_halves_15 : decode cX6_halves 15 = .ok (.iload_n 1, 1) := by decide +kernel
theorem dX6_halves_16 : decode cX6_halves 16 = .ok (.aload_n 0, 1) := by decide +kernel
theorem dX6_halves_17 : decode cX6_halves 17 = .ok (.getfield 26, 3) := by decide +kernel
theorem dX6_halves_20 : decode cX6_halves 20 = .ok (.getfield 198, 3) := by decide +kernel
theorem dX6_halves_23 : decode cX6_halves 23 = .ok (.iload_n 2, 1) := by decide +kernel
theorem dX6_halves_24 : decode cX6_halves 24 = .ok (.iaload, 1) := by decide +kernel
theorem dX6_halves_25 : decode cX6_halves 25 = .ok (.iadd, 1) := by decide +kernel
theorem dX6_halves_26 : decode cX6_halves 26 = .ok (.istore_n 1, 1) := by decide +kernel
theorem dX6_halves_27 : decode cX6_halves 27 = .ok (.iinc 2 1, 3) := by decide +kernel
theorem dX6_halves_30 : decode cX6_halves 30 = .ok (.goto (-26), 3) := by decide +kernel
theorem dX6_halves_33 : decode cX6_halves 33 = .ok (.iload_n 1, 1) := by decide +kernel
theorem dX6_halves_34 : decode cX6_halves 34 = .ok (.ireturn, 1) := by decide +kernel
theorem dX6_pickOnce_0 : decode cX6_pickOnce 0 = .ok (.aload_n 0, 1) := by decide +kernel
theorem dX6_pickOnce_1 : decode cX6_pickOnce 1 = .ok (.getfield 44, 3) := by decide +kernel
theorem dX6_pickOnce_4 : decode cX6_pickOnce 4 = .ok (.aload_n 0, 1) := by decide +kernel
theorem dX6_pickOnce_5 : decode cX6_pickOnce 5 = .ok (.getfield 19, 3) := by decide +kernel
theorem dX6_pickOnce_8 : decode cX6_pickOnce 8 = .ok (.aload_n 0, 1) := by decide +kernel
theorem dX6_pickOnce_9 : decode cX6_pickOnce 9 = .ok (.getfield 26, 3) := by decide +kernel
theorem dX6_pickOnce_12 : decode cX6_pickOnce 12 = .ok (.aload_n 0, 1) := by decide +kernel
theorem dX6_pickOnce_13 : decode cX6_pickOnce 13 = .ok (.getfield 26, 3) := by decide +kernel
theorem dX6_pickOnce_16 : decode cX6_pickOnce 16 = .ok (.getfield 167, 3) := by decide +kernel
theorem dX6_pickOnce_19 : decode cX6_pickOnce 19 = .ok (.invokevirtual 201, 3) := by decide +kernel
theorem dX6_pickOnce_22 : decode cX6_pickOnce 22 = .ok (.aload_n 0, 1) := by decide +kernel
theorem dX6_pickOnce_23 : decode cX6_pickOnce 23 = .ok (.aload_n 0, 1) := by decide +kernel
theorem dX6_pickOnce_24 : decode cX6_pickOnce 24 = .ok (.getfield 26, 3) := by decide +kernel
theorem dX6_pickOnce_27 : decode cX6_pickOnce 27 = .ok (.getfield 130, 3) := by decide +kernel
theorem dX6_pickOnce_30 : decode cX6_pickOnce 30 = .ok (.iconst 0, 1) := by decide +kernel
theorem dX6_pickOnce_31 : decode cX6_pickOnce 31 = .ok (.iaload, 1) := by decide +kernel
theorem dX6_pickOnce_32 : decode cX6_pickOnce 32 = .ok (.aload_n 0, 1) := by decide +kernel
theorem dX6_pickOnce_33 : decode cX6_pickOnce 33 = .ok (.getfield 26, 3) := by decide +kernel
theorem dX6_pickOnce_36 : decode cX6_pickOnce 36 = .ok (.getfield 113, 3) := by decide +kernel
theorem dX6_pickOnce_39 : decode cX6_pickOnce 39 = .ok (.aload_n 0, 1) := by decide +kernel
theorem dX6_pickOnce_40 : decode cX6_pickOnce 40 = .ok (.getfield 19, 3) := by decide +kernel
theorem dX6_pickOnce_43 : decode cX6_pickOnce 43 = .ok (.getfield 62, 3) := by decide +kernel
theorem dX6_pickOnce_46 : decode cX6_pickOnce 46 = .ok (.invokevirtual 117, 3) := by decide +kernel
theorem dX6_pickOnce_49 : decode cX6_pickOnce 49 = .ok (.invokevirtual 211, 3) := by decide +kernel
theorem dX6_pickOnce_52 : decode cX6_pickOnce 52 = .ok (.istore_n 1, 1) := by decide +kernel
theorem dX6_pickOnce_53 : decode cX6_pickOnce 53 = .ok (.aload_n 0, 1) := by decide +kernel
theorem dX6_pickOnce_54 : decode cX6_pickOnce 54 = .ok (.getfield 26, 3) := by decide +kernel
theorem dX6_pickOnce_57 : decode cX6_pickOnce 57 = .ok (.iconst 0, 1) := by decide +kernel
theorem dX6_pickOnce_58 : decode cX6_pickOnce 58 = .ok (.iconst 1, 1) := by decide +kernel
theorem dX6_pickOnce_59 : decode cX6_pickOnce 59 = .ok (.invokevirtual 281, 3) := by decide +kernel
theorem dX6_pickOnce_62 : decode cX6_pickOnce 62 = .ok (.aload_n 0, 1) := by decide +kernel
theorem dX6_pickOnce_63 : decode cX6_pickOnce 63 = .ok (.getfield 26, 3) := by decide +kernel
theorem dX6_pickOnce_66 : decode cX6_pickOnce 66 = .ok (.dup, 1) := by decide +kernel
theorem dX6_pickOnce_67 : decode cX6_pickOnce 67 = .ok (.getfield 167, 3) := by decide +kernel
theorem dX6_pickOnce_70 : decode cX6_pickOnce 70 = .ok (.aload_n 0, 1) := by decide +kernel
theorem dX6_pickOnce_71 : decode cX6_pickOnce 71 = .ok (.getfield 44, 3) := by decide +kernel
theorem dX6_pickOnce_74 : decode cX6_pickOnce 74 = .ok (.getfield 205, 3) := by decide +kernel
theorem dX6_pickOnce_77 : decode cX6_pickOnce 77 = .ok (.iadd, 1) := by decide +kernel
theorem dX6_pickOnce_78 : decode cX6_pickOnce 78 = .ok (.putfield 167, 3) := by decide +kernel
theorem dX6_pickOnce_81 : decode cX6_pickOnce 81 = .ok (.iload_n 1, 1) := by decide +kernel
theorem dX6_pickOnce_82 : decode cX6_pickOnce 82 = .ok (.ifCond .eq 10, 3) := by decide +kernel
theorem dX6_pickOnce_85 : decode cX6_pickOnce 85 = .ok (.aload_n 0, 1) := by decide +kernel
theorem dX6_pickOnce_86 : decode cX6_pickOnce 86 = .ok (.iload_n 1, 1) := by decide +kernel
theorem dX6_pickOnce_87 : decode cX6_pickOnce 87 = .ok (.invokevirtual 321, 3) := by decide +kernel
theorem dX6_pickOnce_90 : decode cX6_pickOnce 90 = .ok (.iconst 0, 1) := by decide +kernel
theorem dX6_pickOnce_91 : decode cX6_pickOnce 91 = .ok (.ireturn, 1) := by decide +kernel
theorem dX6_pickOnce_92 : decode cX6_pickOnce 92 = .ok (.aload_n 0, 1) := by decide +kernel
theorem dX6_pickOnce_93 : decode cX6_pickOnce 93 = .ok (.getfield 44, 3) := by decide +kernel
theorem dX6_pickOnce_96 : decode cX6_pickOnce 96 = .ok (.getfield 205, 3) := by decide +kernel
theorem dX6_pickOnce_99 : decode cX6_pickOnce 99 = .ok (.iconst 1, 1) := by decide +kernel
theorem dX6_pickOnce_100 : decode cX6_pickOnce 100 = .ok (.if_icmp .ne 29, 3) := by decide +kernel
theorem dX6_pickOnce_103 : decode cX6_pickOnce 103 = .ok (.aload_n 0, 1) := by decide +kernel
theorem dX6_pickOnce_104 : decode cX6_pickOnce 104 = .ok (.getfield 26, 3) := by decide +kernel
theorem dX6_pickOnce_107 : decode cX6_pickOnce 107 = .ok (.getfield 113, 3) := by decide +kernel
theorem dX6_pickOnce_110 : decode cX6_pickOnce 110 = .ok (.aload_n 0, 1) := by decide +kernel
theorem dX6_pickOnce_111 : decode cX6_pickOnce 111 = .ok (.getfield 44, 3) := by decide +kernel
theorem dX6_pickOnce_114 : decode cX6_pickOnce 114 = .ok (.getfield 206, 3) := by decide +kernel
theorem dX6_pickOnce_117 : decode cX6_pickOnce 117 = .ok (.invokevirtual 324, 3) := by decide +kernel
theorem dX6_pickOnce_120 : decode cX6_pickOnce 120 = .ok (.aload_n 0, 1) := by decide +kernel
theorem dX6_pickOnce_121 : decode cX6_pickOnce 121 = .ok (.getfield 26, 3) := by decide +kernel
theorem dX6_pickOnce_124 : decode cX6_pickOnce 124 = .ok (.iconst 4, 1) := by decide +kernel
theorem dX6_pickOnce_125 : decode cX6_pickOnce 125 = .ok (.iconst 1, 1) := by decide +kernel
theorem dX6_pickOnce_126 : decode cX6_pickOnce 126 = .ok (.invokevirtual 281, 3) := by decide +kernel
theorem dX6_pickOnce_129 : decode cX6_pickOnce 129 = .ok (.aload_n 0, 1) := by decide +kernel
theorem dX6_pickOnce_130 : decode cX6_pickOnce 130 = .ok (.aload_n 0, 1) := by decide +kernel
theorem dX6_pickOnce_131 : decode cX6_pickOnce 131 = .ok (.getfield 44, 3) := by decide +kernel
theorem dX6_pickOnce_134 : decode cX6_pickOnce 134 = .ok (.getfield 215, 3) := by decide +kernel
theorem dX6_pickOnce_137 : decode cX6_pickOnce 137 = .ok (.aload_n 0, 1) := by decide +kernel
theorem dX6_pickOnce_138 : decode cX6_pickOnce 138 = .ok (.getfield 44, 3) := by decide +kernel
theorem dX6_pickOnce_141 : decode cX6_pickOnce 141 = .ok (.getfield 205, 3) := by decide +kernel
theorem dX6_pickOnce_144 : decode cX6_pickOnce 144 = .ok (.invokevirtual 290, 3) := by decide +kernel
theorem dX6_pickOnce_147 : decode cX6_pickOnce 147 = .ok (.pop, 1) := by decide +kernel
theorem dX6_pickOnce_148 : decode cX6_pickOnce 148 = .ok (.iconst 1, 1) := by decide +kernel
theorem dX6_pickOnce_149 : decode cX6_pickOnce 149 = .ok (.ireturn, 1) := by decide +kernel
theorem dX6_reasonToStop_0 : decode cX6_reasonToStop 0 = .ok (.aload_n 0, 1) := by decide +kernel
theorem dX6_reasonToStop_1 : decode cX6_reasonToStop 1 = .ok (.getfield 44, 3) := by decide +kernel
theorem dX6_reasonToStop_4 : decode cX6_reasonToStop 4 = .ok (.getfield 206, 3) := by decide +kernel
theorem dX6_reasonToStop_7 : decode cX6_reasonToStop 7 = .ok (.bipush 100, 2) := by decide +kernel
theorem dX6_reasonToStop_9 : decode cX6_reasonToStop 9 = .ok (.imul, 1) := by decide +kernel
theorem dX6_reasonToStop_10 : decode cX6_reasonToStop 10 = .ok (.iload_n 1, 1) := by decide +kernel
theorem dX6_reasonToStop_11 : decode cX6_reasonToStop 11 = .ok (.iload_n 2, 1) := by decide +kernel
theorem dX6_reasonToStop_12 : decode cX6_reasonToStop 12 = .ok (.imul, 1) := by decide +kernel
theorem dX6_reasonToStop_13 : decode cX6_reasonToStop 13 = .ok (.if_icmp .le 5, 3) := by decide +kernel
theorem dX6_reasonToStop_16 : decode cX6_reasonToStop 16 = .ok (.iconst 1, 1) := by decide +kernel
theorem dX6_reasonToStop_17 : decode cX6_reasonToStop 17 = .ok (.ireturn, 1) := by decide +kernel
theorem dX6_reasonToStop_18 : decode cX6_reasonToStop 18 = .ok (.aload_n 0, 1) := by decide +kernel
theorem dX6_reasonToStop_19 : decode cX6_reasonToStop 19 = .ok (.getfield 26, 3) := by decide +kernel
theorem dX6_reasonToStop_22 : decode cX6_reasonToStop 22 = .ok (.getfield 130, 3) := by decide +kernel
theorem dX6_reasonToStop_25 : decode cX6_reasonToStop 25 = .ok (.iconst 1, 1) := by decide +kernel
theorem dX6_reasonToStop_26 : decode cX6_reasonToStop 26 = .ok (.iaload, 1) := by decide +kernel
theorem dX6_reasonToStop_27 : decode cX6_reasonToStop 27 = .ok (.istore_n 3, 1) := by decide +kernel
theorem dX6_reasonToStop_28 : decode cX6_reasonToStop 28 = .ok (.aload_n 0, 1) := by decide +kernel
theorem dX6_reasonToStop_29 : decode cX6_reasonToStop 29 = .ok (.getfield 44, 3) := by decide +kernel
theorem dX6_reasonToStop_32 : decode cX6_reasonToStop 32 = .ok (.getfield 209, 3) := by decide +kernel
theorem dX6_reasonToStop_35 : decode cX6_reasonToStop 35 = .ok (.aload_n 0, 1) := by decide +kernel
theorem dX6_reasonToStop_36 : decode cX6_reasonToStop 36 = .ok (.getfield 19, 3) := by decide +kernel
theorem dX6_reasonToStop_39 : decode cX6_reasonToStop 39 = .ok (.getfield 58, 3) := by decide +kernel
theorem dX6_reasonToStop_42 : decode cX6_reasonToStop 42 = .ok (.iload_n 3, 1) := by decide +kernel
theorem dX6_reasonToStop_43 : decode cX6_reasonToStop 43 = .ok (.iadd, 1) := by decide +kernel
theorem dX6_reasonToStop_44 : decode cX6_reasonToStop 44 = .ok (.if_icmp .gt 22, 3) := by decide +kernel
theorem dX6_reasonToStop_47 : decode cX6_reasonToStop 47 = .ok (.aload_n 0, 1) := by decide +kernel
theorem dX6_reasonToStop_48 : decode cX6_reasonToStop 48 = .ok (.getfield 44, 3) := by decide +kernel
theorem dX6_reasonToStop_51 : decode cX6_reasonToStop 51 = .ok (.getfield 209, 3) := by decide +kernel
theorem dX6_reasonToStop_54 : decode cX6_reasonToStop 54 = .ok (.aload_n 0, 1) := by decide +kernel
theorem dX6_reasonToStop_55 : decode cX6_reasonToStop 55 = .ok (.getfield 19, 3) := by decide +kernel
theorem dX6_reasonToStop_58 : decode cX6_reasonToStop 58 = .ok (.getfield 58, 3) := by decide +kernel
theorem dX6_reasonToStop_61 : decode cX6_reasonToStop 61 = .ok (.iload_n 3, 1) := by decide +kernel
theorem dX6_reasonToStop_62 : decode cX6_reasonToStop 62 = .ok (.isub, 1) := by decide +kernel
theorem dX6_reasonToStop_63 : decode cX6_reasonToStop 63 = .ok (.if_icmp .ge 5, 3) := by decide +kernel
theorem dX6_reasonToStop_66 : decode cX6_reasonToStop 66 = .ok (.iconst 2, 1) := by decide +kernel
theorem dX6_reasonToStop_67 : decode cX6_reasonToStop 67 = .ok (.ireturn, 1) := by decide +kernel
theorem dX6_reasonToStop_68 : decode cX6_reasonToStop 68 = .ok (.aload_n 0, 1) := by decide +kernel
theorem dX6_reasonToStop_69 : decode cX6_reasonToStop 69 = .ok (.getfield 44, 3) := by decide +kernel
theorem dX6_reasonToStop_72 : decode cX6_reasonToStop 72 = .ok (.getfield 327, 3) := by decide +kernel
theorem dX6_reasonToStop_75 : decode cX6_reasonToStop 75 = .ok (.invokestatic 329, 3) := by decide +kernel
theorem dX6_reasonToStop_78 : decode cX6_reasonToStop 78 = .ok (.aload_n 0, 1) := by decide +kernel
theorem dX6_reasonToStop_79 : decode cX6_reasonToStop 79 = .ok (.getfield 26, 3) := by decide +kernel
theorem dX6_reasonToStop_82 : decode cX6_reasonToStop 82 = .ok (.getfield 130, 3) := by decide +kernel
theorem dX6_reasonToStop_85 : decode cX6_reasonToStop 85 = .ok (.iconst 2, 1) := by decide +kernel
theorem dX6_reasonToStop_86 : decode cX6_reasonToStop 86 = .ok (.iaload, 1) := by decide +kernel
theorem dX6_reasonToStop_87 : decode cX6_reasonToStop 87 = .ok (.if_icmp .le 7, 3) := by decide +kernel
theorem dX6_reasonToStop_90 : decode cX6_reasonToStop 90 = .ok (.iconst 3, 1) := by decide +kernel
theorem dX6_reasonToStop_91 : decode cX6_reasonToStop 91 = .ok (.goto 4, 3) := by decide +kernel
theorem dX6_reasonToStop_94 : decode cX6_reasonToStop 94 = .ok (.iconst 0, 1) := by decide +kernel
theorem dX6_reasonToStop_95 : decode cX6_reasonToStop 95 = .ok (.ireturn, 1) := by decide +kernel
theorem dX6_stop_0 : decode cX6_stop 0 = .ok (.aload_n 0, 1) := by decide +kernel
theorem dX6_stop_1 : decode cX6_stop 1 = .ok (.getfield 26, 3) := by decide +kernel
theorem dX6_stop_4 : decode cX6_stop 4 = .ok (.iload_n 1, 1) := by decide +kernel
theorem dX6_stop_5 : decode cX6_stop 5 = .ok (.putfield 100, 3) := by decide +kernel
theorem dX6_stop_8 : decode cX6_stop 8 = .ok (.aload_n 0, 1) := by decide +kernel
theorem dX6_stop_9 : decode cX6_stop 9 = .ok (.getfield 26, 3) := by decide +kernel
theorem dX6_stop_12 : decode cX6_stop 12 = .ok (.aload_n 0, 1) := by decide +kernel
theorem dX6_stop_13 : decode cX6_stop 13 = .ok (.getfield 44, 3) := by decide +kernel
theorem dX6_stop_16 : decode cX6_stop 16 = .ok (.getfield 205, 3) := by decide +kernel
theorem dX6_stop_19 : decode cX6_stop 19 = .ok (.putfield 97, 3) := by decide +kernel
theorem dX6_stop_22 : decode cX6_stop 22 = .ok (.aload_n 0, 1) := by decide +kernel
theorem dX6_stop_23 : decode cX6_stop 23 = .ok (.getfield 26, 3) := by decide +kernel
theorem dX6_stop_26 : decode cX6_stop 26 = .ok (.iload_n 1, 1) := by decide +kernel
theorem dX6_stop_27 : decode cX6_stop 27 = .ok (.iconst 1, 1) := by decide +kernel
theorem dX6_stop_28 : decode cX6_stop 28 = .ok (.invokevirtual 281, 3) := by decide +kernel
theorem dX6_stop_31 : decode cX6_stop 31 = .ok (.aload_n 0, 1) := by decide +kernel
theorem dX6_stop_32 : decode cX6_stop 32 = .ok (.getfield 44, 3) := by decide +kernel
theorem dX6_stop_35 : decode cX6_stop 35 = .ok (.getfield 215, 3) := by decide +kernel
theorem dX6_stop_38 : decode cX6_stop 38 = .ok (.istore_n 2, 1) := by decide +kernel
theorem dX6_stop_39 : decode cX6_stop 39 = .ok (.aload_n 0, 1) := by decide +kernel
theorem dX6_stop_40 : decode cX6_stop 40 = .ok (.iload_n 2, 1) := by decide +kernel
theorem dX6_stop_41 : decode cX6_stop 41 = .ok (.invokevirtual 134, 3) := by decide +kernel
theorem dX6_stop_44 : decode cX6_stop 44 = .ok (.ifCond .eq 30, 3) := by decide +kernel
theorem dX6_stop_47 : decode cX6_stop 47 = .ok (.iload_n 2, 1) := by decide +kernel
theorem dX6_stop_48 : decode cX6_stop 48 = .ok (.aload_n 0, 1) := by decide +kernel
theorem dX6_stop_49 : decode cX6_stop 49 = .ok (.getfield 26, 3) := by decide +kernel
theorem dX6_stop_52 : decode cX6_stop 52 = .ok (.getfield 167, 3) := by decide +kernel
theorem dX6_stop_55 : decode cX6_stop 55 = .ok (.if_icmp .ge 19, 3) := by decide +kernel
theorem dX6_stop_58 : decode cX6_stop 58 = .ok (.aload_n 0, 1) := by decide +kernel
theorem dX6_stop_59 : decode cX6_stop 59 = .ok (.getfield 26, 3) := by decide +kernel
theorem dX6_stop_62 : decode cX6_stop 62 = .ok (.getfield 164, 3) := by decide +kernel
theorem dX6_stop_65 : decode cX6_stop 65 = .ok (.iload_n 2, 1) := by decide +kernel
theorem dX6_stop_66 : decode cX6_stop 66 = .ok (.iconst 1, 1) := by decide +kernel
theorem dX6_stop_67 : decode cX6_stop 67 = .ok (.iastore, 1) := by decide +kernel
theorem dX6_stop_68 : decode cX6_stop 68 = .ok (.iinc 2 1, 3) := by decide +kernel
theorem dX6_stop_71 : decode cX6_stop 71 = .ok (.goto (-32), 3) := by decide +kernel
theorem dX6_stop_74 : decode cX6_stop 74 = .ok (.iload_n 1, 1) := by decide +kernel
theorem dX6_stop_75 : decode cX6_stop 75 = .ok (.iconst 3, 1) := by decide +kernel
theorem dX6_stop_76 : decode cX6_stop 76 = .ok (.if_icmp .ne 52, 3) := by decide +kernel
theorem dX6_stop_79 : decode cX6_stop 79 = .ok (.aload_n 0, 1) := by decide +kernel
theorem dX6_stop_80 : decode cX6_stop 80 = .ok (.aload_n 0, 1) := by decide +kernel
theorem dX6_stop_81 : decode cX6_stop 81 = .ok (.getfield 44, 3) := by decide +kernel
theorem dX6_stop_84 : decode cX6_stop 84 = .ok (.getfield 215, 3) := by decide +kernel
theorem dX6_stop_87 : decode cX6_stop 87 = .ok (.invokevirtual 134, 3) := by decide +kernel
theorem dX6_stop_90 : decode cX6_stop 90 = .ok (.ifCond .eq 38, 3) := by decide +kernel
theorem dX6_stop_93 : decode cX6_stop 93 = .ok (.aload_n 0, 1) := by decide +kernel
theorem dX6_stop_94 : decode cX6_stop 94 = .ok (.getfield 19, 3) := by decide +kernel
theorem dX6_stop_97 : decode cX6_stop 97 = .ok (.getfield 158, 3) := by decide +kernel
theorem dX6_stop_100 : decode cX6_stop 100 = .ok (.aload_n 0, 1) := by decide +kernel
theorem dX6_stop_101 : decode cX6_stop 101 = .ok (.getfield 44, 3) := by decide +kernel
theorem dX6_stop_104 : decode cX6_stop 104 = .ok (.getfield 215, 3) := by decide +kernel
theorem dX6_stop_107 : decode cX6_stop 107 = .ok (.iaload, 1) := by decide +kernel
theorem dX6_stop_108 : decode cX6_stop 108 = .ok (.iconst (-1), 1) := by decide +kernel
theorem dX6_stop_109 : decode cX6_stop 109 = .ok (.if_icmp .ne 19, 3) := by decide +kernel
theorem dX6_stop_112 : decode cX6_stop 112 = .ok (.aload_n 0, 1) := by decide +kernel
theorem dX6_stop_113 : decode cX6_stop 113 = .ok (.getfield 26, 3) := by decide +kernel
theorem dX6_stop_116 : decode cX6_stop 116 = .ok (.getfield 198, 3) := by decide +kernel
theorem dX6_stop_119 : decode cX6_stop 119 = .ok (.aload_n 0, 1) := by decide +kernel
theorem dX6_stop_120 : decode cX6_stop 120 = .ok (.getfield 44, 3) := by decide +kernel
theorem dX6_stop_123 : decode cX6_stop 123 = .ok (.getfield 215, 3) := by decide +kernel
theorem dX6_stop_126 : decode cX6_stop 126 = .ok (.iconst 1, 1) := by decide +kernel
theorem dX6_stop_127 : decode cX6_stop 127 = .ok (.iastore, 1) := by decide +kernel
theorem dX6_stop_128 : decode cX6_stop 128 = .ok (.return_, 1) := by decide +kernel
theorem dX6_clearPath_0 : decode cX6_clearPath 0 = .ok (.aload_n 0, 1) := by decide +kernel
theorem dX6_clearPath_1 : decode cX6_clearPath 1 = .ok (.getfield 26, 3) := by decide +kernel
theorem dX6_clearPath_4 : decode cX6_clearPath 4 = .ok (.iconst 0, 1) := by decide +kernel
theorem dX6_clearPath_5 : decode cX6_clearPath 5 = .ok (.putfield 97, 3) := by decide +kernel
theorem dX6_clearPath_8 : decode cX6_clearPath 8 = .ok (.aload_n 0, 1) := by decide +kernel
theorem dX6_clearPath_9 : decode cX6_clearPath 9 = .ok (.getfield 26, 3) := by decide +kernel
theorem dX6_clearPath_12 : decode cX6_clearPath 12 = .ok (.iconst 0, 1) := by decide +kernel
theorem dX6_clearPath_13 : decode cX6_clearPath 13 = .ok (.putfield 100, 3) := by decide +kernel
theorem dX6_clearPath_16 : decode cX6_clearPath 16 = .ok (.return_, 1) := by decide +kernel
theorem dX6_goThrough_0 : decode cX6_goThrough 0 = .ok (.aload_n 0, 1) := by decide +kernel
theorem dX6_goThrough_1 : decode cX6_goThrough 1 = .ok (.iload_n 1, 1) := by decide +kernel
theorem dX6_goThrough_2 : decode cX6_goThrough 2 = .ok (.invokevirtual 134, 3) := by decide +kernel
theorem dX6_goThrough_5 : decode cX6_goThrough 5 = .ok (.ifCond .ne 5, 3) := by decide +kernel
theorem dX6_goThrough_8 : decode cX6_goThrough 8 = .ok (.iconst 0, 1) := by decide +kernel
theorem dX6_goThrough_9 : decode cX6_goThrough 9 = .ok (.ireturn, 1) := by decide +kernel
theorem dX6_goThrough_10 : decode cX6_goThrough 10 = .ok (.iload_n 1, 1) := by decide +kernel
theorem dX6_goThrough_11 : decode cX6_goThrough 11 = .ok (.iconst 1, 1) := by decide +kernel
theorem dX6_goThrough_12 : decode cX6_goThrough 12 = .ok (.iadd, 1) := by decide +kernel
theorem dX6_goThrough_13 : decode cX6_goThrough 13 = .ok (.istore_n 3, 1) := by decide +kernel
theorem dX6_goThrough_14 : decode cX6_goThrough 14 = .ok (.aload_n 0, 1) := by decide +kernel
theorem dX6_goThrough_15 : decode cX6_goThrough 15 = .ok (.iload_n 3, 1) := by decide +kernel
theorem dX6_goThrough_16 : decode cX6_goThrough 16 = .ok (.invokevirtual 134, 3) := by decide +kernel
theorem dX6_goThrough_19 : decode cX6_goThrough 19 = .ok (.ifCond .eq 26, 3) := by decide +kernel
theorem dX6_goThrough_22 : decode cX6_goThrough 22 = .ok (.iload_n 3, 1) := by decide +kernel
theorem dX6_goThrough_23 : decode cX6_goThrough 23 = .ok (.iload_n 1, 1) := by decide +kernel
theorem dX6_goThrough_24 : decode cX6_goThrough 24 = .ok (.iload_n 2, 1) := by decide +kernel
theorem dX6_goThrough_25 : decode cX6_goThrough 25 = .ok (.iadd, 1) := by decide +kernel
theorem dX6_goThrough_26 : decode cX6_goThrough 26 = .ok (.if_icmp .ge 19, 3) := by decide +kernel
theorem dX6_goThrough_29 : decode cX6_goThrough 29 = .ok (.aload_n 0, 1) := by decide +kernel
theorem dX6_goThrough_30 : decode cX6_goThrough 30 = .ok (.getfield 26, 3) := by decide +kernel
theorem dX6_goThrough_33 : decode cX6_goThrough 33 = .ok (.getfield 164, 3) := by decide +kernel
theorem dX6_goThrough_36 : decode cX6_goThrough 36 = .ok (.iload_n 3, 1) := by decide +kernel
theorem dX6_goThrough_37 : decode cX6_goThrough 37 = .ok (.iconst 5, 1) := by decide +kernel
theorem dX6_goThrough_38 : decode cX6_goThrough 38 = .ok (.iastore, 1) := by decide +kernel
theorem dX6_goThrough_39 : decode cX6_goThrough 39 = .ok (.iinc 3 1, 3) := by decide +kernel
theorem dX6_goThrough_42 : decode cX6_goThrough 42 = .ok (.goto (-28), 3) := by decide +kernel
theorem dX6_goThrough_45 : decode cX6_goThrough 45 = .ok (.aload_n 0, 1) := by decide +kernel
theorem dX6_goThrough_46 : decode cX6_goThrough 46 = .ok (.getfield 26, 3) := by decide +kernel
theorem dX6_goThrough_49 : decode cX6_goThrough 49 = .ok (.iconst 5, 1) := by decide +kernel
theorem dX6_goThrough_50 : decode cX6_goThrough 50 = .ok (.aload_n 0, 1) := by decide +kernel
theorem dX6_goThrough_51 : decode cX6_goThrough 51 = .ok (.getfield 26, 3) := by decide +kernel
theorem dX6_goThrough_54 : decode cX6_goThrough 54 = .ok (.getfield 198, 3) := by decide +kernel
theorem dX6_goThrough_57 : decode cX6_goThrough 57 = .ok (.iload_n 1, 1) := by decide +kernel
theorem dX6_goThrough_58 : decode cX6_goThrough 58 = .ok (.iaload, 1) := by decide +kernel
theorem dX6_goThrough_59 : decode cX6_goThrough 59 = .ok (.invokevirtual 281, 3) := by decide +kernel
theorem dX6_goThrough_62 : decode cX6_goThrough 62 = .ok (.aload_n 0, 1) := by decide +kernel
theorem dX6_goThrough_63 : decode cX6_goThrough 63 = .ok (.getfield 26, 3) := by decide +kernel
theorem dX6_goThrough_66 : decode cX6_goThrough 66 = .ok (.getfield 198, 3) := by decide +kernel
theorem dX6_goThrough_69 : decode cX6_goThrough 69 = .ok (.iload_n 1, 1) := by decide +kernel
theorem dX6_goThrough_70 : decode cX6_goThrough 70 = .ok (.iconst 0, 1) := by decide +kernel
theorem dX6_goThrough_71 : decode cX6_goThrough 71 = .ok (.iastore, 1) := by decide +kernel
theorem dX6_goThrough_72 : decode cX6_goThrough 72 = .ok (.aload_n 0, 1) := by decide +kernel
theorem dX6_goThrough_73 : decode cX6_goThrough 73 = .ok (.getfield 19, 3) := by decide +kernel
theorem dX6_goThrough_76 : decode cX6_goThrough 76 = .ok (.getfield 158, 3) := by decide +kernel
theorem dX6_goThrough_79 : decode cX6_goThrough 79 = .ok (.iload_n 1, 1) := by decide +kernel
theorem dX6_goThrough_80 : decode cX6_goThrough 80 = .ok (.iaload, 1) := by decide +kernel
theorem dX6_goThrough_81 : decode cX6_goThrough 81 = .ok (.iconst (-1), 1) := by decide +kernel
theorem dX6_goThrough_82 : decode cX6_goThrough 82 = .ok (.if_icmp .eq 31, 3) := by decide +kernel
theorem dX6_goThrough_85 : decode cX6_goThrough 85 = .ok (.aload_n 0, 1) := by decide +kernel
theorem dX6_goThrough_86 : decode cX6_goThrough 86 = .ok (.getfield 26, 3) := by decide +kernel
theorem dX6_goThrough_89 : decode cX6_goThrough 89 = .ok (.getfield 164, 3) := by decide +kernel
theorem dX6_goThrough_92 : decode cX6_goThrough 92 = .ok (.iload_n 1, 1) := by decide +kernel
theorem dX6_goThrough_93 : decode cX6_goThrough 93 = .ok (.iconst 4, 1) := by decide +kernel
theorem dX6_goThrough_94 : decode cX6_goThrough 94 = .ok (.iastore, 1) := by decide +kernel
theorem dX6_goThrough_95 : decode cX6_goThrough 95 = .ok (.aload_n 0, 1) := by decide +kernel
theorem dX6_goThrough_96 : decode cX6_goThrough 96 = .ok (.getfield 26, 3) := by decide +kernel
theorem dX6_goThrough_99 : decode cX6_goThrough 99 = .ok (.aload_n 0, 1) := by decide +kernel
theorem dX6_goThrough_100 : decode cX6_goThrough 100 = .ok (.getfield 19, 3) := by decide +kernel
theorem dX6_goThrough_103 : decode cX6_goThrough 103 = .ok (.getfield 158, 3) := by decide +kernel
theorem dX6_goThrough_106 : decode cX6_goThrough 106 = .ok (.iload_n 1, 1) := by decide +kernel
theorem dX6_goThrough_107 : decode cX6_goThrough 107 = .ok (.iaload, 1) := by decide +kernel
theorem dX6_goThrough_108 : decode cX6_goThrough 108 = .ok (.invokevirtual 297, 3) := by decide +kernel
theorem dX6_goThrough_111 : decode cX6_goThrough 111 = .ok (.iconst 0, 1) := by decide +kernel
theorem dX6_goThrough_112 : decode cX6_goThrough 112 = .ok (.ireturn, 1) := by decide +kernel
theorem dX6_goThrough_113 : decode cX6_goThrough 113 = .ok (.aload_n 0, 1) := by decide +kernel
theorem dX6_goThrough_114 : decode cX6_goThrough 114 = .ok (.iload_n 1, 1) := by decide +kernel
theorem dX6_goThrough_115 : decode cX6_goThrough 115 = .ok (.invokevirtual 218, 3) := by decide +kernel
theorem dX6_goThrough_118 : decode cX6_goThrough 118 = .ok (.istore_n 3, 1) := by decide +kernel
theorem dX6_goThrough_119 : decode cX6_goThrough 119 = .ok (.aload_n 0, 1) := by decide +kernel
theorem dX6_goThrough_120 : decode cX6_goThrough 120 = .ok (.iload_n 1, 1) := by decide +kernel
theorem dX6_goThrough_121 : decode cX6_goThrough 121 = .ok (.iconst 0, 1) := by decide +kernel
theorem dX6_goThrough_122 : decode cX6_goThrough 122 = .ok (.invokevirtual 332, 3) := by decide +kernel
theorem dX6_goThrough_125 : decode cX6_goThrough 125 = .ok (.ifCond .eq 12, 3) := by decide +kernel
theorem dX6_goThrough_128 : decode cX6_goThrough 128 = .ok (.aload_n 0, 1) := by decide +kernel
theorem dX6_goThrough_129 : decode cX6_goThrough 129 = .ok (.getfield 26, 3) := by decide +kernel
theorem dX6_goThrough_132 : decode cX6_goThrough 132 = .ok (.iload_n 1, 1) := by decide +kernel
theorem dX6_goThrough_133 : decode cX6_goThrough 133 = .ok (.iconst 0, 1) := by decide +kernel
theorem dX6_goThrough_134 : decode cX6_goThrough 134 = .ok (.invokevirtual 336, 3) := by decide +kernel
theorem dX6_goThrough_137 : decode cX6_goThrough 137 = .ok (.aload_n 0, 1) := by decide +kernel
theorem dX6_goThrough_138 : decode cX6_goThrough 138 = .ok (.iload_n 1, 1) := by decide +kernel
theorem dX6_goThrough_139 : decode cX6_goThrough 139 = .ok (.iconst 1, 1) := by decide +kernel
theorem dX6_goThrough_140 : decode cX6_goThrough 140 = .ok (.invokevirtual 332, 3) := by decide +kernel
theorem dX6_goThrough_143 : decode cX6_goThrough 143 = .ok (.ifCond .eq 12, 3) := by decide +kernel
theorem dX6_goThrough_146 : decode cX6_goThrough 146 = .ok (.aload_n 0, 1) := by decide +kernel
theorem dX6_goThrough_147 : decode cX6_goThrough 147 = .ok (.getfield 26, 3) := by decide +kernel
theorem dX6_goThrough_150 : decode cX6_goThrough 150 = .ok (.iload_n 1, 1) := by decide +kernel
theorem dX6_goThrough_151 : decode cX6_goThrough 151 = .ok (.iconst 1, 1) := by decide +kernel
theorem dX6_goThrough_152 : decode cX6_goThrough 152 = .ok (.invokevirtual 336, 3) := by decide +kernel
theorem dX6_goThrough_155 : decode cX6_goThrough 155 = .ok (.aload_n 0, 1) := by decide +kernel
theorem dX6_goThrough_156 : decode cX6_goThrough 156 = .ok (.getfield 26, 3) := by decide +kernel
theorem dX6_goThrough_159 : decode cX6_goThrough 159 = .ok (.getfield 164, 3) := by decide +kernel
theorem dX6_goThrough_162 : decode cX6_goThrough 162 = .ok (.iload_n 1, 1) := by decide +kernel
theorem dX6_goThrough_163 : decode cX6_goThrough 163 = .ok (.iload_n 3, 1) := by decide +kernel
theorem dX6_goThrough_164 : decode cX6_goThrough 164 = .ok (.ifCond .le 7, 3) := by decide +kernel
theorem dX6_goThrough_167 : decode cX6_goThrough 167 = .ok (.iconst 2, 1) := by decide +kernel
theorem dX6_goThrough_168 : decode cX6_goThrough 168 = .ok (.goto 4, 3) := by decide +kernel
theorem dX6_goThrough_171 : decode cX6_goThrough 171 = .ok (.iconst 3, 1) := by decide +kernel
theorem dX6_goThrough_172 : decode cX6_goThrough 172 = .ok (.iastore, 1) := by decide +kernel
theorem dX6_goThrough_173 : decode cX6_goThrough 173 = .ok (.iload_n 3, 1) := by decide +kernel
theorem dX6_goThrough_174 : decode cX6_goThrough 174 = .ok (.ireturn, 1) := by decide +kernel
theorem dX6_pagesOfSheet_0 : decode cX6_pagesOfSheet 0 = .ok (.aload_n 0, 1) := by decide +kernel
theorem dX6_pagesOfSheet_1 : decode cX6_pagesOfSheet 1 = .ok (.iload_n 1, 1) := by decide +kernel
theorem dX6_pagesOfSheet_2 : decode cX6_pagesOfSheet 2 = .ok (.iconst 0, 1) := by decide +kernel
theorem dX6_pagesOfSheet_3 : decode cX6_pagesOfSheet 3 = .ok (.invokevirtual 332, 3) := by decide +kernel
theorem dX6_pagesOfSheet_6 : decode cX6_pagesOfSheet 6 = .ok (.ifCond .eq 7, 3) := by decide +kernel
theorem dX6_pagesOfSheet_9 : decode cX6_pagesOfSheet 9 = .ok (.iconst 1, 1) := by decide +kernel
theorem dX6_pagesOfSheet_10 : decode cX6_pagesOfSheet 10 = .ok (.goto 4, 3) := by decide +kernel
theorem dX6_pagesOfSheet_13 : decode cX6_pagesOfSheet 13 = .ok (.iconst 0, 1) := by decide +kernel
theorem dX6_pagesOfSheet_14 : decode cX6_pagesOfSheet 14 = .ok (.aload_n 0, 1) := by decide +kernel
theorem dX6_pagesOfSheet_15 : decode cX6_pagesOfSheet 15 = .ok (.iload_n 1, 1) := by decide +kernel
theorem dX6_pagesOfSheet_16 : decode cX6_pagesOfSheet 16 = .ok (.iconst 1, 1) := by decide +kernel
theorem dX6_pagesOfSheet_17 : decode cX6_pagesOfSheet 17 = .ok (.invokevirtual 332, 3) := by decide +kernel
theorem dX6_pagesOfSheet_20 : decode cX6_pagesOfSheet 20 = .ok (.ifCond .eq 7, 3) := by decide +kernel
theorem dX6_pagesOfSheet_23 : decode cX6_pagesOfSheet 23 = .ok (.iconst 1, 1) := by decide +kernel
theorem dX6_pagesOfSheet_24 : decode cX6_pagesOfSheet 24 = .ok (.goto 4, 3) := by decide +kernel
theorem dX6_pagesOfSheet_27 : decode cX6_pagesOfSheet 27 = .ok (.iconst 0, 1) := by decide +kernel
theorem dX6_pagesOfSheet_28 : decode cX6_pagesOfSheet 28 = .ok (.iadd, 1) := by decide +kernel
theorem dX6_pagesOfSheet_29 : decode cX6_pagesOfSheet 29 = .ok (.ireturn, 1) := by decide +kernel
theorem dX6_isPage_0 : decode cX6_isPage 0 = .ok (.aload_n 0, 1) := by decide +kernel
theorem dX6_isPage_1 : decode cX6_isPage 1 = .ok (.iload_n 1, 1) := by decide +kernel
theorem dX6_isPage_2 : decode cX6_isPage 2 = .ok (.invokevirtual 134, 3) := by decide +kernel
theorem dX6_isPage_5 : decode cX6_isPage 5 = .ok (.ifCond .eq 31, 3) := by decide +kernel
theorem dX6_isPage_8 : decode cX6_isPage 8 = .ok (.aload_n 0, 1) := by decide +kernel
theorem dX6_isPage_9 : decode cX6_isPage 9 = .ok (.getfield 19, 3) := by decide +kernel
theorem dX6_isPage_12 : decode cX6_isPage 12 = .ok (.getfield 158, 3) := by decide +kernel
theorem dX6_isPage_15 : decode cX6_isPage 15 = .ok (.iload_n 1, 1) := by decide +kernel
theorem dX6_isPage_16 : decode cX6_isPage 16 = .ok (.iaload, 1) := by decide +kernel
theorem dX6_isPage_17 : decode cX6_isPage 17 = .ok (.iconst (-1), 1) := by decide +kernel
theorem dX6_isPage_18 : decode cX6_isPage 18 = .ok (.if_icmp .ne 18, 3) := by decide +kernel
theorem dX6_isPage_21 : decode cX6_isPage 21 = .ok (.iload_n 2, 1) := by decide +kernel
theorem dX6_isPage_22 : decode cX6_isPage 22 = .ok (.iconst 1, 1) := by decide +kernel
theorem dX6_isPage_23 : decode cX6_isPage 23 = .ok (.if_icmp .ne 15, 3) := by decide +kernel
theorem dX6_isPage_26 : decode cX6_isPage 26 = .ok (.aload_n 0, 1) := by decide +kernel
theorem dX6_isPage_27 : decode cX6_isPage 27 = .ok (.getfield 26, 3) := by decide +kernel
theorem dX6_isPage_30 : decode cX6_isPage 30 = .ok (.getfield 109, 3) := by decide +kernel
theorem dX6_isPage_33 : decode cX6_isPage 33 = .ok (.ifCond .ne 5, 3) := by decide +kernel
theorem dX6_isPage_36 : decode cX6_isPage 36 = .ok (.iconst 0, 1) := by decide +kernel
theorem dX6_isPage_37 : decode cX6_isPage 37 = .ok (.ireturn, 1) := by decide +kernel
theorem dX6_isPage_38 : decode cX6_isPage 38 = .ok (.aload_n 0, 1) := by decide +kernel
theorem dX6_isPage_39 : decode cX6_isPage 39 = .ok (.getfield 19, 3) := by decide +kernel
theorem dX6_isPage_42 : decode cX6_isPage 42 = .ok (.iload_n 1, 1) := by decide +kernel
theorem dX6_isPage_43 : decode cX6_isPage 43 = .ok (.iload_n 2, 1) := by decide +kernel
theorem dX6_isPage_44 : decode cX6_isPage 44 = .ok (.invokevirtual 259, 3) := by decide +kernel
theorem dX6_isPage_47 : decode cX6_isPage 47 = .ok (.aload_n 0, 1) := by decide +kernel
theorem dX6_isPage_48 : decode cX6_isPage 48 = .ok (.getfield 26, 3) := by decide +kernel
theorem dX6_isPage_51 : decode cX6_isPage 51 = .ok (.getfield 130, 3) := by decide +kernel
theorem dX6_isPage_54 : decode cX6_isPage 54 = .ok (.iconst 3, 1) := by decide +kernel
theorem dX6_isPage_55 : decode cX6_isPage 55 = .ok (.iaload, 1) := by decide +kernel
theorem dX6_isPage_56 : decode cX6_isPage 56 = .ok (.if_icmp .lt 7, 3) := by decide +kernel
theorem dX6_isPage_59 : decode cX6_isPage 59 = .ok (.iconst 1, 1) := by decide +kernel
theorem dX6_isPage_60 : decode cX6_isPage 60 = .ok (.goto 4, 3) := by decide +kernel
theorem dX6_isPage_63 : decode cX6_isPage 63 = .ok (.iconst 0, 1) := by decide +kernel
theorem dX6_isPage_64 : decode cX6_isPage 64 = .ok (.ireturn, 1) := by decide +kernel
theorem dJ5_init_a7421_0 : decode cJ5_init_a7421 0 = .ok (.aload_n 0, 1) := by decide +kernel
theorem dJ5_init_a7421_1 : decode cJ5_init_a7421 1 = .ok (.invokespecial 3, 3) := by decide +kernel
theorem dJ5_init_a7421_4 : decode cJ5_init_a7421 4 = .ok (.aload_n 1, 1) := by decide +kernel
theorem dJ5_init_a7421_5 : decode cJ5_init_a7421 5 = .ok (.invokevirtual 32, 3) := by decide +kernel
theorem dJ5_init_a7421_8 : decode cJ5_init_a7421 8 = .ok (.istore_n 2, 1) := by decide +kernel
theorem dJ5_init_a7421_9 : decode cJ5_init_a7421 9 = .ok (.iload_n 2, 1) := by decide +kernel
theorem dJ5_init_a7421_10 : decode cJ5_init_a7421 10 = .ok (.ldc 38, 2) := by decide +kernel
theorem dJ5_init_a7421_12 : decode cJ5_init_a7421 12 = .ok (.if_icmp .ge 10, 3) := by decide +kernel
theorem dJ5_init_a7421_15 : decode cJ5_init_a7421 15 = .ok (.iload_n 2, 1) := by decide +kernel
theorem dJ5_init_a7421_16 : decode cJ5_init_a7421 16 = .ok (.bipush 16, 2) := by decide +kernel
theorem dJ5_init_a7421_18 : decode cJ5_init_a7421 18 = .ok (.iadd, 1) := by decide +kernel
theorem dJ5_init_a7421_19 : decode cJ5_init_a7421 19 = .ok (.goto 5, 3) := by decide +kernel
theorem dJ5_init_a7421_22 : decode cJ5_init_a7421 22 = .ok (.ldc 39, 2) := by decide +kernel
theorem dJ5_init_a7421_24 : decode cJ5_init_a7421 24 = .ok (.istore_n 3, 1) := by decide +kernel
theorem dJ5_init_a7421_25 : decode cJ5_init_a7421 25 = .ok (.aload_n 1, 1) := by decide +kernel
theorem dJ5_init_a7421_26 : decode cJ5_init_a7421 26 = .ok (.invokevirtual 40, 3) := by decide +kernel
theorem dJ5_init_a7421_29 : decode cJ5_init_a7421 29 = .ok (.istore 4, 2) := by decide +kernel
theorem dJ5_init_a7421_31 : decode cJ5_init_a7421 31 = .ok (.aload_n 0, 1) := by decide +kernel
theorem dJ5_init_a7421_32 : decode cJ5_init_a7421 32 = .ok (.iload 4, 2) := by decide +kernel
theorem dJ5_init_a7421_34 : decode cJ5_init_a7421 34 = .ok (.putfield 22, 3) := by decide +kernel
theorem dJ5_init_a7421_37 : decode cJ5_init_a7421 37 = .ok (.aload_n 0, 1) := by decide +kernel
theorem dJ5_init_a7421_38 : decode cJ5_init_a7421 38 = .ok (.iload 4, 2) := by decide +kernel
theorem dJ5_init_a7421_40 : decode cJ5_init_a7421 40 = .ok (.ifCond .ne 9, 3) := by decide +kernel
theorem dJ5_init_a7421_43 : decode cJ5_init_a7421 43 = .ok (.iload_n 3, 1) := by decide +kernel
theorem dJ5_init_a7421_44 : decode cJ5_init_a7421 44 = .ok (.newarray .byte, 2) := by decide +kernel
theorem dJ5_init_a7421_46 : decode cJ5_init_a7421 46 = .ok (.goto 7, 3) := by decide +kernel
theorem dJ5_init_a7421_49 : decode cJ5_init_a7421 49 = .ok (.iload_n 3, 1) := by decide +kernel
theorem dJ5_init_a7421_50 : decode cJ5_init_a7421 50 = .ok (.invokestatic 26, 3) := by decide +kernel
theorem dJ5_init_a7421_53 : decode cJ5_init_a7421 53 = .ok (.putfield 15, 3) := by decide +kernel
theorem dJ5_init_a7421_56 : decode cJ5_init_a7421 56 = .ok (.aload_n 0, 1) := by decide +kernel
theorem dJ5_init_a7421_57 : decode cJ5_init_a7421 57 = .ok (.aload_n 1, 1) := by decide +kernel
theorem dJ5_init_a7421_58 : decode cJ5_init_a7421 58 = .ok (.invokevirtual 43, 3) := by decide +kernel
theorem dJ5_init_a7421_61 : decode cJ5_init_a7421 61 = .ok (.pop, 1) := by decide +kernel
theorem dJ5_init_a7421_62 : decode cJ5_init_a7421 62 = .ok (.return_, 1) := by decide +kernel
theorem dJ5_length_8abf5_0 : decode cJ5_length_8abf5 0 = .ok (.aload_n 0, 1) := by decide +kernel
theorem dJ5_length_8abf5_1 : decode cJ5_length_8abf5 1 = .ok (.getfield 79, 3) := by decide +kernel
theorem dJ5_length_8abf5_4 : decode cJ5_length_8abf5 4 = .ok (.ireturn, 1) := by decide +kernel
theorem dJ5_ensureCapacityInternal_d00df_0 : decode cJ5_ensureCapacityInternal_d00df 0 = .ok (.aload_n 0, 1) := by decide +kernel
theorem dJ5_ensureCapacityInternal_d00df_1 : decode cJ5_ensureCapacityInternal_d00df 1 = .ok (.getfield 15, 3) := by decide +kernel
theorem dJ5_ensureCapacityInternal_d00df_4 : decode cJ5_ensureCapacityInternal_d00df 4 = .ok (.arraylength, 1) := by decide +kernel
theorem dJ5_ensureCapacityInternal_d00df_5 : decode cJ5_ensureCapacityInternal_d00df 5 = .ok (.aload_n 0, 1) := by decide +kernel
theorem dJ5_ensureCapacityInternal_d00df_6 : decode cJ5_ensureCapacityInternal_d00df 6 = .ok (.getfield 22, 3) := by decide +kernel
theorem dJ5_ensureCapacityInternal_d00df_9 : decode cJ5_ensureCapacityInternal_d00df 9 = .ok (.ishr, 1) := by decide +kernel
theorem dJ5_ensureCapacityInternal_d00df_10 : decode cJ5_ensureCapacityInternal_d00df 10 = .ok (.istore_n 2, 1) := by decide +kernel
theorem dJ5_ensureCapacityInternal_d00df_11 : decode cJ5_ensureCapacityInternal_d00df 11 = .ok (.iload_n 1, 1) := by decide +kernel
theorem dJ5_ensureCapacityInternal_d00df_12 : decode cJ5_ensureCapacityInternal_d00df 12 = .ok (.iload_n 2, 1) := by decide +kernel
theorem dJ5_ensureCapacityInternal_d00df_13 : decode cJ5_ensureCapacityInternal_d00df 13 = .ok (.isub, 1) := by decide +kernel
theorem dJ5_ensureCapacityInternal_d00df_14 : decode cJ5_ensureCapacityInternal_d00df 14 = .ok (.ifCond .le 24, 3) := by decide +kernel
theorem dJ5_ensureCapacityInternal_d00df_17 : decode cJ5_ensureCapacityInternal_d00df 17 = .ok (.aload_n 0, 1) := by decide +kernel
theorem dJ5_ensureCapacityInternal_d00df_18 : decode cJ5_ensureCapacityInternal_d00df 18 = .ok (.aload_n 0, 1) := by decide +kernel
theorem dJ5_ensureCapacityInternal_d00df_19 : decode cJ5_ensureCapacityInternal_d00df 19 = .ok (.getfield 15, 3) := by decide +kernel
theorem dJ5_ensureCapacityInternal_d00df_22 : decode cJ5_ensureCapacityInternal_d00df 22 = .ok (.aload_n 0, 1) := by decide +kernel
theorem dJ5_ensureCapacityInternal_d00df_23 : decode cJ5_ensureCapacityInternal_d00df 23 = .ok (.iload_n 1, 1) := by decide +kernel
theorem dJ5_ensureCapacityInternal_d00df_24 : decode cJ5_ensureCapacityInternal_d00df 24 = .ok (.invokevirtual 104, 3) := by decide +kernel
theorem dJ5_ensureCapacityInternal_d00df_27 : decode cJ5_ensureCapacityInternal_d00df 27 = .ok (.aload_n 0, 1) := by decide +kernel
theorem dJ5_ensureCapacityInternal_d00df_28 : decode cJ5_ensureCapacityInternal_d00df 28 = .ok (.getfield 22, 3) := by decide +kernel
theorem dJ5_ensureCapacityInternal_d00df_31 : decode cJ5_ensureCapacityInternal_d00df 31 = .ok (.ishl, 1) := by decide +kernel
theorem dJ5_ensureCapacityInternal_d00df_32 : decode cJ5_ensureCapacityInternal_d00df 32 = .ok (.invokestatic 108, 3) := by decide +kernel
theorem dJ5_ensureCapacityInternal_d00df_35 : decode cJ5_ensureCapacityInternal_d00df 35 = .ok (.putfield 15, 3) := by decide +kernel
theorem dJ5_ensureCapacityInternal_d00df_38 : decode cJ5_ensureCapacityInternal_d00df 38 = .ok (.return_, 1) := by decide +kernel
theorem dJ5_newCapacity_0f7a4_0 : decode cJ5_newCapacity_0f7a4 0 = .ok (.aload_n 0, 1) := by decide +kernel
theorem dJ5_newCapacity_0f7a4_1 : decode cJ5_newCapacity_0f7a4 1 = .ok (.getfield 15, 3) := by decide +kernel
theorem dJ5_newCapacity_0f7a4_4 : decode cJ5_newCapacity_0f7a4 4 = .ok (.arraylength, 1) := by decide +kernel
theorem dJ5_newCapacity_0f7a4_5 : decode cJ5_newCapacity_0f7a4 5 = .ok (.istore_n 2, 1) := by decide +kernel
theorem dJ5_newCapacity_0f7a4_6 : decode cJ5_newCapacity_0f7a4 6 = .ok (.iload_n 1, 1) := by decide +kernel
theorem dJ5_newCapacity_0f7a4_7 : decode cJ5_newCapacity_0f7a4 7 = .ok (.aload_n 0, 1) := by decide +kernel
theorem dJ5_newCapacity_0f7a4_8 : decode cJ5_newCapacity_0f7a4 8 = .ok (.getfield 22, 3) := by decide +kernel
theorem dJ5_newCapacity_0f7a4_11 : decode cJ5_newCapacity_0f7a4 11 = .ok (.ishl, 1) := by decide +kernel
theorem dJ5_newCapacity_0f7a4_12 : decode cJ5_newCapacity_0f7a4 12 = .ok (.istore_n 3, 1) := by decide +kernel
theorem dJ5_newCapacity_0f7a4_13 : decode cJ5_newCapacity_0f7a4 13 = .ok (.iload_n 3, 1) := by decide +kernel
theorem dJ5_newCapacity_0f7a4_14 : decode cJ5_newCapacity_0f7a4 14 = .ok (.iload_n 2, 1) := by decide +kernel
theorem dJ5_newCapacity_0f7a4_15 : decode cJ5_newCapacity_0f7a4 15 = .ok (.isub, 1) := by decide +kernel
theorem dJ5_newCapacity_0f7a4_16 : decode cJ5_newCapacity_0f7a4 16 = .ok (.istore 4, 2) := by decide +kernel
theorem dJ5_newCapacity_0f7a4_18 : decode cJ5_newCapacity_0f7a4 18 = .ok (.iload_n 2, 1) := by decide +kernel
theorem dJ5_newCapacity_0f7a4_19 : decode cJ5_newCapacity_0f7a4 19 = .ok (.iload 4, 2) := by decide +kernel
theorem dJ5_newCapacity_0f7a4_21 : decode cJ5_newCapacity_0f7a4 21 = .ok (.iload_n 2, 1) := by decide +kernel
theorem dJ5_newCapacity_0f7a4_22 : decode cJ5_newCapacity_0f7a4 22 = .ok (.iconst 2, 1) := by decide +kernel
theorem dJ5_newCapacity_0f7a4_23 : decode cJ5_newCapacity_0f7a4 23 = .ok (.aload_n 0, 1) := by decide +kernel
theorem dJ5_newCapacity_0f7a4_24 : decode cJ5_newCapacity_0f7a4 24 = .ok (.getfield 22, 3) := by decide +kernel
theorem dJ5_newCapacity_0f7a4_27 : decode cJ5_newCapacity_0f7a4 27 = .ok (.ishl, 1) := by decide +kernel
theorem dJ5_newCapacity_0f7a4_28 : decode cJ5_newCapacity_0f7a4 28 = .ok (.iadd, 1) := by decide +kernel
theorem dJ5_newCapacity_0f7a4_29 : decode cJ5_newCapacity_0f7a4 29 = .ok (.invokestatic 114, 3) := by decide +kernel
theorem dJ5_newCapacity_0f7a4_32 : decode cJ5_newCapacity_0f7a4 32 = .ok (.istore 5, 2) := by decide +kernel
theorem dJ5_newCapacity_0f7a4_34 : decode cJ5_newCapacity_0f7a4 34 = .ok (.iload 5, 2) := by decide +kernel
theorem dJ5_newCapacity_0f7a4_36 : decode cJ5_newCapacity_0f7a4 36 = .ok (.ldc 39, 2) := by decide +kernel
theorem dJ5_newCapacity_0f7a4_38 : decode cJ5_newCapacity_0f7a4 38 = .ok (.if_icmp .ne 13, 3) := by decide +kernel
theorem dJ5_newCapacity_0f7a4_41 : decode cJ5_newCapacity_0f7a4 41 = .ok (.new 120, 3) := by decide +kernel
theorem dJ5_newCapacity_0f7a4_44 : decode cJ5_newCapacity_0f7a4 44 = .ok (.dup, 1) := by decide +kernel
theorem dJ5_newCapacity_0f7a4_45 : decode cJ5_newCapacity_0f7a4 45 = .ok (.ldc 122, 2) := by decide +kernel
theorem dJ5_newCapacity_0f7a4_47 : decode cJ5_newCapacity_0f7a4 47 = .ok (.invokespecial 124, 3) := by decide +kernel
theorem dJ5_newCapacity_0f7a4_50 : decode cJ5_newCapacity_0f7a4 50 = .ok (.athrow, 1) := by decide +kernel
theorem dJ5_newCapacity_0f7a4_51 : decode cJ5_newCapacity_0f7a4 51 = .ok (.iload 5, 2) := by decide +kernel
theorem dJ5_newCapacity_0f7a4_53 : decode cJ5_newCapacity_0f7a4 53 = .ok (.aload_n 0, 1) := by decide +kernel
theorem dJ5_newCapacity_0f7a4_54 : decode cJ5_newCapacity_0f7a4 54 = .ok (.getfield 22, 3) := by decide +kernel
theorem dJ5_newCapacity_0f7a4_57 : decode cJ5_newCapacity_0f7a4 57 = .ok (.ishr, 1) := by decide +kernel
theorem dJ5_newCapacity_0f7a4_58 : decode cJ5_newCapacity_0f7a4 58 = .ok (.ireturn, 1) := by decide +kernel
theorem dJ5_inflate_da8c8_0 : decode cJ5_inflate_da8c8 0 = .ok (.aload_n 0, 1) := by decide +kernel
theorem dJ5_inflate_da8c8_1 : decode cJ5_inflate_da8c8 1 = .ok (.invokevirtual 83, 3) := by decide +kernel
theorem dJ5_inflate_da8c8_4 : decode cJ5_inflate_da8c8 4 = .ok (.ifCond .ne 4, 3) := by decide +kernel
theorem dJ5_inflate_da8c8_7 : decode cJ5_inflate_da8c8 7 = .ok (.return_, 1) := by decide +kernel
theorem dJ5_inflate_da8c8_8 : decode cJ5_inflate_da8c8 8 = .ok (.aload_n 0, 1) := by decide +kernel
theorem dJ5_inflate_da8c8_9 : decode cJ5_inflate_da8c8 9 = .ok (.getfield 15, 3) := by decide +kernel
theorem dJ5_inflate_da8c8_12 : decode cJ5_inflate_da8c8 12 = .ok (.arraylength, 1) := by decide +kernel
theorem dJ5_inflate_da8c8_13 : decode cJ5_inflate_da8c8 13 = .ok (.invokestatic 26, 3) := by decide +kernel
theorem dJ5_inflate_da8c8_16 : decode cJ5_inflate_da8c8 16 = .ok (.astore_n 1, 1) := by decide +kernel
theorem dJ5_inflate_da8c8_17 : decode cJ5_inflate_da8c8 17 = .ok (.aload_n 0, 1) := by decide +kernel
theorem dJ5_inflate_da8c8_18 : decode cJ5_inflate_da8c8 18 = .ok (.getfield 15, 3) := by decide +kernel
theorem dJ5_inflate_da8c8_21 : decode cJ5_inflate_da8c8 21 = .ok (.iconst 0, 1) := by decide +kernel
theorem dJ5_inflate_da8c8_22 : decode cJ5_inflate_da8c8 22 = .ok (.aload_n 1, 1) := by decide +kernel
theorem dJ5_inflate_da8c8_23 : decode cJ5_inflate_da8c8 23 = .ok (.iconst 0, 1) := by decide +kernel
theorem dJ5_inflate_da8c8_24 : decode cJ5_inflate_da8c8 24 = .ok (.aload_n 0, 1) := by decide +kernel
theorem dJ5_inflate_da8c8_25 : decode cJ5_inflate_da8c8 25 = .ok (.getfield 79, 3) := by decide +kernel
theorem dJ5_inflate_da8c8_28 : decode cJ5_inflate_da8c8 28 = .ok (.invokestatic 125, 3) := by decide +kernel
theorem dJ5_inflate_da8c8_31 : decode cJ5_inflate_da8c8 31 = .ok (.aload_n 0, 1) := by decide +kernel
theorem dJ5_inflate_da8c8_32 : decode cJ5_inflate_da8c8 32 = .ok (.aload_n 1, 1) := by decide +kernel
theorem dJ5_inflate_da8c8_33 : decode cJ5_inflate_da8c8 33 = .ok (.putfield 15, 3) := by decide +kernel
theorem dJ5_inflate_da8c8_36 : decode cJ5_inflate_da8c8 36 = .ok (.aload_n 0, 1) := by decide +kernel
theorem dJ5_inflate_da8c8_37 : decode cJ5_inflate_da8c8 37 = .ok (.iconst 1, 1) := by decide +kernel
theorem dJ5_inflate_da8c8_38 : decode cJ5_inflate_da8c8 38 = .ok (.putfield 22, 3) := by decide +kernel
theorem dJ5_inflate_da8c8_41 : decode cJ5_inflate_da8c8 41 = .ok (.return_, 1) := by decide +kernel
theorem dJ5_charAt_5068e_0 : decode cJ5_charAt_5068e 0 = .ok (.aload_n 0, 1) := by decide +kernel
theorem dJ5_charAt_5068e_1 : decode cJ5_charAt_5068e 1 = .ok (.getfield 22, 3) := by decide +kernel
theorem dJ5_charAt_5068e_4 : decode cJ5_charAt_5068e 4 = .ok (.istore_n 2, 1) := by decide +kernel
theorem dJ5_charAt_5068e_5 : decode cJ5_charAt_5068e 5 = .ok (.aload_n 0, 1) := by decide +kernel
theorem dJ5_charAt_5068e_6 : decode cJ5_charAt_5068e 6 = .ok (.getfield 15, 3) := by decide +kernel
theorem dJ5_charAt_5068e_9 : decode cJ5_charAt_5068e 9 = .ok (.astore_n 3, 1) := by decide +kernel
theorem dJ5_charAt_5068e_10 : decode cJ5_charAt_5068e 10 = .ok (.aload_n 0, 1) := by decide +kernel
theorem dJ5_charAt_5068e_11 : decode cJ5_charAt_5068e 11 = .ok (.getfield 79, 3) := by decide +kernel
theorem dJ5_charAt_5068e_14 : decode cJ5_charAt_5068e 14 = .ok (.aload_n 3, 1) := by decide +kernel
theorem dJ5_charAt_5068e_15 : decode cJ5_charAt_5068e 15 = .ok (.arraylength, 1) := by decide +kernel
theorem dJ5_charAt_5068e_16 : decode cJ5_charAt_5068e 16 = .ok (.iload_n 2, 1) := by decide +kernel
theorem dJ5_charAt_5068e_17 : decode cJ5_charAt_5068e 17 = .ok (.ishr, 1) := by decide +kernel
theorem dJ5_charAt_5068e_18 : decode cJ5_charAt_5068e 18 = .ok (.invokestatic 138, 3) := by decide +kernel
theorem dJ5_charAt_5068e_21 : decode cJ5_charAt_5068e 21 = .ok (.istore 4, 2) := by decide +kernel
theorem dJ5_charAt_5068e_23 : decode cJ5_charAt_5068e 23 = .ok (.iload_n 1, 1) := by decide +kernel
theorem dJ5_charAt_5068e_24 : decode cJ5_charAt_5068e 24 = .ok (.iload 4, 2) := by decide +kernel
theorem dJ5_charAt_5068e_26 : decode cJ5_charAt_5068e 26 = .ok (.invokestatic 144, 3) := by decide +kernel
theorem dJ5_charAt_5068e_29 : decode cJ5_charAt_5068e 29 = .ok (.iload_n 2, 1) := by decide +kernel
theorem dJ5_charAt_5068e_30 : decode cJ5_charAt_5068e 30 = .ok (.ifCond .ne 12, 3) := by decide +kernel
theorem dJ5_charAt_5068e_33 : decode cJ5_charAt_5068e 33 = .ok (.aload_n 3, 1) := by decide +kernel
theorem dJ5_charAt_5068e_34 : decode cJ5_charAt_5068e 34 = .ok (.iload_n 1, 1) := by decide +kernel
theorem dJ5_charAt_5068e_35 : decode cJ5_charAt_5068e 35 = .ok (.baload, 1) := by decide +kernel
theorem dJ5_charAt_5068e_36 : decode cJ5_charAt_5068e 36 = .ok (.sipush 255, 3) := by decide +kernel
theorem dJ5_charAt_5068e_39 : decode cJ5_charAt_5068e 39 = .ok (.iand, 1) := by decide +kernel
theorem dJ5_charAt_5068e_40 : decode cJ5_charAt_5068e 40 = .ok (.i2c, 1) := by decide +kernel
theorem dJ5_charAt_5068e_41 : decode cJ5_charAt_5068e 41 = .ok (.ireturn, 1) := by decide +kernel
theorem dJ5_charAt_5068e_42 : decode cJ5_charAt_5068e 42 = .ok (.aload_n 3, 1) := by decide +kernel
theorem dJ5_charAt_5068e_43 : decode cJ5_charAt_5068e 43 = .ok (.iload_n 1, 1) := by decide +kernel
theorem dJ5_charAt_5068e_44 : decode cJ5_charAt_5068e 44 = .ok (.invokestatic 148, 3) := by decide +kernel
theorem dJ5_charAt_5068e_47 : decode cJ5_charAt_5068e 47 = .ok (.ireturn, 1) := by decide +kernel
theorem dJ5_append_cf1ce_0 : decode cJ5_append_cf1ce 0 = .ok (.aload_n 1, 1) := by decide +kernel
theorem dJ5_append_cf1ce_1 : decode cJ5_append_cf1ce 1 = .ok (.ifnonnull 8, 3) := by decide +kernel
theorem dJ5_append_cf1ce_4 : decode cJ5_append_cf1ce 4 = .ok (.aload_n 0, 1) := by decide +kernel
theorem dJ5_append_cf1ce_5 : decode cJ5_append_cf1ce 5 = .ok (.invokevirtual 204, 3) := by decide +kernel
theorem dJ5_append_cf1ce_8 : decode cJ5_append_cf1ce 8 = .ok (.areturn, 1) := by decide +kernel
theorem dJ5_append_cf1ce_9 : decode cJ5_append_cf1ce 9 = .ok (.aload_n 1, 1) := by decide +kernel
theorem dJ5_append_cf1ce_10 : decode cJ5_append_cf1ce 10 = .ok (.invokevirtual 32, 3) := by decide +kernel
theorem dJ5_append_cf1ce_13 : decode cJ5_append_cf1ce 13 = .ok (.istore_n 2, 1) := by decide +kernel
theorem dJ5_append_cf1ce_14 : decode cJ5_append_cf1ce 14 = .ok (.aload_n 0, 1) := by decide +kernel
theorem dJ5_append_cf1ce_15 : decode cJ5_append_cf1ce 15 = .ok (.aload_n 0, 1) := by decide +kernel
theorem dJ5_append_cf1ce_16 : decode cJ5_append_cf1ce 16 = .ok (.getfield 79, 3) := by decide +kernel
theorem dJ5_append_cf1ce_19 : decode cJ5_append_cf1ce 19 = .ok (.iload_n 2, 1) := by decide +kernel
theorem dJ5_append_cf1ce_20 : decode cJ5_append_cf1ce 20 = .ok (.iadd, 1) := by decide +kernel
theorem dJ5_append_cf1ce_21 : decode cJ5_append_cf1ce 21 = .ok (.invokevirtual 100, 3) := by decide +kernel
theorem dJ5_append_cf1ce_24 : decode cJ5_append_cf1ce 24 = .ok (.aload_n 0, 1) := by decide +kernel
theorem dJ5_append_cf1ce_25 : decode cJ5_append_cf1ce 25 = .ok (.aload_n 0, 1) := by decide +kernel
theorem dJ5_append_cf1ce_26 : decode cJ5_append_cf1ce 26 = .ok (.getfield 79, 3) := by decide +kernel
theorem dJ5_append_cf1ce_29 : decode cJ5_append_cf1ce 29 = .ok (.aload_n 1, 1) := by decide +kernel
theorem dJ5_append_cf1ce_30 : decode cJ5_append_cf1ce 30 = .ok (.invokevirtual 208, 3) := by decide +kernel
theorem dJ5_append_cf1ce_33 : decode cJ5_append_cf1ce 33 = .ok (.aload_n 0, 1) := by decide +kernel
theorem dJ5_append_cf1ce_34 : decode cJ5_append_cf1ce 34 = .ok (.dup, 1) := by decide +kernel
theorem dJ5_append_cf1ce_35 : decode cJ5_append_cf1ce 35 = .ok (.getfield 79, 3) := by decide +kernel
theorem dJ5_append_cf1ce_38 : decode cJ5_append_cf1ce 38 = .ok (.iload_n 2, 1) := by decide +kernel
theorem dJ5_append_cf1ce_39 : decode cJ5_append_cf1ce 39 = .ok (.iadd, 1) := by decide +kernel
theorem dJ5_append_cf1ce_40 : decode cJ5_append_cf1ce 40 = .ok (.putfield 79, 3) := by decide +kernel
theorem dJ5_append_cf1ce_43 : decode cJ5_append_cf1ce 43 = .ok (.aload_n 0, 1) := by decide +kernel
theorem dJ5_append_cf1ce_44 : decode cJ5_append_cf1ce 44 = .ok (.areturn, 1) := by decide +kernel
theorem dJ5_appendNull_278bc_0 : decode cJ5_appendNull_278bc 0 = .ok (.aload_n 0, 1) := by decide +kernel
theorem dJ5_appendNull_278bc_1 : decode cJ5_appendNull_278bc 1 = .ok (.aload_n 0, 1) := by decide +kernel
theorem dJ5_appendNull_278bc_2 : decode cJ5_appendNull_278bc 2 = .ok (.getfield 79, 3) := by decide +kernel
theorem dJ5_appendNull_278bc_5 : decode cJ5_appendNull_278bc 5 = .ok (.iconst 4, 1) := by decide +kernel
theorem dJ5_appendNull_278bc_6 : decode cJ5_appendNull_278bc 6 = .ok (.iadd, 1) := by decide +kernel
theorem dJ5_appendNull_278bc_7 : decode cJ5_appendNull_278bc 7 = .ok (.invokevirtual 100, 3) := by decide +kernel
theorem dJ5_appendNull_278bc_10 : decode cJ5_appendNull_278bc 10 = .ok (.aload_n 0, 1) := by decide +kernel
theorem dJ5_appendNull_278bc_11 : decode cJ5_appendNull_278bc 11 = .ok (.getfield 79, 3) := by decide +kernel
theorem dJ5_appendNull_278bc_14 : decode cJ5_appendNull_278bc 14 = .ok (.istore_n 1, 1) := by decide +kernel
theorem dJ5_appendNull_278bc_15 : decode cJ5_appendNull_278bc 15 = .ok (.aload_n 0, 1) := by decide +kernel
theorem dJ5_appendNull_278bc_16 : decode cJ5_appendNull_278bc 16 = .ok (.getfield 15, 3) := by decide +kernel
theorem dJ5_appendNull_278bc_19 : decode cJ5_appendNull_278bc 19 = .ok (.astore_n 2, 1) := by decide +kernel
theorem dJ5_appendNull_278bc_20 : decode cJ5_appendNull_278bc 20 = .ok (.aload_n 0, 1) := by decide +kernel
theorem dJ5_appendNull_278bc_21 : decode cJ5_appendNull_278bc 21 = .ok (.invokevirtual 83, 3) := by decide +kernel
theorem dJ5_appendNull_278bc_24 : decode cJ5_appendNull_278bc 24 = .ok (.ifCond .eq 38, 3) := by decide +kernel
theorem dJ5_appendNull_278bc_27 : decode cJ5_appendNull_278bc 27 = .ok (.aload_n 2, 1) := by decide +kernel
theorem dJ5_appendNull_278bc_28 : decode cJ5_appendNull_278bc 28 = .ok (.iload_n 1, 1) := by decide +kernel
theorem dJ5_appendNull_278bc_29 : decode cJ5_appendNull_278bc 29 = .ok (.iinc 1 1, 3) := by decide +kernel
theorem dJ5_appendNull_278bc_32 : decode cJ5_appendNull_278bc 32 = .ok (.bipush 110, 2) := by decide +kernel
theorem dJ5_appendNull_278bc_34 : decode cJ5_appendNull_278bc 34 = .ok (.bastore, 1) := by decide +kernel
theorem dJ5_appendNull_278bc_35 : decode cJ5_appendNull_278bc 35 = .ok (.aload_n 2, 1) := by decide +kernel
theorem dJ5_appendNull_278bc_36 : decode cJ5_appendNull_278bc 36 = .ok (.iload_n 1, 1) := by decide +kernel
theorem dJ5_appendNull_278bc_37 : decode cJ5_appendNull_278bc 37 = .ok (.iinc 1 1, 3) := by decide +kernel
theorem dJ5_appendNull_278bc_40 : decode cJ5_appendNull_278bc 40 = .ok (.bipush 117, 2) := by decide +kernel
theorem dJ5_appendNull_278bc_42 : decode cJ5_appendNull_278bc 42 = .ok (.bastore, 1) := by decide +kernel
theorem dJ5_appendNull_278bc_43 : decode cJ5_appendNull_278bc 43 = .ok (.aload_n 2, 1) := by decide +kernel
theorem dJ5_appendNull_278bc_44 : decode cJ5_appendNull_278bc 44 = .ok (.iload_n 1, 1) := by decide +kernel
theorem dJ5_appendNull_278bc_45 : decode cJ5_appendNull_278bc 45 = .ok (.iinc 1 1, 3) := by decide +kernel
theorem dJ5_appendNull_278bc_48 : decode cJ5_appendNull_278bc 48 = .ok (.bipush 108, 2) := by decide +kernel
theorem dJ5_appendNull_278bc_50 : decode cJ5_appendNull_278bc 50 = .ok (.bastore, 1) := by decide +kernel
theorem dJ5_appendNull_278bc_51 : decode cJ5_appendNull_278bc 51 = .ok (.aload_n 2, 1) := by decide +kernel
theorem dJ5_appendNull_278bc_52 : decode cJ5_appendNull_278bc 52 = .ok (.iload_n 1, 1) := by decide +kernel
theorem dJ5_appendNull_278bc_53 : decode cJ5_appendNull_278bc 53 = .ok (.iinc 1 1, 3) := by decide +kernel
theorem dJ5_appendNull_278bc_56 : decode cJ5_appendNull_278bc 56 = .ok (.bipush 108, 2) := by decide +kernel
theorem dJ5_appendNull_278bc_58 : decode cJ5_appendNull_278bc 58 = .ok (.bastore, 1) := by decide +kernel
theorem dJ5_appendNull_278bc_59 : decode cJ5_appendNull_278bc 59 = .ok (.goto 17, 3) := by decide +kernel
theorem dJ5_appendNull_278bc_62 : decode cJ5_appendNull_278bc 62 = .ok (.aload_n 2, 1) := by decide +kernel
theorem dJ5_appendNull_278bc_63 : decode cJ5_appendNull_278bc 63 = .ok (.iload_n 1, 1) := by decide +kernel
theorem dJ5_appendNull_278bc_64 : decode cJ5_appendNull_278bc 64 = .ok (.bipush 110, 2) := by decide +kernel
theorem dJ5_appendNull_278bc_66 : decode cJ5_appendNull_278bc 66 = .ok (.bipush 117, 2) := by decide +kernel
theorem dJ5_appendNull_278bc_68 : decode cJ5_appendNull_278bc 68 = .ok (.bipush 108, 2) := by decide +kernel
theorem dJ5_appendNull_278bc_70 : decode cJ5_appendNull_278bc 70 = .ok (.bipush 108, 2) := by decide +kernel
theorem dJ5_appendNull_278bc_72 : decode cJ5_appendNull_278bc 72 = .ok (.invokestatic 226, 3) := by decide +kernel
theorem dJ5_appendNull_278bc_75 : decode cJ5_appendNull_278bc 75 = .ok (.istore_n 1, 1) := by decide +kernel
theorem dJ5_appendNull_278bc_76 : decode cJ5_appendNull_278bc 76 = .ok (.aload_n 0, 1) := by decide +kernel
theorem dJ5_appendNull_278bc_77 : decode cJ5_appendNull_278bc 77 = .ok (.iload_n 1, 1) := by decide +kernel
theorem dJ5_appendNull_278bc_78 : decode cJ5_appendNull_278bc 78 = .ok (.putfield 79, 3) := by decide +kernel
theorem dJ5_appendNull_278bc_81 : decode cJ5_appendNull_278bc 81 = .ok (.aload_n 0, 1) := by decide +kernel
theorem dJ5_appendNull_278bc_82 : decode cJ5_appendNull_278bc 82 = .ok (.areturn, 1) := by decide +kernel
theorem dJ5_append_c97b9_0 : decode cJ5_append_c97b9 0 = .ok (.aload_n 0, 1) := by decide +kernel
theorem dJ5_append_c97b9_1 : decode cJ5_append_c97b9 1 = .ok (.getfield 79, 3) := by decide +kernel
theorem dJ5_append_c97b9_4 : decode cJ5_append_c97b9 4 = .ok (.istore_n 2, 1) := by decide +kernel
theorem dJ5_append_c97b9_5 : decode cJ5_append_c97b9 5 = .ok (.iload_n 2, 1) := by decide +kernel
theorem dJ5_append_c97b9_6 : decode cJ5_append_c97b9 6 = .ok (.iload_n 1, 1) := by decide +kernel
theorem dJ5_append_c97b9_7 : decode cJ5_append_c97b9 7 = .ok (.invokestatic 245, 3) := by decide +kernel
theorem dJ5_append_c97b9_10 : decode cJ5_append_c97b9 10 = .ok (.iadd, 1) := by decide +kernel
theorem dJ5_append_c97b9_11 : decode cJ5_append_c97b9 11 = .ok (.istore_n 3, 1) := by decide +kernel
theorem dJ5_append_c97b9_12 : decode cJ5_append_c97b9 12 = .ok (.aload_n 0, 1) := by decide +kernel
theorem dJ5_append_c97b9_13 : decode cJ5_append_c97b9 13 = .ok (.iload_n 3, 1) := by decide +kernel
theorem dJ5_append_c97b9_14 : decode cJ5_append_c97b9 14 = .ok (.invokevirtual 100, 3) := by decide +kernel
theorem dJ5_append_c97b9_17 : decode cJ5_append_c97b9 17 = .ok (.aload_n 0, 1) := by decide +kernel
theorem dJ5_append_c97b9_18 : decode cJ5_append_c97b9 18 = .ok (.invokevirtual 83, 3) := by decide +kernel
theorem dJ5_append_c97b9_21 : decode cJ5_append_c97b9 21 = .ok (.ifCond .eq 16, 3) := by decide +kernel
theorem dJ5_append_c97b9_24 : decode cJ5_append_c97b9 24 = .ok (.iload_n 1, 1) := by decide +kernel
theorem dJ5_append_c97b9_25 : decode cJ5_append_c97b9 25 = .ok (.iload_n 3, 1) := by decide +kernel
theorem dJ5_append_c97b9_26 : decode cJ5_append_c97b9 26 = .ok (.aload_n 0, 1) := by decide +kernel
theorem dJ5_append_c97b9_27 : decode cJ5_append_c97b9 27 = .ok (.getfield 15, 3) := by decide +kernel
theorem dJ5_append_c97b9_30 : decode cJ5_append_c97b9 30 = .ok (.invokestatic 248, 3) := by decide +kernel
theorem dJ5_append_c97b9_33 : decode cJ5_append_c97b9 33 = .ok (.pop, 1) := by decide +kernel
theorem dJ5_append_c97b9_34 : decode cJ5_append_c97b9 34 = .ok (.goto 14, 3) := by decide +kernel
theorem dJ5_append_c97b9_37 : decode cJ5_append_c97b9 37 = .ok (.iload_n 1, 1) := by decide +kernel
theorem dJ5_append_c97b9_38 : decode cJ5_append_c97b9 38 = .ok (.iload_n 2, 1) := by decide +kernel
theorem dJ5_append_c97b9_39 : decode cJ5_append_c97b9 39 = .ok (.iload_n 3, 1) := by decide +kernel
theorem dJ5_append_c97b9_40 : decode cJ5_append_c97b9 40 = .ok (.aload_n 0, 1) := by decide +kernel
theorem dJ5_append_c97b9_41 : decode cJ5_append_c97b9 41 = .ok (.getfield 15, 3) := by decide +kernel
theorem dJ5_append_c97b9_44 : decode cJ5_append_c97b9 44 = .ok (.invokestatic 251, 3) := by decide +kernel
theorem dJ5_append_c97b9_47 : decode cJ5_append_c97b9 47 = .ok (.pop, 1) := by decide +kernel
theorem dJ5_append_c97b9_48 : decode cJ5_append_c97b9 48 = .ok (.aload_n 0, 1) := by decide +kernel
theorem dJ5_append_c97b9_49 : decode cJ5_append_c97b9 49 = .ok (.iload_n 3, 1) := by decide +kernel
theorem dJ5_append_c97b9_50 : decode cJ5_append_c97b9 50 = .ok (.putfield 79, 3) := by decide +kernel
theorem dJ5_append_c97b9_53 : decode cJ5_append_c97b9 53 = .ok (.aload_n 0, 1) := by decide +kernel
theorem dJ5_append_c97b9_54 : decode cJ5_append_c97b9 54 = .ok (.areturn, 1) := by decide +kernel
theorem dJ5_isLatin1_aae02_0 : decode cJ5_isLatin1_aae02 0 = .ok (.getstatic 18, 3) := by decide +kernel
theorem dJ5_isLatin1_aae02_3 : decode cJ5_isLatin1_aae02 3 = .ok (.ifCond .eq 14, 3) := by decide +kernel
theorem dJ5_isLatin1_aae02_6 : decode cJ5_isLatin1_aae02 6 = .ok (.aload_n 0, 1) := by decide +kernel
theorem dJ5_isLatin1_aae02_7 : decode cJ5_isLatin1_aae02 7 = .ok (.getfield 22, 3) := by decide +kernel
theorem dJ5_isLatin1_aae02_10 : decode cJ5_isLatin1_aae02 10 = .ok (.ifCond .ne 7, 3) := by decide +kernel
theorem dJ5_isLatin1_aae02_13 : decode cJ5_isLatin1_aae02 13 = .ok (.iconst 1, 1) := by decide +kernel
theorem dJ5_isLatin1_aae02_14 : decode cJ5_isLatin1_aae02 14 = .ok (.goto 4, 3) := by decide +kernel
theorem dJ5_isLatin1_aae02_17 : decode cJ5_isLatin1_aae02 17 = .ok (.iconst 0, 1) := by decide +kernel
theorem dJ5_isLatin1_aae02_18 : decode cJ5_isLatin1_aae02 18 = .ok (.ireturn, 1) := by decide +kernel
theorem dJ5_inflateIfNeededFor_a7421_0 : decode cJ5_inflateIfNeededFor_a7421 0 = .ok (.getstatic 18, 3) := by decide +kernel
theorem dJ5_inflateIfNeededFor_a7421_3 : decode cJ5_inflateIfNeededFor_a7421 3 = .ok (.ifCond .eq 18, 3) := by decide +kernel
theorem dJ5_inflateIfNeededFor_a7421_6 : decode cJ5_inflateIfNeededFor_a7421 6 = .ok (.aload_n 0, 1) := by decide +kernel
theorem dJ5_inflateIfNeededFor_a7421_7 : decode cJ5_inflateIfNeededFor_a7421 7 = .ok (.getfield 22, 3) := by decide +kernel
theorem dJ5_inflateIfNeededFor_a7421_10 : decode cJ5_inflateIfNeededFor_a7421 10 = .ok (.aload_n 1, 1) := by decide +kernel
theorem dJ5_inflateIfNeededFor_a7421_11 : decode cJ5_inflateIfNeededFor_a7421 11 = .ok (.invokevirtual 40, 3) := by decide +kernel
theorem dJ5_inflateIfNeededFor_a7421_14 : decode cJ5_inflateIfNeededFor_a7421 14 = .ok (.if_icmp .eq 7, 3) := by decide +kernel
theorem dJ5_inflateIfNeededFor_a7421_17 : decode cJ5_inflateIfNeededFor_a7421 17 = .ok (.aload_n 0, 1) := by decide +kernel
theorem dJ5_inflateIfNeededFor_a7421_18 : decode cJ5_inflateIfNeededFor_a7421 18 = .ok (.invokevirtual 195, 3) := by decide +kernel
theorem dJ5_inflateIfNeededFor_a7421_21 : decode cJ5_inflateIfNeededFor_a7421 21 = .ok (.return_, 1) := by decide +kernel
theorem dJ5_putStringAt_47b60_0 : decode cJ5_putStringAt_47b60 0 = .ok (.aload_n 0, 1) := by decide +kernel
theorem dJ5_putStringAt_47b60_1 : decode cJ5_putStringAt_47b60 1 = .ok (.aload_n 2, 1) := by decide +kernel
theorem dJ5_putStringAt_47b60_2 : decode cJ5_putStringAt_47b60 2 = .ok (.invokevirtual 397, 3) := by decide +kernel
theorem dJ5_putStringAt_47b60_5 : decode cJ5_putStringAt_47b60 5 = .ok (.aload_n 2, 1) := by decide +kernel
theorem dJ5_putStringAt_47b60_6 : decode cJ5_putStringAt_47b60 6 = .ok (.aload_n 0, 1) := by decide +kernel
theorem dJ5_putStringAt_47b60_7 : decode cJ5_putStringAt_47b60 7 = .ok (.getfield 15, 3) := by decide +kernel
theorem dJ5_putStringAt_47b60_10 : decode cJ5_putStringAt_47b60 10 = .ok (.iload_n 1, 1) := by decide +kernel
theorem dJ5_putStringAt_47b60_11 : decode cJ5_putStringAt_47b60 11 = .ok (.aload_n 0, 1) := by decide +kernel
theorem dJ5_putStringAt_47b60_12 : decode cJ5_putStringAt_47b60 12 = .ok (.getfield 22, 3) := by decide +kernel
theorem dJ5_putStringAt_47b60_15 : decode cJ5_putStringAt_47b60 15 = .ok (.invokevirtual 399, 3) := by decide +kernel
theorem dJ5_putStringAt_47b60_18 : decode cJ5_putStringAt_47b60 18 = .ok (.return_, 1) := by decide +kernel
theorem dJ6_getChars_ba4f3_0 : decode cJ6_getChars_ba4f3 0 = .ok (.iload_n 1, 1) := by decide +kernel
theorem dJ6_getChars_ba4f3_1 : decode cJ6_getChars_ba4f3 1 = .ok (.istore 5, 2) := by decide +kernel
theorem dJ6_getChars_ba4f3_3 : decode cJ6_getChars_ba4f3 3 = .ok (.iload_n 0, 1) := by decide +kernel
theorem dJ6_getChars_ba4f3_4 : decode cJ6_getChars_ba4f3 4 = .ok (.ifCond .ge 7, 3) := by decide +kernel
theorem dJ6_getChars_ba4f3_7 : decode cJ6_getChars_ba4f3 7 = .ok (.iconst 1, 1) := by decide +kernel
theorem dJ6_getChars_ba4f3_8 : decode cJ6_getChars_ba4f3 8 = .ok (.goto 4, 3) := by decide +kernel
theorem dJ6_getChars_ba4f3_11 : decode cJ6_getChars_ba4f3 11 = .ok (.iconst 0, 1) := by decide +kernel
theorem dJ6_getChars_ba4f3_12 : decode cJ6_getChars_ba4f3 12 = .ok (.istore 6, 2) := by decide +kernel
theorem dJ6_getChars_ba4f3_14 : decode cJ6_getChars_ba4f3 14 = .ok (.iload 6, 2) := by decide +kernel
theorem dJ6_getChars_ba4f3_16 : decode cJ6_getChars_ba4f3 16 = .ok (.ifCond .ne 6, 3) := by decide +kernel
theorem dJ6_getChars_ba4f3_19 : decode cJ6_getChars_ba4f3 19 = .ok (.iload_n 0, 1) := by decide +kernel
theorem dJ6_getChars_ba4f3_20 : decode cJ6_getChars_ba4f3 20 = .ok (.ineg, 1) := by decide +kernel
theorem dJ6_getChars_ba4f3_21 : decode cJ6_getChars_ba4f3 21 = .ok (.istore_n 0, 1) := by decide +kernel
theorem dJ6_getChars_ba4f3_22 : decode cJ6_getChars_ba4f3 22 = .ok (.iload_n 0, 1) := by decide +kernel
theorem dJ6_getChars_ba4f3_23 : decode cJ6_getChars_ba4f3 23 = .ok (.bipush (-100), 2) := by decide +kernel
theorem dJ6_getChars_ba4f3_25 : decode cJ6_getChars_ba4f3 25 = .ok (.if_icmp .gt 47, 3) := by decide +kernel
theorem dJ6_getChars_ba4f3_28 : decode cJ6_getChars_ba4f3 28 = .ok (.iload_n 0, 1) := by decide +kernel
theorem dJ6_getChars_ba4f3_29 : decode cJ6_getChars_ba4f3 29 = .ok (.bipush 100, 2) := by decide +kernel
theorem dJ6_getChars_ba4f3_31 : decode cJ6_getChars_ba4f3 31 = .ok (.idiv, 1) := by decide +kernel
theorem dJ6_getChars_ba4f3_32 : decode cJ6_getChars_ba4f3 32 = .ok (.istore_n 3, 1) := by decide +kernel
theorem dJ6_getChars_ba4f3_33 : decode cJ6_getChars_ba4f3 33 = .ok (.iload_n 3, 1) := by decide +kernel
theorem dJ6_getChars_ba4f3_34 : decode cJ6_getChars_ba4f3 34 = .ok (.bipush 100, 2) := by decide +kernel
theorem dJ6_getChars_ba4f3_36 : decode cJ6_getChars_ba4f3 36 = .ok (.imul, 1) := by decide +kernel
theorem dJ6_getChars_ba4f3_37 : decode cJ6_getChars_ba4f3 37 = .ok (.iload_n 0, 1) := by decide +kernel
theorem dJ6_getChars_ba4f3_38 : decode cJ6_getChars_ba4f3 38 = .ok (.isub, 1) := by decide +kernel
theorem dJ6_getChars_ba4f3_39 : decode cJ6_getChars_ba4f3 39 = .ok (.istore 4, 2) := by decide +kernel
theorem dJ6_getChars_ba4f3_41 : decode cJ6_getChars_ba4f3 41 = .ok (.iload_n 3, 1) := by decide +kernel
theorem dJ6_getChars_ba4f3_42 : decode cJ6_getChars_ba4f3 42 = .ok (.istore_n 0, 1) := by decide +kernel
theorem dJ6_getChars_ba4f3_43 : decode cJ6_getChars_ba4f3 43 = .ok (.aload_n 2, 1) := by decide +kernel
theorem dJ6_getChars_ba4f3_44 : decode cJ6_getChars_ba4f3 44 = .ok (.iinc 5 (-1), 3) := by decide +kernel
theorem dJ6_getChars_ba4f3_47 : decode cJ6_getChars_ba4f3 47 = .ok (.iload 5, 2) := by decide +kernel
theorem dJ6_getChars_ba4f3_49 : decode cJ6_getChars_ba4f3 49 = .ok (.getstatic 83, 3) := by decide +kernel
theorem dJ6_getChars_ba4f3_52 : decode cJ6_getChars_ba4f3 52 = .ok (.iload 4, 2) := by decide +kernel
theorem dJ6_getChars_ba4f3_54 : decode cJ6_getChars_ba4f3 54 = .ok (.baload, 1) := by decide +kernel
theorem dJ6_getChars_ba4f3_55 : decode cJ6_getChars_ba4f3 55 = .ok (.bastore, 1) := by decide +kernel
theorem dJ6_getChars_ba4f3_56 : decode cJ6_getChars_ba4f3 56 = .ok (.aload_n 2, 1) := by decide +kernel
theorem dJ6_getChars_ba4f3_57 : decode cJ6_getChars_ba4f3 57 = .ok (.iinc 5 (-1), 3) := by decide +kernel
theorem dJ6_getChars_ba4f3_60 : decode cJ6_getChars_ba4f3 60 = .ok (.iload 5, 2) := by decide +kernel
theorem dJ6_getChars_ba4f3_62 : decode cJ6_getChars_ba4f3 62 = .ok (.getstatic 87, 3) := by decide +kernel
theorem dJ6_getChars_ba4f3_65 : decode cJ6_getChars_ba4f3 65 = .ok (.iload 4, 2) := by decide +kernel
theorem dJ6_getChars_ba4f3_67 : decode cJ6_getChars_ba4f3 67 = .ok (.baload, 1) := by decide +kernel
theorem dJ6_getChars_ba4f3_68 : decode cJ6_getChars_ba4f3 68 = .ok (.bastore, 1) := by decide +kernel
theorem dJ6_getChars_ba4f3_69 : decode cJ6_getChars_ba4f3 69 = .ok (.goto (-47), 3) := by decide +kernel
theorem dJ6_getChars_ba4f3_72 : decode cJ6_getChars_ba4f3 72 = .ok (.aload_n 2, 1) := by decide +kernel
theorem dJ6_getChars_ba4f3_73 : decode cJ6_getChars_ba4f3 73 = .ok (.iinc 5 (-1), 3) := by decide +kernel
theorem dJ6_getChars_ba4f3_76 : decode cJ6_getChars_ba4f3 76 = .ok (.iload 5, 2) := by decide +kernel
theorem dJ6_getChars_ba4f3_78 : decode cJ6_getChars_ba4f3 78 = .ok (.getstatic 83, 3) := by decide +kernel
theorem dJ6_getChars_ba4f3_81 : decode cJ6_getChars_ba4f3 81 = .ok (.iload_n 0, 1) := by decide +kernel
theorem dJ6_getChars_ba4f3_82 : decode cJ6_getChars_ba4f3 82 = .ok (.ineg, 1) := by decide +kernel
theorem dJ6_getChars_ba4f3_83 : decode cJ6_getChars_ba4f3 83 = .ok (.baload, 1) := by decide +kernel
theorem dJ6_getChars_ba4f3_84 : decode cJ6_getChars_ba4f3 84 = .ok (.bastore, 1) := by decide +kernel
theorem dJ6_getChars_ba4f3_85 : decode cJ6_getChars_ba4f3 85 = .ok (.iload_n 0, 1) := by decide +kernel
theorem dJ6_getChars_ba4f3_86 : decode cJ6_getChars_ba4f3 86 = .ok (.bipush (-9), 2) := by decide +kernel
theorem dJ6_getChars_ba4f3_88 : decode cJ6_getChars_ba4f3 88 = .ok (.if_icmp .ge 16, 3) := by decide +kernel
theorem dJ6_getChars_ba4f3_91 : decode cJ6_getChars_ba4f3 91 = .ok (.aload_n 2, 1) := by decide +kernel
theorem dJ6_getChars_ba4f3_92 : decode cJ6_getChars_ba4f3 92 = .ok (.iinc 5 (-1), 3) := by decide +kernel
theorem dJ6_getChars_ba4f3_95 : decode cJ6_getChars_ba4f3 95 = .ok (.iload 5, 2) := by decide +kernel
theorem dJ6_getChars_ba4f3_97 : decode cJ6_getChars_ba4f3 97 = .ok (.getstatic 87, 3) := by decide +kernel
theorem dJ6_getChars_ba4f3_100 : decode cJ6_getChars_ba4f3 100 = .ok (.iload_n 0, 1) := by decide +kernel
theorem dJ6_getChars_ba4f3_101 : decode cJ6_getChars_ba4f3 101 = .ok (.ineg, 1) := by decide +kernel
theorem dJ6_getChars_ba4f3_102 : decode cJ6_getChars_ba4f3 102 = .ok (.baload, 1) := by decide +kernel
theorem dJ6_getChars_ba4f3_103 : decode cJ6_getChars_ba4f3 103 = .ok (.bastore, 1) := by decide +kernel
theorem dJ6_getChars_ba4f3_104 : decode cJ6_getChars_ba4f3 104 = .ok (.iload 6, 2) := by decide +kernel
theorem dJ6_getChars_ba4f3_106 : decode cJ6_getChars_ba4f3 106 = .ok (.ifCond .eq 12, 3) := by decide +kernel
theorem dJ6_getChars_ba4f3_109 : decode cJ6_getChars_ba4f3 109 = .ok (.aload_n 2, 1) := by decide +kernel
theorem dJ6_getChars_ba4f3_110 : decode cJ6_getChars_ba4f3 110 = .ok (.iinc 5 (-1), 3) := by decide +kernel
theorem dJ6_getChars_ba4f3_113 : decode cJ6_getChars_ba4f3 113 = .ok (.iload 5, 2) := by decide +kernel
theorem dJ6_getChars_ba4f3_115 : decode cJ6_getChars_ba4f3 115 = .ok (.bipush 45, 2) := by decide +kernel
theorem dJ6_getChars_ba4f3_117 : decode cJ6_getChars_ba4f3 117 = .ok (.bastore, 1) := by decide +kernel
theorem dJ6_getChars_ba4f3_118 : decode cJ6_getChars_ba4f3 118 = .ok (.iload 5, 2) := by decide +kernel
theorem dJ6_getChars_ba4f3_120 : decode cJ6_getChars_ba4f3 120 = .ok (.ireturn, 1) := by decide +kernel
theorem dJ6_stringSize_0f7a4_0 : decode cJ6_stringSize_0f7a4 0 = .ok (.iconst 1, 1) := by decide +kernel
theorem dJ6_stringSize_0f7a4_1 : decode cJ6_stringSize_0f7a4 1 = .ok (.istore_n 1, 1) := by decide +kernel
theorem dJ6_stringSize_0f7a4_2 : decode cJ6_stringSize_0f7a4 2 = .ok (.iload_n 0, 1) := by decide +kernel
theorem dJ6_stringSize_0f7a4_3 : decode cJ6_stringSize_0f7a4 3 = .ok (.ifCond .lt 8, 3) := by decide +kernel
theorem dJ6_stringSize_0f7a4_6 : decode cJ6_stringSize_0f7a4 6 = .ok (.iconst 0, 1) := by decide +kernel
theorem dJ6_stringSize_0f7a4_7 : decode cJ6_stringSize_0f7a4 7 = .ok (.istore_n 1, 1) := by decide +kernel
theorem dJ6_stringSize_0f7a4_8 : decode cJ6_stringSize_0f7a4 8 = .ok (.iload_n 0, 1) := by decide +kernel
theorem dJ6_stringSize_0f7a4_9 : decode cJ6_stringSize_0f7a4 9 = .ok (.ineg, 1) := by decide +kernel
theorem dJ6_stringSize_0f7a4_10 : decode cJ6_stringSize_0f7a4 10 = .ok (.istore_n 0, 1) := by decide +kernel
theorem dJ6_stringSize_0f7a4_11 : decode cJ6_stringSize_0f7a4 11 = .ok (.bipush (-10), 2) := by decide +kernel
theorem dJ6_stringSize_0f7a4_13 : decode cJ6_stringSize_0f7a4 13 = .ok (.istore_n 2, 1) := by decide +kernel
theorem dJ6_stringSize_0f7a4_14 : decode cJ6_stringSize_0f7a4 14 = .ok (.iconst 1, 1) := by decide +kernel
theorem dJ6_stringSize_0f7a4_15 : decode cJ6_stringSize_0f7a4 15 = .ok (.istore_n 3, 1) := by decide +kernel
theorem dJ6_stringSize_0f7a4_16 : decode cJ6_stringSize_0f7a4 16 = .ok (.iload_n 3, 1) := by decide +kernel
theorem dJ6_stringSize_0f7a4_17 : decode cJ6_stringSize_0f7a4 17 = .ok (.bipush 10, 2) := by decide +kernel
theorem dJ6_stringSize_0f7a4_19 : decode cJ6_stringSize_0f7a4 19 = .ok (.if_icmp .ge 23, 3) := by decide +kernel
theorem dJ6_stringSize_0f7a4_22 : decode cJ6_stringSize_0f7a4 22 = .ok (.iload_n 0, 1) := by decide +kernel
theorem dJ6_stringSize_0f7a4_23 : decode cJ6_stringSize_0f7a4 23 = .ok (.iload_n 2, 1) := by decide +kernel
theorem dJ6_stringSize_0f7a4_24 : decode cJ6_stringSize_0f7a4 24 = .ok (.if_icmp .le 7, 3) := by decide +kernel
theorem dJ6_stringSize_0f7a4_27 : decode cJ6_stringSize_0f7a4 27 = .ok (.iload_n 3, 1) := by decide +kernel
theorem dJ6_stringSize_0f7a4_28 : decode cJ6_stringSize_0f7a4 28 = .ok (.iload_n 1, 1) := by decide +kernel
theorem dJ6_stringSize_0f7a4_29 : decode cJ6_stringSize_0f7a4 29 = .ok (.iadd, 1) := by decide +kernel
theorem dJ6_stringSize_0f7a4_30 : decode cJ6_stringSize_0f7a4 30 = .ok (.ireturn, 1) := by decide +kernel
theorem dJ6_stringSize_0f7a4_31 : decode cJ6_stringSize_0f7a4 31 = .ok (.bipush 10, 2) := by decide +kernel
theorem dJ6_stringSize_0f7a4_33 : decode cJ6_stringSize_0f7a4 33 = .ok (.iload_n 2, 1) := by decide +kernel
theorem dJ6_stringSize_0f7a4_34 : decode cJ6_stringSize_0f7a4 34 = .ok (.imul, 1) := by decide +kernel
theorem dJ6_stringSize_0f7a4_35 : decode cJ6_stringSize_0f7a4 35 = .ok (.istore_n 2, 1) := by decide +kernel
theorem dJ6_stringSize_0f7a4_36 : decode cJ6_stringSize_0f7a4 36 = .ok (.iinc 3 1, 3) := by decide +kernel
theorem dJ6_stringSize_0f7a4_39 : decode cJ6_stringSize_0f7a4 39 = .ok (.goto (-23), 3) := by decide +kernel
theorem dJ6_stringSize_0f7a4_42 : decode cJ6_stringSize_0f7a4 42 = .ok (.bipush 10, 2) := by decide +kernel
theorem dJ6_stringSize_0f7a4_44 : decode cJ6_stringSize_0f7a4 44 = .ok (.iload_n 1, 1) := by decide +kernel
theorem dJ6_stringSize_0f7a4_45 : decode cJ6_stringSize_0f7a4 45 = .ok (.iadd, 1) := by decide +kernel
theorem dJ6_stringSize_0f7a4_46 : decode cJ6_stringSize_0f7a4 46 = .ok (.ireturn, 1) := by decide +kernel
theorem dJ9_floorMod_7cf53_0 : decode cJ9_floorMod_7cf53 0 = .ok (.iload_n 0, 1) := by decide +kernel
theorem dJ9_floorMod_7cf53_1 : decode cJ9_floorMod_7cf53 1 = .ok (.iload_n 1, 1) := by decide +kernel
theorem dJ9_floorMod_7cf53_2 : decode cJ9_floorMod_7cf53 2 = .ok (.irem, 1) := by decide +kernel
theorem dJ9_floorMod_7cf53_3 : decode cJ9_floorMod_7cf53 3 = .ok (.istore_n 2, 1) := by decide +kernel
theorem dJ9_floorMod_7cf53_4 : decode cJ9_floorMod_7cf53 4 = .ok (.iload_n 0, 1) := by decide +kernel
theorem dJ9_floorMod_7cf53_5 : decode cJ9_floorMod_7cf53 5 = .ok (.iload_n 1, 1) := by decide +kernel
theorem dJ9_floorMod_7cf53_6 : decode cJ9_floorMod_7cf53 6 = .ok (.ixor, 1) := by decide +kernel
theorem dJ9_floorMod_7cf53_7 : decode cJ9_floorMod_7cf53 7 = .ok (.ifCond .ge 11, 3) := by decide +kernel
theorem dJ9_floorMod_7cf53_10 : decode cJ9_floorMod_7cf53 10 = .ok (.iload_n 2, 1) := by decide +kernel
theorem dJ9_floorMod_7cf53_11 : decode cJ9_floorMod_7cf53 11 = .ok (.ifCond .eq 7, 3) := by decide +kernel
theorem dJ9_floorMod_7cf53_14 : decode cJ9_floorMod_7cf53 14 = .ok (.iload_n 2, 1) := by decide +kernel
theorem dJ9_floorMod_7cf53_15 : decode cJ9_floorMod_7cf53 15 = .ok (.iload_n 1, 1) := by decide +kernel
theorem dJ9_floorMod_7cf53_16 : decode cJ9_floorMod_7cf53 16 = .ok (.iadd, 1) := by decide +kernel
theorem dJ9_floorMod_7cf53_17 : decode cJ9_floorMod_7cf53 17 = .ok (.ireturn, 1) := by decide +kernel
theorem dJ9_floorMod_7cf53_18 : decode cJ9_floorMod_7cf53 18 = .ok (.iload_n 2, 1) := by decide +kernel
theorem dJ9_floorMod_7cf53_19 : decode cJ9_floorMod_7cf53 19 = .ok (.ireturn, 1) := by decide +kernel
theorem dJ9_abs_0f7a4_0 : decode cJ9_abs_0f7a4 0 = .ok (.iload_n 0, 1) := by decide +kernel
theorem dJ9_abs_0f7a4_1 : decode cJ9_abs_0f7a4 1 = .ok (.ifCond .ge 8, 3) := by decide +kernel
theorem dJ9_abs_0f7a4_4 : decode cJ9_abs_0f7a4 4 = .ok (.iload_n 0, 1) := by decide +kernel
theorem dJ9_abs_0f7a4_5 : decode cJ9_abs_0f7a4 5 = .ok (.ineg, 1) := by decide +kernel
theorem dJ9_abs_0f7a4_6 : decode cJ9_abs_0f7a4 6 = .ok (.goto 4, 3) := by decide +kernel
theorem dJ9_abs_0f7a4_9 : decode cJ9_abs_0f7a4 9 = .ok (.iload_n 0, 1) := by decide +kernel
theorem dJ9_abs_0f7a4_10 : decode cJ9_abs_0f7a4 10 = .ok (.ireturn, 1) := by decide +kernel
theorem dJ9_max_7cf53_0 : decode cJ9_max_7cf53 0 = .ok (.iload_n 0, 1) := by decide +kernel
theorem dJ9_max_7cf53_1 : decode cJ9_max_7cf53 1 = .ok (.iload_n 1, 1) := by decide +kernel
theorem dJ9_max_7cf53_2 : decode cJ9_max_7cf53 2 = .ok (.if_icmp .lt 7, 3) := by decide +kernel
theorem dJ9_max_7cf53_5 : decode cJ9_max_7cf53 5 = .ok (.iload_n 0, 1) := by decide +kernel
theorem dJ9_max_7cf53_6 : decode cJ9_max_7cf53 6 = .ok (.goto 4, 3) := by decide +kernel
theorem dJ9_max_7cf53_9 : decode cJ9_max_7cf53 9 = .ok (.iload_n 1, 1) := by decide +kernel
theorem dJ9_max_7cf53_10 : decode cJ9_max_7cf53 10 = .ok (.ireturn, 1) := by decide +kernel
theorem dJ9_min_7cf53_0 : decode cJ9_min_7cf53 0 = .ok (.iload_n 0, 1) := by decide +kernel
theorem dJ9_min_7cf53_1 : decode cJ9_min_7cf53 1 = .ok (.iload_n 1, 1) := by decide +kernel
theorem dJ9_min_7cf53_2 : decode cJ9_min_7cf53 2 = .ok (.if_icmp .gt 7, 3) := by decide +kernel
theorem dJ9_min_7cf53_5 : decode cJ9_min_7cf53 5 = .ok (.iload_n 0, 1) := by decide +kernel
theorem dJ9_min_7cf53_6 : decode cJ9_min_7cf53 6 = .ok (.goto 4, 3) := by decide +kernel
theorem dJ9_min_7cf53_9 : decode cJ9_min_7cf53 9 = .ok (.iload_n 1, 1) := by decide +kernel
theorem dJ9_min_7cf53_10 : decode cJ9_min_7cf53 10 = .ok (.ireturn, 1) := by decide +kernel
theorem dJ0_length_8abf5_0 : decode cJ0_length_8abf5 0 = .ok (.aload_n 0, 1) := by decide +kernel
theorem dJ0_length_8abf5_1 : decode cJ0_length_8abf5 1 = .ok (.getfield 9, 3) := by decide +kernel
theorem dJ0_length_8abf5_4 : decode cJ0_length_8abf5 4 = .ok (.arraylength, 1) := by decide +kernel
theorem dJ0_length_8abf5_5 : decode cJ0_length_8abf5 5 = .ok (.aload_n 0, 1) := by decide +kernel
theorem dJ0_length_8abf5_6 : decode cJ0_length_8abf5 6 = .ok (.invokevirtual 335, 3) := by decide +kernel
theorem dJ0_length_8abf5_9 : decode cJ0_length_8abf5 9 = .ok (.ishr, 1) := by decide +kernel
theorem dJ0_length_8abf5_10 : decode cJ0_length_8abf5 10 = .ok (.ireturn, 1) := by decide +kernel
theorem dJ0_charAt_5068e_0 : decode cJ0_charAt_5068e 0 = .ok (.aload_n 0, 1) := by decide +kernel
theorem dJ0_charAt_5068e_1 : decode cJ0_charAt_5068e 1 = .ok (.invokevirtual 492, 3) := by decide +kernel
theorem dJ0_charAt_5068e_4 : decode cJ0_charAt_5068e 4 = .ok (.ifCond .eq 12, 3) := by decide +kernel
theorem dJ0_charAt_5068e_7 : decode cJ0_charAt_5068e 7 = .ok (.aload_n 0, 1) := by decide +kernel
theorem dJ0_charAt_5068e_8 : decode cJ0_charAt_5068e 8 = .ok (.getfield 9, 3) := by decide +kernel
theorem dJ0_charAt_5068e_11 : decode cJ0_charAt_5068e 11 = .ok (.iload_n 1, 1) := by decide +kernel
theorem dJ0_charAt_5068e_12 : decode cJ0_charAt_5068e 12 = .ok (.invokestatic 495, 3) := by decide +kernel
theorem dJ0_charAt_5068e_15 : decode cJ0_charAt_5068e 15 = .ok (.ireturn, 1) := by decide +kernel
theorem dJ0_charAt_5068e_16 : decode cJ0_charAt_5068e 16 = .ok (.aload_n 0, 1) := by decide +kernel
theorem dJ0_charAt_5068e_17 : decode cJ0_charAt_5068e 17 = .ok (.getfield 9, 3) := by decide +kernel
theorem dJ0_charAt_5068e_20 : decode cJ0_charAt_5068e 20 = .ok (.iload_n 1, 1) := by decide +kernel
theorem dJ0_charAt_5068e_21 : decode cJ0_charAt_5068e 21 = .ok (.invokestatic 498, 3) := by decide +kernel
theorem dJ0_charAt_5068e_24 : decode cJ0_charAt_5068e 24 = .ok (.ireturn, 1) := by decide +kernel
theorem dJ0_getBytes_840e7_0 : decode cJ0_getBytes_840e7 0 = .ok (.aload_n 0, 1) := by decide +kernel
theorem dJ0_getBytes_840e7_1 : decode cJ0_getBytes_840e7 1 = .ok (.invokevirtual 335, 3) := by decide +kernel
theorem dJ0_getBytes_840e7_4 : decode cJ0_getBytes_840e7 4 = .ok (.iload_n 3, 1) := by decide +kernel
theorem dJ0_getBytes_840e7_5 : decode cJ0_getBytes_840e7 5 = .ok (.if_icmp .ne 23, 3) := by decide +kernel
theorem dJ0_getBytes_840e7_8 : decode cJ0_getBytes_840e7 8 = .ok (.aload_n 0, 1) := by decide +kernel
theorem dJ0_getBytes_840e7_9 : decode cJ0_getBytes_840e7 9 = .ok (.getfield 9, 3) := by decide +kernel
theorem dJ0_getBytes_840e7_12 : decode cJ0_getBytes_840e7 12 = .ok (.iconst 0, 1) := by decide +kernel
theorem dJ0_getBytes_840e7_13 : decode cJ0_getBytes_840e7 13 = .ok (.aload_n 1, 1) := by decide +kernel
theorem dJ0_getBytes_840e7_14 : decode cJ0_getBytes_840e7 14 = .ok (.iload_n 2, 1) := by decide +kernel
theorem dJ0_getBytes_840e7_15 : decode cJ0_getBytes_840e7 15 = .ok (.iload_n 3, 1) := by decide +kernel
theorem dJ0_getBytes_840e7_16 : decode cJ0_getBytes_840e7 16 = .ok (.ishl, 1) := by decide +kernel
theorem dJ0_getBytes_840e7_17 : decode cJ0_getBytes_840e7 17 = .ok (.aload_n 0, 1) := by decide +kernel
theorem dJ0_getBytes_840e7_18 : decode cJ0_getBytes_840e7 18 = .ok (.getfield 9, 3) := by decide +kernel
theorem dJ0_getBytes_840e7_21 : decode cJ0_getBytes_840e7 21 = .ok (.arraylength, 1) := by decide +kernel
theorem dJ0_getBytes_840e7_22 : decode cJ0_getBytes_840e7 22 = .ok (.invokestatic 212, 3) := by decide +kernel
theorem dJ0_getBytes_840e7_25 : decode cJ0_getBytes_840e7 25 = .ok (.goto 18, 3) := by decide +kernel
theorem dJ0_getBytes_840e7_28 : decode cJ0_getBytes_840e7 28 = .ok (.aload_n 0, 1) := by decide +kernel
theorem dJ0_getBytes_840e7_29 : decode cJ0_getBytes_840e7 29 = .ok (.getfield 9, 3) := by decide +kernel
theorem dJ0_getBytes_840e7_32 : decode cJ0_getBytes_840e7 32 = .ok (.iconst 0, 1) := by decide +kernel
theorem dJ0_getBytes_840e7_33 : decode cJ0_getBytes_840e7 33 = .ok (.aload_n 1, 1) := by decide +kernel
theorem dJ0_getBytes_840e7_34 : decode cJ0_getBytes_840e7 34 = .ok (.iload_n 2, 1) := by decide +kernel
theorem dJ0_getBytes_840e7_35 : decode cJ0_getBytes_840e7 35 = .ok (.aload_n 0, 1) := by decide +kernel
theorem dJ0_getBytes_840e7_36 : decode cJ0_getBytes_840e7 36 = .ok (.getfield 9, 3) := by decide +kernel
theorem dJ0_getBytes_840e7_39 : decode cJ0_getBytes_840e7 39 = .ok (.arraylength, 1) := by decide +kernel
theorem dJ0_getBytes_840e7_40 : decode cJ0_getBytes_840e7 40 = .ok (.invokestatic 106, 3) := by decide +kernel
theorem dJ0_getBytes_840e7_43 : decode cJ0_getBytes_840e7 43 = .ok (.return_, 1) := by decide +kernel
theorem dJ0_coder_7d493_0 : decode cJ0_coder_7d493 0 = .ok (.getstatic 38, 3) := by decide +kernel
theorem dJ0_coder_7d493_3 : decode cJ0_coder_7d493 3 = .ok (.ifCond .eq 10, 3) := by decide +kernel
theorem dJ0_coder_7d493_6 : decode cJ0_coder_7d493 6 = .ok (.aload_n 0, 1) := by decide +kernel
theorem dJ0_coder_7d493_7 : decode cJ0_coder_7d493 7 = .ok (.getfield 15, 3) := by decide +kernel
theorem dJ0_coder_7d493_10 : decode cJ0_coder_7d493 10 = .ok (.goto 4, 3) := by decide +kernel
theorem dJ0_coder_7d493_13 : decode cJ0_coder_7d493 13 = .ok (.iconst 1, 1) := by decide +kernel
theorem dJ0_coder_7d493_14 : decode cJ0_coder_7d493 14 = .ok (.ireturn, 1) := by decide +kernel
theorem dJ0_isLatin1_aae02_0 : decode cJ0_isLatin1_aae02 0 = .ok (.getstatic 38, 3) := by decide +kernel
theorem dJ0_isLatin1_aae02_3 : decode cJ0_isLatin1_aae02 3 = .ok (.ifCond .eq 14, 3) := by decide +kernel
theorem dJ0_isLatin1_aae02_6 : decode cJ0_isLatin1_aae02 6 = .ok (.aload_n 0, 1) := by decide +kernel
theorem dJ0_isLatin1_aae02_7 : decode cJ0_isLatin1_aae02 7 = .ok (.getfield 15, 3) := by decide +kernel
theorem dJ0_isLatin1_aae02_10 : decode cJ0_isLatin1_aae02 10 = .ok (.ifCond .ne 7, 3) := by decide +kernel
theorem dJ0_isLatin1_aae02_13 : decode cJ0_isLatin1_aae02 13 = .ok (.iconst 1, 1) := by decide +kernel
theorem dJ0_isLatin1_aae02_14 : decode cJ0_isLatin1_aae02 14 = .ok (.goto 4, 3) := by decide +kernel
theorem dJ0_isLatin1_aae02_17 : decode cJ0_isLatin1_aae02 17 = .ok (.iconst 0, 1) := by decide +kernel
theorem dJ0_isLatin1_aae02_18 : decode cJ0_isLatin1_aae02 18 = .ok (.ireturn, 1) := by decide +kernel
theorem dJ0_checkIndex_df160_0 : decode cJ0_checkIndex_df160 0 = .ok (.iload_n 0, 1) := by decide +kernel
theorem dJ0_checkIndex_df160_1 : decode cJ0_checkIndex_df160 1 = .ok (.iload_n 1, 1) := by decide +kernel
theorem dJ0_checkIndex_df160_2 : decode cJ0_checkIndex_df160 2 = .ok (.getstatic 1053, 3) := by decide +kernel
theorem dJ0_checkIndex_df160_5 : decode cJ0_checkIndex_df160 5 = .ok (.invokestatic 1059, 3) := by decide +kernel
theorem dJ0_checkIndex_df160_8 : decode cJ0_checkIndex_df160 8 = .ok (.pop, 1) := by decide +kernel
theorem dJ0_checkIndex_df160_9 : decode cJ0_checkIndex_df160 9 = .ok (.return_, 1) := by decide +kernel
theorem dJ0_checkBoundsOffCount_cabcc_0 : decode cJ0_checkBoundsOffCount_cabcc 0 = .ok (.iload_n 0, 1) := by decide +kernel
theorem dJ0_checkBoundsOffCount_cabcc_1 : decode cJ0_checkBoundsOffCount_cabcc 1 = .ok (.iload_n 1, 1) := by decide +kernel
theorem dJ0_checkBoundsOffCount_cabcc_2 : decode cJ0_checkBoundsOffCount_cabcc 2 = .ok (.iload_n 2, 1) := by decide +kernel
theorem dJ0_checkBoundsOffCount_cabcc_3 : decode cJ0_checkBoundsOffCount_cabcc 3 = .ok (.getstatic 1053, 3) := by decide +kernel
theorem dJ0_checkBoundsOffCount_cabcc_6 : decode cJ0_checkBoundsOffCount_cabcc 6 = .ok (.invokestatic 1065, 3) := by decide +kernel
theorem dJ0_checkBoundsOffCount_cabcc_9 : decode cJ0_checkBoundsOffCount_cabcc 9 = .ok (.ireturn, 1) := by decide +kernel
theorem dJ0_checkBoundsBeginEnd_23922_0 : decode cJ0_checkBoundsBeginEnd_23922 0 = .ok (.iload_n 0, 1) := by decide +kernel
theorem dJ0_checkBoundsBeginEnd_23922_1 : decode cJ0_checkBoundsBeginEnd_23922 1 = .ok (.iload_n 1, 1) := by decide +kernel
theorem dJ0_checkBoundsBeginEnd_23922_2 : decode cJ0_checkBoundsBeginEnd_23922 2 = .ok (.iload_n 2, 1) := by decide +kernel
theorem dJ0_checkBoundsBeginEnd_23922_3 : decode cJ0_checkBoundsBeginEnd_23922 3 = .ok (.getstatic 1053, 3) := by decide +kernel
theorem dJ0_checkBoundsBeginEnd_23922_6 : decode cJ0_checkBoundsBeginEnd_23922 6 = .ok (.invokestatic 1062, 3) := by decide +kernel
theorem dJ0_checkBoundsBeginEnd_23922_9 : decode cJ0_checkBoundsBeginEnd_23922 9 = .ok (.pop, 1) := by decide +kernel
theorem dJ0_checkBoundsBeginEnd_23922_10 : decode cJ0_checkBoundsBeginEnd_23922 10 = .ok (.return_, 1) := by decide +kernel
theorem dJ4_init_a7421_0 : decode cJ4_init_a7421 0 = .ok (.aload_n 0, 1) := by decide +kernel
theorem dJ4_init_a7421_1 : decode cJ4_init_a7421 1 = .ok (.aload_n 1, 1) := by decide +kernel
theorem dJ4_init_a7421_2 : decode cJ4_init_a7421 2 = .ok (.invokespecial 7, 3) := by decide +kernel
theorem dJ4_init_a7421_5 : decode cJ4_init_a7421 5 = .ok (.return_, 1) := by decide +kernel
theorem dJ4_append_15ec4_0 : decode cJ4_append_15ec4 0 = .ok (.aload_n 0, 1) := by decide +kernel
theorem dJ4_append_15ec4_1 : decode cJ4_append_15ec4 1 = .ok (.aload_n 1, 1) := by decide +kernel
theorem dJ4_append_15ec4_2 : decode cJ4_append_15ec4 2 = .ok (.invokespecial 29, 3) := by decide +kernel
theorem dJ4_append_15ec4_5 : decode cJ4_append_15ec4 5 = .ok (.pop, 1) := by decide +kernel
theorem dJ4_append_15ec4_6 : decode cJ4_append_15ec4 6 = .ok (.aload_n 0, 1) := by decide +kernel
theorem dJ4_append_15ec4_7 : decode cJ4_append_15ec4 7 = .ok (.areturn, 1) := by decide +kernel
theorem dJ4_append_bf812_0 : decode cJ4_append_bf812 0 = .ok (.aload_n 0, 1) := by decide +kernel
theorem dJ4_append_bf812_1 : decode cJ4_append_bf812 1 = .ok (.iload_n 1, 1) := by decide +kernel
theorem dJ4_append_bf812_2 : decode cJ4_append_bf812 2 = .ok (.invokespecial 53, 3) := by decide +kernel
theorem dJ4_append_bf812_5 : decode cJ4_append_bf812 5 = .ok (.pop, 1) := by decide +kernel
theorem dJ4_append_bf812_6 : decode cJ4_append_bf812 6 = .ok (.aload_n 0, 1) := by decide +kernel
theorem dJ4_append_bf812_7 : decode cJ4_append_bf812 7 = .ok (.areturn, 1) := by decide +kernel
theorem dJ4_append_cf1ce_0 : decode cJ4_append_cf1ce 0 = .ok (.aload_n 0, 1) := by decide +kernel
theorem dJ4_append_cf1ce_1 : decode cJ4_append_cf1ce 1 = .ok (.aload_n 1, 1) := by decide +kernel
theorem dJ4_append_cf1ce_2 : decode cJ4_append_cf1ce 2 = .ok (.invokevirtual 23, 3) := by decide +kernel
theorem dJ4_append_cf1ce_5 : decode cJ4_append_cf1ce 5 = .ok (.areturn, 1) := by decide +kernel
theorem dJ4_charAt_5068e_0 : decode cJ4_charAt_5068e 0 = .ok (.aload_n 0, 1) := by decide +kernel
theorem dJ4_charAt_5068e_1 : decode cJ4_charAt_5068e 1 = .ok (.iload_n 1, 1) := by decide +kernel
theorem dJ4_charAt_5068e_2 : decode cJ4_charAt_5068e 2 = .ok (.invokespecial 329, 3) := by decide +kernel
theorem dJ4_charAt_5068e_5 : decode cJ4_charAt_5068e 5 = .ok (.ireturn, 1) := by decide +kernel
theorem dJ4_length_8abf5_0 : decode cJ4_length_8abf5 0 = .ok (.aload_n 0, 1) := by decide +kernel
theorem dJ4_length_8abf5_1 : decode cJ4_length_8abf5 1 = .ok (.invokespecial 343, 3) := by decide +kernel
theorem dJ4_length_8abf5_4 : decode cJ4_length_8abf5 4 = .ok (.ireturn, 1) := by decide +kernel
theorem dJ1_charAt_3b067_0 : decode cJ1_charAt_3b067 0 = .ok (.iload_n 1, 1) := by decide +kernel
theorem dJ1_charAt_3b067_1 : decode cJ1_charAt_3b067 1 = .ok (.aload_n 0, 1) := by decide +kernel
theorem dJ1_charAt_3b067_2 : decode cJ1_charAt_3b067 2 = .ok (.arraylength, 1) := by decide +kernel
theorem dJ1_charAt_3b067_3 : decode cJ1_charAt_3b067 3 = .ok (.invokestatic 9, 3) := by decide +kernel
theorem dJ1_charAt_3b067_6 : decode cJ1_charAt_3b067 6 = .ok (.aload_n 0, 1) := by decide +kernel
theorem dJ1_charAt_3b067_7 : decode cJ1_charAt_3b067 7 = .ok (.iload_n 1, 1) := by decide +kernel
theorem dJ1_charAt_3b067_8 : decode cJ1_charAt_3b067 8 = .ok (.baload, 1) := by decide +kernel
theorem dJ1_charAt_3b067_9 : decode cJ1_charAt_3b067 9 = .ok (.sipush 255, 3) := by decide +kernel
theorem dJ1_charAt_3b067_12 : decode cJ1_charAt_3b067 12 = .ok (.iand, 1) := by decide +kernel
theorem dJ1_charAt_3b067_13 : decode cJ1_charAt_3b067 13 = .ok (.i2c, 1) := by decide +kernel
theorem dJ1_charAt_3b067_14 : decode cJ1_charAt_3b067 14 = .ok (.ireturn, 1) := by decide +kernel
theorem dJ1_inflate_0e8fd_0 : decode cJ1_inflate_0e8fd 0 = .ok (.aload_n 0, 1) := by decide +kernel
theorem dJ1_inflate_0e8fd_1 : decode cJ1_inflate_0e8fd 1 = .ok (.iload_n 1, 1) := by decide +kernel
theorem dJ1_inflate_0e8fd_2 : decode cJ1_inflate_0e8fd 2 = .ok (.aload_n 2, 1) := by decide +kernel
theorem dJ1_inflate_0e8fd_3 : decode cJ1_inflate_0e8fd 3 = .ok (.iload_n 3, 1) := by decide +kernel
theorem dJ1_inflate_0e8fd_4 : decode cJ1_inflate_0e8fd 4 = .ok (.iload 4, 2) := by decide +kernel
theorem dJ1_inflate_0e8fd_6 : decode cJ1_inflate_0e8fd 6 = .ok (.invokestatic 240, 3) := by decide +kernel
theorem dJ1_inflate_0e8fd_9 : decode cJ1_inflate_0e8fd 9 = .ok (.return_, 1) := by decide +kernel
theorem dJ2_newBytesFor_77867_0 : decode cJ2_newBytesFor_77867 0 = .ok (.iload_n 0, 1) := by decide +kernel
theorem dJ2_newBytesFor_77867_1 : decode cJ2_newBytesFor_77867 1 = .ok (.invokestatic 11, 3) := by decide +kernel
theorem dJ2_newBytesFor_77867_4 : decode cJ2_newBytesFor_77867 4 = .ok (.newarray .byte, 2) := by decide +kernel
theorem dJ2_newBytesFor_77867_6 : decode cJ2_newBytesFor_77867 6 = .ok (.areturn, 1) := by decide +kernel
theorem dJ2_newBytesLength_0f7a4_0 : decode cJ2_newBytesLength_0f7a4 0 = .ok (.iload_n 0, 1) := by decide +kernel
theorem dJ2_newBytesLength_0f7a4_1 : decode cJ2_newBytesLength_0f7a4 1 = .ok (.ifCond .ge 11, 3) := by decide +kernel
theorem dJ2_newBytesLength_0f7a4_4 : decode cJ2_newBytesLength_0f7a4 4 = .ok (.new 17, 3) := by decide +kernel
theorem dJ2_newBytesLength_0f7a4_7 : decode cJ2_newBytesLength_0f7a4 7 = .ok (.dup, 1) := by decide +kernel
theorem dJ2_newBytesLength_0f7a4_8 : decode cJ2_newBytesLength_0f7a4 8 = .ok (.invokespecial 19, 3) := by decide +kernel
theorem dJ2_newBytesLength_0f7a4_11 : decode cJ2_newBytesLength_0f7a4 11 = .ok (.athrow, 1) := by decide +kernel
theorem dJ2_newBytesLength_0f7a4_12 : decode cJ2_newBytesLength_0f7a4 12 = .ok (.iload_n 0, 1) := by decide +kernel
theorem dJ2_newBytesLength_0f7a4_13 : decode cJ2_newBytesLength_0f7a4 13 = .ok (.ldc 20, 2) := by decide +kernel
theorem dJ2_newBytesLength_0f7a4_15 : decode cJ2_newBytesLength_0f7a4 15 = .ok (.if_icmp .lt 40, 3) := by decide +kernel
theorem dJ2_newBytesLength_0f7a4_18 : decode cJ2_newBytesLength_0f7a4 18 = .ok (.new 21, 3) := by decide +kernel
theorem dJ2_newBytesLength_0f7a4_21 : decode cJ2_newBytesLength_0f7a4 21 = .ok (.dup, 1) := by decide +kernel
theorem dJ2_newBytesLength_0f7a4_22 : decode cJ2_newBytesLength_0f7a4 22 = .ok (.new 23, 3) := by decide +kernel
theorem dJ2_newBytesLength_0f7a4_25 : decode cJ2_newBytesLength_0f7a4 25 = .ok (.dup, 1) := by decide +kernel
theorem dJ2_newBytesLength_0f7a4_26 : decode cJ2_newBytesLength_0f7a4 26 = .ok (.invokespecial 25, 3) := by decide +kernel
theorem dJ2_newBytesLength_0f7a4_29 : decode cJ2_newBytesLength_0f7a4 29 = .ok (.ldc 26, 2) := by decide +kernel
theorem dJ2_newBytesLength_0f7a4_31 : decode cJ2_newBytesLength_0f7a4 31 = .ok (.invokevirtual 28, 3) := by decide +kernel
theorem dJ2_newBytesLength_0f7a4_34 : decode cJ2_newBytesLength_0f7a4 34 = .ok (.iload_n 0, 1) := by decide +kernel
theorem dJ2_newBytesLength_0f7a4_35 : decode cJ2_newBytesLength_0f7a4 35 = .ok (.invokevirtual 32, 3) := by decide +kernel
theorem dJ2_newBytesLength_0f7a4_38 : decode cJ2_newBytesLength_0f7a4 38 = .ok (.ldc 35, 2) := by decide +kernel
theorem dJ2_newBytesLength_0f7a4_40 : decode cJ2_newBytesLength_0f7a4 40 = .ok (.invokevirtual 28, 3) := by decide +kernel
theorem dJ2_newBytesLength_0f7a4_43 : decode cJ2_newBytesLength_0f7a4 43 = .ok (.ldc 20, 2) := by decide +kernel
theorem dJ2_newBytesLength_0f7a4_45 : decode cJ2_newBytesLength_0f7a4 45 = .ok (.invokevirtual 32, 3) := by decide +kernel
theorem dJ2_newBytesLength_0f7a4_48 : decode cJ2_newBytesLength_0f7a4 48 = .ok (.invokevirtual 37, 3) := by decide +kernel
theorem dJ2_newBytesLength_0f7a4_51 : decode cJ2_newBytesLength_0f7a4 51 = .ok (.invokespecial 41, 3) := by decide +kernel
theorem dJ2_newBytesLength_0f7a4_54 : decode cJ2_newBytesLength_0f7a4 54 = .ok (.athrow, 1) := by decide +kernel
theorem dJ2_newBytesLength_0f7a4_55 : decode cJ2_newBytesLength_0f7a4 55 = .ok (.iload_n 0, 1) := by decide +kernel
theorem dJ2_newBytesLength_0f7a4_56 : decode cJ2_newBytesLength_0f7a4 56 = .ok (.iconst 1, 1) := by decide +kernel
theorem dJ2_newBytesLength_0f7a4_57 : decode cJ2_newBytesLength_0f7a4 57 = .ok (.ishl, 1) := by decide +kernel
theorem dJ2_newBytesLength_0f7a4_58 : decode cJ2_newBytesLength_0f7a4 58 = .ok (.ireturn, 1) := by decide +kernel
theorem dJ2_putChar_b72d1_0 : decode cJ2_putChar_b72d1 0 = .ok (.getstatic 44, 3) := by decide +kernel
theorem dJ2_putChar_b72d1_3 : decode cJ2_putChar_b72d1 3 = .ok (.ifCond .ne 25, 3) := by decide +kernel
theorem dJ2_putChar_b72d1_6 : decode cJ2_putChar_b72d1 6 = .ok (.iload_n 1, 1) := by decide +kernel
theorem dJ2_putChar_b72d1_7 : decode cJ2_putChar_b72d1 7 = .ok (.ifCond .lt 11, 3) := by decide +kernel
theorem dJ2_putChar_b72d1_10 : decode cJ2_putChar_b72d1 10 = .ok (.iload_n 1, 1) := by decide +kernel
theorem dJ2_putChar_b72d1_11 : decode cJ2_putChar_b72d1 11 = .ok (.aload_n 0, 1) := by decide +kernel
theorem dJ2_putChar_b72d1_12 : decode cJ2_putChar_b72d1 12 = .ok (.invokestatic 48, 3) := by decide +kernel
theorem dJ2_putChar_b72d1_15 : decode cJ2_putChar_b72d1 15 = .ok (.if_icmp .lt 13, 3) := by decide +kernel
theorem dJ2_putChar_b72d1_18 : decode cJ2_putChar_b72d1 18 = .ok (.new 52, 3) := by decide +kernel
theorem dJ2_putChar_b72d1_21 : decode cJ2_putChar_b72d1 21 = .ok (.dup, 1) := by decide +kernel
theorem dJ2_putChar_b72d1_22 : decode cJ2_putChar_b72d1 22 = .ok (.ldc 54, 2) := by decide +kernel
theorem dJ2_putChar_b72d1_24 : decode cJ2_putChar_b72d1 24 = .ok (.invokespecial 56, 3) := by decide +kernel
theorem dJ2_putChar_b72d1_27 : decode cJ2_putChar_b72d1 27 = .ok (.athrow, 1) := by decide +kernel
theorem dJ2_putChar_b72d1_28 : decode cJ2_putChar_b72d1 28 = .ok (.iload_n 1, 1) := by decide +kernel
theorem dJ2_putChar_b72d1_29 : decode cJ2_putChar_b72d1 29 = .ok (.iconst 1, 1) := by decide +kernel
theorem dJ2_putChar_b72d1_30 : decode cJ2_putChar_b72d1 30 = .ok (.ishl, 1) := by decide +kernel
theorem dJ2_putChar_b72d1_31 : decode cJ2_putChar_b72d1 31 = .ok (.istore_n 1, 1) := by decide +kernel
theorem dJ2_putChar_b72d1_32 : decode cJ2_putChar_b72d1 32 = .ok (.aload_n 0, 1) := by decide +kernel
theorem dJ2_putChar_b72d1_33 : decode cJ2_putChar_b72d1 33 = .ok (.iload_n 1, 1) := by decide +kernel
theorem dJ2_putChar_b72d1_34 : decode cJ2_putChar_b72d1 34 = .ok (.iinc 1 1, 3) := by decide +kernel
theorem dJ2_putChar_b72d1_37 : decode cJ2_putChar_b72d1 37 = .ok (.iload_n 2, 1) := by decide +kernel
theorem dJ2_putChar_b72d1_38 : decode cJ2_putChar_b72d1 38 = .ok (.getstatic 59, 3) := by decide +kernel
theorem dJ2_putChar_b72d1_41 : decode cJ2_putChar_b72d1 41 = .ok (.ishr, 1) := by decide +kernel
theorem dJ2_putChar_b72d1_42 : decode cJ2_putChar_b72d1 42 = .ok (.i2b, 1) := by decide +kernel
theorem dJ2_putChar_b72d1_43 : decode cJ2_putChar_b72d1 43 = .ok (.bastore, 1) := by decide +kernel
theorem dJ2_putChar_b72d1_44 : decode cJ2_putChar_b72d1 44 = .ok (.aload_n 0, 1) := by decide +kernel
theorem dJ2_putChar_b72d1_45 : decode cJ2_putChar_b72d1 45 = .ok (.iload_n 1, 1) := by decide +kernel
theorem dJ2_putChar_b72d1_46 : decode cJ2_putChar_b72d1 46 = .ok (.iload_n 2, 1) := by decide +kernel
theorem dJ2_putChar_b72d1_47 : decode cJ2_putChar_b72d1 47 = .ok (.getstatic 63, 3) := by decide +kernel
theorem dJ2_putChar_b72d1_50 : decode cJ2_putChar_b72d1 50 = .ok (.ishr, 1) := by decide +kernel
theorem dJ2_putChar_b72d1_51 : decode cJ2_putChar_b72d1 51 = .ok (.i2b, 1) := by decide +kernel
theorem dJ2_putChar_b72d1_52 : decode cJ2_putChar_b72d1 52 = .ok (.bastore, 1) := by decide +kernel
theorem dJ2_putChar_b72d1_53 : decode cJ2_putChar_b72d1 53 = .ok (.return_, 1) := by decide +kernel
theorem dJ2_getChar_3b067_0 : decode cJ2_getChar_3b067 0 = .ok (.getstatic 44, 3) := by decide +kernel
theorem dJ2_getChar_3b067_3 : decode cJ2_getChar_3b067 3 = .ok (.ifCond .ne 25, 3) := by decide +kernel
theorem dJ2_getChar_3b067_6 : decode cJ2_getChar_3b067 6 = .ok (.iload_n 1, 1) := by decide +kernel
theorem dJ2_getChar_3b067_7 : decode cJ2_getChar_3b067 7 = .ok (.ifCond .lt 11, 3) := by decide +kernel
theorem dJ2_getChar_3b067_10 : decode cJ2_getChar_3b067 10 = .ok (.iload_n 1, 1) := by decide +kernel
theorem dJ2_getChar_3b067_11 : decode cJ2_getChar_3b067 11 = .ok (.aload_n 0, 1) := by decide +kernel
theorem dJ2_getChar_3b067_12 : decode cJ2_getChar_3b067 12 = .ok (.invokestatic 48, 3) := by decide +kernel
theorem dJ2_getChar_3b067_15 : decode cJ2_getChar_3b067 15 = .ok (.if_icmp .lt 13, 3) := by decide +kernel
theorem dJ2_getChar_3b067_18 : decode cJ2_getChar_3b067 18 = .ok (.new 52, 3) := by decide +kernel
theorem dJ2_getChar_3b067_21 : decode cJ2_getChar_3b067 21 = .ok (.dup, 1) := by decide +kernel
theorem dJ2_getChar_3b067_22 : decode cJ2_getChar_3b067 22 = .ok (.ldc 54, 2) := by decide +kernel
theorem dJ2_getChar_3b067_24 : decode cJ2_getChar_3b067 24 = .ok (.invokespecial 56, 3) := by decide +kernel
theorem dJ2_getChar_3b067_27 : decode cJ2_getChar_3b067 27 = .ok (.athrow, 1) := by decide +kernel
theorem dJ2_getChar_3b067_28 : decode cJ2_getChar_3b067 28 = .ok (.iload_n 1, 1) := by decide +kernel
theorem dJ2_getChar_3b067_29 : decode cJ2_getChar_3b067 29 = .ok (.iconst 1, 1) := by decide +kernel
theorem dJ2_getChar_3b067_30 : decode cJ2_getChar_3b067 30 = .ok (.ishl, 1) := by decide +kernel
theorem dJ2_getChar_3b067_31 : decode cJ2_getChar_3b067 31 = .ok (.istore_n 1, 1) := by decide +kernel
theorem dJ2_getChar_3b067_32 : decode cJ2_getChar_3b067 32 = .ok (.aload_n 0, 1) := by decide +kernel
theorem dJ2_getChar_3b067_33 : decode cJ2_getChar_3b067 33 = .ok (.iload_n 1, 1) := by decide +kernel
theorem dJ2_getChar_3b067_34 : decode cJ2_getChar_3b067 34 = .ok (.iinc 1 1, 3) := by decide +kernel
theorem dJ2_getChar_3b067_37 : decode cJ2_getChar_3b067 37 = .ok (.baload, 1) := by decide +kernel
theorem dJ2_getChar_3b067_38 : decode cJ2_getChar_3b067 38 = .ok (.sipush 255, 3) := by decide +kernel
theorem dJ2_getChar_3b067_41 : decode cJ2_getChar_3b067 41 = .ok (.iand, 1) := by decide +kernel
theorem dJ2_getChar_3b067_42 : decode cJ2_getChar_3b067 42 = .ok (.getstatic 59, 3) := by decide +kernel
theorem dJ2_getChar_3b067_45 : decode cJ2_getChar_3b067 45 = .ok (.ishl, 1) := by decide +kernel
theorem dJ2_getChar_3b067_46 : decode cJ2_getChar_3b067 46 = .ok (.aload_n 0, 1) := by decide +kernel
theorem dJ2_getChar_3b067_47 : decode cJ2_getChar_3b067 47 = .ok (.iload_n 1, 1) := by decide +kernel
theorem dJ2_getChar_3b067_48 : decode cJ2_getChar_3b067 48 = .ok (.baload, 1) := by decide +kernel
theorem dJ2_getChar_3b067_49 : decode cJ2_getChar_3b067 49 = .ok (.sipush 255, 3) := by decide +kernel
theorem dJ2_getChar_3b067_52 : decode cJ2_getChar_3b067 52 = .ok (.iand, 1) := by decide +kernel
theorem dJ2_getChar_3b067_53 : decode cJ2_getChar_3b067 53 = .ok (.getstatic 63, 3) := by decide +kernel
theorem dJ2_getChar_3b067_56 : decode cJ2_getChar_3b067 56 = .ok (.ishl, 1) := by decide +kernel
theorem dJ2_getChar_3b067_57 : decode cJ2_getChar_3b067 57 = .ok (.ior, 1) := by decide +kernel
theorem dJ2_getChar_3b067_58 : decode cJ2_getChar_3b067 58 = .ok (.i2c, 1) := by decide +kernel
theorem dJ2_getChar_3b067_59 : decode cJ2_getChar_3b067 59 = .ok (.ireturn, 1) := by decide +kernel
theorem dJ2_length_9d52b_0 : decode cJ2_length_9d52b 0 = .ok (.aload_n 0, 1) := by decide +kernel
theorem dJ2_length_9d52b_1 : decode cJ2_length_9d52b 1 = .ok (.arraylength, 1) := by decide +kernel
theorem dJ2_length_9d52b_2 : decode cJ2_length_9d52b 2 = .ok (.iconst 1, 1) := by decide +kernel
theorem dJ2_length_9d52b_3 : decode cJ2_length_9d52b 3 = .ok (.ishr, 1) := by decide +kernel
theorem dJ2_length_9d52b_4 : decode cJ2_length_9d52b 4 = .ok (.ireturn, 1) := by decide +kernel
theorem dJ2_getChars_46870_0 : decode cJ2_getChars_46870 0 = .ok (.iload_n 1, 1) := by decide +kernel
theorem dJ2_getChars_46870_1 : decode cJ2_getChars_46870 1 = .ok (.iload_n 2, 1) := by decide +kernel
theorem dJ2_getChars_46870_2 : decode cJ2_getChars_46870 2 = .ok (.aload_n 3, 1) := by decide +kernel
theorem dJ2_getChars_46870_3 : decode cJ2_getChars_46870 3 = .ok (.invokestatic 96, 3) := by decide +kernel
theorem dJ2_getChars_46870_6 : decode cJ2_getChars_46870 6 = .ok (.iload_n 0, 1) := by decide +kernel
theorem dJ2_getChars_46870_7 : decode cJ2_getChars_46870 7 = .ok (.iload_n 2, 1) := by decide +kernel
theorem dJ2_getChars_46870_8 : decode cJ2_getChars_46870 8 = .ok (.aload_n 3, 1) := by decide +kernel
theorem dJ2_getChars_46870_9 : decode cJ2_getChars_46870 9 = .ok (.invokestatic 393, 3) := by decide +kernel
theorem dJ2_getChars_46870_12 : decode cJ2_getChars_46870 12 = .ok (.istore 4, 2) := by decide +kernel
theorem dJ2_getChars_46870_14 : decode cJ2_getChars_46870 14 = .ok (.getstatic 44, 3) := by decide +kernel
theorem dJ2_getChars_46870_17 : decode cJ2_getChars_46870 17 = .ok (.ifCond .ne 17, 3) := by decide +kernel
theorem dJ2_getChars_46870_20 : decode cJ2_getChars_46870 20 = .ok (.iload_n 1, 1) := by decide +kernel
theorem dJ2_getChars_46870_21 : decode cJ2_getChars_46870 21 = .ok (.iload 4, 2) := by decide +kernel
theorem dJ2_getChars_46870_23 : decode cJ2_getChars_46870 23 = .ok (.if_icmp .eq 11, 3) := by decide +kernel
theorem dJ2_getChars_46870_26 : decode cJ2_getChars_46870 26 = .ok (.new 52, 3) := by decide +kernel
theorem dJ2_getChars_46870_29 : decode cJ2_getChars_46870 29 = .ok (.dup, 1) := by decide +kernel
theorem dJ2_getChars_46870_30 : decode cJ2_getChars_46870 30 = .ok (.invokespecial 66, 3) := by decide +kernel
theorem dJ2_getChars_46870_33 : decode cJ2_getChars_46870 33 = .ok (.athrow, 1) := by decide +kernel
theorem dJ2_getChars_46870_34 : decode cJ2_getChars_46870 34 = .ok (.iload 4, 2) := by decide +kernel
theorem dJ2_getChars_46870_36 : decode cJ2_getChars_46870 36 = .ok (.ireturn, 1) := by decide +kernel
theorem dJ2_putCharsAt_cd4e5_0 : decode cJ2_putCharsAt_cd4e5 0 = .ok (.iload_n 1, 1) := by decide +kernel
theorem dJ2_putCharsAt_cd4e5_1 : decode cJ2_putCharsAt_cd4e5 1 = .ok (.iconst 4, 1) := by decide +kernel
theorem dJ2_putCharsAt_cd4e5_2 : decode cJ2_putCharsAt_cd4e5 2 = .ok (.iadd, 1) := by decide +kernel
theorem dJ2_putCharsAt_cd4e5_3 : decode cJ2_putCharsAt_cd4e5 3 = .ok (.istore 6, 2) := by decide +kernel
theorem dJ2_putCharsAt_cd4e5_5 : decode cJ2_putCharsAt_cd4e5 5 = .ok (.iload_n 1, 1) := by decide +kernel
theorem dJ2_putCharsAt_cd4e5_6 : decode cJ2_putCharsAt_cd4e5 6 = .ok (.iload 6, 2) := by decide +kernel
theorem dJ2_putCharsAt_cd4e5_8 : decode cJ2_putCharsAt_cd4e5 8 = .ok (.aload_n 0, 1) := by decide +kernel
theorem dJ2_putCharsAt_cd4e5_9 : decode cJ2_putCharsAt_cd4e5 9 = .ok (.invokestatic 96, 3) := by decide +kernel
theorem dJ2_putCharsAt_cd4e5_12 : decode cJ2_putCharsAt_cd4e5 12 = .ok (.aload_n 0, 1) := by decide +kernel
theorem dJ2_putCharsAt_cd4e5_13 : decode cJ2_putCharsAt_cd4e5 13 = .ok (.iload_n 1, 1) := by decide +kernel
theorem dJ2_putCharsAt_cd4e5_14 : decode cJ2_putCharsAt_cd4e5 14 = .ok (.iinc 1 1, 3) := by decide +kernel
theorem dJ2_putCharsAt_cd4e5_17 : decode cJ2_putCharsAt_cd4e5 17 = .ok (.iload_n 2, 1) := by decide +kernel
theorem dJ2_putCharsAt_cd4e5_18 : decode cJ2_putCharsAt_cd4e5 18 = .ok (.invokestatic 111, 3) := by decide +kernel
theorem dJ2_putCharsAt_cd4e5_21 : decode cJ2_putCharsAt_cd4e5 21 = .ok (.aload_n 0, 1) := by decide +kernel
theorem dJ2_putCharsAt_cd4e5_22 : decode cJ2_putCharsAt_cd4e5 22 = .ok (.iload_n 1, 1) := by decide +kernel
theorem dJ2_putCharsAt_cd4e5_23 : decode cJ2_putCharsAt_cd4e5 23 = .ok (.iinc 1 1, 3) := by decide +kernel
theorem dJ2_putCharsAt_cd4e5_26 : decode cJ2_putCharsAt_cd4e5 26 = .ok (.iload_n 3, 1) := by decide +kernel
theorem dJ2_putCharsAt_cd4e5_27 : decode cJ2_putCharsAt_cd4e5 27 = .ok (.invokestatic 111, 3) := by decide +kernel
theorem dJ2_putCharsAt_cd4e5_30 : decode cJ2_putCharsAt_cd4e5 30 = .ok (.aload_n 0, 1) := by decide +kernel
theorem dJ2_putCharsAt_cd4e5_31 : decode cJ2_putCharsAt_cd4e5 31 = .ok (.iload_n 1, 1) := by decide +kernel
theorem dJ2_putCharsAt_cd4e5_32 : decode cJ2_putCharsAt_cd4e5 32 = .ok (.iinc 1 1, 3) := by decide +kernel
theorem dJ2_putCharsAt_cd4e5_35 : decode cJ2_putCharsAt_cd4e5 35 = .ok (.iload 4, 2) := by decide +kernel
theorem dJ2_putCharsAt_cd4e5_37 : decode cJ2_putCharsAt_cd4e5 37 = .ok (.invokestatic 111, 3) := by decide +kernel
theorem dJ2_putCharsAt_cd4e5_40 : decode cJ2_putCharsAt_cd4e5 40 = .ok (.aload_n 0, 1) := by decide +kernel
theorem dJ2_putCharsAt_cd4e5_41 : decode cJ2_putCharsAt_cd4e5 41 = .ok (.iload_n 1, 1) := by decide +kernel
theorem dJ2_putCharsAt_cd4e5_42 : decode cJ2_putCharsAt_cd4e5 42 = .ok (.iinc 1 1, 3) := by decide +kernel
theorem dJ2_putCharsAt_cd4e5_45 : decode cJ2_putCharsAt_cd4e5 45 = .ok (.iload 5, 2) := by decide +kernel
theorem dJ2_putCharsAt_cd4e5_47 : decode cJ2_putCharsAt_cd4e5 47 = .ok (.invokestatic 111, 3) := by decide +kernel
theorem dJ2_putCharsAt_cd4e5_50 : decode cJ2_putCharsAt_cd4e5 50 = .ok (.getstatic 44, 3) := by decide +kernel
theorem dJ2_putCharsAt_cd4e5_53 : decode cJ2_putCharsAt_cd4e5 53 = .ok (.ifCond .ne 17, 3) := by decide +kernel
theorem dJ2_putCharsAt_cd4e5_56 : decode cJ2_putCharsAt_cd4e5 56 = .ok (.iload_n 1, 1) := by decide +kernel
theorem dJ2_putCharsAt_cd4e5_57 : decode cJ2_putCharsAt_cd4e5 57 = .ok (.iload 6, 2) := by decide +kernel
theorem dJ2_putCharsAt_cd4e5_59 : decode cJ2_putCharsAt_cd4e5 59 = .ok (.if_icmp .eq 11, 3) := by decide +kernel
theorem dJ2_putCharsAt_cd4e5_62 : decode cJ2_putCharsAt_cd4e5 62 = .ok (.new 52, 3) := by decide +kernel
theorem dJ2_putCharsAt_cd4e5_65 : decode cJ2_putCharsAt_cd4e5 65 = .ok (.dup, 1) := by decide +kernel
theorem dJ2_putCharsAt_cd4e5_66 : decode cJ2_putCharsAt_cd4e5 66 = .ok (.invokespecial 66, 3) := by decide +kernel
theorem dJ2_putCharsAt_cd4e5_69 : decode cJ2_putCharsAt_cd4e5 69 = .ok (.athrow, 1) := by decide +kernel
theorem dJ2_putCharsAt_cd4e5_70 : decode cJ2_putCharsAt_cd4e5 70 = .ok (.iload 6, 2) := by decide +kernel
theorem dJ2_putCharsAt_cd4e5_72 : decode cJ2_putCharsAt_cd4e5 72 = .ok (.ireturn, 1) := by decide +kernel
theorem dJ2_charAt_3b067_0 : decode cJ2_charAt_3b067 0 = .ok (.iload_n 1, 1) := by decide +kernel
theorem dJ2_charAt_3b067_1 : decode cJ2_charAt_3b067 1 = .ok (.aload_n 0, 1) := by decide +kernel
theorem dJ2_charAt_3b067_2 : decode cJ2_charAt_3b067 2 = .ok (.invokestatic 67, 3) := by decide +kernel
theorem dJ2_charAt_3b067_5 : decode cJ2_charAt_3b067 5 = .ok (.aload_n 0, 1) := by decide +kernel
theorem dJ2_charAt_3b067_6 : decode cJ2_charAt_3b067 6 = .ok (.iload_n 1, 1) := by decide +kernel
theorem dJ2_charAt_3b067_7 : decode cJ2_charAt_3b067 7 = .ok (.invokestatic 71, 3) := by decide +kernel
theorem dJ2_charAt_3b067_10 : decode cJ2_charAt_3b067 10 = .ok (.ireturn, 1) := by decide +kernel
theorem dJ2_inflate_0e8fd_0 : decode cJ2_inflate_0e8fd 0 = .ok (.iload_n 3, 1) := by decide +kernel
theorem dJ2_inflate_0e8fd_1 : decode cJ2_inflate_0e8fd 1 = .ok (.iload 4, 2) := by decide +kernel
theorem dJ2_inflate_0e8fd_3 : decode cJ2_inflate_0e8fd 3 = .ok (.aload_n 2, 1) := by decide +kernel
theorem dJ2_inflate_0e8fd_4 : decode cJ2_inflate_0e8fd 4 = .ok (.invokestatic 173, 3) := by decide +kernel
theorem dJ2_inflate_0e8fd_7 : decode cJ2_inflate_0e8fd 7 = .ok (.iconst 0, 1) := by decide +kernel
theorem dJ2_inflate_0e8fd_8 : decode cJ2_inflate_0e8fd 8 = .ok (.istore 5, 2) := by decide +kernel
theorem dJ2_inflate_0e8fd_10 : decode cJ2_inflate_0e8fd 10 = .ok (.iload 5, 2) := by decide +kernel
theorem dJ2_inflate_0e8fd_12 : decode cJ2_inflate_0e8fd 12 = .ok (.iload 4, 2) := by decide +kernel
theorem dJ2_inflate_0e8fd_14 : decode cJ2_inflate_0e8fd 14 = .ok (.if_icmp .ge 27, 3) := by decide +kernel
theorem dJ2_inflate_0e8fd_17 : decode cJ2_inflate_0e8fd 17 = .ok (.aload_n 2, 1) := by decide +kernel
theorem dJ2_inflate_0e8fd_18 : decode cJ2_inflate_0e8fd 18 = .ok (.iload_n 3, 1) := by decide +kernel
theorem dJ2_inflate_0e8fd_19 : decode cJ2_inflate_0e8fd 19 = .ok (.iinc 3 1, 3) := by decide +kernel
theorem dJ2_inflate_0e8fd_22 : decode cJ2_inflate_0e8fd 22 = .ok (.aload_n 0, 1) := by decide +kernel
theorem dJ2_inflate_0e8fd_23 : decode cJ2_inflate_0e8fd 23 = .ok (.iload_n 1, 1) := by decide +kernel
theorem dJ2_inflate_0e8fd_24 : decode cJ2_inflate_0e8fd 24 = .ok (.iinc 1 1, 3) := by decide +kernel
theorem dJ2_inflate_0e8fd_27 : decode cJ2_inflate_0e8fd 27 = .ok (.baload, 1) := by decide +kernel
theorem dJ2_inflate_0e8fd_28 : decode cJ2_inflate_0e8fd 28 = .ok (.sipush 255, 3) := by decide +kernel
theorem dJ2_inflate_0e8fd_31 : decode cJ2_inflate_0e8fd 31 = .ok (.iand, 1) := by decide +kernel
theorem dJ2_inflate_0e8fd_32 : decode cJ2_inflate_0e8fd 32 = .ok (.invokestatic 111, 3) := by decide +kernel
theorem dJ2_inflate_0e8fd_35 : decode cJ2_inflate_0e8fd 35 = .ok (.iinc 5 1, 3) := by decide +kernel
theorem dJ2_inflate_0e8fd_38 : decode cJ2_inflate_0e8fd 38 = .ok (.goto (-28), 3) := by decide +kernel
theorem dJ2_inflate_0e8fd_41 : decode cJ2_inflate_0e8fd 41 = .ok (.return_, 1) := by decide +kernel
theorem dJ2_getChars_ba4f3_0 : decode cJ2_getChars_ba4f3 0 = .ok (.iload_n 1, 1) := by decide +kernel
theorem dJ2_getChars_ba4f3_1 : decode cJ2_getChars_ba4f3 1 = .ok (.istore 5, 2) := by decide +kernel
theorem dJ2_getChars_ba4f3_3 : decode cJ2_getChars_ba4f3 3 = .ok (.iload_n 0, 1) := by decide +kernel
theorem dJ2_getChars_ba4f3_4 : decode cJ2_getChars_ba4f3 4 = .ok (.ifCond .ge 7, 3) := by decide +kernel
theorem dJ2_getChars_ba4f3_7 : decode cJ2_getChars_ba4f3 7 = .ok (.iconst 1, 1) := by decide +kernel
theorem dJ2_getChars_ba4f3_8 : decode cJ2_getChars_ba4f3 8 = .ok (.goto 4, 3) := by decide +kernel
theorem dJ2_getChars_ba4f3_11 : decode cJ2_getChars_ba4f3 11 = .ok (.iconst 0, 1) := by decide +kernel
theorem dJ2_getChars_ba4f3_12 : decode cJ2_getChars_ba4f3 12 = .ok (.istore 6, 2) := by decide +kernel
theorem dJ2_getChars_ba4f3_14 : decode cJ2_getChars_ba4f3 14 = .ok (.iload 6, 2) := by decide +kernel
theorem dJ2_getChars_ba4f3_16 : decode cJ2_getChars_ba4f3 16 = .ok (.ifCond .ne 6, 3) := by decide +kernel
theorem dJ2_getChars_ba4f3_19 : decode cJ2_getChars_ba4f3 19 = .ok (.iload_n 0, 1) := by decide +kernel
theorem dJ2_getChars_ba4f3_20 : decode cJ2_getChars_ba4f3 20 = .ok (.ineg, 1) := by decide +kernel
theorem dJ2_getChars_ba4f3_21 : decode cJ2_getChars_ba4f3 21 = .ok (.istore_n 0, 1) := by decide +kernel
theorem dJ2_getChars_ba4f3_22 : decode cJ2_getChars_ba4f3 22 = .ok (.iload_n 0, 1) := by decide +kernel
theorem dJ2_getChars_ba4f3_23 : decode cJ2_getChars_ba4f3 23 = .ok (.bipush (-100), 2) := by decide +kernel
theorem dJ2_getChars_ba4f3_25 : decode cJ2_getChars_ba4f3 25 = .ok (.if_icmp .gt 51, 3) := by decide +kernel
theorem dJ2_getChars_ba4f3_28 : decode cJ2_getChars_ba4f3 28 = .ok (.iload_n 0, 1) := by decide +kernel
theorem dJ2_getChars_ba4f3_29 : decode cJ2_getChars_ba4f3 29 = .ok (.bipush 100, 2) := by decide +kernel
theorem dJ2_getChars_ba4f3_31 : decode cJ2_getChars_ba4f3 31 = .ok (.idiv, 1) := by decide +kernel
theorem dJ2_getChars_ba4f3_32 : decode cJ2_getChars_ba4f3 32 = .ok (.istore_n 3, 1) := by decide +kernel
theorem dJ2_getChars_ba4f3_33 : decode cJ2_getChars_ba4f3 33 = .ok (.iload_n 3, 1) := by decide +kernel
theorem dJ2_getChars_ba4f3_34 : decode cJ2_getChars_ba4f3 34 = .ok (.bipush 100, 2) := by decide +kernel
theorem dJ2_getChars_ba4f3_36 : decode cJ2_getChars_ba4f3 36 = .ok (.imul, 1) := by decide +kernel
theorem dJ2_getChars_ba4f3_37 : decode cJ2_getChars_ba4f3 37 = .ok (.iload_n 0, 1) := by decide +kernel
theorem dJ2_getChars_ba4f3_38 : decode cJ2_getChars_ba4f3 38 = .ok (.isub, 1) := by decide +kernel
theorem dJ2_getChars_ba4f3_39 : decode cJ2_getChars_ba4f3 39 = .ok (.istore 4, 2) := by decide +kernel
theorem dJ2_getChars_ba4f3_41 : decode cJ2_getChars_ba4f3 41 = .ok (.iload_n 3, 1) := by decide +kernel
theorem dJ2_getChars_ba4f3_42 : decode cJ2_getChars_ba4f3 42 = .ok (.istore_n 0, 1) := by decide +kernel
theorem dJ2_getChars_ba4f3_43 : decode cJ2_getChars_ba4f3 43 = .ok (.aload_n 2, 1) := by decide +kernel
theorem dJ2_getChars_ba4f3_44 : decode cJ2_getChars_ba4f3 44 = .ok (.iinc 5 (-1), 3) := by decide +kernel
theorem dJ2_getChars_ba4f3_47 : decode cJ2_getChars_ba4f3 47 = .ok (.iload 5, 2) := by decide +kernel
theorem dJ2_getChars_ba4f3_49 : decode cJ2_getChars_ba4f3 49 = .ok (.getstatic 403, 3) := by decide +kernel
theorem dJ2_getChars_ba4f3_52 : decode cJ2_getChars_ba4f3 52 = .ok (.iload 4, 2) := by decide +kernel
theorem dJ2_getChars_ba4f3_54 : decode cJ2_getChars_ba4f3 54 = .ok (.baload, 1) := by decide +kernel
theorem dJ2_getChars_ba4f3_55 : decode cJ2_getChars_ba4f3 55 = .ok (.invokestatic 111, 3) := by decide +kernel
theorem dJ2_getChars_ba4f3_58 : decode cJ2_getChars_ba4f3 58 = .ok (.aload_n 2, 1) := by decide +kernel
theorem dJ2_getChars_ba4f3_59 : decode cJ2_getChars_ba4f3 59 = .ok (.iinc 5 (-1), 3) := by decide +kernel
theorem dJ2_getChars_ba4f3_62 : decode cJ2_getChars_ba4f3 62 = .ok (.iload 5, 2) := by decide +kernel
theorem dJ2_getChars_ba4f3_64 : decode cJ2_getChars_ba4f3 64 = .ok (.getstatic 407, 3) := by decide +kernel
theorem dJ2_getChars_ba4f3_67 : decode cJ2_getChars_ba4f3 67 = .ok (.iload 4, 2) := by decide +kernel
theorem dJ2_getChars_ba4f3_69 : decode cJ2_getChars_ba4f3 69 = .ok (.baload, 1) := by decide +kernel
theorem dJ2_getChars_ba4f3_70 : decode cJ2_getChars_ba4f3 70 = .ok (.invokestatic 111, 3) := by decide +kernel
theorem dJ2_getChars_ba4f3_73 : decode cJ2_getChars_ba4f3 73 = .ok (.goto (-51), 3) := by decide +kernel
theorem dJ2_getChars_ba4f3_76 : decode cJ2_getChars_ba4f3 76 = .ok (.aload_n 2, 1) := by decide +kernel
theorem dJ2_getChars_ba4f3_77 : decode cJ2_getChars_ba4f3 77 = .ok (.iinc 5 (-1), 3) := by decide +kernel
theorem dJ2_getChars_ba4f3_80 : decode cJ2_getChars_ba4f3 80 = .ok (.iload 5, 2) := by decide +kernel
theorem dJ2_getChars_ba4f3_82 : decode cJ2_getChars_ba4f3 82 = .ok (.getstatic 403, 3) := by decide +kernel
theorem dJ2_getChars_ba4f3_85 : decode cJ2_getChars_ba4f3 85 = .ok (.iload_n 0, 1) := by decide +kernel
theorem dJ2_getChars_ba4f3_86 : decode cJ2_getChars_ba4f3 86 = .ok (.ineg, 1) := by decide +kernel
theorem dJ2_getChars_ba4f3_87 : decode cJ2_getChars_ba4f3 87 = .ok (.baload, 1) := by decide +kernel
theorem dJ2_getChars_ba4f3_88 : decode cJ2_getChars_ba4f3 88 = .ok (.invokestatic 111, 3) := by decide +kernel
theorem dJ2_getChars_ba4f3_91 : decode cJ2_getChars_ba4f3 91 = .ok (.iload_n 0, 1) := by decide +kernel
theorem dJ2_getChars_ba4f3_92 : decode cJ2_getChars_ba4f3 92 = .ok (.bipush (-9), 2) := by decide +kernel
theorem dJ2_getChars_ba4f3_94 : decode cJ2_getChars_ba4f3 94 = .ok (.if_icmp .ge 18, 3) := by decide +kernel
theorem dJ2_getChars_ba4f3_97 : decode cJ2_getChars_ba4f3 97 = .ok (.aload_n 2, 1) := by decide +kernel
theorem dJ2_getChars_ba4f3_98 : decode cJ2_getChars_ba4f3 98 = .ok (.iinc 5 (-1), 3) := by decide +kernel
theorem dJ2_getChars_ba4f3_101 : decode cJ2_getChars_ba4f3 101 = .ok (.iload 5, 2) := by decide +kernel
theorem dJ2_getChars_ba4f3_103 : decode cJ2_getChars_ba4f3 103 = .ok (.getstatic 407, 3) := by decide +kernel
theorem dJ2_getChars_ba4f3_106 : decode cJ2_getChars_ba4f3 106 = .ok (.iload_n 0, 1) := by decide +kernel
theorem dJ2_getChars_ba4f3_107 : decode cJ2_getChars_ba4f3 107 = .ok (.ineg, 1) := by decide +kernel
theorem dJ2_getChars_ba4f3_108 : decode cJ2_getChars_ba4f3 108 = .ok (.baload, 1) := by decide +kernel
theorem dJ2_getChars_ba4f3_109 : decode cJ2_getChars_ba4f3 109 = .ok (.invokestatic 111, 3) := by decide +kernel
theorem dJ2_getChars_ba4f3_112 : decode cJ2_getChars_ba4f3 112 = .ok (.iload 6, 2) := by decide +kernel
theorem dJ2_getChars_ba4f3_114 : decode cJ2_getChars_ba4f3 114 = .ok (.ifCond .eq 14, 3) := by decide +kernel
theorem dJ2_getChars_ba4f3_117 : decode cJ2_getChars_ba4f3 117 = .ok (.aload_n 2, 1) := by decide +kernel
theorem dJ2_getChars_ba4f3_118 : decode cJ2_getChars_ba4f3 118 = .ok (.iinc 5 (-1), 3) := by decide +kernel
theorem dJ2_getChars_ba4f3_121 : decode cJ2_getChars_ba4f3 121 = .ok (.iload 5, 2) := by decide +kernel
theorem dJ2_getChars_ba4f3_123 : decode cJ2_getChars_ba4f3 123 = .ok (.bipush 45, 2) := by decide +kernel
theorem dJ2_getChars_ba4f3_125 : decode cJ2_getChars_ba4f3 125 = .ok (.invokestatic 111, 3) := by decide +kernel
theorem dJ2_getChars_ba4f3_128 : decode cJ2_getChars_ba4f3 128 = .ok (.iload 5, 2) := by decide +kernel
theorem dJ2_getChars_ba4f3_130 : decode cJ2_getChars_ba4f3 130 = .ok (.ireturn, 1) := by decide +kernel
theorem dJ2_checkIndex_2214a_0 : decode cJ2_checkIndex_2214a 0 = .ok (.iload_n 0, 1) := by decide +kernel
theorem dJ2_checkIndex_2214a_1 : decode cJ2_checkIndex_2214a 1 = .ok (.aload_n 1, 1) := by decide +kernel
theorem dJ2_checkIndex_2214a_2 : decode cJ2_checkIndex_2214a 2 = .ok (.invokestatic 48, 3) := by decide +kernel
theorem dJ2_checkIndex_2214a_5 : decode cJ2_checkIndex_2214a 5 = .ok (.invokestatic 414, 3) := by decide +kernel
theorem dJ2_checkIndex_2214a_8 : decode cJ2_checkIndex_2214a 8 = .ok (.return_, 1) := by decide +kernel
theorem dJ2_checkBoundsBeginEnd_d044e_0 : decode cJ2_checkBoundsBeginEnd_d044e 0 = .ok (.iload_n 0, 1) := by decide +kernel
theorem dJ2_checkBoundsBeginEnd_d044e_1 : decode cJ2_checkBoundsBeginEnd_d044e 1 = .ok (.iload_n 1, 1) := by decide +kernel
theorem dJ2_checkBoundsBeginEnd_d044e_2 : decode cJ2_checkBoundsBeginEnd_d044e 2 = .ok (.aload_n 2, 1) := by decide +kernel
theorem dJ2_checkBoundsBeginEnd_d044e_3 : decode cJ2_checkBoundsBeginEnd_d044e 3 = .ok (.invokestatic 48, 3) := by decide +kernel
theorem dJ2_checkBoundsBeginEnd_d044e_6 : decode cJ2_checkBoundsBeginEnd_d044e 6 = .ok (.invokestatic 241, 3) := by decide +kernel
theorem dJ2_checkBoundsBeginEnd_d044e_9 : decode cJ2_checkBoundsBeginEnd_d044e 9 = .ok (.return_, 1) := by decide +kernel
theorem dJ2_checkBoundsOffCount_d044e_0 : decode cJ2_checkBoundsOffCount_d044e 0 = .ok (.iload_n 0, 1) := by decide +kernel
theorem dJ2_checkBoundsOffCount_d044e_1 : decode cJ2_checkBoundsOffCount_d044e 1 = .ok (.iload_n 1, 1) := by decide +kernel
theorem dJ2_checkBoundsOffCount_d044e_2 : decode cJ2_checkBoundsOffCount_d044e 2 = .ok (.aload_n 2, 1) := by decide +kernel
theorem dJ2_checkBoundsOffCount_d044e_3 : decode cJ2_checkBoundsOffCount_d044e 3 = .ok (.invokestatic 48, 3) := by decide +kernel
theorem dJ2_checkBoundsOffCount_d044e_6 : decode cJ2_checkBoundsOffCount_d044e 6 = .ok (.invokestatic 419, 3) := by decide +kernel
theorem dJ2_checkBoundsOffCount_d044e_9 : decode cJ2_checkBoundsOffCount_d044e 9 = .ok (.pop, 1) := by decide +kernel
theorem dJ2_checkBoundsOffCount_d044e_10 : decode cJ2_checkBoundsOffCount_d044e 10 = .ok (.return_, 1) := by decide +kernel
theorem dJ7_copyOf_9075b_0 : decode cJ7_copyOf_9075b 0 = .ok (.iload_n 1, 1) := by decide +kernel
theorem dJ7_copyOf_9075b_1 : decode cJ7_copyOf_9075b 1 = .ok (.aload_n 0, 1) := by decide +kernel
theorem dJ7_copyOf_9075b_2 : decode cJ7_copyOf_9075b 2 = .ok (.arraylength, 1) := by decide +kernel
theorem dJ7_copyOf_9075b_3 : decode cJ7_copyOf_9075b 3 = .ok (.if_icmp .ne 11, 3) := by decide +kernel
theorem dJ7_copyOf_9075b_6 : decode cJ7_copyOf_9075b 6 = .ok (.aload_n 0, 1) := by decide +kernel
theorem dJ7_copyOf_9075b_7 : decode cJ7_copyOf_9075b 7 = .ok (.invokevirtual 310, 3) := by decide +kernel
theorem dJ7_copyOf_9075b_10 : decode cJ7_copyOf_9075b 10 = .ok (.checkcast 311, 3) := by decide +kernel
theorem dJ7_copyOf_9075b_13 : decode cJ7_copyOf_9075b 13 = .ok (.areturn, 1) := by decide +kernel
theorem dJ7_copyOf_9075b_14 : decode cJ7_copyOf_9075b 14 = .ok (.iload_n 1, 1) := by decide +kernel
theorem dJ7_copyOf_9075b_15 : decode cJ7_copyOf_9075b 15 = .ok (.newarray .byte, 2) := by decide +kernel
theorem dJ7_copyOf_9075b_17 : decode cJ7_copyOf_9075b 17 = .ok (.astore_n 2, 1) := by decide +kernel
theorem dJ7_copyOf_9075b_18 : decode cJ7_copyOf_9075b 18 = .ok (.aload_n 0, 1) := by decide +kernel
theorem dJ7_copyOf_9075b_19 : decode cJ7_copyOf_9075b 19 = .ok (.iconst 0, 1) := by decide +kernel
theorem dJ7_copyOf_9075b_20 : decode cJ7_copyOf_9075b 20 = .ok (.aload_n 2, 1) := by decide +kernel
theorem dJ7_copyOf_9075b_21 : decode cJ7_copyOf_9075b 21 = .ok (.iconst 0, 1) := by decide +kernel
theorem dJ7_copyOf_9075b_22 : decode cJ7_copyOf_9075b 22 = .ok (.aload_n 0, 1) := by decide +kernel
theorem dJ7_copyOf_9075b_23 : decode cJ7_copyOf_9075b 23 = .ok (.arraylength, 1) := by decide +kernel
theorem dJ7_copyOf_9075b_24 : decode cJ7_copyOf_9075b 24 = .ok (.iload_n 1, 1) := by decide +kernel
theorem dJ7_copyOf_9075b_25 : decode cJ7_copyOf_9075b 25 = .ok (.invokestatic 304, 3) := by decide +kernel
theorem dJ7_copyOf_9075b_28 : decode cJ7_copyOf_9075b 28 = .ok (.invokestatic 150, 3) := by decide +kernel
theorem dJ7_copyOf_9075b_31 : decode cJ7_copyOf_9075b 31 = .ok (.aload_n 2, 1) := by decide +kernel
theorem dJ7_copyOf_9075b_32 : decode cJ7_copyOf_9075b 32 = .ok (.areturn, 1) := by decide +kernel
theorem dJ8_newLength_cabcc_0 : decode cJ8_newLength_cabcc 0 = .ok (.iload_n 0, 1) := by decide +kernel
theorem dJ8_newLength_cabcc_1 : decode cJ8_newLength_cabcc 1 = .ok (.iload_n 1, 1) := by decide +kernel
theorem dJ8_newLength_cabcc_2 : decode cJ8_newLength_cabcc 2 = .ok (.iload_n 2, 1) := by decide +kernel
theorem dJ8_newLength_cabcc_3 : decode cJ8_newLength_cabcc 3 = .ok (.invokestatic 194, 3) := by decide +kernel
theorem dJ8_newLength_cabcc_6 : decode cJ8_newLength_cabcc 6 = .ok (.iadd, 1) := by decide +kernel
theorem dJ8_newLength_cabcc_7 : decode cJ8_newLength_cabcc 7 = .ok (.istore_n 3, 1) := by decide +kernel
theorem dJ8_newLength_cabcc_8 : decode cJ8_newLength_cabcc 8 = .ok (.iconst 0, 1) := by decide +kernel
theorem dJ8_newLength_cabcc_9 : decode cJ8_newLength_cabcc 9 = .ok (.iload_n 3, 1) := by decide +kernel
theorem dJ8_newLength_cabcc_10 : decode cJ8_newLength_cabcc 10 = .ok (.if_icmp .ge 11, 3) := by decide +kernel
theorem dJ8_newLength_cabcc_13 : decode cJ8_newLength_cabcc 13 = .ok (.iload_n 3, 1) := by decide +kernel
theorem dJ8_newLength_cabcc_14 : decode cJ8_newLength_cabcc 14 = .ok (.ldc 200, 2) := by decide +kernel
theorem dJ8_newLength_cabcc_16 : decode cJ8_newLength_cabcc 16 = .ok (.if_icmp .gt 5, 3) := by decide +kernel
theorem dJ8_newLength_cabcc_19 : decode cJ8_newLength_cabcc 19 = .ok (.iload_n 3, 1) := by decide +kernel
theorem dJ8_newLength_cabcc_20 : decode cJ8_newLength_cabcc 20 = .ok (.ireturn, 1) := by decide +kernel
theorem dJ8_newLength_cabcc_21 : decode cJ8_newLength_cabcc 21 = .ok (.iload_n 0, 1) := by decide +kernel
theorem dJ8_newLength_cabcc_22 : decode cJ8_newLength_cabcc 22 = .ok (.iload_n 1, 1) := by decide +kernel
theorem dJ8_newLength_cabcc_23 : decode cJ8_newLength_cabcc 23 = .ok (.invokestatic 201, 3) := by decide +kernel
theorem dJ8_newLength_cabcc_26 : decode cJ8_newLength_cabcc 26 = .ok (.ireturn, 1) := by decide +kernel
theorem dJ8_hugeLength_7cf53_0 : decode cJ8_hugeLength_7cf53 0 = .ok (.iload_n 0, 1) := by decide +kernel
theorem dJ8_hugeLength_7cf53_1 : decode cJ8_hugeLength_7cf53 1 = .ok (.iload_n 1, 1) := by decide +kernel
theorem dJ8_hugeLength_7cf53_2 : decode cJ8_hugeLength_7cf53 2 = .ok (.iadd, 1) := by decide +kernel
theorem dJ8_hugeLength_7cf53_3 : decode cJ8_hugeLength_7cf53 3 = .ok (.istore_n 2, 1) := by decide +kernel
theorem dJ8_hugeLength_7cf53_4 : decode cJ8_hugeLength_7cf53 4 = .ok (.iload_n 2, 1) := by decide +kernel
theorem dJ8_hugeLength_7cf53_5 : decode cJ8_hugeLength_7cf53 5 = .ok (.ifCond .ge 44, 3) := by decide +kernel
theorem dJ8_hugeLength_7cf53_8 : decode cJ8_hugeLength_7cf53 8 = .ok (.new 204, 3) := by decide +kernel
theorem dJ8_hugeLength_7cf53_11 : decode cJ8_hugeLength_7cf53 11 = .ok (.dup, 1) := by decide +kernel
theorem dJ8_hugeLength_7cf53_12 : decode cJ8_hugeLength_7cf53 12 = .ok (.new 89, 3) := by decide +kernel
theorem dJ8_hugeLength_7cf53_15 : decode cJ8_hugeLength_7cf53 15 = .ok (.dup, 1) := by decide +kernel
theorem dJ8_hugeLength_7cf53_16 : decode cJ8_hugeLength_7cf53 16 = .ok (.invokespecial 91, 3) := by decide +kernel
theorem dJ8_hugeLength_7cf53_19 : decode cJ8_hugeLength_7cf53 19 = .ok (.ldc 206, 2) := by decide +kernel
theorem dJ8_hugeLength_7cf53_21 : decode cJ8_hugeLength_7cf53 21 = .ok (.invokevirtual 94, 3) := by decide +kernel
theorem dJ8_hugeLength_7cf53_24 : decode cJ8_hugeLength_7cf53 24 = .ok (.iload_n 0, 1) := by decide +kernel
theorem dJ8_hugeLength_7cf53_25 : decode cJ8_hugeLength_7cf53 25 = .ok (.invokevirtual 98, 3) := by decide +kernel
theorem dJ8_hugeLength_7cf53_28 : decode cJ8_hugeLength_7cf53 28 = .ok (.ldc 208, 2) := by decide +kernel
theorem dJ8_hugeLength_7cf53_30 : decode cJ8_hugeLength_7cf53 30 = .ok (.invokevirtual 94, 3) := by decide +kernel
theorem dJ8_hugeLength_7cf53_33 : decode cJ8_hugeLength_7cf53 33 = .ok (.iload_n 1, 1) := by decide +kernel
theorem dJ8_hugeLength_7cf53_34 : decode cJ8_hugeLength_7cf53 34 = .ok (.invokevirtual 98, 3) := by decide +kernel
theorem dJ8_hugeLength_7cf53_37 : decode cJ8_hugeLength_7cf53 37 = .ok (.ldc 210, 2) := by decide +kernel
theorem dJ8_hugeLength_7cf53_39 : decode cJ8_hugeLength_7cf53 39 = .ok (.invokevirtual 94, 3) := by decide +kernel
theorem dJ8_hugeLength_7cf53_42 : decode cJ8_hugeLength_7cf53 42 = .ok (.invokevirtual 101, 3) := by decide +kernel
theorem dJ8_hugeLength_7cf53_45 : decode cJ8_hugeLength_7cf53 45 = .ok (.invokespecial 212, 3) := by decide +kernel
theorem dJ8_hugeLength_7cf53_48 : decode cJ8_hugeLength_7cf53 48 = .ok (.athrow, 1) := by decide +kernel
theorem dJ8_hugeLength_7cf53_49 : decode cJ8_hugeLength_7cf53 49 = .ok (.iload_n 2, 1) := by decide +kernel
theorem dJ8_hugeLength_7cf53_50 : decode cJ8_hugeLength_7cf53 50 = .ok (.ldc 200, 2) := by decide +kernel
theorem dJ8_hugeLength_7cf53_52 : decode cJ8_hugeLength_7cf53 52 = .ok (.if_icmp .gt 6, 3) := by decide +kernel
theorem dJ8_hugeLength_7cf53_55 : decode cJ8_hugeLength_7cf53 55 = .ok (.ldc 200, 2) := by decide +kernel
theorem dJ8_hugeLength_7cf53_57 : decode cJ8_hugeLength_7cf53 57 = .ok (.ireturn, 1) := by decide +kernel
theorem dJ8_hugeLength_7cf53_58 : decode cJ8_hugeLength_7cf53 58 = .ok (.iload_n 2, 1) := by decide +kernel
theorem dJ8_hugeLength_7cf53_59 : decode cJ8_hugeLength_7cf53 59 = .ok (.ireturn, 1) := by decide +kernel
theorem dJ3_checkIndex_8e157_0 : decode cJ3_checkIndex_8e157 0 = .ok (.iload_n 0, 1) := by decide +kernel
theorem dJ3_checkIndex_8e157_1 : decode cJ3_checkIndex_8e157 1 = .ok (.ifCond .lt 8, 3) := by decide +kernel
theorem dJ3_checkIndex_8e157_4 : decode cJ3_checkIndex_8e157 4 = .ok (.iload_n 0, 1) := by decide +kernel
theorem dJ3_checkIndex_8e157_5 : decode cJ3_checkIndex_8e157 5 = .ok (.iload_n 1, 1) := by decide +kernel
theorem dJ3_checkIndex_8e157_6 : decode cJ3_checkIndex_8e157 6 = .ok (.if_icmp .lt 10, 3) := by decide +kernel
theorem dJ3_checkIndex_8e157_9 : decode cJ3_checkIndex_8e157 9 = .ok (.aload_n 2, 1) := by decide +kernel
theorem dJ3_checkIndex_8e157_10 : decode cJ3_checkIndex_8e157 10 = .ok (.iload_n 0, 1) := by decide +kernel
theorem dJ3_checkIndex_8e157_11 : decode cJ3_checkIndex_8e157 11 = .ok (.iload_n 1, 1) := by decide +kernel
theorem dJ3_checkIndex_8e157_12 : decode cJ3_checkIndex_8e157 12 = .ok (.invokestatic 95, 3) := by decide +kernel
theorem dJ3_checkIndex_8e157_15 : decode cJ3_checkIndex_8e157 15 = .ok (.athrow, 1) := by decide +kernel
theorem dJ3_checkIndex_8e157_16 : decode cJ3_checkIndex_8e157 16 = .ok (.iload_n 0, 1) := by decide +kernel
theorem dJ3_checkIndex_8e157_17 : decode cJ3_checkIndex_8e157 17 = .ok (.ireturn, 1) := by decide +kernel
theorem dJ3_checkFromToIndex_8c36e_0 : decode cJ3_checkFromToIndex_8c36e 0 = .ok (.iload_n 0, 1) := by decide +kernel
theorem dJ3_checkFromToIndex_8c36e_1 : decode cJ3_checkFromToIndex_8c36e 1 = .ok (.ifCond .lt 13, 3) := by decide +kernel
theorem dJ3_checkFromToIndex_8c36e_4 : decode cJ3_checkFromToIndex_8c36e 4 = .ok (.iload_n 0, 1) := by decide +kernel
theorem dJ3_checkFromToIndex_8c36e_5 : decode cJ3_checkFromToIndex_8c36e 5 = .ok (.iload_n 1, 1) := by decide +kernel
theorem dJ3_checkFromToIndex_8c36e_6 : decode cJ3_checkFromToIndex_8c36e 6 = .ok (.if_icmp .gt 8, 3) := by decide +kernel
theorem dJ3_checkFromToIndex_8c36e_9 : decode cJ3_checkFromToIndex_8c36e 9 = .ok (.iload_n 1, 1) := by decide +kernel
theorem dJ3_checkFromToIndex_8c36e_10 : decode cJ3_checkFromToIndex_8c36e 10 = .ok (.iload_n 2, 1) := by decide +kernel
theorem dJ3_checkFromToIndex_8c36e_11 : decode cJ3_checkFromToIndex_8c36e 11 = .ok (.if_icmp .le 11, 3) := by decide +kernel
theorem dJ3_checkFromToIndex_8c36e_14 : decode cJ3_checkFromToIndex_8c36e 14 = .ok (.aload_n 3, 1) := by decide +kernel
theorem dJ3_checkFromToIndex_8c36e_15 : decode cJ3_checkFromToIndex_8c36e 15 = .ok (.iload_n 0, 1) := by decide +kernel
theorem dJ3_checkFromToIndex_8c36e_16 : decode cJ3_checkFromToIndex_8c36e 16 = .ok (.iload_n 1, 1) := by decide +kernel
theorem dJ3_checkFromToIndex_8c36e_17 : decode cJ3_checkFromToIndex_8c36e 17 = .ok (.iload_n 2, 1) := by decide +kernel
theorem dJ3_checkFromToIndex_8c36e_18 : decode cJ3_checkFromToIndex_8c36e 18 = .ok (.invokestatic 99, 3) := by decide +kernel
theorem dJ3_checkFromToIndex_8c36e_21 : decode cJ3_checkFromToIndex_8c36e 21 = .ok (.athrow, 1) := by decide +kernel
theorem dJ3_checkFromToIndex_8c36e_22 : decode cJ3_checkFromToIndex_8c36e 22 = .ok (.iload_n 0, 1) := by decide +kernel
theorem dJ3_checkFromToIndex_8c36e_23 : decode cJ3_checkFromToIndex_8c36e 23 = .ok (.ireturn, 1) := by decide +kernel
theorem dJ3_checkFromIndexSize_8c36e_0 : decode cJ3_checkFromIndexSize_8c36e 0 = .ok (.iload_n 2, 1) := by decide +kernel
theorem dJ3_checkFromIndexSize_8c36e_1 : decode cJ3_checkFromIndexSize_8c36e 1 = .ok (.iload_n 0, 1) := by decide +kernel
theorem dJ3_checkFromIndexSize_8c36e_2 : decode cJ3_checkFromIndexSize_8c36e 2 = .ok (.ior, 1) := by decide +kernel
theorem dJ3_checkFromIndexSize_8c36e_3 : decode cJ3_checkFromIndexSize_8c36e 3 = .ok (.iload_n 1, 1) := by decide +kernel
theorem dJ3_checkFromIndexSize_8c36e_4 : decode cJ3_checkFromIndexSize_8c36e 4 = .ok (.ior, 1) := by decide +kernel
theorem dJ3_checkFromIndexSize_8c36e_5 : decode cJ3_checkFromIndexSize_8c36e 5 = .ok (.ifCond .lt 10, 3) := by decide +kernel
theorem dJ3_checkFromIndexSize_8c36e_8 : decode cJ3_checkFromIndexSize_8c36e 8 = .ok (.iload_n 1, 1) := by decide +kernel
theorem dJ3_checkFromIndexSize_8c36e_9 : decode cJ3_checkFromIndexSize_8c36e 9 = .ok (.iload_n 2, 1) := by decide +kernel
theorem dJ3_checkFromIndexSize_8c36e_10 : decode cJ3_checkFromIndexSize_8c36e 10 = .ok (.iload_n 0, 1) := by decide +kernel
theorem dJ3_checkFromIndexSize_8c36e_11 : decode cJ3_checkFromIndexSize_8c36e 11 = .ok (.isub, 1) := by decide +kernel
theorem dJ3_checkFromIndexSize_8c36e_12 : decode cJ3_checkFromIndexSize_8c36e 12 = .ok (.if_icmp .le 11, 3) := by decide +kernel
theorem dJ3_checkFromIndexSize_8c36e_15 : decode cJ3_checkFromIndexSize_8c36e 15 = .ok (.aload_n 3, 1) := by decide +kernel
theorem dJ3_checkFromIndexSize_8c36e_16 : decode cJ3_checkFromIndexSize_8c36e 16 = .ok (.iload_n 0, 1) := by decide +kernel
theorem dJ3_checkFromIndexSize_8c36e_17 : decode cJ3_checkFromIndexSize_8c36e 17 = .ok (.iload_n 1, 1) := by decide +kernel
theorem dJ3_checkFromIndexSize_8c36e_18 : decode cJ3_checkFromIndexSize_8c36e 18 = .ok (.iload_n 2, 1) := by decide +kernel
theorem dJ3_checkFromIndexSize_8c36e_19 : decode cJ3_checkFromIndexSize_8c36e 19 = .ok (.invokestatic 103, 3) := by decide +kernel
theorem dJ3_checkFromIndexSize_8c36e_22 : decode cJ3_checkFromIndexSize_8c36e 22 = .ok (.athrow, 1) := by decide +kernel
theorem dJ3_checkFromIndexSize_8c36e_23 : decode cJ3_checkFromIndexSize_8c36e 23 = .ok (.iload_n 0, 1) := by decide +kernel
theorem dJ3_checkFromIndexSize_8c36e_24 : decode cJ3_checkFromIndexSize_8c36e 24 = .ok (.ireturn, 1) := by decide +kernel
theorem dL_cell_0 : decode cL_cell 0 = .ok (.aload_n 0, 1) := by decide +kernel
theorem dL_cell_1 : decode cL_cell 1 = .ok (.arraylength, 1) := by decide +kernel
theorem dL_cell_2 : decode cL_cell 2 = .ok (.ifCond .ne 7, 3) := by decide +kernel
theorem dL_cell_5 : decode cL_cell 5 = .ok (.iconst 0, 1) := by decide +kernel
theorem dL_cell_6 : decode cL_cell 6 = .ok (.goto 17, 3) := by decide +kernel
theorem dL_cell_9 : decode cL_cell 9 = .ok (.aload_n 0, 1) := by decide +kernel
theorem dL_cell_10 : decode cL_cell 10 = .ok (.iload_n 1, 1) := by decide +kernel
theorem dL_cell_11 : decode cL_cell 11 = .ok (.aload_n 0, 1) := by decide +kernel
theorem dL_cell_12 : decode cL_cell 12 = .ok (.arraylength, 1) := by decide +kernel
theorem dL_cell_13 : decode cL_cell 13 = .ok (.irem, 1) := by decide +kernel
theorem dL_cell_14 : decode cL_cell 14 = .ok (.iaload, 1) := by decide +kernel
theorem dL_cell_15 : decode cL_cell 15 = .ok (.ldc 7, 2) := by decide +kernel
theorem dL_cell_17 : decode cL_cell 17 = .ok (.iload_n 1, 1) := by decide +kernel
theorem dL_cell_18 : decode cL_cell 18 = .ok (.aload_n 0, 1) := by decide +kernel
theorem dL_cell_19 : decode cL_cell 19 = .ok (.arraylength, 1) := by decide +kernel
theorem dL_cell_20 : decode cL_cell 20 = .ok (.idiv, 1) := by decide +kernel
theorem dL_cell_21 : decode cL_cell 21 = .ok (.imul, 1) := by decide +kernel
theorem dL_cell_22 : decode cL_cell 22 = .ok (.ixor, 1) := by decide +kernel
theorem dL_cell_23 : decode cL_cell 23 = .ok (.ireturn, 1) := by decide +kernel
theorem dL_pick_0 : decode cL_pick 0 = .ok (.aload_n 0, 1) := by decide +kernel
theorem dL_pick_1 : decode cL_pick 1 = .ok (.iload_n 1, 1) := by decide +kernel
theorem dL_pick_2 : decode cL_pick 2 = .ok (.invokestatic 8, 3) := by decide +kernel
theorem dL_pick_5 : decode cL_pick 5 = .ok (.ldc 14, 2) := by decide +kernel
theorem dL_pick_7 : decode cL_pick 7 = .ok (.iand, 1) := by decide +kernel
theorem dL_pick_8 : decode cL_pick 8 = .ok (.iload_n 2, 1) := by decide +kernel
theorem dL_pick_9 : decode cL_pick 9 = .ok (.irem, 1) := by decide +kernel
theorem dL_pick_10 : decode cL_pick 10 = .ok (.ireturn, 1) := by decide +kernel
theorem dL_begins_0 : decode cL_begins 0 = .ok (.iconst 3, 1) := by decide +kernel
theorem dL_begins_1 : decode cL_begins 1 = .ok (.aload_n 1, 1) := by decide +kernel
theorem dL_begins_2 : decode cL_begins 2 = .ok (.iconst 0, 1) := by decide +kernel
theorem dL_begins_3 : decode cL_begins 3 = .ok (.bipush 8, 2) := by decide +kernel
theorem dL_begins_5 : decode cL_begins 5 = .ok (.invokestatic 15, 3) := by decide +kernel
theorem dL_begins_8 : decode cL_begins 8 = .ok (.iadd, 1) := by decide +kernel
theorem dL_begins_9 : decode cL_begins 9 = .ok (.istore_n 2, 1) := by decide +kernel
theorem dL_begins_10 : decode cL_begins 10 = .ok (.bipush 100, 2) := by decide +kernel
theorem dL_begins_12 : decode cL_begins 12 = .ok (.aload_n 1, 1) := by decide +kernel
theorem dL_begins_13 : decode cL_begins 13 = .ok (.iconst 1, 1) := by decide +kernel
theorem dL_begins_14 : decode cL_begins 14 = .ok (.sipush 200, 3) := by decide +kernel
theorem dL_begins_17 : decode cL_begins 17 = .ok (.invokestatic 15, 3) := by decide +kernel
theorem dL_begins_20 : decode cL_begins 20 = .ok (.iadd, 1) := by decide +kernel
theorem dL_begins_21 : decode cL_begins 21 = .ok (.istore_n 3, 1) := by decide +kernel
theorem dL_begins_22 : decode cL_begins 22 = .ok (.bipush 50, 2) := by decide +kernel
theorem dL_begins_24 : decode cL_begins 24 = .ok (.aload_n 1, 1) := by decide +kernel
theorem dL_begins_25 : decode cL_begins 25 = .ok (.iconst 2, 1) := by decide +kernel
theorem dL_begins_26 : decode cL_begins 26 = .ok (.bipush 50, 2) := by decide +kernel
theorem dL_begins_28 : decode cL_begins 28 = .ok (.invokestatic 15, 3) := by decide +kernel
theorem dL_begins_31 : decode cL_begins 31 = .ok (.iadd, 1) := by decide +kernel
theorem dL_begins_32 : decode cL_begins 32 = .ok (.istore 4, 2) := by decide +kernel
theorem dL_begins_34 : decode cL_begins 34 = .ok (.new 19, 3) := by decide +kernel
theorem dL_begins_37 : decode cL_begins 37 = .ok (.dup, 1) := by decide +kernel
theorem dL_begins_38 : decode cL_begins 38 = .ok (.ldc 21, 2) := by decide +kernel
theorem dL_begins_40 : decode cL_begins 40 = .ok (.invokespecial 23, 3) := by decide +kernel
theorem dL_begins_43 : decode cL_begins 43 = .ok (.iload_n 3, 1) := by decide +kernel
theorem dL_begins_44 : decode cL_begins 44 = .ok (.invokevirtual 26, 3) := by decide +kernel
theorem dL_begins_47 : decode cL_begins 47 = .ok (.ldc 30, 2) := by decide +kernel
theorem dL_begins_49 : decode cL_begins 49 = .ok (.invokevirtual 32, 3) := by decide +kernel
theorem dL_begins_52 : decode cL_begins 52 = .ok (.iload 4, 2) := by decide +kernel
theorem dL_begins_54 : decode cL_begins 54 = .ok (.invokevirtual 26, 3) := by decide +kernel
theorem dL_begins_57 : decode cL_begins 57 = .ok (.ldc 35, 2) := by decide +kernel
theorem dL_begins_59 : decode cL_begins 59 = .ok (.invokevirtual 32, 3) := by decide +kernel
theorem dL_begins_62 : decode cL_begins 62 = .ok (.astore 5, 2) := by decide +kernel
theorem dL_begins_64 : decode cL_begins 64 = .ok (.iconst 0, 1) := by decide +kernel
theorem dL_begins_65 : decode cL_begins 65 = .ok (.istore 6, 2) := by decide +kernel
theorem dL_begins_67 : decode cL_begins 67 = .ok (.iload 6, 2) := by decide +kernel
theorem dL_begins_69 : decode cL_begins 69 = .ok (.iload_n 2, 1) := by decide +kernel
theorem dL_begins_70 : decode cL_begins 70 = .ok (.if_icmp .ge 269, 3) := by decide +kernel
theorem dL_begins_73 : decode cL_begins 73 = .ok (.iconst 5, 1) := by decide +kernel
theorem dL_begins_74 : decode cL_begins 74 = .ok (.bipush 8, 2) := by decide +kernel
theorem dL_begins_76 : decode cL_begins 76 = .ok (.iload 6, 2) := by decide +kernel
theorem dL_begins_78 : decode cL_begins 78 = .ok (.imul, 1) := by decide +kernel
theorem dL_begins_79 : decode cL_begins 79 = .ok (.iadd, 1) := by decide +kernel
theorem dL_begins_80 : decode cL_begins 80 = .ok (.istore 7, 2) := by decide +kernel
theorem dL_begins_82 : decode cL_begins 82 = .ok (.aload_n 1, 1) := by decide +kernel
theorem dL_begins_83 : decode cL_begins 83 = .ok (.iload 7, 2) := by decide +kernel
theorem dL_begins_85 : decode cL_begins 85 = .ok (.bipush 6, 2) := by decide +kernel
theorem dL_begins_87 : decode cL_begins 87 = .ok (.invokestatic 15, 3) := by decide +kernel
theorem dL_begins_90 : decode cL_begins 90 = .ok (.ifCond .ne 7, 3) := by decide +kernel
theorem dL_begins_93 : decode cL_begins 93 = .ok (.iconst 1, 1) := by decide +kernel
theorem dL_begins_94 : decode cL_begins 94 = .ok (.goto 4, 3) := by decide +kernel
theorem dL_begins_97 : decode cL_begins 97 = .ok (.iconst 0, 1) := by decide +kernel
theorem dL_begins_98 : decode cL_begins 98 = .ok (.istore 8, 2) := by decide +kernel
theorem dL_begins_100 : decode cL_begins 100 = .ok (.aload 5, 2) := by decide +kernel
theorem dL_begins_102 : decode cL_begins 102 = .ok (.iload 8, 2) := by decide +kernel
theorem dL_begins_104 : decode cL_begins 104 = .ok (.ifCond .eq 8, 3) := by decide +kernel
theorem dL_begins_107 : decode cL_begins 107 = .ok (.ldc 37, 2) := by decide +kernel
theorem dL_begins_109 : decode cL_begins 109 = .ok (.goto 5, 3) := by decide +kernel
theorem dL_begins_112 : decode cL_begins 112 = .ok (.ldc 39, 2) := by decide +kernel
theorem dL_begins_114 : decode cL_begins 114 = .ok (.invokevirtual 32, 3) := by decide +kernel
theorem dL_begins_117 : decode cL_begins 117 = .ok (.pop, 1) := by decide +kernel
theorem dL_begins_118 : decode cL_begins 118 = .ok (.iload 8, 2) := by decide +kernel
theorem dL_begins_120 : decode cL_begins 120 = .ok (.ifCond .eq 25, 3) := by decide +kernel
theorem dL_begins_123 : decode cL_begins 123 = .ok (.aload 5, 2) := by decide +kernel
theorem dL_begins_125 : decode cL_begins 125 = .ok (.aload_n 1, 1) := by decide +kernel
theorem dL_begins_126 : decode cL_begins 126 = .ok (.iload 7, 2) := by decide +kernel
theorem dL_begins_128 : decode cL_begins 128 = .ok (.iconst 1, 1) := by decide +kernel
theorem dL_begins_129 : decode cL_begins 129 = .ok (.iadd, 1) := by decide +kernel
theorem dL_begins_130 : decode cL_begins 130 = .ok (.sipush 1000, 3) := by decide +kernel
theorem dL_begins_133 : decode cL_begins 133 = .ok (.invokestatic 15, 3) := by decide +kernel
theorem dL_begins_136 : decode cL_begins 136 = .ok (.invokevirtual 26, 3) := by decide +kernel
theorem dL_begins_139 : decode cL_begins 139 = .ok (.ldc 30, 2) := by decide +kernel
theorem dL_begins_141 : decode cL_begins 141 = .ok (.invokevirtual 32, 3) := by decide +kernel
theorem dL_begins_144 : decode cL_begins 144 = .ok (.pop, 1) := by decide +kernel
theorem dL_begins_145 : decode cL_begins 145 = .ok (.aload 5, 2) := by decide +kernel
theorem dL_begins_147 : decode cL_begins 147 = .ok (.iload_n 3, 1) := by decide +kernel
theorem dL_begins_148 : decode cL_begins 148 = .ok (.bipush 10, 2) := by decide +kernel
theorem dL_begins_150 : decode cL_begins 150 = .ok (.isub, 1) := by decide +kernel
theorem dL_begins_151 : decode cL_begins 151 = .ok (.aload_n 1, 1) := by decide +kernel
theorem dL_begins_152 : decode cL_begins 152 = .ok (.iload 7, 2) := by decide +kernel
theorem dL_begins_154 : decode cL_begins 154 = .ok (.iconst 2, 1) := by decide +kernel
theorem dL_begins_155 : decode cL_begins 155 = .ok (.iadd, 1) := by decide +kernel
theorem dL_begins_156 : decode cL_begins 156 = .ok (.bipush 20, 2) := by decide +kernel
theorem dL_begins_158 : decode cL_begins 158 = .ok (.invokestatic 15, 3) := by decide +kernel
theorem dL_begins_161 : decode cL_begins 161 = .ok (.iadd, 1) := by decide +kernel
theorem dL_begins_162 : decode cL_begins 162 = .ok (.aload_n 1, 1) := by decide +kernel
theorem dL_begins_163 : decode cL_begins 163 = .ok (.iload 7, 2) := by decide +kernel
theorem dL_begins_165 : decode cL_begins 165 = .ok (.iconst 3, 1) := by decide +kernel
theorem dL_begins_166 : decode cL_begins 166 = .ok (.iadd, 1) := by decide +kernel
theorem dL_begins_167 : decode cL_begins 167 = .ok (.bipush 7, 2) := by decide +kernel
theorem dL_begins_169 : decode cL_begins 169 = .ok (.invokestatic 15, 3) := by decide +kernel
theorem dL_begins_172 : decode cL_begins 172 = .ok (.ifCond .ne 8, 3) := by decide +kernel
theorem dL_begins_175 : decode cL_begins 175 = .ok (.bipush 40, 2) := by decide +kernel
theorem dL_begins_177 : decode cL_begins 177 = .ok (.goto 4, 3) := by decide +kernel
theorem dL_begins_180 : decode cL_begins 180 = .ok (.iconst 0, 1) := by decide +kernel
theorem dL_begins_181 : decode cL_begins 181 = .ok (.iadd, 1) := by decide +kernel
theorem dL_begins_182 : decode cL_begins 182 = .ok (.invokevirtual 26, 3) := by decide +kernel
theorem dL_begins_185 : decode cL_begins 185 = .ok (.ldc 30, 2) := by decide +kernel
theorem dL_begins_187 : decode cL_begins 187 = .ok (.invokevirtual 32, 3) := by decide +kernel
theorem dL_begins_190 : decode cL_begins 190 = .ok (.iload 4, 2) := by decide +kernel
theorem dL_begins_192 : decode cL_begins 192 = .ok (.iconst 5, 1) := by decide +kernel
theorem dL_begins_193 : decode cL_begins 193 = .ok (.isub, 1) := by decide +kernel
theorem dL_begins_194 : decode cL_begins 194 = .ok (.aload_n 1, 1) := by decide +kernel
theorem dL_begins_195 : decode cL_begins 195 = .ok (.iload 7, 2) := by decide +kernel
theorem dL_begins_197 : decode cL_begins 197 = .ok (.iconst 4, 1) := by decide +kernel
theorem dL_begins_198 : decode cL_begins 198 = .ok (.iadd, 1) := by decide +kernel
theorem dL_begins_199 : decode cL_begins 199 = .ok (.bipush 10, 2) := by decide +kernel
theorem dL_begins_201 : decode cL_begins 201 = .ok (.invokestatic 15, 3) := by decide +kernel
theorem dL_begins_204 : decode cL_begins 204 = .ok (.iadd, 1) := by decide +kernel
theorem dL_begins_205 : decode cL_begins 205 = .ok (.invokevirtual 26, 3) := by decide +kernel
theorem dL_begins_208 : decode cL_begins 208 = .ok (.aload_n 1, 1) := by decide +kernel
theorem dL_begins_209 : decode cL_begins 209 = .ok (.iload 7, 2) := by decide +kernel
theorem dL_begins_211 : decode cL_begins 211 = .ok (.iconst 5, 1) := by decide +kernel
theorem dL_begins_212 : decode cL_begins 212 = .ok (.iadd, 1) := by decide +kernel
theorem dL_begins_213 : decode cL_begins 213 = .ok (.iconst 2, 1) := by decide +kernel
theorem dL_begins_214 : decode cL_begins 214 = .ok (.invokestatic 15, 3) := by decide +kernel
theorem dL_begins_217 : decode cL_begins 217 = .ok (.ifCond .ne 8, 3) := by decide +kernel
theorem dL_begins_220 : decode cL_begins 220 = .ok (.ldc 41, 2) := by decide +kernel
theorem dL_begins_222 : decode cL_begins 222 = .ok (.goto 5, 3) := by decide +kernel
theorem dL_begins_225 : decode cL_begins 225 = .ok (.ldc 30, 2) := by decide +kernel
theorem dL_begins_227 : decode cL_begins 227 = .ok (.invokevirtual 32, 3) := by decide +kernel
theorem dL_begins_230 : decode cL_begins 230 = .ok (.aload_n 1, 1) := by decide +kernel
theorem dL_begins_231 : decode cL_begins 231 = .ok (.iload 7, 2) := by decide +kernel
theorem dL_begins_233 : decode cL_begins 233 = .ok (.iconst 5, 1) := by decide +kernel
theorem dL_begins_234 : decode cL_begins 234 = .ok (.iadd, 1) := by decide +kernel
theorem dL_begins_235 : decode cL_begins 235 = .ok (.bipush 40, 2) := by decide +kernel
theorem dL_begins_237 : decode cL_begins 237 = .ok (.invokestatic 15, 3) := by decide +kernel
theorem dL_begins_240 : decode cL_begins 240 = .ok (.invokevirtual 26, 3) := by decide +kernel
theorem dL_begins_243 : decode cL_begins 243 = .ok (.pop, 1) := by decide +kernel
theorem dL_begins_244 : decode cL_begins 244 = .ok (.iload 8, 2) := by decide +kernel
theorem dL_begins_246 : decode cL_begins 246 = .ok (.ifCond .ne 44, 3) := by decide +kernel
theorem dL_begins_249 : decode cL_begins 249 = .ok (.aload 5, 2) := by decide +kernel
theorem dL_begins_251 : decode cL_begins 251 = .ok (.ldc 30, 2) := by decide +kernel
theorem dL_begins_253 : decode cL_begins 253 = .ok (.invokevirtual 32, 3) := by decide +kernel
theorem dL_begins_256 : decode cL_begins 256 = .ok (.aload_n 1, 1) := by decide +kernel
theorem dL_begins_257 : decode cL_begins 257 = .ok (.iload 7, 2) := by decide +kernel
theorem dL_begins_259 : decode cL_begins 259 = .ok (.bipush 6, 2) := by decide +kernel
theorem dL_begins_261 : decode cL_begins 261 = .ok (.iadd, 1) := by decide +kernel
theorem dL_begins_262 : decode cL_begins 262 = .ok (.bipush 12, 2) := by decide +kernel
theorem dL_begins_264 : decode cL_begins 264 = .ok (.invokestatic 15, 3) := by decide +kernel
theorem dL_begins_267 : decode cL_begins 267 = .ok (.invokevirtual 26, 3) := by decide +kernel
theorem dL_begins_270 : decode cL_begins 270 = .ok (.ldc 30, 2) := by decide +kernel
theorem dL_begins_272 : decode cL_begins 272 = .ok (.invokevirtual 32, 3) := by decide +kernel
theorem dL_begins_275 : decode cL_begins 275 = .ok (.aload_n 1, 1) := by decide +kernel
theorem dL_begins_276 : decode cL_begins 276 = .ok (.iload 7, 2) := by decide +kernel
theorem dL_begins_278 : decode cL_begins 278 = .ok (.bipush 7, 2) := by decide +kernel
theorem dL_begins_280 : decode cL_begins 280 = .ok (.iadd, 1) := by decide +kernel
theorem dL_begins_281 : decode cL_begins 281 = .ok (.bipush 12, 2) := by decide +kernel
theorem dL_begins_283 : decode cL_begins 283 = .ok (.invokestatic 15, 3) := by decide +kernel
theorem dL_begins_286 : decode cL_begins 286 = .ok (.invokevirtual 26, 3) := by decide +kernel
theorem dL_begins_289 : decode cL_begins 289 = .ok (.pop, 1) := by decide +kernel
theorem dL_begins_290 : decode cL_begins 290 = .ok (.aload_n 1, 1) := by decide +kernel
theorem dL_begins_291 : decode cL_begins 291 = .ok (.iload 7, 2) := by decide +kernel
theorem dL_begins_293 : decode cL_begins 293 = .ok (.iconst 3, 1) := by decide +kernel
theorem dL_begins_294 : decode cL_begins 294 = .ok (.iadd, 1) := by decide +kernel
theorem dL_begins_295 : decode cL_begins 295 = .ok (.iconst 5, 1) := by decide +kernel
theorem dL_begins_296 : decode cL_begins 296 = .ok (.invokestatic 15, 3) := by decide +kernel
theorem dL_begins_299 : decode cL_begins 299 = .ok (.iconst 1, 1) := by decide +kernel
theorem dL_begins_300 : decode cL_begins 300 = .ok (.if_icmp .ne 25, 3) := by decide +kernel
theorem dL_begins_303 : decode cL_begins 303 = .ok (.aload 5, 2) := by decide +kernel
theorem dL_begins_305 : decode cL_begins 305 = .ok (.ldc 43, 2) := by decide +kernel
theorem dL_begins_307 : decode cL_begins 307 = .ok (.invokevirtual 32, 3) := by decide +kernel
theorem dL_begins_310 : decode cL_begins 310 = .ok (.aload_n 1, 1) := by decide +kernel
theorem dL_begins_311 : decode cL_begins 311 = .ok (.iload 7, 2) := by decide +kernel
theorem dL_begins_313 : decode cL_begins 313 = .ok (.bipush 6, 2) := by decide +kernel
theorem dL_begins_315 : decode cL_begins 315 = .ok (.iadd, 1) := by decide +kernel
theorem dL_begins_316 : decode cL_begins 316 = .ok (.bipush 60, 2) := by decide +kernel
theorem dL_begins_318 : decode cL_begins 318 = .ok (.invokestatic 15, 3) := by decide +kernel
theorem dL_begins_321 : decode cL_begins 321 = .ok (.invokevirtual 26, 3) := by decide +kernel
theorem dL_begins_324 : decode cL_begins 324 = .ok (.pop, 1) := by decide +kernel
theorem dL_begins_325 : decode cL_begins 325 = .ok (.aload 5, 2) := by decide +kernel
theorem dL_begins_327 : decode cL_begins 327 = .ok (.ldc 35, 2) := by decide +kernel
theorem dL_begins_329 : decode cL_begins 329 = .ok (.invokevirtual 32, 3) := by decide +kernel
theorem dL_begins_332 : decode cL_begins 332 = .ok (.pop, 1) := by decide +kernel
theorem dL_begins_333 : decode cL_begins 333 = .ok (.iinc 6 1, 3) := by decide +kernel
theorem dL_begins_336 : decode cL_begins 336 = .ok (.goto (-269), 3) := by decide +kernel
theorem dL_begins_339 : decode cL_begins 339 = .ok (.aload 5, 2) := by decide +kernel
theorem dL_begins_341 : decode cL_begins 341 = .ok (.ldc 45, 2) := by decide +kernel
theorem dL_begins_343 : decode cL_begins 343 = .ok (.invokevirtual 32, 3) := by decide +kernel
theorem dL_begins_346 : decode cL_begins 346 = .ok (.bipush 120, 2) := by decide +kernel
theorem dL_begins_348 : decode cL_begins 348 = .ok (.aload_n 1, 1) := by decide +kernel
theorem dL_begins_349 : decode cL_begins 349 = .ok (.iconst 3, 1) := by decide +kernel
theorem dL_begins_350 : decode cL_begins 350 = .ok (.bipush 100, 2) := by decide +kernel
theorem dL_begins_352 : decode cL_begins 352 = .ok (.invokestatic 15, 3) := by decide +kernel
theorem dL_begins_355 : decode cL_begins 355 = .ok (.iadd, 1) := by decide +kernel
theorem dL_begins_356 : decode cL_begins 356 = .ok (.invokevirtual 26, 3) := by decide +kernel
theorem dL_begins_359 : decode cL_begins 359 = .ok (.ldc 30, 2) := by decide +kernel
theorem dL_begins_361 : decode cL_begins 361 = .ok (.invokevirtual 32, 3) := by decide +kernel
theorem dL_begins_364 : decode cL_begins 364 = .ok (.bipush 10, 2) := by decide +kernel
theorem dL_begins_366 : decode cL_begins 366 = .ok (.aload_n 1, 1) := by decide +kernel
theorem dL_begins_367 : decode cL_begins 367 = .ok (.iconst 4, 1) := by decide +kernel
theorem dL_begins_368 : decode cL_begins 368 = .ok (.bipush 60, 2) := by decide +kernel
theorem dL_begins_370 : decode cL_begins 370 = .ok (.invokestatic 15, 3) := by decide +kernel
theorem dL_begins_373 : decode cL_begins 373 = .ok (.iadd, 1) := by decide +kernel
theorem dL_begins_374 : decode cL_begins 374 = .ok (.invokevirtual 26, 3) := by decide +kernel
theorem dL_begins_377 : decode cL_begins 377 = .ok (.ldc 47, 2) := by decide +kernel
theorem dL_begins_379 : decode cL_begins 379 = .ok (.invokevirtual 32, 3) := by decide +kernel
theorem dL_begins_382 : decode cL_begins 382 = .ok (.pop, 1) := by decide +kernel
theorem dL_begins_383 : decode cL_begins 383 = .ok (.aload 5, 2) := by decide +kernel
theorem dL_begins_385 : decode cL_begins 385 = .ok (.invokevirtual 49, 3) := by decide +kernel
theorem dL_begins_388 : decode cL_begins 388 = .ok (.istore 6, 2) := by decide +kernel
theorem dL_begins_390 : decode cL_begins 390 = .ok (.iconst 0, 1) := by decide +kernel
theorem dL_begins_391 : decode cL_begins 391 = .ok (.istore 7, 2) := by decide +kernel
theorem dL_begins_393 : decode cL_begins 393 = .ok (.iload 7, 2) := by decide +kernel
theorem dL_begins_395 : decode cL_begins 395 = .ok (.iload 6, 2) := by decide +kernel
theorem dL_begins_397 : decode cL_begins 397 = .ok (.if_icmp .ge 98, 3) := by decide +kernel
theorem dL_begins_400 : decode cL_begins 400 = .ok (.iconst 5, 1) := by decide +kernel
theorem dL_begins_401 : decode cL_begins 401 = .ok (.newarray .int, 2) := by decide +kernel
theorem dL_begins_403 : decode cL_begins 403 = .ok (.astore 8, 2) := by decide +kernel
theorem dL_begins_405 : decode cL_begins 405 = .ok (.iconst 0, 1) := by decide +kernel
theorem dL_begins_406 : decode cL_begins 406 = .ok (.istore 9, 2) := by decide +kernel
theorem dL_begins_408 : decode cL_begins 408 = .ok (.iload 9, 2) := by decide +kernel
theorem dL_begins_410 : decode cL_begins 410 = .ok (.bipush 20, 2) := by decide +kernel
theorem dL_begins_412 : decode cL_begins 412 = .ok (.if_icmp .ge 52, 3) := by decide +kernel
theorem dL_begins_415 : decode cL_begins 415 = .ok (.aload 8, 2) := by decide +kernel
theorem dL_begins_417 : decode cL_begins 417 = .ok (.iload 9, 2) := by decide +kernel
theorem dL_begins_419 : decode cL_begins 419 = .ok (.iconst 4, 1) := by decide +kernel
theorem dL_begins_420 : decode cL_begins 420 = .ok (.idiv, 1) := by decide +kernel
theorem dL_begins_421 : decode cL_begins 421 = .ok (.aload 8, 2) := by decide +kernel
theorem dL_begins_423 : decode cL_begins 423 = .ok (.iload 9, 2) := by decide +kernel
theorem dL_begins_425 : decode cL_begins 425 = .ok (.iconst 4, 1) := by decide +kernel
theorem dL_begins_426 : decode cL_begins 426 = .ok (.idiv, 1) := by decide +kernel
theorem dL_begins_427 : decode cL_begins 427 = .ok (.iaload, 1) := by decide +kernel
theorem dL_begins_428 : decode cL_begins 428 = .ok (.bipush 8, 2) := by decide +kernel
theorem dL_begins_430 : decode cL_begins 430 = .ok (.ishl, 1) := by decide +kernel
theorem dL_begins_431 : decode cL_begins 431 = .ok (.iload 7, 2) := by decide +kernel
theorem dL_begins_433 : decode cL_begins 433 = .ok (.iload 9, 2) := by decide +kernel
theorem dL_begins_435 : decode cL_begins 435 = .ok (.iadd, 1) := by decide +kernel
theorem dL_begins_436 : decode cL_begins 436 = .ok (.iload 6, 2) := by decide +kernel
theorem dL_begins_438 : decode cL_begins 438 = .ok (.if_icmp .ge 16, 3) := by decide +kernel
theorem dL_begins_441 : decode cL_begins 441 = .ok (.aload 5, 2) := by decide +kernel
theorem dL_begins_443 : decode cL_begins 443 = .ok (.iload 7, 2) := by decide +kernel
theorem dL_begins_445 : decode cL_begins 445 = .ok (.iload 9, 2) := by decide +kernel
theorem dL_begins_447 : decode cL_begins 447 = .ok (.iadd, 1) := by decide +kernel
theorem dL_begins_448 : decode cL_begins 448 = .ok (.invokevirtual 53, 3) := by decide +kernel
theorem dL_begins_451 : decode cL_begins 451 = .ok (.goto 5, 3) := by decide +kernel
theorem dL_begins_454 : decode cL_begins 454 = .ok (.bipush 32, 2) := by decide +kernel
theorem dL_begins_456 : decode cL_begins 456 = .ok (.ior, 1) := by decide +kernel
theorem dL_begins_457 : decode cL_begins 457 = .ok (.iastore, 1) := by decide +kernel
theorem dL_begins_458 : decode cL_begins 458 = .ok (.iinc 9 1, 3) := by decide +kernel
theorem dL_begins_461 : decode cL_begins 461 = .ok (.goto (-53), 3) := by decide +kernel
theorem dL_begins_464 : decode cL_begins 464 = .ok (.aload_n 0, 1) := by decide +kernel
theorem dL_begins_465 : decode cL_begins 465 = .ok (.aload 8, 2) := by decide +kernel
theorem dL_begins_467 : decode cL_begins 467 = .ok (.iconst 0, 1) := by decide +kernel
theorem dL_begins_468 : decode cL_begins 468 = .ok (.iaload, 1) := by decide +kernel
theorem dL_begins_469 : decode cL_begins 469 = .ok (.aload 8, 2) := by decide +kernel
theorem dL_begins_471 : decode cL_begins 471 = .ok (.iconst 1, 1) := by decide +kernel
theorem dL_begins_472 : decode cL_begins 472 = .ok (.iaload, 1) := by decide +kernel
theorem dL_begins_473 : decode cL_begins 473 = .ok (.aload 8, 2) := by decide +kernel
theorem dL_begins_475 : decode cL_begins 475 = .ok (.iconst 2, 1) := by decide +kernel
theorem dL_begins_476 : decode cL_begins 476 = .ok (.iaload, 1) := by decide +kernel
theorem dL_begins_477 : decode cL_begins 477 = .ok (.aload 8, 2) := by decide +kernel
theorem dL_begins_479 : decode cL_begins 479 = .ok (.iconst 3, 1) := by decide +kernel
theorem dL_begins_480 : decode cL_begins 480 = .ok (.iaload, 1) := by decide +kernel
theorem dL_begins_481 : decode cL_begins 481 = .ok (.aload 8, 2) := by decide +kernel
theorem dL_begins_483 : decode cL_begins 483 = .ok (.iconst 4, 1) := by decide +kernel
theorem dL_begins_484 : decode cL_begins 484 = .ok (.iaload, 1) := by decide +kernel
theorem dL_begins_485 : decode cL_begins 485 = .ok (.invokevirtual 57, 3) := by decide +kernel
theorem dL_begins_488 : decode cL_begins 488 = .ok (.pop, 1) := by decide +kernel
theorem dL_begins_489 : decode cL_begins 489 = .ok (.iinc 7 20, 3) := by decide +kernel
theorem dL_begins_492 : decode cL_begins 492 = .ok (.goto (-99), 3) := by decide +kernel
theorem dL_begins_495 : decode cL_begins 495 = .ok (.aload_n 0, 1) := by decide +kernel
theorem dL_begins_496 : decode cL_begins 496 = .ok (.iload 6, 2) := by decide +kernel
theorem dL_begins_498 : decode cL_begins 498 = .ok (.invokevirtual 62, 3) := by decide +kernel
theorem dL_begins_501 : decode cL_begins 501 = .ok (.iload_n 2, 1) := by decide +kernel
theorem dL_begins_502 : decode cL_begins 502 = .ok (.if_icmp .ne 7, 3) := by decide +kernel
theorem dL_begins_505 : decode cL_begins 505 = .ok (.iconst 1, 1) := by decide +kernel
theorem dL_begins_506 : decode cL_begins 506 = .ok (.goto 4, 3) := by decide +kernel
theorem dL_begins_509 : decode cL_begins 509 = .ok (.iconst 0, 1) := by decide +kernel
theorem dL_begins_510 : decode cL_begins 510 = .ok (.ireturn, 1) := by decide +kernel
theorem dL_acts_0 : decode cL_acts 0 = .ok (.aload_n 0, 1) := by decide +kernel
theorem dL_acts_1 : decode cL_acts 1 = .ok (.iconst 3, 1) := by decide +kernel
theorem dL_acts_2 : decode cL_acts 2 = .ok (.invokevirtual 66, 3) := by decide +kernel
theorem dL_acts_5 : decode cL_acts 5 = .ok (.ifCond .ne 24, 3) := by decide +kernel
theorem dL_acts_8 : decode cL_acts 8 = .ok (.aload_n 0, 1) := by decide +kernel
theorem dL_acts_9 : decode cL_acts 9 = .ok (.iconst 1, 1) := by decide +kernel
theorem dL_acts_10 : decode cL_acts 10 = .ok (.aload_n 1, 1) := by decide +kernel
theorem dL_acts_11 : decode cL_acts 11 = .ok (.iload_n 2, 1) := by decide +kernel
theorem dL_acts_12 : decode cL_acts 12 = .ok (.iconst 2, 1) := by decide +kernel
theorem dL_acts_13 : decode cL_acts 13 = .ok (.invokestatic 15, 3) := by decide +kernel
theorem dL_acts_16 : decode cL_acts 16 = .ok (.iadd, 1) := by decide +kernel
theorem dL_acts_17 : decode cL_acts 17 = .ok (.invokevirtual 69, 3) := by decide +kernel
theorem dL_acts_20 : decode cL_acts 20 = .ok (.ifCond .lt 7, 3) := by decide +kernel
theorem dL_acts_23 : decode cL_acts 23 = .ok (.iconst 1, 1) := by decide +kernel
theorem dL_acts_24 : decode cL_acts 24 = .ok (.goto 4, 3) := by decide +kernel
theorem dL_acts_27 : decode cL_acts 27 = .ok (.iconst 0, 1) := by decide +kernel
theorem dL_acts_28 : decode cL_acts 28 = .ok (.ireturn, 1) := by decide +kernel
theorem dL_acts_29 : decode cL_acts 29 = .ok (.aload_n 1, 1) := by decide +kernel
theorem dL_acts_30 : decode cL_acts 30 = .ok (.iload_n 2, 1) := by decide +kernel
theorem dL_acts_31 : decode cL_acts 31 = .ok (.iconst 1, 1) := by decide +kernel
theorem dL_acts_32 : decode cL_acts 32 = .ok (.iadd, 1) := by decide +kernel
theorem dL_acts_33 : decode cL_acts 33 = .ok (.iconst 4, 1) := by decide +kernel
theorem dL_acts_34 : decode cL_acts 34 = .ok (.invokestatic 15, 3) := by decide +kernel
theorem dL_acts_37 : decode cL_acts 37 = .ok (.istore_n 3, 1) := by decide +kernel
theorem dL_acts_38 : decode cL_acts 38 = .ok (.iload_n 3, 1) := by decide +kernel
theorem dL_acts_39 : decode cL_acts 39 = .ok (.ifCond .ne 16, 3) := by decide +kernel
theorem dL_acts_42 : decode cL_acts 42 = .ok (.aload_n 0, 1) := by decide +kernel
theorem dL_acts_43 : decode cL_acts 43 = .ok (.invokevirtual 72, 3) := by decide +kernel
theorem dL_acts_46 : decode cL_acts 46 = .ok (.ifCond .le 7, 3) := by decide +kernel
theorem dL_acts_49 : decode cL_acts 49 = .ok (.iconst 1, 1) := by decide +kernel
theorem dL_acts_50 : decode cL_acts 50 = .ok (.goto 4, 3) := by decide +kernel
theorem dL_acts_53 : decode cL_acts 53 = .ok (.iconst 0, 1) := by decide +kernel
theorem dL_acts_54 : decode cL_acts 54 = .ok (.ireturn, 1) := by decide +kernel
theorem dL_acts_55 : decode cL_acts 55 = .ok (.iload_n 3, 1) := by decide +kernel
theorem dL_acts_56 : decode cL_acts 56 = .ok (.iconst 1, 1) := by decide +kernel
theorem dL_acts_57 : decode cL_acts 57 = .ok (.if_icmp .ne 25, 3) := by decide +kernel
theorem dL_acts_60 : decode cL_acts 60 = .ok (.aload_n 0, 1) := by decide +kernel
theorem dL_acts_61 : decode cL_acts 61 = .ok (.iconst 3, 1) := by decide +kernel
theorem dL_acts_62 : decode cL_acts 62 = .ok (.invokevirtual 66, 3) := by decide +kernel
theorem dL_acts_65 : decode cL_acts 65 = .ok (.iconst 3, 1) := by decide +kernel
theorem dL_acts_66 : decode cL_acts 66 = .ok (.if_icmp .ge 16, 3) := by decide +kernel
theorem dL_acts_69 : decode cL_acts 69 = .ok (.aload_n 0, 1) := by decide +kernel
theorem dL_acts_70 : decode cL_acts 70 = .ok (.invokevirtual 75, 3) := by decide +kernel
theorem dL_acts_73 : decode cL_acts 73 = .ok (.ifCond .lt 7, 3) := by decide +kernel
theorem dL_acts_76 : decode cL_acts 76 = .ok (.iconst 1, 1) := by decide +kernel
theorem dL_acts_77 : decode cL_acts 77 = .ok (.goto 4, 3) := by decide +kernel
theorem dL_acts_80 : decode cL_acts 80 = .ok (.iconst 0, 1) := by decide +kernel
theorem dL_acts_81 : decode cL_acts 81 = .ok (.ireturn, 1) := by decide +kernel
theorem dL_acts_82 : decode cL_acts 82 = .ok (.aload_n 0, 1) := by decide +kernel
theorem dL_acts_83 : decode cL_acts 83 = .ok (.invokevirtual 78, 3) := by decide +kernel
theorem dL_acts_86 : decode cL_acts 86 = .ok (.ifCond .le 7, 3) := by decide +kernel
theorem dL_acts_89 : decode cL_acts 89 = .ok (.iconst 1, 1) := by decide +kernel
theorem dL_acts_90 : decode cL_acts 90 = .ok (.goto 4, 3) := by decide +kernel
theorem dL_acts_93 : decode cL_acts 93 = .ok (.iconst 0, 1) := by decide +kernel
theorem dL_acts_94 : decode cL_acts 94 = .ok (.ireturn, 1) := by decide +kernel
theorem dL_law_0 : decode cL_law 0 = .ok (.new 58, 3) := by decide +kernel
theorem dL_law_3 : decode cL_law 3 = .ok (.dup, 1) := by decide +kernel
theorem dL_law_4 : decode cL_law 4 = .ok (.invokespecial 81, 3) := by decide +kernel
theorem dL_law_7 : decode cL_law 7 = .ok (.astore_n 1, 1) := by decide +kernel
theorem dL_law_8 : decode cL_law 8 = .ok (.aload_n 1, 1) := by decide +kernel
theorem dL_law_9 : decode cL_law 9 = .ok (.iconst 0, 1) := by decide +kernel
theorem dL_law_10 : decode cL_law 10 = .ok (.invokevirtual 66, 3) := by decide +kernel
theorem dL_law_13 : decode cL_law 13 = .ok (.ifCond .ne 37, 3) := by decide +kernel
theorem dL_law_16 : decode cL_law 16 = .ok (.aload_n 1, 1) := by decide +kernel
theorem dL_law_17 : decode cL_law 17 = .ok (.iconst 5, 1) := by decide +kernel
theorem dL_law_18 : decode cL_law 18 = .ok (.invokevirtual 66, 3) := by decide +kernel
theorem dL_law_21 : decode cL_law 21 = .ok (.iconst 1, 1) := by decide +kernel
theorem dL_law_22 : decode cL_law 22 = .ok (.if_icmp .ne 28, 3) := by decide +kernel
theorem dL_law_25 : decode cL_law 25 = .ok (.aload_n 1, 1) := by decide +kernel
theorem dL_law_26 : decode cL_law 26 = .ok (.iconst 0, 1) := by decide +kernel
theorem dL_law_27 : decode cL_law 27 = .ok (.invokevirtual 82, 3) := by decide +kernel
theorem dL_law_30 : decode cL_law 30 = .ok (.iconst (-1), 1) := by decide +kernel
theorem dL_law_31 : decode cL_law 31 = .ok (.if_icmp .ne 19, 3) := by decide +kernel
theorem dL_law_34 : decode cL_law 34 = .ok (.aload_n 1, 1) := by decide +kernel
theorem dL_law_35 : decode cL_law 35 = .ok (.invokevirtual 85, 3) := by decide +kernel
theorem dL_law_38 : decode cL_law 38 = .ok (.iconst (-1), 1) := by decide +kernel
theorem dL_law_39 : decode cL_law 39 = .ok (.if_icmp .ne 11, 3) := by decide +kernel
theorem dL_law_42 : decode cL_law 42 = .ok (.aload_n 1, 1) := by decide +kernel
theorem dL_law_43 : decode cL_law 43 = .ok (.aload_n 0, 1) := by decide +kernel
theorem dL_law_44 : decode cL_law 44 = .ok (.invokestatic 88, 3) := by decide +kernel
theorem dL_law_47 : decode cL_law 47 = .ok (.ifCond .ne 5, 3) := by decide +kernel
theorem dL_law_50 : decode cL_law 50 = .ok (.iconst 0, 1) := by decide +kernel
theorem dL_law_51 : decode cL_law 51 = .ok (.ireturn, 1) := by decide +kernel
theorem dL_law_52 : decode cL_law 52 = .ok (.iconst 0, 1) := by decide +kernel
theorem dL_law_53 : decode cL_law 53 = .ok (.istore_n 2, 1) := by decide +kernel
theorem dL_law_54 : decode cL_law 54 = .ok (.iload_n 2, 1) := by decide +kernel
theorem dL_law_55 : decode cL_law 55 = .ok (.bipush 14, 2) := by decide +kernel
theorem dL_law_57 : decode cL_law 57 = .ok (.if_icmp .ge 96, 3) := by decide +kernel
theorem dL_law_60 : decode cL_law 60 = .ok (.aload_n 1, 1) := by decide +kernel
theorem dL_law_61 : decode cL_law 61 = .ok (.iconst 3, 1) := by decide +kernel
theorem dL_law_62 : decode cL_law 62 = .ok (.invokevirtual 66, 3) := by decide +kernel
theorem dL_law_65 : decode cL_law 65 = .ok (.ifCond .ne 20, 3) := by decide +kernel
theorem dL_law_68 : decode cL_law 68 = .ok (.aload_n 1, 1) := by decide +kernel
theorem dL_law_69 : decode cL_law 69 = .ok (.iconst 1, 1) := by decide +kernel
theorem dL_law_70 : decode cL_law 70 = .ok (.invokevirtual 66, 3) := by decide +kernel
theorem dL_law_73 : decode cL_law 73 = .ok (.ifCond .le 12, 3) := by decide +kernel
theorem dL_law_76 : decode cL_law 76 = .ok (.aload_n 1, 1) := by decide +kernel
theorem dL_law_77 : decode cL_law 77 = .ok (.invokestatic 92, 3) := by decide +kernel
theorem dL_law_80 : decode cL_law 80 = .ok (.ifCond .ne 5, 3) := by decide +kernel
theorem dL_law_83 : decode cL_law 83 = .ok (.iconst 0, 1) := by decide +kernel
theorem dL_law_84 : decode cL_law 84 = .ok (.ireturn, 1) := by decide +kernel
theorem dL_law_85 : decode cL_law 85 = .ok (.aload_n 1, 1) := by decide +kernel
theorem dL_law_86 : decode cL_law 86 = .ok (.aload_n 0, 1) := by decide +kernel
theorem dL_law_87 : decode cL_law 87 = .ok (.bipush 100, 2) := by decide +kernel
theorem dL_law_89 : decode cL_law 89 = .ok (.iconst 2, 1) := by decide +kernel
theorem dL_law_90 : decode cL_law 90 = .ok (.iload_n 2, 1) := by decide +kernel
theorem dL_law_91 : decode cL_law 91 = .ok (.imul, 1) := by decide +kernel
theorem dL_law_92 : decode cL_law 92 = .ok (.iadd, 1) := by decide +kernel
theorem dL_law_93 : decode cL_law 93 = .ok (.invokestatic 96, 3) := by decide +kernel
theorem dL_law_96 : decode cL_law 96 = .ok (.istore_n 3, 1) := by decide +kernel
theorem dL_law_97 : decode cL_law 97 = .ok (.iload_n 3, 1) := by decide +kernel
theorem dL_law_98 : decode cL_law 98 = .ok (.ifCond .eq 10, 3) := by decide +kernel
theorem dL_law_101 : decode cL_law 101 = .ok (.aload_n 1, 1) := by decide +kernel
theorem dL_law_102 : decode cL_law 102 = .ok (.invokestatic 100, 3) := by decide +kernel
theorem dL_law_105 : decode cL_law 105 = .ok (.ifCond .ne 5, 3) := by decide +kernel
theorem dL_law_108 : decode cL_law 108 = .ok (.iconst 0, 1) := by decide +kernel
theorem dL_law_109 : decode cL_law 109 = .ok (.ireturn, 1) := by decide +kernel
theorem dL_law_110 : decode cL_law 110 = .ok (.aload_n 0, 1) := by decide +kernel
theorem dL_law_111 : decode cL_law 111 = .ok (.sipush 130, 3) := by decide +kernel
theorem dL_law_114 : decode cL_law 114 = .ok (.iload_n 2, 1) := by decide +kernel
theorem dL_law_115 : decode cL_law 115 = .ok (.iadd, 1) := by decide +kernel
theorem dL_law_116 : decode cL_law 116 = .ok (.bipush 9, 2) := by decide +kernel
theorem dL_law_118 : decode cL_law 118 = .ok (.invokestatic 15, 3) := by decide +kernel
theorem dL_law_121 : decode cL_law 121 = .ok (.ifCond .ne 26, 3) := by decide +kernel
theorem dL_law_124 : decode cL_law 124 = .ok (.aload_n 1, 1) := by decide +kernel
theorem dL_law_125 : decode cL_law 125 = .ok (.aload_n 0, 1) := by decide +kernel
theorem dL_law_126 : decode cL_law 126 = .ok (.sipush 140, 3) := by decide +kernel
theorem dL_law_129 : decode cL_law 129 = .ok (.iload_n 2, 1) := by decide +kernel
theorem dL_law_130 : decode cL_law 130 = .ok (.iadd, 1) := by decide +kernel
theorem dL_law_131 : decode cL_law 131 = .ok (.iconst 2, 1) := by decide +kernel
theorem dL_law_132 : decode cL_law 132 = .ok (.invokestatic 15, 3) := by decide +kernel
theorem dL_law_135 : decode cL_law 135 = .ok (.ifCond .ne 7, 3) := by decide +kernel
theorem dL_law_138 : decode cL_law 138 = .ok (.iconst 1, 1) := by decide +kernel
theorem dL_law_139 : decode cL_law 139 = .ok (.goto 4, 3) := by decide +kernel
theorem dL_law_142 : decode cL_law 142 = .ok (.iconst 0, 1) := by decide +kernel
theorem dL_law_143 : decode cL_law 143 = .ok (.invokevirtual 103, 3) := by decide +kernel
theorem dL_law_146 : decode cL_law 146 = .ok (.pop, 1) := by decide +kernel
theorem dL_law_147 : decode cL_law 147 = .ok (.iinc 2 1, 3) := by decide +kernel
theorem dL_law_150 : decode cL_law 150 = .ok (.goto (-96), 3) := by decide +kernel
theorem dL_law_153 : decode cL_law 153 = .ok (.aload_n 1, 1) := by decide +kernel
theorem dL_law_154 : decode cL_law 154 = .ok (.invokestatic 107, 3) := by decide +kernel
theorem dL_law_157 : decode cL_law 157 = .ok (.ireturn, 1) := by decide +kernel
theorem dL_isWhole_0 : decode cL_isWhole 0 = .ok (.iconst 0, 1) := by decide +kernel
theorem dL_isWhole_1 : decode cL_isWhole 1 = .ok (.istore_n 1, 1) := by decide +kernel
theorem dL_isWhole_2 : decode cL_isWhole 2 = .ok (.iconst 0, 1) := by decide +kernel
theorem dL_isWhole_3 : decode cL_isWhole 3 = .ok (.istore_n 2, 1) := by decide +kernel
theorem dL_isWhole_4 : decode cL_isWhole 4 = .ok (.iload_n 2, 1) := by decide +kernel
theorem dL_isWhole_5 : decode cL_isWhole 5 = .ok (.bipush 7, 2) := by decide +kernel
theorem dL_isWhole_7 : decode cL_isWhole 7 = .ok (.if_icmp .ge 17, 3) := by decide +kernel
theorem dL_isWhole_10 : decode cL_isWhole 10 = .ok (.iload_n 1, 1) := by decide +kernel
theorem dL_isWhole_11 : decode cL_isWhole 11 = .ok (.aload_n 0, 1) := by decide +kernel
theorem dL_isWhole_12 : decode cL_isWhole 12 = .ok (.iload_n 2, 1) := by decide +kernel
theorem dL_isWhole_13 : decode cL_isWhole 13 = .ok (.invokevirtual 110, 3) := by decide +kernel
theorem dL_isWhole_16 : decode cL_isWhole 16 = .ok (.iadd, 1) := by decide +kernel
theorem dL_isWhole_17 : decode cL_isWhole 17 = .ok (.istore_n 1, 1) := by decide +kernel
theorem dL_isWhole_18 : decode cL_isWhole 18 = .ok (.iinc 2 1, 3) := by decide +kernel
theorem dL_isWhole_21 : decode cL_isWhole 21 = .ok (.goto (-17), 3) := by decide +kernel
theorem dL_isWhole_24 : decode cL_isWhole 24 = .ok (.iload_n 1, 1) := by decide +kernel
theorem dL_isWhole_25 : decode cL_isWhole 25 = .ok (.aload_n 0, 1) := by decide +kernel
theorem dL_isWhole_26 : decode cL_isWhole 26 = .ok (.iconst 0, 1) := by decide +kernel
theorem dL_isWhole_27 : decode cL_isWhole 27 = .ok (.invokevirtual 66, 3) := by decide +kernel
theorem dL_isWhole_30 : decode cL_isWhole 30 = .ok (.if_icmp .ne 58, 3) := by decide +kernel
theorem dL_isWhole_33 : decode cL_isWhole 33 = .ok (.aload_n 0, 1) := by decide +kernel
theorem dL_isWhole_34 : decode cL_isWhole 34 = .ok (.iconst 0, 1) := by decide +kernel
theorem dL_isWhole_35 : decode cL_isWhole 35 = .ok (.invokevirtual 110, 3) := by decide +kernel
theorem dL_isWhole_38 : decode cL_isWhole 38 = .ok (.aload_n 0, 1) := by decide +kernel
theorem dL_isWhole_39 : decode cL_isWhole 39 = .ok (.iconst 1, 1) := by decide +kernel
theorem dL_isWhole_40 : decode cL_isWhole 40 = .ok (.invokevirtual 66, 3) := by decide +kernel
theorem dL_isWhole_43 : decode cL_isWhole 43 = .ok (.if_icmp .ne 45, 3) := by decide +kernel
theorem dL_isWhole_46 : decode cL_isWhole 46 = .ok (.aload_n 0, 1) := by decide +kernel
theorem dL_isWhole_47 : decode cL_isWhole 47 = .ok (.iconst 1, 1) := by decide +kernel
theorem dL_isWhole_48 : decode cL_isWhole 48 = .ok (.invokevirtual 110, 3) := by decide +kernel
theorem dL_isWhole_51 : decode cL_isWhole 51 = .ok (.aload_n 0, 1) := by decide +kernel
theorem dL_isWhole_52 : decode cL_isWhole 52 = .ok (.iconst 2, 1) := by decide +kernel
theorem dL_isWhole_53 : decode cL_isWhole 53 = .ok (.invokevirtual 66, 3) := by decide +kernel
theorem dL_isWhole_56 : decode cL_isWhole 56 = .ok (.if_icmp .ne 32, 3) := by decide +kernel
theorem dL_isWhole_59 : decode cL_isWhole 59 = .ok (.aload_n 0, 1) := by decide +kernel
theorem dL_isWhole_60 : decode cL_isWhole 60 = .ok (.iconst 2, 1) := by decide +kernel
theorem dL_isWhole_61 : decode cL_isWhole 61 = .ok (.invokevirtual 66, 3) := by decide +kernel
theorem dL_isWhole_64 : decode cL_isWhole 64 = .ok (.ifCond .le 7, 3) := by decide +kernel
theorem dL_isWhole_67 : decode cL_isWhole 67 = .ok (.iconst 1, 1) := by decide +kernel
theorem dL_isWhole_68 : decode cL_isWhole 68 = .ok (.goto 4, 3) := by decide +kernel
theorem dL_isWhole_71 : decode cL_isWhole 71 = .ok (.iconst 0, 1) := by decide +kernel
theorem dL_isWhole_72 : decode cL_isWhole 72 = .ok (.aload_n 0, 1) := by decide +kernel
theorem dL_isWhole_73 : decode cL_isWhole 73 = .ok (.iconst 3, 1) := by decide +kernel
theorem dL_isWhole_74 : decode cL_isWhole 74 = .ok (.invokevirtual 66, 3) := by decide +kernel
theorem dL_isWhole_77 : decode cL_isWhole 77 = .ok (.ifCond .le 7, 3) := by decide +kernel
theorem dL_isWhole_80 : decode cL_isWhole 80 = .ok (.iconst 1, 1) := by decide +kernel
theorem dL_isWhole_81 : decode cL_isWhole 81 = .ok (.goto 4, 3) := by decide +kernel
theorem dL_isWhole_84 : decode cL_isWhole 84 = .ok (.iconst 0, 1) := by decide +kernel
theorem dL_isWhole_85 : decode cL_isWhole 85 = .ok (.if_icmp .eq 5, 3) := by decide +kernel
theorem dL_isWhole_88 : decode cL_isWhole 88 = .ok (.iconst 0, 1) := by decide +kernel
theorem dL_isWhole_89 : decode cL_isWhole 89 = .ok (.ireturn, 1) := by decide +kernel
theorem dL_isWhole_90 : decode cL_isWhole 90 = .ok (.iconst 0, 1) := by decide +kernel
theorem dL_isWhole_91 : decode cL_isWhole 91 = .ok (.istore_n 2, 1) := by decide +kernel
theorem dL_isWhole_92 : decode cL_isWhole 92 = .ok (.iconst 0, 1) := by decide +kernel
theorem dL_isWhole_93 : decode cL_isWhole 93 = .ok (.istore_n 3, 1) := by decide +kernel
theorem dL_isWhole_94 : decode cL_isWhole 94 = .ok (.iconst 0, 1) := by decide +kernel
theorem dL_isWhole_95 : decode cL_isWhole 95 = .ok (.istore 4, 2) := by decide +kernel
theorem dL_isWhole_97 : decode cL_isWhole 97 = .ok (.iload 4, 2) := by decide +kernel
theorem dL_isWhole_99 : decode cL_isWhole 99 = .ok (.aload_n 0, 1) := by decide +kernel
theorem dL_isWhole_100 : decode cL_isWhole 100 = .ok (.iconst 5, 1) := by decide +kernel
theorem dL_isWhole_101 : decode cL_isWhole 101 = .ok (.invokevirtual 66, 3) := by decide +kernel
theorem dL_isWhole_104 : decode cL_isWhole 104 = .ok (.if_icmp .ge 29, 3) := by decide +kernel
theorem dL_isWhole_107 : decode cL_isWhole 107 = .ok (.iload_n 2, 1) := by decide +kernel
theorem dL_isWhole_108 : decode cL_isWhole 108 = .ok (.aload_n 0, 1) := by decide +kernel
theorem dL_isWhole_109 : decode cL_isWhole 109 = .ok (.iload 4, 2) := by decide +kernel
theorem dL_isWhole_111 : decode cL_isWhole 111 = .ok (.iconst 1, 1) := by decide +kernel
theorem dL_isWhole_112 : decode cL_isWhole 112 = .ok (.invokevirtual 113, 3) := by decide +kernel
theorem dL_isWhole_115 : decode cL_isWhole 115 = .ok (.iadd, 1) := by decide +kernel
theorem dL_isWhole_116 : decode cL_isWhole 116 = .ok (.istore_n 2, 1) := by decide +kernel
theorem dL_isWhole_117 : decode cL_isWhole 117 = .ok (.iload_n 3, 1) := by decide +kernel
theorem dL_isWhole_118 : decode cL_isWhole 118 = .ok (.aload_n 0, 1) := by decide +kernel
theorem dL_isWhole_119 : decode cL_isWhole 119 = .ok (.iload 4, 2) := by decide +kernel
theorem dL_isWhole_121 : decode cL_isWhole 121 = .ok (.iconst 3, 1) := by decide +kernel
theorem dL_isWhole_122 : decode cL_isWhole 122 = .ok (.invokevirtual 113, 3) := by decide +kernel
theorem dL_isWhole_125 : decode cL_isWhole 125 = .ok (.iadd, 1) := by decide +kernel
theorem dL_isWhole_126 : decode cL_isWhole 126 = .ok (.istore_n 3, 1) := by decide +kernel
theorem dL_isWhole_127 : decode cL_isWhole 127 = .ok (.iinc 4 1, 3) := by decide +kernel
theorem dL_isWhole_130 : decode cL_isWhole 130 = .ok (.goto (-33), 3) := by decide +kernel
theorem dL_isWhole_133 : decode cL_isWhole 133 = .ok (.iload_n 2, 1) := by decide +kernel
theorem dL_isWhole_134 : decode cL_isWhole 134 = .ok (.aload_n 0, 1) := by decide +kernel
theorem dL_isWhole_135 : decode cL_isWhole 135 = .ok (.iconst 4, 1) := by decide +kernel
theorem dL_isWhole_136 : decode cL_isWhole 136 = .ok (.invokevirtual 66, 3) := by decide +kernel
theorem dL_isWhole_139 : decode cL_isWhole 139 = .ok (.if_icmp .ne 12, 3) := by decide +kernel
theorem dL_isWhole_142 : decode cL_isWhole 142 = .ok (.iload_n 3, 1) := by decide +kernel
theorem dL_isWhole_143 : decode cL_isWhole 143 = .ok (.aload_n 0, 1) := by decide +kernel
theorem dL_isWhole_144 : decode cL_isWhole 144 = .ok (.iconst 2, 1) := by decide +kernel
theorem dL_isWhole_145 : decode cL_isWhole 145 = .ok (.invokevirtual 110, 3) := by decide +kernel
theorem dL_isWhole_148 : decode cL_isWhole 148 = .ok (.if_icmp .eq 5, 3) := by decide +kernel
theorem dL_isWhole_151 : decode cL_isWhole 151 = .ok (.iconst 0, 1) := by decide +kernel
theorem dL_isWhole_152 : decode cL_isWhole 152 = .ok (.ireturn, 1) := by decide +kernel
theorem dL_isWhole_153 : decode cL_isWhole 153 = .ok (.iconst 0, 1) := by decide +kernel
theorem dL_isWhole_154 : decode cL_isWhole 154 = .ok (.istore 4, 2) := by decide +kernel
theorem dL_isWhole_156 : decode cL_isWhole 156 = .ok (.iload 4, 2) := by decide +kernel
theorem dL_isWhole_158 : decode cL_isWhole 158 = .ok (.iload_n 2, 1) := by decide +kernel
theorem dL_isWhole_159 : decode cL_isWhole 159 = .ok (.if_icmp .ge 118, 3) := by decide +kernel
theorem dL_isWhole_162 : decode cL_isWhole 162 = .ok (.aload_n 0, 1) := by decide +kernel
theorem dL_isWhole_163 : decode cL_isWhole 163 = .ok (.iload 4, 2) := by decide +kernel
theorem dL_isWhole_165 : decode cL_isWhole 165 = .ok (.iconst 0, 1) := by decide +kernel
theorem dL_isWhole_166 : decode cL_isWhole 166 = .ok (.invokevirtual 117, 3) := by decide +kernel
theorem dL_isWhole_169 : decode cL_isWhole 169 = .ok (.istore 5, 2) := by decide +kernel
theorem dL_isWhole_171 : decode cL_isWhole 171 = .ok (.aload_n 0, 1) := by decide +kernel
theorem dL_isWhole_172 : decode cL_isWhole 172 = .ok (.iload 5, 2) := by decide +kernel
theorem dL_isWhole_174 : decode cL_isWhole 174 = .ok (.bipush 7, 2) := by decide +kernel
theorem dL_isWhole_176 : decode cL_isWhole 176 = .ok (.invokevirtual 120, 3) := by decide +kernel
theorem dL_isWhole_179 : decode cL_isWhole 179 = .ok (.iconst 2, 1) := by decide +kernel
theorem dL_isWhole_180 : decode cL_isWhole 180 = .ok (.if_icmp .ne 26, 3) := by decide +kernel
theorem dL_isWhole_183 : decode cL_isWhole 183 = .ok (.aload_n 0, 1) := by decide +kernel
theorem dL_isWhole_184 : decode cL_isWhole 184 = .ok (.iload 5, 2) := by decide +kernel
theorem dL_isWhole_186 : decode cL_isWhole 186 = .ok (.iconst 3, 1) := by decide +kernel
theorem dL_isWhole_187 : decode cL_isWhole 187 = .ok (.aload_n 0, 1) := by decide +kernel
theorem dL_isWhole_188 : decode cL_isWhole 188 = .ok (.iload 4, 2) := by decide +kernel
theorem dL_isWhole_190 : decode cL_isWhole 190 = .ok (.iconst 1, 1) := by decide +kernel
theorem dL_isWhole_191 : decode cL_isWhole 191 = .ok (.invokevirtual 117, 3) := by decide +kernel
theorem dL_isWhole_194 : decode cL_isWhole 194 = .ok (.iadd, 1) := by decide +kernel
theorem dL_isWhole_195 : decode cL_isWhole 195 = .ok (.invokevirtual 120, 3) := by decide +kernel
theorem dL_isWhole_198 : decode cL_isWhole 198 = .ok (.aload_n 0, 1) := by decide +kernel
theorem dL_isWhole_199 : decode cL_isWhole 199 = .ok (.iconst 3, 1) := by decide +kernel
theorem dL_isWhole_200 : decode cL_isWhole 200 = .ok (.invokevirtual 123, 3) := by decide +kernel
theorem dL_isWhole_203 : decode cL_isWhole 203 = .ok (.if_icmp .ge 5, 3) := by decide +kernel
theorem dL_isWhole_206 : decode cL_isWhole 206 = .ok (.iconst 0, 1) := by decide +kernel
theorem dL_isWhole_207 : decode cL_isWhole 207 = .ok (.ireturn, 1) := by decide +kernel
theorem dL_isWhole_208 : decode cL_isWhole 208 = .ok (.iload 4, 2) := by decide +kernel
theorem dL_isWhole_210 : decode cL_isWhole 210 = .ok (.ifCond .le 61, 3) := by decide +kernel
theorem dL_isWhole_213 : decode cL_isWhole 213 = .ok (.aload_n 0, 1) := by decide +kernel
theorem dL_isWhole_214 : decode cL_isWhole 214 = .ok (.iload 4, 2) := by decide +kernel
theorem dL_isWhole_216 : decode cL_isWhole 216 = .ok (.iconst 1, 1) := by decide +kernel
theorem dL_isWhole_217 : decode cL_isWhole 217 = .ok (.isub, 1) := by decide +kernel
theorem dL_isWhole_218 : decode cL_isWhole 218 = .ok (.iconst 0, 1) := by decide +kernel
theorem dL_isWhole_219 : decode cL_isWhole 219 = .ok (.invokevirtual 117, 3) := by decide +kernel
theorem dL_isWhole_222 : decode cL_isWhole 222 = .ok (.iload 5, 2) := by decide +kernel
theorem dL_isWhole_224 : decode cL_isWhole 224 = .ok (.if_icmp .ne 47, 3) := by decide +kernel
theorem dL_isWhole_227 : decode cL_isWhole 227 = .ok (.aload_n 0, 1) := by decide +kernel
theorem dL_isWhole_228 : decode cL_isWhole 228 = .ok (.iload 4, 2) := by decide +kernel
theorem dL_isWhole_230 : decode cL_isWhole 230 = .ok (.iconst 1, 1) := by decide +kernel
theorem dL_isWhole_231 : decode cL_isWhole 231 = .ok (.isub, 1) := by decide +kernel
theorem dL_isWhole_232 : decode cL_isWhole 232 = .ok (.iconst 1, 1) := by decide +kernel
theorem dL_isWhole_233 : decode cL_isWhole 233 = .ok (.invokevirtual 117, 3) := by decide +kernel
theorem dL_isWhole_236 : decode cL_isWhole 236 = .ok (.ifCond .ne 33, 3) := by decide +kernel
theorem dL_isWhole_239 : decode cL_isWhole 239 = .ok (.aload_n 0, 1) := by decide +kernel
theorem dL_isWhole_240 : decode cL_isWhole 240 = .ok (.iload 4, 2) := by decide +kernel
theorem dL_isWhole_242 : decode cL_isWhole 242 = .ok (.iconst 1, 1) := by decide +kernel
theorem dL_isWhole_243 : decode cL_isWhole 243 = .ok (.invokevirtual 117, 3) := by decide +kernel
theorem dL_isWhole_246 : decode cL_isWhole 246 = .ok (.iconst 1, 1) := by decide +kernel
theorem dL_isWhole_247 : decode cL_isWhole 247 = .ok (.if_icmp .ne 22, 3) := by decide +kernel
theorem dL_isWhole_250 : decode cL_isWhole 250 = .ok (.aload_n 0, 1) := by decide +kernel
theorem dL_isWhole_251 : decode cL_isWhole 251 = .ok (.iload 4, 2) := by decide +kernel
theorem dL_isWhole_253 : decode cL_isWhole 253 = .ok (.iconst 2, 1) := by decide +kernel
theorem dL_isWhole_254 : decode cL_isWhole 254 = .ok (.invokevirtual 117, 3) := by decide +kernel
theorem dL_isWhole_257 : decode cL_isWhole 257 = .ok (.aload_n 0, 1) := by decide +kernel
theorem dL_isWhole_258 : decode cL_isWhole 258 = .ok (.iload 4, 2) := by decide +kernel
theorem dL_isWhole_260 : decode cL_isWhole 260 = .ok (.iconst 1, 1) := by decide +kernel
theorem dL_isWhole_261 : decode cL_isWhole 261 = .ok (.isub, 1) := by decide +kernel
theorem dL_isWhole_262 : decode cL_isWhole 262 = .ok (.iconst 2, 1) := by decide +kernel
theorem dL_isWhole_263 : decode cL_isWhole 263 = .ok (.invokevirtual 117, 3) := by decide +kernel
theorem dL_isWhole_266 : decode cL_isWhole 266 = .ok (.if_icmp .eq 5, 3) := by decide +kernel
theorem dL_isWhole_269 : decode cL_isWhole 269 = .ok (.iconst 0, 1) := by decide +kernel
theorem dL_isWhole_270 : decode cL_isWhole 270 = .ok (.ireturn, 1) := by decide +kernel
theorem dL_isWhole_271 : decode cL_isWhole 271 = .ok (.iinc 4 1, 3) := by decide +kernel
theorem dL_isWhole_274 : decode cL_isWhole 274 = .ok (.goto (-118), 3) := by decide +kernel
theorem dL_isWhole_277 : decode cL_isWhole 277 = .ok (.iconst 1, 1) := by decide +kernel
theorem dL_isWhole_278 : decode cL_isWhole 278 = .ok (.ireturn, 1) := by decide +kernel
theorem dL_isTold_0 : decode cL_isTold 0 = .ok (.aload_n 0, 1) := by decide +kernel
theorem dL_isTold_1 : decode cL_isTold 1 = .ok (.iconst 0, 1) := by decide +kernel
theorem dL_isTold_2 : decode cL_isTold 2 = .ok (.invokevirtual 82, 3) := by decide +kernel
theorem dL_isTold_5 : decode cL_isTold 5 = .ok (.istore_n 1, 1) := by decide +kernel
theorem dL_isTold_6 : decode cL_isTold 6 = .ok (.aload_n 0, 1) := by decide +kernel
theorem dL_isTold_7 : decode cL_isTold 7 = .ok (.iconst 3, 1) := by decide +kernel
theorem dL_isTold_8 : decode cL_isTold 8 = .ok (.invokevirtual 82, 3) := by decide +kernel
theorem dL_isTold_11 : decode cL_isTold 11 = .ok (.istore_n 2, 1) := by decide +kernel
theorem dL_isTold_12 : decode cL_isTold 12 = .ok (.aload_n 0, 1) := by decide +kernel
theorem dL_isTold_13 : decode cL_isTold 13 = .ok (.iconst 4, 1) := by decide +kernel
theorem dL_isTold_14 : decode cL_isTold 14 = .ok (.invokevirtual 82, 3) := by decide +kernel
theorem dL_isTold_17 : decode cL_isTold 17 = .ok (.istore_n 3, 1) := by decide +kernel
theorem dL_isTold_18 : decode cL_isTold 18 = .ok (.aload_n 0, 1) := by decide +kernel
theorem dL_isTold_19 : decode cL_isTold 19 = .ok (.iconst 0, 1) := by decide +kernel
theorem dL_isTold_20 : decode cL_isTold 20 = .ok (.invokevirtual 126, 3) := by decide +kernel
theorem dL_isTold_23 : decode cL_isTold 23 = .ok (.istore 4, 2) := by decide +kernel
theorem dL_isTold_25 : decode cL_isTold 25 = .ok (.aload_n 0, 1) := by decide +kernel
theorem dL_isTold_26 : decode cL_isTold 26 = .ok (.iconst 4, 1) := by decide +kernel
theorem dL_isTold_27 : decode cL_isTold 27 = .ok (.invokevirtual 66, 3) := by decide +kernel
theorem dL_isTold_30 : decode cL_isTold 30 = .ok (.istore 5, 2) := by decide +kernel
theorem dL_isTold_32 : decode cL_isTold 32 = .ok (.aload_n 0, 1) := by decide +kernel
theorem dL_isTold_33 : decode cL_isTold 33 = .ok (.iconst 1, 1) := by decide +kernel
theorem dL_isTold_34 : decode cL_isTold 34 = .ok (.invokevirtual 66, 3) := by decide +kernel
theorem dL_isTold_37 : decode cL_isTold 37 = .ok (.istore 6, 2) := by decide +kernel
theorem dL_isTold_39 : decode cL_isTold 39 = .ok (.aload_n 0, 1) := by decide +kernel
theorem dL_isTold_40 : decode cL_isTold 40 = .ok (.iconst 0, 1) := by decide +kernel
theorem dL_isTold_41 : decode cL_isTold 41 = .ok (.invokevirtual 129, 3) := by decide +kernel
theorem dL_isTold_44 : decode cL_isTold 44 = .ok (.pop, 1) := by decide +kernel
theorem dL_isTold_45 : decode cL_isTold 45 = .ok (.aload_n 0, 1) := by decide +kernel
theorem dL_isTold_46 : decode cL_isTold 46 = .ok (.iconst 1, 1) := by decide +kernel
theorem dL_isTold_47 : decode cL_isTold 47 = .ok (.invokevirtual 69, 3) := by decide +kernel
theorem dL_isTold_50 : decode cL_isTold 50 = .ok (.istore 7, 2) := by decide +kernel
theorem dL_isTold_52 : decode cL_isTold 52 = .ok (.iload 7, 2) := by decide +kernel
theorem dL_isTold_54 : decode cL_isTold 54 = .ok (.iload_n 2, 1) := by decide +kernel
theorem dL_isTold_55 : decode cL_isTold 55 = .ok (.ifCond .ne 7, 3) := by decide +kernel
theorem dL_isTold_58 : decode cL_isTold 58 = .ok (.iconst 1, 1) := by decide +kernel
theorem dL_isTold_59 : decode cL_isTold 59 = .ok (.goto 4, 3) := by decide +kernel
theorem dL_isTold_62 : decode cL_isTold 62 = .ok (.iconst 0, 1) := by decide +kernel
theorem dL_isTold_63 : decode cL_isTold 63 = .ok (.if_icmp .ne 45, 3) := by decide +kernel
theorem dL_isTold_66 : decode cL_isTold 66 = .ok (.aload_n 0, 1) := by decide +kernel
theorem dL_isTold_67 : decode cL_isTold 67 = .ok (.iconst 3, 1) := by decide +kernel
theorem dL_isTold_68 : decode cL_isTold 68 = .ok (.invokevirtual 66, 3) := by decide +kernel
theorem dL_isTold_71 : decode cL_isTold 71 = .ok (.iload_n 2, 1) := by decide +kernel
theorem dL_isTold_72 : decode cL_isTold 72 = .ok (.if_icmp .ne 36, 3) := by decide +kernel
theorem dL_isTold_75 : decode cL_isTold 75 = .ok (.aload_n 0, 1) := by decide +kernel
theorem dL_isTold_76 : decode cL_isTold 76 = .ok (.iconst 1, 1) := by decide +kernel
theorem dL_isTold_77 : decode cL_isTold 77 = .ok (.invokevirtual 66, 3) := by decide +kernel
theorem dL_isTold_80 : decode cL_isTold 80 = .ok (.iload 6, 2) := by decide +kernel
theorem dL_isTold_82 : decode cL_isTold 82 = .ok (.iload_n 1, 1) := by decide +kernel
theorem dL_isTold_83 : decode cL_isTold 83 = .ok (.isub, 1) := by decide +kernel
theorem dL_isTold_84 : decode cL_isTold 84 = .ok (.if_icmp .ne 24, 3) := by decide +kernel
theorem dL_isTold_87 : decode cL_isTold 87 = .ok (.aload_n 0, 1) := by decide +kernel
theorem dL_isTold_88 : decode cL_isTold 88 = .ok (.iconst 2, 1) := by decide +kernel
theorem dL_isTold_89 : decode cL_isTold 89 = .ok (.invokevirtual 66, 3) := by decide +kernel
theorem dL_isTold_92 : decode cL_isTold 92 = .ok (.iload_n 2, 1) := by decide +kernel
theorem dL_isTold_93 : decode cL_isTold 93 = .ok (.ifCond .ne 7, 3) := by decide +kernel
theorem dL_isTold_96 : decode cL_isTold 96 = .ok (.iconst 0, 1) := by decide +kernel
theorem dL_isTold_97 : decode cL_isTold 97 = .ok (.goto 4, 3) := by decide +kernel
theorem dL_isTold_100 : decode cL_isTold 100 = .ok (.iload_n 1, 1) := by decide +kernel
theorem dL_isTold_101 : decode cL_isTold 101 = .ok (.if_icmp .ne 7, 3) := by decide +kernel
theorem dL_isTold_104 : decode cL_isTold 104 = .ok (.iconst 1, 1) := by decide +kernel
theorem dL_isTold_105 : decode cL_isTold 105 = .ok (.goto 4, 3) := by decide +kernel
theorem dL_isTold_108 : decode cL_isTold 108 = .ok (.iconst 0, 1) := by decide +kernel
theorem dL_isTold_109 : decode cL_isTold 109 = .ok (.istore 8, 2) := by decide +kernel
theorem dL_isTold_111 : decode cL_isTold 111 = .ok (.iload 8, 2) := by decide +kernel
theorem dL_isTold_113 : decode cL_isTold 113 = .ok (.aload_n 0, 1) := by decide +kernel
theorem dL_isTold_114 : decode cL_isTold 114 = .ok (.iconst 4, 1) := by decide +kernel
theorem dL_isTold_115 : decode cL_isTold 115 = .ok (.invokevirtual 66, 3) := by decide +kernel
theorem dL_isTold_118 : decode cL_isTold 118 = .ok (.iload 5, 2) := by decide +kernel
theorem dL_isTold_120 : decode cL_isTold 120 = .ok (.iload_n 2, 1) := by decide +kernel
theorem dL_isTold_121 : decode cL_isTold 121 = .ok (.ifCond .ne 7, 3) := by decide +kernel
theorem dL_isTold_124 : decode cL_isTold 124 = .ok (.iload_n 3, 1) := by decide +kernel
theorem dL_isTold_125 : decode cL_isTold 125 = .ok (.goto 4, 3) := by decide +kernel
theorem dL_isTold_128 : decode cL_isTold 128 = .ok (.iconst 0, 1) := by decide +kernel
theorem dL_isTold_129 : decode cL_isTold 129 = .ok (.iadd, 1) := by decide +kernel
theorem dL_isTold_130 : decode cL_isTold 130 = .ok (.if_icmp .ne 36, 3) := by decide +kernel
theorem dL_isTold_133 : decode cL_isTold 133 = .ok (.iload_n 2, 1) := by decide +kernel
theorem dL_isTold_134 : decode cL_isTold 134 = .ok (.ifCond .ne 18, 3) := by decide +kernel
theorem dL_isTold_137 : decode cL_isTold 137 = .ok (.aload_n 0, 1) := by decide +kernel
theorem dL_isTold_138 : decode cL_isTold 138 = .ok (.iload 4, 2) := by decide +kernel
theorem dL_isTold_140 : decode cL_isTold 140 = .ok (.bipush 7, 2) := by decide +kernel
theorem dL_isTold_142 : decode cL_isTold 142 = .ok (.invokevirtual 120, 3) := by decide +kernel
theorem dL_isTold_145 : decode cL_isTold 145 = .ok (.iconst 1, 1) := by decide +kernel
theorem dL_isTold_146 : decode cL_isTold 146 = .ok (.if_icmp .le 20, 3) := by decide +kernel
theorem dL_isTold_149 : decode cL_isTold 149 = .ok (.goto 13, 3) := by decide +kernel
theorem dL_isTold_152 : decode cL_isTold 152 = .ok (.aload_n 0, 1) := by decide +kernel
theorem dL_isTold_153 : decode cL_isTold 153 = .ok (.iconst 0, 1) := by decide +kernel
theorem dL_isTold_154 : decode cL_isTold 154 = .ok (.invokevirtual 133, 3) := by decide +kernel
theorem dL_isTold_157 : decode cL_isTold 157 = .ok (.iload 4, 2) := by decide +kernel
theorem dL_isTold_159 : decode cL_isTold 159 = .ok (.if_icmp .ne 7, 3) := by decide +kernel
theorem dL_isTold_162 : decode cL_isTold 162 = .ok (.iconst 1, 1) := by decide +kernel
theorem dL_isTold_163 : decode cL_isTold 163 = .ok (.goto 4, 3) := by decide +kernel
theorem dL_isTold_166 : decode cL_isTold 166 = .ok (.iconst 0, 1) := by decide +kernel
theorem dL_isTold_167 : decode cL_isTold 167 = .ok (.iand, 1) := by decide +kernel
theorem dL_isTold_168 : decode cL_isTold 168 = .ok (.istore 8, 2) := by decide +kernel
theorem dL_isTold_170 : decode cL_isTold 170 = .ok (.iload 8, 2) := by decide +kernel
theorem dL_isTold_172 : decode cL_isTold 172 = .ok (.ifCond .eq 25, 3) := by decide +kernel
theorem dL_isTold_175 : decode cL_isTold 175 = .ok (.aload_n 0, 1) := by decide +kernel
theorem dL_isTold_176 : decode cL_isTold 176 = .ok (.iconst 0, 1) := by decide +kernel
theorem dL_isTold_177 : decode cL_isTold 177 = .ok (.invokevirtual 136, 3) := by decide +kernel
theorem dL_isTold_180 : decode cL_isTold 180 = .ok (.ifCond .eq 17, 3) := by decide +kernel
theorem dL_isTold_183 : decode cL_isTold 183 = .ok (.aload_n 0, 1) := by decide +kernel
theorem dL_isTold_184 : decode cL_isTold 184 = .ok (.iconst 1, 1) := by decide +kernel
theorem dL_isTold_185 : decode cL_isTold 185 = .ok (.invokevirtual 66, 3) := by decide +kernel
theorem dL_isTold_188 : decode cL_isTold 188 = .ok (.iload 6, 2) := by decide +kernel
theorem dL_isTold_190 : decode cL_isTold 190 = .ok (.if_icmp .ne 7, 3) := by decide +kernel
theorem dL_isTold_193 : decode cL_isTold 193 = .ok (.iconst 1, 1) := by decide +kernel
theorem dL_isTold_194 : decode cL_isTold 194 = .ok (.goto 4, 3) := by decide +kernel
theorem dL_isTold_197 : decode cL_isTold 197 = .ok (.iconst 0, 1) := by decide +kernel
theorem dL_isTold_198 : decode cL_isTold 198 = .ok (.ireturn, 1) := by decide +kernel
theorem dL_refuses_0 : decode cL_refuses 0 = .ok (.aload_n 0, 1) := by decide +kernel
theorem dL_refuses_1 : decode cL_refuses 1 = .ok (.iconst 0, 1) := by decide +kernel
theorem dL_refuses_2 : decode cL_refuses 2 = .ok (.invokevirtual 69, 3) := by decide +kernel
theorem dL_refuses_5 : decode cL_refuses 5 = .ok (.pop, 1) := by decide +kernel
theorem dL_refuses_6 : decode cL_refuses 6 = .ok (.iconst 0, 1) := by decide +kernel
theorem dL_refuses_7 : decode cL_refuses 7 = .ok (.ireturn, 1) := by decide +kernel
theorem dL_refuses_8 : decode cL_refuses 8 = .ok (.astore_n 1, 1) := by decide +kernel
theorem dL_refuses_9 : decode cL_refuses 9 = .ok (.iconst 1, 1) := by decide +kernel
theorem dL_refuses_10 : decode cL_refuses 10 = .ok (.ireturn, 1) := by decide +kernel
