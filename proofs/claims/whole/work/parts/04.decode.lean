theorem dX0_init_0 : decode cX0_init 0 = .ok (.aload_n 0, 1) := by decide +kernel
theorem dX0_init_1 : decode cX0_init 1 = .ok (.invokespecial 3, 3) := by decide +kernel
theorem dX0_init_4 : decode cX0_init 4 = .ok (.aload_n 0, 1) := by decide +kernel
theorem dX0_init_5 : decode cX0_init 5 = .ok (.new 9, 3) := by decide +kernel
theorem dX0_init_8 : decode cX0_init 8 = .ok (.dup, 1) := by decide +kernel
theorem dX0_init_9 : decode cX0_init 9 = .ok (.invokespecial 11, 3) := by decide +kernel
theorem dX0_init_12 : decode cX0_init 12 = .ok (.putfield 12, 3) := by decide +kernel
theorem dX0_init_15 : decode cX0_init 15 = .ok (.return_, 1) := by decide +kernel
theorem dX0_begin_0 : decode cX0_begin 0 = .ok (.aload_n 0, 1) := by decide +kernel
theorem dX0_begin_1 : decode cX0_begin 1 = .ok (.getfield 12, 3) := by decide +kernel
theorem dX0_begin_4 : decode cX0_begin 4 = .ok (.aload_n 1, 1) := by decide +kernel
theorem dX0_begin_5 : decode cX0_begin 5 = .ok (.invokevirtual 18, 3) := by decide +kernel
theorem dX0_begin_8 : decode cX0_begin 8 = .ok (.aload_n 0, 1) := by decide +kernel
theorem dX0_begin_9 : decode cX0_begin 9 = .ok (.iconst 0, 1) := by decide +kernel
theorem dX0_begin_10 : decode cX0_begin 10 = .ok (.putfield 22, 3) := by decide +kernel
theorem dX0_begin_13 : decode cX0_begin 13 = .ok (.aload_n 0, 1) := by decide +kernel
theorem dX0_begin_14 : decode cX0_begin 14 = .ok (.iconst 0, 1) := by decide +kernel
theorem dX0_begin_15 : decode cX0_begin 15 = .ok (.putfield 26, 3) := by decide +kernel
theorem dX0_begin_18 : decode cX0_begin 18 = .ok (.aload_n 0, 1) := by decide +kernel
theorem dX0_begin_19 : decode cX0_begin 19 = .ok (.iconst 0, 1) := by decide +kernel
theorem dX0_begin_20 : decode cX0_begin 20 = .ok (.putfield 29, 3) := by decide +kernel
theorem dX0_begin_23 : decode cX0_begin 23 = .ok (.aload_n 0, 1) := by decide +kernel
theorem dX0_begin_24 : decode cX0_begin 24 = .ok (.iconst 0, 1) := by decide +kernel
theorem dX0_begin_25 : decode cX0_begin 25 = .ok (.putfield 32, 3) := by decide +kernel
theorem dX0_begin_28 : decode cX0_begin 28 = .ok (.aload_n 0, 1) := by decide +kernel
theorem dX0_begin_29 : decode cX0_begin 29 = .ok (.iconst 0, 1) := by decide +kernel
theorem dX0_begin_30 : decode cX0_begin 30 = .ok (.putfield 35, 3) := by decide +kernel
theorem dX0_begin_33 : decode cX0_begin 33 = .ok (.aload_n 0, 1) := by decide +kernel
theorem dX0_begin_34 : decode cX0_begin 34 = .ok (.ldc 38, 2) := by decide +kernel
theorem dX0_begin_36 : decode cX0_begin 36 = .ok (.putfield 39, 3) := by decide +kernel
theorem dX0_begin_39 : decode cX0_begin 39 = .ok (.return_, 1) := by decide +kernel
theorem dX0_addThrough_0 : decode cX0_addThrough 0 = .ok (.aload_n 0, 1) := by decide +kernel
theorem dX0_addThrough_1 : decode cX0_addThrough 1 = .ok (.dup, 1) := by decide +kernel
theorem dX0_addThrough_2 : decode cX0_addThrough 2 = .ok (.getfield 32, 3) := by decide +kernel
theorem dX0_addThrough_5 : decode cX0_addThrough 5 = .ok (.iload_n 2, 1) := by decide +kernel
theorem dX0_addThrough_6 : decode cX0_addThrough 6 = .ok (.iadd, 1) := by decide +kernel
theorem dX0_addThrough_7 : decode cX0_addThrough 7 = .ok (.putfield 32, 3) := by decide +kernel
theorem dX0_addThrough_10 : decode cX0_addThrough 10 = .ok (.aload_n 1, 1) := by decide +kernel
theorem dX0_addThrough_11 : decode cX0_addThrough 11 = .ok (.getfield 42, 3) := by decide +kernel
theorem dX0_addThrough_14 : decode cX0_addThrough 14 = .ok (.iconst 1, 1) := by decide +kernel
theorem dX0_addThrough_15 : decode cX0_addThrough 15 = .ok (.if_icmp .ne 17, 3) := by decide +kernel
theorem dX0_addThrough_18 : decode cX0_addThrough 18 = .ok (.aload_n 0, 1) := by decide +kernel
theorem dX0_addThrough_19 : decode cX0_addThrough 19 = .ok (.getfield 12, 3) := by decide +kernel
theorem dX0_addThrough_22 : decode cX0_addThrough 22 = .ok (.aload_n 1, 1) := by decide +kernel
theorem dX0_addThrough_23 : decode cX0_addThrough 23 = .ok (.getfield 47, 3) := by decide +kernel
theorem dX0_addThrough_26 : decode cX0_addThrough 26 = .ok (.invokevirtual 50, 3) := by decide +kernel
theorem dX0_addThrough_29 : decode cX0_addThrough 29 = .ok (.goto 13, 3) := by decide +kernel
theorem dX0_addThrough_32 : decode cX0_addThrough 32 = .ok (.aload_n 0, 1) := by decide +kernel
theorem dX0_addThrough_33 : decode cX0_addThrough 33 = .ok (.dup, 1) := by decide +kernel
theorem dX0_addThrough_34 : decode cX0_addThrough 34 = .ok (.getfield 29, 3) := by decide +kernel
theorem dX0_addThrough_37 : decode cX0_addThrough 37 = .ok (.iconst 1, 1) := by decide +kernel
theorem dX0_addThrough_38 : decode cX0_addThrough 38 = .ok (.iadd, 1) := by decide +kernel
theorem dX0_addThrough_39 : decode cX0_addThrough 39 = .ok (.putfield 29, 3) := by decide +kernel
theorem dX0_addThrough_42 : decode cX0_addThrough 42 = .ok (.return_, 1) := by decide +kernel
theorem dX0_addStop_0 : decode cX0_addStop 0 = .ok (.aload_n 0, 1) := by decide +kernel
theorem dX0_addStop_1 : decode cX0_addStop 1 = .ok (.dup, 1) := by decide +kernel
theorem dX0_addStop_2 : decode cX0_addStop 2 = .ok (.getfield 35, 3) := by decide +kernel
theorem dX0_addStop_5 : decode cX0_addStop 5 = .ok (.aload_n 1, 1) := by decide +kernel
theorem dX0_addStop_6 : decode cX0_addStop 6 = .ok (.getfield 42, 3) := by decide +kernel
theorem dX0_addStop_9 : decode cX0_addStop 9 = .ok (.iadd, 1) := by decide +kernel
theorem dX0_addStop_10 : decode cX0_addStop 10 = .ok (.putfield 35, 3) := by decide +kernel
theorem dX0_addStop_13 : decode cX0_addStop 13 = .ok (.iload_n 2, 1) := by decide +kernel
theorem dX0_addStop_14 : decode cX0_addStop 14 = .ok (.iconst 1, 1) := by decide +kernel
theorem dX0_addStop_15 : decode cX0_addStop 15 = .ok (.if_icmp .eq 4, 3) := by decide +kernel
theorem dX0_addStop_18 : decode cX0_addStop 18 = .ok (.return_, 1) := by decide +kernel
theorem dX0_addStop_19 : decode cX0_addStop 19 = .ok (.aload_n 0, 1) := by decide +kernel
theorem dX0_addStop_20 : decode cX0_addStop 20 = .ok (.dup, 1) := by decide +kernel
theorem dX0_addStop_21 : decode cX0_addStop 21 = .ok (.getfield 22, 3) := by decide +kernel
theorem dX0_addStop_24 : decode cX0_addStop 24 = .ok (.iconst 1, 1) := by decide +kernel
theorem dX0_addStop_25 : decode cX0_addStop 25 = .ok (.iadd, 1) := by decide +kernel
theorem dX0_addStop_26 : decode cX0_addStop 26 = .ok (.putfield 22, 3) := by decide +kernel
theorem dX0_addStop_29 : decode cX0_addStop 29 = .ok (.aload_n 1, 1) := by decide +kernel
theorem dX0_addStop_30 : decode cX0_addStop 30 = .ok (.getfield 42, 3) := by decide +kernel
theorem dX0_addStop_33 : decode cX0_addStop 33 = .ok (.iconst 1, 1) := by decide +kernel
theorem dX0_addStop_34 : decode cX0_addStop 34 = .ok (.if_icmp .ne 13, 3) := by decide +kernel
theorem dX0_addStop_37 : decode cX0_addStop 37 = .ok (.aload_n 0, 1) := by decide +kernel
theorem dX0_addStop_38 : decode cX0_addStop 38 = .ok (.dup, 1) := by decide +kernel
theorem dX0_addStop_39 : decode cX0_addStop 39 = .ok (.getfield 26, 3) := by decide +kernel
theorem dX0_addStop_42 : decode cX0_addStop 42 = .ok (.iconst 1, 1) := by decide +kernel
theorem dX0_addStop_43 : decode cX0_addStop 43 = .ok (.iadd, 1) := by decide +kernel
theorem dX0_addStop_44 : decode cX0_addStop 44 = .ok (.putfield 26, 3) := by decide +kernel
theorem dX0_addStop_47 : decode cX0_addStop 47 = .ok (.iload_n 3, 1) := by decide +kernel
theorem dX0_addStop_48 : decode cX0_addStop 48 = .ok (.ifCond .le 27, 3) := by decide +kernel
theorem dX0_addStop_51 : decode cX0_addStop 51 = .ok (.aload_n 0, 1) := by decide +kernel
theorem dX0_addStop_52 : decode cX0_addStop 52 = .ok (.aload_n 0, 1) := by decide +kernel
theorem dX0_addStop_53 : decode cX0_addStop 53 = .ok (.getfield 39, 3) := by decide +kernel
theorem dX0_addStop_56 : decode cX0_addStop 56 = .ok (.aload_n 1, 1) := by decide +kernel
theorem dX0_addStop_57 : decode cX0_addStop 57 = .ok (.getfield 47, 3) := by decide +kernel
theorem dX0_addStop_60 : decode cX0_addStop 60 = .ok (.bipush 100, 2) := by decide +kernel
theorem dX0_addStop_62 : decode cX0_addStop 62 = .ok (.imul, 1) := by decide +kernel
theorem dX0_addStop_63 : decode cX0_addStop 63 = .ok (.iload_n 3, 1) := by decide +kernel
theorem dX0_addStop_64 : decode cX0_addStop 64 = .ok (.iadd, 1) := by decide +kernel
theorem dX0_addStop_65 : decode cX0_addStop 65 = .ok (.iconst 1, 1) := by decide +kernel
theorem dX0_addStop_66 : decode cX0_addStop 66 = .ok (.isub, 1) := by decide +kernel
theorem dX0_addStop_67 : decode cX0_addStop 67 = .ok (.iload_n 3, 1) := by decide +kernel
theorem dX0_addStop_68 : decode cX0_addStop 68 = .ok (.idiv, 1) := by decide +kernel
theorem dX0_addStop_69 : decode cX0_addStop 69 = .ok (.invokestatic 54, 3) := by decide +kernel
theorem dX0_addStop_72 : decode cX0_addStop 72 = .ok (.putfield 39, 3) := by decide +kernel
theorem dX0_addStop_75 : decode cX0_addStop 75 = .ok (.return_, 1) := by decide +kernel
theorem dX1_init_0 : decode cX1_init 0 = .ok (.aload_n 0, 1) := by decide +kernel
theorem dX1_init_1 : decode cX1_init 1 = .ok (.invokespecial 3, 3) := by decide +kernel
theorem dX1_init_4 : decode cX1_init 4 = .ok (.aload_n 0, 1) := by decide +kernel
theorem dX1_init_5 : decode cX1_init 5 = .ok (.bipush 6, 2) := by decide +kernel
theorem dX1_init_7 : decode cX1_init 7 = .ok (.newarray .int, 2) := by decide +kernel
theorem dX1_init_9 : decode cX1_init 9 = .ok (.putfield 9, 3) := by decide +kernel
theorem dX1_init_12 : decode cX1_init 12 = .ok (.return_, 1) := by decide +kernel
theorem dX1_clear_0 : decode cX1_clear 0 = .ok (.aload_n 0, 1) := by decide +kernel
theorem dX1_clear_1 : decode cX1_clear 1 = .ok (.iconst 0, 1) := by decide +kernel
theorem dX1_clear_2 : decode cX1_clear 2 = .ok (.putfield 15, 3) := by decide +kernel
theorem dX1_clear_5 : decode cX1_clear 5 = .ok (.return_, 1) := by decide +kernel
theorem dX1_copyFrom_0 : decode cX1_copyFrom 0 = .ok (.aload_n 1, 1) := by decide +kernel
theorem dX1_copyFrom_1 : decode cX1_copyFrom 1 = .ok (.getfield 9, 3) := by decide +kernel
theorem dX1_copyFrom_4 : decode cX1_copyFrom 4 = .ok (.iconst 0, 1) := by decide +kernel
theorem dX1_copyFrom_5 : decode cX1_copyFrom 5 = .ok (.aload_n 0, 1) := by decide +kernel
theorem dX1_copyFrom_6 : decode cX1_copyFrom 6 = .ok (.getfield 9, 3) := by decide +kernel
theorem dX1_copyFrom_9 : decode cX1_copyFrom 9 = .ok (.iconst 0, 1) := by decide +kernel
theorem dX1_copyFrom_10 : decode cX1_copyFrom 10 = .ok (.bipush 6, 2) := by decide +kernel
theorem dX1_copyFrom_12 : decode cX1_copyFrom 12 = .ok (.invokestatic 19, 3) := by decide +kernel
theorem dX1_copyFrom_15 : decode cX1_copyFrom 15 = .ok (.aload_n 0, 1) := by decide +kernel
theorem dX1_copyFrom_16 : decode cX1_copyFrom 16 = .ok (.aload_n 1, 1) := by decide +kernel
theorem dX1_copyFrom_17 : decode cX1_copyFrom 17 = .ok (.getfield 15, 3) := by decide +kernel
theorem dX1_copyFrom_20 : decode cX1_copyFrom 20 = .ok (.putfield 15, 3) := by decide +kernel
theorem dX1_copyFrom_23 : decode cX1_copyFrom 23 = .ok (.return_, 1) := by decide +kernel
theorem dX1_add_0 : decode cX1_add 0 = .ok (.aload_n 0, 1) := by decide +kernel
theorem dX1_add_1 : decode cX1_add 1 = .ok (.getfield 9, 3) := by decide +kernel
theorem dX1_add_4 : decode cX1_add 4 = .ok (.aload_n 0, 1) := by decide +kernel
theorem dX1_add_5 : decode cX1_add 5 = .ok (.getfield 15, 3) := by decide +kernel
theorem dX1_add_8 : decode cX1_add 8 = .ok (.bipush 6, 2) := by decide +kernel
theorem dX1_add_10 : decode cX1_add 10 = .ok (.invokestatic 25, 3) := by decide +kernel
theorem dX1_add_13 : decode cX1_add 13 = .ok (.iload_n 1, 1) := by decide +kernel
theorem dX1_add_14 : decode cX1_add 14 = .ok (.iastore, 1) := by decide +kernel
theorem dX1_add_15 : decode cX1_add 15 = .ok (.aload_n 0, 1) := by decide +kernel
theorem dX1_add_16 : decode cX1_add 16 = .ok (.dup, 1) := by decide +kernel
theorem dX1_add_17 : decode cX1_add 17 = .ok (.getfield 15, 3) := by decide +kernel
theorem dX1_add_20 : decode cX1_add 20 = .ok (.iconst 1, 1) := by decide +kernel
theorem dX1_add_21 : decode cX1_add 21 = .ok (.iadd, 1) := by decide +kernel
theorem dX1_add_22 : decode cX1_add 22 = .ok (.putfield 15, 3) := by decide +kernel
theorem dX1_add_25 : decode cX1_add 25 = .ok (.return_, 1) := by decide +kernel
theorem dX1_usual_0 : decode cX1_usual 0 = .ok (.aload_n 0, 1) := by decide +kernel
theorem dX1_usual_1 : decode cX1_usual 1 = .ok (.getfield 15, 3) := by decide +kernel
theorem dX1_usual_4 : decode cX1_usual 4 = .ok (.bipush 6, 2) := by decide +kernel
theorem dX1_usual_6 : decode cX1_usual 6 = .ok (.invokestatic 31, 3) := by decide +kernel
theorem dX1_usual_9 : decode cX1_usual 9 = .ok (.istore_n 2, 1) := by decide +kernel
theorem dX1_usual_10 : decode cX1_usual 10 = .ok (.iload_n 2, 1) := by decide +kernel
theorem dX1_usual_11 : decode cX1_usual 11 = .ok (.ifCond .gt 5, 3) := by decide +kernel
theorem dX1_usual_14 : decode cX1_usual 14 = .ok (.iload_n 1, 1) := by decide +kernel
theorem dX1_usual_15 : decode cX1_usual 15 = .ok (.ireturn, 1) := by decide +kernel
theorem dX1_usual_16 : decode cX1_usual 16 = .ok (.iconst 0, 1) := by decide +kernel
theorem dX1_usual_17 : decode cX1_usual 17 = .ok (.istore_n 3, 1) := by decide +kernel
theorem dX1_usual_18 : decode cX1_usual 18 = .ok (.iconst 0, 1) := by decide +kernel
theorem dX1_usual_19 : decode cX1_usual 19 = .ok (.istore 4, 2) := by decide +kernel
theorem dX1_usual_21 : decode cX1_usual 21 = .ok (.iload 4, 2) := by decide +kernel
theorem dX1_usual_23 : decode cX1_usual 23 = .ok (.iload_n 2, 1) := by decide +kernel
theorem dX1_usual_24 : decode cX1_usual 24 = .ok (.if_icmp .ge 19, 3) := by decide +kernel
theorem dX1_usual_27 : decode cX1_usual 27 = .ok (.iload_n 3, 1) := by decide +kernel
theorem dX1_usual_28 : decode cX1_usual 28 = .ok (.aload_n 0, 1) := by decide +kernel
theorem dX1_usual_29 : decode cX1_usual 29 = .ok (.getfield 9, 3) := by decide +kernel
theorem dX1_usual_32 : decode cX1_usual 32 = .ok (.iload 4, 2) := by decide +kernel
theorem dX1_usual_34 : decode cX1_usual 34 = .ok (.iaload, 1) := by decide +kernel
theorem dX1_usual_35 : decode cX1_usual 35 = .ok (.iadd, 1) := by decide +kernel
theorem dX1_usual_36 : decode cX1_usual 36 = .ok (.istore_n 3, 1) := by decide +kernel
theorem dX1_usual_37 : decode cX1_usual 37 = .ok (.iinc 4 1, 3) := by decide +kernel
theorem dX1_usual_40 : decode cX1_usual 40 = .ok (.goto (-19), 3) := by decide +kernel
theorem dX1_usual_43 : decode cX1_usual 43 = .ok (.iload_n 3, 1) := by decide +kernel
theorem dX1_usual_44 : decode cX1_usual 44 = .ok (.iload_n 2, 1) := by decide +kernel
theorem dX1_usual_45 : decode cX1_usual 45 = .ok (.idiv, 1) := by decide +kernel
theorem dX1_usual_46 : decode cX1_usual 46 = .ok (.ireturn, 1) := by decide +kernel
theorem dX2_init_0 : decode cX2_init 0 = .ok (.aload_n 0, 1) := by decide +kernel
theorem dX2_init_1 : decode cX2_init 1 = .ok (.invokespecial 3, 3) := by decide +kernel
theorem dX2_init_4 : decode cX2_init 4 = .ok (.aload_n 0, 1) := by decide +kernel
theorem dX2_init_5 : decode cX2_init 5 = .ok (.sipush 700, 3) := by decide +kernel
theorem dX2_init_8 : decode cX2_init 8 = .ok (.newarray .byte, 2) := by decide +kernel
theorem dX2_init_10 : decode cX2_init 10 = .ok (.putfield 9, 3) := by decide +kernel
theorem dX2_init_13 : decode cX2_init 13 = .ok (.aload_n 0, 1) := by decide +kernel
theorem dX2_init_14 : decode cX2_init 14 = .ok (.new 15, 3) := by decide +kernel
theorem dX2_init_17 : decode cX2_init 17 = .ok (.dup, 1) := by decide +kernel
theorem dX2_init_18 : decode cX2_init 18 = .ok (.invokespecial 17, 3) := by decide +kernel
theorem dX2_init_21 : decode cX2_init 21 = .ok (.putfield 18, 3) := by decide +kernel
theorem dX2_init_24 : decode cX2_init 24 = .ok (.return_, 1) := by decide +kernel
theorem dX2_addFour_0 : decode cX2_addFour 0 = .ok (.bipush 24, 2) := by decide +kernel
theorem dX2_addFour_2 : decode cX2_addFour 2 = .ok (.istore_n 2, 1) := by decide +kernel
theorem dX2_addFour_3 : decode cX2_addFour 3 = .ok (.iload_n 2, 1) := by decide +kernel
theorem dX2_addFour_4 : decode cX2_addFour 4 = .ok (.ifCond .lt 42, 3) := by decide +kernel
theorem dX2_addFour_7 : decode cX2_addFour 7 = .ok (.aload_n 0, 1) := by decide +kernel
theorem dX2_addFour_8 : decode cX2_addFour 8 = .ok (.getfield 22, 3) := by decide +kernel
theorem dX2_addFour_11 : decode cX2_addFour 11 = .ok (.sipush 700, 3) := by decide +kernel
theorem dX2_addFour_14 : decode cX2_addFour 14 = .ok (.if_icmp .ge 32, 3) := by decide +kernel
theorem dX2_addFour_17 : decode cX2_addFour 17 = .ok (.aload_n 0, 1) := by decide +kernel
theorem dX2_addFour_18 : decode cX2_addFour 18 = .ok (.getfield 9, 3) := by decide +kernel
theorem dX2_addFour_21 : decode cX2_addFour 21 = .ok (.aload_n 0, 1) := by decide +kernel
theorem dX2_addFour_22 : decode cX2_addFour 22 = .ok (.getfield 22, 3) := by decide +kernel
theorem dX2_addFour_25 : decode cX2_addFour 25 = .ok (.iload_n 1, 1) := by decide +kernel
theorem dX2_addFour_26 : decode cX2_addFour 26 = .ok (.iload_n 2, 1) := by decide +kernel
theorem dX2_addFour_27 : decode cX2_addFour 27 = .ok (.ishr, 1) := by decide +kernel
theorem dX2_addFour_28 : decode cX2_addFour 28 = .ok (.i2b, 1) := by decide +kernel
theorem dX2_addFour_29 : decode cX2_addFour 29 = .ok (.bastore, 1) := by decide +kernel
theorem dX2_addFour_30 : decode cX2_addFour 30 = .ok (.aload_n 0, 1) := by decide +kernel
theorem dX2_addFour_31 : decode cX2_addFour 31 = .ok (.dup, 1) := by decide +kernel
theorem dX2_addFour_32 : decode cX2_addFour 32 = .ok (.getfield 22, 3) := by decide +kernel
theorem dX2_addFour_35 : decode cX2_addFour 35 = .ok (.iconst 1, 1) := by decide +kernel
theorem dX2_addFour_36 : decode cX2_addFour 36 = .ok (.iadd, 1) := by decide +kernel
theorem dX2_addFour_37 : decode cX2_addFour 37 = .ok (.putfield 22, 3) := by decide +kernel
theorem dX2_addFour_40 : decode cX2_addFour 40 = .ok (.iinc 2 (-8), 3) := by decide +kernel
theorem dX2_addFour_43 : decode cX2_addFour 43 = .ok (.goto (-40), 3) := by decide +kernel
theorem dX2_addFour_46 : decode cX2_addFour 46 = .ok (.return_, 1) := by decide +kernel
theorem dX2_exchange_0 : decode cX2_exchange 0 = .ok (.aload_n 0, 1) := by decide +kernel
theorem dX2_exchange_1 : decode cX2_exchange 1 = .ok (.getfield 18, 3) := by decide +kernel
theorem dX2_exchange_4 : decode cX2_exchange 4 = .ok (.astore_n 2, 1) := by decide +kernel
theorem dX2_exchange_5 : decode cX2_exchange 5 = .ok (.aload_n 0, 1) := by decide +kernel
theorem dX2_exchange_6 : decode cX2_exchange 6 = .ok (.aload_n 1, 1) := by decide +kernel
theorem dX2_exchange_7 : decode cX2_exchange 7 = .ok (.putfield 18, 3) := by decide +kernel
theorem dX2_exchange_10 : decode cX2_exchange 10 = .ok (.aload_n 2, 1) := by decide +kernel
theorem dX2_exchange_11 : decode cX2_exchange 11 = .ok (.areturn, 1) := by decide +kernel
theorem dX2_read_0 : decode cX2_read 0 = .ok (.aload_n 0, 1) := by decide +kernel
theorem dX2_read_1 : decode cX2_read 1 = .ok (.iload_n 1, 1) := by decide +kernel
theorem dX2_read_2 : decode cX2_read 2 = .ok (.aload_n 0, 1) := by decide +kernel
theorem dX2_read_3 : decode cX2_read 3 = .ok (.getfield 22, 3) := by decide +kernel
theorem dX2_read_6 : decode cX2_read 6 = .ok (.invokestatic 26, 3) := by decide +kernel
theorem dX2_read_9 : decode cX2_read 9 = .ok (.putfield 32, 3) := by decide +kernel
theorem dX2_read_12 : decode cX2_read 12 = .ok (.aload_n 0, 1) := by decide +kernel
theorem dX2_read_13 : decode cX2_read 13 = .ok (.iconst 0, 1) := by decide +kernel
theorem dX2_read_14 : decode cX2_read 14 = .ok (.putfield 22, 3) := by decide +kernel
theorem dX2_read_17 : decode cX2_read 17 = .ok (.aload_n 0, 1) := by decide +kernel
theorem dX2_read_18 : decode cX2_read 18 = .ok (.getfield 18, 3) := by decide +kernel
theorem dX2_read_21 : decode cX2_read 21 = .ok (.invokevirtual 35, 3) := by decide +kernel
theorem dX2_read_24 : decode cX2_read 24 = .ok (.aload_n 0, 1) := by decide +kernel
theorem dX2_read_25 : decode cX2_read 25 = .ok (.iconst (-1), 1) := by decide +kernel
theorem dX2_read_26 : decode cX2_read 26 = .ok (.putfield 38, 3) := by decide +kernel
theorem dX2_read_29 : decode cX2_read 29 = .ok (.aload_n 0, 1) := by decide +kernel
theorem dX2_read_30 : decode cX2_read 30 = .ok (.iconst 0, 1) := by decide +kernel
theorem dX2_read_31 : decode cX2_read 31 = .ok (.putfield 41, 3) := by decide +kernel
theorem dX2_read_34 : decode cX2_read 34 = .ok (.aload_n 0, 1) := by decide +kernel
theorem dX2_read_35 : decode cX2_read 35 = .ok (.iconst 0, 1) := by decide +kernel
theorem dX2_read_36 : decode cX2_read 36 = .ok (.putfield 45, 3) := by decide +kernel
theorem dX2_read_39 : decode cX2_read 39 = .ok (.aload_n 0, 1) := by decide +kernel
theorem dX2_read_40 : decode cX2_read 40 = .ok (.iconst 0, 1) := by decide +kernel
theorem dX2_read_41 : decode cX2_read 41 = .ok (.putfield 48, 3) := by decide +kernel
theorem dX2_read_44 : decode cX2_read 44 = .ok (.aload_n 0, 1) := by decide +kernel
theorem dX2_read_45 : decode cX2_read 45 = .ok (.invokevirtual 51, 3) := by decide +kernel
theorem dX2_read_48 : decode cX2_read 48 = .ok (.aload_n 0, 1) := by decide +kernel
theorem dX2_read_49 : decode cX2_read 49 = .ok (.ldc 54, 2) := by decide +kernel
theorem dX2_read_51 : decode cX2_read 51 = .ok (.invokevirtual 56, 3) := by decide +kernel
theorem dX2_read_54 : decode cX2_read 54 = .ok (.ifCond .ne 8, 3) := by decide +kernel
theorem dX2_read_57 : decode cX2_read 57 = .ok (.aload_n 0, 1) := by decide +kernel
theorem dX2_read_58 : decode cX2_read 58 = .ok (.iconst 1, 1) := by decide +kernel
theorem dX2_read_59 : decode cX2_read 59 = .ok (.invokevirtual 60, 3) := by decide +kernel
theorem dX2_read_62 : decode cX2_read 62 = .ok (.aload_n 0, 1) := by decide +kernel
theorem dX2_read_63 : decode cX2_read 63 = .ok (.getfield 18, 3) := by decide +kernel
theorem dX2_read_66 : decode cX2_read 66 = .ok (.aload_n 0, 1) := by decide +kernel
theorem dX2_read_67 : decode cX2_read 67 = .ok (.bipush 50, 2) := by decide +kernel
theorem dX2_read_69 : decode cX2_read 69 = .ok (.sipush 500, 3) := by decide +kernel
theorem dX2_read_72 : decode cX2_read 72 = .ok (.invokevirtual 64, 3) := by decide +kernel
theorem dX2_read_75 : decode cX2_read 75 = .ok (.putfield 67, 3) := by decide +kernel
theorem dX2_read_78 : decode cX2_read 78 = .ok (.aload_n 0, 1) := by decide +kernel
theorem dX2_read_79 : decode cX2_read 79 = .ok (.getfield 18, 3) := by decide +kernel
theorem dX2_read_82 : decode cX2_read 82 = .ok (.aload_n 0, 1) := by decide +kernel
theorem dX2_read_83 : decode cX2_read 83 = .ok (.bipush 30, 2) := by decide +kernel
theorem dX2_read_85 : decode cX2_read 85 = .ok (.sipush 500, 3) := by decide +kernel
theorem dX2_read_88 : decode cX2_read 88 = .ok (.invokevirtual 64, 3) := by decide +kernel
theorem dX2_read_91 : decode cX2_read 91 = .ok (.putfield 70, 3) := by decide +kernel
theorem dX2_read_94 : decode cX2_read 94 = .ok (.aload_n 0, 1) := by decide +kernel
theorem dX2_read_95 : decode cX2_read 95 = .ok (.invokevirtual 73, 3) := by decide +kernel
theorem dX2_read_98 : decode cX2_read 98 = .ok (.iconst 0, 1) := by decide +kernel
theorem dX2_read_99 : decode cX2_read 99 = .ok (.istore_n 2, 1) := by decide +kernel
theorem dX2_read_100 : decode cX2_read 100 = .ok (.iload_n 2, 1) := by decide +kernel
theorem dX2_read_101 : decode cX2_read 101 = .ok (.sipush 700, 3) := by decide +kernel
theorem dX2_read_104 : decode cX2_read 104 = .ok (.if_icmp .ge 32, 3) := by decide +kernel
theorem dX2_read_107 : decode cX2_read 107 = .ok (.aload_n 0, 1) := by decide +kernel
theorem dX2_read_108 : decode cX2_read 108 = .ok (.getfield 38, 3) := by decide +kernel
theorem dX2_read_111 : decode cX2_read 111 = .ok (.iconst (-1), 1) := by decide +kernel
theorem dX2_read_112 : decode cX2_read 112 = .ok (.if_icmp .ne 24, 3) := by decide +kernel
theorem dX2_read_115 : decode cX2_read 115 = .ok (.aload_n 0, 1) := by decide +kernel
theorem dX2_read_116 : decode cX2_read 116 = .ok (.getfield 76, 3) := by decide +kernel
theorem dX2_read_119 : decode cX2_read 119 = .ok (.ifCond .eq 17, 3) := by decide +kernel
theorem dX2_read_122 : decode cX2_read 122 = .ok (.aload_n 0, 1) := by decide +kernel
theorem dX2_read_123 : decode cX2_read 123 = .ok (.invokevirtual 79, 3) := by decide +kernel
theorem dX2_read_126 : decode cX2_read 126 = .ok (.aload_n 0, 1) := by decide +kernel
theorem dX2_read_127 : decode cX2_read 127 = .ok (.invokevirtual 73, 3) := by decide +kernel
theorem dX2_read_130 : decode cX2_read 130 = .ok (.iinc 2 1, 3) := by decide +kernel
theorem dX2_read_133 : decode cX2_read 133 = .ok (.goto (-33), 3) := by decide +kernel
theorem dX2_read_136 : decode cX2_read 136 = .ok (.aload_n 0, 1) := by decide +kernel
theorem dX2_read_137 : decode cX2_read 137 = .ok (.getfield 38, 3) := by decide +kernel
theorem dX2_read_140 : decode cX2_read 140 = .ok (.ireturn, 1) := by decide +kernel
theorem dX2_readStatement_0 : decode cX2_readStatement 0 = .ok (.aload_n 0, 1) := by decide +kernel
theorem dX2_readStatement_1 : decode cX2_readStatement 1 = .ok (.ldc 82, 2) := by decide +kernel
theorem dX2_readStatement_3 : decode cX2_readStatement 3 = .ok (.invokevirtual 84, 3) := by decide +kernel
theorem dX2_readStatement_6 : decode cX2_readStatement 6 = .ok (.ifCond .eq 11, 3) := by decide +kernel
theorem dX2_readStatement_9 : decode cX2_readStatement 9 = .ok (.aload_n 0, 1) := by decide +kernel
theorem dX2_readStatement_10 : decode cX2_readStatement 10 = .ok (.iconst 0, 1) := by decide +kernel
theorem dX2_readStatement_11 : decode cX2_readStatement 11 = .ok (.invokevirtual 87, 3) := by decide +kernel
theorem dX2_readStatement_14 : decode cX2_readStatement 14 = .ok (.goto 73, 3) := by decide +kernel
theorem dX2_readStatement_17 : decode cX2_readStatement 17 = .ok (.aload_n 0, 1) := by decide +kernel
theorem dX2_readStatement_18 : decode cX2_readStatement 18 = .ok (.ldc 91, 2) := by decide +kernel
theorem dX2_readStatement_20 : decode cX2_readStatement 20 = .ok (.invokevirtual 84, 3) := by decide +kernel
theorem dX2_readStatement_23 : decode cX2_readStatement 23 = .ok (.ifCond .eq 11, 3) := by decide +kernel
theorem dX2_readStatement_26 : decode cX2_readStatement 26 = .ok (.aload_n 0, 1) := by decide +kernel
theorem dX2_readStatement_27 : decode cX2_readStatement 27 = .ok (.iconst 1, 1) := by decide +kernel
theorem dX2_readStatement_28 : decode cX2_readStatement 28 = .ok (.invokevirtual 87, 3) := by decide +kernel
theorem dX2_readStatement_31 : decode cX2_readStatement 31 = .ok (.goto 56, 3) := by decide +kernel
theorem dX2_readStatement_34 : decode cX2_readStatement 34 = .ok (.aload_n 0, 1) := by decide +kernel
theorem dX2_readStatement_35 : decode cX2_readStatement 35 = .ok (.ldc 93, 2) := by decide +kernel
theorem dX2_readStatement_37 : decode cX2_readStatement 37 = .ok (.invokevirtual 84, 3) := by decide +kernel
theorem dX2_readStatement_40 : decode cX2_readStatement 40 = .ok (.ifCond .eq 10, 3) := by decide +kernel
theorem dX2_readStatement_43 : decode cX2_readStatement 43 = .ok (.aload_n 0, 1) := by decide +kernel
theorem dX2_readStatement_44 : decode cX2_readStatement 44 = .ok (.invokevirtual 95, 3) := by decide +kernel
theorem dX2_readStatement_47 : decode cX2_readStatement 47 = .ok (.goto 40, 3) := by decide +kernel
theorem dX2_readStatement_50 : decode cX2_readStatement 50 = .ok (.aload_n 0, 1) := by decide +kernel
theorem dX2_readStatement_51 : decode cX2_readStatement 51 = .ok (.ldc 98, 2) := by decide +kernel
theorem dX2_readStatement_53 : decode cX2_readStatement 53 = .ok (.invokevirtual 84, 3) := by decide +kernel
theorem dX2_readStatement_56 : decode cX2_readStatement 56 = .ok (.ifCond .eq 10, 3) := by decide +kernel
theorem dX2_readStatement_59 : decode cX2_readStatement 59 = .ok (.aload_n 0, 1) := by decide +kernel
theorem dX2_readStatement_60 : decode cX2_readStatement 60 = .ok (.invokevirtual 100, 3) := by decide +kernel
theorem dX2_readStatement_63 : decode cX2_readStatement 63 = .ok (.goto 24, 3) := by decide +kernel
theorem dX2_readStatement_66 : decode cX2_readStatement 66 = .ok (.aload_n 0, 1) := by decide +kernel
theorem dX2_readStatement_67 : decode cX2_readStatement 67 = .ok (.ldc 103, 2) := by decide +kernel
theorem dX2_readStatement_69 : decode cX2_readStatement 69 = .ok (.invokevirtual 84, 3) := by decide +kernel
theorem dX2_readStatement_72 : decode cX2_readStatement 72 = .ok (.ifCond .eq 10, 3) := by decide +kernel
theorem dX2_readStatement_75 : decode cX2_readStatement 75 = .ok (.aload_n 0, 1) := by decide +kernel
theorem dX2_readStatement_76 : decode cX2_readStatement 76 = .ok (.invokevirtual 105, 3) := by decide +kernel
theorem dX2_readStatement_79 : decode cX2_readStatement 79 = .ok (.goto 8, 3) := by decide +kernel
theorem dX2_readStatement_82 : decode cX2_readStatement 82 = .ok (.aload_n 0, 1) := by decide +kernel
theorem dX2_readStatement_83 : decode cX2_readStatement 83 = .ok (.iconst 1, 1) := by decide +kernel
theorem dX2_readStatement_84 : decode cX2_readStatement 84 = .ok (.invokevirtual 60, 3) := by decide +kernel
theorem dX2_readStatement_87 : decode cX2_readStatement 87 = .ok (.return_, 1) := by decide +kernel
theorem dX2_readSheet_0 : decode cX2_readSheet 0 = .ok (.aload_n 0, 1) := by decide +kernel
theorem dX2_readSheet_1 : decode cX2_readSheet 1 = .ok (.getfield 18, 3) := by decide +kernel
theorem dX2_readSheet_4 : decode cX2_readSheet 4 = .ok (.getfield 108, 3) := by decide +kernel
theorem dX2_readSheet_7 : decode cX2_readSheet 7 = .ok (.istore_n 2, 1) := by decide +kernel
theorem dX2_readSheet_8 : decode cX2_readSheet 8 = .ok (.iload_n 2, 1) := by decide +kernel
theorem dX2_readSheet_9 : decode cX2_readSheet 9 = .ok (.bipush 40, 2) := by decide +kernel
theorem dX2_readSheet_11 : decode cX2_readSheet 11 = .ok (.if_icmp .lt 9, 3) := by decide +kernel
theorem dX2_readSheet_14 : decode cX2_readSheet 14 = .ok (.aload_n 0, 1) := by decide +kernel
theorem dX2_readSheet_15 : decode cX2_readSheet 15 = .ok (.iconst 5, 1) := by decide +kernel
theorem dX2_readSheet_16 : decode cX2_readSheet 16 = .ok (.invokevirtual 60, 3) := by decide +kernel
theorem dX2_readSheet_19 : decode cX2_readSheet 19 = .ok (.return_, 1) := by decide +kernel
theorem dX2_readSheet_20 : decode cX2_readSheet 20 = .ok (.aload_n 0, 1) := by decide +kernel
theorem dX2_readSheet_21 : decode cX2_readSheet 21 = .ok (.invokevirtual 51, 3) := by decide +kernel
theorem dX2_readSheet_24 : decode cX2_readSheet 24 = .ok (.aload_n 0, 1) := by decide +kernel
theorem dX2_readSheet_25 : decode cX2_readSheet 25 = .ok (.getfield 18, 3) := by decide +kernel
theorem dX2_readSheet_28 : decode cX2_readSheet 28 = .ok (.getfield 111, 3) := by decide +kernel
theorem dX2_readSheet_31 : decode cX2_readSheet 31 = .ok (.iload_n 2, 1) := by decide +kernel
theorem dX2_readSheet_32 : decode cX2_readSheet 32 = .ok (.iload_n 1, 1) := by decide +kernel
theorem dX2_readSheet_33 : decode cX2_readSheet 33 = .ok (.ifCond .eq 14, 3) := by decide +kernel
theorem dX2_readSheet_36 : decode cX2_readSheet 36 = .ok (.aload_n 0, 1) := by decide +kernel
theorem dX2_readSheet_37 : decode cX2_readSheet 37 = .ok (.iconst 0, 1) := by decide +kernel
theorem dX2_readSheet_38 : decode cX2_readSheet 38 = .ok (.sipush 999, 3) := by decide +kernel
theorem dX2_readSheet_41 : decode cX2_readSheet 41 = .ok (.invokevirtual 64, 3) := by decide +kernel
theorem dX2_readSheet_44 : decode cX2_readSheet 44 = .ok (.goto 4, 3) := by decide +kernel
theorem dX2_readSheet_47 : decode cX2_readSheet 47 = .ok (.iconst (-1), 1) := by decide +kernel
theorem dX2_readSheet_48 : decode cX2_readSheet 48 = .ok (.iastore, 1) := by decide +kernel
theorem dX2_readSheet_49 : decode cX2_readSheet 49 = .ok (.aload_n 0, 1) := by decide +kernel
theorem dX2_readSheet_50 : decode cX2_readSheet 50 = .ok (.getfield 18, 3) := by decide +kernel
theorem dX2_readSheet_53 : decode cX2_readSheet 53 = .ok (.getfield 114, 3) := by decide +kernel
theorem dX2_readSheet_56 : decode cX2_readSheet 56 = .ok (.iload_n 2, 1) := by decide +kernel
theorem dX2_readSheet_57 : decode cX2_readSheet 57 = .ok (.aload_n 0, 1) := by decide +kernel
theorem dX2_readSheet_58 : decode cX2_readSheet 58 = .ok (.bipush 50, 2) := by decide +kernel
theorem dX2_readSheet_60 : decode cX2_readSheet 60 = .ok (.sipush 500, 3) := by decide +kernel
theorem dX2_readSheet_63 : decode cX2_readSheet 63 = .ok (.invokevirtual 64, 3) := by decide +kernel
theorem dX2_readSheet_66 : decode cX2_readSheet 66 = .ok (.iastore, 1) := by decide +kernel
theorem dX2_readSheet_67 : decode cX2_readSheet 67 = .ok (.aload_n 0, 1) := by decide +kernel
theorem dX2_readSheet_68 : decode cX2_readSheet 68 = .ok (.getfield 18, 3) := by decide +kernel
theorem dX2_readSheet_71 : decode cX2_readSheet 71 = .ok (.getfield 116, 3) := by decide +kernel
theorem dX2_readSheet_74 : decode cX2_readSheet 74 = .ok (.iload_n 2, 1) := by decide +kernel
theorem dX2_readSheet_75 : decode cX2_readSheet 75 = .ok (.aload_n 0, 1) := by decide +kernel
theorem dX2_readSheet_76 : decode cX2_readSheet 76 = .ok (.bipush 30, 2) := by decide +kernel
theorem dX2_readSheet_78 : decode cX2_readSheet 78 = .ok (.sipush 500, 3) := by decide +kernel
theorem dX2_readSheet_81 : decode cX2_readSheet 81 = .ok (.invokevirtual 64, 3) := by decide +kernel
theorem dX2_readSheet_84 : decode cX2_readSheet 84 = .ok (.iastore, 1) := by decide +kernel
theorem dX2_readSheet_85 : decode cX2_readSheet 85 = .ok (.aload_n 0, 1) := by decide +kernel
theorem dX2_readSheet_86 : decode cX2_readSheet 86 = .ok (.invokevirtual 119, 3) := by decide +kernel
theorem dX2_readSheet_89 : decode cX2_readSheet 89 = .ok (.istore_n 3, 1) := by decide +kernel
theorem dX2_readSheet_90 : decode cX2_readSheet 90 = .ok (.aload_n 0, 1) := by decide +kernel
theorem dX2_readSheet_91 : decode cX2_readSheet 91 = .ok (.iconst 0, 1) := by decide +kernel
theorem dX2_readSheet_92 : decode cX2_readSheet 92 = .ok (.bipush 99, 2) := by decide +kernel
theorem dX2_readSheet_94 : decode cX2_readSheet 94 = .ok (.invokevirtual 64, 3) := by decide +kernel
theorem dX2_readSheet_97 : decode cX2_readSheet 97 = .ok (.istore 4, 2) := by decide +kernel
theorem dX2_readSheet_99 : decode cX2_readSheet 99 = .ok (.aload_n 0, 1) := by decide +kernel
theorem dX2_readSheet_100 : decode cX2_readSheet 100 = .ok (.getfield 18, 3) := by decide +kernel
theorem dX2_readSheet_103 : decode cX2_readSheet 103 = .ok (.getfield 123, 3) := by decide +kernel
theorem dX2_readSheet_106 : decode cX2_readSheet 106 = .ok (.iload_n 2, 1) := by decide +kernel
theorem dX2_readSheet_107 : decode cX2_readSheet 107 = .ok (.iload_n 3, 1) := by decide +kernel
theorem dX2_readSheet_108 : decode cX2_readSheet 108 = .ok (.ifCond .eq 9, 3) := by decide +kernel
theorem dX2_readSheet_111 : decode cX2_readSheet 111 = .ok (.iload 4, 2) := by decide +kernel
theorem dX2_readSheet_113 : decode cX2_readSheet 113 = .ok (.ineg, 1) := by decide +kernel
theorem dX2_readSheet_114 : decode cX2_readSheet 114 = .ok (.goto 5, 3) := by decide +kernel
theorem dX2_readSheet_117 : decode cX2_readSheet 117 = .ok (.iload 4, 2) := by decide +kernel
theorem dX2_readSheet_119 : decode cX2_readSheet 119 = .ok (.iastore, 1) := by decide +kernel
theorem dX2_readSheet_120 : decode cX2_readSheet 120 = .ok (.aload_n 0, 1) := by decide +kernel
theorem dX2_readSheet_121 : decode cX2_readSheet 121 = .ok (.getfield 18, 3) := by decide +kernel
theorem dX2_readSheet_124 : decode cX2_readSheet 124 = .ok (.getfield 126, 3) := by decide +kernel
theorem dX2_readSheet_127 : decode cX2_readSheet 127 = .ok (.iload_n 2, 1) := by decide +kernel
theorem dX2_readSheet_128 : decode cX2_readSheet 128 = .ok (.iload_n 1, 1) := by decide +kernel
theorem dX2_readSheet_129 : decode cX2_readSheet 129 = .ok (.ifCond .eq 7, 3) := by decide +kernel
theorem dX2_readSheet_132 : decode cX2_readSheet 132 = .ok (.iconst 0, 1) := by decide +kernel
theorem dX2_readSheet_133 : decode cX2_readSheet 133 = .ok (.goto 11, 3) := by decide +kernel
theorem dX2_readSheet_136 : decode cX2_readSheet 136 = .ok (.aload_n 0, 1) := by decide +kernel
theorem dX2_readSheet_137 : decode cX2_readSheet 137 = .ok (.iconst 0, 1) := by decide +kernel
theorem dX2_readSheet_138 : decode cX2_readSheet 138 = .ok (.sipush 1000, 3) := by decide +kernel
theorem dX2_readSheet_141 : decode cX2_readSheet 141 = .ok (.invokevirtual 64, 3) := by decide +kernel
theorem dX2_readSheet_144 : decode cX2_readSheet 144 = .ok (.iastore, 1) := by decide +kernel
theorem dX2_readSheet_145 : decode cX2_readSheet 145 = .ok (.aload_n 0, 1) := by decide +kernel
theorem dX2_readSheet_146 : decode cX2_readSheet 146 = .ok (.getfield 18, 3) := by decide +kernel
theorem dX2_readSheet_149 : decode cX2_readSheet 149 = .ok (.getfield 129, 3) := by decide +kernel
theorem dX2_readSheet_152 : decode cX2_readSheet 152 = .ok (.iload_n 2, 1) := by decide +kernel
theorem dX2_readSheet_153 : decode cX2_readSheet 153 = .ok (.iload_n 1, 1) := by decide +kernel
theorem dX2_readSheet_154 : decode cX2_readSheet 154 = .ok (.ifCond .eq 7, 3) := by decide +kernel
theorem dX2_readSheet_157 : decode cX2_readSheet 157 = .ok (.iconst 0, 1) := by decide +kernel
theorem dX2_readSheet_158 : decode cX2_readSheet 158 = .ok (.goto 11, 3) := by decide +kernel
theorem dX2_readSheet_161 : decode cX2_readSheet 161 = .ok (.aload_n 0, 1) := by decide +kernel
theorem dX2_readSheet_162 : decode cX2_readSheet 162 = .ok (.iconst 0, 1) := by decide +kernel
theorem dX2_readSheet_163 : decode cX2_readSheet 163 = .ok (.sipush 1000, 3) := by decide +kernel
theorem dX2_readSheet_166 : decode cX2_readSheet 166 = .ok (.invokevirtual 64, 3) := by decide +kernel
theorem dX2_readSheet_169 : decode cX2_readSheet 169 = .ok (.iastore, 1) := by decide +kernel
theorem dX2_readSheet_170 : decode cX2_readSheet 170 = .ok (.aload_n 0, 1) := by decide +kernel
theorem dX2_readSheet_171 : decode cX2_readSheet 171 = .ok (.getfield 18, 3) := by decide +kernel
theorem dX2_readSheet_174 : decode cX2_readSheet 174 = .ok (.getfield 132, 3) := by decide +kernel
theorem dX2_readSheet_177 : decode cX2_readSheet 177 = .ok (.iload_n 2, 1) := by decide +kernel
theorem dX2_readSheet_178 : decode cX2_readSheet 178 = .ok (.aload_n 0, 1) := by decide +kernel
theorem dX2_readSheet_179 : decode cX2_readSheet 179 = .ok (.ldc 135, 2) := by decide +kernel
theorem dX2_readSheet_181 : decode cX2_readSheet 181 = .ok (.invokevirtual 56, 3) := by decide +kernel
theorem dX2_readSheet_184 : decode cX2_readSheet 184 = .ok (.ifCond .eq 14, 3) := by decide +kernel
theorem dX2_readSheet_187 : decode cX2_readSheet 187 = .ok (.aload_n 0, 1) := by decide +kernel
theorem dX2_readSheet_188 : decode cX2_readSheet 188 = .ok (.iconst 0, 1) := by decide +kernel
theorem dX2_readSheet_189 : decode cX2_readSheet 189 = .ok (.sipush 400, 3) := by decide +kernel
theorem dX2_readSheet_192 : decode cX2_readSheet 192 = .ok (.invokevirtual 64, 3) := by decide +kernel
theorem dX2_readSheet_195 : decode cX2_readSheet 195 = .ok (.goto 4, 3) := by decide +kernel
theorem dX2_readSheet_198 : decode cX2_readSheet 198 = .ok (.iconst (-1), 1) := by decide +kernel
theorem dX2_readSheet_199 : decode cX2_readSheet 199 = .ok (.iastore, 1) := by decide +kernel
theorem dX2_readSheet_200 : decode cX2_readSheet 200 = .ok (.aload_n 0, 1) := by decide +kernel
theorem dX2_readSheet_201 : decode cX2_readSheet 201 = .ok (.getfield 18, 3) := by decide +kernel
theorem dX2_readSheet_204 : decode cX2_readSheet 204 = .ok (.iload_n 2, 1) := by decide +kernel
theorem dX2_readSheet_205 : decode cX2_readSheet 205 = .ok (.iconst 1, 1) := by decide +kernel
theorem dX2_readSheet_206 : decode cX2_readSheet 206 = .ok (.iadd, 1) := by decide +kernel
theorem dX2_readSheet_207 : decode cX2_readSheet 207 = .ok (.putfield 108, 3) := by decide +kernel
theorem dX2_readSheet_210 : decode cX2_readSheet 210 = .ok (.return_, 1) := by decide +kernel
theorem dX2_readAgain_0 : decode cX2_readAgain 0 = .ok (.aload_n 0, 1) := by decide +kernel
theorem dX2_readAgain_1 : decode cX2_readAgain 1 = .ok (.getfield 18, 3) := by decide +kernel
theorem dX2_readAgain_4 : decode cX2_readAgain 4 = .ok (.getfield 108, 3) := by decide +kernel
theorem dX2_readAgain_7 : decode cX2_readAgain 7 = .ok (.ifCond .ne 9, 3) := by decide +kernel
theorem dX2_readAgain_10 : decode cX2_readAgain 10 = .ok (.aload_n 0, 1) := by decide +kernel
theorem dX2_readAgain_11 : decode cX2_readAgain 11 = .ok (.iconst 3, 1) := by decide +kernel
theorem dX2_readAgain_12 : decode cX2_readAgain 12 = .ok (.invokevirtual 60, 3) := by decide +kernel
theorem dX2_readAgain_15 : decode cX2_readAgain 15 = .ok (.return_, 1) := by decide +kernel
theorem dX2_readAgain_16 : decode cX2_readAgain 16 = .ok (.aload_n 0, 1) := by decide +kernel
theorem dX2_readAgain_17 : decode cX2_readAgain 17 = .ok (.invokevirtual 51, 3) := by decide +kernel
theorem dX2_readAgain_20 : decode cX2_readAgain 20 = .ok (.aload_n 0, 1) := by decide +kernel
theorem dX2_readAgain_21 : decode cX2_readAgain 21 = .ok (.getfield 137, 3) := by decide +kernel
theorem dX2_readAgain_24 : decode cX2_readAgain 24 = .ok (.istore_n 1, 1) := by decide +kernel
theorem dX2_readAgain_25 : decode cX2_readAgain 25 = .ok (.aload_n 0, 1) := by decide +kernel
theorem dX2_readAgain_26 : decode cX2_readAgain 26 = .ok (.iconst 1, 1) := by decide +kernel
theorem dX2_readAgain_27 : decode cX2_readAgain 27 = .ok (.bipush 39, 2) := by decide +kernel
theorem dX2_readAgain_29 : decode cX2_readAgain 29 = .ok (.invokevirtual 64, 3) := by decide +kernel
theorem dX2_readAgain_32 : decode cX2_readAgain 32 = .ok (.istore_n 2, 1) := by decide +kernel
theorem dX2_readAgain_33 : decode cX2_readAgain 33 = .ok (.aload_n 0, 1) := by decide +kernel
theorem dX2_readAgain_34 : decode cX2_readAgain 34 = .ok (.getfield 38, 3) := by decide +kernel
theorem dX2_readAgain_37 : decode cX2_readAgain 37 = .ok (.iconst (-1), 1) := by decide +kernel
theorem dX2_readAgain_38 : decode cX2_readAgain 38 = .ok (.if_icmp .eq 4, 3) := by decide +kernel
theorem dX2_readAgain_41 : decode cX2_readAgain 41 = .ok (.return_, 1) := by decide +kernel
theorem dX2_readAgain_42 : decode cX2_readAgain 42 = .ok (.aload_n 0, 1) := by decide +kernel
theorem dX2_readAgain_43 : decode cX2_readAgain 43 = .ok (.getfield 18, 3) := by decide +kernel
theorem dX2_readAgain_46 : decode cX2_readAgain 46 = .ok (.getfield 108, 3) := by decide +kernel
theorem dX2_readAgain_49 : decode cX2_readAgain 49 = .ok (.iload_n 2, 1) := by decide +kernel
theorem dX2_readAgain_50 : decode cX2_readAgain 50 = .ok (.iadd, 1) := by decide +kernel
theorem dX2_readAgain_51 : decode cX2_readAgain 51 = .ok (.bipush 40, 2) := by decide +kernel
theorem dX2_readAgain_53 : decode cX2_readAgain 53 = .ok (.if_icmp .le 14, 3) := by decide +kernel
theorem dX2_readAgain_56 : decode cX2_readAgain 56 = .ok (.aload_n 0, 1) := by decide +kernel
theorem dX2_readAgain_57 : decode cX2_readAgain 57 = .ok (.bipush 8, 2) := by decide +kernel
theorem dX2_readAgain_59 : decode cX2_readAgain 59 = .ok (.iload_n 1, 1) := by decide +kernel
theorem dX2_readAgain_60 : decode cX2_readAgain 60 = .ok (.imul, 1) := by decide +kernel
theorem dX2_readAgain_61 : decode cX2_readAgain 61 = .ok (.iconst 5, 1) := by decide +kernel
theorem dX2_readAgain_62 : decode cX2_readAgain 62 = .ok (.iadd, 1) := by decide +kernel
theorem dX2_readAgain_63 : decode cX2_readAgain 63 = .ok (.putfield 38, 3) := by decide +kernel
theorem dX2_readAgain_66 : decode cX2_readAgain 66 = .ok (.return_, 1) := by decide +kernel
theorem dX2_readAgain_67 : decode cX2_readAgain 67 = .ok (.aload_n 0, 1) := by decide +kernel
theorem dX2_readAgain_68 : decode cX2_readAgain 68 = .ok (.getfield 18, 3) := by decide +kernel
theorem dX2_readAgain_71 : decode cX2_readAgain 71 = .ok (.iload_n 2, 1) := by decide +kernel
theorem dX2_readAgain_72 : decode cX2_readAgain 72 = .ok (.invokevirtual 140, 3) := by decide +kernel
theorem dX2_readAgain_75 : decode cX2_readAgain 75 = .ok (.return_, 1) := by decide +kernel
theorem dX2_readLimits_0 : decode cX2_readLimits 0 = .ok (.aload_n 0, 1) := by decide +kernel
theorem dX2_readLimits_1 : decode cX2_readLimits 1 = .ok (.getfield 41, 3) := by decide +kernel
theorem dX2_readLimits_4 : decode cX2_readLimits 4 = .ok (.ifCond .eq 9, 3) := by decide +kernel
theorem dX2_readLimits_7 : decode cX2_readLimits 7 = .ok (.aload_n 0, 1) := by decide +kernel
theorem dX2_readLimits_8 : decode cX2_readLimits 8 = .ok (.iconst 2, 1) := by decide +kernel
theorem dX2_readLimits_9 : decode cX2_readLimits 9 = .ok (.invokevirtual 60, 3) := by decide +kernel
theorem dX2_readLimits_12 : decode cX2_readLimits 12 = .ok (.return_, 1) := by decide +kernel
theorem dX2_readLimits_13 : decode cX2_readLimits 13 = .ok (.aload_n 0, 1) := by decide +kernel
theorem dX2_readLimits_14 : decode cX2_readLimits 14 = .ok (.iconst 1, 1) := by decide +kernel
theorem dX2_readLimits_15 : decode cX2_readLimits 15 = .ok (.putfield 41, 3) := by decide +kernel
theorem dX2_readLimits_18 : decode cX2_readLimits 18 = .ok (.aload_n 0, 1) := by decide +kernel
theorem dX2_readLimits_19 : decode cX2_readLimits 19 = .ok (.invokevirtual 51, 3) := by decide +kernel
theorem dX2_readLimits_22 : decode cX2_readLimits 22 = .ok (.iconst 0, 1) := by decide +kernel
theorem dX2_readLimits_23 : decode cX2_readLimits 23 = .ok (.istore_n 1, 1) := by decide +kernel
theorem dX2_readLimits_24 : decode cX2_readLimits 24 = .ok (.iload_n 1, 1) := by decide +kernel
theorem dX2_readLimits_25 : decode cX2_readLimits 25 = .ok (.iconst 4, 1) := by decide +kernel
theorem dX2_readLimits_26 : decode cX2_readLimits 26 = .ok (.if_icmp .ge 32, 3) := by decide +kernel
theorem dX2_readLimits_29 : decode cX2_readLimits 29 = .ok (.aload_n 0, 1) := by decide +kernel
theorem dX2_readLimits_30 : decode cX2_readLimits 30 = .ok (.getfield 18, 3) := by decide +kernel
theorem dX2_readLimits_33 : decode cX2_readLimits 33 = .ok (.getfield 143, 3) := by decide +kernel
theorem dX2_readLimits_36 : decode cX2_readLimits 36 = .ok (.iload_n 1, 1) := by decide +kernel
theorem dX2_readLimits_37 : decode cX2_readLimits 37 = .ok (.aload_n 0, 1) := by decide +kernel
theorem dX2_readLimits_38 : decode cX2_readLimits 38 = .ok (.getstatic 145, 3) := by decide +kernel
theorem dX2_readLimits_41 : decode cX2_readLimits 41 = .ok (.iload_n 1, 1) := by decide +kernel
theorem dX2_readLimits_42 : decode cX2_readLimits 42 = .ok (.iaload, 1) := by decide +kernel
theorem dX2_readLimits_43 : decode cX2_readLimits 43 = .ok (.getstatic 148, 3) := by decide +kernel
theorem dX2_readLimits_46 : decode cX2_readLimits 46 = .ok (.iload_n 1, 1) := by decide +kernel
theorem dX2_readLimits_47 : decode cX2_readLimits 47 = .ok (.iaload, 1) := by decide +kernel
theorem dX2_readLimits_48 : decode cX2_readLimits 48 = .ok (.invokevirtual 64, 3) := by decide +kernel
theorem dX2_readLimits_51 : decode cX2_readLimits 51 = .ok (.iastore, 1) := by decide +kernel
theorem dX2_readLimits_52 : decode cX2_readLimits 52 = .ok (.iinc 1 1, 3) := by decide +kernel
theorem dX2_readLimits_55 : decode cX2_readLimits 55 = .ok (.goto (-31), 3) := by decide +kernel
theorem dX2_readLimits_58 : decode cX2_readLimits 58 = .ok (.return_, 1) := by decide +kernel
theorem dX2_readSimplex_0 : decode cX2_readSimplex 0 = .ok (.aload_n 0, 1) := by decide +kernel
theorem dX2_readSimplex_1 : decode cX2_readSimplex 1 = .ok (.getfield 45, 3) := by decide +kernel
theorem dX2_readSimplex_4 : decode cX2_readSimplex 4 = .ok (.ifCond .eq 9, 3) := by decide +kernel
theorem dX2_readSimplex_7 : decode cX2_readSimplex 7 = .ok (.aload_n 0, 1) := by decide +kernel
theorem dX2_readSimplex_8 : decode cX2_readSimplex 8 = .ok (.iconst 2, 1) := by decide +kernel
theorem dX2_readSimplex_9 : decode cX2_readSimplex 9 = .ok (.invokevirtual 60, 3) := by decide +kernel
theorem dX2_readSimplex_12 : decode cX2_readSimplex 12 = .ok (.return_, 1) := by decide +kernel
theorem dX2_readSimplex_13 : decode cX2_readSimplex 13 = .ok (.aload_n 0, 1) := by decide +kernel
theorem dX2_readSimplex_14 : decode cX2_readSimplex 14 = .ok (.iconst 1, 1) := by decide +kernel
theorem dX2_readSimplex_15 : decode cX2_readSimplex 15 = .ok (.putfield 45, 3) := by decide +kernel
theorem dX2_readSimplex_18 : decode cX2_readSimplex 18 = .ok (.aload_n 0, 1) := by decide +kernel
theorem dX2_readSimplex_19 : decode cX2_readSimplex 19 = .ok (.invokevirtual 51, 3) := by decide +kernel
theorem dX2_readSimplex_22 : decode cX2_readSimplex 22 = .ok (.aload_n 0, 1) := by decide +kernel
theorem dX2_readSimplex_23 : decode cX2_readSimplex 23 = .ok (.getfield 18, 3) := by decide +kernel
theorem dX2_readSimplex_26 : decode cX2_readSimplex 26 = .ok (.iconst 0, 1) := by decide +kernel
theorem dX2_readSimplex_27 : decode cX2_readSimplex 27 = .ok (.putfield 151, 3) := by decide +kernel
theorem dX2_readSimplex_30 : decode cX2_readSimplex 30 = .ok (.return_, 1) := by decide +kernel
theorem dX2_fail_0 : decode cX2_fail 0 = .ok (.aload_n 0, 1) := by decide +kernel
theorem dX2_fail_1 : decode cX2_fail 1 = .ok (.getfield 38, 3) := by decide +kernel
theorem dX2_fail_4 : decode cX2_fail 4 = .ok (.iconst (-1), 1) := by decide +kernel
theorem dX2_fail_5 : decode cX2_fail 5 = .ok (.if_icmp .ne 16, 3) := by decide +kernel
theorem dX2_fail_8 : decode cX2_fail 8 = .ok (.aload_n 0, 1) := by decide +kernel
theorem dX2_fail_9 : decode cX2_fail 9 = .ok (.bipush 8, 2) := by decide +kernel
theorem dX2_fail_11 : decode cX2_fail 11 = .ok (.aload_n 0, 1) := by decide +kernel
theorem dX2_fail_12 : decode cX2_fail 12 = .ok (.getfield 137, 3) := by decide +kernel
theorem dX2_fail_15 : decode cX2_fail 15 = .ok (.imul, 1) := by decide +kernel
theorem dX2_fail_16 : decode cX2_fail 16 = .ok (.iload_n 1, 1) := by decide +kernel
theorem dX2_fail_17 : decode cX2_fail 17 = .ok (.iadd, 1) := by decide +kernel
theorem dX2_fail_18 : decode cX2_fail 18 = .ok (.putfield 38, 3) := by decide +kernel
theorem dX2_fail_21 : decode cX2_fail 21 = .ok (.return_, 1) := by decide +kernel
theorem dX2_takeIf_0 : decode cX2_takeIf 0 = .ok (.aload_n 0, 1) := by decide +kernel
theorem dX2_takeIf_1 : decode cX2_takeIf 1 = .ok (.aload_n 1, 1) := by decide +kernel
theorem dX2_takeIf_2 : decode cX2_takeIf 2 = .ok (.invokevirtual 84, 3) := by decide +kernel
theorem dX2_takeIf_5 : decode cX2_takeIf 5 = .ok (.ifCond .ne 5, 3) := by decide +kernel
theorem dX2_takeIf_8 : decode cX2_takeIf 8 = .ok (.iconst 0, 1) := by decide +kernel
theorem dX2_takeIf_9 : decode cX2_takeIf 9 = .ok (.ireturn, 1) := by decide +kernel
theorem dX2_takeIf_10 : decode cX2_takeIf 10 = .ok (.aload_n 0, 1) := by decide +kernel
theorem dX2_takeIf_11 : decode cX2_takeIf 11 = .ok (.invokevirtual 51, 3) := by decide +kernel
theorem dX2_takeIf_14 : decode cX2_takeIf 14 = .ok (.iconst 1, 1) := by decide +kernel
theorem dX2_takeIf_15 : decode cX2_takeIf 15 = .ok (.ireturn, 1) := by decide +kernel
theorem dX2_takeSemicolon_0 : decode cX2_takeSemicolon 0 = .ok (.aload_n 0, 1) := by decide +kernel
theorem dX2_takeSemicolon_1 : decode cX2_takeSemicolon 1 = .ok (.getfield 38, 3) := by decide +kernel
theorem dX2_takeSemicolon_4 : decode cX2_takeSemicolon 4 = .ok (.iconst (-1), 1) := by decide +kernel
theorem dX2_takeSemicolon_5 : decode cX2_takeSemicolon 5 = .ok (.if_icmp .ne 18, 3) := by decide +kernel
theorem dX2_takeSemicolon_8 : decode cX2_takeSemicolon 8 = .ok (.aload_n 0, 1) := by decide +kernel
theorem dX2_takeSemicolon_9 : decode cX2_takeSemicolon 9 = .ok (.getfield 76, 3) := by decide +kernel
theorem dX2_takeSemicolon_12 : decode cX2_takeSemicolon 12 = .ok (.iconst 3, 1) := by decide +kernel
theorem dX2_takeSemicolon_13 : decode cX2_takeSemicolon 13 = .ok (.if_icmp .ne 10, 3) := by decide +kernel
theorem dX2_takeSemicolon_16 : decode cX2_takeSemicolon 16 = .ok (.aload_n 0, 1) := by decide +kernel
theorem dX2_takeSemicolon_17 : decode cX2_takeSemicolon 17 = .ok (.invokevirtual 51, 3) := by decide +kernel
theorem dX2_takeSemicolon_20 : decode cX2_takeSemicolon 20 = .ok (.goto 8, 3) := by decide +kernel
theorem dX2_takeSemicolon_23 : decode cX2_takeSemicolon 23 = .ok (.aload_n 0, 1) := by decide +kernel
theorem dX2_takeSemicolon_24 : decode cX2_takeSemicolon 24 = .ok (.iconst 1, 1) := by decide +kernel
theorem dX2_takeSemicolon_25 : decode cX2_takeSemicolon 25 = .ok (.invokevirtual 60, 3) := by decide +kernel
theorem dX2_takeSemicolon_28 : decode cX2_takeSemicolon 28 = .ok (.return_, 1) := by decide +kernel
theorem dX2_takeMinus_0 : decode cX2_takeMinus 0 = .ok (.aload_n 0, 1) := by decide +kernel
theorem dX2_takeMinus_1 : decode cX2_takeMinus 1 = .ok (.getfield 38, 3) := by decide +kernel
theorem dX2_takeMinus_4 : decode cX2_takeMinus 4 = .ok (.iconst (-1), 1) := by decide +kernel
theorem dX2_takeMinus_5 : decode cX2_takeMinus 5 = .ok (.if_icmp .ne 11, 3) := by decide +kernel
theorem dX2_takeMinus_8 : decode cX2_takeMinus 8 = .ok (.aload_n 0, 1) := by decide +kernel
theorem dX2_takeMinus_9 : decode cX2_takeMinus 9 = .ok (.getfield 76, 3) := by decide +kernel
theorem dX2_takeMinus_12 : decode cX2_takeMinus 12 = .ok (.iconst 4, 1) := by decide +kernel
theorem dX2_takeMinus_13 : decode cX2_takeMinus 13 = .ok (.if_icmp .eq 5, 3) := by decide +kernel
theorem dX2_takeMinus_16 : decode cX2_takeMinus 16 = .ok (.iconst 0, 1) := by decide +kernel
theorem dX2_takeMinus_17 : decode cX2_takeMinus 17 = .ok (.ireturn, 1) := by decide +kernel
theorem dX2_takeMinus_18 : decode cX2_takeMinus 18 = .ok (.aload_n 0, 1) := by decide +kernel
theorem dX2_takeMinus_19 : decode cX2_takeMinus 19 = .ok (.invokevirtual 51, 3) := by decide +kernel
theorem dX2_takeMinus_22 : decode cX2_takeMinus 22 = .ok (.iconst 1, 1) := by decide +kernel
theorem dX2_takeMinus_23 : decode cX2_takeMinus 23 = .ok (.ireturn, 1) := by decide +kernel
theorem dX2_takeNumber_0 : decode cX2_takeNumber 0 = .ok (.aload_n 0, 1) := by decide +kernel
theorem dX2_takeNumber_1 : decode cX2_takeNumber 1 = .ok (.getfield 38, 3) := by decide +kernel
theorem dX2_takeNumber_4 : decode cX2_takeNumber 4 = .ok (.iconst (-1), 1) := by decide +kernel
theorem dX2_takeNumber_5 : decode cX2_takeNumber 5 = .ok (.if_icmp .ne 11, 3) := by decide +kernel
theorem dX2_takeNumber_8 : decode cX2_takeNumber 8 = .ok (.aload_n 0, 1) := by decide +kernel
theorem dX2_takeNumber_9 : decode cX2_takeNumber 9 = .ok (.getfield 76, 3) := by decide +kernel
theorem dX2_takeNumber_12 : decode cX2_takeNumber 12 = .ok (.iconst 2, 1) := by decide +kernel
theorem dX2_takeNumber_13 : decode cX2_takeNumber 13 = .ok (.if_icmp .eq 10, 3) := by decide +kernel
theorem dX2_takeNumber_16 : decode cX2_takeNumber 16 = .ok (.aload_n 0, 1) := by decide +kernel
theorem dX2_takeNumber_17 : decode cX2_takeNumber 17 = .ok (.iconst 1, 1) := by decide +kernel
theorem dX2_takeNumber_18 : decode cX2_takeNumber 18 = .ok (.invokevirtual 60, 3) := by decide +kernel
theorem dX2_takeNumber_21 : decode cX2_takeNumber 21 = .ok (.iconst (-1), 1) := by decide +kernel
theorem dX2_takeNumber_22 : decode cX2_takeNumber 22 = .ok (.ireturn, 1) := by decide +kernel
theorem dX2_takeNumber_23 : decode cX2_takeNumber 23 = .ok (.iconst 0, 1) := by decide +kernel
theorem dX2_takeNumber_24 : decode cX2_takeNumber 24 = .ok (.istore_n 3, 1) := by decide +kernel
theorem dX2_takeNumber_25 : decode cX2_takeNumber 25 = .ok (.aload_n 0, 1) := by decide +kernel
theorem dX2_takeNumber_26 : decode cX2_takeNumber 26 = .ok (.getfield 137, 3) := by decide +kernel
theorem dX2_takeNumber_29 : decode cX2_takeNumber 29 = .ok (.istore 4, 2) := by decide +kernel
theorem dX2_takeNumber_31 : decode cX2_takeNumber 31 = .ok (.iload 4, 2) := by decide +kernel
theorem dX2_takeNumber_33 : decode cX2_takeNumber 33 = .ok (.aload_n 0, 1) := by decide +kernel
theorem dX2_takeNumber_34 : decode cX2_takeNumber 34 = .ok (.getfield 48, 3) := by decide +kernel
theorem dX2_takeNumber_37 : decode cX2_takeNumber 37 = .ok (.if_icmp .ge 25, 3) := by decide +kernel
theorem dX2_takeNumber_40 : decode cX2_takeNumber 40 = .ok (.bipush 10, 2) := by decide +kernel
theorem dX2_takeNumber_42 : decode cX2_takeNumber 42 = .ok (.iload_n 3, 1) := by decide +kernel
theorem dX2_takeNumber_43 : decode cX2_takeNumber 43 = .ok (.imul, 1) := by decide +kernel
theorem dX2_takeNumber_44 : decode cX2_takeNumber 44 = .ok (.aload_n 0, 1) := by decide +kernel
theorem dX2_takeNumber_45 : decode cX2_takeNumber 45 = .ok (.getfield 9, 3) := by decide +kernel
theorem dX2_takeNumber_48 : decode cX2_takeNumber 48 = .ok (.iload 4, 2) := by decide +kernel
theorem dX2_takeNumber_50 : decode cX2_takeNumber 50 = .ok (.baload, 1) := by decide +kernel
theorem dX2_takeNumber_51 : decode cX2_takeNumber 51 = .ok (.bipush 48, 2) := by decide +kernel
theorem dX2_takeNumber_53 : decode cX2_takeNumber 53 = .ok (.isub, 1) := by decide +kernel
theorem dX2_takeNumber_54 : decode cX2_takeNumber 54 = .ok (.iadd, 1) := by decide +kernel
theorem dX2_takeNumber_55 : decode cX2_takeNumber 55 = .ok (.istore_n 3, 1) := by decide +kernel
theorem dX2_takeNumber_56 : decode cX2_takeNumber 56 = .ok (.iinc 4 1, 3) := by decide +kernel
theorem dX2_takeNumber_59 : decode cX2_takeNumber 59 = .ok (.goto (-28), 3) := by decide +kernel
theorem dX2_takeNumber_62 : decode cX2_takeNumber 62 = .ok (.iload_n 3, 1) := by decide +kernel
theorem dX2_takeNumber_63 : decode cX2_takeNumber 63 = .ok (.iload_n 1, 1) := by decide +kernel
theorem dX2_takeNumber_64 : decode cX2_takeNumber 64 = .ok (.if_icmp .lt 8, 3) := by decide +kernel
theorem dX2_takeNumber_67 : decode cX2_takeNumber 67 = .ok (.iload_n 3, 1) := by decide +kernel
theorem dX2_takeNumber_68 : decode cX2_takeNumber 68 = .ok (.iload_n 2, 1) := by decide +kernel
theorem dX2_takeNumber_69 : decode cX2_takeNumber 69 = .ok (.if_icmp .le 10, 3) := by decide +kernel
theorem dX2_takeNumber_72 : decode cX2_takeNumber 72 = .ok (.aload_n 0, 1) := by decide +kernel
theorem dX2_takeNumber_73 : decode cX2_takeNumber 73 = .ok (.iconst 4, 1) := by decide +kernel
theorem dX2_takeNumber_74 : decode cX2_takeNumber 74 = .ok (.invokevirtual 60, 3) := by decide +kernel
theorem dX2_takeNumber_77 : decode cX2_takeNumber 77 = .ok (.iconst (-1), 1) := by decide +kernel
theorem dX2_takeNumber_78 : decode cX2_takeNumber 78 = .ok (.ireturn, 1) := by decide +kernel
theorem dX2_takeNumber_79 : decode cX2_takeNumber 79 = .ok (.aload_n 0, 1) := by decide +kernel
theorem dX2_takeNumber_80 : decode cX2_takeNumber 80 = .ok (.invokevirtual 51, 3) := by decide +kernel
theorem dX2_takeNumber_83 : decode cX2_takeNumber 83 = .ok (.iload_n 3, 1) := by decide +kernel
theorem dX2_takeNumber_84 : decode cX2_takeNumber 84 = .ok (.ireturn, 1) := by decide +kernel
theorem dX2_isWord_0 : decode cX2_isWord 0 = .ok (.aload_n 0, 1) := by decide +kernel
theorem dX2_isWord_1 : decode cX2_isWord 1 = .ok (.getfield 38, 3) := by decide +kernel
theorem dX2_isWord_4 : decode cX2_isWord 4 = .ok (.iconst (-1), 1) := by decide +kernel
theorem dX2_isWord_5 : decode cX2_isWord 5 = .ok (.if_icmp .ne 27, 3) := by decide +kernel
theorem dX2_isWord_8 : decode cX2_isWord 8 = .ok (.aload_n 0, 1) := by decide +kernel
theorem dX2_isWord_9 : decode cX2_isWord 9 = .ok (.getfield 76, 3) := by decide +kernel
theorem dX2_isWord_12 : decode cX2_isWord 12 = .ok (.iconst 1, 1) := by decide +kernel
theorem dX2_isWord_13 : decode cX2_isWord 13 = .ok (.if_icmp .ne 19, 3) := by decide +kernel
theorem dX2_isWord_16 : decode cX2_isWord 16 = .ok (.aload_n 0, 1) := by decide +kernel
theorem dX2_isWord_17 : decode cX2_isWord 17 = .ok (.getfield 48, 3) := by decide +kernel
theorem dX2_isWord_20 : decode cX2_isWord 20 = .ok (.aload_n 0, 1) := by decide +kernel
theorem dX2_isWord_21 : decode cX2_isWord 21 = .ok (.getfield 137, 3) := by decide +kernel
theorem dX2_isWord_24 : decode cX2_isWord 24 = .ok (.isub, 1) := by decide +kernel
theorem dX2_isWord_25 : decode cX2_isWord 25 = .ok (.aload_n 1, 1) := by decide +kernel
theorem dX2_isWord_26 : decode cX2_isWord 26 = .ok (.invokevirtual 154, 3) := by decide +kernel
theorem dX2_isWord_29 : decode cX2_isWord 29 = .ok (.if_icmp .eq 5, 3) := by decide +kernel
theorem dX2_isWord_32 : decode cX2_isWord 32 = .ok (.iconst 0, 1) := by decide +kernel
theorem dX2_isWord_33 : decode cX2_isWord 33 = .ok (.ireturn, 1) := by decide +kernel
theorem dX2_isWord_34 : decode cX2_isWord 34 = .ok (.iconst 0, 1) := by decide +kernel
theorem dX2_isWord_35 : decode cX2_isWord 35 = .ok (.istore_n 2, 1) := by decide +kernel
theorem dX2_isWord_36 : decode cX2_isWord 36 = .ok (.iload_n 2, 1) := by decide +kernel
theorem dX2_isWord_37 : decode cX2_isWord 37 = .ok (.aload_n 1, 1) := by decide +kernel
theorem dX2_isWord_38 : decode cX2_isWord 38 = .ok (.invokevirtual 154, 3) := by decide +kernel
theorem dX2_isWord_41 : decode cX2_isWord 41 = .ok (.if_icmp .ge 30, 3) := by decide +kernel
theorem dX2_isWord_44 : decode cX2_isWord 44 = .ok (.aload_n 0, 1) := by decide +kernel
theorem dX2_isWord_45 : decode cX2_isWord 45 = .ok (.getfield 9, 3) := by decide +kernel
theorem dX2_isWord_48 : decode cX2_isWord 48 = .ok (.aload_n 0, 1) := by decide +kernel
theorem dX2_isWord_49 : decode cX2_isWord 49 = .ok (.getfield 137, 3) := by decide +kernel
theorem dX2_isWord_52 : decode cX2_isWord 52 = .ok (.iload_n 2, 1) := by decide +kernel
theorem dX2_isWord_53 : decode cX2_isWord 53 = .ok (.iadd, 1) := by decide +kernel
theorem dX2_isWord_54 : decode cX2_isWord 54 = .ok (.baload, 1) := by decide +kernel
theorem dX2_isWord_55 : decode cX2_isWord 55 = .ok (.aload_n 1, 1) := by decide +kernel
theorem dX2_isWord_56 : decode cX2_isWord 56 = .ok (.iload_n 2, 1) := by decide +kernel
theorem dX2_isWord_57 : decode cX2_isWord 57 = .ok (.invokevirtual 159, 3) := by decide +kernel
theorem dX2_isWord_60 : decode cX2_isWord 60 = .ok (.if_icmp .eq 5, 3) := by decide +kernel
theorem dX2_isWord_63 : decode cX2_isWord 63 = .ok (.iconst 0, 1) := by decide +kernel
theorem dX2_isWord_64 : decode cX2_isWord 64 = .ok (.ireturn, 1) := by decide +kernel
theorem dX2_isWord_65 : decode cX2_isWord 65 = .ok (.iinc 2 1, 3) := by decide +kernel
theorem dX2_isWord_68 : decode cX2_isWord 68 = .ok (.goto (-32), 3) := by decide +kernel
theorem dX2_isWord_71 : decode cX2_isWord 71 = .ok (.iconst 1, 1) := by decide +kernel
theorem dX2_isWord_72 : decode cX2_isWord 72 = .ok (.ireturn, 1) := by decide +kernel
theorem dX2_advance_0 : decode cX2_advance 0 = .ok (.aload_n 0, 1) := by decide +kernel
theorem dX2_advance_1 : decode cX2_advance 1 = .ok (.aload_n 0, 1) := by decide +kernel
theorem dX2_advance_2 : decode cX2_advance 2 = .ok (.getfield 48, 3) := by decide +kernel
theorem dX2_advance_5 : decode cX2_advance 5 = .ok (.putfield 137, 3) := by decide +kernel
theorem dX2_advance_8 : decode cX2_advance 8 = .ok (.aload_n 0, 1) := by decide +kernel
theorem dX2_advance_9 : decode cX2_advance 9 = .ok (.getfield 137, 3) := by decide +kernel
theorem dX2_advance_12 : decode cX2_advance 12 = .ok (.aload_n 0, 1) := by decide +kernel
theorem dX2_advance_13 : decode cX2_advance 13 = .ok (.getfield 32, 3) := by decide +kernel
theorem dX2_advance_16 : decode cX2_advance 16 = .ok (.if_icmp .ge 44, 3) := by decide +kernel
theorem dX2_advance_19 : decode cX2_advance 19 = .ok (.aload_n 0, 1) := by decide +kernel
theorem dX2_advance_20 : decode cX2_advance 20 = .ok (.getfield 9, 3) := by decide +kernel
theorem dX2_advance_23 : decode cX2_advance 23 = .ok (.aload_n 0, 1) := by decide +kernel
theorem dX2_advance_24 : decode cX2_advance 24 = .ok (.getfield 137, 3) := by decide +kernel
theorem dX2_advance_27 : decode cX2_advance 27 = .ok (.baload, 1) := by decide +kernel
theorem dX2_advance_28 : decode cX2_advance 28 = .ok (.bipush 32, 2) := by decide +kernel
theorem dX2_advance_30 : decode cX2_advance 30 = .ok (.if_icmp .eq 17, 3) := by decide +kernel
theorem dX2_advance_33 : decode cX2_advance 33 = .ok (.aload_n 0, 1) := by decide +kernel
theorem dX2_advance_34 : decode cX2_advance 34 = .ok (.getfield 9, 3) := by decide +kernel
theorem dX2_advance_37 : decode cX2_advance 37 = .ok (.aload_n 0, 1) := by decide +kernel
theorem dX2_advance_38 : decode cX2_advance 38 = .ok (.getfield 137, 3) := by decide +kernel
theorem dX2_advance_41 : decode cX2_advance 41 = .ok (.baload, 1) := by decide +kernel
theorem dX2_advance_42 : decode cX2_advance 42 = .ok (.bipush 10, 2) := by decide +kernel
theorem dX2_advance_44 : decode cX2_advance 44 = .ok (.if_icmp .ne 16, 3) := by decide +kernel
theorem dX2_advance_47 : decode cX2_advance 47 = .ok (.aload_n 0, 1) := by decide +kernel
theorem dX2_advance_48 : decode cX2_advance 48 = .ok (.dup, 1) := by decide +kernel
theorem dX2_advance_49 : decode cX2_advance 49 = .ok (.getfield 137, 3) := by decide +kernel
theorem dX2_advance_52 : decode cX2_advance 52 = .ok (.iconst 1, 1) := by decide +kernel
theorem dX2_advance_53 : decode cX2_advance 53 = .ok (.iadd, 1) := by decide +kernel
theorem dX2_advance_54 : decode cX2_advance 54 = .ok (.putfield 137, 3) := by decide +kernel
theorem dX2_advance_57 : decode cX2_advance 57 = .ok (.goto (-49), 3) := by decide +kernel
theorem dX2_advance_60 : decode cX2_advance 60 = .ok (.aload_n 0, 1) := by decide +kernel
theorem dX2_advance_61 : decode cX2_advance 61 = .ok (.getfield 137, 3) := by decide +kernel
theorem dX2_advance_64 : decode cX2_advance 64 = .ok (.aload_n 0, 1) := by decide +kernel
theorem dX2_advance_65 : decode cX2_advance 65 = .ok (.getfield 32, 3) := by decide +kernel
theorem dX2_advance_68 : decode cX2_advance 68 = .ok (.if_icmp .lt 19, 3) := by decide +kernel
theorem dX2_advance_71 : decode cX2_advance 71 = .ok (.aload_n 0, 1) := by decide +kernel
theorem dX2_advance_72 : decode cX2_advance 72 = .ok (.aload_n 0, 1) := by decide +kernel
theorem dX2_advance_73 : decode cX2_advance 73 = .ok (.getfield 32, 3) := by decide +kernel
theorem dX2_advance_76 : decode cX2_advance 76 = .ok (.putfield 48, 3) := by decide +kernel
theorem dX2_advance_79 : decode cX2_advance 79 = .ok (.aload_n 0, 1) := by decide +kernel
theorem dX2_advance_80 : decode cX2_advance 80 = .ok (.iconst 0, 1) := by decide +kernel
theorem dX2_advance_81 : decode cX2_advance 81 = .ok (.putfield 76, 3) := by decide +kernel
theorem dX2_advance_84 : decode cX2_advance 84 = .ok (.goto 185, 3) := by decide +kernel
theorem dX2_advance_87 : decode cX2_advance 87 = .ok (.aload_n 0, 1) := by decide +kernel
theorem dX2_advance_88 : decode cX2_advance 88 = .ok (.getfield 9, 3) := by decide +kernel
theorem dX2_advance_91 : decode cX2_advance 91 = .ok (.aload_n 0, 1) := by decide +kernel
theorem dX2_advance_92 : decode cX2_advance 92 = .ok (.getfield 137, 3) := by decide +kernel
theorem dX2_advance_95 : decode cX2_advance 95 = .ok (.baload, 1) := by decide +kernel
theorem dX2_advance_96 : decode cX2_advance 96 = .ok (.bipush 97, 2) := by decide +kernel
theorem dX2_advance_98 : decode cX2_advance 98 = .ok (.if_icmp .lt 55, 3) := by decide +kernel
theorem dX2_advance_101 : decode cX2_advance 101 = .ok (.aload_n 0, 1) := by decide +kernel
theorem dX2_advance_102 : decode cX2_advance 102 = .ok (.getfield 9, 3) := by decide +kernel
theorem dX2_advance_105 : decode cX2_advance 105 = .ok (.aload_n 0, 1) := by decide +kernel
theorem dX2_advance_106 : decode cX2_advance 106 = .ok (.getfield 137, 3) := by decide +kernel
theorem dX2_advance_109 : decode cX2_advance 109 = .ok (.baload, 1) := by decide +kernel
theorem dX2_advance_110 : decode cX2_advance 110 = .ok (.bipush 122, 2) := by decide +kernel
theorem dX2_advance_112 : decode cX2_advance 112 = .ok (.if_icmp .gt 41, 3) := by decide +kernel
theorem dX2_advance_115 : decode cX2_advance 115 = .ok (.aload_n 0, 1) := by decide +kernel
theorem dX2_advance_116 : decode cX2_advance 116 = .ok (.aload_n 0, 1) := by decide +kernel
theorem dX2_advance_117 : decode cX2_advance 117 = .ok (.bipush 97, 2) := by decide +kernel
theorem dX2_advance_119 : decode cX2_advance 119 = .ok (.bipush 122, 2) := by decide +kernel
theorem dX2_advance_121 : decode cX2_advance 121 = .ok (.invokevirtual 163, 3) := by decide +kernel
theorem dX2_advance_124 : decode cX2_advance 124 = .ok (.putfield 48, 3) := by decide +kernel
theorem dX2_advance_127 : decode cX2_advance 127 = .ok (.aload_n 0, 1) := by decide +kernel
theorem dX2_advance_128 : decode cX2_advance 128 = .ok (.aload_n 0, 1) := by decide +kernel
theorem dX2_advance_129 : decode cX2_advance 129 = .ok (.getfield 48, 3) := by decide +kernel
theorem dX2_advance_132 : decode cX2_advance 132 = .ok (.aload_n 0, 1) := by decide +kernel
theorem dX2_advance_133 : decode cX2_advance 133 = .ok (.getfield 137, 3) := by decide +kernel
theorem dX2_advance_136 : decode cX2_advance 136 = .ok (.isub, 1) := by decide +kernel
theorem dX2_advance_137 : decode cX2_advance 137 = .ok (.bipush 8, 2) := by decide +kernel
theorem dX2_advance_139 : decode cX2_advance 139 = .ok (.if_icmp .gt 7, 3) := by decide +kernel
theorem dX2_advance_142 : decode cX2_advance 142 = .ok (.iconst 1, 1) := by decide +kernel
theorem dX2_advance_143 : decode cX2_advance 143 = .ok (.goto 4, 3) := by decide +kernel
theorem dX2_advance_146 : decode cX2_advance 146 = .ok (.iconst 5, 1) := by decide +kernel
theorem dX2_advance_147 : decode cX2_advance 147 = .ok (.putfield 76, 3) := by decide +kernel
theorem dX2_advance_150 : decode cX2_advance 150 = .ok (.goto 119, 3) := by decide +kernel
theorem dX2_advance_153 : decode cX2_advance 153 = .ok (.aload_n 0, 1) := by decide +kernel
theorem dX2_advance_154 : decode cX2_advance 154 = .ok (.getfield 9, 3) := by decide +kernel
theorem dX2_advance_157 : decode cX2_advance 157 = .ok (.aload_n 0, 1) := by decide +kernel
theorem dX2_advance_158 : decode cX2_advance 158 = .ok (.getfield 137, 3) := by decide +kernel
theorem dX2_advance_161 : decode cX2_advance 161 = .ok (.baload, 1) := by decide +kernel
theorem dX2_advance_162 : decode cX2_advance 162 = .ok (.bipush 48, 2) := by decide +kernel
theorem dX2_advance_164 : decode cX2_advance 164 = .ok (.if_icmp .lt 54, 3) := by decide +kernel
theorem dX2_advance_167 : decode cX2_advance 167 = .ok (.aload_n 0, 1) := by decide +kernel
theorem dX2_advance_168 : decode cX2_advance 168 = .ok (.getfield 9, 3) := by decide +kernel
theorem dX2_advance_171 : decode cX2_advance 171 = .ok (.aload_n 0, 1) := by decide +kernel
theorem dX2_advance_172 : decode cX2_advance 172 = .ok (.getfield 137, 3) := by decide +kernel
theorem dX2_advance_175 : decode cX2_advance 175 = .ok (.baload, 1) := by decide +kernel
theorem dX2_advance_176 : decode cX2_advance 176 = .ok (.bipush 57, 2) := by decide +kernel
theorem dX2_advance_178 : decode cX2_advance 178 = .ok (.if_icmp .gt 40, 3) := by decide +kernel
theorem dX2_advance_181 : decode cX2_advance 181 = .ok (.aload_n 0, 1) := by decide +kernel
theorem dX2_advance_182 : decode cX2_advance 182 = .ok (.aload_n 0, 1) := by decide +kernel
theorem dX2_advance_183 : decode cX2_advance 183 = .ok (.bipush 48, 2) := by decide +kernel
theorem dX2_advance_185 : decode cX2_advance 185 = .ok (.bipush 57, 2) := by decide +kernel
theorem dX2_advance_187 : decode cX2_advance 187 = .ok (.invokevirtual 163, 3) := by decide +kernel
theorem dX2_advance_190 : decode cX2_advance 190 = .ok (.putfield 48, 3) := by decide +kernel
theorem dX2_advance_193 : decode cX2_advance 193 = .ok (.aload_n 0, 1) := by decide +kernel
theorem dX2_advance_194 : decode cX2_advance 194 = .ok (.aload_n 0, 1) := by decide +kernel
theorem dX2_advance_195 : decode cX2_advance 195 = .ok (.getfield 48, 3) := by decide +kernel
theorem dX2_advance_198 : decode cX2_advance 198 = .ok (.aload_n 0, 1) := by decide +kernel
theorem dX2_advance_199 : decode cX2_advance 199 = .ok (.getfield 137, 3) := by decide +kernel
theorem dX2_advance_202 : decode cX2_advance 202 = .ok (.isub, 1) := by decide +kernel
theorem dX2_advance_203 : decode cX2_advance 203 = .ok (.iconst 4, 1) := by decide +kernel
theorem dX2_advance_204 : decode cX2_advance 204 = .ok (.if_icmp .gt 7, 3) := by decide +kernel
theorem dX2_advance_207 : decode cX2_advance 207 = .ok (.iconst 2, 1) := by decide +kernel
theorem dX2_advance_208 : decode cX2_advance 208 = .ok (.goto 4, 3) := by decide +kernel
theorem dX2_advance_211 : decode cX2_advance 211 = .ok (.iconst 5, 1) := by decide +kernel
theorem dX2_advance_212 : decode cX2_advance 212 = .ok (.putfield 76, 3) := by decide +kernel
theorem dX2_advance_215 : decode cX2_advance 215 = .ok (.goto 54, 3) := by decide +kernel
theorem dX2_advance_218 : decode cX2_advance 218 = .ok (.aload_n 0, 1) := by decide +kernel
theorem dX2_advance_219 : decode cX2_advance 219 = .ok (.aload_n 0, 1) := by decide +kernel
theorem dX2_advance_220 : decode cX2_advance 220 = .ok (.getfield 137, 3) := by decide +kernel
theorem dX2_advance_223 : decode cX2_advance 223 = .ok (.iconst 1, 1) := by decide +kernel
theorem dX2_advance_224 : decode cX2_advance 224 = .ok (.iadd, 1) := by decide +kernel
theorem dX2_advance_225 : decode cX2_advance 225 = .ok (.putfield 48, 3) := by decide +kernel
theorem dX2_advance_228 : decode cX2_advance 228 = .ok (.aload_n 0, 1) := by decide +kernel
theorem dX2_advance_229 : decode cX2_advance 229 = .ok (.aload_n 0, 1) := by decide +kernel
theorem dX2_advance_230 : decode cX2_advance 230 = .ok (.getfield 9, 3) := by decide +kernel
theorem dX2_advance_233 : decode cX2_advance 233 = .ok (.aload_n 0, 1) := by decide +kernel
theorem dX2_advance_234 : decode cX2_advance 234 = .ok (.getfield 137, 3) := by decide +kernel
theorem dX2_advance_237 : decode cX2_advance 237 = .ok (.baload, 1) := by decide +kernel
theorem dX2_advance_238 : decode cX2_advance 238 = .ok (.bipush 59, 2) := by decide +kernel
theorem dX2_advance_240 : decode cX2_advance 240 = .ok (.if_icmp .ne 7, 3) := by decide +kernel
theorem dX2_advance_243 : decode cX2_advance 243 = .ok (.iconst 3, 1) := by decide +kernel
theorem dX2_advance_244 : decode cX2_advance 244 = .ok (.goto 22, 3) := by decide +kernel
theorem dX2_advance_247 : decode cX2_advance 247 = .ok (.aload_n 0, 1) := by decide +kernel
theorem dX2_advance_248 : decode cX2_advance 248 = .ok (.getfield 9, 3) := by decide +kernel
theorem dX2_advance_251 : decode cX2_advance 251 = .ok (.aload_n 0, 1) := by decide +kernel
theorem dX2_advance_252 : decode cX2_advance 252 = .ok (.getfield 137, 3) := by decide +kernel
theorem dX2_advance_255 : decode cX2_advance 255 = .ok (.baload, 1) := by decide +kernel
theorem dX2_advance_256 : decode cX2_advance 256 = .ok (.bipush 45, 2) := by decide +kernel
theorem dX2_advance_258 : decode cX2_advance 258 = .ok (.if_icmp .ne 7, 3) := by decide +kernel
theorem dX2_advance_261 : decode cX2_advance 261 = .ok (.iconst 4, 1) := by decide +kernel
theorem dX2_advance_262 : decode cX2_advance 262 = .ok (.goto 4, 3) := by decide +kernel
theorem dX2_advance_265 : decode cX2_advance 265 = .ok (.iconst 5, 1) := by decide +kernel
theorem dX2_advance_266 : decode cX2_advance 266 = .ok (.putfield 76, 3) := by decide +kernel
theorem dX2_advance_269 : decode cX2_advance 269 = .ok (.return_, 1) := by decide +kernel
theorem dX2_runEnd_0 : decode cX2_runEnd 0 = .ok (.aload_n 0, 1) := by decide +kernel
theorem dX2_runEnd_1 : decode cX2_runEnd 1 = .ok (.getfield 137, 3) := by decide +kernel
theorem dX2_runEnd_4 : decode cX2_runEnd 4 = .ok (.istore_n 3, 1) := by decide +kernel
theorem dX2_runEnd_5 : decode cX2_runEnd 5 = .ok (.iload_n 3, 1) := by decide +kernel
theorem dX2_runEnd_6 : decode cX2_runEnd 6 = .ok (.aload_n 0, 1) := by decide +kernel
theorem dX2_runEnd_7 : decode cX2_runEnd 7 = .ok (.getfield 32, 3) := by decide +kernel
theorem dX2_runEnd_10 : decode cX2_runEnd 10 = .ok (.if_icmp .ge 29, 3) := by decide +kernel
theorem dX2_runEnd_13 : decode cX2_runEnd 13 = .ok (.aload_n 0, 1) := by decide +kernel
theorem dX2_runEnd_14 : decode cX2_runEnd 14 = .ok (.getfield 9, 3) := by decide +kernel
theorem dX2_runEnd_17 : decode cX2_runEnd 17 = .ok (.iload_n 3, 1) := by decide +kernel
theorem dX2_runEnd_18 : decode cX2_runEnd 18 = .ok (.baload, 1) := by decide +kernel
theorem dX2_runEnd_19 : decode cX2_runEnd 19 = .ok (.iload_n 1, 1) := by decide +kernel
theorem dX2_runEnd_20 : decode cX2_runEnd 20 = .ok (.if_icmp .lt 19, 3) := by decide +kernel
theorem dX2_runEnd_23 : decode cX2_runEnd 23 = .ok (.aload_n 0, 1) := by decide +kernel
theorem dX2_runEnd_24 : decode cX2_runEnd 24 = .ok (.getfield 9, 3) := by decide +kernel
theorem dX2_runEnd_27 : decode cX2_runEnd 27 = .ok (.iload_n 3, 1) := by decide +kernel
theorem dX2_runEnd_28 : decode cX2_runEnd 28 = .ok (.baload, 1) := by decide +kernel
theorem dX2_runEnd_29 : decode cX2_runEnd 29 = .ok (.iload_n 2, 1) := by decide +kernel
theorem dX2_runEnd_30 : decode cX2_runEnd 30 = .ok (.if_icmp .gt 9, 3) := by decide +kernel
theorem dX2_runEnd_33 : decode cX2_runEnd 33 = .ok (.iinc 3 1, 3) := by decide +kernel
theorem dX2_runEnd_36 : decode cX2_runEnd 36 = .ok (.goto (-31), 3) := by decide +kernel
theorem dX2_runEnd_39 : decode cX2_runEnd 39 = .ok (.iload_n 3, 1) := by decide +kernel
theorem dX2_runEnd_40 : decode cX2_runEnd 40 = .ok (.ireturn, 1) := by decide +kernel
theorem dX3_init_0 : decode cX3_init 0 = .ok (.aload_n 0, 1) := by decide +kernel
theorem dX3_init_1 : decode cX3_init 1 = .ok (.invokespecial 3, 3) := by decide +kernel
theorem dX3_init_4 : decode cX3_init 4 = .ok (.return_, 1) := by decide +kernel
theorem dX3_measure_0 : decode cX3_measure 0 = .ok (.aload_n 0, 1) := by decide +kernel
theorem dX3_measure_1 : decode cX3_measure 1 = .ok (.iload_n 3, 1) := by decide +kernel
theorem dX3_measure_2 : decode cX3_measure 2 = .ok (.putfield 9, 3) := by decide +kernel
theorem dX3_measure_5 : decode cX3_measure 5 = .ok (.aload_n 0, 1) := by decide +kernel
theorem dX3_measure_6 : decode cX3_measure 6 = .ok (.iconst 0, 1) := by decide +kernel
theorem dX3_measure_7 : decode cX3_measure 7 = .ok (.putfield 15, 3) := by decide +kernel
theorem dX3_measure_10 : decode cX3_measure 10 = .ok (.aload_n 0, 1) := by decide +kernel
theorem dX3_measure_11 : decode cX3_measure 11 = .ok (.iconst 0, 1) := by decide +kernel
theorem dX3_measure_12 : decode cX3_measure 12 = .ok (.putfield 18, 3) := by decide +kernel
theorem dX3_measure_15 : decode cX3_measure 15 = .ok (.aload_n 0, 1) := by decide +kernel
theorem dX3_measure_16 : decode cX3_measure 16 = .ok (.iconst 0, 1) := by decide +kernel
theorem dX3_measure_17 : decode cX3_measure 17 = .ok (.putfield 21, 3) := by decide +kernel
theorem dX3_measure_20 : decode cX3_measure 20 = .ok (.aload_n 0, 1) := by decide +kernel
theorem dX3_measure_21 : decode cX3_measure 21 = .ok (.iload_n 3, 1) := by decide +kernel
theorem dX3_measure_22 : decode cX3_measure 22 = .ok (.ifCond .lt 20, 3) := by decide +kernel
theorem dX3_measure_25 : decode cX3_measure 25 = .ok (.iload_n 3, 1) := by decide +kernel
theorem dX3_measure_26 : decode cX3_measure 26 = .ok (.aload_n 1, 1) := by decide +kernel
theorem dX3_measure_27 : decode cX3_measure 27 = .ok (.getfield 24, 3) := by decide +kernel
theorem dX3_measure_30 : decode cX3_measure 30 = .ok (.if_icmp .ge 12, 3) := by decide +kernel
theorem dX3_measure_33 : decode cX3_measure 33 = .ok (.aload_n 2, 1) := by decide +kernel
theorem dX3_measure_34 : decode cX3_measure 34 = .ok (.getfield 27, 3) := by decide +kernel
theorem dX3_measure_37 : decode cX3_measure 37 = .ok (.iload_n 3, 1) := by decide +kernel
theorem dX3_measure_38 : decode cX3_measure 38 = .ok (.iaload, 1) := by decide +kernel
theorem dX3_measure_39 : decode cX3_measure 39 = .ok (.goto 4, 3) := by decide +kernel
theorem dX3_measure_42 : decode cX3_measure 42 = .ok (.iconst 0, 1) := by decide +kernel
theorem dX3_measure_43 : decode cX3_measure 43 = .ok (.putfield 33, 3) := by decide +kernel
theorem dX3_measure_46 : decode cX3_measure 46 = .ok (.iconst 0, 1) := by decide +kernel
theorem dX3_measure_47 : decode cX3_measure 47 = .ok (.istore 4, 2) := by decide +kernel
theorem dX3_measure_49 : decode cX3_measure 49 = .ok (.iload_n 3, 1) := by decide +kernel
theorem dX3_measure_50 : decode cX3_measure 50 = .ok (.istore 5, 2) := by decide +kernel
theorem dX3_measure_52 : decode cX3_measure 52 = .ok (.iload 5, 2) := by decide +kernel
theorem dX3_measure_54 : decode cX3_measure 54 = .ok (.ifCond .lt 91, 3) := by decide +kernel
theorem dX3_measure_57 : decode cX3_measure 57 = .ok (.iload 5, 2) := by decide +kernel
theorem dX3_measure_59 : decode cX3_measure 59 = .ok (.aload_n 1, 1) := by decide +kernel
theorem dX3_measure_60 : decode cX3_measure 60 = .ok (.getfield 24, 3) := by decide +kernel
theorem dX3_measure_63 : decode cX3_measure 63 = .ok (.if_icmp .ge 82, 3) := by decide +kernel
theorem dX3_measure_66 : decode cX3_measure 66 = .ok (.aload_n 0, 1) := by decide +kernel
theorem dX3_measure_67 : decode cX3_measure 67 = .ok (.dup, 1) := by decide +kernel
theorem dX3_measure_68 : decode cX3_measure 68 = .ok (.getfield 15, 3) := by decide +kernel
theorem dX3_measure_71 : decode cX3_measure 71 = .ok (.iconst 1, 1) := by decide +kernel
theorem dX3_measure_72 : decode cX3_measure 72 = .ok (.iadd, 1) := by decide +kernel
theorem dX3_measure_73 : decode cX3_measure 73 = .ok (.putfield 15, 3) := by decide +kernel
theorem dX3_measure_76 : decode cX3_measure 76 = .ok (.aload_n 0, 1) := by decide +kernel
theorem dX3_measure_77 : decode cX3_measure 77 = .ok (.dup, 1) := by decide +kernel
theorem dX3_measure_78 : decode cX3_measure 78 = .ok (.getfield 18, 3) := by decide +kernel
theorem dX3_measure_81 : decode cX3_measure 81 = .ok (.aload_n 1, 1) := by decide +kernel
theorem dX3_measure_82 : decode cX3_measure 82 = .ok (.getfield 35, 3) := by decide +kernel
theorem dX3_measure_85 : decode cX3_measure 85 = .ok (.iload 5, 2) := by decide +kernel
theorem dX3_measure_87 : decode cX3_measure 87 = .ok (.iaload, 1) := by decide +kernel
theorem dX3_measure_88 : decode cX3_measure 88 = .ok (.iadd, 1) := by decide +kernel
theorem dX3_measure_89 : decode cX3_measure 89 = .ok (.putfield 18, 3) := by decide +kernel
theorem dX3_measure_92 : decode cX3_measure 92 = .ok (.aload_n 0, 1) := by decide +kernel
theorem dX3_measure_93 : decode cX3_measure 93 = .ok (.aload_n 0, 1) := by decide +kernel
theorem dX3_measure_94 : decode cX3_measure 94 = .ok (.getfield 21, 3) := by decide +kernel
theorem dX3_measure_97 : decode cX3_measure 97 = .ok (.iload 4, 2) := by decide +kernel
theorem dX3_measure_99 : decode cX3_measure 99 = .ok (.aload_n 1, 1) := by decide +kernel
theorem dX3_measure_100 : decode cX3_measure 100 = .ok (.getfield 38, 3) := by decide +kernel
theorem dX3_measure_103 : decode cX3_measure 103 = .ok (.iload 5, 2) := by decide +kernel
theorem dX3_measure_105 : decode cX3_measure 105 = .ok (.iaload, 1) := by decide +kernel
theorem dX3_measure_106 : decode cX3_measure 106 = .ok (.iadd, 1) := by decide +kernel
theorem dX3_measure_107 : decode cX3_measure 107 = .ok (.invokestatic 40, 3) := by decide +kernel
theorem dX3_measure_110 : decode cX3_measure 110 = .ok (.putfield 21, 3) := by decide +kernel
theorem dX3_measure_113 : decode cX3_measure 113 = .ok (.aload_n 2, 1) := by decide +kernel
theorem dX3_measure_114 : decode cX3_measure 114 = .ok (.getfield 46, 3) := by decide +kernel
theorem dX3_measure_117 : decode cX3_measure 117 = .ok (.iload 5, 2) := by decide +kernel
theorem dX3_measure_119 : decode cX3_measure 119 = .ok (.iaload, 1) := by decide +kernel
theorem dX3_measure_120 : decode cX3_measure 120 = .ok (.iconst (-1), 1) := by decide +kernel
theorem dX3_measure_121 : decode cX3_measure 121 = .ok (.if_icmp .ne 6, 3) := by decide +kernel
theorem dX3_measure_124 : decode cX3_measure 124 = .ok (.goto 21, 3) := by decide +kernel
theorem dX3_measure_127 : decode cX3_measure 127 = .ok (.iload 4, 2) := by decide +kernel
theorem dX3_measure_129 : decode cX3_measure 129 = .ok (.aload_n 2, 1) := by decide +kernel
theorem dX3_measure_130 : decode cX3_measure 130 = .ok (.getfield 46, 3) := by decide +kernel
theorem dX3_measure_133 : decode cX3_measure 133 = .ok (.iload 5, 2) := by decide +kernel
theorem dX3_measure_135 : decode cX3_measure 135 = .ok (.iaload, 1) := by decide +kernel
theorem dX3_measure_136 : decode cX3_measure 136 = .ok (.iadd, 1) := by decide +kernel
theorem dX3_measure_137 : decode cX3_measure 137 = .ok (.istore 4, 2) := by decide +kernel
theorem dX3_measure_139 : decode cX3_measure 139 = .ok (.iinc 5 1, 3) := by decide +kernel
theorem dX3_measure_142 : decode cX3_measure 142 = .ok (.goto (-90), 3) := by decide +kernel
theorem dX3_measure_145 : decode cX3_measure 145 = .ok (.return_, 1) := by decide +kernel
theorem dX4_init_0 : decode cX4_init 0 = .ok (.aload_n 0, 1) := by decide +kernel
theorem dX4_init_1 : decode cX4_init 1 = .ok (.invokespecial 3, 3) := by decide +kernel
theorem dX4_init_4 : decode cX4_init 4 = .ok (.aload_n 0, 1) := by decide +kernel
theorem dX4_init_5 : decode cX4_init 5 = .ok (.bipush 40, 2) := by decide +kernel
theorem dX4_init_7 : decode cX4_init 7 = .ok (.newarray .int, 2) := by decide +kernel
theorem dX4_init_9 : decode cX4_init 9 = .ok (.putfield 9, 3) := by decide +kernel
theorem dX4_init_12 : decode cX4_init 12 = .ok (.aload_n 0, 1) := by decide +kernel
theorem dX4_init_13 : decode cX4_init 13 = .ok (.bipush 40, 2) := by decide +kernel
theorem dX4_init_15 : decode cX4_init 15 = .ok (.newarray .int, 2) := by decide +kernel
theorem dX4_init_17 : decode cX4_init 17 = .ok (.putfield 15, 3) := by decide +kernel
theorem dX4_init_20 : decode cX4_init 20 = .ok (.aload_n 0, 1) := by decide +kernel
theorem dX4_init_21 : decode cX4_init 21 = .ok (.bipush 40, 2) := by decide +kernel
theorem dX4_init_23 : decode cX4_init 23 = .ok (.newarray .int, 2) := by decide +kernel
theorem dX4_init_25 : decode cX4_init 25 = .ok (.putfield 18, 3) := by decide +kernel
theorem dX4_init_28 : decode cX4_init 28 = .ok (.aload_n 0, 1) := by decide +kernel
theorem dX4_init_29 : decode cX4_init 29 = .ok (.bipush 40, 2) := by decide +kernel
theorem dX4_init_31 : decode cX4_init 31 = .ok (.newarray .int, 2) := by decide +kernel
theorem dX4_init_33 : decode cX4_init 33 = .ok (.putfield 21, 3) := by decide +kernel
theorem dX4_init_36 : decode cX4_init 36 = .ok (.aload_n 0, 1) := by decide +kernel
theorem dX4_init_37 : decode cX4_init 37 = .ok (.bipush 40, 2) := by decide +kernel
theorem dX4_init_39 : decode cX4_init 39 = .ok (.newarray .int, 2) := by decide +kernel
theorem dX4_init_41 : decode cX4_init 41 = .ok (.putfield 24, 3) := by decide +kernel
theorem dX4_init_44 : decode cX4_init 44 = .ok (.aload_n 0, 1) := by decide +kernel
theorem dX4_init_45 : decode cX4_init 45 = .ok (.bipush 40, 2) := by decide +kernel
theorem dX4_init_47 : decode cX4_init 47 = .ok (.newarray .int, 2) := by decide +kernel
theorem dX4_init_49 : decode cX4_init 49 = .ok (.putfield 27, 3) := by decide +kernel
theorem dX4_init_52 : decode cX4_init 52 = .ok (.aload_n 0, 1) := by decide +kernel
theorem dX4_init_53 : decode cX4_init 53 = .ok (.bipush 40, 2) := by decide +kernel
theorem dX4_init_55 : decode cX4_init 55 = .ok (.newarray .int, 2) := by decide +kernel
theorem dX4_init_57 : decode cX4_init 57 = .ok (.putfield 30, 3) := by decide +kernel
theorem dX4_init_60 : decode cX4_init 60 = .ok (.aload_n 0, 1) := by decide +kernel
theorem dX4_init_61 : decode cX4_init 61 = .ok (.iconst 4, 1) := by decide +kernel
theorem dX4_init_62 : decode cX4_init 62 = .ok (.newarray .int, 2) := by decide +kernel
theorem dX4_init_64 : decode cX4_init 64 = .ok (.putfield 33, 3) := by decide +kernel
theorem dX4_init_67 : decode cX4_init 67 = .ok (.return_, 1) := by decide +kernel
theorem dX4_clear_0 : decode cX4_clear 0 = .ok (.aload_n 0, 1) := by decide +kernel
theorem dX4_clear_1 : decode cX4_clear 1 = .ok (.iconst 0, 1) := by decide +kernel
theorem dX4_clear_2 : decode cX4_clear 2 = .ok (.putfield 36, 3) := by decide +kernel
theorem dX4_clear_5 : decode cX4_clear 5 = .ok (.aload_n 0, 1) := by decide +kernel
theorem dX4_clear_6 : decode cX4_clear 6 = .ok (.iconst 1, 1) := by decide +kernel
theorem dX4_clear_7 : decode cX4_clear 7 = .ok (.putfield 40, 3) := by decide +kernel
theorem dX4_clear_10 : decode cX4_clear 10 = .ok (.getstatic 44, 3) := by decide +kernel
theorem dX4_clear_13 : decode cX4_clear 13 = .ok (.iconst 0, 1) := by decide +kernel
theorem dX4_clear_14 : decode cX4_clear 14 = .ok (.aload_n 0, 1) := by decide +kernel
theorem dX4_clear_15 : decode cX4_clear 15 = .ok (.getfield 33, 3) := by decide +kernel
theorem dX4_clear_18 : decode cX4_clear 18 = .ok (.iconst 0, 1) := by decide +kernel
theorem dX4_clear_19 : decode cX4_clear 19 = .ok (.iconst 4, 1) := by decide +kernel
theorem dX4_clear_20 : decode cX4_clear 20 = .ok (.invokestatic 47, 3) := by decide +kernel
theorem dX4_clear_23 : decode cX4_clear 23 = .ok (.return_, 1) := by decide +kernel
theorem dX4_ink_0 : decode cX4_ink 0 = .ok (.iload_n 1, 1) := by decide +kernel
theorem dX4_ink_1 : decode cX4_ink 1 = .ok (.ifCond .lt 11, 3) := by decide +kernel
theorem dX4_ink_4 : decode cX4_ink 4 = .ok (.iload_n 1, 1) := by decide +kernel
theorem dX4_ink_5 : decode cX4_ink 5 = .ok (.aload_n 0, 1) := by decide +kernel
theorem dX4_ink_6 : decode cX4_ink 6 = .ok (.getfield 36, 3) := by decide +kernel
theorem dX4_ink_9 : decode cX4_ink 9 = .ok (.if_icmp .lt 5, 3) := by decide +kernel
theorem dX4_ink_12 : decode cX4_ink 12 = .ok (.iconst 0, 1) := by decide +kernel
theorem dX4_ink_13 : decode cX4_ink 13 = .ok (.ireturn, 1) := by decide +kernel
theorem dX4_ink_14 : decode cX4_ink 14 = .ok (.iload_n 2, 1) := by decide +kernel
theorem dX4_ink_15 : decode cX4_ink 15 = .ok (.ifCond .ne 12, 3) := by decide +kernel
theorem dX4_ink_18 : decode cX4_ink 18 = .ok (.aload_n 0, 1) := by decide +kernel
theorem dX4_ink_19 : decode cX4_ink 19 = .ok (.getfield 21, 3) := by decide +kernel
theorem dX4_ink_22 : decode cX4_ink 22 = .ok (.iload_n 1, 1) := by decide +kernel
theorem dX4_ink_23 : decode cX4_ink 23 = .ok (.iaload, 1) := by decide +kernel
theorem dX4_ink_24 : decode cX4_ink 24 = .ok (.goto 9, 3) := by decide +kernel
theorem dX4_ink_27 : decode cX4_ink 27 = .ok (.aload_n 0, 1) := by decide +kernel
theorem dX4_ink_28 : decode cX4_ink 28 = .ok (.getfield 24, 3) := by decide +kernel
theorem dX4_ink_31 : decode cX4_ink 31 = .ok (.iload_n 1, 1) := by decide +kernel
theorem dX4_ink_32 : decode cX4_ink 32 = .ok (.iaload, 1) := by decide +kernel
theorem dX4_ink_33 : decode cX4_ink 33 = .ok (.ireturn, 1) := by decide +kernel
theorem dX4_blankSides_0 : decode cX4_blankSides 0 = .ok (.iconst 0, 1) := by decide +kernel
theorem dX4_blankSides_1 : decode cX4_blankSides 1 = .ok (.istore_n 2, 1) := by decide +kernel
theorem dX4_blankSides_2 : decode cX4_blankSides 2 = .ok (.iconst 0, 1) := by decide +kernel
theorem dX4_blankSides_3 : decode cX4_blankSides 3 = .ok (.istore_n 3, 1) := by decide +kernel
theorem dX4_blankSides_4 : decode cX4_blankSides 4 = .ok (.iload_n 3, 1) := by decide +kernel
theorem dX4_blankSides_5 : decode cX4_blankSides 5 = .ok (.aload_n 0, 1) := by decide +kernel
theorem dX4_blankSides_6 : decode cX4_blankSides 6 = .ok (.getfield 36, 3) := by decide +kernel
theorem dX4_blankSides_9 : decode cX4_blankSides 9 = .ok (.if_icmp .ge 53, 3) := by decide +kernel
theorem dX4_blankSides_12 : decode cX4_blankSides 12 = .ok (.aload_n 0, 1) := by decide +kernel
theorem dX4_blankSides_13 : decode cX4_blankSides 13 = .ok (.getfield 27, 3) := by decide +kernel
theorem dX4_blankSides_16 : decode cX4_blankSides 16 = .ok (.iload_n 3, 1) := by decide +kernel
theorem dX4_blankSides_17 : decode cX4_blankSides 17 = .ok (.iaload, 1) := by decide +kernel
theorem dX4_blankSides_18 : decode cX4_blankSides 18 = .ok (.iconst (-1), 1) := by decide +kernel
theorem dX4_blankSides_19 : decode cX4_blankSides 19 = .ok (.if_icmp .ne 37, 3) := by decide +kernel
theorem dX4_blankSides_22 : decode cX4_blankSides 22 = .ok (.iload_n 2, 1) := by decide +kernel
theorem dX4_blankSides_23 : decode cX4_blankSides 23 = .ok (.aload_n 0, 1) := by decide +kernel
theorem dX4_blankSides_24 : decode cX4_blankSides 24 = .ok (.getfield 21, 3) := by decide +kernel
theorem dX4_blankSides_27 : decode cX4_blankSides 27 = .ok (.iload_n 3, 1) := by decide +kernel
theorem dX4_blankSides_28 : decode cX4_blankSides 28 = .ok (.iaload, 1) := by decide +kernel
theorem dX4_blankSides_29 : decode cX4_blankSides 29 = .ok (.iload_n 1, 1) := by decide +kernel
theorem dX4_blankSides_30 : decode cX4_blankSides 30 = .ok (.if_icmp .ge 7, 3) := by decide +kernel
theorem dX4_blankSides_33 : decode cX4_blankSides 33 = .ok (.iconst 1, 1) := by decide +kernel
theorem dX4_blankSides_34 : decode cX4_blankSides 34 = .ok (.goto 4, 3) := by decide +kernel
theorem dX4_blankSides_37 : decode cX4_blankSides 37 = .ok (.iconst 0, 1) := by decide +kernel
theorem dX4_blankSides_38 : decode cX4_blankSides 38 = .ok (.aload_n 0, 1) := by decide +kernel
theorem dX4_blankSides_39 : decode cX4_blankSides 39 = .ok (.getfield 24, 3) := by decide +kernel
theorem dX4_blankSides_42 : decode cX4_blankSides 42 = .ok (.iload_n 3, 1) := by decide +kernel
theorem dX4_blankSides_43 : decode cX4_blankSides 43 = .ok (.iaload, 1) := by decide +kernel
theorem dX4_blankSides_44 : decode cX4_blankSides 44 = .ok (.iload_n 1, 1) := by decide +kernel
theorem dX4_blankSides_45 : decode cX4_blankSides 45 = .ok (.if_icmp .ge 7, 3) := by decide +kernel
theorem dX4_blankSides_48 : decode cX4_blankSides 48 = .ok (.iconst 1, 1) := by decide +kernel
theorem dX4_blankSides_49 : decode cX4_blankSides 49 = .ok (.goto 4, 3) := by decide +kernel
theorem dX4_blankSides_52 : decode cX4_blankSides 52 = .ok (.iconst 0, 1) := by decide +kernel
theorem dX4_blankSides_53 : decode cX4_blankSides 53 = .ok (.iadd, 1) := by decide +kernel
theorem dX4_blankSides_54 : decode cX4_blankSides 54 = .ok (.iadd, 1) := by decide +kernel
theorem dX4_blankSides_55 : decode cX4_blankSides 55 = .ok (.istore_n 2, 1) := by decide +kernel
theorem dX4_blankSides_56 : decode cX4_blankSides 56 = .ok (.iinc 3 1, 3) := by decide +kernel
theorem dX4_blankSides_59 : decode cX4_blankSides 59 = .ok (.goto (-55), 3) := by decide +kernel
theorem dX4_blankSides_62 : decode cX4_blankSides 62 = .ok (.iload_n 2, 1) := by decide +kernel
theorem dX4_blankSides_63 : decode cX4_blankSides 63 = .ok (.ireturn, 1) := by decide +kernel
theorem dX4_repeatLast_0 : decode cX4_repeatLast 0 = .ok (.iconst 0, 1) := by decide +kernel
theorem dX4_repeatLast_1 : decode cX4_repeatLast 1 = .ok (.istore_n 2, 1) := by decide +kernel
theorem dX4_repeatLast_2 : decode cX4_repeatLast 2 = .ok (.iload_n 2, 1) := by decide +kernel
theorem dX4_repeatLast_3 : decode cX4_repeatLast 3 = .ok (.iload_n 1, 1) := by decide +kernel
theorem dX4_repeatLast_4 : decode cX4_repeatLast 4 = .ok (.if_icmp .ge 175, 3) := by decide +kernel
theorem dX4_repeatLast_7 : decode cX4_repeatLast 7 = .ok (.aload_n 0, 1) := by decide +kernel
theorem dX4_repeatLast_8 : decode cX4_repeatLast 8 = .ok (.getfield 36, 3) := by decide +kernel
theorem dX4_repeatLast_11 : decode cX4_repeatLast 11 = .ok (.ifCond .le 168, 3) := by decide +kernel
theorem dX4_repeatLast_14 : decode cX4_repeatLast 14 = .ok (.aload_n 0, 1) := by decide +kernel
theorem dX4_repeatLast_15 : decode cX4_repeatLast 15 = .ok (.getfield 36, 3) := by decide +kernel
theorem dX4_repeatLast_18 : decode cX4_repeatLast 18 = .ok (.bipush 40, 2) := by decide +kernel
theorem dX4_repeatLast_20 : decode cX4_repeatLast 20 = .ok (.if_icmp .ge 159, 3) := by decide +kernel
theorem dX4_repeatLast_23 : decode cX4_repeatLast 23 = .ok (.aload_n 0, 1) := by decide +kernel
theorem dX4_repeatLast_24 : decode cX4_repeatLast 24 = .ok (.getfield 9, 3) := by decide +kernel
theorem dX4_repeatLast_27 : decode cX4_repeatLast 27 = .ok (.aload_n 0, 1) := by decide +kernel
theorem dX4_repeatLast_28 : decode cX4_repeatLast 28 = .ok (.getfield 36, 3) := by decide +kernel
theorem dX4_repeatLast_31 : decode cX4_repeatLast 31 = .ok (.aload_n 0, 1) := by decide +kernel
theorem dX4_repeatLast_32 : decode cX4_repeatLast 32 = .ok (.getfield 9, 3) := by decide +kernel
theorem dX4_repeatLast_35 : decode cX4_repeatLast 35 = .ok (.aload_n 0, 1) := by decide +kernel
theorem dX4_repeatLast_36 : decode cX4_repeatLast 36 = .ok (.getfield 36, 3) := by decide +kernel
theorem dX4_repeatLast_39 : decode cX4_repeatLast 39 = .ok (.iconst 1, 1) := by decide +kernel
theorem dX4_repeatLast_40 : decode cX4_repeatLast 40 = .ok (.isub, 1) := by decide +kernel
theorem dX4_repeatLast_41 : decode cX4_repeatLast 41 = .ok (.iaload, 1) := by decide +kernel
theorem dX4_repeatLast_42 : decode cX4_repeatLast 42 = .ok (.iastore, 1) := by decide +kernel
theorem dX4_repeatLast_43 : decode cX4_repeatLast 43 = .ok (.aload_n 0, 1) := by decide +kernel
theorem dX4_repeatLast_44 : decode cX4_repeatLast 44 = .ok (.getfield 15, 3) := by decide +kernel
theorem dX4_repeatLast_47 : decode cX4_repeatLast 47 = .ok (.aload_n 0, 1) := by decide +kernel
theorem dX4_repeatLast_48 : decode cX4_repeatLast 48 = .ok (.getfield 36, 3) := by decide +kernel
theorem dX4_repeatLast_51 : decode cX4_repeatLast 51 = .ok (.aload_n 0, 1) := by decide +kernel
theorem dX4_repeatLast_52 : decode cX4_repeatLast 52 = .ok (.getfield 15, 3) := by decide +kernel
theorem dX4_repeatLast_55 : decode cX4_repeatLast 55 = .ok (.aload_n 0, 1) := by decide +kernel
theorem dX4_repeatLast_56 : decode cX4_repeatLast 56 = .ok (.getfield 36, 3) := by decide +kernel
theorem dX4_repeatLast_59 : decode cX4_repeatLast 59 = .ok (.iconst 1, 1) := by decide +kernel
theorem dX4_repeatLast_60 : decode cX4_repeatLast 60 = .ok (.isub, 1) := by decide +kernel
theorem dX4_repeatLast_61 : decode cX4_repeatLast 61 = .ok (.iaload, 1) := by decide +kernel
theorem dX4_repeatLast_62 : decode cX4_repeatLast 62 = .ok (.iastore, 1) := by decide +kernel
theorem dX4_repeatLast_63 : decode cX4_repeatLast 63 = .ok (.aload_n 0, 1) := by decide +kernel
theorem dX4_repeatLast_64 : decode cX4_repeatLast 64 = .ok (.getfield 18, 3) := by decide +kernel
theorem dX4_repeatLast_67 : decode cX4_repeatLast 67 = .ok (.aload_n 0, 1) := by decide +kernel
theorem dX4_repeatLast_68 : decode cX4_repeatLast 68 = .ok (.getfield 36, 3) := by decide +kernel
theorem dX4_repeatLast_71 : decode cX4_repeatLast 71 = .ok (.aload_n 0, 1) := by decide +kernel
theorem dX4_repeatLast_72 : decode cX4_repeatLast 72 = .ok (.getfield 18, 3) := by decide +kernel
theorem dX4_repeatLast_75 : decode cX4_repeatLast 75 = .ok (.aload_n 0, 1) := by decide +kernel
theorem dX4_repeatLast_76 : decode cX4_repeatLast 76 = .ok (.getfield 36, 3) := by decide +kernel
theorem dX4_repeatLast_79 : decode cX4_repeatLast 79 = .ok (.iconst 1, 1) := by decide +kernel
theorem dX4_repeatLast_80 : decode cX4_repeatLast 80 = .ok (.isub, 1) := by decide +kernel
theorem dX4_repeatLast_81 : decode cX4_repeatLast 81 = .ok (.iaload, 1) := by decide +kernel
theorem dX4_repeatLast_82 : decode cX4_repeatLast 82 = .ok (.iastore, 1) := by decide +kernel
theorem dX4_repeatLast_83 : decode cX4_repeatLast 83 = .ok (.aload_n 0, 1) := by decide +kernel
theorem dX4_repeatLast_84 : decode cX4_repeatLast 84 = .ok (.getfield 21, 3) := by decide +kernel
theorem dX4_repeatLast_87 : decode cX4_repeatLast 87 = .ok (.aload_n 0, 1) := by decide +kernel
theorem dX4_repeatLast_88 : decode cX4_repeatLast 88 = .ok (.getfield 36, 3) := by decide +kernel
theorem dX4_repeatLast_91 : decode cX4_repeatLast 91 = .ok (.aload_n 0, 1) := by decide +kernel
theorem dX4_repeatLast_92 : decode cX4_repeatLast 92 = .ok (.getfield 21, 3) := by decide +kernel
theorem dX4_repeatLast_95 : decode cX4_repeatLast 95 = .ok (.aload_n 0, 1) := by decide +kernel
theorem dX4_repeatLast_96 : decode cX4_repeatLast 96 = .ok (.getfield 36, 3) := by decide +kernel
theorem dX4_repeatLast_99 : decode cX4_repeatLast 99 = .ok (.iconst 1, 1) := by decide +kernel
theorem dX4_repeatLast_100 : decode cX4_repeatLast 100 = .ok (.isub, 1) := by decide +kernel
theorem dX4_repeatLast_101 : decode cX4_repeatLast 101 = .ok (.iaload, 1) := by decide +kernel
theorem dX4_repeatLast_102 : decode cX4_repeatLast 102 = .ok (.iastore, 1) := by decide +kernel
theorem dX4_repeatLast_103 : decode cX4_repeatLast 103 = .ok (.aload_n 0, 1) := by decide +kernel
theorem dX4_repeatLast_104 : decode cX4_repeatLast 104 = .ok (.getfield 24, 3) := by decide +kernel
theorem dX4_repeatLast_107 : decode cX4_repeatLast 107 = .ok (.aload_n 0, 1) := by decide +kernel
theorem dX4_repeatLast_108 : decode cX4_repeatLast 108 = .ok (.getfield 36, 3) := by decide +kernel
theorem dX4_repeatLast_111 : decode cX4_repeatLast 111 = .ok (.aload_n 0, 1) := by decide +kernel
theorem dX4_repeatLast_112 : decode cX4_repeatLast 112 = .ok (.getfield 24, 3) := by decide +kernel
theorem dX4_repeatLast_115 : decode cX4_repeatLast 115 = .ok (.aload_n 0, 1) := by decide +kernel
theorem dX4_repeatLast_116 : decode cX4_repeatLast 116 = .ok (.getfield 36, 3) := by decide +kernel
theorem dX4_repeatLast_119 : decode cX4_repeatLast 119 = .ok (.iconst 1, 1) := by decide +kernel
theorem dX4_repeatLast_120 : decode cX4_repeatLast 120 = .ok (.isub, 1) := by decide +kernel
theorem dX4_repeatLast_121 : decode cX4_repeatLast 121 = .ok (.iaload, 1) := by decide +kernel
theorem dX4_repeatLast_122 : decode cX4_repeatLast 122 = .ok (.iastore, 1) := by decide +kernel
theorem dX4_repeatLast_123 : decode cX4_repeatLast 123 = .ok (.aload_n 0, 1) := by decide +kernel
theorem dX4_repeatLast_124 : decode cX4_repeatLast 124 = .ok (.getfield 27, 3) := by decide +kernel
theorem dX4_repeatLast_127 : decode cX4_repeatLast 127 = .ok (.aload_n 0, 1) := by decide +kernel
theorem dX4_repeatLast_128 : decode cX4_repeatLast 128 = .ok (.getfield 36, 3) := by decide +kernel
theorem dX4_repeatLast_131 : decode cX4_repeatLast 131 = .ok (.aload_n 0, 1) := by decide +kernel
theorem dX4_repeatLast_132 : decode cX4_repeatLast 132 = .ok (.getfield 27, 3) := by decide +kernel
theorem dX4_repeatLast_135 : decode cX4_repeatLast 135 = .ok (.aload_n 0, 1) := by decide +kernel
theorem dX4_repeatLast_136 : decode cX4_repeatLast 136 = .ok (.getfield 36, 3) := by decide +kernel
theorem dX4_repeatLast_139 : decode cX4_repeatLast 139 = .ok (.iconst 1, 1) := by decide +kernel
theorem dX4_repeatLast_140 : decode cX4_repeatLast 140 = .ok (.isub, 1) := by decide +kernel
theorem dX4_repeatLast_141 : decode cX4_repeatLast 141 = .ok (.iaload, 1) := by decide +kernel
theorem dX4_repeatLast_142 : decode cX4_repeatLast 142 = .ok (.iastore, 1) := by decide +kernel
theorem dX4_repeatLast_143 : decode cX4_repeatLast 143 = .ok (.aload_n 0, 1) := by decide +kernel
theorem dX4_repeatLast_144 : decode cX4_repeatLast 144 = .ok (.getfield 30, 3) := by decide +kernel
theorem dX4_repeatLast_147 : decode cX4_repeatLast 147 = .ok (.aload_n 0, 1) := by decide +kernel
theorem dX4_repeatLast_148 : decode cX4_repeatLast 148 = .ok (.getfield 36, 3) := by decide +kernel
theorem dX4_repeatLast_151 : decode cX4_repeatLast 151 = .ok (.aload_n 0, 1) := by decide +kernel
theorem dX4_repeatLast_152 : decode cX4_repeatLast 152 = .ok (.getfield 30, 3) := by decide +kernel
theorem dX4_repeatLast_155 : decode cX4_repeatLast 155 = .ok (.aload_n 0, 1) := by decide +kernel
theorem dX4_repeatLast_156 : decode cX4_repeatLast 156 = .ok (.getfield 36, 3) := by decide +kernel
theorem dX4_repeatLast_159 : decode cX4_repeatLast 159 = .ok (.iconst 1, 1) := by decide +kernel
theorem dX4_repeatLast_160 : decode cX4_repeatLast 160 = .ok (.isub, 1) := by decide +kernel
theorem dX4_repeatLast_161 : decode cX4_repeatLast 161 = .ok (.iaload, 1) := by decide +kernel
theorem dX4_repeatLast_162 : decode cX4_repeatLast 162 = .ok (.iastore, 1) := by decide +kernel
theorem dX4_repeatLast_163 : decode cX4_repeatLast 163 = .ok (.aload_n 0, 1) := by decide +kernel
theorem dX4_repeatLast_164 : decode cX4_repeatLast 164 = .ok (.dup, 1) := by decide +kernel
theorem dX4_repeatLast_165 : decode cX4_repeatLast 165 = .ok (.getfield 36, 3) := by decide +kernel
theorem dX4_repeatLast_168 : decode cX4_repeatLast 168 = .ok (.iconst 1, 1) := by decide +kernel
theorem dX4_repeatLast_169 : decode cX4_repeatLast 169 = .ok (.iadd, 1) := by decide +kernel
theorem dX4_repeatLast_170 : decode cX4_repeatLast 170 = .ok (.putfield 36, 3) := by decide +kernel
theorem dX4_repeatLast_173 : decode cX4_repeatLast 173 = .ok (.iinc 2 1, 3) := by decide +kernel
theorem dX4_repeatLast_176 : decode cX4_repeatLast 176 = .ok (.goto (-174), 3) := by decide +kernel
theorem dX4_repeatLast_179 : decode cX4_repeatLast 179 = .ok (.return_, 1) := by decide +kernel
theorem dX5_init_0 : decode cX5_init 0 = .ok (.aload_n 0, 1) := by decide +kernel
theorem dX5_init_1 : decode cX5_init 1 = .ok (.invokespecial 3, 3) := by decide +kernel
theorem dX5_init_4 : decode cX5_init 4 = .ok (.aload_n 0, 1) := by decide +kernel
theorem dX5_init_5 : decode cX5_init 5 = .ok (.bipush 40, 2) := by decide +kernel
theorem dX5_init_7 : decode cX5_init 7 = .ok (.newarray .int, 2) := by decide +kernel
theorem dX5_init_9 : decode cX5_init 9 = .ok (.putfield 9, 3) := by decide +kernel
theorem dX5_init_12 : decode cX5_init 12 = .ok (.aload_n 0, 1) := by decide +kernel
theorem dX5_init_13 : decode cX5_init 13 = .ok (.bipush 40, 2) := by decide +kernel
theorem dX5_init_15 : decode cX5_init 15 = .ok (.newarray .int, 2) := by decide +kernel
theorem dX5_init_17 : decode cX5_init 17 = .ok (.putfield 15, 3) := by decide +kernel
theorem dX5_init_20 : decode cX5_init 20 = .ok (.aload_n 0, 1) := by decide +kernel
theorem dX5_init_21 : decode cX5_init 21 = .ok (.bipush 40, 2) := by decide +kernel
theorem dX5_init_23 : decode cX5_init 23 = .ok (.newarray .int, 2) := by decide +kernel
theorem dX5_init_25 : decode cX5_init 25 = .ok (.putfield 18, 3) := by decide +kernel
theorem dX5_init_28 : decode cX5_init 28 = .ok (.aload_n 0, 1) := by decide +kernel
theorem dX5_init_29 : decode cX5_init 29 = .ok (.bipush 40, 2) := by decide +kernel
theorem dX5_init_31 : decode cX5_init 31 = .ok (.newarray .int, 2) := by decide +kernel
theorem dX5_init_33 : decode cX5_init 33 = .ok (.putfield 21, 3) := by decide +kernel
theorem dX5_init_36 : decode cX5_init 36 = .ok (.aload_n 0, 1) := by decide +kernel
theorem dX5_init_37 : decode cX5_init 37 = .ok (.bipush 80, 2) := by decide +kernel
theorem dX5_init_39 : decode cX5_init 39 = .ok (.newarray .int, 2) := by decide +kernel
theorem dX5_init_41 : decode cX5_init 41 = .ok (.putfield 24, 3) := by decide +kernel
theorem dX5_init_44 : decode cX5_init 44 = .ok (.aload_n 0, 1) := by decide +kernel
theorem dX5_init_45 : decode cX5_init 45 = .ok (.bipush 80, 2) := by decide +kernel
theorem dX5_init_47 : decode cX5_init 47 = .ok (.newarray .int, 2) := by decide +kernel
theorem dX5_init_49 : decode cX5_init 49 = .ok (.putfield 27, 3) := by decide +kernel
theorem dX5_init_52 : decode cX5_init 52 = .ok (.aload_n 0, 1) := by decide +kernel
theorem dX5_init_53 : decode cX5_init 53 = .ok (.bipush 80, 2) := by decide +kernel
theorem dX5_init_55 : decode cX5_init 55 = .ok (.newarray .int, 2) := by decide +kernel
theorem dX5_init_57 : decode cX5_init 57 = .ok (.putfield 30, 3) := by decide +kernel
theorem dX5_init_60 : decode cX5_init 60 = .ok (.aload_n 0, 1) := by decide +kernel
theorem dX5_init_61 : decode cX5_init 61 = .ok (.sipush 139, 3) := by decide +kernel
theorem dX5_init_64 : decode cX5_init 64 = .ok (.newarray .int, 2) := by decide +kernel
theorem dX5_init_66 : decode cX5_init 66 = .ok (.putfield 33, 3) := by decide +kernel
theorem dX5_init_69 : decode cX5_init 69 = .ok (.aload_n 0, 1) := by decide +kernel
theorem dX5_init_70 : decode cX5_init 70 = .ok (.iconst 4, 1) := by decide +kernel
theorem dX5_init_71 : decode cX5_init 71 = .ok (.newarray .int, 2) := by decide +kernel
theorem dX5_init_73 : decode cX5_init 73 = .ok (.putfield 36, 3) := by decide +kernel
theorem dX5_init_76 : decode cX5_init 76 = .ok (.aload_n 0, 1) := by decide +kernel
theorem dX5_init_77 : decode cX5_init 77 = .ok (.bipush 9, 2) := by decide +kernel
theorem dX5_init_79 : decode cX5_init 79 = .ok (.newarray .int, 2) := by decide +kernel
theorem dX5_init_81 : decode cX5_init 81 = .ok (.putfield 39, 3) := by decide +kernel
theorem dX5_init_84 : decode cX5_init 84 = .ok (.aload_n 0, 1) := by decide +kernel
theorem dX5_init_85 : decode cX5_init 85 = .ok (.new 42, 3) := by decide +kernel
theorem dX5_init_88 : decode cX5_init 88 = .ok (.dup, 1) := by decide +kernel
theorem dX5_init_89 : decode cX5_init 89 = .ok (.invokespecial 44, 3) := by decide +kernel
theorem dX5_init_92 : decode cX5_init 92 = .ok (.putfield 45, 3) := by decide +kernel
theorem dX5_init_95 : decode cX5_init 95 = .ok (.return_, 1) := by decide +kernel
theorem dX5_begin_0 : decode cX5_begin 0 = .ok (.iconst 0, 1) := by decide +kernel
theorem dX5_begin_1 : decode cX5_begin 1 = .ok (.istore_n 2, 1) := by decide +kernel
theorem dX5_begin_2 : decode cX5_begin 2 = .ok (.iload_n 2, 1) := by decide +kernel
theorem dX5_begin_3 : decode cX5_begin 3 = .ok (.bipush 40, 2) := by decide +kernel
theorem dX5_begin_5 : decode cX5_begin 5 = .ok (.if_icmp .ge 23, 3) := by decide +kernel
theorem dX5_begin_8 : decode cX5_begin 8 = .ok (.aload_n 0, 1) := by decide +kernel
theorem dX5_begin_9 : decode cX5_begin 9 = .ok (.getfield 9, 3) := by decide +kernel
theorem dX5_begin_12 : decode cX5_begin 12 = .ok (.iload_n 2, 1) := by decide +kernel
theorem dX5_begin_13 : decode cX5_begin 13 = .ok (.iconst 0, 1) := by decide +kernel
theorem dX5_begin_14 : decode cX5_begin 14 = .ok (.iastore, 1) := by decide +kernel
theorem dX5_begin_15 : decode cX5_begin 15 = .ok (.aload_n 0, 1) := by decide +kernel
theorem dX5_begin_16 : decode cX5_begin 16 = .ok (.getfield 21, 3) := by decide +kernel
theorem dX5_begin_19 : decode cX5_begin 19 = .ok (.iload_n 2, 1) := by decide +kernel
theorem dX5_begin_20 : decode cX5_begin 20 = .ok (.iconst 0, 1) := by decide +kernel
theorem dX5_begin_21 : decode cX5_begin 21 = .ok (.iastore, 1) := by decide +kernel
theorem dX5_begin_22 : decode cX5_begin 22 = .ok (.iinc 2 1, 3) := by decide +kernel
theorem dX5_begin_25 : decode cX5_begin 25 = .ok (.goto (-23), 3) := by decide +kernel
theorem dX5_begin_28 : decode cX5_begin 28 = .ok (.aload_n 1, 1) := by decide +kernel
theorem dX5_begin_29 : decode cX5_begin 29 = .ok (.getfield 49, 3) := by decide +kernel
theorem dX5_begin_32 : decode cX5_begin 32 = .ok (.iconst 0, 1) := by decide +kernel
theorem dX5_begin_33 : decode cX5_begin 33 = .ok (.aload_n 0, 1) := by decide +kernel
theorem dX5_begin_34 : decode cX5_begin 34 = .ok (.getfield 15, 3) := by decide +kernel
theorem dX5_begin_37 : decode cX5_begin 37 = .ok (.iconst 0, 1) := by decide +kernel
theorem dX5_begin_38 : decode cX5_begin 38 = .ok (.bipush 40, 2) := by decide +kernel
theorem dX5_begin_40 : decode cX5_begin 40 = .ok (.invokestatic 52, 3) := by decide +kernel
theorem dX5_begin_43 : decode cX5_begin 43 = .ok (.aload_n 1, 1) := by decide +kernel
theorem dX5_begin_44 : decode cX5_begin 44 = .ok (.getfield 58, 3) := by decide +kernel
theorem dX5_begin_47 : decode cX5_begin 47 = .ok (.iconst 0, 1) := by decide +kernel
theorem dX5_begin_48 : decode cX5_begin 48 = .ok (.aload_n 0, 1) := by decide +kernel
theorem dX5_begin_49 : decode cX5_begin 49 = .ok (.getfield 18, 3) := by decide +kernel
theorem dX5_begin_52 : decode cX5_begin 52 = .ok (.iconst 0, 1) := by decide +kernel
theorem dX5_begin_53 : decode cX5_begin 53 = .ok (.bipush 40, 2) := by decide +kernel
theorem dX5_begin_55 : decode cX5_begin 55 = .ok (.invokestatic 52, 3) := by decide +kernel
theorem dX5_begin_58 : decode cX5_begin 58 = .ok (.aload_n 1, 1) := by decide +kernel
theorem dX5_begin_59 : decode cX5_begin 59 = .ok (.getfield 59, 3) := by decide +kernel
theorem dX5_begin_62 : decode cX5_begin 62 = .ok (.iconst 0, 1) := by decide +kernel
theorem dX5_begin_63 : decode cX5_begin 63 = .ok (.aload_n 0, 1) := by decide +kernel
theorem dX5_begin_64 : decode cX5_begin 64 = .ok (.getfield 36, 3) := by decide +kernel
theorem dX5_begin_67 : decode cX5_begin 67 = .ok (.iconst 0, 1) := by decide +kernel
theorem dX5_begin_68 : decode cX5_begin 68 = .ok (.iconst 4, 1) := by decide +kernel
theorem dX5_begin_69 : decode cX5_begin 69 = .ok (.invokestatic 52, 3) := by decide +kernel
theorem dX5_begin_72 : decode cX5_begin 72 = .ok (.iconst 0, 1) := by decide +kernel
theorem dX5_begin_73 : decode cX5_begin 73 = .ok (.istore_n 2, 1) := by decide +kernel
theorem dX5_begin_74 : decode cX5_begin 74 = .ok (.iload_n 2, 1) := by decide +kernel
theorem dX5_begin_75 : decode cX5_begin 75 = .ok (.bipush 9, 2) := by decide +kernel
theorem dX5_begin_77 : decode cX5_begin 77 = .ok (.if_icmp .ge 16, 3) := by decide +kernel
theorem dX5_begin_80 : decode cX5_begin 80 = .ok (.aload_n 0, 1) := by decide +kernel
theorem dX5_begin_81 : decode cX5_begin 81 = .ok (.getfield 39, 3) := by decide +kernel
theorem dX5_begin_84 : decode cX5_begin 84 = .ok (.iload_n 2, 1) := by decide +kernel
theorem dX5_begin_85 : decode cX5_begin 85 = .ok (.iconst 0, 1) := by decide +kernel
theorem dX5_begin_86 : decode cX5_begin 86 = .ok (.iastore, 1) := by decide +kernel
theorem dX5_begin_87 : decode cX5_begin 87 = .ok (.iinc 2 1, 3) := by decide +kernel
theorem dX5_begin_90 : decode cX5_begin 90 = .ok (.goto (-16), 3) := by decide +kernel
theorem dX5_begin_93 : decode cX5_begin 93 = .ok (.aload_n 0, 1) := by decide +kernel
theorem dX5_begin_94 : decode cX5_begin 94 = .ok (.getfield 45, 3) := by decide +kernel
theorem dX5_begin_97 : decode cX5_begin 97 = .ok (.invokevirtual 60, 3) := by decide +kernel
theorem dX5_begin_100 : decode cX5_begin 100 = .ok (.aload_n 0, 1) := by decide +kernel
theorem dX5_begin_101 : decode cX5_begin 101 = .ok (.iconst 0, 1) := by decide +kernel
theorem dX5_begin_102 : decode cX5_begin 102 = .ok (.putfield 63, 3) := by decide +kernel
theorem dX5_begin_105 : decode cX5_begin 105 = .ok (.aload_n 0, 1) := by decide +kernel
theorem dX5_begin_106 : decode cX5_begin 106 = .ok (.iconst 0, 1) := by decide +kernel
theorem dX5_begin_107 : decode cX5_begin 107 = .ok (.putfield 67, 3) := by decide +kernel
theorem dX5_begin_110 : decode cX5_begin 110 = .ok (.aload_n 0, 1) := by decide +kernel
theorem dX5_begin_111 : decode cX5_begin 111 = .ok (.iconst 0, 1) := by decide +kernel
theorem dX5_begin_112 : decode cX5_begin 112 = .ok (.putfield 70, 3) := by decide +kernel
theorem dX5_begin_115 : decode cX5_begin 115 = .ok (.aload_n 0, 1) := by decide +kernel
theorem dX5_begin_116 : decode cX5_begin 116 = .ok (.iconst 0, 1) := by decide +kernel
theorem dX5_begin_117 : decode cX5_begin 117 = .ok (.putfield 73, 3) := by decide +kernel
theorem dX5_begin_120 : decode cX5_begin 120 = .ok (.aload_n 0, 1) := by decide +kernel
theorem dX5_begin_121 : decode cX5_begin 121 = .ok (.iconst 0, 1) := by decide +kernel
theorem dX5_begin_122 : decode cX5_begin 122 = .ok (.putfield 76, 3) := by decide +kernel
theorem dX5_begin_125 : decode cX5_begin 125 = .ok (.aload_n 0, 1) := by decide +kernel
theorem dX5_begin_126 : decode cX5_begin 126 = .ok (.aload_n 1, 1) := by decide +kernel
theorem dX5_begin_127 : decode cX5_begin 127 = .ok (.getfield 79, 3) := by decide +kernel
theorem dX5_begin_130 : decode cX5_begin 130 = .ok (.putfield 83, 3) := by decide +kernel
theorem dX5_begin_133 : decode cX5_begin 133 = .ok (.aload_n 0, 1) := by decide +kernel
theorem dX5_begin_134 : decode cX5_begin 134 = .ok (.iconst (-1), 1) := by decide +kernel
theorem dX5_begin_135 : decode cX5_begin 135 = .ok (.invokevirtual 84, 3) := by decide +kernel
theorem dX5_begin_138 : decode cX5_begin 138 = .ok (.return_, 1) := by decide +kernel
theorem dX5_copyFrom_0 : decode cX5_copyFrom 0 = .ok (.aload_n 1, 1) := by decide +kernel
theorem dX5_copyFrom_1 : decode cX5_copyFrom 1 = .ok (.getfield 9, 3) := by decide +kernel
theorem dX5_copyFrom_4 : decode cX5_copyFrom 4 = .ok (.iconst 0, 1) := by decide +kernel
theorem dX5_copyFrom_5 : decode cX5_copyFrom 5 = .ok (.aload_n 0, 1) := by decide +kernel
theorem dX5_copyFrom_6 : decode cX5_copyFrom 6 = .ok (.getfield 9, 3) := by decide +kernel
theorem dX5_copyFrom_9 : decode cX5_copyFrom 9 = .ok (.iconst 0, 1) := by decide +kernel
theorem dX5_copyFrom_10 : decode cX5_copyFrom 10 = .ok (.bipush 40, 2) := by decide +kernel
theorem dX5_copyFrom_12 : decode cX5_copyFrom 12 = .ok (.invokestatic 52, 3) := by decide +kernel
theorem dX5_copyFrom_15 : decode cX5_copyFrom 15 = .ok (.aload_n 1, 1) := by decide +kernel
theorem dX5_copyFrom_16 : decode cX5_copyFrom 16 = .ok (.getfield 15, 3) := by decide +kernel
theorem dX5_copyFrom_19 : decode cX5_copyFrom 19 = .ok (.iconst 0, 1) := by decide +kernel
theorem dX5_copyFrom_20 : decode cX5_copyFrom 20 = .ok (.aload_n 0, 1) := by decide +kernel
theorem dX5_copyFrom_21 : decode cX5_copyFrom 21 = .ok (.getfield 15, 3) := by decide +kernel
theorem dX5_copyFrom_24 : decode cX5_copyFrom 24 = .ok (.iconst 0, 1) := by decide +kernel
theorem dX5_copyFrom_25 : decode cX5_copyFrom 25 = .ok (.bipush 40, 2) := by decide +kernel
theorem dX5_copyFrom_27 : decode cX5_copyFrom 27 = .ok (.invokestatic 52, 3) := by decide +kernel
theorem dX5_copyFrom_30 : decode cX5_copyFrom 30 = .ok (.aload_n 1, 1) := by decide +kernel
theorem dX5_copyFrom_31 : decode cX5_copyFrom 31 = .ok (.getfield 18, 3) := by decide +kernel
theorem dX5_copyFrom_34 : decode cX5_copyFrom 34 = .ok (.iconst 0, 1) := by decide +kernel
theorem dX5_copyFrom_35 : decode cX5_copyFrom 35 = .ok (.aload_n 0, 1) := by decide +kernel
theorem dX5_copyFrom_36 : decode cX5_copyFrom 36 = .ok (.getfield 18, 3) := by decide +kernel
theorem dX5_copyFrom_39 : decode cX5_copyFrom 39 = .ok (.iconst 0, 1) := by decide +kernel
theorem dX5_copyFrom_40 : decode cX5_copyFrom 40 = .ok (.bipush 40, 2) := by decide +kernel
theorem dX5_copyFrom_42 : decode cX5_copyFrom 42 = .ok (.invokestatic 52, 3) := by decide +kernel
theorem dX5_copyFrom_45 : decode cX5_copyFrom 45 = .ok (.aload_n 1, 1) := by decide +kernel
theorem dX5_copyFrom_46 : decode cX5_copyFrom 46 = .ok (.getfield 21, 3) := by decide +kernel
theorem dX5_copyFrom_49 : decode cX5_copyFrom 49 = .ok (.iconst 0, 1) := by decide +kernel
theorem dX5_copyFrom_50 : decode cX5_copyFrom 50 = .ok (.aload_n 0, 1) := by decide +kernel
theorem dX5_copyFrom_51 : decode cX5_copyFrom 51 = .ok (.getfield 21, 3) := by decide +kernel
theorem dX5_copyFrom_54 : decode cX5_copyFrom 54 = .ok (.iconst 0, 1) := by decide +kernel
theorem dX5_copyFrom_55 : decode cX5_copyFrom 55 = .ok (.bipush 40, 2) := by decide +kernel
theorem dX5_copyFrom_57 : decode cX5_copyFrom 57 = .ok (.invokestatic 52, 3) := by decide +kernel
theorem dX5_copyFrom_60 : decode cX5_copyFrom 60 = .ok (.aload_n 1, 1) := by decide +kernel
theorem dX5_copyFrom_61 : decode cX5_copyFrom 61 = .ok (.getfield 24, 3) := by decide +kernel
theorem dX5_copyFrom_64 : decode cX5_copyFrom 64 = .ok (.iconst 0, 1) := by decide +kernel
theorem dX5_copyFrom_65 : decode cX5_copyFrom 65 = .ok (.aload_n 0, 1) := by decide +kernel
theorem dX5_copyFrom_66 : decode cX5_copyFrom 66 = .ok (.getfield 24, 3) := by decide +kernel
theorem dX5_copyFrom_69 : decode cX5_copyFrom 69 = .ok (.iconst 0, 1) := by decide +kernel
theorem dX5_copyFrom_70 : decode cX5_copyFrom 70 = .ok (.bipush 80, 2) := by decide +kernel
theorem dX5_copyFrom_72 : decode cX5_copyFrom 72 = .ok (.invokestatic 52, 3) := by decide +kernel
theorem dX5_copyFrom_75 : decode cX5_copyFrom 75 = .ok (.aload_n 1, 1) := by decide +kernel
theorem dX5_copyFrom_76 : decode cX5_copyFrom 76 = .ok (.getfield 27, 3) := by decide +kernel
theorem dX5_copyFrom_79 : decode cX5_copyFrom 79 = .ok (.iconst 0, 1) := by decide +kernel
theorem dX5_copyFrom_80 : decode cX5_copyFrom 80 = .ok (.aload_n 0, 1) := by decide +kernel
theorem dX5_copyFrom_81 : decode cX5_copyFrom 81 = .ok (.getfield 27, 3) := by decide +kernel
theorem dX5_copyFrom_84 : decode cX5_copyFrom 84 = .ok (.iconst 0, 1) := by decide +kernel
theorem dX5_copyFrom_85 : decode cX5_copyFrom 85 = .ok (.bipush 80, 2) := by decide +kernel
theorem dX5_copyFrom_87 : decode cX5_copyFrom 87 = .ok (.invokestatic 52, 3) := by decide +kernel
theorem dX5_copyFrom_90 : decode cX5_copyFrom 90 = .ok (.aload_n 1, 1) := by decide +kernel
theorem dX5_copyFrom_91 : decode cX5_copyFrom 91 = .ok (.getfield 30, 3) := by decide +kernel
theorem dX5_copyFrom_94 : decode cX5_copyFrom 94 = .ok (.iconst 0, 1) := by decide +kernel
theorem dX5_copyFrom_95 : decode cX5_copyFrom 95 = .ok (.aload_n 0, 1) := by decide +kernel
theorem dX5_copyFrom_96 : decode cX5_copyFrom 96 = .ok (.getfield 30, 3) := by decide +kernel
theorem dX5_copyFrom_99 : decode cX5_copyFrom 99 = .ok (.iconst 0, 1) := by decide +kernel
theorem dX5_copyFrom_100 : decode cX5_copyFrom 100 = .ok (.bipush 80, 2) := by decide +kernel
theorem dX5_copyFrom_102 : decode cX5_copyFrom 102 = .ok (.invokestatic 52, 3) := by decide +kernel
theorem dX5_copyFrom_105 : decode cX5_copyFrom 105 = .ok (.aload_n 1, 1) := by decide +kernel
theorem dX5_copyFrom_106 : decode cX5_copyFrom 106 = .ok (.getfield 33, 3) := by decide +kernel
theorem dX5_copyFrom_109 : decode cX5_copyFrom 109 = .ok (.iconst 0, 1) := by decide +kernel
theorem dX5_copyFrom_110 : decode cX5_copyFrom 110 = .ok (.aload_n 0, 1) := by decide +kernel
theorem dX5_copyFrom_111 : decode cX5_copyFrom 111 = .ok (.getfield 33, 3) := by decide +kernel
theorem dX5_copyFrom_114 : decode cX5_copyFrom 114 = .ok (.iconst 0, 1) := by decide +kernel
theorem dX5_copyFrom_115 : decode cX5_copyFrom 115 = .ok (.sipush 139, 3) := by decide +kernel
theorem dX5_copyFrom_118 : decode cX5_copyFrom 118 = .ok (.invokestatic 52, 3) := by decide +kernel
theorem dX5_copyFrom_121 : decode cX5_copyFrom 121 = .ok (.aload_n 1, 1) := by decide +kernel
theorem dX5_copyFrom_122 : decode cX5_copyFrom 122 = .ok (.getfield 36, 3) := by decide +kernel
theorem dX5_copyFrom_125 : decode cX5_copyFrom 125 = .ok (.iconst 0, 1) := by decide +kernel
theorem dX5_copyFrom_126 : decode cX5_copyFrom 126 = .ok (.aload_n 0, 1) := by decide +kernel
theorem dX5_copyFrom_127 : decode cX5_copyFrom 127 = .ok (.getfield 36, 3) := by decide +kernel
theorem dX5_copyFrom_130 : decode cX5_copyFrom 130 = .ok (.iconst 0, 1) := by decide +kernel
theorem dX5_copyFrom_131 : decode cX5_copyFrom 131 = .ok (.iconst 4, 1) := by decide +kernel
theorem dX5_copyFrom_132 : decode cX5_copyFrom 132 = .ok (.invokestatic 52, 3) := by decide +kernel
theorem dX5_copyFrom_135 : decode cX5_copyFrom 135 = .ok (.aload_n 1, 1) := by decide +kernel
theorem dX5_copyFrom_136 : decode cX5_copyFrom 136 = .ok (.getfield 39, 3) := by decide +kernel
theorem dX5_copyFrom_139 : decode cX5_copyFrom 139 = .ok (.iconst 0, 1) := by decide +kernel
theorem dX5_copyFrom_140 : decode cX5_copyFrom 140 = .ok (.aload_n 0, 1) := by decide +kernel
theorem dX5_copyFrom_141 : decode cX5_copyFrom 141 = .ok (.getfield 39, 3) := by decide +kernel
theorem dX5_copyFrom_144 : decode cX5_copyFrom 144 = .ok (.iconst 0, 1) := by decide +kernel
theorem dX5_copyFrom_145 : decode cX5_copyFrom 145 = .ok (.bipush 9, 2) := by decide +kernel
theorem dX5_copyFrom_147 : decode cX5_copyFrom 147 = .ok (.invokestatic 52, 3) := by decide +kernel
theorem dX5_copyFrom_150 : decode cX5_copyFrom 150 = .ok (.aload_n 0, 1) := by decide +kernel
theorem dX5_copyFrom_151 : decode cX5_copyFrom 151 = .ok (.getfield 45, 3) := by decide +kernel
theorem dX5_copyFrom_154 : decode cX5_copyFrom 154 = .ok (.aload_n 1, 1) := by decide +kernel
theorem dX5_copyFrom_155 : decode cX5_copyFrom 155 = .ok (.getfield 45, 3) := by decide +kernel
theorem dX5_copyFrom_158 : decode cX5_copyFrom 158 = .ok (.invokevirtual 88, 3) := by decide +kernel
theorem dX5_copyFrom_161 : decode cX5_copyFrom 161 = .ok (.aload_n 0, 1) := by decide +kernel
theorem dX5_copyFrom_162 : decode cX5_copyFrom 162 = .ok (.aload_n 1, 1) := by decide +kernel
theorem dX5_copyFrom_163 : decode cX5_copyFrom 163 = .ok (.getfield 63, 3) := by decide +kernel
theorem dX5_copyFrom_166 : decode cX5_copyFrom 166 = .ok (.putfield 63, 3) := by decide +kernel
theorem dX5_copyFrom_169 : decode cX5_copyFrom 169 = .ok (.aload_n 0, 1) := by decide +kernel
theorem dX5_copyFrom_170 : decode cX5_copyFrom 170 = .ok (.aload_n 1, 1) := by decide +kernel
theorem dX5_copyFrom_171 : decode cX5_copyFrom 171 = .ok (.getfield 67, 3) := by decide +kernel
theorem dX5_copyFrom_174 : decode cX5_copyFrom 174 = .ok (.putfield 67, 3) := by decide +kernel
theorem dX5_copyFrom_177 : decode cX5_copyFrom 177 = .ok (.aload_n 0, 1) := by decide +kernel
theorem dX5_copyFrom_178 : decode cX5_copyFrom 178 = .ok (.aload_n 1, 1) := by decide +kernel
theorem dX5_copyFrom_179 : decode cX5_copyFrom 179 = .ok (.getfield 70, 3) := by decide +kernel
theorem dX5_copyFrom_182 : decode cX5_copyFrom 182 = .ok (.putfield 70, 3) := by decide +kernel
theorem dX5_copyFrom_185 : decode cX5_copyFrom 185 = .ok (.aload_n 0, 1) := by decide +kernel
theorem dX5_copyFrom_186 : decode cX5_copyFrom 186 = .ok (.aload_n 1, 1) := by decide +kernel
theorem dX5_copyFrom_187 : decode cX5_copyFrom 187 = .ok (.getfield 73, 3) := by decide +kernel
theorem dX5_copyFrom_190 : decode cX5_copyFrom 190 = .ok (.putfield 73, 3) := by decide +kernel
theorem dX5_copyFrom_193 : decode cX5_copyFrom 193 = .ok (.aload_n 0, 1) := by decide +kernel
theorem dX5_copyFrom_194 : decode cX5_copyFrom 194 = .ok (.aload_n 1, 1) := by decide +kernel
theorem dX5_copyFrom_195 : decode cX5_copyFrom 195 = .ok (.getfield 76, 3) := by decide +kernel
theorem dX5_copyFrom_198 : decode cX5_copyFrom 198 = .ok (.putfield 76, 3) := by decide +kernel
theorem dX5_copyFrom_201 : decode cX5_copyFrom 201 = .ok (.aload_n 0, 1) := by decide +kernel
theorem dX5_copyFrom_202 : decode cX5_copyFrom 202 = .ok (.aload_n 1, 1) := by decide +kernel
theorem dX5_copyFrom_203 : decode cX5_copyFrom 203 = .ok (.getfield 83, 3) := by decide +kernel
theorem dX5_copyFrom_206 : decode cX5_copyFrom 206 = .ok (.putfield 83, 3) := by decide +kernel
theorem dX5_copyFrom_209 : decode cX5_copyFrom 209 = .ok (.return_, 1) := by decide +kernel
theorem dX5_count_0 : decode cX5_count 0 = .ok (.iload_n 1, 1) := by decide +kernel
theorem dX5_count_1 : decode cX5_count 1 = .ok (.ifCond .lt 19, 3) := by decide +kernel
theorem dX5_count_4 : decode cX5_count 4 = .ok (.iload_n 1, 1) := by decide +kernel
theorem dX5_count_5 : decode cX5_count 5 = .ok (.bipush 9, 2) := by decide +kernel
theorem dX5_count_7 : decode cX5_count 7 = .ok (.if_icmp .ge 13, 3) := by decide +kernel
theorem dX5_count_10 : decode cX5_count 10 = .ok (.aload_n 0, 1) := by decide +kernel
theorem dX5_count_11 : decode cX5_count 11 = .ok (.getfield 39, 3) := by decide +kernel
theorem dX5_count_14 : decode cX5_count 14 = .ok (.iload_n 1, 1) := by decide +kernel
theorem dX5_count_15 : decode cX5_count 15 = .ok (.dup2, 1) := by decide +kernel
theorem dX5_count_16 : decode cX5_count 16 = .ok (.iaload, 1) := by decide +kernel
theorem dX5_count_17 : decode cX5_count 17 = .ok (.iload_n 2, 1) := by decide +kernel
theorem dX5_count_18 : decode cX5_count 18 = .ok (.iadd, 1) := by decide +kernel
theorem dX5_count_19 : decode cX5_count 19 = .ok (.iastore, 1) := by decide +kernel
theorem dX5_count_20 : decode cX5_count 20 = .ok (.return_, 1) := by decide +kernel
theorem dX5_beginJob_0 : decode cX5_beginJob 0 = .ok (.aload_n 0, 1) := by decide +kernel
theorem dX5_beginJob_1 : decode cX5_beginJob 1 = .ok (.getfield 76, 3) := by decide +kernel
theorem dX5_beginJob_4 : decode cX5_beginJob 4 = .ok (.sipush 139, 3) := by decide +kernel
theorem dX5_beginJob_7 : decode cX5_beginJob 7 = .ok (.if_icmp .ge 23, 3) := by decide +kernel
theorem dX5_beginJob_10 : decode cX5_beginJob 10 = .ok (.aload_n 0, 1) := by decide +kernel
theorem dX5_beginJob_11 : decode cX5_beginJob 11 = .ok (.getfield 33, 3) := by decide +kernel
theorem dX5_beginJob_14 : decode cX5_beginJob 14 = .ok (.aload_n 0, 1) := by decide +kernel
theorem dX5_beginJob_15 : decode cX5_beginJob 15 = .ok (.getfield 76, 3) := by decide +kernel
theorem dX5_beginJob_18 : decode cX5_beginJob 18 = .ok (.iload_n 1, 1) := by decide +kernel
theorem dX5_beginJob_19 : decode cX5_beginJob 19 = .ok (.iastore, 1) := by decide +kernel
theorem dX5_beginJob_20 : decode cX5_beginJob 20 = .ok (.aload_n 0, 1) := by decide +kernel
theorem dX5_beginJob_21 : decode cX5_beginJob 21 = .ok (.dup, 1) := by decide +kernel
theorem dX5_beginJob_22 : decode cX5_beginJob 22 = .ok (.getfield 76, 3) := by decide +kernel
theorem dX5_beginJob_25 : decode cX5_beginJob 25 = .ok (.iconst 1, 1) := by decide +kernel
theorem dX5_beginJob_26 : decode cX5_beginJob 26 = .ok (.iadd, 1) := by decide +kernel
theorem dX5_beginJob_27 : decode cX5_beginJob 27 = .ok (.putfield 76, 3) := by decide +kernel
theorem dX5_beginJob_30 : decode cX5_beginJob 30 = .ok (.return_, 1) := by decide +kernel
theorem dX5_addPage_0 : decode cX5_addPage 0 = .ok (.aload_n 0, 1) := by decide +kernel
theorem dX5_addPage_1 : decode cX5_addPage 1 = .ok (.getfield 73, 3) := by decide +kernel
theorem dX5_addPage_4 : decode cX5_addPage 4 = .ok (.bipush 80, 2) := by decide +kernel
theorem dX5_addPage_6 : decode cX5_addPage 6 = .ok (.if_icmp .ge 48, 3) := by decide +kernel
theorem dX5_addPage_9 : decode cX5_addPage 9 = .ok (.aload_n 0, 1) := by decide +kernel
theorem dX5_addPage_10 : decode cX5_addPage 10 = .ok (.getfield 24, 3) := by decide +kernel
theorem dX5_addPage_13 : decode cX5_addPage 13 = .ok (.aload_n 0, 1) := by decide +kernel
theorem dX5_addPage_14 : decode cX5_addPage 14 = .ok (.getfield 73, 3) := by decide +kernel
theorem dX5_addPage_17 : decode cX5_addPage 17 = .ok (.iload_n 1, 1) := by decide +kernel
theorem dX5_addPage_18 : decode cX5_addPage 18 = .ok (.iastore, 1) := by decide +kernel
theorem dX5_addPage_19 : decode cX5_addPage 19 = .ok (.aload_n 0, 1) := by decide +kernel
theorem dX5_addPage_20 : decode cX5_addPage 20 = .ok (.getfield 27, 3) := by decide +kernel
theorem dX5_addPage_23 : decode cX5_addPage 23 = .ok (.aload_n 0, 1) := by decide +kernel
theorem dX5_addPage_24 : decode cX5_addPage 24 = .ok (.getfield 73, 3) := by decide +kernel
theorem dX5_addPage_27 : decode cX5_addPage 27 = .ok (.iload_n 2, 1) := by decide +kernel
theorem dX5_addPage_28 : decode cX5_addPage 28 = .ok (.iastore, 1) := by decide +kernel
theorem dX5_addPage_29 : decode cX5_addPage 29 = .ok (.aload_n 0, 1) := by decide +kernel
theorem dX5_addPage_30 : decode cX5_addPage 30 = .ok (.getfield 30, 3) := by decide +kernel
theorem dX5_addPage_33 : decode cX5_addPage 33 = .ok (.aload_n 0, 1) := by decide +kernel
theorem dX5_addPage_34 : decode cX5_addPage 34 = .ok (.getfield 73, 3) := by decide +kernel
theorem dX5_addPage_37 : decode cX5_addPage 37 = .ok (.aload_n 0, 1) := by decide +kernel
theorem dX5_addPage_38 : decode cX5_addPage 38 = .ok (.getfield 76, 3) := by decide +kernel
theorem dX5_addPage_41 : decode cX5_addPage 41 = .ok (.iconst 1, 1) := by decide +kernel
theorem dX5_addPage_42 : decode cX5_addPage 42 = .ok (.isub, 1) := by decide +kernel
theorem dX5_addPage_43 : decode cX5_addPage 43 = .ok (.iastore, 1) := by decide +kernel
theorem dX5_addPage_44 : decode cX5_addPage 44 = .ok (.aload_n 0, 1) := by decide +kernel
theorem dX5_addPage_45 : decode cX5_addPage 45 = .ok (.dup, 1) := by decide +kernel
theorem dX5_addPage_46 : decode cX5_addPage 46 = .ok (.getfield 73, 3) := by decide +kernel
theorem dX5_addPage_49 : decode cX5_addPage 49 = .ok (.iconst 1, 1) := by decide +kernel
theorem dX5_addPage_50 : decode cX5_addPage 50 = .ok (.iadd, 1) := by decide +kernel
theorem dX5_addPage_51 : decode cX5_addPage 51 = .ok (.putfield 73, 3) := by decide +kernel
theorem dX5_addPage_54 : decode cX5_addPage 54 = .ok (.return_, 1) := by decide +kernel
theorem dX5_pagesOfJob_0 : decode cX5_pagesOfJob 0 = .ok (.iconst 0, 1) := by decide +kernel
theorem dX5_pagesOfJob_1 : decode cX5_pagesOfJob 1 = .ok (.istore_n 2, 1) := by decide +kernel
theorem dX5_pagesOfJob_2 : decode cX5_pagesOfJob 2 = .ok (.iconst 0, 1) := by decide +kernel
theorem dX5_pagesOfJob_3 : decode cX5_pagesOfJob 3 = .ok (.istore_n 3, 1) := by decide +kernel
theorem dX5_pagesOfJob_4 : decode cX5_pagesOfJob 4 = .ok (.iload_n 3, 1) := by decide +kernel
theorem dX5_pagesOfJob_5 : decode cX5_pagesOfJob 5 = .ok (.aload_n 0, 1) := by decide +kernel
theorem dX5_pagesOfJob_6 : decode cX5_pagesOfJob 6 = .ok (.getfield 73, 3) := by decide +kernel
theorem dX5_pagesOfJob_9 : decode cX5_pagesOfJob 9 = .ok (.if_icmp .ge 22, 3) := by decide +kernel
theorem dX5_pagesOfJob_12 : decode cX5_pagesOfJob 12 = .ok (.aload_n 0, 1) := by decide +kernel
theorem dX5_pagesOfJob_13 : decode cX5_pagesOfJob 13 = .ok (.getfield 30, 3) := by decide +kernel
theorem dX5_pagesOfJob_16 : decode cX5_pagesOfJob 16 = .ok (.iload_n 3, 1) := by decide +kernel
theorem dX5_pagesOfJob_17 : decode cX5_pagesOfJob 17 = .ok (.iaload, 1) := by decide +kernel
theorem dX5_pagesOfJob_18 : decode cX5_pagesOfJob 18 = .ok (.iload_n 1, 1) := by decide +kernel
theorem dX5_pagesOfJob_19 : decode cX5_pagesOfJob 19 = .ok (.if_icmp .ne 6, 3) := by decide +kernel
theorem dX5_pagesOfJob_22 : decode cX5_pagesOfJob 22 = .ok (.iinc 2 1, 3) := by decide +kernel
theorem dX5_pagesOfJob_25 : decode cX5_pagesOfJob 25 = .ok (.iinc 3 1, 3) := by decide +kernel
theorem dX5_pagesOfJob_28 : decode cX5_pagesOfJob 28 = .ok (.goto (-24), 3) := by decide +kernel
theorem dX5_pagesOfJob_31 : decode cX5_pagesOfJob 31 = .ok (.iload_n 2, 1) := by decide +kernel
theorem dX5_pagesOfJob_32 : decode cX5_pagesOfJob 32 = .ok (.ireturn, 1) := by decide +kernel
theorem dX5_firstPageOfJob_0 : decode cX5_firstPageOfJob 0 = .ok (.iconst 0, 1) := by decide +kernel
theorem dX5_firstPageOfJob_1 : decode cX5_firstPageOfJob 1 = .ok (.istore_n 2, 1) := by decide +kernel
theorem dX5_firstPageOfJob_2 : decode cX5_firstPageOfJob 2 = .ok (.iload_n 2, 1) := by decide +kernel
theorem dX5_firstPageOfJob_3 : decode cX5_firstPageOfJob 3 = .ok (.aload_n 0, 1) := by decide +kernel
theorem dX5_firstPageOfJob_4 : decode cX5_firstPageOfJob 4 = .ok (.getfield 73, 3) := by decide +kernel
theorem dX5_firstPageOfJob_7 : decode cX5_firstPageOfJob 7 = .ok (.if_icmp .ge 21, 3) := by decide +kernel
theorem dX5_firstPageOfJob_10 : decode cX5_firstPageOfJob 10 = .ok (.aload_n 0, 1) := by decide +kernel
theorem dX5_firstPageOfJob_11 : decode cX5_firstPageOfJob 11 = .ok (.getfield 30, 3) := by decide +kernel
theorem dX5_firstPageOfJob_14 : decode cX5_firstPageOfJob 14 = .ok (.iload_n 2, 1) := by decide +kernel
theorem dX5_firstPageOfJob_15 : decode cX5_firstPageOfJob 15 = .ok (.iaload, 1) := by decide +kernel
theorem dX5_firstPageOfJob_16 : decode cX5_firstPageOfJob 16 = .ok (.iload_n 1, 1) := by decide +kernel
theorem dX5_firstPageOfJob_17 : decode cX5_firstPageOfJob 17 = .ok (.if_icmp .ne 5, 3) := by decide +kernel
theorem dX5_firstPageOfJob_20 : decode cX5_firstPageOfJob 20 = .ok (.iload_n 2, 1) := by decide +kernel
theorem dX5_firstPageOfJob_21 : decode cX5_firstPageOfJob 21 = .ok (.ireturn, 1) := by decide +kernel
theorem dX5_firstPageOfJob_22 : decode cX5_firstPageOfJob 22 = .ok (.iinc 2 1, 3) := by decide +kernel
theorem dX5_firstPageOfJob_25 : decode cX5_firstPageOfJob 25 = .ok (.goto (-23), 3) := by decide +kernel
theorem dX5_firstPageOfJob_28 : decode cX5_firstPageOfJob 28 = .ok (.iconst (-1), 1) := by decide +kernel
theorem dX5_firstPageOfJob_29 : decode cX5_firstPageOfJob 29 = .ok (.ireturn, 1) := by decide +kernel
theorem dX5_sheetsOfJob_0 : decode cX5_sheetsOfJob 0 = .ok (.iconst 0, 1) := by decide +kernel
theorem dX5_sheetsOfJob_1 : decode cX5_sheetsOfJob 1 = .ok (.istore_n 2, 1) := by decide +kernel
theorem dX5_sheetsOfJob_2 : decode cX5_sheetsOfJob 2 = .ok (.iconst 0, 1) := by decide +kernel
theorem dX5_sheetsOfJob_3 : decode cX5_sheetsOfJob 3 = .ok (.istore_n 3, 1) := by decide +kernel
theorem dX5_sheetsOfJob_4 : decode cX5_sheetsOfJob 4 = .ok (.iload_n 3, 1) := by decide +kernel
theorem dX5_sheetsOfJob_5 : decode cX5_sheetsOfJob 5 = .ok (.aload_n 0, 1) := by decide +kernel
theorem dX5_sheetsOfJob_6 : decode cX5_sheetsOfJob 6 = .ok (.getfield 73, 3) := by decide +kernel
theorem dX5_sheetsOfJob_9 : decode cX5_sheetsOfJob 9 = .ok (.if_icmp .ge 43, 3) := by decide +kernel
theorem dX5_sheetsOfJob_12 : decode cX5_sheetsOfJob 12 = .ok (.aload_n 0, 1) := by decide +kernel
theorem dX5_sheetsOfJob_13 : decode cX5_sheetsOfJob 13 = .ok (.getfield 30, 3) := by decide +kernel
theorem dX5_sheetsOfJob_16 : decode cX5_sheetsOfJob 16 = .ok (.iload_n 3, 1) := by decide +kernel
theorem dX5_sheetsOfJob_17 : decode cX5_sheetsOfJob 17 = .ok (.iaload, 1) := by decide +kernel
theorem dX5_sheetsOfJob_18 : decode cX5_sheetsOfJob 18 = .ok (.iload_n 1, 1) := by decide +kernel
theorem dX5_sheetsOfJob_19 : decode cX5_sheetsOfJob 19 = .ok (.if_icmp .ne 27, 3) := by decide +kernel
theorem dX5_sheetsOfJob_22 : decode cX5_sheetsOfJob 22 = .ok (.iload_n 3, 1) := by decide +kernel
theorem dX5_sheetsOfJob_23 : decode cX5_sheetsOfJob 23 = .ok (.ifCond .eq 20, 3) := by decide +kernel
theorem dX5_sheetsOfJob_26 : decode cX5_sheetsOfJob 26 = .ok (.aload_n 0, 1) := by decide +kernel
theorem dX5_sheetsOfJob_27 : decode cX5_sheetsOfJob 27 = .ok (.getfield 24, 3) := by decide +kernel
theorem dX5_sheetsOfJob_30 : decode cX5_sheetsOfJob 30 = .ok (.iload_n 3, 1) := by decide +kernel
theorem dX5_sheetsOfJob_31 : decode cX5_sheetsOfJob 31 = .ok (.iaload, 1) := by decide +kernel
theorem dX5_sheetsOfJob_32 : decode cX5_sheetsOfJob 32 = .ok (.aload_n 0, 1) := by decide +kernel
theorem dX5_sheetsOfJob_33 : decode cX5_sheetsOfJob 33 = .ok (.getfield 24, 3) := by decide +kernel
theorem dX5_sheetsOfJob_36 : decode cX5_sheetsOfJob 36 = .ok (.iload_n 3, 1) := by decide +kernel
theorem dX5_sheetsOfJob_37 : decode cX5_sheetsOfJob 37 = .ok (.iconst 1, 1) := by decide +kernel
theorem dX5_sheetsOfJob_38 : decode cX5_sheetsOfJob 38 = .ok (.isub, 1) := by decide +kernel
theorem dX5_sheetsOfJob_39 : decode cX5_sheetsOfJob 39 = .ok (.iaload, 1) := by decide +kernel
theorem dX5_sheetsOfJob_40 : decode cX5_sheetsOfJob 40 = .ok (.if_icmp .eq 6, 3) := by decide +kernel
theorem dX5_sheetsOfJob_43 : decode cX5_sheetsOfJob 43 = .ok (.iinc 2 1, 3) := by decide +kernel
theorem dX5_sheetsOfJob_46 : decode cX5_sheetsOfJob 46 = .ok (.iinc 3 1, 3) := by decide +kernel
theorem dX5_sheetsOfJob_49 : decode cX5_sheetsOfJob 49 = .ok (.goto (-45), 3) := by decide +kernel
theorem dX5_sheetsOfJob_52 : decode cX5_sheetsOfJob 52 = .ok (.iload_n 2, 1) := by decide +kernel
theorem dX5_sheetsOfJob_53 : decode cX5_sheetsOfJob 53 = .ok (.ireturn, 1) := by decide +kernel
theorem dX6_init_0 : decode cX6_init 0 = .ok (.aload_n 0, 1) := by decide +kernel
theorem dX6_init_1 : decode cX6_init 1 = .ok (.invokespecial 3, 3) := by decide +kernel
theorem dX6_init_4 : decode cX6_init 4 = .ok (.aload_n 0, 1) := by decide +kernel
theorem dX6_init_5 : decode cX6_init 5 = .ok (.new 9, 3) := by decide +kernel
theorem dX6_init_8 : decode cX6_init 8 = .ok (.dup, 1) := by decide +kernel
theorem dX6_init_9 : decode cX6_init 9 = .ok (.invokespecial 11, 3) := by decide +kernel
theorem dX6_init_12 : decode cX6_init 12 = .ok (.putfield 12, 3) := by decide +kernel
theorem dX6_init_15 : decode cX6_init 15 = .ok (.aload_n 0, 1) := by decide +kernel
theorem dX6_init_16 : decode cX6_init 16 = .ok (.new 16, 3) := by decide +kernel
theorem dX6_init_19 : decode cX6_init 19 = .ok (.dup, 1) := by decide +kernel
theorem dX6_init_20 : decode cX6_init 20 = .ok (.invokespecial 18, 3) := by decide +kernel
theorem dX6_init_23 : decode cX6_init 23 = .ok (.putfield 19, 3) := by decide +kernel
theorem dX6_init_26 : decode cX6_init 26 = .ok (.aload_n 0, 1) := by decide +kernel
theorem dX6_init_27 : decode cX6_init 27 = .ok (.new 23, 3) := by decide +kernel
theorem dX6_init_30 : decode cX6_init 30 = .ok (.dup, 1) := by decide +kernel
theorem dX6_init_31 : decode cX6_init 31 = .ok (.invokespecial 25, 3) := by decide +kernel
theorem dX6_init_34 : decode cX6_init 34 = .ok (.putfield 26, 3) := by decide +kernel
theorem dX6_init_37 : decode cX6_init 37 = .ok (.aload_n 0, 1) := by decide +kernel
theorem dX6_init_38 : decode cX6_init 38 = .ok (.bipush 10, 2) := by decide +kernel
theorem dX6_init_40 : decode cX6_init 40 = .ok (.anewarray 23, 3) := by decide +kernel
theorem dX6_init_43 : decode cX6_init 43 = .ok (.putfield 30, 3) := by decide +kernel
theorem dX6_init_46 : decode cX6_init 46 = .ok (.aload_n 0, 1) := by decide +kernel
theorem dX6_init_47 : decode cX6_init 47 = .ok (.iconst 2, 1) := by decide +kernel
theorem dX6_init_48 : decode cX6_init 48 = .ok (.anewarray 23, 3) := by decide +kernel
theorem dX6_init_51 : decode cX6_init 51 = .ok (.putfield 34, 3) := by decide +kernel
theorem dX6_init_54 : decode cX6_init 54 = .ok (.aload_n 0, 1) := by decide +kernel
theorem dX6_init_55 : decode cX6_init 55 = .ok (.iconst 2, 1) := by decide +kernel
theorem dX6_init_56 : decode cX6_init 56 = .ok (.newarray .boolean, 2) := by decide +kernel
theorem dX6_init_58 : decode cX6_init 58 = .ok (.putfield 37, 3) := by decide +kernel
theorem dX6_init_61 : decode cX6_init 61 = .ok (.aload_n 0, 1) := by decide +kernel
theorem dX6_init_62 : decode cX6_init 62 = .ok (.new 41, 3) := by decide +kernel
theorem dX6_init_65 : decode cX6_init 65 = .ok (.dup, 1) := by decide +kernel
theorem dX6_init_66 : decode cX6_init 66 = .ok (.invokespecial 43, 3) := by decide +kernel
theorem dX6_init_69 : decode cX6_init 69 = .ok (.putfield 44, 3) := by decide +kernel
theorem dX6_init_72 : decode cX6_init 72 = .ok (.aload_n 0, 1) := by decide +kernel
theorem dX6_init_73 : decode cX6_init 73 = .ok (.new 48, 3) := by decide +kernel
theorem dX6_init_76 : decode cX6_init 76 = .ok (.dup, 1) := by decide +kernel
theorem dX6_init_77 : decode cX6_init 77 = .ok (.invokespecial 50, 3) := by decide +kernel
theorem dX6_init_80 : decode cX6_init 80 = .ok (.putfield 51, 3) := by decide +kernel
theorem dX6_init_83 : decode cX6_init 83 = .ok (.iconst 0, 1) := by decide +kernel
theorem dX6_init_84 : decode cX6_init 84 = .ok (.istore_n 1, 1) := by decide +kernel
theorem dX6_init_85 : decode cX6_init 85 = .ok (.iload_n 1, 1) := by decide +kernel
theorem dX6_init_86 : decode cX6_init 86 = .ok (.bipush 10, 2) := by decide +kernel
theorem dX6_init_88 : decode cX6_init 88 = .ok (.if_icmp .ge 22, 3) := by decide +kernel
theorem dX6_init_91 : decode cX6_init 91 = .ok (.aload_n 0, 1) := by decide +kernel
theorem dX6_init_92 : decode cX6_init 92 = .ok (.getfield 30, 3) := by decide +kernel
theorem dX6_init_95 : decode cX6_init 95 = .ok (.iload_n 1, 1) := by decide +kernel
theorem dX6_init_96 : decode cX6_init 96 = .ok (.new 23, 3) := by decide +kernel
theorem dX6_init_99 : decode cX6_init 99 = .ok (.dup, 1) := by decide +kernel
theorem dX6_init_100 : decode cX6_init 100 = .ok (.invokespecial 25, 3) := by decide +kernel
theorem dX6_init_103 : decode cX6_init 103 = .ok (.aastore, 1) := by decide +kernel
theorem dX6_init_104 : decode cX6_init 104 = .ok (.iinc 1 1, 3) := by decide +kernel
theorem dX6_init_107 : decode cX6_init 107 = .ok (.goto (-22), 3) := by decide +kernel
theorem dX6_init_110 : decode cX6_init 110 = .ok (.iconst 0, 1) := by decide +kernel
theorem dX6_init_111 : decode cX6_init 111 = .ok (.istore_n 1, 1) := by decide +kernel
theorem dX6_init_112 : decode cX6_init 112 = .ok (.iload_n 1, 1) := by decide +kernel
theorem dX6_init_113 : decode cX6_init 113 = .ok (.iconst 2, 1) := by decide +kernel
theorem dX6_init_114 : decode cX6_init 114 = .ok (.if_icmp .ge 22, 3) := by decide +kernel
theorem dX6_init_117 : decode cX6_init 117 = .ok (.aload_n 0, 1) := by decide +kernel
theorem dX6_init_118 : decode cX6_init 118 = .ok (.getfield 34, 3) := by decide +kernel
theorem dX6_init_121 : decode cX6_init 121 = .ok (.iload_n 1, 1) := by decide +kernel
theorem dX6_init_122 : decode cX6_init 122 = .ok (.new 23, 3) := by decide +kernel
theorem dX6_init_125 : decode cX6_init 125 = .ok (.dup, 1) := by decide +kernel
theorem dX6_init_126 : decode cX6_init 126 = .ok (.invokespecial 25, 3) := by decide +kernel
theorem dX6_init_129 : decode cX6_init 129 = .ok (.aastore, 1) := by decide +kernel
theorem dX6_init_130 : decode cX6_init 130 = .ok (.iinc 1 1, 3) := by decide +kernel
theorem dX6_init_133 : decode cX6_init 133 = .ok (.goto (-21), 3) := by decide +kernel
theorem dX6_init_136 : decode cX6_init 136 = .ok (.aload_n 0, 1) := by decide +kernel
theorem dX6_init_137 : decode cX6_init 137 = .ok (.getfield 19, 3) := by decide +kernel
theorem dX6_init_140 : decode cX6_init 140 = .ok (.invokevirtual 55, 3) := by decide +kernel
theorem dX6_init_143 : decode cX6_init 143 = .ok (.aload_n 0, 1) := by decide +kernel
theorem dX6_init_144 : decode cX6_init 144 = .ok (.getfield 19, 3) := by decide +kernel
theorem dX6_init_147 : decode cX6_init 147 = .ok (.bipush 50, 2) := by decide +kernel
theorem dX6_init_149 : decode cX6_init 149 = .ok (.putfield 58, 3) := by decide +kernel
theorem dX6_init_152 : decode cX6_init 152 = .ok (.aload_n 0, 1) := by decide +kernel
theorem dX6_init_153 : decode cX6_init 153 = .ok (.getfield 19, 3) := by decide +kernel
theorem dX6_init_156 : decode cX6_init 156 = .ok (.bipush 30, 2) := by decide +kernel
theorem dX6_init_158 : decode cX6_init 158 = .ok (.putfield 62, 3) := by decide +kernel
theorem dX6_init_161 : decode cX6_init 161 = .ok (.aload_n 0, 1) := by decide +kernel
theorem dX6_init_162 : decode cX6_init 162 = .ok (.invokevirtual 65, 3) := by decide +kernel
theorem dX6_init_165 : decode cX6_init 165 = .ok (.return_, 1) := by decide +kernel
theorem dX6_append_0 : decode cX6_append 0 = .ok (.aload_n 0, 1) := by decide +kernel
theorem dX6_append_1 : decode cX6_append 1 = .ok (.getfield 12, 3) := by decide +kernel
theorem dX6_append_4 : decode cX6_append 4 = .ok (.getfield 68, 3) := by decide +kernel
theorem dX6_append_7 : decode cX6_append 7 = .ok (.bipush 20, 2) := by decide +kernel
theorem dX6_append_9 : decode cX6_append 9 = .ok (.iadd, 1) := by decide +kernel
theorem dX6_append_10 : decode cX6_append 10 = .ok (.sipush 700, 3) := by decide +kernel
theorem dX6_append_13 : decode cX6_append 13 = .ok (.if_icmp .le 5, 3) := by decide +kernel
theorem dX6_append_16 : decode cX6_append 16 = .ok (.iconst (-1), 1) := by decide +kernel
theorem dX6_append_17 : decode cX6_append 17 = .ok (.ireturn, 1) := by decide +kernel
theorem dX6_append_18 : decode cX6_append 18 = .ok (.aload_n 0, 1) := by decide +kernel
theorem dX6_append_19 : decode cX6_append 19 = .ok (.getfield 12, 3) := by decide +kernel
theorem dX6_append_22 : decode cX6_append 22 = .ok (.iload_n 1, 1) := by decide +kernel
theorem dX6_append_23 : decode cX6_append 23 = .ok (.invokevirtual 71, 3) := by decide +kernel
theorem dX6_append_26 : decode cX6_append 26 = .ok (.aload_n 0, 1) := by decide +kernel
theorem dX6_append_27 : decode cX6_append 27 = .ok (.getfield 12, 3) := by decide +kernel
theorem dX6_append_30 : decode cX6_append 30 = .ok (.iload_n 2, 1) := by decide +kernel
theorem dX6_append_31 : decode cX6_append 31 = .ok (.invokevirtual 71, 3) := by decide +kernel
theorem dX6_append_34 : decode cX6_append 34 = .ok (.aload_n 0, 1) := by decide +kernel
theorem dX6_append_35 : decode cX6_append 35 = .ok (.getfield 12, 3) := by decide +kernel
theorem dX6_append_38 : decode cX6_append 38 = .ok (.iload_n 3, 1) := by decide +kernel
theorem dX6_append_39 : decode cX6_append 39 = .ok (.invokevirtual 71, 3) := by decide +kernel
theorem dX6_append_42 : decode cX6_append 42 = .ok (.aload_n 0, 1) := by decide +kernel
theorem dX6_append_43 : decode cX6_append 43 = .ok (.getfield 12, 3) := by decide +kernel
theorem dX6_append_46 : decode cX6_append 46 = .ok (.iload 4, 2) := by decide +kernel
theorem dX6_append_48 : decode cX6_append 48 = .ok (.invokevirtual 71, 3) := by decide +kernel
theorem dX6_append_51 : decode cX6_append 51 = .ok (.aload_n 0, 1) := by decide +kernel
theorem dX6_append_52 : decode cX6_append 52 = .ok (.getfield 12, 3) := by decide +kernel
theorem dX6_append_55 : decode cX6_append 55 = .ok (.iload 5, 2) := by decide +kernel
theorem dX6_append_57 : decode cX6_append 57 = .ok (.invokevirtual 71, 3) := by decide +kernel
theorem dX6_append_60 : decode cX6_append 60 = .ok (.aload_n 0, 1) := by decide +kernel
theorem dX6_append_61 : decode cX6_append 61 = .ok (.getfield 12, 3) := by decide +kernel
theorem dX6_append_64 : decode cX6_append 64 = .ok (.getfield 68, 3) := by decide +kernel
theorem dX6_append_67 : decode cX6_append 67 = .ok (.ireturn, 1) := by decide +kernel
theorem dX6_parse_0 : decode cX6_parse 0 = .ok (.iload_n 1, 1) := by decide +kernel
theorem dX6_parse_1 : decode cX6_parse 1 = .ok (.ifCond .lt 14, 3) := by decide +kernel
theorem dX6_parse_4 : decode cX6_parse 4 = .ok (.iload_n 1, 1) := by decide +kernel
theorem dX6_parse_5 : decode cX6_parse 5 = .ok (.aload_n 0, 1) := by decide +kernel
theorem dX6_parse_6 : decode cX6_parse 6 = .ok (.getfield 12, 3) := by decide +kernel
theorem dX6_parse_9 : decode cX6_parse 9 = .ok (.getfield 68, 3) := by decide +kernel
theorem dX6_parse_12 : decode cX6_parse 12 = .ok (.if_icmp .le 13, 3) := by decide +kernel
theorem dX6_parse_15 : decode cX6_parse 15 = .ok (.new 75, 3) := by decide +kernel
theorem dX6_parse_18 : decode cX6_parse 18 = .ok (.dup, 1) := by decide +kernel
theorem dX6_parse_19 : decode cX6_parse 19 = .ok (.ldc 77, 2) := by decide +kernel
theorem dX6_parse_21 : decode cX6_parse 21 = .ok (.invokespecial 79, 3) := by decide +kernel
theorem dX6_parse_24 : decode cX6_parse 24 = .ok (.athrow, 1) := by decide +kernel
theorem dX6_parse_25 : decode cX6_parse 25 = .ok (.aload_n 0, 1) := by decide +kernel
theorem dX6_parse_26 : decode cX6_parse 26 = .ok (.getfield 12, 3) := by decide +kernel
theorem dX6_parse_29 : decode cX6_parse 29 = .ok (.iload_n 1, 1) := by decide +kernel
theorem dX6_parse_30 : decode cX6_parse 30 = .ok (.invokevirtual 82, 3) := by decide +kernel
theorem dX6_parse_33 : decode cX6_parse 33 = .ok (.istore_n 2, 1) := by decide +kernel
theorem dX6_parse_34 : decode cX6_parse 34 = .ok (.iload_n 2, 1) := by decide +kernel
theorem dX6_parse_35 : decode cX6_parse 35 = .ok (.iconst (-1), 1) := by decide +kernel
theorem dX6_parse_36 : decode cX6_parse 36 = .ok (.if_icmp .eq 8, 3) := by decide +kernel
theorem dX6_parse_39 : decode cX6_parse 39 = .ok (.bipush (-2), 2) := by decide +kernel
theorem dX6_parse_41 : decode cX6_parse 41 = .ok (.iload_n 2, 1) := by decide +kernel
theorem dX6_parse_42 : decode cX6_parse 42 = .ok (.isub, 1) := by decide +kernel
theorem dX6_parse_43 : decode cX6_parse 43 = .ok (.ireturn, 1) := by decide +kernel
theorem dX6_parse_44 : decode cX6_parse 44 = .ok (.aload_n 0, 1) := by decide +kernel
theorem dX6_parse_45 : decode cX6_parse 45 = .ok (.aload_n 0, 1) := by decide +kernel
theorem dX6_parse_46 : decode cX6_parse 46 = .ok (.getfield 12, 3) := by decide +kernel
theorem dX6_parse_49 : decode cX6_parse 49 = .ok (.aload_n 0, 1) := by decide +kernel
theorem dX6_parse_50 : decode cX6_parse 50 = .ok (.getfield 19, 3) := by decide +kernel
theorem dX6_parse_53 : decode cX6_parse 53 = .ok (.invokevirtual 86, 3) := by decide +kernel
theorem dX6_parse_56 : decode cX6_parse 56 = .ok (.putfield 19, 3) := by decide +kernel
theorem dX6_parse_59 : decode cX6_parse 59 = .ok (.aload_n 0, 1) := by decide +kernel
theorem dX6_parse_60 : decode cX6_parse 60 = .ok (.invokevirtual 65, 3) := by decide +kernel
theorem dX6_parse_63 : decode cX6_parse 63 = .ok (.aload_n 0, 1) := by decide +kernel
theorem dX6_parse_64 : decode cX6_parse 64 = .ok (.getfield 19, 3) := by decide +kernel
theorem dX6_parse_67 : decode cX6_parse 67 = .ok (.getfield 90, 3) := by decide +kernel
theorem dX6_parse_70 : decode cX6_parse 70 = .ok (.ireturn, 1) := by decide +kernel
theorem dX6_size_0 : decode cX6_size 0 = .ok (.iload_n 1, 1) := by decide +kernel
theorem dX6_size_1 : decode cX6_size 1 = .ok (.tableswitch 168 0 11 #[63, 71, 76, 84, 92, 100, 108, 124, 132, 140, 158, 163], 63) := by decide +kernel
theorem dX6_size_64 : decode cX6_size 64 = .ok (.aload_n 0, 1) := by decide +kernel
theorem dX6_size_65 : decode cX6_size 65 = .ok (.getfield 19, 3) := by decide +kernel
theorem dX6_size_68 : decode cX6_size 68 = .ok (.getfield 90, 3) := by decide +kernel
theorem dX6_size_71 : decode cX6_size 71 = .ok (.ireturn, 1) := by decide +kernel
theorem dX6_size_72 : decode cX6_size 72 = .ok (.aload_n 0, 1) := by decide +kernel
theorem dX6_size_73 : decode cX6_size 73 = .ok (.invokevirtual 93, 3) := by decide +kernel
theorem dX6_size_76 : decode cX6_size 76 = .ok (.ireturn, 1) := by decide +kernel
theorem dX6_size_77 : decode cX6_size 77 = .ok (.aload_n 0, 1) := by decide +kernel
theorem dX6_size_78 : decode cX6_size 78 = .ok (.getfield 26, 3) := by decide +kernel
theorem dX6_size_81 : decode cX6_size 81 = .ok (.getfield 97, 3) := by decide +kernel
theorem dX6_size_84 : decode cX6_size 84 = .ok (.ireturn, 1) := by decide +kernel
theorem dX6_size_85 : decode cX6_size 85 = .ok (.aload_n 0, 1) := by decide +kernel
theorem dX6_size_86 : decode cX6_size 86 = .ok (.getfield 26, 3) := by decide +kernel
theorem dX6_size_89 : decode cX6_size 89 = .ok (.getfield 100, 3) := by decide +kernel
theorem dX6_size_92 : decode cX6_size 92 = .ok (.ireturn, 1) := by decide +kernel
theorem dX6_size_93 : decode cX6_size 93 = .ok (.aload_n 0, 1) := by decide +kernel
theorem dX6_size_94 : decode cX6_size 94 = .ok (.getfield 26, 3) := by decide +kernel
theorem dX6_size_97 : decode cX6_size 97 = .ok (.getfield 103, 3) := by decide +kernel
theorem dX6_size_100 : decode cX6_size 100 = .ok (.ireturn, 1) := by decide +kernel
theorem dX6_size_101 : decode cX6_size 101 = .ok (.aload_n 0, 1) := by decide +kernel
theorem dX6_size_102 : decode cX6_size 102 = .ok (.getfield 26, 3) := by decide +kernel
theorem dX6_size_105 : decode cX6_size 105 = .ok (.getfield 106, 3) := by decide +kernel
theorem dX6_size_108 : decode cX6_size 108 = .ok (.ireturn, 1) := by decide +kernel
theorem dX6_size_109 : decode cX6_size 109 = .ok (.aload_n 0, 1) := by decide +kernel
theorem dX6_size_110 : decode cX6_size 110 = .ok (.getfield 26, 3) := by decide +kernel
theorem dX6_size_113 : decode cX6_size 113 = .ok (.getfield 109, 3) := by decide +kernel
theorem dX6_size_116 : decode cX6_size 116 = .ok (.ifCond .eq 7, 3) := by decide +kernel
theorem dX6_size_119 : decode cX6_size 119 = .ok (.iconst 1, 1) := by decide +kernel
theorem dX6_size_120 : decode cX6_size 120 = .ok (.goto 4, 3) := by decide +kernel
theorem dX6_size_123 : decode cX6_size 123 = .ok (.iconst 0, 1) := by decide +kernel
theorem dX6_size_124 : decode cX6_size 124 = .ok (.ireturn, 1) := by decide +kernel
theorem dX6_size_125 : decode cX6_size 125 = .ok (.aload_n 0, 1) := by decide +kernel
theorem dX6_size_126 : decode cX6_size 126 = .ok (.getfield 19, 3) := by decide +kernel
theorem dX6_size_129 : decode cX6_size 129 = .ok (.getfield 58, 3) := by decide +kernel
theorem dX6_size_132 : decode cX6_size 132 = .ok (.ireturn, 1) := by decide +kernel
theorem dX6_size_133 : decode cX6_size 133 = .ok (.aload_n 0, 1) := by decide +kernel
theorem dX6_size_134 : decode cX6_size 134 = .ok (.getfield 19, 3) := by decide +kernel
theorem dX6_size_137 : decode cX6_size 137 = .ok (.getfield 62, 3) := by decide +kernel
theorem dX6_size_140 : decode cX6_size 140 = .ok (.ireturn, 1) := by decide +kernel
theorem dX6_size_141 : decode cX6_size 141 = .ok (.aload_n 0, 1) := by decide +kernel
theorem dX6_size_142 : decode cX6_size 142 = .ok (.getfield 26, 3) := by decide +kernel
theorem dX6_size_145 : decode cX6_size 145 = .ok (.getfield 113, 3) := by decide +kernel
theorem dX6_size_148 : decode cX6_size 148 = .ok (.aload_n 0, 1) := by decide +kernel
theorem dX6_size_149 : decode cX6_size 149 = .ok (.getfield 19, 3) := by decide +kernel
theorem dX6_size_152 : decode cX6_size 152 = .ok (.getfield 62, 3) := by decide +kernel
theorem dX6_size_155 : decode cX6_size 155 = .ok (.invokevirtual 117, 3) := by decide +kernel
theorem dX6_size_158 : decode cX6_size 158 = .ok (.ireturn, 1) := by decide +kernel
theorem dX6_size_159 : decode cX6_size 159 = .ok (.aload_n 0, 1) := by decide +kernel
theorem dX6_size_160 : decode cX6_size 160 = .ok (.invokevirtual 122, 3) := by decide +kernel
theorem dX6_size_163 : decode cX6_size 163 = .ok (.ireturn, 1) := by decide +kernel
theorem dX6_size_164 : decode cX6_size 164 = .ok (.aload_n 0, 1) := by decide +kernel
theorem dX6_size_165 : decode cX6_size 165 = .ok (.getfield 125, 3) := by decide +kernel
theorem dX6_size_168 : decode cX6_size 168 = .ok (.ireturn, 1) := by decide +kernel
theorem dX6_size_169 : decode cX6_size 169 = .ok (.new 75, 3) := by decide +kernel
theorem dX6_size_172 : decode cX6_size 172 = .ok (.dup, 1) := by decide +kernel
theorem dX6_size_173 : decode cX6_size 173 = .ok (.ldc 128, 2) := by decide +kernel
theorem dX6_size_175 : decode cX6_size 175 = .ok (.invokespecial 79, 3) := by decide +kernel
theorem dX6_size_178 : decode cX6_size 178 = .ok (.athrow, 1) := by decide +kernel
theorem dX6_limit_0 : decode cX6_limit 0 = .ok (.iload_n 1, 1) := by decide +kernel
theorem dX6_limit_1 : decode cX6_limit 1 = .ok (.ifCond .lt 8, 3) := by decide +kernel
theorem dX6_limit_4 : decode cX6_limit 4 = .ok (.iload_n 1, 1) := by decide +kernel
theorem dX6_limit_5 : decode cX6_limit 5 = .ok (.iconst 4, 1) := by decide +kernel
theorem dX6_limit_6 : decode cX6_limit 6 = .ok (.if_icmp .lt 13, 3) := by decide +kernel
theorem dX6_limit_9 : decode cX6_limit 9 = .ok (.new 75, 3) := by decide +kernel
theorem dX6_limit_12 : decode cX6_limit 12 = .ok (.dup, 1) := by decide +kernel
theorem dX6_limit_13 : decode cX6_limit 13 = .ok (.ldc 128, 2) := by decide +kernel
theorem dX6_limit_15 : decode cX6_limit 15 = .ok (.invokespecial 79, 3) := by decide +kernel
theorem dX6_limit_18 : decode cX6_limit 18 = .ok (.athrow, 1) := by decide +kernel
theorem dX6_limit_19 : decode cX6_limit 19 = .ok (.aload_n 0, 1) := by decide +kernel
theorem dX6_limit_20 : decode cX6_limit 20 = .ok (.getfield 26, 3) := by decide +kernel
theorem dX6_limit_23 : decode cX6_limit 23 = .ok (.getfield 130, 3) := by decide +kernel
theorem dX6_limit_26 : decode cX6_limit 26 = .ok (.iload_n 1, 1) := by decide +kernel
theorem dX6_limit_27 : decode cX6_limit 27 = .ok (.iaload, 1) := by decide +kernel
theorem dX6_limit_28 : decode cX6_limit 28 = .ok (.ireturn, 1) := by decide +kernel
theorem dX6_sheet_0 : decode cX6_sheet 0 = .ok (.aload_n 0, 1) := by decide +kernel
theorem dX6_sheet_1 : decode cX6_sheet 1 = .ok (.iload_n 1, 1) := by decide +kernel
theorem dX6_sheet_2 : decode cX6_sheet 2 = .ok (.invokevirtual 134, 3) := by decide +kernel
theorem dX6_sheet_5 : decode cX6_sheet 5 = .ok (.ifCond .ne 13, 3) := by decide +kernel
theorem dX6_sheet_8 : decode cX6_sheet 8 = .ok (.new 138, 3) := by decide +kernel
theorem dX6_sheet_11 : decode cX6_sheet 11 = .ok (.dup, 1) := by decide +kernel
theorem dX6_sheet_12 : decode cX6_sheet 12 = .ok (.ldc 140, 2) := by decide +kernel
theorem dX6_sheet_14 : decode cX6_sheet 14 = .ok (.invokespecial 142, 3) := by decide +kernel
theorem dX6_sheet_17 : decode cX6_sheet 17 = .ok (.athrow, 1) := by decide +kernel
theorem dX6_sheet_18 : decode cX6_sheet 18 = .ok (.iload_n 2, 1) := by decide +kernel
theorem dX6_sheet_19 : decode cX6_sheet 19 = .ok (.tableswitch 125 0 7 #[45, 55, 65, 75, 85, 95, 105, 115], 45) := by decide +kernel
theorem dX6_sheet_64 : decode cX6_sheet 64 = .ok (.aload_n 0, 1) := by decide +kernel
theorem dX6_sheet_65 : decode cX6_sheet 65 = .ok (.getfield 19, 3) := by decide +kernel
theorem dX6_sheet_68 : decode cX6_sheet 68 = .ok (.getfield 143, 3) := by decide +kernel
theorem dX6_sheet_71 : decode cX6_sheet 71 = .ok (.iload_n 1, 1) := by decide +kernel
theorem dX6_sheet_72 : decode cX6_sheet 72 = .ok (.iaload, 1) := by decide +kernel
theorem dX6_sheet_73 : decode cX6_sheet 73 = .ok (.ireturn, 1) := by decide +kernel
theorem dX6_sheet_74 : decode cX6_sheet 74 = .ok (.aload_n 0, 1) := by decide +kernel
theorem dX6_sheet_75 : decode cX6_sheet 75 = .ok (.getfield 19, 3) := by decide +kernel
theorem dX6_sheet_78 : decode cX6_sheet 78 = .ok (.getfield 146, 3) := by decide +kernel
theorem dX6_sheet_81 : decode cX6_sheet 81 = .ok (.iload_n 1, 1) := by decide +kernel
theorem dX6_sheet_82 : decode cX6_sheet 82 = .ok (.iaload, 1) := by decide +kernel
theorem dX6_sheet_83 : decode cX6_sheet 83 = .ok (.ireturn, 1) := by decide +kernel
theorem dX6_sheet_84 : decode cX6_sheet 84 = .ok (.aload_n 0, 1) := by decide +kernel
theorem dX6_sheet_85 : decode cX6_sheet 85 = .ok (.getfield 26, 3) := by decide +kernel
theorem dX6_sheet_88 : decode cX6_sheet 88 = .ok (.getfield 149, 3) := by decide +kernel
theorem dX6_sheet_91 : decode cX6_sheet 91 = .ok (.iload_n 1, 1) := by decide +kernel
theorem dX6_sheet_92 : decode cX6_sheet 92 = .ok (.iaload, 1) := by decide +kernel
theorem dX6_sheet_93 : decode cX6_sheet 93 = .ok (.ireturn, 1) := by decide +kernel
theorem dX6_sheet_94 : decode cX6_sheet 94 = .ok (.aload_n 0, 1) := by decide +kernel
theorem dX6_sheet_95 : decode cX6_sheet 95 = .ok (.getfield 19, 3) := by decide +kernel
theorem dX6_sheet_98 : decode cX6_sheet 98 = .ok (.getfield 152, 3) := by decide +kernel
theorem dX6_sheet_101 : decode cX6_sheet 101 = .ok (.iload_n 1, 1) := by decide +kernel
theorem dX6_sheet_102 : decode cX6_sheet 102 = .ok (.iaload, 1) := by decide +kernel
theorem dX6_sheet_103 : decode cX6_sheet 103 = .ok (.ireturn, 1) := by decide +kernel
theorem dX6_sheet_104 : decode cX6_sheet 104 = .ok (.aload_n 0, 1) := by decide +kernel
theorem dX6_sheet_105 : decode cX6_sheet 105 = .ok (.getfield 19, 3) := by decide +kernel
theorem dX6_sheet_108 : decode cX6_sheet 108 = .ok (.getfield 155, 3) := by decide +kernel
theorem dX6_sheet_111 : decode cX6_sheet 111 = .ok (.iload_n 1, 1) := by decide +kernel
theorem dX6_sheet_112 : decode cX6_sheet 112 = .ok (.iaload, 1) := by decide +kernel
theorem dX6_sheet_113 : decode cX6_sheet 113 = .ok (.ireturn, 1) := by decide +kernel
theorem dX6_sheet_114 : decode cX6_sheet 114 = .ok (.aload_n 0, 1) := by decide +kernel
theorem dX6_sheet_115 : decode cX6_sheet 115 = .ok (.getfield 19, 3) := by decide +kernel
theorem dX6_sheet_118 : decode cX6_sheet 118 = .ok (.getfield 158, 3) := by decide +kernel
theorem dX6_sheet_121 : decode cX6_sheet 121 = .ok (.iload_n 1, 1) := by decide +kernel
theorem dX6_sheet_122 : decode cX6_sheet 122 = .ok (.iaload, 1) := by decide +kernel
theorem dX6_sheet_123 : decode cX6_sheet 123 = .ok (.ireturn, 1) := by decide +kernel
theorem dX6_sheet_124 : decode cX6_sheet 124 = .ok (.aload_n 0, 1) := by decide +kernel
theorem dX6_sheet_125 : decode cX6_sheet 125 = .ok (.getfield 26, 3) := by decide +kernel
theorem dX6_sheet_128 : decode cX6_sheet 128 = .ok (.getfield 161, 3) := by decide +kernel
theorem dX6_sheet_131 : decode cX6_sheet 131 = .ok (.iload_n 1, 1) := by decide +kernel
theorem dX6_sheet_132 : decode cX6_sheet 132 = .ok (.iaload, 1) := by decide +kernel
theorem dX6_sheet_133 : decode cX6_sheet 133 = .ok (.ireturn, 1) := by decide +kernel
theorem dX6_sheet_134 : decode cX6_sheet 134 = .ok (.aload_n 0, 1) := by decide +kernel
theorem dX6_sheet_135 : decode cX6_sheet 135 = .ok (.getfield 26, 3) := by decide +kernel
theorem dX6_sheet_138 : decode cX6_sheet 138 = .ok (.getfield 164, 3) := by decide +kernel
theorem dX6_sheet_141 : decode cX6_sheet 141 = .ok (.iload_n 1, 1) := by decide +kernel
theorem dX6_sheet_142 : decode cX6_sheet 142 = .ok (.iaload, 1) := by decide +kernel
theorem dX6_sheet_143 : decode cX6_sheet 143 = .ok (.ireturn, 1) := by decide +kernel
theorem dX6_sheet_144 : decode cX6_sheet 144 = .ok (.new 75, 3) := by decide +kernel
theorem dX6_sheet_147 : decode cX6_sheet 147 = .ok (.dup, 1) := by decide +kernel
theorem dX6_sheet_148 : decode cX6_sheet 148 = .ok (.ldc 128, 2) := by decide +kernel
theorem dX6_sheet_150 : decode cX6_sheet 150 = .ok (.invokespecial 79, 3) := by decide +kernel
theorem dX6_sheet_153 : decode cX6_sheet 153 = .ok (.athrow, 1) := by decide +kernel
theorem dX6_stack_0 : decode cX6_stack 0 = .ok (.iload_n 1, 1) := by decide +kernel
theorem dX6_stack_1 : decode cX6_stack 1 = .ok (.ifCond .lt 23, 3) := by decide +kernel
theorem dX6_stack_4 : decode cX6_stack 4 = .ok (.iload_n 1, 1) := by decide +kernel
theorem dX6_stack_5 : decode cX6_stack 5 = .ok (.aload_n 0, 1) := by decide +kernel
theorem dX6_stack_6 : decode cX6_stack 6 = .ok (.invokevirtual 93, 3) := by decide +kernel
theorem dX6_stack_9 : decode cX6_stack 9 = .ok (.if_icmp .ge 15, 3) := by decide +kernel
theorem dX6_stack_12 : decode cX6_stack 12 = .ok (.aload_n 0, 1) := by decide +kernel
theorem dX6_stack_13 : decode cX6_stack 13 = .ok (.getfield 26, 3) := by decide +kernel
theorem dX6_stack_16 : decode cX6_stack 16 = .ok (.getfield 167, 3) := by decide +kernel
theorem dX6_stack_19 : decode cX6_stack 19 = .ok (.iload_n 1, 1) := by decide +kernel
theorem dX6_stack_20 : decode cX6_stack 20 = .ok (.iadd, 1) := by decide +kernel
theorem dX6_stack_21 : decode cX6_stack 21 = .ok (.goto 4, 3) := by decide +kernel
theorem dX6_stack_24 : decode cX6_stack 24 = .ok (.iconst (-1), 1) := by decide +kernel
theorem dX6_stack_25 : decode cX6_stack 25 = .ok (.ireturn, 1) := by decide +kernel
theorem dX6_path_0 : decode cX6_path 0 = .ok (.iload_n 1, 1) := by decide +kernel
theorem dX6_path_1 : decode cX6_path 1 = .ok (.ifCond .lt 23, 3) := by decide +kernel
theorem dX6_path_4 : decode cX6_path 4 = .ok (.iload_n 1, 1) := by decide +kernel
theorem dX6_path_5 : decode cX6_path 5 = .ok (.aload_n 0, 1) := by decide +kernel
theorem dX6_path_6 : decode cX6_path 6 = .ok (.getfield 26, 3) := by decide +kernel
theorem dX6_path_9 : decode cX6_path 9 = .ok (.getfield 97, 3) := by decide +kernel
theorem dX6_path_12 : decode cX6_path 12 = .ok (.if_icmp .ge 12, 3) := by decide +kernel
theorem dX6_path_15 : decode cX6_path 15 = .ok (.aload_n 0, 1) := by decide +kernel
theorem dX6_path_16 : decode cX6_path 16 = .ok (.invokevirtual 170, 3) := by decide +kernel
theorem dX6_path_19 : decode cX6_path 19 = .ok (.iload_n 1, 1) := by decide +kernel
theorem dX6_path_20 : decode cX6_path 20 = .ok (.iadd, 1) := by decide +kernel
theorem dX6_path_21 : decode cX6_path 21 = .ok (.goto 4, 3) := by decide +kernel
theorem dX6_path_24 : decode cX6_path 24 = .ok (.iconst (-1), 1) := by decide +kernel
theorem dX6_path_25 : decode cX6_path 25 = .ok (.ireturn, 1) := by decide +kernel
theorem dX6_page_0 : decode cX6_page 0 = .ok (.iload_n 1, 1) := by decide +kernel
theorem dX6_page_1 : decode cX6_page 1 = .ok (.ifCond .lt 14, 3) := by decide +kernel
theorem dX6_page_4 : decode cX6_page 4 = .ok (.iload_n 1, 1) := by decide +kernel
theorem dX6_page_5 : decode cX6_page 5 = .ok (.aload_n 0, 1) := by decide +kernel
theorem dX6_page_6 : decode cX6_page 6 = .ok (.getfield 26, 3) := by decide +kernel
theorem dX6_page_9 : decode cX6_page 9 = .ok (.getfield 103, 3) := by decide +kernel
theorem dX6_page_12 : decode cX6_page 12 = .ok (.if_icmp .lt 13, 3) := by decide +kernel
theorem dX6_page_15 : decode cX6_page 15 = .ok (.new 138, 3) := by decide +kernel
theorem dX6_page_18 : decode cX6_page 18 = .ok (.dup, 1) := by decide +kernel
theorem dX6_page_19 : decode cX6_page 19 = .ok (.ldc 173, 2) := by decide +kernel
theorem dX6_page_21 : decode cX6_page 21 = .ok (.invokespecial 142, 3) := by decide +kernel
theorem dX6_page_24 : decode cX6_page 24 = .ok (.athrow, 1) := by decide +kernel
theorem dX6_page_25 : decode cX6_page 25 = .ok (.iload_n 2, 1) := by decide +kernel
theorem dX6_page_26 : decode cX6_page 26 = .ok (.tableswitch 56 0 2 #[26, 36, 46], 26) := by decide +kernel
theorem dX6_page_52 : decode cX6_page 52 = .ok (.aload_n 0, 1) := by decide +kernel
theorem dX6_page_53 : decode cX6_page 53 = .ok (.getfield 26, 3) := by decide +kernel
theorem dX6_page_56 : decode cX6_page 56 = .ok (.getfield 175, 3) := by decide +kernel
theorem dX6_page_59 : decode cX6_page 59 = .ok (.iload_n 1, 1) := by decide +kernel
theorem dX6_page_60 : decode cX6_page 60 = .ok (.iaload, 1) := by decide +kernel
theorem dX6_page_61 : decode cX6_page 61 = .ok (.ireturn, 1) := by decide +kernel
theorem dX6_page_62 : decode cX6_page 62 = .ok (.aload_n 0, 1) := by decide +kernel
theorem dX6_page_63 : decode cX6_page 63 = .ok (.getfield 26, 3) := by decide +kernel
theorem dX6_page_66 : decode cX6_page 66 = .ok (.getfield 178, 3) := by decide +kernel
theorem dX6_page_69 : decode cX6_page 69 = .ok (.iload_n 1, 1) := by decide +kernel
theorem dX6_page_70 : decode cX6_page 70 = .ok (.iaload, 1) := by decide +kernel
theorem dX6_page_71 : decode cX6_page 71 = .ok (.ireturn, 1) := by decide +kernel
theorem dX6_page_72 : decode cX6_page 72 = .ok (.aload_n 0, 1) := by decide +kernel
theorem dX6_page_73 : decode cX6_page 73 = .ok (.getfield 26, 3) := by decide +kernel
theorem dX6_page_76 : decode cX6_page 76 = .ok (.getfield 181, 3) := by decide +kernel
theorem dX6_page_79 : decode cX6_page 79 = .ok (.iload_n 1, 1) := by decide +kernel
theorem dX6_page_80 : decode cX6_page 80 = .ok (.iaload, 1) := by decide +kernel
theorem dX6_page_81 : decode cX6_page 81 = .ok (.ireturn, 1) := by decide +kernel
theorem dX6_page_82 : decode cX6_page 82 = .ok (.new 75, 3) := by decide +kernel
theorem dX6_page_85 : decode cX6_page 85 = .ok (.dup, 1) := by decide +kernel
theorem dX6_page_86 : decode cX6_page 86 = .ok (.ldc 128, 2) := by decide +kernel
theorem dX6_page_88 : decode cX6_page 88 = .ok (.invokespecial 79, 3) := by decide +kernel
theorem dX6_page_91 : decode cX6_page 91 = .ok (.athrow, 1) := by decide +kernel
theorem dX6_job_0 : decode cX6_job 0 = .ok (.iload_n 1, 1) := by decide +kernel
theorem dX6_job_1 : decode cX6_job 1 = .ok (.ifCond .lt 14, 3) := by decide +kernel
theorem dX6_job_4 : decode cX6_job 4 = .ok (.iload_n 1, 1) := by decide +kernel
theorem dX6_job_5 : decode cX6_job 5 = .ok (.aload_n 0, 1) := by decide +kernel
theorem dX6_job_6 : decode cX6_job 6 = .ok (.getfield 26, 3) := by decide +kernel
theorem dX6_job_9 : decode cX6_job 9 = .ok (.getfield 106, 3) := by decide +kernel
theorem dX6_job_12 : decode cX6_job 12 = .ok (.if_icmp .lt 13, 3) := by decide +kernel
theorem dX6_job_15 : decode cX6_job 15 = .ok (.new 138, 3) := by decide +kernel
theorem dX6_job_18 : decode cX6_job 18 = .ok (.dup, 1) := by decide +kernel
theorem dX6_job_19 : decode cX6_job 19 = .ok (.ldc 184, 2) := by decide +kernel
theorem dX6_job_21 : decode cX6_job 21 = .ok (.invokespecial 142, 3) := by decide +kernel
theorem dX6_job_24 : decode cX6_job 24 = .ok (.athrow, 1) := by decide +kernel
theorem dX6_job_25 : decode cX6_job 25 = .ok (.iload_n 2, 1) := by decide +kernel
theorem dX6_job_26 : decode cX6_job 26 = .ok (.tableswitch 67 0 3 #[30, 40, 49, 58], 30) := by decide +kernel
theorem dX6_job_56 : decode cX6_job 56 = .ok (.aload_n 0, 1) := by decide +kernel
theorem dX6_job_57 : decode cX6_job 57 = .ok (.getfield 26, 3) := by decide +kernel
theorem dX6_job_60 : decode cX6_job 60 = .ok (.getfield 186, 3) := by decide +kernel
theorem dX6_job_63 : decode cX6_job 63 = .ok (.iload_n 1, 1) := by decide +kernel
theorem dX6_job_64 : decode cX6_job 64 = .ok (.iaload, 1) := by decide +kernel
theorem dX6_job_65 : decode cX6_job 65 = .ok (.ireturn, 1) := by decide +kernel
theorem dX6_job_66 : decode cX6_job 66 = .ok (.aload_n 0, 1) := by decide +kernel
theorem dX6_job_67 : decode cX6_job 67 = .ok (.getfield 26, 3) := by decide +kernel
theorem dX6_job_70 : decode cX6_job 70 = .ok (.iload_n 1, 1) := by decide +kernel
theorem dX6_job_71 : decode cX6_job 71 = .ok (.invokevirtual 189, 3) := by decide +kernel
theorem dX6_job_74 : decode cX6_job 74 = .ok (.ireturn, 1) := by decide +kernel
theorem dX6_job_75 : decode cX6_job 75 = .ok (.aload_n 0, 1) := by decide +kernel
theorem dX6_job_76 : decode cX6_job 76 = .ok (.getfield 26, 3) := by decide +kernel
theorem dX6_job_79 : decode cX6_job 79 = .ok (.iload_n 1, 1) := by decide +kernel
theorem dX6_job_80 : decode cX6_job 80 = .ok (.invokevirtual 192, 3) := by decide +kernel
theorem dX6_job_83 : decode cX6_job 83 = .ok (.ireturn, 1) := by decide +kernel
theorem dX6_job_84 : decode cX6_job 84 = .ok (.aload_n 0, 1) := by decide +kernel
theorem dX6_job_85 : decode cX6_job 85 = .ok (.getfield 26, 3) := by decide +kernel
theorem dX6_job_88 : decode cX6_job 88 = .ok (.iload_n 1, 1) := by decide +kernel
theorem dX6_job_89 : decode cX6_job 89 = .ok (.invokevirtual 195, 3) := by decide +kernel
theorem dX6_job_92 : decode cX6_job 92 = .ok (.ireturn, 1) := by decide +kernel
theorem dX6_job_93 : decode cX6_job 93 = .ok (.new 75, 3) := by decide +kernel
theorem dX6_job_96 : decode cX6_job 96 = .ok (.dup, 1) := by decide +kernel
theorem dX6_job_97 : decode cX6_job 97 = .ok (.ldc 128, 2) := by decide +kernel
theorem dX6_job_99 : decode cX6_job 99 = .ok (.invokespecial 79, 3) := by decide +kernel
theorem dX6_job_102 : decode cX6_job 102 = .ok (.athrow, 1) := by decide +kernel
theorem dX6_isHalf_0 : decode cX6_isHalf 0 = .ok (.aload_n 0, 1) := by decide +kernel
theorem dX6_isHalf_1 : decode cX6_isHalf 1 = .ok (.iload_n 1, 1) := by decide +kernel
theorem dX6_isHalf_2 : decode cX6_isHalf 2 = .ok (.invokevirtual 134, 3) := by decide +kernel
theorem dX6_isHalf_5 : decode cX6_isHalf 5 = .ok (.ifCond .ne 13, 3) := by decide +kernel
theorem dX6_isHalf_8 : decode cX6_isHalf 8 = .ok (.new 138, 3) := by decide +kernel
theorem dX6_isHalf_11 : decode cX6_isHalf 11 = .ok (.dup, 1) := by decide +kernel
theorem dX6_isHalf_12 : decode cX6_isHalf 12 = .ok (.ldc 140, 2) := by decide +kernel
theorem dX6_isHalf_14 : decode cX6_isHalf 14 = .ok (.invokespecial 142, 3) := by decide +kernel
theorem dX6_isHalf_17 : decode cX6_isHalf 17 = .ok (.athrow, 1) := by decide +kernel
theorem dX6_isHalf_18 : decode cX6_isHalf 18 = .ok (.aload_n 0, 1) := by decide +kernel
theorem dX6_isHalf_19 : decode cX6_isHalf 19 = .ok (.getfield 26, 3) := by decide +kernel
theorem dX6_isHalf_22 : decode cX6_isHalf 22 = .ok (.getfield 198, 3) := by decide +kernel
theorem dX6_isHalf_25 : decode cX6_isHalf 25 = .ok (.iload_n 1, 1) := by decide +kernel
theorem dX6_isHalf_26 : decode cX6_isHalf 26 = .ok (.iaload, 1) := by decide +kernel
theorem dX6_isHalf_27 : decode cX6_isHalf 27 = .ok (.ifCond .eq 7, 3) := by decide +kernel
theorem dX6_isHalf_30 : decode cX6_isHalf 30 = .ok (.iconst 1, 1) := by decide +kernel
theorem dX6_isHalf_31 : decode cX6_isHalf 31 = .ok (.goto 4, 3) := by decide +kernel
theorem dX6_isHalf_34 : decode cX6_isHalf 34 = .ok (.iconst 0, 1) := by decide +kernel
theorem dX6_isHalf_35 : decode cX6_isHalf 35 = .ok (.ireturn, 1) := by decide +kernel
theorem dX6_next_0 : decode cX6_next 0 = .ok (.iload_n 1, 1) := by decide +kernel
theorem dX6_next_1 : decode cX6_next 1 = .ok (.ifCond .lt 8, 3) := by decide +kernel
theorem dX6_next_4 : decode cX6_next 4 = .ok (.iload_n 1, 1) := by decide +kernel
theorem dX6_next_5 : decode cX6_next 5 = .ok (.iconst 4, 1) := by decide +kernel
theorem dX6_next_6 : decode cX6_next 6 = .ok (.if_icmp .le 13, 3) := by decide +kernel
theorem dX6_next_9 : decode cX6_next 9 = .ok (.new 75, 3) := by decide +kernel
theorem dX6_next_12 : decode cX6_next 12 = .ok (.dup, 1) := by decide +kernel
theorem dX6_next_13 : decode cX6_next 13 = .ok (.ldc 128, 2) := by decide +kernel
theorem dX6_next_15 : decode cX6_next 15 = .ok (.invokespecial 79, 3) := by decide +kernel
theorem dX6_next_18 : decode cX6_next 18 = .ok (.athrow, 1) := by decide +kernel
theorem dX6_next_19 : decode cX6_next 19 = .ok (.aload_n 0, 1) := by decide +kernel
theorem dX6_next_20 : decode cX6_next 20 = .ok (.invokevirtual 93, 3) := by decide +kernel
theorem dX6_next_23 : decode cX6_next 23 = .ok (.ifCond .ne 5, 3) := by decide +kernel
theorem dX6_next_26 : decode cX6_next 26 = .ok (.iconst (-1), 1) := by decide +kernel
theorem dX6_next_27 : decode cX6_next 27 = .ok (.ireturn, 1) := by decide +kernel
theorem dX6_next_28 : decode cX6_next 28 = .ok (.aload_n 0, 1) := by decide +kernel
theorem dX6_next_29 : decode cX6_next 29 = .ok (.getfield 44, 3) := by decide +kernel
theorem dX6_next_32 : decode cX6_next 32 = .ok (.aload_n 0, 1) := by decide +kernel
theorem dX6_next_33 : decode cX6_next 33 = .ok (.getfield 19, 3) := by decide +kernel
theorem dX6_next_36 : decode cX6_next 36 = .ok (.aload_n 0, 1) := by decide +kernel
theorem dX6_next_37 : decode cX6_next 37 = .ok (.getfield 26, 3) := by decide +kernel
theorem dX6_next_40 : decode cX6_next 40 = .ok (.aload_n 0, 1) := by decide +kernel
theorem dX6_next_41 : decode cX6_next 41 = .ok (.getfield 26, 3) := by decide +kernel
theorem dX6_next_44 : decode cX6_next 44 = .ok (.getfield 167, 3) := by decide +kernel
theorem dX6_next_47 : decode cX6_next 47 = .ok (.invokevirtual 201, 3) := by decide +kernel
theorem dX6_next_50 : decode cX6_next 50 = .ok (.iload_n 1, 1) := by decide +kernel
theorem dX6_next_51 : decode cX6_next 51 = .ok (.tableswitch 84 0 3 #[29, 37, 45, 53], 29) := by decide +kernel
theorem dX6_next_80 : decode cX6_next 80 = .ok (.aload_n 0, 1) := by decide +kernel
theorem dX6_next_81 : decode cX6_next 81 = .ok (.getfield 44, 3) := by decide +kernel
theorem dX6_next_84 : decode cX6_next 84 = .ok (.getfield 205, 3) := by decide +kernel
theorem dX6_next_87 : decode cX6_next 87 = .ok (.ireturn, 1) := by decide +kernel
theorem dX6_next_88 : decode cX6_next 88 = .ok (.aload_n 0, 1) := by decide +kernel
theorem dX6_next_89 : decode cX6_next 89 = .ok (.getfield 44, 3) := by decide +kernel
theorem dX6_next_92 : decode cX6_next 92 = .ok (.getfield 206, 3) := by decide +kernel
theorem dX6_next_95 : decode cX6_next 95 = .ok (.ireturn, 1) := by decide +kernel
theorem dX6_next_96 : decode cX6_next 96 = .ok (.aload_n 0, 1) := by decide +kernel
theorem dX6_next_97 : decode cX6_next 97 = .ok (.getfield 44, 3) := by decide +kernel
theorem dX6_next_100 : decode cX6_next 100 = .ok (.getfield 209, 3) := by decide +kernel
theorem dX6_next_103 : decode cX6_next 103 = .ok (.ireturn, 1) := by decide +kernel
theorem dX6_next_104 : decode cX6_next 104 = .ok (.aload_n 0, 1) := by decide +kernel
theorem dX6_next_105 : decode cX6_next 105 = .ok (.aload_n 0, 1) := by decide +kernel
theorem dX6_next_106 : decode cX6_next 106 = .ok (.getfield 26, 3) := by decide +kernel
theorem dX6_next_109 : decode cX6_next 109 = .ok (.getfield 130, 3) := by decide +kernel
theorem dX6_next_112 : decode cX6_next 112 = .ok (.iconst 0, 1) := by decide +kernel
theorem dX6_next_113 : decode cX6_next 113 = .ok (.iaload, 1) := by decide +kernel
theorem dX6_next_114 : decode cX6_next 114 = .ok (.aload_n 0, 1) := by decide +kernel
theorem dX6_next_115 : decode cX6_next 115 = .ok (.getfield 26, 3) := by decide +kernel
theorem dX6_next_118 : decode cX6_next 118 = .ok (.getfield 113, 3) := by decide +kernel
theorem dX6_next_121 : decode cX6_next 121 = .ok (.aload_n 0, 1) := by decide +kernel
theorem dX6_next_122 : decode cX6_next 122 = .ok (.getfield 19, 3) := by decide +kernel
theorem dX6_next_125 : decode cX6_next 125 = .ok (.getfield 62, 3) := by decide +kernel
theorem dX6_next_128 : decode cX6_next 128 = .ok (.invokevirtual 117, 3) := by decide +kernel
theorem dX6_next_131 : decode cX6_next 131 = .ok (.invokevirtual 211, 3) := by decide +kernel
theorem dX6_next_134 : decode cX6_next 134 = .ok (.ireturn, 1) := by decide +kernel
theorem dX6_next_135 : decode cX6_next 135 = .ok (.aload_n 0, 1) := by decide +kernel
theorem dX6_next_136 : decode cX6_next 136 = .ok (.aload_n 0, 1) := by decide +kernel
theorem dX6_next_137 : decode cX6_next 137 = .ok (.getfield 44, 3) := by decide +kernel
theorem dX6_next_140 : decode cX6_next 140 = .ok (.getfield 215, 3) := by decide +kernel
theorem dX6_next_143 : decode cX6_next 143 = .ok (.invokevirtual 218, 3) := by decide +kernel
theorem dX6_next_146 : decode cX6_next 146 = .ok (.ireturn, 1) := by decide +kernel
theorem dX6_ahead_0 : decode cX6_ahead 0 = .ok (.iload_n 1, 1) := by decide +kernel
theorem dX6_ahead_1 : decode cX6_ahead 1 = .ok (.getstatic 221, 3) := by decide +kernel
theorem dX6_ahead_4 : decode cX6_ahead 4 = .ok (.iconst 0, 1) := by decide +kernel
theorem dX6_ahead_5 : decode cX6_ahead 5 = .ok (.iaload, 1) := by decide +kernel
theorem dX6_ahead_6 : decode cX6_ahead 6 = .ok (.if_icmp .lt 12, 3) := by decide +kernel
theorem dX6_ahead_9 : decode cX6_ahead 9 = .ok (.iload_n 1, 1) := by decide +kernel
theorem dX6_ahead_10 : decode cX6_ahead 10 = .ok (.getstatic 224, 3) := by decide +kernel
theorem dX6_ahead_13 : decode cX6_ahead 13 = .ok (.iconst 0, 1) := by decide +kernel
theorem dX6_ahead_14 : decode cX6_ahead 14 = .ok (.iaload, 1) := by decide +kernel
theorem dX6_ahead_15 : decode cX6_ahead 15 = .ok (.if_icmp .le 13, 3) := by decide +kernel
theorem dX6_ahead_18 : decode cX6_ahead 18 = .ok (.new 75, 3) := by decide +kernel
theorem dX6_ahead_21 : decode cX6_ahead 21 = .ok (.dup, 1) := by decide +kernel
theorem dX6_ahead_22 : decode cX6_ahead 22 = .ok (.ldc 227, 2) := by decide +kernel
theorem dX6_ahead_24 : decode cX6_ahead 24 = .ok (.invokespecial 79, 3) := by decide +kernel
theorem dX6_ahead_27 : decode cX6_ahead 27 = .ok (.athrow, 1) := by decide +kernel
theorem dX6_ahead_28 : decode cX6_ahead 28 = .ok (.iload_n 2, 1) := by decide +kernel
theorem dX6_ahead_29 : decode cX6_ahead 29 = .ok (.ifCond .lt 8, 3) := by decide +kernel
theorem dX6_ahead_32 : decode cX6_ahead 32 = .ok (.iload_n 2, 1) := by decide +kernel
theorem dX6_ahead_33 : decode cX6_ahead 33 = .ok (.iconst 4, 1) := by decide +kernel
theorem dX6_ahead_34 : decode cX6_ahead 34 = .ok (.if_icmp .le 13, 3) := by decide +kernel
theorem dX6_ahead_37 : decode cX6_ahead 37 = .ok (.new 75, 3) := by decide +kernel
theorem dX6_ahead_40 : decode cX6_ahead 40 = .ok (.dup, 1) := by decide +kernel
theorem dX6_ahead_41 : decode cX6_ahead 41 = .ok (.ldc 128, 2) := by decide +kernel
theorem dX6_ahead_43 : decode cX6_ahead 43 = .ok (.invokespecial 79, 3) := by decide +kernel
theorem dX6_ahead_46 : decode cX6_ahead 46 = .ok (.athrow, 1) := by decide +kernel
theorem dX6_ahead_47 : decode cX6_ahead 47 = .ok (.aload_n 0, 1) := by decide +kernel
theorem dX6_ahead_48 : decode cX6_ahead 48 = .ok (.iload_n 1, 1) := by decide +kernel
theorem dX6_ahead_49 : decode cX6_ahead 49 = .ok (.invokevirtual 229, 3) := by decide +kernel
theorem dX6_ahead_52 : decode cX6_ahead 52 = .ok (.iload_n 2, 1) := by decide +kernel
theorem dX6_ahead_53 : decode cX6_ahead 53 = .ok (.tableswitch 63 0 3 #[31, 39, 47, 55], 31) := by decide +kernel
theorem dX6_ahead_84 : decode cX6_ahead 84 = .ok (.aload_n 0, 1) := by decide +kernel
theorem dX6_ahead_85 : decode cX6_ahead 85 = .ok (.getfield 51, 3) := by decide +kernel
theorem dX6_ahead_88 : decode cX6_ahead 88 = .ok (.getfield 232, 3) := by decide +kernel
theorem dX6_ahead_91 : decode cX6_ahead 91 = .ok (.ireturn, 1) := by decide +kernel
theorem dX6_ahead_92 : decode cX6_ahead 92 = .ok (.aload_n 0, 1) := by decide +kernel
theorem dX6_ahead_93 : decode cX6_ahead 93 = .ok (.getfield 51, 3) := by decide +kernel
theorem dX6_ahead_96 : decode cX6_ahead 96 = .ok (.getfield 235, 3) := by decide +kernel
theorem dX6_ahead_99 : decode cX6_ahead 99 = .ok (.ireturn, 1) := by decide +kernel
theorem dX6_ahead_100 : decode cX6_ahead 100 = .ok (.aload_n 0, 1) := by decide +kernel
theorem dX6_ahead_101 : decode cX6_ahead 101 = .ok (.getfield 51, 3) := by decide +kernel
theorem dX6_ahead_104 : decode cX6_ahead 104 = .ok (.getfield 238, 3) := by decide +kernel
theorem dX6_ahead_107 : decode cX6_ahead 107 = .ok (.ireturn, 1) := by decide +kernel
theorem dX6_ahead_108 : decode cX6_ahead 108 = .ok (.aload_n 0, 1) := by decide +kernel
theorem dX6_ahead_109 : decode cX6_ahead 109 = .ok (.getfield 51, 3) := by decide +kernel
theorem dX6_ahead_112 : decode cX6_ahead 112 = .ok (.getfield 241, 3) := by decide +kernel
theorem dX6_ahead_115 : decode cX6_ahead 115 = .ok (.ireturn, 1) := by decide +kernel
theorem dX6_ahead_116 : decode cX6_ahead 116 = .ok (.aload_n 0, 1) := by decide +kernel
theorem dX6_ahead_117 : decode cX6_ahead 117 = .ok (.getfield 51, 3) := by decide +kernel
theorem dX6_ahead_120 : decode cX6_ahead 120 = .ok (.getfield 242, 3) := by decide +kernel
theorem dX6_ahead_123 : decode cX6_ahead 123 = .ok (.ireturn, 1) := by decide +kernel
theorem dX6_bestPercent_0 : decode cX6_bestPercent 0 = .ok (.getstatic 221, 3) := by decide +kernel
theorem dX6_bestPercent_3 : decode cX6_bestPercent 3 = .ok (.iconst 0, 1) := by decide +kernel
theorem dX6_bestPercent_4 : decode cX6_bestPercent 4 = .ok (.iaload, 1) := by decide +kernel
theorem dX6_bestPercent_5 : decode cX6_bestPercent 5 = .ok (.istore_n 1, 1) := by decide +kernel
theorem dX6_bestPercent_6 : decode cX6_bestPercent 6 = .ok (.ldc 245, 2) := by decide +kernel
theorem dX6_bestPercent_8 : decode cX6_bestPercent 8 = .ok (.istore_n 2, 1) := by decide +kernel
theorem dX6_bestPercent_9 : decode cX6_bestPercent 9 = .ok (.getstatic 221, 3) := by decide +kernel
theorem dX6_bestPercent_12 : decode cX6_bestPercent 12 = .ok (.iconst 0, 1) := by decide +kernel
theorem dX6_bestPercent_13 : decode cX6_bestPercent 13 = .ok (.iaload, 1) := by decide +kernel
theorem dX6_bestPercent_14 : decode cX6_bestPercent 14 = .ok (.istore_n 3, 1) := by decide +kernel
theorem dX6_bestPercent_15 : decode cX6_bestPercent 15 = .ok (.getstatic 221, 3) := by decide +kernel
theorem dX6_bestPercent_18 : decode cX6_bestPercent 18 = .ok (.iconst 0, 1) := by decide +kernel
theorem dX6_bestPercent_19 : decode cX6_bestPercent 19 = .ok (.iaload, 1) := by decide +kernel
theorem dX6_bestPercent_20 : decode cX6_bestPercent 20 = .ok (.istore 4, 2) := by decide +kernel
theorem dX6_bestPercent_22 : decode cX6_bestPercent 22 = .ok (.iload 4, 2) := by decide +kernel
theorem dX6_bestPercent_24 : decode cX6_bestPercent 24 = .ok (.getstatic 224, 3) := by decide +kernel
theorem dX6_bestPercent_27 : decode cX6_bestPercent 27 = .ok (.iconst 0, 1) := by decide +kernel
theorem dX6_bestPercent_28 : decode cX6_bestPercent 28 = .ok (.iaload, 1) := by decide +kernel
theorem dX6_bestPercent_29 : decode cX6_bestPercent 29 = .ok (.if_icmp .gt 61, 3) := by decide +kernel
theorem dX6_bestPercent_32 : decode cX6_bestPercent 32 = .ok (.iload 4, 2) := by decide +kernel
theorem dX6_bestPercent_34 : decode cX6_bestPercent 34 = .ok (.iload_n 3, 1) := by decide +kernel
theorem dX6_bestPercent_35 : decode cX6_bestPercent 35 = .ok (.if_icmp .ge 6, 3) := by decide +kernel
theorem dX6_bestPercent_38 : decode cX6_bestPercent 38 = .ok (.goto 46, 3) := by decide +kernel
theorem dX6_bestPercent_41 : decode cX6_bestPercent 41 = .ok (.aload_n 0, 1) := by decide +kernel
theorem dX6_bestPercent_42 : decode cX6_bestPercent 42 = .ok (.iload 4, 2) := by decide +kernel
theorem dX6_bestPercent_44 : decode cX6_bestPercent 44 = .ok (.invokevirtual 229, 3) := by decide +kernel
theorem dX6_bestPercent_47 : decode cX6_bestPercent 47 = .ok (.aload_n 0, 1) := by decide +kernel
theorem dX6_bestPercent_48 : decode cX6_bestPercent 48 = .ok (.getfield 51, 3) := by decide +kernel
theorem dX6_bestPercent_51 : decode cX6_bestPercent 51 = .ok (.getfield 246, 3) := by decide +kernel
theorem dX6_bestPercent_54 : decode cX6_bestPercent 54 = .ok (.istore_n 3, 1) := by decide +kernel
theorem dX6_bestPercent_55 : decode cX6_bestPercent 55 = .ok (.aload_n 0, 1) := by decide +kernel
theorem dX6_bestPercent_56 : decode cX6_bestPercent 56 = .ok (.getfield 51, 3) := by decide +kernel
theorem dX6_bestPercent_59 : decode cX6_bestPercent 59 = .ok (.getfield 235, 3) := by decide +kernel
theorem dX6_bestPercent_62 : decode cX6_bestPercent 62 = .ok (.aload_n 0, 1) := by decide +kernel
theorem dX6_bestPercent_63 : decode cX6_bestPercent 63 = .ok (.getfield 51, 3) := by decide +kernel
theorem dX6_bestPercent_66 : decode cX6_bestPercent 66 = .ok (.getfield 238, 3) := by decide +kernel
theorem dX6_bestPercent_69 : decode cX6_bestPercent 69 = .ok (.iadd, 1) := by decide +kernel
theorem dX6_bestPercent_70 : decode cX6_bestPercent 70 = .ok (.istore 5, 2) := by decide +kernel
theorem dX6_bestPercent_72 : decode cX6_bestPercent 72 = .ok (.iload 5, 2) := by decide +kernel
theorem dX6_bestPercent_74 : decode cX6_bestPercent 74 = .ok (.iload_n 2, 1) := by decide +kernel
theorem dX6_bestPercent_75 : decode cX6_bestPercent 75 = .ok (.if_icmp .ge 9, 3) := by decide +kernel
theorem dX6_bestPercent_78 : decode cX6_bestPercent 78 = .ok (.iload 5, 2) := by decide +kernel
theorem dX6_bestPercent_80 : decode cX6_bestPercent 80 = .ok (.istore_n 2, 1) := by decide +kernel
theorem dX6_bestPercent_81 : decode cX6_bestPercent 81 = .ok (.iload 4, 2) := by decide +kernel
theorem dX6_bestPercent_83 : decode cX6_bestPercent 83 = .ok (.istore_n 1, 1) := by decide +kernel
theorem dX6_bestPercent_84 : decode cX6_bestPercent 84 = .ok (.iinc 4 1, 3) := by decide +kernel
theorem dX6_bestPercent_87 : decode cX6_bestPercent 87 = .ok (.goto (-65), 3) := by decide +kernel
theorem dX6_bestPercent_90 : decode cX6_bestPercent 90 = .ok (.iload_n 1, 1) := by decide +kernel
theorem dX6_bestPercent_91 : decode cX6_bestPercent 91 = .ok (.ireturn, 1) := by decide +kernel
theorem dX6_blankFor_0 : decode cX6_blankFor 0 = .ok (.iload_n 1, 1) := by decide +kernel
theorem dX6_blankFor_1 : decode cX6_blankFor 1 = .ok (.ifCond .lt 9, 3) := by decide +kernel
theorem dX6_blankFor_4 : decode cX6_blankFor 4 = .ok (.iload_n 1, 1) := by decide +kernel
theorem dX6_blankFor_5 : decode cX6_blankFor 5 = .ok (.bipush 80, 2) := by decide +kernel
theorem dX6_blankFor_7 : decode cX6_blankFor 7 = .ok (.if_icmp .le 13, 3) := by decide +kernel
theorem dX6_blankFor_10 : decode cX6_blankFor 10 = .ok (.new 75, 3) := by decide +kernel
theorem dX6_blankFor_13 : decode cX6_blankFor 13 = .ok (.dup, 1) := by decide +kernel
theorem dX6_blankFor_14 : decode cX6_blankFor 14 = .ok (.ldc 249, 2) := by decide +kernel
theorem dX6_blankFor_16 : decode cX6_blankFor 16 = .ok (.invokespecial 79, 3) := by decide +kernel
theorem dX6_blankFor_19 : decode cX6_blankFor 19 = .ok (.athrow, 1) := by decide +kernel
theorem dX6_blankFor_20 : decode cX6_blankFor 20 = .ok (.getstatic 221, 3) := by decide +kernel
theorem dX6_blankFor_23 : decode cX6_blankFor 23 = .ok (.iconst 3, 1) := by decide +kernel
theorem dX6_blankFor_24 : decode cX6_blankFor 24 = .ok (.iaload, 1) := by decide +kernel
theorem dX6_blankFor_25 : decode cX6_blankFor 25 = .ok (.istore_n 2, 1) := by decide +kernel
theorem dX6_blankFor_26 : decode cX6_blankFor 26 = .ok (.getstatic 224, 3) := by decide +kernel
theorem dX6_blankFor_29 : decode cX6_blankFor 29 = .ok (.iconst 3, 1) := by decide +kernel
theorem dX6_blankFor_30 : decode cX6_blankFor 30 = .ok (.iaload, 1) := by decide +kernel
theorem dX6_blankFor_31 : decode cX6_blankFor 31 = .ok (.istore_n 3, 1) := by decide +kernel
theorem dX6_blankFor_32 : decode cX6_blankFor 32 = .ok (.aload_n 0, 1) := by decide +kernel
theorem dX6_blankFor_33 : decode cX6_blankFor 33 = .ok (.getfield 19, 3) := by decide +kernel
theorem dX6_blankFor_36 : decode cX6_blankFor 36 = .ok (.iload_n 3, 1) := by decide +kernel
theorem dX6_blankFor_37 : decode cX6_blankFor 37 = .ok (.invokevirtual 251, 3) := by decide +kernel
theorem dX6_blankFor_40 : decode cX6_blankFor 40 = .ok (.iload_n 1, 1) := by decide +kernel
theorem dX6_blankFor_41 : decode cX6_blankFor 41 = .ok (.if_icmp .ge 5, 3) := by decide +kernel
theorem dX6_blankFor_44 : decode cX6_blankFor 44 = .ok (.iconst (-1), 1) := by decide +kernel
theorem dX6_blankFor_45 : decode cX6_blankFor 45 = .ok (.ireturn, 1) := by decide +kernel
theorem dX6_blankFor_46 : decode cX6_blankFor 46 = .ok (.iconst 0, 1) := by decide +kernel
theorem dX6_blankFor_47 : decode cX6_blankFor 47 = .ok (.istore 4, 2) := by decide +kernel
theorem dX6_blankFor_49 : decode cX6_blankFor 49 = .ok (.iload 4, 2) := by decide +kernel
theorem dX6_blankFor_51 : decode cX6_blankFor 51 = .ok (.bipush 32, 2) := by decide +kernel
theorem dX6_blankFor_53 : decode cX6_blankFor 53 = .ok (.if_icmp .ge 45, 3) := by decide +kernel
theorem dX6_blankFor_56 : decode cX6_blankFor 56 = .ok (.iload_n 2, 1) := by decide +kernel
theorem dX6_blankFor_57 : decode cX6_blankFor 57 = .ok (.iload_n 3, 1) := by decide +kernel
theorem dX6_blankFor_58 : decode cX6_blankFor 58 = .ok (.if_icmp .ge 40, 3) := by decide +kernel
theorem dX6_blankFor_61 : decode cX6_blankFor 61 = .ok (.iload_n 2, 1) := by decide +kernel
theorem dX6_blankFor_62 : decode cX6_blankFor 62 = .ok (.iload_n 3, 1) := by decide +kernel
theorem dX6_blankFor_63 : decode cX6_blankFor 63 = .ok (.iadd, 1) := by decide +kernel
theorem dX6_blankFor_64 : decode cX6_blankFor 64 = .ok (.iconst 2, 1) := by decide +kernel
theorem dX6_blankFor_65 : decode cX6_blankFor 65 = .ok (.idiv, 1) := by decide +kernel
theorem dX6_blankFor_66 : decode cX6_blankFor 66 = .ok (.istore 5, 2) := by decide +kernel
theorem dX6_blankFor_68 : decode cX6_blankFor 68 = .ok (.aload_n 0, 1) := by decide +kernel
theorem dX6_blankFor_69 : decode cX6_blankFor 69 = .ok (.getfield 19, 3) := by decide +kernel
theorem dX6_blankFor_72 : decode cX6_blankFor 72 = .ok (.iload 5, 2) := by decide +kernel
theorem dX6_blankFor_74 : decode cX6_blankFor 74 = .ok (.invokevirtual 251, 3) := by decide +kernel
theorem dX6_blankFor_77 : decode cX6_blankFor 77 = .ok (.iload_n 1, 1) := by decide +kernel
theorem dX6_blankFor_78 : decode cX6_blankFor 78 = .ok (.if_icmp .lt 9, 3) := by decide +kernel
theorem dX6_blankFor_81 : decode cX6_blankFor 81 = .ok (.iload 5, 2) := by decide +kernel
theorem dX6_blankFor_83 : decode cX6_blankFor 83 = .ok (.istore_n 3, 1) := by decide +kernel
theorem dX6_blankFor_84 : decode cX6_blankFor 84 = .ok (.goto 8, 3) := by decide +kernel
theorem dX6_blankFor_87 : decode cX6_blankFor 87 = .ok (.iload 5, 2) := by decide +kernel
theorem dX6_blankFor_89 : decode cX6_blankFor 89 = .ok (.iconst 1, 1) := by decide +kernel
theorem dX6_blankFor_90 : decode cX6_blankFor 90 = .ok (.iadd, 1) := by decide +kernel
theorem dX6_blankFor_91 : decode cX6_blankFor 91 = .ok (.istore_n 2, 1) := by decide +kernel
theorem dX6_blankFor_92 : decode cX6_blankFor 92 = .ok (.iinc 4 1, 3) := by decide +kernel
theorem dX6_blankFor_95 : decode cX6_blankFor 95 = .ok (.goto (-46), 3) := by decide +kernel
theorem dX6_blankFor_98 : decode cX6_blankFor 98 = .ok (.iload_n 2, 1) := by decide +kernel
theorem dX6_blankFor_99 : decode cX6_blankFor 99 = .ok (.ireturn, 1) := by decide +kernel
theorem dX6_account_0 : decode cX6_account 0 = .ok (.iload_n 1, 1) := by decide +kernel
theorem dX6_account_1 : decode cX6_account 1 = .ok (.ifCond .lt 9, 3) := by decide +kernel
theorem dX6_account_4 : decode cX6_account 4 = .ok (.iload_n 1, 1) := by decide +kernel
theorem dX6_account_5 : decode cX6_account 5 = .ok (.bipush 9, 2) := by decide +kernel
theorem dX6_account_7 : decode cX6_account 7 = .ok (.if_icmp .lt 13, 3) := by decide +kernel
theorem dX6_account_10 : decode cX6_account 10 = .ok (.new 75, 3) := by decide +kernel
theorem dX6_account_13 : decode cX6_account 13 = .ok (.dup, 1) := by decide +kernel
theorem dX6_account_14 : decode cX6_account 14 = .ok (.ldc 128, 2) := by decide +kernel
theorem dX6_account_16 : decode cX6_account 16 = .ok (.invokespecial 79, 3) := by decide +kernel
theorem dX6_account_19 : decode cX6_account 19 = .ok (.athrow, 1) := by decide +kernel
theorem dX6_account_20 : decode cX6_account 20 = .ok (.aload_n 0, 1) := by decide +kernel
theorem dX6_account_21 : decode cX6_account 21 = .ok (.getfield 26, 3) := by decide +kernel
theorem dX6_account_24 : decode cX6_account 24 = .ok (.getfield 254, 3) := by decide +kernel
theorem dX6_account_27 : decode cX6_account 27 = .ok (.iload_n 1, 1) := by decide +kernel
theorem dX6_account_28 : decode cX6_account 28 = .ok (.iaload, 1) := by decide +kernel
theorem dX6_account_29 : decode cX6_account 29 = .ok (.ireturn, 1) := by decide +kernel
theorem dX6_sheetsAt_0 : decode cX6_sheetsAt 0 = .ok (.iload_n 1, 1) := by decide +kernel
theorem dX6_sheetsAt_1 : decode cX6_sheetsAt 1 = .ok (.ifCond .lt 9, 3) := by decide +kernel
theorem dX6_sheetsAt_4 : decode cX6_sheetsAt 4 = .ok (.iload_n 1, 1) := by decide +kernel
theorem dX6_sheetsAt_5 : decode cX6_sheetsAt 5 = .ok (.bipush 6, 2) := by decide +kernel
theorem dX6_sheetsAt_7 : decode cX6_sheetsAt 7 = .ok (.if_icmp .le 14, 3) := by decide +kernel
theorem dX6_sheetsAt_10 : decode cX6_sheetsAt 10 = .ok (.new 75, 3) := by decide +kernel
theorem dX6_sheetsAt_13 : decode cX6_sheetsAt 13 = .ok (.dup, 1) := by decide +kernel
theorem dX6_sheetsAt_14 : decode cX6_sheetsAt 14 = .ok (.ldc_w 257, 3) := by decide +kernel
theorem dX6_sheetsAt_17 : decode cX6_sheetsAt 17 = .ok (.invokespecial 79, 3) := by decide +kernel
theorem dX6_sheetsAt_20 : decode cX6_sheetsAt 20 = .ok (.athrow, 1) := by decide +kernel
theorem dX6_sheetsAt_21 : decode cX6_sheetsAt 21 = .ok (.iconst 0, 1) := by decide +kernel
theorem dX6_sheetsAt_22 : decode cX6_sheetsAt 22 = .ok (.istore_n 2, 1) := by decide +kernel
theorem dX6_sheetsAt_23 : decode cX6_sheetsAt 23 = .ok (.iconst 0, 1) := by decide +kernel
theorem dX6_sheetsAt_24 : decode cX6_sheetsAt 24 = .ok (.istore_n 3, 1) := by decide +kernel
theorem dX6_sheetsAt_25 : decode cX6_sheetsAt 25 = .ok (.iload_n 3, 1) := by decide +kernel
theorem dX6_sheetsAt_26 : decode cX6_sheetsAt 26 = .ok (.aload_n 0, 1) := by decide +kernel
theorem dX6_sheetsAt_27 : decode cX6_sheetsAt 27 = .ok (.getfield 19, 3) := by decide +kernel
theorem dX6_sheetsAt_30 : decode cX6_sheetsAt 30 = .ok (.getfield 90, 3) := by decide +kernel
theorem dX6_sheetsAt_33 : decode cX6_sheetsAt 33 = .ok (.if_icmp .ge 25, 3) := by decide +kernel
theorem dX6_sheetsAt_36 : decode cX6_sheetsAt 36 = .ok (.aload_n 0, 1) := by decide +kernel
theorem dX6_sheetsAt_37 : decode cX6_sheetsAt 37 = .ok (.getfield 26, 3) := by decide +kernel
theorem dX6_sheetsAt_40 : decode cX6_sheetsAt 40 = .ok (.getfield 164, 3) := by decide +kernel
theorem dX6_sheetsAt_43 : decode cX6_sheetsAt 43 = .ok (.iload_n 3, 1) := by decide +kernel
theorem dX6_sheetsAt_44 : decode cX6_sheetsAt 44 = .ok (.iaload, 1) := by decide +kernel
theorem dX6_sheetsAt_45 : decode cX6_sheetsAt 45 = .ok (.iload_n 1, 1) := by decide +kernel
theorem dX6_sheetsAt_46 : decode cX6_sheetsAt 46 = .ok (.if_icmp .ne 6, 3) := by decide +kernel
theorem dX6_sheetsAt_49 : decode cX6_sheetsAt 49 = .ok (.iinc 2 1, 3) := by decide +kernel
theorem dX6_sheetsAt_52 : decode cX6_sheetsAt 52 = .ok (.iinc 3 1, 3) := by decide +kernel
theorem dX6_sheetsAt_55 : decode cX6_sheetsAt 55 = .ok (.goto (-30), 3) := by decide +kernel
theorem dX6_sheetsAt_58 : decode cX6_sheetsAt 58 = .ok (.iload_n 2, 1) := by decide +kernel
theorem dX6_sheetsAt_59 : decode cX6_sheetsAt 59 = .ok (.ireturn, 1) := by decide +kernel
theorem dX6_meanInk_0 : decode cX6_meanInk 0 = .ok (.aload_n 0, 1) := by decide +kernel
theorem dX6_meanInk_1 : decode cX6_meanInk 1 = .ok (.getfield 26, 3) := by decide +kernel
theorem dX6_meanInk_4 : decode cX6_meanInk 4 = .ok (.getfield 103, 3) := by decide +kernel
theorem dX6_meanInk_7 : decode cX6_meanInk 7 = .ok (.ifCond .gt 5, 3) := by decide +kernel
theorem dX6_meanInk_10 : decode cX6_meanInk 10 = .ok (.dconst 0, 1) := by decide +kernel
theorem dX6_meanInk_11 : decode cX6_meanInk 11 = .ok (.dreturn, 1) := by decide +kernel
theorem dX6_meanInk_12 : decode cX6_meanInk 12 = .ok (.iconst 0, 1) := by decide +kernel
theorem dX6_meanInk_13 : decode cX6_meanInk 13 = .ok (.istore_n 1, 1) := by decide +kernel
theorem dX6_meanInk_14 : decode cX6_meanInk 14 = .ok (.iconst 0, 1) := by decide +kernel
theorem dX6_meanInk_15 : decode cX6_meanInk 15 = .ok (.istore_n 2, 1) := by decide +kernel
theorem dX6_meanInk_16 : decode cX6_meanInk 16 = .ok (.iload_n 2, 1) := by decide +kernel
theorem dX6_meanInk_17 : decode cX6_meanInk 17 = .ok (.aload_n 0, 1) := by decide +kernel
theorem dX6_meanInk_18 : decode cX6_meanInk 18 = .ok (.getfield 26, 3) := by decide +kernel
theorem dX6_meanInk_21 : decode cX6_meanInk 21 = .ok (.getfield 103, 3) := by decide +kernel
theorem dX6_meanInk_24 : decode cX6_meanInk 24 = .ok (.if_icmp .ge 37, 3) := by decide +kernel
theorem dX6_meanInk_27 : decode cX6_meanInk 27 = .ok (.iload_n 1, 1) := by decide +kernel
theorem dX6_meanInk_28 : decode cX6_meanInk 28 = .ok (.aload_n 0, 1) := by decide +kernel
theorem dX6_meanInk_29 : decode cX6_meanInk 29 = .ok (.getfield 19, 3) := by decide +kernel
theorem dX6_meanInk_32 : decode cX6_meanInk 32 = .ok (.aload_n 0, 1) := by decide +kernel
theorem dX6_meanInk_33 : decode cX6_meanInk 33 = .ok (.getfield 26, 3) := by decide +kernel
theorem dX6_meanInk_36 : decode cX6_meanInk 36 = .ok (.getfield 175, 3) := by decide +kernel
theorem dX6_meanInk_39 : decode cX6_meanInk 39 = .ok (.iload_n 2, 1) := by decide +kernel
theorem dX6_meanInk_40 : decode cX6_meanInk 40 = .ok (.iaload, 1) := by decide +kernel
theorem dX6_meanInk_41 : decode cX6_meanInk 41 = .ok (.aload_n 0, 1) := by decide +kernel
theorem dX6_meanInk_42 : decode cX6_meanInk 42 = .ok (.getfield 26, 3) := by decide +kernel
theorem dX6_meanInk_45 : decode cX6_meanInk 45 = .ok (.getfield 178, 3) := by decide +kernel
theorem dX6_meanInk_48 : decode cX6_meanInk 48 = .ok (.iload_n 2, 1) := by decide +kernel
theorem dX6_meanInk_49 : decode cX6_meanInk 49 = .ok (.iaload, 1) := by decide +kernel
theorem dX6_meanInk_50 : decode cX6_meanInk 50 = .ok (.invokevirtual 259, 3) := by decide +kernel
theorem dX6_meanInk_53 : decode cX6_meanInk 53 = .ok (.iadd, 1) := by decide +kernel
theorem dX6_meanInk_54 : decode cX6_meanInk 54 = .ok (.istore_n 1, 1) := by decide +kernel
theorem dX6_meanInk_55 : decode cX6_meanInk 55 = .ok (.iinc 2 1, 3) := by decide +kernel
theorem dX6_meanInk_58 : decode cX6_meanInk 58 = .ok (.goto (-42), 3) := by decide +kernel
theorem dX6_meanInk_61 : decode cX6_meanInk 61 = .ok (.iload_n 1, 1) := by decide +kernel
theorem dX6_meanInk_62 : decode cX6_meanInk 62 = .ok (.i2d, 1) := by decide +kernel
theorem dX6_meanInk_63 : decode cX6_meanInk 63 = .ok (.aload_n 0, 1) := by decide +kernel
theorem dX6_meanInk_64 : decode cX6_meanInk 64 = .ok (.getfield 26, 3) := by decide +kernel
theorem dX6_meanInk_67 : decode cX6_meanInk 67 = .ok (.getfield 103, 3) := by decide +kernel
theorem dX6_meanInk_70 : decode cX6_meanInk 70 = .ok (.i2d, 1) := by decide +kernel
theorem dX6_meanInk_71 : decode cX6_meanInk 71 = .ok (.ddiv, 1) := by decide +kernel
theorem dX6_meanInk_72 : decode cX6_meanInk 72 = .ok (.dreturn, 1) := by decide +kernel
theorem dX6_feed_0 : decode cX6_feed 0 = .ok (.iload_n 1, 1) := by decide +kernel
theorem dX6_feed_1 : decode cX6_feed 1 = .ok (.iconst 1, 1) := by decide +kernel
theorem dX6_feed_2 : decode cX6_feed 2 = .ok (.if_icmp .lt 9, 3) := by decide +kernel
theorem dX6_feed_5 : decode cX6_feed 5 = .ok (.iload_n 1, 1) := by decide +kernel
theorem dX6_feed_6 : decode cX6_feed 6 = .ok (.bipush 40, 2) := by decide +kernel
theorem dX6_feed_8 : decode cX6_feed 8 = .ok (.if_icmp .le 14, 3) := by decide +kernel
theorem dX6_feed_11 : decode cX6_feed 11 = .ok (.new 75, 3) := by decide +kernel
theorem dX6_feed_14 : decode cX6_feed 14 = .ok (.dup, 1) := by decide +kernel
theorem dX6_feed_15 : decode cX6_feed 15 = .ok (.ldc_w 262, 3) := by decide +kernel
theorem dX6_feed_18 : decode cX6_feed 18 = .ok (.invokespecial 79, 3) := by decide +kernel
theorem dX6_feed_21 : decode cX6_feed 21 = .ok (.athrow, 1) := by decide +kernel
theorem dX6_feed_22 : decode cX6_feed 22 = .ok (.aload_n 0, 1) := by decide +kernel
theorem dX6_feed_23 : decode cX6_feed 23 = .ok (.invokevirtual 264, 3) := by decide +kernel
theorem dX6_feed_26 : decode cX6_feed 26 = .ok (.ifCond .eq 14, 3) := by decide +kernel
theorem dX6_feed_29 : decode cX6_feed 29 = .ok (.new 268, 3) := by decide +kernel
theorem dX6_feed_32 : decode cX6_feed 32 = .ok (.dup, 1) := by decide +kernel
theorem dX6_feed_33 : decode cX6_feed 33 = .ok (.ldc_w 270, 3) := by decide +kernel
theorem dX6_feed_36 : decode cX6_feed 36 = .ok (.invokespecial 272, 3) := by decide +kernel
theorem dX6_feed_39 : decode cX6_feed 39 = .ok (.athrow, 1) := by decide +kernel
theorem dX6_feed_40 : decode cX6_feed 40 = .ok (.aload_n 0, 1) := by decide +kernel
theorem dX6_feed_41 : decode cX6_feed 41 = .ok (.invokevirtual 273, 3) := by decide +kernel
theorem dX6_feed_44 : decode cX6_feed 44 = .ok (.iconst 0, 1) := by decide +kernel
theorem dX6_feed_45 : decode cX6_feed 45 = .ok (.istore_n 2, 1) := by decide +kernel
theorem dX6_feed_46 : decode cX6_feed 46 = .ok (.iconst 0, 1) := by decide +kernel
theorem dX6_feed_47 : decode cX6_feed 47 = .ok (.istore_n 3, 1) := by decide +kernel
theorem dX6_feed_48 : decode cX6_feed 48 = .ok (.iload_n 3, 1) := by decide +kernel
theorem dX6_feed_49 : decode cX6_feed 49 = .ok (.iload_n 1, 1) := by decide +kernel
theorem dX6_feed_50 : decode cX6_feed 50 = .ok (.if_icmp .ge 33, 3) := by decide +kernel
theorem dX6_feed_53 : decode cX6_feed 53 = .ok (.aload_n 0, 1) := by decide +kernel
theorem dX6_feed_54 : decode cX6_feed 54 = .ok (.invokevirtual 264, 3) := by decide +kernel
theorem dX6_feed_57 : decode cX6_feed 57 = .ok (.ifCond .ne 26, 3) := by decide +kernel
theorem dX6_feed_60 : decode cX6_feed 60 = .ok (.aload_n 0, 1) := by decide +kernel
theorem dX6_feed_61 : decode cX6_feed 61 = .ok (.invokevirtual 93, 3) := by decide +kernel
theorem dX6_feed_64 : decode cX6_feed 64 = .ok (.ifCond .le 19, 3) := by decide +kernel
theorem dX6_feed_67 : decode cX6_feed 67 = .ok (.aload_n 0, 1) := by decide +kernel
theorem dX6_feed_68 : decode cX6_feed 68 = .ok (.invokevirtual 276, 3) := by decide +kernel
theorem dX6_feed_71 : decode cX6_feed 71 = .ok (.ifCond .eq 6, 3) := by decide +kernel
theorem dX6_feed_74 : decode cX6_feed 74 = .ok (.iinc 2 1, 3) := by decide +kernel
theorem dX6_feed_77 : decode cX6_feed 77 = .ok (.iinc 3 1, 3) := by decide +kernel
theorem dX6_feed_80 : decode cX6_feed 80 = .ok (.goto (-32), 3) := by decide +kernel
theorem dX6_feed_83 : decode cX6_feed 83 = .ok (.iload_n 2, 1) := by decide +kernel
theorem dX6_feed_84 : decode cX6_feed 84 = .ok (.ireturn, 1) := by decide +kernel
theorem dX6_putBack_0 : decode cX6_putBack 0 = .ok (.aload_n 0, 1) := by decide +kernel
theorem dX6_putBack_1 : decode cX6_putBack 1 = .ok (.invokevirtual 264, 3) := by decide +kernel
theorem dX6_putBack_4 : decode cX6_putBack 4 = .ok (.ifCond .ne 14, 3) := by decide +kernel
theorem dX6_putBack_7 : decode cX6_putBack 7 = .ok (.new 268, 3) := by decide +kernel
theorem dX6_putBack_10 : decode cX6_putBack 10 = .ok (.dup, 1) := by decide +kernel
theorem dX6_putBack_11 : decode cX6_putBack 11 = .ok (.ldc_w 279, 3) := by decide +kernel
theorem dX6_putBack_14 : decode cX6_putBack 14 = .ok (.invokespecial 272, 3) := by decide +kernel
theorem dX6_putBack_17 : decode cX6_putBack 17 = .ok (.athrow, 1) := by decide +kernel
theorem dX6_putBack_18 : decode cX6_putBack 18 = .ok (.aload_n 0, 1) := by decide +kernel
theorem dX6_putBack_19 : decode cX6_putBack 19 = .ok (.invokevirtual 273, 3) := by decide +kernel
theorem dX6_putBack_22 : decode cX6_putBack 22 = .ok (.aload_n 0, 1) := by decide +kernel
theorem dX6_putBack_23 : decode cX6_putBack 23 = .ok (.invokevirtual 170, 3) := by decide +kernel
theorem dX6_putBack_26 : decode cX6_putBack 26 = .ok (.istore_n 1, 1) := by decide +kernel
theorem dX6_putBack_27 : decode cX6_putBack 27 = .ok (.iload_n 1, 1) := by decide +kernel
theorem dX6_putBack_28 : decode cX6_putBack 28 = .ok (.istore_n 2, 1) := by decide +kernel
theorem dX6_putBack_29 : decode cX6_putBack 29 = .ok (.aload_n 0, 1) := by decide +kernel
theorem dX6_putBack_30 : decode cX6_putBack 30 = .ok (.iload_n 2, 1) := by decide +kernel
theorem dX6_putBack_31 : decode cX6_putBack 31 = .ok (.invokevirtual 134, 3) := by decide +kernel
theorem dX6_putBack_34 : decode cX6_putBack 34 = .ok (.ifCond .eq 40, 3) := by decide +kernel
theorem dX6_putBack_37 : decode cX6_putBack 37 = .ok (.iload_n 2, 1) := by decide +kernel
theorem dX6_putBack_38 : decode cX6_putBack 38 = .ok (.aload_n 0, 1) := by decide +kernel
theorem dX6_putBack_39 : decode cX6_putBack 39 = .ok (.getfield 26, 3) := by decide +kernel
theorem dX6_putBack_42 : decode cX6_putBack 42 = .ok (.getfield 167, 3) := by decide +kernel
theorem dX6_putBack_45 : decode cX6_putBack 45 = .ok (.if_icmp .ge 29, 3) := by decide +kernel
theorem dX6_putBack_48 : decode cX6_putBack 48 = .ok (.aload_n 0, 1) := by decide +kernel
theorem dX6_putBack_49 : decode cX6_putBack 49 = .ok (.getfield 26, 3) := by decide +kernel
theorem dX6_putBack_52 : decode cX6_putBack 52 = .ok (.getfield 164, 3) := by decide +kernel
theorem dX6_putBack_55 : decode cX6_putBack 55 = .ok (.iload_n 2, 1) := by decide +kernel
theorem dX6_putBack_56 : decode cX6_putBack 56 = .ok (.iconst 0, 1) := by decide +kernel
theorem dX6_putBack_57 : decode cX6_putBack 57 = .ok (.iastore, 1) := by decide +kernel
theorem dX6_putBack_58 : decode cX6_putBack 58 = .ok (.aload_n 0, 1) := by decide +kernel
theorem dX6_putBack_59 : decode cX6_putBack 59 = .ok (.getfield 26, 3) := by decide +kernel
theorem dX6_putBack_62 : decode cX6_putBack 62 = .ok (.getfield 161, 3) := by decide +kernel
theorem dX6_putBack_65 : decode cX6_putBack 65 = .ok (.iload_n 2, 1) := by decide +kernel
theorem dX6_putBack_66 : decode cX6_putBack 66 = .ok (.iconst (-1), 1) := by decide +kernel
theorem dX6_putBack_67 : decode cX6_putBack 67 = .ok (.iastore, 1) := by decide +kernel
theorem dX6_putBack_68 : decode cX6_putBack 68 = .ok (.iinc 2 1, 3) := by decide +kernel
theorem dX6_putBack_71 : decode cX6_putBack 71 = .ok (.goto (-42), 3) := by decide +kernel
theorem dX6_putBack_74 : decode cX6_putBack 74 = .ok (.aload_n 0, 1) := by decide +kernel
theorem dX6_putBack_75 : decode cX6_putBack 75 = .ok (.iload_n 1, 1) := by decide +kernel
theorem dX6_putBack_76 : decode cX6_putBack 76 = .ok (.invokevirtual 134, 3) := by decide +kernel
theorem dX6_putBack_79 : decode cX6_putBack 79 = .ok (.ifCond .eq 16, 3) := by decide +kernel
theorem dX6_putBack_82 : decode cX6_putBack 82 = .ok (.aload_n 0, 1) := by decide +kernel
theorem dX6_putBack_83 : decode cX6_putBack 83 = .ok (.getfield 26, 3) := by decide +kernel
theorem dX6_putBack_86 : decode cX6_putBack 86 = .ok (.getfield 149, 3) := by decide +kernel
theorem dX6_putBack_89 : decode cX6_putBack 89 = .ok (.iload_n 1, 1) := by decide +kernel
theorem dX6_putBack_90 : decode cX6_putBack 90 = .ok (.dup2, 1) := by decide +kernel
theorem dX6_putBack_91 : decode cX6_putBack 91 = .ok (.iaload, 1) := by decide +kernel
theorem dX6_putBack_92 : decode cX6_putBack 92 = .ok (.iconst 2, 1) := by decide +kernel
theorem dX6_putBack_93 : decode cX6_putBack 93 = .ok (.idiv, 1) := by decide +kernel
theorem dX6_putBack_94 : decode cX6_putBack 94 = .ok (.iastore, 1) := by decide +kernel
theorem dX6_putBack_95 : decode cX6_putBack 95 = .ok (.aload_n 0, 1) := by decide +kernel
theorem dX6_putBack_96 : decode cX6_putBack 96 = .ok (.getfield 26, 3) := by decide +kernel
theorem dX6_putBack_99 : decode cX6_putBack 99 = .ok (.bipush 7, 2) := by decide +kernel
theorem dX6_putBack_101 : decode cX6_putBack 101 = .ok (.aload_n 0, 1) := by decide +kernel
theorem dX6_putBack_102 : decode cX6_putBack 102 = .ok (.getfield 26, 3) := by decide +kernel
theorem dX6_putBack_105 : decode cX6_putBack 105 = .ok (.getfield 97, 3) := by decide +kernel
theorem dX6_putBack_108 : decode cX6_putBack 108 = .ok (.invokevirtual 281, 3) := by decide +kernel
theorem dX6_putBack_111 : decode cX6_putBack 111 = .ok (.aload_n 0, 1) := by decide +kernel
theorem dX6_putBack_112 : decode cX6_putBack 112 = .ok (.getfield 26, 3) := by decide +kernel
theorem dX6_putBack_115 : decode cX6_putBack 115 = .ok (.iload_n 1, 1) := by decide +kernel
theorem dX6_putBack_116 : decode cX6_putBack 116 = .ok (.putfield 167, 3) := by decide +kernel
theorem dX6_putBack_119 : decode cX6_putBack 119 = .ok (.aload_n 0, 1) := by decide +kernel
theorem dX6_putBack_120 : decode cX6_putBack 120 = .ok (.invokevirtual 285, 3) := by decide +kernel
theorem dX6_putBack_123 : decode cX6_putBack 123 = .ok (.aload_n 0, 1) := by decide +kernel
theorem dX6_putBack_124 : decode cX6_putBack 124 = .ok (.invokevirtual 93, 3) := by decide +kernel
theorem dX6_putBack_127 : decode cX6_putBack 127 = .ok (.ireturn, 1) := by decide +kernel
theorem dX6_remove_0 : decode cX6_remove 0 = .ok (.aload_n 0, 1) := by decide +kernel
theorem dX6_remove_1 : decode cX6_remove 1 = .ok (.invokevirtual 264, 3) := by decide +kernel
theorem dX6_remove_4 : decode cX6_remove 4 = .ok (.ifCond .ne 14, 3) := by decide +kernel
theorem dX6_remove_7 : decode cX6_remove 7 = .ok (.new 268, 3) := by decide +kernel
theorem dX6_remove_10 : decode cX6_remove 10 = .ok (.dup, 1) := by decide +kernel
theorem dX6_remove_11 : decode cX6_remove 11 = .ok (.ldc_w 279, 3) := by decide +kernel
theorem dX6_remove_14 : decode cX6_remove 14 = .ok (.invokespecial 272, 3) := by decide +kernel
theorem dX6_remove_17 : decode cX6_remove 17 = .ok (.athrow, 1) := by decide +kernel
theorem dX6_remove_18 : decode cX6_remove 18 = .ok (.aload_n 0, 1) := by decide +kernel
theorem dX6_remove_19 : decode cX6_remove 19 = .ok (.invokevirtual 273, 3) := by decide +kernel
theorem dX6_remove_22 : decode cX6_remove 22 = .ok (.aload_n 0, 1) := by decide +kernel
theorem dX6_remove_23 : decode cX6_remove 23 = .ok (.invokevirtual 170, 3) := by decide +kernel
theorem dX6_remove_26 : decode cX6_remove 26 = .ok (.istore_n 1, 1) := by decide +kernel
theorem dX6_remove_27 : decode cX6_remove 27 = .ok (.aload_n 0, 1) := by decide +kernel
theorem dX6_remove_28 : decode cX6_remove 28 = .ok (.iload_n 1, 1) := by decide +kernel
theorem dX6_remove_29 : decode cX6_remove 29 = .ok (.invokevirtual 134, 3) := by decide +kernel
theorem dX6_remove_32 : decode cX6_remove 32 = .ok (.ifCond .eq 59, 3) := by decide +kernel
theorem dX6_remove_35 : decode cX6_remove 35 = .ok (.iload_n 1, 1) := by decide +kernel
theorem dX6_remove_36 : decode cX6_remove 36 = .ok (.aload_n 0, 1) := by decide +kernel
theorem dX6_remove_37 : decode cX6_remove 37 = .ok (.getfield 26, 3) := by decide +kernel
theorem dX6_remove_40 : decode cX6_remove 40 = .ok (.getfield 167, 3) := by decide +kernel
theorem dX6_remove_43 : decode cX6_remove 43 = .ok (.if_icmp .ge 48, 3) := by decide +kernel
theorem dX6_remove_46 : decode cX6_remove 46 = .ok (.aload_n 0, 1) := by decide +kernel
theorem dX6_remove_47 : decode cX6_remove 47 = .ok (.getfield 26, 3) := by decide +kernel
theorem dX6_remove_50 : decode cX6_remove 50 = .ok (.getfield 164, 3) := by decide +kernel
theorem dX6_remove_53 : decode cX6_remove 53 = .ok (.iload_n 1, 1) := by decide +kernel
theorem dX6_remove_54 : decode cX6_remove 54 = .ok (.bipush 6, 2) := by decide +kernel
theorem dX6_remove_56 : decode cX6_remove 56 = .ok (.iastore, 1) := by decide +kernel
theorem dX6_remove_57 : decode cX6_remove 57 = .ok (.aload_n 0, 1) := by decide +kernel
theorem dX6_remove_58 : decode cX6_remove 58 = .ok (.getfield 26, 3) := by decide +kernel
theorem dX6_remove_61 : decode cX6_remove 61 = .ok (.bipush 6, 2) := by decide +kernel
theorem dX6_remove_63 : decode cX6_remove 63 = .ok (.aload_n 0, 1) := by decide +kernel
theorem dX6_remove_64 : decode cX6_remove 64 = .ok (.getfield 26, 3) := by decide +kernel
theorem dX6_remove_67 : decode cX6_remove 67 = .ok (.getfield 198, 3) := by decide +kernel
theorem dX6_remove_70 : decode cX6_remove 70 = .ok (.iload_n 1, 1) := by decide +kernel
theorem dX6_remove_71 : decode cX6_remove 71 = .ok (.iaload, 1) := by decide +kernel
theorem dX6_remove_72 : decode cX6_remove 72 = .ok (.invokevirtual 281, 3) := by decide +kernel
theorem dX6_remove_75 : decode cX6_remove 75 = .ok (.aload_n 0, 1) := by decide +kernel
theorem dX6_remove_76 : decode cX6_remove 76 = .ok (.getfield 26, 3) := by decide +kernel
theorem dX6_remove_79 : decode cX6_remove 79 = .ok (.getfield 198, 3) := by decide +kernel
theorem dX6_remove_82 : decode cX6_remove 82 = .ok (.iload_n 1, 1) := by decide +kernel
theorem dX6_remove_83 : decode cX6_remove 83 = .ok (.iconst 0, 1) := by decide +kernel
theorem dX6_remove_84 : decode cX6_remove 84 = .ok (.iastore, 1) := by decide +kernel
theorem dX6_remove_85 : decode cX6_remove 85 = .ok (.iinc 1 1, 3) := by decide +kernel
theorem dX6_remove_88 : decode cX6_remove 88 = .ok (.goto (-61), 3) := by decide +kernel
theorem dX6_remove_91 : decode cX6_remove 91 = .ok (.aload_n 0, 1) := by decide +kernel
theorem dX6_remove_92 : decode cX6_remove 92 = .ok (.getfield 26, 3) := by decide +kernel
theorem dX6_remove_95 : decode cX6_remove 95 = .ok (.getfield 97, 3) := by decide +kernel
theorem dX6_remove_98 : decode cX6_remove 98 = .ok (.istore_n 1, 1) := by decide +kernel
theorem dX6_remove_99 : decode cX6_remove 99 = .ok (.aload_n 0, 1) := by decide +kernel
theorem dX6_remove_100 : decode cX6_remove 100 = .ok (.invokevirtual 285, 3) := by decide +kernel
theorem dX6_remove_103 : decode cX6_remove 103 = .ok (.iload_n 1, 1) := by decide +kernel
theorem dX6_remove_104 : decode cX6_remove 104 = .ok (.ireturn, 1) := by decide +kernel
theorem dX6_accept_0 : decode cX6_accept 0 = .ok (.aload_n 0, 1) := by decide +kernel
theorem dX6_accept_1 : decode cX6_accept 1 = .ok (.invokevirtual 264, 3) := by decide +kernel
theorem dX6_accept_4 : decode cX6_accept 4 = .ok (.ifCond .eq 14, 3) := by decide +kernel
theorem dX6_accept_7 : decode cX6_accept 7 = .ok (.aload_n 0, 1) := by decide +kernel
theorem dX6_accept_8 : decode cX6_accept 8 = .ok (.getfield 26, 3) := by decide +kernel
theorem dX6_accept_11 : decode cX6_accept 11 = .ok (.getfield 100, 3) := by decide +kernel
theorem dX6_accept_14 : decode cX6_accept 14 = .ok (.iconst 3, 1) := by decide +kernel
theorem dX6_accept_15 : decode cX6_accept 15 = .ok (.if_icmp .ne 14, 3) := by decide +kernel
theorem dX6_accept_18 : decode cX6_accept 18 = .ok (.new 268, 3) := by decide +kernel
theorem dX6_accept_21 : decode cX6_accept 21 = .ok (.dup, 1) := by decide +kernel
theorem dX6_accept_22 : decode cX6_accept 22 = .ok (.ldc_w 288, 3) := by decide +kernel
theorem dX6_accept_25 : decode cX6_accept 25 = .ok (.invokespecial 272, 3) := by decide +kernel
theorem dX6_accept_28 : decode cX6_accept 28 = .ok (.athrow, 1) := by decide +kernel
theorem dX6_accept_29 : decode cX6_accept 29 = .ok (.aload_n 0, 1) := by decide +kernel
theorem dX6_accept_30 : decode cX6_accept 30 = .ok (.invokevirtual 273, 3) := by decide +kernel
theorem dX6_accept_33 : decode cX6_accept 33 = .ok (.aload_n 0, 1) := by decide +kernel
theorem dX6_accept_34 : decode cX6_accept 34 = .ok (.getfield 26, 3) := by decide +kernel
theorem dX6_accept_37 : decode cX6_accept 37 = .ok (.bipush 8, 2) := by decide +kernel
theorem dX6_accept_39 : decode cX6_accept 39 = .ok (.iconst 1, 1) := by decide +kernel
theorem dX6_accept_40 : decode cX6_accept 40 = .ok (.invokevirtual 281, 3) := by decide +kernel
theorem dX6_accept_43 : decode cX6_accept 43 = .ok (.aload_n 0, 1) := by decide +kernel
theorem dX6_accept_44 : decode cX6_accept 44 = .ok (.aload_n 0, 1) := by decide +kernel
theorem dX6_accept_45 : decode cX6_accept 45 = .ok (.invokevirtual 170, 3) := by decide +kernel
theorem dX6_accept_48 : decode cX6_accept 48 = .ok (.aload_n 0, 1) := by decide +kernel
theorem dX6_accept_49 : decode cX6_accept 49 = .ok (.getfield 26, 3) := by decide +kernel
theorem dX6_accept_52 : decode cX6_accept 52 = .ok (.getfield 97, 3) := by decide +kernel
theorem dX6_accept_55 : decode cX6_accept 55 = .ok (.invokevirtual 290, 3) := by decide +kernel
theorem dX6_accept_58 : decode cX6_accept 58 = .ok (.istore_n 1, 1) := by decide +kernel
theorem dX6_accept_59 : decode cX6_accept 59 = .ok (.aload_n 0, 1) := by decide +kernel
theorem dX6_accept_60 : decode cX6_accept 60 = .ok (.invokevirtual 285, 3) := by decide +kernel
theorem dX6_accept_63 : decode cX6_accept 63 = .ok (.iload_n 1, 1) := by decide +kernel
theorem dX6_accept_64 : decode cX6_accept 64 = .ok (.ireturn, 1) := by decide +kernel
theorem dX6_endJob_0 : decode cX6_endJob 0 = .ok (.iload_n 1, 1) := by decide +kernel
theorem dX6_endJob_1 : decode cX6_endJob 1 = .ok (.ifCond .lt 10, 3) := by decide +kernel
theorem dX6_endJob_4 : decode cX6_endJob 4 = .ok (.iload_n 1, 1) := by decide +kernel
theorem dX6_endJob_5 : decode cX6_endJob 5 = .ok (.sipush 999, 3) := by decide +kernel
theorem dX6_endJob_8 : decode cX6_endJob 8 = .ok (.if_icmp .le 14, 3) := by decide +kernel
theorem dX6_endJob_11 : decode cX6_endJob 11 = .ok (.new 75, 3) := by decide +kernel
theorem dX6_endJob_14 : decode cX6_endJob 14 = .ok (.dup, 1) := by decide +kernel
theorem dX6_endJob_15 : decode cX6_endJob 15 = .ok (.ldc_w 293, 3) := by decide +kernel
theorem dX6_endJob_18 : decode cX6_endJob 18 = .ok (.invokespecial 79, 3) := by decide +kernel
theorem dX6_endJob_21 : decode cX6_endJob 21 = .ok (.athrow, 1) := by decide +kernel
theorem dX6_endJob_22 : decode cX6_endJob 22 = .ok (.aload_n 0, 1) := by decide +kernel
theorem dX6_endJob_23 : decode cX6_endJob 23 = .ok (.getfield 26, 3) := by decide +kernel
theorem dX6_endJob_26 : decode cX6_endJob 26 = .ok (.getfield 106, 3) := by decide +kernel
theorem dX6_endJob_29 : decode cX6_endJob 29 = .ok (.bipush 99, 2) := by decide +kernel
theorem dX6_endJob_31 : decode cX6_endJob 31 = .ok (.if_icmp .lt 14, 3) := by decide +kernel
theorem dX6_endJob_34 : decode cX6_endJob 34 = .ok (.new 268, 3) := by decide +kernel
theorem dX6_endJob_37 : decode cX6_endJob 37 = .ok (.dup, 1) := by decide +kernel
theorem dX6_endJob_38 : decode cX6_endJob 38 = .ok (.ldc_w 295, 3) := by decide +kernel
theorem dX6_endJob_41 : decode cX6_endJob 41 = .ok (.invokespecial 272, 3) := by decide +kernel
theorem dX6_endJob_44 : decode cX6_endJob 44 = .ok (.athrow, 1) := by decide +kernel
theorem dX6_endJob_45 : decode cX6_endJob 45 = .ok (.aload_n 0, 1) := by decide +kernel
theorem dX6_endJob_46 : decode cX6_endJob 46 = .ok (.invokevirtual 273, 3) := by decide +kernel
theorem dX6_endJob_49 : decode cX6_endJob 49 = .ok (.aload_n 0, 1) := by decide +kernel
theorem dX6_endJob_50 : decode cX6_endJob 50 = .ok (.getfield 26, 3) := by decide +kernel
theorem dX6_endJob_53 : decode cX6_endJob 53 = .ok (.iload_n 1, 1) := by decide +kernel
theorem dX6_endJob_54 : decode cX6_endJob 54 = .ok (.invokevirtual 297, 3) := by decide +kernel
theorem dX6_endJob_57 : decode cX6_endJob 57 = .ok (.aload_n 0, 1) := by decide +kernel
theorem dX6_endJob_58 : decode cX6_endJob 58 = .ok (.getfield 26, 3) := by decide +kernel
theorem dX6_endJob_61 : decode cX6_endJob 61 = .ok (.getfield 106, 3) := by decide +kernel
theorem dX6_endJob_64 : decode cX6_endJob 64 = .ok (.iconst 1, 1) := by decide +kernel
theorem dX6_endJob_65 : decode cX6_endJob 65 = .ok (.isub, 1) := by decide +kernel
theorem dX6_endJob_66 : decode cX6_endJob 66 = .ok (.ireturn, 1) := by decide +kernel
theorem dX6_setLimit_0 : decode cX6_setLimit 0 = .ok (.iload_n 1, 1) := by decide +kernel
theorem dX6_setLimit_1 : decode cX6_setLimit 1 = .ok (.ifCond .lt 8, 3) := by decide +kernel
theorem dX6_setLimit_4 : decode cX6_setLimit 4 = .ok (.iload_n 1, 1) := by decide +kernel
theorem dX6_setLimit_5 : decode cX6_setLimit 5 = .ok (.iconst 4, 1) := by decide +kernel
theorem dX6_setLimit_6 : decode cX6_setLimit 6 = .ok (.if_icmp .lt 13, 3) := by decide +kernel
theorem dX6_setLimit_9 : decode cX6_setLimit 9 = .ok (.new 75, 3) := by decide +kernel
theorem dX6_setLimit_12 : decode cX6_setLimit 12 = .ok (.dup, 1) := by decide +kernel
theorem dX6_setLimit_13 : decode cX6_setLimit 13 = .ok (.ldc 128, 2) := by decide +kernel
theorem dX6_setLimit_15 : decode cX6_setLimit 15 = .ok (.invokespecial 79, 3) := by decide +kernel
theorem dX6_setLimit_18 : decode cX6_setLimit 18 = .ok (.athrow, 1) := by decide +kernel
theorem dX6_setLimit_19 : decode cX6_setLimit 19 = .ok (.iload_n 2, 1) := by decide +kernel
theorem dX6_setLimit_20 : decode cX6_setLimit 20 = .ok (.getstatic 221, 3) := by decide +kernel
theorem dX6_setLimit_23 : decode cX6_setLimit 23 = .ok (.iload_n 1, 1) := by decide +kernel
theorem dX6_setLimit_24 : decode cX6_setLimit 24 = .ok (.iaload, 1) := by decide +kernel
theorem dX6_setLimit_25 : decode cX6_setLimit 25 = .ok (.if_icmp .lt 12, 3) := by decide +kernel
theorem dX6_setLimit_28 : decode cX6_setLimit 28 = .ok (.iload_n 2, 1) := by decide +kernel
theorem dX6_setLimit_29 : decode cX6_setLimit 29 = .ok (.getstatic 224, 3) := by decide +kernel
theorem dX6_setLimit_32 : decode cX6_setLimit 32 = .ok (.iload_n 1, 1) := by decide +kernel
theorem dX6_setLimit_33 : decode cX6_setLimit 33 = .ok (.iaload, 1) := by decide +kernel
theorem dX6_setLimit_34 : decode cX6_setLimit 34 = .ok (.if_icmp .le 14, 3) := by decide +kernel
theorem dX6_setLimit_37 : decode cX6_setLimit 37 = .ok (.new 75, 3) := by decide +kernel
theorem dX6_setLimit_40 : decode cX6_setLimit 40 = .ok (.dup, 1) := by decide +kernel
theorem dX6_setLimit_41 : decode cX6_setLimit 41 = .ok (.ldc_w 300, 3) := by decide +kernel
theorem dX6_setLimit_44 : decode cX6_setLimit 44 = .ok (.invokespecial 79, 3) := by decide +kernel
theorem dX6_setLimit_47 : decode cX6_setLimit 47 = .ok (.athrow, 1) := by decide +kernel
theorem dX6_setLimit_48 : decode cX6_setLimit 48 = .ok (.aload_n 0, 1) := by decide +kernel
theorem dX6_setLimit_49 : decode cX6_setLimit 49 = .ok (.invokevirtual 273, 3) := by decide +kernel
theorem dX6_setLimit_52 : decode cX6_setLimit 52 = .ok (.aload_n 0, 1) := by decide +kernel
theorem dX6_setLimit_53 : decode cX6_setLimit 53 = .ok (.getfield 26, 3) := by decide +kernel
theorem dX6_setLimit_56 : decode cX6_setLimit 56 = .ok (.getfield 130, 3) := by decide +kernel
theorem dX6_setLimit_59 : decode cX6_setLimit 59 = .ok (.iload_n 1, 1) := by decide +kernel
theorem dX6_setLimit_60 : decode cX6_setLimit 60 = .ok (.iaload, 1) := by decide +kernel
theorem dX6_setLimit_61 : decode cX6_setLimit 61 = .ok (.istore_n 3, 1) := by decide +kernel
theorem dX6_setLimit_62 : decode cX6_setLimit 62 = .ok (.aload_n 0, 1) := by decide +kernel
theorem dX6_setLimit_63 : decode cX6_setLimit 63 = .ok (.getfield 26, 3) := by decide +kernel
theorem dX6_setLimit_66 : decode cX6_setLimit 66 = .ok (.getfield 130, 3) := by decide +kernel
theorem dX6_setLimit_69 : decode cX6_setLimit 69 = .ok (.iload_n 1, 1) := by decide +kernel
theorem dX6_setLimit_70 : decode cX6_setLimit 70 = .ok (.iload_n 2, 1) := by decide +kernel
theorem dX6_setLimit_71 : decode cX6_setLimit 71 = .ok (.iastore, 1) := by decide +kernel
theorem dX6_setLimit_72 : decode cX6_setLimit 72 = .ok (.iload_n 3, 1) := by decide +kernel
theorem dX6_setLimit_73 : decode cX6_setLimit 73 = .ok (.ireturn, 1) := by decide +kernel
theorem dX6_setDuplex_0 : decode cX6_setDuplex 0 = .ok (.aload_n 0, 1) := by decide +kernel
theorem dX6_setDuplex_1 : decode cX6_setDuplex 1 = .ok (.invokevirtual 273, 3) := by decide +kernel
theorem dX6_setDuplex_4 : decode cX6_setDuplex 4 = .ok (.aload_n 0, 1) := by decide +kernel
theorem dX6_setDuplex_5 : decode cX6_setDuplex 5 = .ok (.getfield 26, 3) := by decide +kernel
theorem dX6_setDuplex_8 : decode cX6_setDuplex 8 = .ok (.getfield 109, 3) := by decide +kernel
theorem dX6_setDuplex_11 : decode cX6_setDuplex 11 = .ok (.istore_n 2, 1) := by decide +kernel
theorem dX6_setDuplex_12 : decode cX6_setDuplex 12 = .ok (.aload_n 0, 1) := by decide +kernel
theorem dX6_setDuplex_13 : decode cX6_setDuplex 13 = .ok (.getfield 26, 3) := by decide +kernel
theorem dX6_setDuplex_16 : decode cX6_setDuplex 16 = .ok (.iload_n 1, 1) := by decide +kernel
theorem dX6_setDuplex_17 : decode cX6_setDuplex 17 = .ok (.putfield 109, 3) := by decide +kernel
theorem dX6_setDuplex_20 : decode cX6_setDuplex 20 = .ok (.iload_n 2, 1) := by decide +kernel
theorem dX6_setDuplex_21 : decode cX6_setDuplex 21 = .ok (.ireturn, 1) := by decide +kernel
theorem dX6_undo_0 : decode cX6_undo 0 = .ok (.aload_n 0, 1) := by decide +kernel
theorem dX6_undo_1 : decode cX6_undo 1 = .ok (.getfield 125, 3) := by decide +kernel
theorem dX6_undo_4 : decode cX6_undo 4 = .ok (.ifCond .gt 5, 3) := by decide +kernel
theorem dX6_undo_7 : decode cX6_undo 7 = .ok (.iconst (-1), 1) := by decide +kernel
theorem dX6_undo_8 : decode cX6_undo 8 = .ok (.ireturn, 1) := by decide +kernel
theorem dX6_undo_9 : decode cX6_undo 9 = .ok (.aload_n 0, 1) := by decide +kernel
theorem dX6_undo_10 : decode cX6_undo 10 = .ok (.dup, 1) := by decide +kernel
theorem dX6_undo_11 : decode cX6_undo 11 = .ok (.getfield 302, 3) := by decide +kernel
theorem dX6_undo_14 : decode cX6_undo 14 = .ok (.iconst 1, 1) := by decide +kernel
theorem dX6_undo_15 : decode cX6_undo 15 = .ok (.isub, 1) := by decide +kernel
theorem dX6_undo_16 : decode cX6_undo 16 = .ok (.putfield 302, 3) := by decide +kernel
theorem dX6_undo_19 : decode cX6_undo 19 = .ok (.aload_n 0, 1) := by decide +kernel
theorem dX6_undo_20 : decode cX6_undo 20 = .ok (.dup, 1) := by decide +kernel
theorem dX6_undo_21 : decode cX6_undo 21 = .ok (.getfield 125, 3) := by decide +kernel
theorem dX6_undo_24 : decode cX6_undo 24 = .ok (.iconst 1, 1) := by decide +kernel
theorem dX6_undo_25 : decode cX6_undo 25 = .ok (.isub, 1) := by decide +kernel
theorem dX6_undo_26 : decode cX6_undo 26 = .ok (.putfield 125, 3) := by decide +kernel
theorem dX6_undo_29 : decode cX6_undo 29 = .ok (.aload_n 0, 1) := by decide +kernel
theorem dX6_undo_30 : decode cX6_undo 30 = .ok (.getfield 26, 3) := by decide +kernel
theorem dX6_undo_33 : decode cX6_undo 33 = .ok (.aload_n 0, 1) := by decide +kernel
theorem dX6_undo_34 : decode cX6_undo 34 = .ok (.getfield 30, 3) := by decide +kernel
theorem dX6_undo_37 : decode cX6_undo 37 = .ok (.aload_n 0, 1) := by decide +kernel
theorem dX6_undo_38 : decode cX6_undo 38 = .ok (.getfield 302, 3) := by decide +kernel
theorem dX6_undo_41 : decode cX6_undo 41 = .ok (.bipush 10, 2) := by decide +kernel
theorem dX6_undo_43 : decode cX6_undo 43 = .ok (.invokestatic 305, 3) := by decide +kernel
theorem dX6_undo_46 : decode cX6_undo 46 = .ok (.aaload, 1) := by decide +kernel
theorem dX6_undo_47 : decode cX6_undo 47 = .ok (.invokevirtual 310, 3) := by decide +kernel
theorem dX6_undo_50 : decode cX6_undo 50 = .ok (.aload_n 0, 1) := by decide +kernel
theorem dX6_undo_51 : decode cX6_undo 51 = .ok (.getfield 125, 3) := by decide +kernel
theorem dX6_undo_54 : decode cX6_undo 54 = .ok (.ireturn, 1) := by decide +kernel
theorem dX6_saveSnapshot_0 : decode cX6_saveSnapshot 0 = .ok (.iload_n 1, 1) := by decide +kernel
theorem dX6_saveSnapshot_1 : decode cX6_saveSnapshot 1 = .ok (.ifCond .lt 8, 3) := by decide +kernel
theorem dX6_saveSnapshot_4 : decode cX6_saveSnapshot 4 = .ok (.iload_n 1, 1) := by decide +kernel
theorem dX6_saveSnapshot_5 : decode cX6_saveSnapshot 5 = .ok (.iconst 2, 1) := by decide +kernel
theorem dX6_saveSnapshot_6 : decode cX6_saveSnapshot 6 = .ok (.if_icmp .lt 5, 3) := by decide +kernel
theorem dX6_saveSnapshot_9 : decode cX6_saveSnapshot 9 = .ok (.iconst 0, 1) := by decide +kernel
theorem dX6_saveSnapshot_10 : decode cX6_saveSnapshot 10 = .ok (.ireturn, 1) := by decide +kernel
theorem dX6_saveSnapshot_11 : decode cX6_saveSnapshot 11 = .ok (.aload_n 0, 1) := by decide +kernel
theorem dX6_saveSnapshot_12 : decode cX6_saveSnapshot 12 = .ok (.getfield 34, 3) := by decide +kernel
theorem dX6_saveSnapshot_15 : decode cX6_saveSnapshot 15 = .ok (.iload_n 1, 1) := by decide +kernel
theorem dX6_saveSnapshot_16 : decode cX6_saveSnapshot 16 = .ok (.aaload, 1) := by decide +kernel
theorem dX6_saveSnapshot_17 : decode cX6_saveSnapshot 17 = .ok (.aload_n 0, 1) := by decide +kernel
theorem dX6_saveSnapshot_18 : decode cX6_saveSnapshot 18 = .ok (.getfield 26, 3) := by decide +kernel
theorem dX6_saveSnapshot_21 : decode cX6_saveSnapshot 21 = .ok (.invokevirtual 310, 3) := by decide +kernel
theorem dX6_saveSnapshot_24 : decode cX6_saveSnapshot 24 = .ok (.aload_n 0, 1) := by decide +kernel
theorem dX6_saveSnapshot_25 : decode cX6_saveSnapshot 25 = .ok (.getfield 37, 3) := by decide +kernel
theorem dX6_saveSnapshot_28 : decode cX6_saveSnapshot 28 = .ok (.iload_n 1, 1) := by decide +kernel
theorem dX6_saveSnapshot_29 : decode cX6_saveSnapshot 29 = .ok (.iconst 1, 1) := by decide +kernel
theorem dX6_saveSnapshot_30 : decode cX6_saveSnapshot 30 = .ok (.bastore, 1) := by decide +kernel
theorem dX6_saveSnapshot_31 : decode cX6_saveSnapshot 31 = .ok (.iconst 1, 1) := by decide +kernel
theorem dX6_saveSnapshot_32 : decode cX6_saveSnapshot 32 = .ok (.ireturn, 1) := by decide +kernel
theorem dX6_restoreSnapshot_0 : decode cX6_restoreSnapshot 0 = .ok (.iload_n 1, 1) := by decide +kernel
theorem dX6_restoreSnapshot_1 : decode cX6_restoreSnapshot 1 = .ok (.ifCond .lt 17, 3) := by decide +kernel
theorem dX6_restoreSnapshot_4 : decode cX6_restoreSnapshot 4 = .ok (.iload_n 1, 1) := by decide +kernel
theorem dX6_restoreSnapshot_5 : decode cX6_restoreSnapshot 5 = .ok (.iconst 2, 1) := by decide +kernel
theorem dX6_restoreSnapshot_6 : decode cX6_restoreSnapshot 6 = .ok (.if_icmp .ge 12, 3) := by decide +kernel
theorem dX6_restoreSnapshot_9 : decode cX6_restoreSnapshot 9 = .ok (.aload_n 0, 1) := by decide +kernel
theorem dX6_restoreSnapshot_10 : decode cX6_restoreSnapshot 10 = .ok (.getfield 37, 3) := by decide +kernel
theorem dX6_restoreSnapshot_13 : decode cX6_restoreSnapshot 13 = .ok (.iload_n 1, 1) := by decide +kernel
theorem dX6_restoreSnapshot_14 : decode cX6_restoreSnapshot 14 = .ok (.baload, 1) := by decide +kernel
theorem dX6_restoreSnapshot_15 : decode cX6_restoreSnapshot 15 = .ok (.ifCond .ne 5, 3) := by decide +kernel
theorem dX6_restoreSnapshot_18 : decode cX6_restoreSnapshot 18 = .ok (.iconst 0, 1) := by decide +kernel
theorem dX6_restoreSnapshot_19 : decode cX6_restoreSnapshot 19 = .ok (.ireturn, 1) := by decide +kernel
theorem dX6_restoreSnapshot_20 : decode cX6_restoreSnapshot 20 = .ok (.aload_n 0, 1) := by decide +kernel
theorem dX6_restoreSnapshot_21 : decode cX6_restoreSnapshot 21 = .ok (.getfield 26, 3) := by decide +kernel
theorem dX6_restoreSnapshot_24 : decode cX6_restoreSnapshot 24 = .ok (.aload_n 0, 1) := by decide +kernel
theorem dX6_restoreSnapshot_25 : decode cX6_restoreSnapshot 25 = .ok (.getfield 34, 3) := by decide +kernel
theorem dX6_restoreSnapshot_28 : decode cX6_restoreSnapshot 28 = .ok (.iload_n 1, 1) := by decide +kernel
theorem dX6_restoreSnapshot_29 : decode cX6_restoreSnapshot 29 = .ok (.aaload, 1) := by decide +kernel
theorem dX6_restoreSnapshot_30 : decode cX6_restoreSnapshot 30 = .ok (.invokevirtual 310, 3) := by decide +kernel
theorem dX6_restoreSnapshot_33 : decode cX6_restoreSnapshot 33 = .ok (.aload_n 0, 1) := by decide +kernel
theorem dX6_restoreSnapshot_34 : decode cX6_restoreSnapshot 34 = .ok (.iconst 0, 1) := by decide +kernel
theorem dX6_restoreSnapshot_35 : decode cX6_restoreSnapshot 35 = .ok (.putfield 125, 3) := by decide +kernel
theorem dX6_restoreSnapshot_38 : decode cX6_restoreSnapshot 38 = .ok (.iconst 1, 1) := by decide +kernel
theorem dX6_restoreSnapshot_39 : decode cX6_restoreSnapshot 39 = .ok (.ireturn, 1) := by decide +kernel
theorem dX6_beginAnew_0 : decode cX6_beginAnew 0 = .ok (.aload_n 0, 1) := by decide +kernel
theorem dX6_beginAnew_1 : decode cX6_beginAnew 1 = .ok (.getfield 26, 3) := by decide +kernel
theorem dX6_beginAnew_4 : decode cX6_beginAnew 4 = .ok (.aload_n 0, 1) := by decide +kernel
theorem dX6_beginAnew_5 : decode cX6_beginAnew 5 = .ok (.getfield 19, 3) := by decide +kernel
theorem dX6_beginAnew_8 : decode cX6_beginAnew 8 = .ok (.invokevirtual 314, 3) := by decide +kernel
theorem dX6_beginAnew_11 : decode cX6_beginAnew 11 = .ok (.aload_n 0, 1) := by decide +kernel
theorem dX6_beginAnew_12 : decode cX6_beginAnew 12 = .ok (.iconst 0, 1) := by decide +kernel
theorem dX6_beginAnew_13 : decode cX6_beginAnew 13 = .ok (.putfield 125, 3) := by decide +kernel
theorem dX6_beginAnew_16 : decode cX6_beginAnew 16 = .ok (.iconst 0, 1) := by decide +kernel
theorem dX6_beginAnew_17 : decode cX6_beginAnew 17 = .ok (.istore_n 1, 1) := by decide +kernel
theorem dX6_beginAnew_18 : decode cX6_beginAnew 18 = .ok (.iload_n 1, 1) := by decide +kernel
theorem dX6_beginAnew_19 : decode cX6_beginAnew 19 = .ok (.iconst 2, 1) := by decide +kernel
theorem dX6_beginAnew_20 : decode cX6_beginAnew 20 = .ok (.if_icmp .ge 16, 3) := by decide +kernel
theorem dX6_beginAnew_23 : decode cX6_beginAnew 23 = .ok (.aload_n 0, 1) := by decide +kernel
theorem dX6_beginAnew_24 : decode cX6_beginAnew 24 = .ok (.getfield 37, 3) := by decide +kernel
theorem dX6_beginAnew_27 : decode cX6_beginAnew 27 = .ok (.iload_n 1, 1) := by decide +kernel
theorem dX6_beginAnew_28 : decode cX6_beginAnew 28 = .ok (.iconst 0, 1) := by decide +kernel
theorem dX6_beginAnew_29 : decode cX6_beginAnew 29 = .ok (.bastore, 1) := by decide +kernel
theorem dX6_beginAnew_30 : decode cX6_beginAnew 30 = .ok (.iinc 1 1, 3) := by decide +kernel
theorem dX6_beginAnew_33 : decode cX6_beginAnew 33 = .ok (.goto (-15), 3) := by decide +kernel
theorem dX6_beginAnew_36 : decode cX6_beginAnew 36 = .ok (.return_, 1) := by decide +kernel
theorem dX6_remember_0 : decode cX6_remember 0 = .ok (.aload_n 0, 1) := by decide +kernel
theorem dX6_remember_1 : decode cX6_remember 1 = .ok (.getfield 30, 3) := by decide +kernel
theorem dX6_remember_4 : decode cX6_remember 4 = .ok (.aload_n 0, 1) := by decide +kernel
theorem dX6_remember_5 : decode cX6_remember 5 = .ok (.getfield 302, 3) := by decide +kernel
theorem dX6_remember_8 : decode cX6_remember 8 = .ok (.bipush 10, 2) := by decide +kernel
theorem dX6_remember_10 : decode cX6_remember 10 = .ok (.invokestatic 305, 3) := by decide +kernel
theorem dX6_remember_13 : decode cX6_remember 13 = .ok (.aaload, 1) := by decide +kernel
theorem dX6_remember_14 : decode cX6_remember 14 = .ok (.aload_n 0, 1) := by decide +kernel
theorem dX6_remember_15 : decode cX6_remember 15 = .ok (.getfield 26, 3) := by decide +kernel
theorem dX6_remember_18 : decode cX6_remember 18 = .ok (.invokevirtual 310, 3) := by decide +kernel
theorem dX6_remember_21 : decode cX6_remember 21 = .ok (.aload_n 0, 1) := by decide +kernel
theorem dX6_remember_22 : decode cX6_remember 22 = .ok (.dup, 1) := by decide +kernel
theorem dX6_remember_23 : decode cX6_remember 23 = .ok (.getfield 302, 3) := by decide +kernel
theorem dX6_remember_26 : decode cX6_remember 26 = .ok (.iconst 1, 1) := by decide +kernel
theorem dX6_remember_27 : decode cX6_remember 27 = .ok (.iadd, 1) := by decide +kernel
theorem dX6_remember_28 : decode cX6_remember 28 = .ok (.putfield 302, 3) := by decide +kernel
theorem dX6_remember_31 : decode cX6_remember 31 = .ok (.aload_n 0, 1) := by decide +kernel
theorem dX6_remember_32 : decode cX6_remember 32 = .ok (.aload_n 0, 1) := by decide +kernel
theorem dX6_remember_33 : decode cX6_remember 33 = .ok (.getfield 125, 3) := by decide +kernel
theorem dX6_remember_36 : decode cX6_remember 36 = .ok (.iconst 1, 1) := by decide +kernel
theorem dX6_remember_37 : decode cX6_remember 37 = .ok (.iadd, 1) := by decide +kernel
theorem dX6_remember_38 : decode cX6_remember 38 = .ok (.bipush 10, 2) := by decide +kernel
theorem dX6_remember_40 : decode cX6_remember 40 = .ok (.invokestatic 318, 3) := by decide +kernel
theorem dX6_remember_43 : decode cX6_remember 43 = .ok (.putfield 125, 3) := by decide +kernel
theorem dX6_remember_46 : decode cX6_remember 46 = .ok (.return_, 1) := by decide +kernel
theorem dX6_isSheet_0 : decode cX6_isSheet 0 = .ok (.iload_n 1, 1) := by decide +kernel
theorem dX6_isSheet_1 : decode cX6_isSheet 1 = .ok (.ifCond .lt 18, 3) := by decide +kernel
theorem dX6_isSheet_4 : decode cX6_isSheet 4 = .ok (.iload_n 1, 1) := by decide +kernel
theorem dX6_isSheet_5 : decode cX6_isSheet 5 = .ok (.aload_n 0, 1) := by decide +kernel
theorem dX6_isSheet_6 : decode cX6_isSheet 6 = .ok (.getfield 19, 3) := by decide +kernel
theorem dX6_isSheet_9 : decode cX6_isSheet 9 = .ok (.getfield 90, 3) := by decide +kernel
theorem dX6_isSheet_12 : decode cX6_isSheet 12 = .ok (.if_icmp .ge 7, 3) := by decide +kernel
theorem dX6_isSheet_15 : decode cX6_isSheet 15 = .ok (.iconst 1, 1) := by decide +kernel
theorem dX6_isSheet_16 : decode cX6_isSheet 16 = .ok (.goto 4, 3) := by decide +kernel
theorem dX6_isSheet_19 : decode cX6_isSheet 19 = .ok (.iconst 0, 1) := by decide +kernel
theorem dX6_isSheet_20 : decode cX6_isSheet 20 = .ok (.ireturn, 1) := by decide +kernel
theorem dX6_isStopped_0 : decode cX6_isStopped 0 = .ok (.aload_n 0, 1) := by decide +kernel
theorem dX6_isStopped_1 : decode cX6_isStopped 1 = .ok (.getfield 26, 3) := by decide +kernel
theorem dX6_isStopped_4 : decode cX6_isStopped 4 = .ok (.getfield 100, 3) := by decide +kernel
theorem dX6_isStopped_7 : decode cX6_isStopped 7 = .ok (.ifCond .eq 7, 3) := by decide +kernel
theorem dX6_isStopped_10 : decode cX6_isStopped 10 = .ok (.iconst 1, 1) := by decide +kernel
theorem dX6_isStopped_11 : decode cX6_isStopped 11 = .ok (.goto 4, 3) := by decide +kernel
theorem dX6_isStopped_14 : decode cX6_isStopped 14 = .ok (.iconst 0, 1) := by decide +kernel
theorem dX6_isStopped_15 : decode cX6_isStopped 15 = .ok (.ireturn, 1) := by decide +kernel
theorem dX6_stackSize_0 : decode cX6_stackSize 0 = .ok (.aload_n 0, 1) := by decide +kernel
theorem dX6_stackSize_1 : decode cX6_stackSize 1 = .ok (.getfield 19, 3) := by decide +kernel
theorem dX6_stackSize_4 : decode cX6_stackSize 4 = .ok (.getfield 90, 3) := by decide +kernel
theorem dX6_stackSize_7 : decode cX6_stackSize 7 = .ok (.aload_n 0, 1) := by decide +kernel
theorem dX6_stackSize_8 : decode cX6_stackSize 8 = .ok (.getfield 26, 3) := by decide +kernel
theorem dX6_stackSize_11 : decode cX6_stackSize 11 = .ok (.getfield 167, 3) := by decide +kernel
theorem dX6_stackSize_14 : decode cX6_stackSize 14 = .ok (.isub, 1) := by decide +kernel
theorem dX6_stackSize_15 : decode cX6_stackSize 15 = .ok (.ireturn, 1) := by decide +kernel
theorem dX6_firstInPath_0 : decode cX6_firstInPath 0 = .ok (.aload_n 0, 1) := by decide +kernel
theorem dX6_firstInPath_1 : decode cX6_firstInPath 1 = .ok (.getfield 26, 3) := by decide +kernel
theorem dX6_firstInPath_4 : decode cX6_firstInPath 4 = .ok (.getfield 167, 3) := by decide +kernel
theorem dX6_firstInPath_7 : decode cX6_firstInPath 7 = .ok (.aload_n 0, 1) := by decide +kernel
theorem dX6_firstInPath_8 : decode cX6_firstInPath 8 = .ok (.getfield 26, 3) := by decide +kernel
theorem dX6_firstInPath_11 : decode cX6_firstInPath 11 = .ok (.getfield 97, 3) := by decide +kernel
theorem dX6_firstInPath_14 : decode cX6_firstInPath 14 = .ok (.isub, 1) := by decide +kernel
theorem dX6_firstInPath_15 : decode cX6_firstInPath 15 = .ok (.ireturn, 1) := by decide +kernel
theorem dX6_halves_0 : decode cX6_halves 0 = .ok (.iconst 0, 1) := by decide +kernel
theorem dX6_halves_1 : decode cX6_halves 1 = .ok (.istore_n 1, 1) := by decide +kernel
theorem dX6_halves_2 : decode cX6_halves 2 = .ok (.iconst 0, 1) := by decide +kernel
theorem dX6_halves_3 : decode cX6_halves 3 = .ok (.istore_n 2, 1) := by decide +kernel
theorem dX6_halves_4 : decode cX6_halves 4 = .ok (.iload_n 2, 1) := by decide +kernel
theorem dX6_halves_5 : decode cX6_halves 5 = .ok (.aload_n 0, 1) := by decide +kernel
theorem dX6_halves_6 : decode cX6_halves 6 = .ok (.getfield 19, 3) := by decide +kernel
theorem dX6_halves_9 : decode cX6_halves 9 = .ok (.getfield 90, 3) := by decide +kernel
theorem dX6_halves_12 : decode cX6_halves 12 = .ok (.if_icmp .ge 21, 3) := by decide +kernel
theorem dX6_halves_15 : decode cX6_halves 15 = .ok (.iload_n 1, 1) := by decide +kernel
theorem dX6_halves_16 : decode cX6_halves 16 = .ok (.aload_n 0, 1) := by decide +kernel
theorem dX6_halves_17 : decode cX6_halves 17 = .ok (.getfield 26, 3) := by decide +kernel
theorem dX6_halves_20 : decode cX6_halves 20 = .ok (.getfield 198, 3) := by decide +kernel
theorem dX6_halves_23 : decode cX6_halves 23 = .ok (.iload_n 2, 1) := by decide +kernel
theorem dX6_halves_24 : decode cX6_halves 24 = .ok (.iaload, 1) := by decide +kernel
theorem dX6_halves_25 : decode cX6_halves 25 = .ok (.iadd, 1) := by decide +kernel
theorem dX6_halves_26 : decode cX6_halves 26 = .ok (.istore_n 1, 1) := by decide +kernel
theorem dX6_halves_27 : decode cX6_halves 27 = .ok (.iinc 2 1, 3) := by decide +kernel
theorem dX6_halves_30 : decode cX6_halves 30 = .ok (.goto (-26), 3) := by decide +kernel
theorem dX6_halves_33 : decode cX6_halves 33 = .ok (.iload_n 1, 1) := by decide +kernel
theorem dX6_halves_34 : decode cX6_halves 34 = .ok (.ireturn, 1) := by decide +kernel
theorem dX6_pickOnce_0 : decode cX6_pickOnce 0 = .ok (.aload_n 0, 1) := by decide +kernel
theorem dX6_pickOnce_1 : decode cX6_pickOnce 1 = .ok (.getfield 44, 3) := by decide +kernel
theorem dX6_pickOnce_4 : decode cX6_pickOnce 4 = .ok (.aload_n 0, 1) := by decide +kernel
theorem dX6_pickOnce_5 : decode cX6_pickOnce 5 = .ok (.getfield 19, 3) := by decide +kernel
theorem dX6_pickOnce_8 : decode cX6_pickOnce 8 = .ok (.aload_n 0, 1) := by decide +kernel
theorem dX6_pickOnce_9 : decode cX6_pickOnce 9 = .ok (.getfield 26, 3) := by decide +kernel
theorem dX6_pickOnce_12 : decode cX6_pickOnce 12 = .ok (.aload_n 0, 1) := by decide +kernel
theorem dX6_pickOnce_13 : decode cX6_pickOnce 13 = .ok (.getfield 26, 3) := by decide +kernel
theorem dX6_pickOnce_16 : decode cX6_pickOnce 16 = .ok (.getfield 167, 3) := by decide +kernel
theorem dX6_pickOnce_19 : decode cX6_pickOnce 19 = .ok (.invokevirtual 201, 3) := by decide +kernel
theorem dX6_pickOnce_22 : decode cX6_pickOnce 22 = .ok (.aload_n 0, 1) := by decide +kernel
theorem dX6_pickOnce_23 : decode cX6_pickOnce 23 = .ok (.aload_n 0, 1) := by decide +kernel
theorem dX6_pickOnce_24 : decode cX6_pickOnce 24 = .ok (.getfield 26, 3) := by decide +kernel
theorem dX6_pickOnce_27 : decode cX6_pickOnce 27 = .ok (.getfield 130, 3) := by decide +kernel
theorem dX6_pickOnce_30 : decode cX6_pickOnce 30 = .ok (.iconst 0, 1) := by decide +kernel
theorem dX6_pickOnce_31 : decode cX6_pickOnce 31 = .ok (.iaload, 1) := by decide +kernel
theorem dX6_pickOnce_32 : decode cX6_pickOnce 32 = .ok (.aload_n 0, 1) := by decide +kernel
theorem dX6_pickOnce_33 : decode cX6_pickOnce 33 = .ok (.getfield 26, 3) := by decide +kernel
theorem dX6_pickOnce_36 : decode cX6_pickOnce 36 = .ok (.getfield 113, 3) := by decide +kernel
theorem dX6_pickOnce_39 : decode cX6_pickOnce 39 = .ok (.aload_n 0, 1) := by decide +kernel
theorem dX6_pickOnce_40 : decode cX6_pickOnce 40 = .ok (.getfield 19, 3) := by decide +kernel
theorem dX6_pickOnce_43 : decode cX6_pickOnce 43 = .ok (.getfield 62, 3) := by decide +kernel
theorem dX6_pickOnce_46 : decode cX6_pickOnce 46 = .ok (.invokevirtual 117, 3) := by decide +kernel
theorem dX6_pickOnce_49 : decode cX6_pickOnce 49 = .ok (.invokevirtual 211, 3) := by decide +kernel
theorem dX6_pickOnce_52 : decode cX6_pickOnce 52 = .ok (.istore_n 1, 1) := by decide +kernel
theorem dX6_pickOnce_53 : decode cX6_pickOnce 53 = .ok (.aload_n 0, 1) := by decide +kernel
theorem dX6_pickOnce_54 : decode cX6_pickOnce 54 = .ok (.getfield 26, 3) := by decide +kernel
theorem dX6_pickOnce_57 : decode cX6_pickOnce 57 = .ok (.iconst 0, 1) := by decide +kernel
theorem dX6_pickOnce_58 : decode cX6_pickOnce 58 = .ok (.iconst 1, 1) := by decide +kernel
theorem dX6_pickOnce_59 : decode cX6_pickOnce 59 = .ok (.invokevirtual 281, 3) := by decide +kernel
theorem dX6_pickOnce_62 : decode cX6_pickOnce 62 = .ok (.aload_n 0, 1) := by decide +kernel
theorem dX6_pickOnce_63 : decode cX6_pickOnce 63 = .ok (.getfield 26, 3) := by decide +kernel
theorem dX6_pickOnce_66 : decode cX6_pickOnce 66 = .ok (.dup, 1) := by decide +kernel
theorem dX6_pickOnce_67 : decode cX6_pickOnce 67 = .ok (.getfield 167, 3) := by decide +kernel
theorem dX6_pickOnce_70 : decode cX6_pickOnce 70 = .ok (.aload_n 0, 1) := by decide +kernel
theorem dX6_pickOnce_71 : decode cX6_pickOnce 71 = .ok (.getfield 44, 3) := by decide +kernel
theorem dX6_pickOnce_74 : decode cX6_pickOnce 74 = .ok (.getfield 205, 3) := by decide +kernel
theorem dX6_pickOnce_77 : decode cX6_pickOnce 77 = .ok (.iadd, 1) := by decide +kernel
theorem dX6_pickOnce_78 : decode cX6_pickOnce 78 = .ok (.putfield 167, 3) := by decide +kernel
theorem dX6_pickOnce_81 : decode cX6_pickOnce 81 = .ok (.iload_n 1, 1) := by decide +kernel
theorem dX6_pickOnce_82 : decode cX6_pickOnce 82 = .ok (.ifCond .eq 10, 3) := by decide +kernel
theorem dX6_pickOnce_85 : decode cX6_pickOnce 85 = .ok (.aload_n 0, 1) := by decide +kernel
theorem dX6_pickOnce_86 : decode cX6_pickOnce 86 = .ok (.iload_n 1, 1) := by decide +kernel
theorem dX6_pickOnce_87 : decode cX6_pickOnce 87 = .ok (.invokevirtual 321, 3) := by decide +kernel
theorem dX6_pickOnce_90 : decode cX6_pickOnce 90 = .ok (.iconst 0, 1) := by decide +kernel
theorem dX6_pickOnce_91 : decode cX6_pickOnce 91 = .ok (.ireturn, 1) := by decide +kernel
theorem dX6_pickOnce_92 : decode cX6_pickOnce 92 = .ok (.aload_n 0, 1) := by decide +kernel
theorem dX6_pickOnce_93 : decode cX6_pickOnce 93 = .ok (.getfield 44, 3) := by decide +kernel
theorem dX6_pickOnce_96 : decode cX6_pickOnce 96 = .ok (.getfield 205, 3) := by decide +kernel
theorem dX6_pickOnce_99 : decode cX6_pickOnce 99 = .ok (.iconst 1, 1) := by decide +kernel
theorem dX6_pickOnce_100 : decode cX6_pickOnce 100 = .ok (.if_icmp .ne 29, 3) := by decide +kernel
theorem dX6_pickOnce_103 : decode cX6_pickOnce 103 = .ok (.aload_n 0, 1) := by decide +kernel
theorem dX6_pickOnce_104 : decode cX6_pickOnce 104 = .ok (.getfield 26, 3) := by decide +kernel
theorem dX6_pickOnce_107 : decode cX6_pickOnce 107 = .ok (.getfield 113, 3) := by decide +kernel
theorem dX6_pickOnce_110 : decode cX6_pickOnce 110 = .ok (.aload_n 0, 1) := by decide +kernel
theorem dX6_pickOnce_111 : decode cX6_pickOnce 111 = .ok (.getfield 44, 3) := by decide +kernel
theorem dX6_pickOnce_114 : decode cX6_pickOnce 114 = .ok (.getfield 206, 3) := by decide +kernel
theorem dX6_pickOnce_117 : decode cX6_pickOnce 117 = .ok (.invokevirtual 324, 3) := by decide +kernel
theorem dX6_pickOnce_120 : decode cX6_pickOnce 120 = .ok (.aload_n 0, 1) := by decide +kernel
theorem dX6_pickOnce_121 : decode cX6_pickOnce 121 = .ok (.getfield 26, 3) := by decide +kernel
theorem dX6_pickOnce_124 : decode cX6_pickOnce 124 = .ok (.iconst 4, 1) := by decide +kernel
theorem dX6_pickOnce_125 : decode cX6_pickOnce 125 = .ok (.iconst 1, 1) := by decide +kernel
theorem dX6_pickOnce_126 : decode cX6_pickOnce 126 = .ok (.invokevirtual 281, 3) := by decide +kernel
theorem dX6_pickOnce_129 : decode cX6_pickOnce 129 = .ok (.aload_n 0, 1) := by decide +kernel
theorem dX6_pickOnce_130 : decode cX6_pickOnce 130 = .ok (.aload_n 0, 1) := by decide +kernel
theorem dX6_pickOnce_131 : decode cX6_pickOnce 131 = .ok (.getfield 44, 3) := by decide +kernel
theorem dX6_pickOnce_134 : decode cX6_pickOnce 134 = .ok (.getfield 215, 3) := by decide +kernel
theorem dX6_pickOnce_137 : decode cX6_pickOnce 137 = .ok (.aload_n 0, 1) := by decide +kernel
theorem dX6_pickOnce_138 : decode cX6_pickOnce 138 = .ok (.getfield 44, 3) := by decide +kernel
theorem dX6_pickOnce_141 : decode cX6_pickOnce 141 = .ok (.getfield 205, 3) := by decide +kernel
theorem dX6_pickOnce_144 : decode cX6_pickOnce 144 = .ok (.invokevirtual 290, 3) := by decide +kernel
theorem dX6_pickOnce_147 : decode cX6_pickOnce 147 = .ok (.pop, 1) := by decide +kernel
theorem dX6_pickOnce_148 : decode cX6_pickOnce 148 = .ok (.iconst 1, 1) := by decide +kernel
theorem dX6_pickOnce_149 : decode cX6_pickOnce 149 = .ok (.ireturn, 1) := by decide +kernel
theorem dX6_reasonToStop_0 : decode cX6_reasonToStop 0 = .ok (.aload_n 0, 1) := by decide +kernel
theorem dX6_reasonToStop_1 : decode cX6_reasonToStop 1 = .ok (.getfield 44, 3) := by decide +kernel
theorem dX6_reasonToStop_4 : decode cX6_reasonToStop 4 = .ok (.getfield 206, 3) := by decide +kernel
theorem dX6_reasonToStop_7 : decode cX6_reasonToStop 7 = .ok (.bipush 100, 2) := by decide +kernel
theorem dX6_reasonToStop_9 : decode cX6_reasonToStop 9 = .ok (.imul, 1) := by decide +kernel
theorem dX6_reasonToStop_10 : decode cX6_reasonToStop 10 = .ok (.iload_n 1, 1) := by decide +kernel
theorem dX6_reasonToStop_11 : decode cX6_reasonToStop 11 = .ok (.iload_n 2, 1) := by decide +kernel
theorem dX6_reasonToStop_12 : decode cX6_reasonToStop 12 = .ok (.imul, 1) := by decide +kernel
theorem dX6_reasonToStop_13 : decode cX6_reasonToStop 13 = .ok (.if_icmp .le 5, 3) := by decide +kernel
theorem dX6_reasonToStop_16 : decode cX6_reasonToStop 16 = .ok (.iconst 1, 1) := by decide +kernel
theorem dX6_reasonToStop_17 : decode cX6_reasonToStop 17 = .ok (.ireturn, 1) := by decide +kernel
theorem dX6_reasonToStop_18 : decode cX6_reasonToStop 18 = .ok (.aload_n 0, 1) := by decide +kernel
theorem dX6_reasonToStop_19 : decode cX6_reasonToStop 19 = .ok (.getfield 26, 3) := by decide +kernel
theorem dX6_reasonToStop_22 : decode cX6_reasonToStop 22 = .ok (.getfield 130, 3) := by decide +kernel
theorem dX6_reasonToStop_25 : decode cX6_reasonToStop 25 = .ok (.iconst 1, 1) := by decide +kernel
theorem dX6_reasonToStop_26 : decode cX6_reasonToStop 26 = .ok (.iaload, 1) := by decide +kernel
theorem dX6_reasonToStop_27 : decode cX6_reasonToStop 27 = .ok (.istore_n 3, 1) := by decide +kernel
theorem dX6_reasonToStop_28 : decode cX6_reasonToStop 28 = .ok (.aload_n 0, 1) := by decide +kernel
theorem dX6_reasonToStop_29 : decode cX6_reasonToStop 29 = .ok (.getfield 44, 3) := by decide +kernel
theorem dX6_reasonToStop_32 : decode cX6_reasonToStop 32 = .ok (.getfield 209, 3) := by decide +kernel
theorem dX6_reasonToStop_35 : decode cX6_reasonToStop 35 = .ok (.aload_n 0, 1) := by decide +kernel
theorem dX6_reasonToStop_36 : decode cX6_reasonToStop 36 = .ok (.getfield 19, 3) := by decide +kernel
theorem dX6_reasonToStop_39 : decode cX6_reasonToStop 39 = .ok (.getfield 58, 3) := by decide +kernel
theorem dX6_reasonToStop_42 : decode cX6_reasonToStop 42 = .ok (.iload_n 3, 1) := by decide +kernel
theorem dX6_reasonToStop_43 : decode cX6_reasonToStop 43 = .ok (.iadd, 1) := by decide +kernel
theorem dX6_reasonToStop_44 : decode cX6_reasonToStop 44 = .ok (.if_icmp .gt 22, 3) := by decide +kernel
theorem dX6_reasonToStop_47 : decode cX6_reasonToStop 47 = .ok (.aload_n 0, 1) := by decide +kernel
theorem dX6_reasonToStop_48 : decode cX6_reasonToStop 48 = .ok (.getfield 44, 3) := by decide +kernel
theorem dX6_reasonToStop_51 : decode cX6_reasonToStop 51 = .ok (.getfield 209, 3) := by decide +kernel
theorem dX6_reasonToStop_54 : decode cX6_reasonToStop 54 = .ok (.aload_n 0, 1) := by decide +kernel
theorem dX6_reasonToStop_55 : decode cX6_reasonToStop 55 = .ok (.getfield 19, 3) := by decide +kernel
theorem dX6_reasonToStop_58 : decode cX6_reasonToStop 58 = .ok (.getfield 58, 3) := by decide +kernel
theorem dX6_reasonToStop_61 : decode cX6_reasonToStop 61 = .ok (.iload_n 3, 1) := by decide +kernel
theorem dX6_reasonToStop_62 : decode cX6_reasonToStop 62 = .ok (.isub, 1) := by decide +kernel
theorem dX6_reasonToStop_63 : decode cX6_reasonToStop 63 = .ok (.if_icmp .ge 5, 3) := by decide +kernel
theorem dX6_reasonToStop_66 : decode cX6_reasonToStop 66 = .ok (.iconst 2, 1) := by decide +kernel
theorem dX6_reasonToStop_67 : decode cX6_reasonToStop 67 = .ok (.ireturn, 1) := by decide +kernel
theorem dX6_reasonToStop_68 : decode cX6_reasonToStop 68 = .ok (.aload_n 0, 1) := by decide +kernel
theorem dX6_reasonToStop_69 : decode cX6_reasonToStop 69 = .ok (.getfield 44, 3) := by decide +kernel
theorem dX6_reasonToStop_72 : decode cX6_reasonToStop 72 = .ok (.getfield 327, 3) := by decide +kernel
theorem dX6_reasonToStop_75 : decode cX6_reasonToStop 75 = .ok (.invokestatic 329, 3) := by decide +kernel
theorem dX6_reasonToStop_78 : decode cX6_reasonToStop 78 = .ok (.aload_n 0, 1) := by decide +kernel
theorem dX6_reasonToStop_79 : decode cX6_reasonToStop 79 = .ok (.getfield 26, 3) := by decide +kernel
theorem dX6_reasonToStop_82 : decode cX6_reasonToStop 82 = .ok (.getfield 130, 3) := by decide +kernel
theorem dX6_reasonToStop_85 : decode cX6_reasonToStop 85 = .ok (.iconst 2, 1) := by decide +kernel
theorem dX6_reasonToStop_86 : decode cX6_reasonToStop 86 = .ok (.iaload, 1) := by decide +kernel
theorem dX6_reasonToStop_87 : decode cX6_reasonToStop 87 = .ok (.if_icmp .le 7, 3) := by decide +kernel
theorem dX6_reasonToStop_90 : decode cX6_reasonToStop 90 = .ok (.iconst 3, 1) := by decide +kernel
theorem dX6_reasonToStop_91 : decode cX6_reasonToStop 91 = .ok (.goto 4, 3) := by decide +kernel
theorem dX6_reasonToStop_94 : decode cX6_reasonToStop 94 = .ok (.iconst 0, 1) := by decide +kernel
theorem dX6_reasonToStop_95 : decode cX6_reasonToStop 95 = .ok (.ireturn, 1) := by decide +kernel
theorem dX6_stop_0 : decode cX6_stop 0 = .ok (.aload_n 0, 1) := by decide +kernel
theorem dX6_stop_1 : decode cX6_stop 1 = .ok (.getfield 26, 3) := by decide +kernel
theorem dX6_stop_4 : decode cX6_stop 4 = .ok (.iload_n 1, 1) := by decide +kernel
theorem dX6_stop_5 : decode cX6_stop 5 = .ok (.putfield 100, 3) := by decide +kernel
theorem dX6_stop_8 : decode cX6_stop 8 = .ok (.aload_n 0, 1) := by decide +kernel
theorem dX6_stop_9 : decode cX6_stop 9 = .ok (.getfield 26, 3) := by decide +kernel
theorem dX6_stop_12 : decode cX6_stop 12 = .ok (.aload_n 0, 1) := by decide +kernel
theorem dX6_stop_13 : decode cX6_stop 13 = .ok (.getfield 44, 3) := by decide +kernel
theorem dX6_stop_16 : decode cX6_stop 16 = .ok (.getfield 205, 3) := by decide +kernel
theorem dX6_stop_19 : decode cX6_stop 19 = .ok (.putfield 97, 3) := by decide +kernel
theorem dX6_stop_22 : decode cX6_stop 22 = .ok (.aload_n 0, 1) := by decide +kernel
theorem dX6_stop_23 : decode cX6_stop 23 = .ok (.getfield 26, 3) := by decide +kernel
theorem dX6_stop_26 : decode cX6_stop 26 = .ok (.iload_n 1, 1) := by decide +kernel
theorem dX6_stop_27 : decode cX6_stop 27 = .ok (.iconst 1, 1) := by decide +kernel
theorem dX6_stop_28 : decode cX6_stop 28 = .ok (.invokevirtual 281, 3) := by decide +kernel
theorem dX6_stop_31 : decode cX6_stop 31 = .ok (.aload_n 0, 1) := by decide +kernel
theorem dX6_stop_32 : decode cX6_stop 32 = .ok (.getfield 44, 3) := by decide +kernel
theorem dX6_stop_35 : decode cX6_stop 35 = .ok (.getfield 215, 3) := by decide +kernel
theorem dX6_stop_38 : decode cX6_stop 38 = .ok (.istore_n 2, 1) := by decide +kernel
theorem dX6_stop_39 : decode cX6_stop 39 = .ok (.aload_n 0, 1) := by decide +kernel
theorem dX6_stop_40 : decode cX6_stop 40 = .ok (.iload_n 2, 1) := by decide +kernel
theorem dX6_stop_41 : decode cX6_stop 41 = .ok (.invokevirtual 134, 3) := by decide +kernel
theorem dX6_stop_44 : decode cX6_stop 44 = .ok (.ifCond .eq 30, 3) := by decide +kernel
theorem dX6_stop_47 : decode cX6_stop 47 = .ok (.iload_n 2, 1) := by decide +kernel
theorem dX6_stop_48 : decode cX6_stop 48 = .ok (.aload_n 0, 1) := by decide +kernel
theorem dX6_stop_49 : decode cX6_stop 49 = .ok (.getfield 26, 3) := by decide +kernel
theorem dX6_stop_52 : decode cX6_stop 52 = .ok (.getfield 167, 3) := by decide +kernel
theorem dX6_stop_55 : decode cX6_stop 55 = .ok (.if_icmp .ge 19, 3) := by decide +kernel
theorem dX6_stop_58 : decode cX6_stop 58 = .ok (.aload_n 0, 1) := by decide +kernel
theorem dX6_stop_59 : decode cX6_stop 59 = .ok (.getfield 26, 3) := by decide +kernel
theorem dX6_stop_62 : decode cX6_stop 62 = .ok (.getfield 164, 3) := by decide +kernel
theorem dX6_stop_65 : decode cX6_stop 65 = .ok (.iload_n 2, 1) := by decide +kernel
theorem dX6_stop_66 : decode cX6_stop 66 = .ok (.iconst 1, 1) := by decide +kernel
theorem dX6_stop_67 : decode cX6_stop 67 = .ok (.iastore, 1) := by decide +kernel
theorem dX6_stop_68 : decode cX6_stop 68 = .ok (.iinc 2 1, 3) := by decide +kernel
theorem dX6_stop_71 : decode cX6_stop 71 = .ok (.goto (-32), 3) := by decide +kernel
theorem dX6_stop_74 : decode cX6_stop 74 = .ok (.iload_n 1, 1) := by decide +kernel
theorem dX6_stop_75 : decode cX6_stop 75 = .ok (.iconst 3, 1) := by decide +kernel
theorem dX6_stop_76 : decode cX6_stop 76 = .ok (.if_icmp .ne 52, 3) := by decide +kernel
theorem dX6_stop_79 : decode cX6_stop 79 = .ok (.aload_n 0, 1) := by decide +kernel
theorem dX6_stop_80 : decode cX6_stop 80 = .ok (.aload_n 0, 1) := by decide +kernel
theorem dX6_stop_81 : decode cX6_stop 81 = .ok (.getfield 44, 3) := by decide +kernel
theorem dX6_stop_84 : decode cX6_stop 84 = .ok (.getfield 215, 3) := by decide +kernel
theorem dX6_stop_87 : decode cX6_stop 87 = .ok (.invokevirtual 134, 3) := by decide +kernel
theorem dX6_stop_90 : decode cX6_stop 90 = .ok (.ifCond .eq 38, 3) := by decide +kernel
theorem dX6_stop_93 : decode cX6_stop 93 = .ok (.aload_n 0, 1) := by decide +kernel
theorem dX6_stop_94 : decode cX6_stop 94 = .ok (.getfield 19, 3) := by decide +kernel
theorem dX6_stop_97 : decode cX6_stop 97 = .ok (.getfield 158, 3) := by decide +kernel
theorem dX6_stop_100 : decode cX6_stop 100 = .ok (.aload_n 0, 1) := by decide +kernel
theorem dX6_stop_101 : decode cX6_stop 101 = .ok (.getfield 44, 3) := by decide +kernel
theorem dX6_stop_104 : decode cX6_stop 104 = .ok (.getfield 215, 3) := by decide +kernel
theorem dX6_stop_107 : decode cX6_stop 107 = .ok (.iaload, 1) := by decide +kernel
theorem dX6_stop_108 : decode cX6_stop 108 = .ok (.iconst (-1), 1) := by decide +kernel
theorem dX6_stop_109 : decode cX6_stop 109 = .ok (.if_icmp .ne 19, 3) := by decide +kernel
theorem dX6_stop_112 : decode cX6_stop 112 = .ok (.aload_n 0, 1) := by decide +kernel
theorem dX6_stop_113 : decode cX6_stop 113 = .ok (.getfield 26, 3) := by decide +kernel
theorem dX6_stop_116 : decode cX6_stop 116 = .ok (.getfield 198, 3) := by decide +kernel
theorem dX6_stop_119 : decode cX6_stop 119 = .ok (.aload_n 0, 1) := by decide +kernel
theorem dX6_stop_120 : decode cX6_stop 120 = .ok (.getfield 44, 3) := by decide +kernel
theorem dX6_stop_123 : decode cX6_stop 123 = .ok (.getfield 215, 3) := by decide +kernel
theorem dX6_stop_126 : decode cX6_stop 126 = .ok (.iconst 1, 1) := by decide +kernel
theorem dX6_stop_127 : decode cX6_stop 127 = .ok (.iastore, 1) := by decide +kernel
theorem dX6_stop_128 : decode cX6_stop 128 = .ok (.return_, 1) := by decide +kernel
theorem dX6_clearPath_0 : decode cX6_clearPath 0 = .ok (.aload_n 0, 1) := by decide +kernel
theorem dX6_clearPath_1 : decode cX6_clearPath 1 = .ok (.getfield 26, 3) := by decide +kernel
theorem dX6_clearPath_4 : decode cX6_clearPath 4 = .ok (.iconst 0, 1) := by decide +kernel
theorem dX6_clearPath_5 : decode cX6_clearPath 5 = .ok (.putfield 97, 3) := by decide +kernel
theorem dX6_clearPath_8 : decode cX6_clearPath 8 = .ok (.aload_n 0, 1) := by decide +kernel
theorem dX6_clearPath_9 : decode cX6_clearPath 9 = .ok (.getfield 26, 3) := by decide +kernel
theorem dX6_clearPath_12 : decode cX6_clearPath 12 = .ok (.iconst 0, 1) := by decide +kernel
theorem dX6_clearPath_13 : decode cX6_clearPath 13 = .ok (.putfield 100, 3) := by decide +kernel
theorem dX6_clearPath_16 : decode cX6_clearPath 16 = .ok (.return_, 1) := by decide +kernel
theorem dX6_goThrough_0 : decode cX6_goThrough 0 = .ok (.aload_n 0, 1) := by decide +kernel
theorem dX6_goThrough_1 : decode cX6_goThrough 1 = .ok (.iload_n 1, 1) := by decide +kernel
theorem dX6_goThrough_2 : decode cX6_goThrough 2 = .ok (.invokevirtual 134, 3) := by decide +kernel
theorem dX6_goThrough_5 : decode cX6_goThrough 5 = .ok (.ifCond .ne 5, 3) := by decide +kernel
theorem dX6_goThrough_8 : decode cX6_goThrough 8 = .ok (.iconst 0, 1) := by decide +kernel
theorem dX6_goThrough_9 : decode cX6_goThrough 9 = .ok (.ireturn, 1) := by decide +kernel
theorem dX6_goThrough_10 : decode cX6_goThrough 10 = .ok (.iload_n 1, 1) := by decide +kernel
theorem dX6_goThrough_11 : decode cX6_goThrough 11 = .ok (.iconst 1, 1) := by decide +kernel
theorem dX6_goThrough_12 : decode cX6_goThrough 12 = .ok (.iadd, 1) := by decide +kernel
theorem dX6_goThrough_13 : decode cX6_goThrough 13 = .ok (.istore_n 3, 1) := by decide +kernel
theorem dX6_goThrough_14 : decode cX6_goThrough 14 = .ok (.aload_n 0, 1) := by decide +kernel
theorem dX6_goThrough_15 : decode cX6_goThrough 15 = .ok (.iload_n 3, 1) := by decide +kernel
theorem dX6_goThrough_16 : decode cX6_goThrough 16 = .ok (.invokevirtual 134, 3) := by decide +kernel
theorem dX6_goThrough_19 : decode cX6_goThrough 19 = .ok (.ifCond .eq 26, 3) := by decide +kernel
theorem dX6_goThrough_22 : decode cX6_goThrough 22 = .ok (.iload_n 3, 1) := by decide +kernel
theorem dX6_goThrough_23 : decode cX6_goThrough 23 = .ok (.iload_n 1, 1) := by decide +kernel
theorem dX6_goThrough_24 : decode cX6_goThrough 24 = .ok (.iload_n 2, 1) := by decide +kernel
theorem dX6_goThrough_25 : decode cX6_goThrough 25 = .ok (.iadd, 1) := by decide +kernel
theorem dX6_goThrough_26 : decode cX6_goThrough 26 = .ok (.if_icmp .ge 19, 3) := by decide +kernel
theorem dX6_goThrough_29 : decode cX6_goThrough 29 = .ok (.aload_n 0, 1) := by decide +kernel
theorem dX6_goThrough_30 : decode cX6_goThrough 30 = .ok (.getfield 26, 3) := by decide +kernel
theorem dX6_goThrough_33 : decode cX6_goThrough 33 = .ok (.getfield 164, 3) := by decide +kernel
theorem dX6_goThrough_36 : decode cX6_goThrough 36 = .ok (.iload_n 3, 1) := by decide +kernel
theorem dX6_goThrough_37 : decode cX6_goThrough 37 = .ok (.iconst 5, 1) := by decide +kernel
theorem dX6_goThrough_38 : decode cX6_goThrough 38 = .ok (.iastore, 1) := by decide +kernel
theorem dX6_goThrough_39 : decode cX6_goThrough 39 = .ok (.iinc 3 1, 3) := by decide +kernel
theorem dX6_goThrough_42 : decode cX6_goThrough 42 = .ok (.goto (-28), 3) := by decide +kernel
theorem dX6_goThrough_45 : decode cX6_goThrough 45 = .ok (.aload_n 0, 1) := by decide +kernel
theorem dX6_goThrough_46 : decode cX6_goThrough 46 = .ok (.getfield 26, 3) := by decide +kernel
theorem dX6_goThrough_49 : decode cX6_goThrough 49 = .ok (.iconst 5, 1) := by decide +kernel
theorem dX6_goThrough_50 : decode cX6_goThrough 50 = .ok (.aload_n 0, 1) := by decide +kernel
theorem dX6_goThrough_51 : decode cX6_goThrough 51 = .ok (.getfield 26, 3) := by decide +kernel
theorem dX6_goThrough_54 : decode cX6_goThrough 54 = .ok (.getfield 198, 3) := by decide +kernel
theorem dX6_goThrough_57 : decode cX6_goThrough 57 = .ok (.iload_n 1, 1) := by decide +kernel
theorem dX6_goThrough_58 : decode cX6_goThrough 58 = .ok (.iaload, 1) := by decide +kernel
theorem dX6_goThrough_59 : decode cX6_goThrough 59 = .ok (.invokevirtual 281, 3) := by decide +kernel
theorem dX6_goThrough_62 : decode cX6_goThrough 62 = .ok (.aload_n 0, 1) := by decide +kernel
theorem dX6_goThrough_63 : decode cX6_goThrough 63 = .ok (.getfield 26, 3) := by decide +kernel
theorem dX6_goThrough_66 : decode cX6_goThrough 66 = .ok (.getfield 198, 3) := by decide +kernel
theorem dX6_goThrough_69 : decode cX6_goThrough 69 = .ok (.iload_n 1, 1) := by decide +kernel
theorem dX6_goThrough_70 : decode cX6_goThrough 70 = .ok (.iconst 0, 1) := by decide +kernel
theorem dX6_goThrough_71 : decode cX6_goThrough 71 = .ok (.iastore, 1) := by decide +kernel
theorem dX6_goThrough_72 : decode cX6_goThrough 72 = .ok (.aload_n 0, 1) := by decide +kernel
theorem dX6_goThrough_73 : decode cX6_goThrough 73 = .ok (.getfield 19, 3) := by decide +kernel
theorem dX6_goThrough_76 : decode cX6_goThrough 76 = .ok (.getfield 158, 3) := by decide +kernel
theorem dX6_goThrough_79 : decode cX6_goThrough 79 = .ok (.iload_n 1, 1) := by decide +kernel
theorem dX6_goThrough_80 : decode cX6_goThrough 80 = .ok (.iaload, 1) := by decide +kernel
theorem dX6_goThrough_81 : decode cX6_goThrough 81 = .ok (.iconst (-1), 1) := by decide +kernel
theorem dX6_goThrough_82 : decode cX6_goThrough 82 = .ok (.if_icmp .eq 31, 3) := by decide +kernel
theorem dX6_goThrough_85 : decode cX6_goThrough 85 = .ok (.aload_n 0, 1) := by decide +kernel
theorem dX6_goThrough_86 : decode cX6_goThrough 86 = .ok (.getfield 26, 3) := by decide +kernel
theorem dX6_goThrough_89 : decode cX6_goThrough 89 = .ok (.getfield 164, 3) := by decide +kernel
theorem dX6_goThrough_92 : decode cX6_goThrough 92 = .ok (.iload_n 1, 1) := by decide +kernel
theorem dX6_goThrough_93 : decode cX6_goThrough 93 = .ok (.iconst 4, 1) := by decide +kernel
theorem dX6_goThrough_94 : decode cX6_goThrough 94 = .ok (.iastore, 1) := by decide +kernel
theorem dX6_goThrough_95 : decode cX6_goThrough 95 = .ok (.aload_n 0, 1) := by decide +kernel
theorem dX6_goThrough_96 : decode cX6_goThrough 96 = .ok (.getfield 26, 3) := by decide +kernel
theorem dX6_goThrough_99 : decode cX6_goThrough 99 = .ok (.aload_n 0, 1) := by decide +kernel
theorem dX6_goThrough_100 : decode cX6_goThrough 100 = .ok (.getfield 19, 3) := by decide +kernel
theorem dX6_goThrough_103 : decode cX6_goThrough 103 = .ok (.getfield 158, 3) := by decide +kernel
theorem dX6_goThrough_106 : decode cX6_goThrough 106 = .ok (.iload_n 1, 1) := by decide +kernel
theorem dX6_goThrough_107 : decode cX6_goThrough 107 = .ok (.iaload, 1) := by decide +kernel
theorem dX6_goThrough_108 : decode cX6_goThrough 108 = .ok (.invokevirtual 297, 3) := by decide +kernel
theorem dX6_goThrough_111 : decode cX6_goThrough 111 = .ok (.iconst 0, 1) := by decide +kernel
theorem dX6_goThrough_112 : decode cX6_goThrough 112 = .ok (.ireturn, 1) := by decide +kernel
theorem dX6_goThrough_113 : decode cX6_goThrough 113 = .ok (.aload_n 0, 1) := by decide +kernel
theorem dX6_goThrough_114 : decode cX6_goThrough 114 = .ok (.iload_n 1, 1) := by decide +kernel
theorem dX6_goThrough_115 : decode cX6_goThrough 115 = .ok (.invokevirtual 218, 3) := by decide +kernel
theorem dX6_goThrough_118 : decode cX6_goThrough 118 = .ok (.istore_n 3, 1) := by decide +kernel
theorem dX6_goThrough_119 : decode cX6_goThrough 119 = .ok (.aload_n 0, 1) := by decide +kernel
theorem dX6_goThrough_120 : decode cX6_goThrough 120 = .ok (.iload_n 1, 1) := by decide +kernel
theorem dX6_goThrough_121 : decode cX6_goThrough 121 = .ok (.iconst 0, 1) := by decide +kernel
theorem dX6_goThrough_122 : decode cX6_goThrough 122 = .ok (.invokevirtual 332, 3) := by decide +kernel
theorem dX6_goThrough_125 : decode cX6_goThrough 125 = .ok (.ifCond .eq 12, 3) := by decide +kernel
theorem dX6_goThrough_128 : decode cX6_goThrough 128 = .ok (.aload_n 0, 1) := by decide +kernel
theorem dX6_goThrough_129 : decode cX6_goThrough 129 = .ok (.getfield 26, 3) := by decide +kernel
theorem dX6_goThrough_132 : decode cX6_goThrough 132 = .ok (.iload_n 1, 1) := by decide +kernel
theorem dX6_goThrough_133 : decode cX6_goThrough 133 = .ok (.iconst 0, 1) := by decide +kernel
theorem dX6_goThrough_134 : decode cX6_goThrough 134 = .ok (.invokevirtual 336, 3) := by decide +kernel
theorem dX6_goThrough_137 : decode cX6_goThrough 137 = .ok (.aload_n 0, 1) := by decide +kernel
theorem dX6_goThrough_138 : decode cX6_goThrough 138 = .ok (.iload_n 1, 1) := by decide +kernel
theorem dX6_goThrough_139 : decode cX6_goThrough 139 = .ok (.iconst 1, 1) := by decide +kernel
theorem dX6_goThrough_140 : decode cX6_goThrough 140 = .ok (.invokevirtual 332, 3) := by decide +kernel
theorem dX6_goThrough_143 : decode cX6_goThrough 143 = .ok (.ifCond .eq 12, 3) := by decide +kernel
theorem dX6_goThrough_146 : decode cX6_goThrough 146 = .ok (.aload_n 0, 1) := by decide +kernel
theorem dX6_goThrough_147 : decode cX6_goThrough 147 = .ok (.getfield 26, 3) := by decide +kernel
theorem dX6_goThrough_150 : decode cX6_goThrough 150 = .ok (.iload_n 1, 1) := by decide +kernel
theorem dX6_goThrough_151 : decode cX6_goThrough 151 = .ok (.iconst 1, 1) := by decide +kernel
theorem dX6_goThrough_152 : decode cX6_goThrough 152 = .ok (.invokevirtual 336, 3) := by decide +kernel
theorem dX6_goThrough_155 : decode cX6_goThrough 155 = .ok (.aload_n 0, 1) := by decide +kernel
theorem dX6_goThrough_156 : decode cX6_goThrough 156 = .ok (.getfield 26, 3) := by decide +kernel
theorem dX6_goThrough_159 : decode cX6_goThrough 159 = .ok (.getfield 164, 3) := by decide +kernel
theorem dX6_goThrough_162 : decode cX6_goThrough 162 = .ok (.iload_n 1, 1) := by decide +kernel
theorem dX6_goThrough_163 : decode cX6_goThrough 163 = .ok (.iload_n 3, 1) := by decide +kernel
theorem dX6_goThrough_164 : decode cX6_goThrough 164 = .ok (.ifCond .le 7, 3) := by decide +kernel
theorem dX6_goThrough_167 : decode cX6_goThrough 167 = .ok (.iconst 2, 1) := by decide +kernel
theorem dX6_goThrough_168 : decode cX6_goThrough 168 = .ok (.goto 4, 3) := by decide +kernel
theorem dX6_goThrough_171 : decode cX6_goThrough 171 = .ok (.iconst 3, 1) := by decide +kernel
theorem dX6_goThrough_172 : decode cX6_goThrough 172 = .ok (.iastore, 1) := by decide +kernel
theorem dX6_goThrough_173 : decode cX6_goThrough 173 = .ok (.iload_n 3, 1) := by decide +kernel
theorem dX6_goThrough_174 : decode cX6_goThrough 174 = .ok (.ireturn, 1) := by decide +kernel
theorem dX6_pagesOfSheet_0 : decode cX6_pagesOfSheet 0 = .ok (.aload_n 0, 1) := by decide +kernel
theorem dX6_pagesOfSheet_1 : decode cX6_pagesOfSheet 1 = .ok (.iload_n 1, 1) := by decide +kernel
theorem dX6_pagesOfSheet_2 : decode cX6_pagesOfSheet 2 = .ok (.iconst 0, 1) := by decide +kernel
theorem dX6_pagesOfSheet_3 : decode cX6_pagesOfSheet 3 = .ok (.invokevirtual 332, 3) := by decide +kernel
theorem dX6_pagesOfSheet_6 : decode cX6_pagesOfSheet 6 = .ok (.ifCond .eq 7, 3) := by decide +kernel
theorem dX6_pagesOfSheet_9 : decode cX6_pagesOfSheet 9 = .ok (.iconst 1, 1) := by decide +kernel
theorem dX6_pagesOfSheet_10 : decode cX6_pagesOfSheet 10 = .ok (.goto 4, 3) := by decide +kernel
theorem dX6_pagesOfSheet_13 : decode cX6_pagesOfSheet 13 = .ok (.iconst 0, 1) := by decide +kernel
theorem dX6_pagesOfSheet_14 : decode cX6_pagesOfSheet 14 = .ok (.aload_n 0, 1) := by decide +kernel
theorem dX6_pagesOfSheet_15 : decode cX6_pagesOfSheet 15 = .ok (.iload_n 1, 1) := by decide +kernel
theorem dX6_pagesOfSheet_16 : decode cX6_pagesOfSheet 16 = .ok (.iconst 1, 1) := by decide +kernel
theorem dX6_pagesOfSheet_17 : decode cX6_pagesOfSheet 17 = .ok (.invokevirtual 332, 3) := by decide +kernel
theorem dX6_pagesOfSheet_20 : decode cX6_pagesOfSheet 20 = .ok (.ifCond .eq 7, 3) := by decide +kernel
theorem dX6_pagesOfSheet_23 : decode cX6_pagesOfSheet 23 = .ok (.iconst 1, 1) := by decide +kernel
theorem dX6_pagesOfSheet_24 : decode cX6_pagesOfSheet 24 = .ok (.goto 4, 3) := by decide +kernel
theorem dX6_pagesOfSheet_27 : decode cX6_pagesOfSheet 27 = .ok (.iconst 0, 1) := by decide +kernel
theorem dX6_pagesOfSheet_28 : decode cX6_pagesOfSheet 28 = .ok (.iadd, 1) := by decide +kernel
theorem dX6_pagesOfSheet_29 : decode cX6_pagesOfSheet 29 = .ok (.ireturn, 1) := by decide +kernel
theorem dX6_isPage_0 : decode cX6_isPage 0 = .ok (.aload_n 0, 1) := by decide +kernel
theorem dX6_isPage_1 : decode cX6_isPage 1 = .ok (.iload_n 1, 1) := by decide +kernel
theorem dX6_isPage_2 : decode cX6_isPage 2 = .ok (.invokevirtual 134, 3) := by decide +kernel
theorem dX6_isPage_5 : decode cX6_isPage 5 = .ok (.ifCond .eq 31, 3) := by decide +kernel
theorem dX6_isPage_8 : decode cX6_isPage 8 = .ok (.aload_n 0, 1) := by decide +kernel
theorem dX6_isPage_9 : decode cX6_isPage 9 = .ok (.getfield 19, 3) := by decide +kernel
theorem dX6_isPage_12 : decode cX6_isPage 12 = .ok (.getfield 158, 3) := by decide +kernel
theorem dX6_isPage_15 : decode cX6_isPage 15 = .ok (.iload_n 1, 1) := by decide +kernel
theorem dX6_isPage_16 : decode cX6_isPage 16 = .ok (.iaload, 1) := by decide +kernel
theorem dX6_isPage_17 : decode cX6_isPage 17 = .ok (.iconst (-1), 1) := by decide +kernel
theorem dX6_isPage_18 : decode cX6_isPage 18 = .ok (.if_icmp .ne 18, 3) := by decide +kernel
theorem dX6_isPage_21 : decode cX6_isPage 21 = .ok (.iload_n 2, 1) := by decide +kernel
theorem dX6_isPage_22 : decode cX6_isPage 22 = .ok (.iconst 1, 1) := by decide +kernel
theorem dX6_isPage_23 : decode cX6_isPage 23 = .ok (.if_icmp .ne 15, 3) := by decide +kernel
theorem dX6_isPage_26 : decode cX6_isPage 26 = .ok (.aload_n 0, 1) := by decide +kernel
theorem dX6_isPage_27 : decode cX6_isPage 27 = .ok (.getfield 26, 3) := by decide +kernel
theorem dX6_isPage_30 : decode cX6_isPage 30 = .ok (.getfield 109, 3) := by decide +kernel
theorem dX6_isPage_33 : decode cX6_isPage 33 = .ok (.ifCond .ne 5, 3) := by decide +kernel
theorem dX6_isPage_36 : decode cX6_isPage 36 = .ok (.iconst 0, 1) := by decide +kernel
theorem dX6_isPage_37 : decode cX6_isPage 37 = .ok (.ireturn, 1) := by decide +kernel
theorem dX6_isPage_38 : decode cX6_isPage 38 = .ok (.aload_n 0, 1) := by decide +kernel
theorem dX6_isPage_39 : decode cX6_isPage 39 = .ok (.getfield 19, 3) := by decide +kernel
theorem dX6_isPage_42 : decode cX6_isPage 42 = .ok (.iload_n 1, 1) := by decide +kernel
theorem dX6_isPage_43 : decode cX6_isPage 43 = .ok (.iload_n 2, 1) := by decide +kernel
theorem dX6_isPage_44 : decode cX6_isPage 44 = .ok (.invokevirtual 259, 3) := by decide +kernel
theorem dX6_isPage_47 : decode cX6_isPage 47 = .ok (.aload_n 0, 1) := by decide +kernel
theorem dX6_isPage_48 : decode cX6_isPage 48 = .ok (.getfield 26, 3) := by decide +kernel
theorem dX6_isPage_51 : decode cX6_isPage 51 = .ok (.getfield 130, 3) := by decide +kernel
theorem dX6_isPage_54 : decode cX6_isPage 54 = .ok (.iconst 3, 1) := by decide +kernel
theorem dX6_isPage_55 : decode cX6_isPage 55 = .ok (.iaload, 1) := by decide +kernel
theorem dX6_isPage_56 : decode cX6_isPage 56 = .ok (.if_icmp .lt 7, 3) := by decide +kernel
theorem dX6_isPage_59 : decode cX6_isPage 59 = .ok (.iconst 1, 1) := by decide +kernel
theorem dX6_isPage_60 : decode cX6_isPage 60 = .ok (.goto 4, 3) := by decide +kernel
theorem dX6_isPage_63 : decode cX6_isPage 63 = .ok (.iconst 0, 1) := by decide +kernel
theorem dX6_isPage_64 : decode cX6_isPage 64 = .ok (.ireturn, 1) := by decide +kernel
theorem dX6_foresee_0 : decode cX6_foresee 0 = .ok (.aload_n 0, 1) := by decide +kernel
theorem dX6_foresee_1 : decode cX6_foresee 1 = .ok (.getfield 51, 3) := by decide +kernel
theorem dX6_foresee_4 : decode cX6_foresee 4 = .ok (.aload_n 0, 1) := by decide +kernel
theorem dX6_foresee_5 : decode cX6_foresee 5 = .ok (.getfield 26, 3) := by decide +kernel
theorem dX6_foresee_8 : decode cX6_foresee 8 = .ok (.getfield 113, 3) := by decide +kernel
theorem dX6_foresee_11 : decode cX6_foresee 11 = .ok (.invokevirtual 339, 3) := by decide +kernel
theorem dX6_foresee_14 : decode cX6_foresee 14 = .ok (.aload_n 0, 1) := by decide +kernel
theorem dX6_foresee_15 : decode cX6_foresee 15 = .ok (.getfield 26, 3) := by decide +kernel
theorem dX6_foresee_18 : decode cX6_foresee 18 = .ok (.getfield 167, 3) := by decide +kernel
theorem dX6_foresee_21 : decode cX6_foresee 21 = .ok (.istore_n 2, 1) := by decide +kernel
theorem dX6_foresee_22 : decode cX6_foresee 22 = .ok (.iconst 0, 1) := by decide +kernel
theorem dX6_foresee_23 : decode cX6_foresee 23 = .ok (.istore_n 3, 1) := by decide +kernel
theorem dX6_foresee_24 : decode cX6_foresee 24 = .ok (.iload_n 3, 1) := by decide +kernel
theorem dX6_foresee_25 : decode cX6_foresee 25 = .ok (.bipush 40, 2) := by decide +kernel
theorem dX6_foresee_27 : decode cX6_foresee 27 = .ok (.if_icmp .ge 119, 3) := by decide +kernel
theorem dX6_foresee_30 : decode cX6_foresee 30 = .ok (.iload_n 2, 1) := by decide +kernel
theorem dX6_foresee_31 : decode cX6_foresee 31 = .ok (.aload_n 0, 1) := by decide +kernel
theorem dX6_foresee_32 : decode cX6_foresee 32 = .ok (.getfield 19, 3) := by decide +kernel
theorem dX6_foresee_35 : decode cX6_foresee 35 = .ok (.getfield 90, 3) := by decide +kernel
theorem dX6_foresee_38 : decode cX6_foresee 38 = .ok (.if_icmp .ge 108, 3) := by decide +kernel
theorem dX6_foresee_41 : decode cX6_foresee 41 = .ok (.aload_n 0, 1) := by decide +kernel
theorem dX6_foresee_42 : decode cX6_foresee 42 = .ok (.getfield 44, 3) := by decide +kernel
theorem dX6_foresee_45 : decode cX6_foresee 45 = .ok (.aload_n 0, 1) := by decide +kernel
theorem dX6_foresee_46 : decode cX6_foresee 46 = .ok (.getfield 19, 3) := by decide +kernel
theorem dX6_foresee_49 : decode cX6_foresee 49 = .ok (.aload_n 0, 1) := by decide +kernel
theorem dX6_foresee_50 : decode cX6_foresee 50 = .ok (.getfield 26, 3) := by decide +kernel
theorem dX6_foresee_53 : decode cX6_foresee 53 = .ok (.iload_n 2, 1) := by decide +kernel
theorem dX6_foresee_54 : decode cX6_foresee 54 = .ok (.invokevirtual 201, 3) := by decide +kernel
theorem dX6_foresee_57 : decode cX6_foresee 57 = .ok (.aload_n 0, 1) := by decide +kernel
theorem dX6_foresee_58 : decode cX6_foresee 58 = .ok (.getfield 51, 3) := by decide +kernel
theorem dX6_foresee_61 : decode cX6_foresee 61 = .ok (.getfield 342, 3) := by decide +kernel
theorem dX6_foresee_64 : decode cX6_foresee 64 = .ok (.aload_n 0, 1) := by decide +kernel
theorem dX6_foresee_65 : decode cX6_foresee 65 = .ok (.getfield 19, 3) := by decide +kernel
theorem dX6_foresee_68 : decode cX6_foresee 68 = .ok (.getfield 62, 3) := by decide +kernel
theorem dX6_foresee_71 : decode cX6_foresee 71 = .ok (.invokevirtual 117, 3) := by decide +kernel
theorem dX6_foresee_74 : decode cX6_foresee 74 = .ok (.istore 4, 2) := by decide +kernel
theorem dX6_foresee_76 : decode cX6_foresee 76 = .ok (.aload_n 0, 1) := by decide +kernel
theorem dX6_foresee_77 : decode cX6_foresee 77 = .ok (.iload_n 1, 1) := by decide +kernel
theorem dX6_foresee_78 : decode cX6_foresee 78 = .ok (.iload 4, 2) := by decide +kernel
theorem dX6_foresee_80 : decode cX6_foresee 80 = .ok (.invokevirtual 211, 3) := by decide +kernel
theorem dX6_foresee_83 : decode cX6_foresee 83 = .ok (.istore 5, 2) := by decide +kernel
theorem dX6_foresee_85 : decode cX6_foresee 85 = .ok (.iload 5, 2) := by decide +kernel
theorem dX6_foresee_87 : decode cX6_foresee 87 = .ok (.ifCond .ne 28, 3) := by decide +kernel
theorem dX6_foresee_90 : decode cX6_foresee 90 = .ok (.aload_n 0, 1) := by decide +kernel
theorem dX6_foresee_91 : decode cX6_foresee 91 = .ok (.getfield 51, 3) := by decide +kernel
theorem dX6_foresee_94 : decode cX6_foresee 94 = .ok (.aload_n 0, 1) := by decide +kernel
theorem dX6_foresee_95 : decode cX6_foresee 95 = .ok (.getfield 44, 3) := by decide +kernel
theorem dX6_foresee_98 : decode cX6_foresee 98 = .ok (.aload_n 0, 1) := by decide +kernel
theorem dX6_foresee_99 : decode cX6_foresee 99 = .ok (.aload_n 0, 1) := by decide +kernel
theorem dX6_foresee_100 : decode cX6_foresee 100 = .ok (.getfield 44, 3) := by decide +kernel
theorem dX6_foresee_103 : decode cX6_foresee 103 = .ok (.getfield 215, 3) := by decide +kernel
theorem dX6_foresee_106 : decode cX6_foresee 106 = .ok (.invokevirtual 218, 3) := by decide +kernel
theorem dX6_foresee_109 : decode cX6_foresee 109 = .ok (.invokevirtual 343, 3) := by decide +kernel
theorem dX6_foresee_112 : decode cX6_foresee 112 = .ok (.goto 18, 3) := by decide +kernel
theorem dX6_foresee_115 : decode cX6_foresee 115 = .ok (.aload_n 0, 1) := by decide +kernel
theorem dX6_foresee_116 : decode cX6_foresee 116 = .ok (.getfield 51, 3) := by decide +kernel
theorem dX6_foresee_119 : decode cX6_foresee 119 = .ok (.aload_n 0, 1) := by decide +kernel
theorem dX6_foresee_120 : decode cX6_foresee 120 = .ok (.getfield 44, 3) := by decide +kernel
theorem dX6_foresee_123 : decode cX6_foresee 123 = .ok (.iload 5, 2) := by decide +kernel
theorem dX6_foresee_125 : decode cX6_foresee 125 = .ok (.iload 4, 2) := by decide +kernel
theorem dX6_foresee_127 : decode cX6_foresee 127 = .ok (.invokevirtual 347, 3) := by decide +kernel
theorem dX6_foresee_130 : decode cX6_foresee 130 = .ok (.iload_n 2, 1) := by decide +kernel
theorem dX6_foresee_131 : decode cX6_foresee 131 = .ok (.aload_n 0, 1) := by decide +kernel
theorem dX6_foresee_132 : decode cX6_foresee 132 = .ok (.getfield 44, 3) := by decide +kernel
theorem dX6_foresee_135 : decode cX6_foresee 135 = .ok (.getfield 205, 3) := by decide +kernel
theorem dX6_foresee_138 : decode cX6_foresee 138 = .ok (.iadd, 1) := by decide +kernel
theorem dX6_foresee_139 : decode cX6_foresee 139 = .ok (.istore_n 2, 1) := by decide +kernel
theorem dX6_foresee_140 : decode cX6_foresee 140 = .ok (.iinc 3 1, 3) := by decide +kernel
theorem dX6_foresee_143 : decode cX6_foresee 143 = .ok (.goto (-119), 3) := by decide +kernel
theorem dX6_foresee_146 : decode cX6_foresee 146 = .ok (.return_, 1) := by decide +kernel
theorem dX7_init_0 : decode cX7_init 0 = .ok (.aload_n 0, 1) := by decide +kernel
theorem dX7_init_1 : decode cX7_init 1 = .ok (.invokespecial 1, 3) := by decide +kernel
theorem dX7_init_4 : decode cX7_init 4 = .ok (.aload_n 0, 1) := by decide +kernel
theorem dX7_init_5 : decode cX7_init 5 = .ok (.sipush 700, 3) := by decide +kernel
theorem dX7_init_8 : decode cX7_init 8 = .ok (.newarray .byte, 2) := by decide +kernel
theorem dX7_init_10 : decode cX7_init 10 = .ok (.putfield 7, 3) := by decide +kernel
theorem dX7_init_13 : decode cX7_init 13 = .ok (.aload_n 0, 1) := by decide +kernel
theorem dX7_init_14 : decode cX7_init 14 = .ok (.sipush 288, 3) := by decide +kernel
theorem dX7_init_17 : decode cX7_init 17 = .ok (.newarray .int, 2) := by decide +kernel
theorem dX7_init_19 : decode cX7_init 19 = .ok (.putfield 13, 3) := by decide +kernel
theorem dX7_init_22 : decode cX7_init 22 = .ok (.aload_n 0, 1) := by decide +kernel
theorem dX7_init_23 : decode cX7_init 23 = .ok (.sipush 288, 3) := by decide +kernel
theorem dX7_init_26 : decode cX7_init 26 = .ok (.newarray .int, 2) := by decide +kernel
theorem dX7_init_28 : decode cX7_init 28 = .ok (.putfield 17, 3) := by decide +kernel
theorem dX7_init_31 : decode cX7_init 31 = .ok (.aload_n 0, 1) := by decide +kernel
theorem dX7_init_32 : decode cX7_init 32 = .ok (.sipush 706, 3) := by decide +kernel
theorem dX7_init_35 : decode cX7_init 35 = .ok (.newarray .int, 2) := by decide +kernel
theorem dX7_init_37 : decode cX7_init 37 = .ok (.putfield 20, 3) := by decide +kernel
theorem dX7_init_40 : decode cX7_init 40 = .ok (.aload_n 0, 1) := by decide +kernel
theorem dX7_init_41 : decode cX7_init 41 = .ok (.sipush 706, 3) := by decide +kernel
theorem dX7_init_44 : decode cX7_init 44 = .ok (.newarray .int, 2) := by decide +kernel
theorem dX7_init_46 : decode cX7_init 46 = .ok (.putfield 23, 3) := by decide +kernel
theorem dX7_init_49 : decode cX7_init 49 = .ok (.aload_n 0, 1) := by decide +kernel
theorem dX7_init_50 : decode cX7_init 50 = .ok (.sipush 7060, 3) := by decide +kernel
theorem dX7_init_53 : decode cX7_init 53 = .ok (.newarray .int, 2) := by decide +kernel
theorem dX7_init_55 : decode cX7_init 55 = .ok (.putfield 26, 3) := by decide +kernel
theorem dX7_init_58 : decode cX7_init 58 = .ok (.aload_n 0, 1) := by decide +kernel
theorem dX7_init_59 : decode cX7_init 59 = .ok (.sipush 1412, 3) := by decide +kernel
theorem dX7_init_62 : decode cX7_init 62 = .ok (.newarray .int, 2) := by decide +kernel
theorem dX7_init_64 : decode cX7_init 64 = .ok (.putfield 29, 3) := by decide +kernel
theorem dX7_init_67 : decode cX7_init 67 = .ok (.aload_n 0, 1) := by decide +kernel
theorem dX7_init_68 : decode cX7_init 68 = .ok (.iconst 2, 1) := by decide +kernel
theorem dX7_init_69 : decode cX7_init 69 = .ok (.newarray .boolean, 2) := by decide +kernel
theorem dX7_init_71 : decode cX7_init 71 = .ok (.putfield 32, 3) := by decide +kernel
theorem dX7_init_74 : decode cX7_init 74 = .ok (.aload_n 0, 1) := by decide +kernel
theorem dX7_init_75 : decode cX7_init 75 = .ok (.iconst 5, 1) := by decide +kernel
theorem dX7_init_76 : decode cX7_init 76 = .ok (.newarray .int, 2) := by decide +kernel
theorem dX7_init_78 : decode cX7_init 78 = .ok (.putfield 36, 3) := by decide +kernel
theorem dX7_init_81 : decode cX7_init 81 = .ok (.aload_n 0, 1) := by decide +kernel
theorem dX7_init_82 : decode cX7_init 82 = .ok (.invokevirtual 39, 3) := by decide +kernel
theorem dX7_init_85 : decode cX7_init 85 = .ok (.aload_n 0, 1) := by decide +kernel
theorem dX7_init_86 : decode cX7_init 86 = .ok (.getfield 13, 3) := by decide +kernel
theorem dX7_init_89 : decode cX7_init 89 = .ok (.iconst 0, 1) := by decide +kernel
theorem dX7_init_90 : decode cX7_init 90 = .ok (.bipush 50, 2) := by decide +kernel
theorem dX7_init_92 : decode cX7_init 92 = .ok (.iastore, 1) := by decide +kernel
theorem dX7_init_93 : decode cX7_init 93 = .ok (.aload_n 0, 1) := by decide +kernel
theorem dX7_init_94 : decode cX7_init 94 = .ok (.getfield 13, 3) := by decide +kernel
theorem dX7_init_97 : decode cX7_init 97 = .ok (.iconst 1, 1) := by decide +kernel
theorem dX7_init_98 : decode cX7_init 98 = .ok (.bipush 30, 2) := by decide +kernel
theorem dX7_init_100 : decode cX7_init 100 = .ok (.iastore, 1) := by decide +kernel
theorem dX7_init_101 : decode cX7_init 101 = .ok (.aload_n 0, 1) := by decide +kernel
theorem dX7_init_102 : decode cX7_init 102 = .ok (.invokevirtual 42, 3) := by decide +kernel
theorem dX7_init_105 : decode cX7_init 105 = .ok (.return_, 1) := by decide +kernel
theorem dX7_thrown_0 : decode cX7_thrown 0 = .ok (.aload_n 0, 1) := by decide +kernel
theorem dX7_thrown_1 : decode cX7_thrown 1 = .ok (.getfield 45, 3) := by decide +kernel
theorem dX7_thrown_4 : decode cX7_thrown 4 = .ok (.ireturn, 1) := by decide +kernel
theorem dX7_within_0 : decode cX7_within 0 = .ok (.iload_n 0, 1) := by decide +kernel
theorem dX7_within_1 : decode cX7_within 1 = .ok (.iload_n 1, 1) := by decide +kernel
theorem dX7_within_2 : decode cX7_within 2 = .ok (.if_icmp .lt 12, 3) := by decide +kernel
theorem dX7_within_5 : decode cX7_within 5 = .ok (.iload_n 0, 1) := by decide +kernel
theorem dX7_within_6 : decode cX7_within 6 = .ok (.iload_n 2, 1) := by decide +kernel
theorem dX7_within_7 : decode cX7_within 7 = .ok (.if_icmp .gt 7, 3) := by decide +kernel
theorem dX7_within_10 : decode cX7_within 10 = .ok (.iconst 1, 1) := by decide +kernel
theorem dX7_within_11 : decode cX7_within 11 = .ok (.goto 4, 3) := by decide +kernel
theorem dX7_within_14 : decode cX7_within 14 = .ok (.iconst 0, 1) := by decide +kernel
theorem dX7_within_15 : decode cX7_within 15 = .ok (.ireturn, 1) := by decide +kernel
theorem dX7_fail_0 : decode cX7_fail 0 = .ok (.aload_n 0, 1) := by decide +kernel
theorem dX7_fail_1 : decode cX7_fail 1 = .ok (.iload_n 1, 1) := by decide +kernel
theorem dX7_fail_2 : decode cX7_fail 2 = .ok (.putfield 45, 3) := by decide +kernel
theorem dX7_fail_5 : decode cX7_fail 5 = .ok (.iconst 0, 1) := by decide +kernel
theorem dX7_fail_6 : decode cX7_fail 6 = .ok (.ireturn, 1) := by decide +kernel
theorem dX7_appendInt_0 : decode cX7_appendInt 0 = .ok (.bipush 24, 2) := by decide +kernel
theorem dX7_appendInt_2 : decode cX7_appendInt 2 = .ok (.istore_n 2, 1) := by decide +kernel
theorem dX7_appendInt_3 : decode cX7_appendInt 3 = .ok (.iload_n 2, 1) := by decide +kernel
theorem dX7_appendInt_4 : decode cX7_appendInt 4 = .ok (.ifCond .lt 32, 3) := by decide +kernel
theorem dX7_appendInt_7 : decode cX7_appendInt 7 = .ok (.aload_n 0, 1) := by decide +kernel
theorem dX7_appendInt_8 : decode cX7_appendInt 8 = .ok (.getfield 7, 3) := by decide +kernel
theorem dX7_appendInt_11 : decode cX7_appendInt 11 = .ok (.aload_n 0, 1) := by decide +kernel
theorem dX7_appendInt_12 : decode cX7_appendInt 12 = .ok (.getfield 49, 3) := by decide +kernel
theorem dX7_appendInt_15 : decode cX7_appendInt 15 = .ok (.iload_n 1, 1) := by decide +kernel
theorem dX7_appendInt_16 : decode cX7_appendInt 16 = .ok (.iload_n 2, 1) := by decide +kernel
theorem dX7_appendInt_17 : decode cX7_appendInt 17 = .ok (.ishr, 1) := by decide +kernel
theorem dX7_appendInt_18 : decode cX7_appendInt 18 = .ok (.i2b, 1) := by decide +kernel
theorem dX7_appendInt_19 : decode cX7_appendInt 19 = .ok (.bastore, 1) := by decide +kernel
theorem dX7_appendInt_20 : decode cX7_appendInt 20 = .ok (.aload_n 0, 1) := by decide +kernel
theorem dX7_appendInt_21 : decode cX7_appendInt 21 = .ok (.dup, 1) := by decide +kernel
theorem dX7_appendInt_22 : decode cX7_appendInt 22 = .ok (.getfield 49, 3) := by decide +kernel
theorem dX7_appendInt_25 : decode cX7_appendInt 25 = .ok (.iconst 1, 1) := by decide +kernel
theorem dX7_appendInt_26 : decode cX7_appendInt 26 = .ok (.iadd, 1) := by decide +kernel
theorem dX7_appendInt_27 : decode cX7_appendInt 27 = .ok (.putfield 49, 3) := by decide +kernel
theorem dX7_appendInt_30 : decode cX7_appendInt 30 = .ok (.iinc 2 (-8), 3) := by decide +kernel
theorem dX7_appendInt_33 : decode cX7_appendInt 33 = .ok (.goto (-30), 3) := by decide +kernel
theorem dX7_appendInt_36 : decode cX7_appendInt 36 = .ok (.return_, 1) := by decide +kernel
theorem dX7_append_0 : decode cX7_append 0 = .ok (.aload_n 0, 1) := by decide +kernel
theorem dX7_append_1 : decode cX7_append 1 = .ok (.iconst 0, 1) := by decide +kernel
theorem dX7_append_2 : decode cX7_append 2 = .ok (.putfield 45, 3) := by decide +kernel
theorem dX7_append_5 : decode cX7_append 5 = .ok (.aload_n 0, 1) := by decide +kernel
theorem dX7_append_6 : decode cX7_append 6 = .ok (.getfield 49, 3) := by decide +kernel
theorem dX7_append_9 : decode cX7_append 9 = .ok (.bipush 20, 2) := by decide +kernel
theorem dX7_append_11 : decode cX7_append 11 = .ok (.iadd, 1) := by decide +kernel
theorem dX7_append_12 : decode cX7_append 12 = .ok (.sipush 700, 3) := by decide +kernel
theorem dX7_append_15 : decode cX7_append 15 = .ok (.if_icmp .le 5, 3) := by decide +kernel
theorem dX7_append_18 : decode cX7_append 18 = .ok (.iconst (-1), 1) := by decide +kernel
theorem dX7_append_19 : decode cX7_append 19 = .ok (.ireturn, 1) := by decide +kernel
theorem dX7_append_20 : decode cX7_append 20 = .ok (.aload_n 0, 1) := by decide +kernel
theorem dX7_append_21 : decode cX7_append 21 = .ok (.iload_n 1, 1) := by decide +kernel
theorem dX7_append_22 : decode cX7_append 22 = .ok (.invokevirtual 52, 3) := by decide +kernel
theorem dX7_append_25 : decode cX7_append 25 = .ok (.aload_n 0, 1) := by decide +kernel
theorem dX7_append_26 : decode cX7_append 26 = .ok (.iload_n 2, 1) := by decide +kernel
theorem dX7_append_27 : decode cX7_append 27 = .ok (.invokevirtual 52, 3) := by decide +kernel
theorem dX7_append_30 : decode cX7_append 30 = .ok (.aload_n 0, 1) := by decide +kernel
theorem dX7_append_31 : decode cX7_append 31 = .ok (.iload_n 3, 1) := by decide +kernel
theorem dX7_append_32 : decode cX7_append 32 = .ok (.invokevirtual 52, 3) := by decide +kernel
theorem dX7_append_35 : decode cX7_append 35 = .ok (.aload_n 0, 1) := by decide +kernel
theorem dX7_append_36 : decode cX7_append 36 = .ok (.iload 4, 2) := by decide +kernel
theorem dX7_append_38 : decode cX7_append 38 = .ok (.invokevirtual 52, 3) := by decide +kernel
theorem dX7_append_41 : decode cX7_append 41 = .ok (.aload_n 0, 1) := by decide +kernel
theorem dX7_append_42 : decode cX7_append 42 = .ok (.iload 5, 2) := by decide +kernel
theorem dX7_append_44 : decode cX7_append 44 = .ok (.invokevirtual 52, 3) := by decide +kernel
theorem dX7_append_47 : decode cX7_append 47 = .ok (.aload_n 0, 1) := by decide +kernel
theorem dX7_append_48 : decode cX7_append 48 = .ok (.getfield 49, 3) := by decide +kernel
theorem dX7_append_51 : decode cX7_append 51 = .ok (.ireturn, 1) := by decide +kernel
theorem dX7_byteAt_0 : decode cX7_byteAt 0 = .ok (.iload_n 1, 1) := by decide +kernel
theorem dX7_byteAt_1 : decode cX7_byteAt 1 = .ok (.aload_n 0, 1) := by decide +kernel
theorem dX7_byteAt_2 : decode cX7_byteAt 2 = .ok (.getfield 56, 3) := by decide +kernel
theorem dX7_byteAt_5 : decode cX7_byteAt 5 = .ok (.if_icmp .ge 16, 3) := by decide +kernel
theorem dX7_byteAt_8 : decode cX7_byteAt 8 = .ok (.aload_n 0, 1) := by decide +kernel
theorem dX7_byteAt_9 : decode cX7_byteAt 9 = .ok (.getfield 7, 3) := by decide +kernel
theorem dX7_byteAt_12 : decode cX7_byteAt 12 = .ok (.iload_n 1, 1) := by decide +kernel
theorem dX7_byteAt_13 : decode cX7_byteAt 13 = .ok (.baload, 1) := by decide +kernel
theorem dX7_byteAt_14 : decode cX7_byteAt 14 = .ok (.sipush 255, 3) := by decide +kernel
theorem dX7_byteAt_17 : decode cX7_byteAt 17 = .ok (.iand, 1) := by decide +kernel
theorem dX7_byteAt_18 : decode cX7_byteAt 18 = .ok (.goto 4, 3) := by decide +kernel
theorem dX7_byteAt_21 : decode cX7_byteAt 21 = .ok (.iconst (-1), 1) := by decide +kernel
theorem dX7_byteAt_22 : decode cX7_byteAt 22 = .ok (.ireturn, 1) := by decide +kernel
theorem dX7_nextToken_0 : decode cX7_nextToken 0 = .ok (.aload_n 0, 1) := by decide +kernel
theorem dX7_nextToken_1 : decode cX7_nextToken 1 = .ok (.aload_n 0, 1) := by decide +kernel
theorem dX7_nextToken_2 : decode cX7_nextToken 2 = .ok (.getfield 59, 3) := by decide +kernel
theorem dX7_nextToken_5 : decode cX7_nextToken 5 = .ok (.putfield 62, 3) := by decide +kernel
theorem dX7_nextToken_8 : decode cX7_nextToken 8 = .ok (.aload_n 0, 1) := by decide +kernel
theorem dX7_nextToken_9 : decode cX7_nextToken 9 = .ok (.aload_n 0, 1) := by decide +kernel
theorem dX7_nextToken_10 : decode cX7_nextToken 10 = .ok (.getfield 62, 3) := by decide +kernel
theorem dX7_nextToken_13 : decode cX7_nextToken 13 = .ok (.invokevirtual 65, 3) := by decide +kernel
theorem dX7_nextToken_16 : decode cX7_nextToken 16 = .ok (.bipush 32, 2) := by decide +kernel
theorem dX7_nextToken_18 : decode cX7_nextToken 18 = .ok (.if_icmp .eq 16, 3) := by decide +kernel
theorem dX7_nextToken_21 : decode cX7_nextToken 21 = .ok (.aload_n 0, 1) := by decide +kernel
theorem dX7_nextToken_22 : decode cX7_nextToken 22 = .ok (.aload_n 0, 1) := by decide +kernel
theorem dX7_nextToken_23 : decode cX7_nextToken 23 = .ok (.getfield 62, 3) := by decide +kernel
theorem dX7_nextToken_26 : decode cX7_nextToken 26 = .ok (.invokevirtual 65, 3) := by decide +kernel
theorem dX7_nextToken_29 : decode cX7_nextToken 29 = .ok (.bipush 10, 2) := by decide +kernel
theorem dX7_nextToken_31 : decode cX7_nextToken 31 = .ok (.if_icmp .ne 16, 3) := by decide +kernel
theorem dX7_nextToken_34 : decode cX7_nextToken 34 = .ok (.aload_n 0, 1) := by decide +kernel
theorem dX7_nextToken_35 : decode cX7_nextToken 35 = .ok (.dup, 1) := by decide +kernel
theorem dX7_nextToken_36 : decode cX7_nextToken 36 = .ok (.getfield 62, 3) := by decide +kernel
theorem dX7_nextToken_39 : decode cX7_nextToken 39 = .ok (.iconst 1, 1) := by decide +kernel
theorem dX7_nextToken_40 : decode cX7_nextToken 40 = .ok (.iadd, 1) := by decide +kernel
theorem dX7_nextToken_41 : decode cX7_nextToken 41 = .ok (.putfield 62, 3) := by decide +kernel
theorem dX7_nextToken_44 : decode cX7_nextToken 44 = .ok (.goto (-36), 3) := by decide +kernel
theorem dX7_nextToken_47 : decode cX7_nextToken 47 = .ok (.aload_n 0, 1) := by decide +kernel
theorem dX7_nextToken_48 : decode cX7_nextToken 48 = .ok (.aload_n 0, 1) := by decide +kernel
theorem dX7_nextToken_49 : decode cX7_nextToken 49 = .ok (.getfield 62, 3) := by decide +kernel
theorem dX7_nextToken_52 : decode cX7_nextToken 52 = .ok (.invokevirtual 65, 3) := by decide +kernel
theorem dX7_nextToken_55 : decode cX7_nextToken 55 = .ok (.istore_n 1, 1) := by decide +kernel
theorem dX7_nextToken_56 : decode cX7_nextToken 56 = .ok (.aload_n 0, 1) := by decide +kernel
theorem dX7_nextToken_57 : decode cX7_nextToken 57 = .ok (.aload_n 0, 1) := by decide +kernel
theorem dX7_nextToken_58 : decode cX7_nextToken 58 = .ok (.getfield 62, 3) := by decide +kernel
theorem dX7_nextToken_61 : decode cX7_nextToken 61 = .ok (.putfield 59, 3) := by decide +kernel
theorem dX7_nextToken_64 : decode cX7_nextToken 64 = .ok (.aload_n 0, 1) := by decide +kernel
theorem dX7_nextToken_65 : decode cX7_nextToken 65 = .ok (.iconst 5, 1) := by decide +kernel
theorem dX7_nextToken_66 : decode cX7_nextToken 66 = .ok (.putfield 69, 3) := by decide +kernel
theorem dX7_nextToken_69 : decode cX7_nextToken 69 = .ok (.iload_n 1, 1) := by decide +kernel
theorem dX7_nextToken_70 : decode cX7_nextToken 70 = .ok (.iconst (-1), 1) := by decide +kernel
theorem dX7_nextToken_71 : decode cX7_nextToken 71 = .ok (.if_icmp .ne 11, 3) := by decide +kernel
theorem dX7_nextToken_74 : decode cX7_nextToken 74 = .ok (.aload_n 0, 1) := by decide +kernel
theorem dX7_nextToken_75 : decode cX7_nextToken 75 = .ok (.iconst 0, 1) := by decide +kernel
theorem dX7_nextToken_76 : decode cX7_nextToken 76 = .ok (.putfield 69, 3) := by decide +kernel
theorem dX7_nextToken_79 : decode cX7_nextToken 79 = .ok (.goto 221, 3) := by decide +kernel
theorem dX7_nextToken_82 : decode cX7_nextToken 82 = .ok (.iload_n 1, 1) := by decide +kernel
theorem dX7_nextToken_83 : decode cX7_nextToken 83 = .ok (.bipush 97, 2) := by decide +kernel
theorem dX7_nextToken_85 : decode cX7_nextToken 85 = .ok (.bipush 122, 2) := by decide +kernel
theorem dX7_nextToken_87 : decode cX7_nextToken 87 = .ok (.invokestatic 72, 3) := by decide +kernel
theorem dX7_nextToken_90 : decode cX7_nextToken 90 = .ok (.ifCond .eq 60, 3) := by decide +kernel
theorem dX7_nextToken_93 : decode cX7_nextToken 93 = .ok (.aload_n 0, 1) := by decide +kernel
theorem dX7_nextToken_94 : decode cX7_nextToken 94 = .ok (.aload_n 0, 1) := by decide +kernel
theorem dX7_nextToken_95 : decode cX7_nextToken 95 = .ok (.getfield 59, 3) := by decide +kernel
theorem dX7_nextToken_98 : decode cX7_nextToken 98 = .ok (.invokevirtual 65, 3) := by decide +kernel
theorem dX7_nextToken_101 : decode cX7_nextToken 101 = .ok (.bipush 97, 2) := by decide +kernel
theorem dX7_nextToken_103 : decode cX7_nextToken 103 = .ok (.bipush 122, 2) := by decide +kernel
theorem dX7_nextToken_105 : decode cX7_nextToken 105 = .ok (.invokestatic 72, 3) := by decide +kernel
theorem dX7_nextToken_108 : decode cX7_nextToken 108 = .ok (.ifCond .eq 16, 3) := by decide +kernel
theorem dX7_nextToken_111 : decode cX7_nextToken 111 = .ok (.aload_n 0, 1) := by decide +kernel
theorem dX7_nextToken_112 : decode cX7_nextToken 112 = .ok (.dup, 1) := by decide +kernel
theorem dX7_nextToken_113 : decode cX7_nextToken 113 = .ok (.getfield 59, 3) := by decide +kernel
theorem dX7_nextToken_116 : decode cX7_nextToken 116 = .ok (.iconst 1, 1) := by decide +kernel
theorem dX7_nextToken_117 : decode cX7_nextToken 117 = .ok (.iadd, 1) := by decide +kernel
theorem dX7_nextToken_118 : decode cX7_nextToken 118 = .ok (.putfield 59, 3) := by decide +kernel
theorem dX7_nextToken_121 : decode cX7_nextToken 121 = .ok (.goto (-28), 3) := by decide +kernel
theorem dX7_nextToken_124 : decode cX7_nextToken 124 = .ok (.aload_n 0, 1) := by decide +kernel
theorem dX7_nextToken_125 : decode cX7_nextToken 125 = .ok (.aload_n 0, 1) := by decide +kernel
theorem dX7_nextToken_126 : decode cX7_nextToken 126 = .ok (.getfield 59, 3) := by decide +kernel
theorem dX7_nextToken_129 : decode cX7_nextToken 129 = .ok (.aload_n 0, 1) := by decide +kernel
theorem dX7_nextToken_130 : decode cX7_nextToken 130 = .ok (.getfield 62, 3) := by decide +kernel
theorem dX7_nextToken_133 : decode cX7_nextToken 133 = .ok (.isub, 1) := by decide +kernel
theorem dX7_nextToken_134 : decode cX7_nextToken 134 = .ok (.bipush 8, 2) := by decide +kernel
theorem dX7_nextToken_136 : decode cX7_nextToken 136 = .ok (.if_icmp .le 7, 3) := by decide +kernel
theorem dX7_nextToken_139 : decode cX7_nextToken 139 = .ok (.iconst 5, 1) := by decide +kernel
theorem dX7_nextToken_140 : decode cX7_nextToken 140 = .ok (.goto 4, 3) := by decide +kernel
theorem dX7_nextToken_143 : decode cX7_nextToken 143 = .ok (.iconst 1, 1) := by decide +kernel
theorem dX7_nextToken_144 : decode cX7_nextToken 144 = .ok (.putfield 69, 3) := by decide +kernel
theorem dX7_nextToken_147 : decode cX7_nextToken 147 = .ok (.goto 153, 3) := by decide +kernel
theorem dX7_nextToken_150 : decode cX7_nextToken 150 = .ok (.iload_n 1, 1) := by decide +kernel
theorem dX7_nextToken_151 : decode cX7_nextToken 151 = .ok (.bipush 48, 2) := by decide +kernel
theorem dX7_nextToken_153 : decode cX7_nextToken 153 = .ok (.bipush 57, 2) := by decide +kernel
theorem dX7_nextToken_155 : decode cX7_nextToken 155 = .ok (.invokestatic 72, 3) := by decide +kernel
theorem dX7_nextToken_158 : decode cX7_nextToken 158 = .ok (.ifCond .eq 107, 3) := by decide +kernel
theorem dX7_nextToken_161 : decode cX7_nextToken 161 = .ok (.aload_n 0, 1) := by decide +kernel
theorem dX7_nextToken_162 : decode cX7_nextToken 162 = .ok (.iconst 0, 1) := by decide +kernel
theorem dX7_nextToken_163 : decode cX7_nextToken 163 = .ok (.putfield 76, 3) := by decide +kernel
theorem dX7_nextToken_166 : decode cX7_nextToken 166 = .ok (.aload_n 0, 1) := by decide +kernel
theorem dX7_nextToken_167 : decode cX7_nextToken 167 = .ok (.aload_n 0, 1) := by decide +kernel
theorem dX7_nextToken_168 : decode cX7_nextToken 168 = .ok (.getfield 59, 3) := by decide +kernel
theorem dX7_nextToken_171 : decode cX7_nextToken 171 = .ok (.invokevirtual 65, 3) := by decide +kernel
theorem dX7_nextToken_174 : decode cX7_nextToken 174 = .ok (.bipush 48, 2) := by decide +kernel
theorem dX7_nextToken_176 : decode cX7_nextToken 176 = .ok (.bipush 57, 2) := by decide +kernel
theorem dX7_nextToken_178 : decode cX7_nextToken 178 = .ok (.invokestatic 72, 3) := by decide +kernel
theorem dX7_nextToken_181 : decode cX7_nextToken 181 = .ok (.ifCond .eq 59, 3) := by decide +kernel
theorem dX7_nextToken_184 : decode cX7_nextToken 184 = .ok (.aload_n 0, 1) := by decide +kernel
theorem dX7_nextToken_185 : decode cX7_nextToken 185 = .ok (.aload_n 0, 1) := by decide +kernel
theorem dX7_nextToken_186 : decode cX7_nextToken 186 = .ok (.getfield 59, 3) := by decide +kernel
theorem dX7_nextToken_189 : decode cX7_nextToken 189 = .ok (.aload_n 0, 1) := by decide +kernel
theorem dX7_nextToken_190 : decode cX7_nextToken 190 = .ok (.getfield 62, 3) := by decide +kernel
theorem dX7_nextToken_193 : decode cX7_nextToken 193 = .ok (.isub, 1) := by decide +kernel
theorem dX7_nextToken_194 : decode cX7_nextToken 194 = .ok (.iconst 4, 1) := by decide +kernel
theorem dX7_nextToken_195 : decode cX7_nextToken 195 = .ok (.if_icmp .ge 25, 3) := by decide +kernel
theorem dX7_nextToken_198 : decode cX7_nextToken 198 = .ok (.bipush 10, 2) := by decide +kernel
theorem dX7_nextToken_200 : decode cX7_nextToken 200 = .ok (.aload_n 0, 1) := by decide +kernel
theorem dX7_nextToken_201 : decode cX7_nextToken 201 = .ok (.getfield 76, 3) := by decide +kernel
theorem dX7_nextToken_204 : decode cX7_nextToken 204 = .ok (.imul, 1) := by decide +kernel
theorem dX7_nextToken_205 : decode cX7_nextToken 205 = .ok (.aload_n 0, 1) := by decide +kernel
theorem dX7_nextToken_206 : decode cX7_nextToken 206 = .ok (.aload_n 0, 1) := by decide +kernel
theorem dX7_nextToken_207 : decode cX7_nextToken 207 = .ok (.getfield 59, 3) := by decide +kernel
theorem dX7_nextToken_210 : decode cX7_nextToken 210 = .ok (.invokevirtual 65, 3) := by decide +kernel
theorem dX7_nextToken_213 : decode cX7_nextToken 213 = .ok (.iadd, 1) := by decide +kernel
theorem dX7_nextToken_214 : decode cX7_nextToken 214 = .ok (.bipush 48, 2) := by decide +kernel
theorem dX7_nextToken_216 : decode cX7_nextToken 216 = .ok (.isub, 1) := by decide +kernel
theorem dX7_nextToken_217 : decode cX7_nextToken 217 = .ok (.goto 7, 3) := by decide +kernel
theorem dX7_nextToken_220 : decode cX7_nextToken 220 = .ok (.aload_n 0, 1) := by decide +kernel
theorem dX7_nextToken_221 : decode cX7_nextToken 221 = .ok (.getfield 76, 3) := by decide +kernel
theorem dX7_nextToken_224 : decode cX7_nextToken 224 = .ok (.putfield 76, 3) := by decide +kernel
theorem dX7_nextToken_227 : decode cX7_nextToken 227 = .ok (.aload_n 0, 1) := by decide +kernel
theorem dX7_nextToken_228 : decode cX7_nextToken 228 = .ok (.dup, 1) := by decide +kernel
theorem dX7_nextToken_229 : decode cX7_nextToken 229 = .ok (.getfield 59, 3) := by decide +kernel
theorem dX7_nextToken_232 : decode cX7_nextToken 232 = .ok (.iconst 1, 1) := by decide +kernel
theorem dX7_nextToken_233 : decode cX7_nextToken 233 = .ok (.iadd, 1) := by decide +kernel
theorem dX7_nextToken_234 : decode cX7_nextToken 234 = .ok (.putfield 59, 3) := by decide +kernel
theorem dX7_nextToken_237 : decode cX7_nextToken 237 = .ok (.goto (-71), 3) := by decide +kernel
theorem dX7_nextToken_240 : decode cX7_nextToken 240 = .ok (.aload_n 0, 1) := by decide +kernel
theorem dX7_nextToken_241 : decode cX7_nextToken 241 = .ok (.aload_n 0, 1) := by decide +kernel
theorem dX7_nextToken_242 : decode cX7_nextToken 242 = .ok (.getfield 59, 3) := by decide +kernel
theorem dX7_nextToken_245 : decode cX7_nextToken 245 = .ok (.aload_n 0, 1) := by decide +kernel
theorem dX7_nextToken_246 : decode cX7_nextToken 246 = .ok (.getfield 62, 3) := by decide +kernel
theorem dX7_nextToken_249 : decode cX7_nextToken 249 = .ok (.isub, 1) := by decide +kernel
theorem dX7_nextToken_250 : decode cX7_nextToken 250 = .ok (.iconst 4, 1) := by decide +kernel
theorem dX7_nextToken_251 : decode cX7_nextToken 251 = .ok (.if_icmp .le 7, 3) := by decide +kernel
theorem dX7_nextToken_254 : decode cX7_nextToken 254 = .ok (.iconst 5, 1) := by decide +kernel
theorem dX7_nextToken_255 : decode cX7_nextToken 255 = .ok (.goto 4, 3) := by decide +kernel
theorem dX7_nextToken_258 : decode cX7_nextToken 258 = .ok (.iconst 2, 1) := by decide +kernel
theorem dX7_nextToken_259 : decode cX7_nextToken 259 = .ok (.putfield 69, 3) := by decide +kernel
theorem dX7_nextToken_262 : decode cX7_nextToken 262 = .ok (.goto 38, 3) := by decide +kernel
theorem dX7_nextToken_265 : decode cX7_nextToken 265 = .ok (.aload_n 0, 1) := by decide +kernel
theorem dX7_nextToken_266 : decode cX7_nextToken 266 = .ok (.dup, 1) := by decide +kernel
theorem dX7_nextToken_267 : decode cX7_nextToken 267 = .ok (.getfield 59, 3) := by decide +kernel
theorem dX7_nextToken_270 : decode cX7_nextToken 270 = .ok (.iconst 1, 1) := by decide +kernel
theorem dX7_nextToken_271 : decode cX7_nextToken 271 = .ok (.iadd, 1) := by decide +kernel
theorem dX7_nextToken_272 : decode cX7_nextToken 272 = .ok (.putfield 59, 3) := by decide +kernel
theorem dX7_nextToken_275 : decode cX7_nextToken 275 = .ok (.aload_n 0, 1) := by decide +kernel
theorem dX7_nextToken_276 : decode cX7_nextToken 276 = .ok (.iload_n 1, 1) := by decide +kernel
theorem dX7_nextToken_277 : decode cX7_nextToken 277 = .ok (.bipush 59, 2) := by decide +kernel
theorem dX7_nextToken_279 : decode cX7_nextToken 279 = .ok (.if_icmp .ne 7, 3) := by decide +kernel
theorem dX7_nextToken_282 : decode cX7_nextToken 282 = .ok (.iconst 3, 1) := by decide +kernel
theorem dX7_nextToken_283 : decode cX7_nextToken 283 = .ok (.goto 14, 3) := by decide +kernel
theorem dX7_nextToken_286 : decode cX7_nextToken 286 = .ok (.iload_n 1, 1) := by decide +kernel
theorem dX7_nextToken_287 : decode cX7_nextToken 287 = .ok (.bipush 45, 2) := by decide +kernel
theorem dX7_nextToken_289 : decode cX7_nextToken 289 = .ok (.if_icmp .ne 7, 3) := by decide +kernel
theorem dX7_nextToken_292 : decode cX7_nextToken 292 = .ok (.iconst 4, 1) := by decide +kernel
theorem dX7_nextToken_293 : decode cX7_nextToken 293 = .ok (.goto 4, 3) := by decide +kernel
theorem dX7_nextToken_296 : decode cX7_nextToken 296 = .ok (.iconst 5, 1) := by decide +kernel
theorem dX7_nextToken_297 : decode cX7_nextToken 297 = .ok (.putfield 69, 3) := by decide +kernel
theorem dX7_nextToken_300 : decode cX7_nextToken 300 = .ok (.return_, 1) := by decide +kernel
theorem dX7_must_0 : decode cX7_must 0 = .ok (.aload_n 0, 1) := by decide +kernel
theorem dX7_must_1 : decode cX7_must 1 = .ok (.getfield 79, 3) := by decide +kernel
theorem dX7_must_4 : decode cX7_must 4 = .ok (.ifCond .ne 20, 3) := by decide +kernel
theorem dX7_must_7 : decode cX7_must 7 = .ok (.iload_n 1, 1) := by decide +kernel
theorem dX7_must_8 : decode cX7_must 8 = .ok (.ifCond .ne 16, 3) := by decide +kernel
theorem dX7_must_11 : decode cX7_must 11 = .ok (.aload_n 0, 1) := by decide +kernel
theorem dX7_must_12 : decode cX7_must 12 = .ok (.iload_n 2, 1) := by decide +kernel
theorem dX7_must_13 : decode cX7_must 13 = .ok (.putfield 79, 3) := by decide +kernel
theorem dX7_must_16 : decode cX7_must 16 = .ok (.aload_n 0, 1) := by decide +kernel
theorem dX7_must_17 : decode cX7_must 17 = .ok (.aload_n 0, 1) := by decide +kernel
theorem dX7_must_18 : decode cX7_must 18 = .ok (.getfield 62, 3) := by decide +kernel
theorem dX7_must_21 : decode cX7_must 21 = .ok (.putfield 82, 3) := by decide +kernel
theorem dX7_must_24 : decode cX7_must 24 = .ok (.aload_n 0, 1) := by decide +kernel
theorem dX7_must_25 : decode cX7_must 25 = .ok (.getfield 79, 3) := by decide +kernel
theorem dX7_must_28 : decode cX7_must 28 = .ok (.ifCond .ne 7, 3) := by decide +kernel
theorem dX7_must_31 : decode cX7_must 31 = .ok (.iconst 1, 1) := by decide +kernel
theorem dX7_must_32 : decode cX7_must 32 = .ok (.goto 4, 3) := by decide +kernel
theorem dX7_must_35 : decode cX7_must 35 = .ok (.iconst 0, 1) := by decide +kernel
theorem dX7_must_36 : decode cX7_must 36 = .ok (.ireturn, 1) := by decide +kernel
theorem dX7_isWord_0 : decode cX7_isWord 0 = .ok (.aload_n 0, 1) := by decide +kernel
theorem dX7_isWord_1 : decode cX7_isWord 1 = .ok (.getfield 79, 3) := by decide +kernel
theorem dX7_isWord_4 : decode cX7_isWord 4 = .ok (.ifCond .ne 31, 3) := by decide +kernel
theorem dX7_isWord_7 : decode cX7_isWord 7 = .ok (.aload_n 0, 1) := by decide +kernel
theorem dX7_isWord_8 : decode cX7_isWord 8 = .ok (.getfield 69, 3) := by decide +kernel
theorem dX7_isWord_11 : decode cX7_isWord 11 = .ok (.iconst 1, 1) := by decide +kernel
theorem dX7_isWord_12 : decode cX7_isWord 12 = .ok (.if_icmp .ne 23, 3) := by decide +kernel
theorem dX7_isWord_15 : decode cX7_isWord 15 = .ok (.aload_n 0, 1) := by decide +kernel
theorem dX7_isWord_16 : decode cX7_isWord 16 = .ok (.getfield 59, 3) := by decide +kernel
theorem dX7_isWord_19 : decode cX7_isWord 19 = .ok (.aload_n 0, 1) := by decide +kernel
theorem dX7_isWord_20 : decode cX7_isWord 20 = .ok (.getfield 62, 3) := by decide +kernel
theorem dX7_isWord_23 : decode cX7_isWord 23 = .ok (.isub, 1) := by decide +kernel
theorem dX7_isWord_24 : decode cX7_isWord 24 = .ok (.aload_n 1, 1) := by decide +kernel
theorem dX7_isWord_25 : decode cX7_isWord 25 = .ok (.invokevirtual 85, 3) := by decide +kernel
theorem dX7_isWord_28 : decode cX7_isWord 28 = .ok (.if_icmp .ne 7, 3) := by decide +kernel
theorem dX7_isWord_31 : decode cX7_isWord 31 = .ok (.iconst 1, 1) := by decide +kernel
theorem dX7_isWord_32 : decode cX7_isWord 32 = .ok (.goto 4, 3) := by decide +kernel
theorem dX7_isWord_35 : decode cX7_isWord 35 = .ok (.iconst 0, 1) := by decide +kernel
theorem dX7_isWord_36 : decode cX7_isWord 36 = .ok (.istore_n 2, 1) := by decide +kernel
theorem dX7_isWord_37 : decode cX7_isWord 37 = .ok (.iconst 0, 1) := by decide +kernel
theorem dX7_isWord_38 : decode cX7_isWord 38 = .ok (.istore_n 3, 1) := by decide +kernel
theorem dX7_isWord_39 : decode cX7_isWord 39 = .ok (.iload_n 3, 1) := by decide +kernel
theorem dX7_isWord_40 : decode cX7_isWord 40 = .ok (.aload_n 1, 1) := by decide +kernel
theorem dX7_isWord_41 : decode cX7_isWord 41 = .ok (.invokevirtual 85, 3) := by decide +kernel
theorem dX7_isWord_44 : decode cX7_isWord 44 = .ok (.if_icmp .ge 38, 3) := by decide +kernel
theorem dX7_isWord_47 : decode cX7_isWord 47 = .ok (.iload_n 2, 1) := by decide +kernel
theorem dX7_isWord_48 : decode cX7_isWord 48 = .ok (.ifCond .eq 34, 3) := by decide +kernel
theorem dX7_isWord_51 : decode cX7_isWord 51 = .ok (.aload_n 0, 1) := by decide +kernel
theorem dX7_isWord_52 : decode cX7_isWord 52 = .ok (.getfield 7, 3) := by decide +kernel
theorem dX7_isWord_55 : decode cX7_isWord 55 = .ok (.aload_n 0, 1) := by decide +kernel
theorem dX7_isWord_56 : decode cX7_isWord 56 = .ok (.getfield 62, 3) := by decide +kernel
theorem dX7_isWord_59 : decode cX7_isWord 59 = .ok (.iload_n 3, 1) := by decide +kernel
theorem dX7_isWord_60 : decode cX7_isWord 60 = .ok (.iadd, 1) := by decide +kernel
theorem dX7_isWord_61 : decode cX7_isWord 61 = .ok (.baload, 1) := by decide +kernel
theorem dX7_isWord_62 : decode cX7_isWord 62 = .ok (.aload_n 1, 1) := by decide +kernel
theorem dX7_isWord_63 : decode cX7_isWord 63 = .ok (.iload_n 3, 1) := by decide +kernel
theorem dX7_isWord_64 : decode cX7_isWord 64 = .ok (.invokevirtual 90, 3) := by decide +kernel
theorem dX7_isWord_67 : decode cX7_isWord 67 = .ok (.if_icmp .ne 7, 3) := by decide +kernel
theorem dX7_isWord_70 : decode cX7_isWord 70 = .ok (.iconst 1, 1) := by decide +kernel
theorem dX7_isWord_71 : decode cX7_isWord 71 = .ok (.goto 4, 3) := by decide +kernel
theorem dX7_isWord_74 : decode cX7_isWord 74 = .ok (.iconst 0, 1) := by decide +kernel
theorem dX7_isWord_75 : decode cX7_isWord 75 = .ok (.istore_n 2, 1) := by decide +kernel
theorem dX7_isWord_76 : decode cX7_isWord 76 = .ok (.iinc 3 1, 3) := by decide +kernel
theorem dX7_isWord_79 : decode cX7_isWord 79 = .ok (.goto (-40), 3) := by decide +kernel
theorem dX7_isWord_82 : decode cX7_isWord 82 = .ok (.iload_n 2, 1) := by decide +kernel
theorem dX7_isWord_83 : decode cX7_isWord 83 = .ok (.ireturn, 1) := by decide +kernel
theorem dX7_goOn_0 : decode cX7_goOn 0 = .ok (.aload_n 0, 1) := by decide +kernel
theorem dX7_goOn_1 : decode cX7_goOn 1 = .ok (.getfield 79, 3) := by decide +kernel
theorem dX7_goOn_4 : decode cX7_goOn 4 = .ok (.ifCond .ne 7, 3) := by decide +kernel
theorem dX7_goOn_7 : decode cX7_goOn 7 = .ok (.aload_n 0, 1) := by decide +kernel
theorem dX7_goOn_8 : decode cX7_goOn 8 = .ok (.invokevirtual 94, 3) := by decide +kernel
theorem dX7_goOn_11 : decode cX7_goOn 11 = .ok (.return_, 1) := by decide +kernel
theorem dX7_read_0 : decode cX7_read 0 = .ok (.aload_n 0, 1) := by decide +kernel
theorem dX7_read_1 : decode cX7_read 1 = .ok (.aload_n 0, 1) := by decide +kernel
theorem dX7_read_2 : decode cX7_read 2 = .ok (.getfield 69, 3) := by decide +kernel
theorem dX7_read_5 : decode cX7_read 5 = .ok (.iconst 2, 1) := by decide +kernel
theorem dX7_read_6 : decode cX7_read 6 = .ok (.if_icmp .ne 7, 3) := by decide +kernel
theorem dX7_read_9 : decode cX7_read 9 = .ok (.iconst 1, 1) := by decide +kernel
theorem dX7_read_10 : decode cX7_read 10 = .ok (.goto 4, 3) := by decide +kernel
theorem dX7_read_13 : decode cX7_read 13 = .ok (.iconst 0, 1) := by decide +kernel
theorem dX7_read_14 : decode cX7_read 14 = .ok (.iconst 1, 1) := by decide +kernel
theorem dX7_read_15 : decode cX7_read 15 = .ok (.invokevirtual 97, 3) := by decide +kernel
theorem dX7_read_18 : decode cX7_read 18 = .ok (.ifCond .eq 27, 3) := by decide +kernel
theorem dX7_read_21 : decode cX7_read 21 = .ok (.aload_n 0, 1) := by decide +kernel
theorem dX7_read_22 : decode cX7_read 22 = .ok (.aload_n 0, 1) := by decide +kernel
theorem dX7_read_23 : decode cX7_read 23 = .ok (.getfield 76, 3) := by decide +kernel
theorem dX7_read_26 : decode cX7_read 26 = .ok (.iload_n 1, 1) := by decide +kernel
theorem dX7_read_27 : decode cX7_read 27 = .ok (.iload_n 2, 1) := by decide +kernel
theorem dX7_read_28 : decode cX7_read 28 = .ok (.invokestatic 72, 3) := by decide +kernel
theorem dX7_read_31 : decode cX7_read 31 = .ok (.iconst 4, 1) := by decide +kernel
theorem dX7_read_32 : decode cX7_read 32 = .ok (.invokevirtual 97, 3) := by decide +kernel
theorem dX7_read_35 : decode cX7_read 35 = .ok (.ifCond .eq 10, 3) := by decide +kernel
theorem dX7_read_38 : decode cX7_read 38 = .ok (.aload_n 0, 1) := by decide +kernel
theorem dX7_read_39 : decode cX7_read 39 = .ok (.getfield 76, 3) := by decide +kernel
theorem dX7_read_42 : decode cX7_read 42 = .ok (.goto 4, 3) := by decide +kernel
theorem dX7_read_45 : decode cX7_read 45 = .ok (.iload_n 1, 1) := by decide +kernel
theorem dX7_read_46 : decode cX7_read 46 = .ok (.istore_n 3, 1) := by decide +kernel
theorem dX7_read_47 : decode cX7_read 47 = .ok (.aload_n 0, 1) := by decide +kernel
theorem dX7_read_48 : decode cX7_read 48 = .ok (.invokevirtual 101, 3) := by decide +kernel
theorem dX7_read_51 : decode cX7_read 51 = .ok (.iload_n 3, 1) := by decide +kernel
theorem dX7_read_52 : decode cX7_read 52 = .ok (.ireturn, 1) := by decide +kernel
theorem dX7_setDefaults_0 : decode cX7_setDefaults 0 = .ok (.iconst 0, 1) := by decide +kernel
theorem dX7_setDefaults_1 : decode cX7_setDefaults 1 = .ok (.istore_n 1, 1) := by decide +kernel
theorem dX7_setDefaults_2 : decode cX7_setDefaults 2 = .ok (.iload_n 1, 1) := by decide +kernel
theorem dX7_setDefaults_3 : decode cX7_setDefaults 3 = .ok (.sipush 288, 3) := by decide +kernel
theorem dX7_setDefaults_6 : decode cX7_setDefaults 6 = .ok (.if_icmp .ge 16, 3) := by decide +kernel
theorem dX7_setDefaults_9 : decode cX7_setDefaults 9 = .ok (.aload_n 0, 1) := by decide +kernel
theorem dX7_setDefaults_10 : decode cX7_setDefaults 10 = .ok (.getfield 13, 3) := by decide +kernel
theorem dX7_setDefaults_13 : decode cX7_setDefaults 13 = .ok (.iload_n 1, 1) := by decide +kernel
theorem dX7_setDefaults_14 : decode cX7_setDefaults 14 = .ok (.iconst 0, 1) := by decide +kernel
theorem dX7_setDefaults_15 : decode cX7_setDefaults 15 = .ok (.iastore, 1) := by decide +kernel
theorem dX7_setDefaults_16 : decode cX7_setDefaults 16 = .ok (.iinc 1 1, 3) := by decide +kernel
theorem dX7_setDefaults_19 : decode cX7_setDefaults 19 = .ok (.goto (-17), 3) := by decide +kernel
theorem dX7_setDefaults_22 : decode cX7_setDefaults 22 = .ok (.aload_n 0, 1) := by decide +kernel
theorem dX7_setDefaults_23 : decode cX7_setDefaults 23 = .ok (.getfield 13, 3) := by decide +kernel
theorem dX7_setDefaults_26 : decode cX7_setDefaults 26 = .ok (.iconst 3, 1) := by decide +kernel
theorem dX7_setDefaults_27 : decode cX7_setDefaults 27 = .ok (.iconst 1, 1) := by decide +kernel
theorem dX7_setDefaults_28 : decode cX7_setDefaults 28 = .ok (.iastore, 1) := by decide +kernel
theorem dX7_setDefaults_29 : decode cX7_setDefaults 29 = .ok (.aload_n 0, 1) := by decide +kernel
theorem dX7_setDefaults_30 : decode cX7_setDefaults 30 = .ok (.getfield 13, 3) := by decide +kernel
theorem dX7_setDefaults_33 : decode cX7_setDefaults 33 = .ok (.iconst 4, 1) := by decide +kernel
theorem dX7_setDefaults_34 : decode cX7_setDefaults 34 = .ok (.sipush 150, 3) := by decide +kernel
theorem dX7_setDefaults_37 : decode cX7_setDefaults 37 = .ok (.iastore, 1) := by decide +kernel
theorem dX7_setDefaults_38 : decode cX7_setDefaults 38 = .ok (.aload_n 0, 1) := by decide +kernel
theorem dX7_setDefaults_39 : decode cX7_setDefaults 39 = .ok (.getfield 13, 3) := by decide +kernel
theorem dX7_setDefaults_42 : decode cX7_setDefaults 42 = .ok (.iconst 5, 1) := by decide +kernel
theorem dX7_setDefaults_43 : decode cX7_setDefaults 43 = .ok (.bipush 20, 2) := by decide +kernel
theorem dX7_setDefaults_45 : decode cX7_setDefaults 45 = .ok (.iastore, 1) := by decide +kernel
theorem dX7_setDefaults_46 : decode cX7_setDefaults 46 = .ok (.aload_n 0, 1) := by decide +kernel
theorem dX7_setDefaults_47 : decode cX7_setDefaults 47 = .ok (.getfield 13, 3) := by decide +kernel
theorem dX7_setDefaults_50 : decode cX7_setDefaults 50 = .ok (.bipush 6, 2) := by decide +kernel
theorem dX7_setDefaults_52 : decode cX7_setDefaults 52 = .ok (.bipush 30, 2) := by decide +kernel
theorem dX7_setDefaults_54 : decode cX7_setDefaults 54 = .ok (.iastore, 1) := by decide +kernel
theorem dX7_setDefaults_55 : decode cX7_setDefaults 55 = .ok (.aload_n 0, 1) := by decide +kernel
theorem dX7_setDefaults_56 : decode cX7_setDefaults 56 = .ok (.getfield 13, 3) := by decide +kernel
theorem dX7_setDefaults_59 : decode cX7_setDefaults 59 = .ok (.bipush 7, 2) := by decide +kernel
theorem dX7_setDefaults_61 : decode cX7_setDefaults 61 = .ok (.iconst 5, 1) := by decide +kernel
theorem dX7_setDefaults_62 : decode cX7_setDefaults 62 = .ok (.iastore, 1) := by decide +kernel
theorem dX7_setDefaults_63 : decode cX7_setDefaults 63 = .ok (.aload_n 0, 1) := by decide +kernel
theorem dX7_setDefaults_64 : decode cX7_setDefaults 64 = .ok (.iconst 0, 1) := by decide +kernel
theorem dX7_setDefaults_65 : decode cX7_setDefaults 65 = .ok (.putfield 104, 3) := by decide +kernel
theorem dX7_setDefaults_68 : decode cX7_setDefaults 68 = .ok (.aload_n 0, 1) := by decide +kernel
theorem dX7_setDefaults_69 : decode cX7_setDefaults 69 = .ok (.iconst 0, 1) := by decide +kernel
theorem dX7_setDefaults_70 : decode cX7_setDefaults 70 = .ok (.putfield 108, 3) := by decide +kernel
theorem dX7_setDefaults_73 : decode cX7_setDefaults 73 = .ok (.return_, 1) := by decide +kernel
theorem dX7_readShape_0 : decode cX7_readShape 0 = .ok (.aload_n 0, 1) := by decide +kernel
theorem dX7_readShape_1 : decode cX7_readShape 1 = .ok (.getfield 13, 3) := by decide +kernel
theorem dX7_readShape_4 : decode cX7_readShape 4 = .ok (.iload_n 1, 1) := by decide +kernel
theorem dX7_readShape_5 : decode cX7_readShape 5 = .ok (.aload_n 0, 1) := by decide +kernel
theorem dX7_readShape_6 : decode cX7_readShape 6 = .ok (.bipush 50, 2) := by decide +kernel
theorem dX7_readShape_8 : decode cX7_readShape 8 = .ok (.sipush 500, 3) := by decide +kernel
theorem dX7_readShape_11 : decode cX7_readShape 11 = .ok (.invokevirtual 111, 3) := by decide +kernel
theorem dX7_readShape_14 : decode cX7_readShape 14 = .ok (.iastore, 1) := by decide +kernel
theorem dX7_readShape_15 : decode cX7_readShape 15 = .ok (.aload_n 0, 1) := by decide +kernel
theorem dX7_readShape_16 : decode cX7_readShape 16 = .ok (.getfield 13, 3) := by decide +kernel
theorem dX7_readShape_19 : decode cX7_readShape 19 = .ok (.iload_n 1, 1) := by decide +kernel
theorem dX7_readShape_20 : decode cX7_readShape 20 = .ok (.iconst 1, 1) := by decide +kernel
theorem dX7_readShape_21 : decode cX7_readShape 21 = .ok (.iadd, 1) := by decide +kernel
theorem dX7_readShape_22 : decode cX7_readShape 22 = .ok (.aload_n 0, 1) := by decide +kernel
theorem dX7_readShape_23 : decode cX7_readShape 23 = .ok (.bipush 30, 2) := by decide +kernel
theorem dX7_readShape_25 : decode cX7_readShape 25 = .ok (.sipush 500, 3) := by decide +kernel
theorem dX7_readShape_28 : decode cX7_readShape 28 = .ok (.invokevirtual 111, 3) := by decide +kernel
theorem dX7_readShape_31 : decode cX7_readShape 31 = .ok (.iastore, 1) := by decide +kernel
theorem dX7_readShape_32 : decode cX7_readShape 32 = .ok (.aload_n 0, 1) := by decide +kernel
theorem dX7_readShape_33 : decode cX7_readShape 33 = .ok (.getfield 79, 3) := by decide +kernel
theorem dX7_readShape_36 : decode cX7_readShape 36 = .ok (.ifCond .ne 15, 3) := by decide +kernel
theorem dX7_readShape_39 : decode cX7_readShape 39 = .ok (.aload_n 0, 1) := by decide +kernel
theorem dX7_readShape_40 : decode cX7_readShape 40 = .ok (.getfield 69, 3) := by decide +kernel
theorem dX7_readShape_43 : decode cX7_readShape 43 = .ok (.iconst 4, 1) := by decide +kernel
theorem dX7_readShape_44 : decode cX7_readShape 44 = .ok (.if_icmp .ne 7, 3) := by decide +kernel
theorem dX7_readShape_47 : decode cX7_readShape 47 = .ok (.iconst 1, 1) := by decide +kernel
theorem dX7_readShape_48 : decode cX7_readShape 48 = .ok (.goto 4, 3) := by decide +kernel
theorem dX7_readShape_51 : decode cX7_readShape 51 = .ok (.iconst 0, 1) := by decide +kernel
theorem dX7_readShape_52 : decode cX7_readShape 52 = .ok (.istore_n 2, 1) := by decide +kernel
theorem dX7_readShape_53 : decode cX7_readShape 53 = .ok (.iload_n 2, 1) := by decide +kernel
theorem dX7_readShape_54 : decode cX7_readShape 54 = .ok (.ifCond .eq 7, 3) := by decide +kernel
theorem dX7_readShape_57 : decode cX7_readShape 57 = .ok (.aload_n 0, 1) := by decide +kernel
theorem dX7_readShape_58 : decode cX7_readShape 58 = .ok (.invokevirtual 101, 3) := by decide +kernel
theorem dX7_readShape_61 : decode cX7_readShape 61 = .ok (.aload_n 0, 1) := by decide +kernel
theorem dX7_readShape_62 : decode cX7_readShape 62 = .ok (.iconst 0, 1) := by decide +kernel
theorem dX7_readShape_63 : decode cX7_readShape 63 = .ok (.bipush 99, 2) := by decide +kernel
theorem dX7_readShape_65 : decode cX7_readShape 65 = .ok (.invokevirtual 111, 3) := by decide +kernel
theorem dX7_readShape_68 : decode cX7_readShape 68 = .ok (.istore_n 3, 1) := by decide +kernel
theorem dX7_readShape_69 : decode cX7_readShape 69 = .ok (.aload_n 0, 1) := by decide +kernel
theorem dX7_readShape_70 : decode cX7_readShape 70 = .ok (.getfield 13, 3) := by decide +kernel
theorem dX7_readShape_73 : decode cX7_readShape 73 = .ok (.iload_n 1, 1) := by decide +kernel
theorem dX7_readShape_74 : decode cX7_readShape 74 = .ok (.iconst 2, 1) := by decide +kernel
theorem dX7_readShape_75 : decode cX7_readShape 75 = .ok (.iadd, 1) := by decide +kernel
theorem dX7_readShape_76 : decode cX7_readShape 76 = .ok (.iload_n 2, 1) := by decide +kernel
theorem dX7_readShape_77 : decode cX7_readShape 77 = .ok (.ifCond .eq 8, 3) := by decide +kernel
theorem dX7_readShape_80 : decode cX7_readShape 80 = .ok (.iload_n 3, 1) := by decide +kernel
theorem dX7_readShape_81 : decode cX7_readShape 81 = .ok (.ineg, 1) := by decide +kernel
theorem dX7_readShape_82 : decode cX7_readShape 82 = .ok (.goto 4, 3) := by decide +kernel
theorem dX7_readShape_85 : decode cX7_readShape 85 = .ok (.iload_n 3, 1) := by decide +kernel
theorem dX7_readShape_86 : decode cX7_readShape 86 = .ok (.iastore, 1) := by decide +kernel
theorem dX7_readShape_87 : decode cX7_readShape 87 = .ok (.return_, 1) := by decide +kernel
theorem dX7_readGlue_0 : decode cX7_readGlue 0 = .ok (.aload_n 0, 1) := by decide +kernel
theorem dX7_readGlue_1 : decode cX7_readGlue 1 = .ok (.getfield 13, 3) := by decide +kernel
theorem dX7_readGlue_4 : decode cX7_readGlue 4 = .ok (.iload_n 1, 1) := by decide +kernel
theorem dX7_readGlue_5 : decode cX7_readGlue 5 = .ok (.bipush 6, 2) := by decide +kernel
theorem dX7_readGlue_7 : decode cX7_readGlue 7 = .ok (.iadd, 1) := by decide +kernel
theorem dX7_readGlue_8 : decode cX7_readGlue 8 = .ok (.iconst (-1), 1) := by decide +kernel
theorem dX7_readGlue_9 : decode cX7_readGlue 9 = .ok (.iastore, 1) := by decide +kernel
theorem dX7_readGlue_10 : decode cX7_readGlue 10 = .ok (.aload_n 0, 1) := by decide +kernel
theorem dX7_readGlue_11 : decode cX7_readGlue 11 = .ok (.ldc 115, 2) := by decide +kernel
theorem dX7_readGlue_13 : decode cX7_readGlue 13 = .ok (.invokevirtual 117, 3) := by decide +kernel
theorem dX7_readGlue_16 : decode cX7_readGlue 16 = .ok (.ifCond .ne 4, 3) := by decide +kernel
theorem dX7_readGlue_19 : decode cX7_readGlue 19 = .ok (.return_, 1) := by decide +kernel
theorem dX7_readGlue_20 : decode cX7_readGlue 20 = .ok (.aload_n 0, 1) := by decide +kernel
theorem dX7_readGlue_21 : decode cX7_readGlue 21 = .ok (.invokevirtual 101, 3) := by decide +kernel
theorem dX7_readGlue_24 : decode cX7_readGlue 24 = .ok (.aload_n 0, 1) := by decide +kernel
theorem dX7_readGlue_25 : decode cX7_readGlue 25 = .ok (.getfield 13, 3) := by decide +kernel
theorem dX7_readGlue_28 : decode cX7_readGlue 28 = .ok (.iload_n 1, 1) := by decide +kernel
theorem dX7_readGlue_29 : decode cX7_readGlue 29 = .ok (.bipush 6, 2) := by decide +kernel
theorem dX7_readGlue_31 : decode cX7_readGlue 31 = .ok (.iadd, 1) := by decide +kernel
theorem dX7_readGlue_32 : decode cX7_readGlue 32 = .ok (.aload_n 0, 1) := by decide +kernel
theorem dX7_readGlue_33 : decode cX7_readGlue 33 = .ok (.iconst 0, 1) := by decide +kernel
theorem dX7_readGlue_34 : decode cX7_readGlue 34 = .ok (.sipush 400, 3) := by decide +kernel
theorem dX7_readGlue_37 : decode cX7_readGlue 37 = .ok (.invokevirtual 111, 3) := by decide +kernel
theorem dX7_readGlue_40 : decode cX7_readGlue 40 = .ok (.iastore, 1) := by decide +kernel
theorem dX7_readGlue_41 : decode cX7_readGlue 41 = .ok (.return_, 1) := by decide +kernel
theorem dX7_sheetLine_0 : decode cX7_sheetLine 0 = .ok (.aload_n 0, 1) := by decide +kernel
theorem dX7_sheetLine_1 : decode cX7_sheetLine 1 = .ok (.aload_n 0, 1) := by decide +kernel
theorem dX7_sheetLine_2 : decode cX7_sheetLine 2 = .ok (.getfield 13, 3) := by decide +kernel
theorem dX7_sheetLine_5 : decode cX7_sheetLine 5 = .ok (.iconst 2, 1) := by decide +kernel
theorem dX7_sheetLine_6 : decode cX7_sheetLine 6 = .ok (.iaload, 1) := by decide +kernel
theorem dX7_sheetLine_7 : decode cX7_sheetLine 7 = .ok (.bipush 40, 2) := by decide +kernel
theorem dX7_sheetLine_9 : decode cX7_sheetLine 9 = .ok (.if_icmp .ge 7, 3) := by decide +kernel
theorem dX7_sheetLine_12 : decode cX7_sheetLine 12 = .ok (.iconst 1, 1) := by decide +kernel
theorem dX7_sheetLine_13 : decode cX7_sheetLine 13 = .ok (.goto 4, 3) := by decide +kernel
theorem dX7_sheetLine_16 : decode cX7_sheetLine 16 = .ok (.iconst 0, 1) := by decide +kernel
theorem dX7_sheetLine_17 : decode cX7_sheetLine 17 = .ok (.iconst 5, 1) := by decide +kernel
theorem dX7_sheetLine_18 : decode cX7_sheetLine 18 = .ok (.invokevirtual 97, 3) := by decide +kernel
theorem dX7_sheetLine_21 : decode cX7_sheetLine 21 = .ok (.ifCond .ne 4, 3) := by decide +kernel
theorem dX7_sheetLine_24 : decode cX7_sheetLine 24 = .ok (.return_, 1) := by decide +kernel
theorem dX7_sheetLine_25 : decode cX7_sheetLine 25 = .ok (.aload_n 0, 1) := by decide +kernel
theorem dX7_sheetLine_26 : decode cX7_sheetLine 26 = .ok (.invokevirtual 101, 3) := by decide +kernel
theorem dX7_sheetLine_29 : decode cX7_sheetLine 29 = .ok (.bipush 8, 2) := by decide +kernel
theorem dX7_sheetLine_31 : decode cX7_sheetLine 31 = .ok (.bipush 7, 2) := by decide +kernel
theorem dX7_sheetLine_33 : decode cX7_sheetLine 33 = .ok (.aload_n 0, 1) := by decide +kernel
theorem dX7_sheetLine_34 : decode cX7_sheetLine 34 = .ok (.getfield 13, 3) := by decide +kernel
theorem dX7_sheetLine_37 : decode cX7_sheetLine 37 = .ok (.iconst 2, 1) := by decide +kernel
theorem dX7_sheetLine_38 : decode cX7_sheetLine 38 = .ok (.iaload, 1) := by decide +kernel
theorem dX7_sheetLine_39 : decode cX7_sheetLine 39 = .ok (.imul, 1) := by decide +kernel
theorem dX7_sheetLine_40 : decode cX7_sheetLine 40 = .ok (.iadd, 1) := by decide +kernel
theorem dX7_sheetLine_41 : decode cX7_sheetLine 41 = .ok (.istore_n 2, 1) := by decide +kernel
theorem dX7_sheetLine_42 : decode cX7_sheetLine 42 = .ok (.iload_n 1, 1) := by decide +kernel
theorem dX7_sheetLine_43 : decode cX7_sheetLine 43 = .ok (.ifCond .eq 14, 3) := by decide +kernel
theorem dX7_sheetLine_46 : decode cX7_sheetLine 46 = .ok (.aload_n 0, 1) := by decide +kernel
theorem dX7_sheetLine_47 : decode cX7_sheetLine 47 = .ok (.iconst 0, 1) := by decide +kernel
theorem dX7_sheetLine_48 : decode cX7_sheetLine 48 = .ok (.sipush 999, 3) := by decide +kernel
theorem dX7_sheetLine_51 : decode cX7_sheetLine 51 = .ok (.invokevirtual 111, 3) := by decide +kernel
theorem dX7_sheetLine_54 : decode cX7_sheetLine 54 = .ok (.goto 4, 3) := by decide +kernel
theorem dX7_sheetLine_57 : decode cX7_sheetLine 57 = .ok (.iconst (-1), 1) := by decide +kernel
theorem dX7_sheetLine_58 : decode cX7_sheetLine 58 = .ok (.istore_n 3, 1) := by decide +kernel
theorem dX7_sheetLine_59 : decode cX7_sheetLine 59 = .ok (.aload_n 0, 1) := by decide +kernel
theorem dX7_sheetLine_60 : decode cX7_sheetLine 60 = .ok (.iload_n 2, 1) := by decide +kernel
theorem dX7_sheetLine_61 : decode cX7_sheetLine 61 = .ok (.invokevirtual 121, 3) := by decide +kernel
theorem dX7_sheetLine_64 : decode cX7_sheetLine 64 = .ok (.aload_n 0, 1) := by decide +kernel
theorem dX7_sheetLine_65 : decode cX7_sheetLine 65 = .ok (.getfield 13, 3) := by decide +kernel
theorem dX7_sheetLine_68 : decode cX7_sheetLine 68 = .ok (.iload_n 2, 1) := by decide +kernel
theorem dX7_sheetLine_69 : decode cX7_sheetLine 69 = .ok (.iconst 3, 1) := by decide +kernel
theorem dX7_sheetLine_70 : decode cX7_sheetLine 70 = .ok (.iadd, 1) := by decide +kernel
theorem dX7_sheetLine_71 : decode cX7_sheetLine 71 = .ok (.iload_n 1, 1) := by decide +kernel
theorem dX7_sheetLine_72 : decode cX7_sheetLine 72 = .ok (.ifCond .eq 7, 3) := by decide +kernel
theorem dX7_sheetLine_75 : decode cX7_sheetLine 75 = .ok (.iconst 0, 1) := by decide +kernel
theorem dX7_sheetLine_76 : decode cX7_sheetLine 76 = .ok (.goto 11, 3) := by decide +kernel
theorem dX7_sheetLine_79 : decode cX7_sheetLine 79 = .ok (.aload_n 0, 1) := by decide +kernel
theorem dX7_sheetLine_80 : decode cX7_sheetLine 80 = .ok (.iconst 0, 1) := by decide +kernel
theorem dX7_sheetLine_81 : decode cX7_sheetLine 81 = .ok (.sipush 1000, 3) := by decide +kernel
theorem dX7_sheetLine_84 : decode cX7_sheetLine 84 = .ok (.invokevirtual 111, 3) := by decide +kernel
theorem dX7_sheetLine_87 : decode cX7_sheetLine 87 = .ok (.iastore, 1) := by decide +kernel
theorem dX7_sheetLine_88 : decode cX7_sheetLine 88 = .ok (.aload_n 0, 1) := by decide +kernel
theorem dX7_sheetLine_89 : decode cX7_sheetLine 89 = .ok (.getfield 13, 3) := by decide +kernel
theorem dX7_sheetLine_92 : decode cX7_sheetLine 92 = .ok (.iload_n 2, 1) := by decide +kernel
theorem dX7_sheetLine_93 : decode cX7_sheetLine 93 = .ok (.iconst 4, 1) := by decide +kernel
theorem dX7_sheetLine_94 : decode cX7_sheetLine 94 = .ok (.iadd, 1) := by decide +kernel
theorem dX7_sheetLine_95 : decode cX7_sheetLine 95 = .ok (.iload_n 1, 1) := by decide +kernel
theorem dX7_sheetLine_96 : decode cX7_sheetLine 96 = .ok (.ifCond .eq 7, 3) := by decide +kernel
theorem dX7_sheetLine_99 : decode cX7_sheetLine 99 = .ok (.iconst 0, 1) := by decide +kernel
theorem dX7_sheetLine_100 : decode cX7_sheetLine 100 = .ok (.goto 11, 3) := by decide +kernel
theorem dX7_sheetLine_103 : decode cX7_sheetLine 103 = .ok (.aload_n 0, 1) := by decide +kernel
theorem dX7_sheetLine_104 : decode cX7_sheetLine 104 = .ok (.iconst 0, 1) := by decide +kernel
theorem dX7_sheetLine_105 : decode cX7_sheetLine 105 = .ok (.sipush 1000, 3) := by decide +kernel
theorem dX7_sheetLine_108 : decode cX7_sheetLine 108 = .ok (.invokevirtual 111, 3) := by decide +kernel
theorem dX7_sheetLine_111 : decode cX7_sheetLine 111 = .ok (.iastore, 1) := by decide +kernel
theorem dX7_sheetLine_112 : decode cX7_sheetLine 112 = .ok (.aload_n 0, 1) := by decide +kernel
theorem dX7_sheetLine_113 : decode cX7_sheetLine 113 = .ok (.getfield 13, 3) := by decide +kernel
theorem dX7_sheetLine_116 : decode cX7_sheetLine 116 = .ok (.iload_n 2, 1) := by decide +kernel
theorem dX7_sheetLine_117 : decode cX7_sheetLine 117 = .ok (.iconst 5, 1) := by decide +kernel
theorem dX7_sheetLine_118 : decode cX7_sheetLine 118 = .ok (.iadd, 1) := by decide +kernel
theorem dX7_sheetLine_119 : decode cX7_sheetLine 119 = .ok (.iload_n 3, 1) := by decide +kernel
theorem dX7_sheetLine_120 : decode cX7_sheetLine 120 = .ok (.iastore, 1) := by decide +kernel
theorem dX7_sheetLine_121 : decode cX7_sheetLine 121 = .ok (.aload_n 0, 1) := by decide +kernel
theorem dX7_sheetLine_122 : decode cX7_sheetLine 122 = .ok (.iload_n 2, 1) := by decide +kernel
theorem dX7_sheetLine_123 : decode cX7_sheetLine 123 = .ok (.invokevirtual 124, 3) := by decide +kernel
theorem dX7_sheetLine_126 : decode cX7_sheetLine 126 = .ok (.aload_n 0, 1) := by decide +kernel
theorem dX7_sheetLine_127 : decode cX7_sheetLine 127 = .ok (.getfield 79, 3) := by decide +kernel
theorem dX7_sheetLine_130 : decode cX7_sheetLine 130 = .ok (.ifCond .ne 13, 3) := by decide +kernel
theorem dX7_sheetLine_133 : decode cX7_sheetLine 133 = .ok (.aload_n 0, 1) := by decide +kernel
theorem dX7_sheetLine_134 : decode cX7_sheetLine 134 = .ok (.getfield 13, 3) := by decide +kernel
theorem dX7_sheetLine_137 : decode cX7_sheetLine 137 = .ok (.iconst 2, 1) := by decide +kernel
theorem dX7_sheetLine_138 : decode cX7_sheetLine 138 = .ok (.dup2, 1) := by decide +kernel
theorem dX7_sheetLine_139 : decode cX7_sheetLine 139 = .ok (.iaload, 1) := by decide +kernel
theorem dX7_sheetLine_140 : decode cX7_sheetLine 140 = .ok (.iconst 1, 1) := by decide +kernel
theorem dX7_sheetLine_141 : decode cX7_sheetLine 141 = .ok (.iadd, 1) := by decide +kernel
theorem dX7_sheetLine_142 : decode cX7_sheetLine 142 = .ok (.iastore, 1) := by decide +kernel
theorem dX7_sheetLine_143 : decode cX7_sheetLine 143 = .ok (.return_, 1) := by decide +kernel
theorem dX7_againLine_0 : decode cX7_againLine 0 = .ok (.aload_n 0, 1) := by decide +kernel
theorem dX7_againLine_1 : decode cX7_againLine 1 = .ok (.aload_n 0, 1) := by decide +kernel
theorem dX7_againLine_2 : decode cX7_againLine 2 = .ok (.getfield 13, 3) := by decide +kernel
theorem dX7_againLine_5 : decode cX7_againLine 5 = .ok (.iconst 2, 1) := by decide +kernel
theorem dX7_againLine_6 : decode cX7_againLine 6 = .ok (.iaload, 1) := by decide +kernel
theorem dX7_againLine_7 : decode cX7_againLine 7 = .ok (.ifCond .le 7, 3) := by decide +kernel
theorem dX7_againLine_10 : decode cX7_againLine 10 = .ok (.iconst 1, 1) := by decide +kernel
theorem dX7_againLine_11 : decode cX7_againLine 11 = .ok (.goto 4, 3) := by decide +kernel
theorem dX7_againLine_14 : decode cX7_againLine 14 = .ok (.iconst 0, 1) := by decide +kernel
theorem dX7_againLine_15 : decode cX7_againLine 15 = .ok (.iconst 3, 1) := by decide +kernel
theorem dX7_againLine_16 : decode cX7_againLine 16 = .ok (.invokevirtual 97, 3) := by decide +kernel
theorem dX7_againLine_19 : decode cX7_againLine 19 = .ok (.ifCond .ne 4, 3) := by decide +kernel
theorem dX7_againLine_22 : decode cX7_againLine 22 = .ok (.return_, 1) := by decide +kernel
theorem dX7_againLine_23 : decode cX7_againLine 23 = .ok (.aload_n 0, 1) := by decide +kernel
theorem dX7_againLine_24 : decode cX7_againLine 24 = .ok (.invokevirtual 101, 3) := by decide +kernel
theorem dX7_againLine_27 : decode cX7_againLine 27 = .ok (.aload_n 0, 1) := by decide +kernel
theorem dX7_againLine_28 : decode cX7_againLine 28 = .ok (.aload_n 0, 1) := by decide +kernel
theorem dX7_againLine_29 : decode cX7_againLine 29 = .ok (.getfield 69, 3) := by decide +kernel
theorem dX7_againLine_32 : decode cX7_againLine 32 = .ok (.iconst 2, 1) := by decide +kernel
theorem dX7_againLine_33 : decode cX7_againLine 33 = .ok (.if_icmp .ne 7, 3) := by decide +kernel
theorem dX7_againLine_36 : decode cX7_againLine 36 = .ok (.iconst 1, 1) := by decide +kernel
theorem dX7_againLine_37 : decode cX7_againLine 37 = .ok (.goto 4, 3) := by decide +kernel
theorem dX7_againLine_40 : decode cX7_againLine 40 = .ok (.iconst 0, 1) := by decide +kernel
theorem dX7_againLine_41 : decode cX7_againLine 41 = .ok (.iconst 1, 1) := by decide +kernel
theorem dX7_againLine_42 : decode cX7_againLine 42 = .ok (.invokevirtual 97, 3) := by decide +kernel
theorem dX7_againLine_45 : decode cX7_againLine 45 = .ok (.ifCond .eq 50, 3) := by decide +kernel
theorem dX7_againLine_48 : decode cX7_againLine 48 = .ok (.aload_n 0, 1) := by decide +kernel
theorem dX7_againLine_49 : decode cX7_againLine 49 = .ok (.aload_n 0, 1) := by decide +kernel
theorem dX7_againLine_50 : decode cX7_againLine 50 = .ok (.getfield 76, 3) := by decide +kernel
theorem dX7_againLine_53 : decode cX7_againLine 53 = .ok (.iconst 1, 1) := by decide +kernel
theorem dX7_againLine_54 : decode cX7_againLine 54 = .ok (.bipush 39, 2) := by decide +kernel
theorem dX7_againLine_56 : decode cX7_againLine 56 = .ok (.invokestatic 72, 3) := by decide +kernel
theorem dX7_againLine_59 : decode cX7_againLine 59 = .ok (.iconst 4, 1) := by decide +kernel
theorem dX7_againLine_60 : decode cX7_againLine 60 = .ok (.invokevirtual 97, 3) := by decide +kernel
theorem dX7_againLine_63 : decode cX7_againLine 63 = .ok (.ifCond .eq 32, 3) := by decide +kernel
theorem dX7_againLine_66 : decode cX7_againLine 66 = .ok (.aload_n 0, 1) := by decide +kernel
theorem dX7_againLine_67 : decode cX7_againLine 67 = .ok (.aload_n 0, 1) := by decide +kernel
theorem dX7_againLine_68 : decode cX7_againLine 68 = .ok (.getfield 13, 3) := by decide +kernel
theorem dX7_againLine_71 : decode cX7_againLine 71 = .ok (.iconst 2, 1) := by decide +kernel
theorem dX7_againLine_72 : decode cX7_againLine 72 = .ok (.iaload, 1) := by decide +kernel
theorem dX7_againLine_73 : decode cX7_againLine 73 = .ok (.aload_n 0, 1) := by decide +kernel
theorem dX7_againLine_74 : decode cX7_againLine 74 = .ok (.getfield 76, 3) := by decide +kernel
theorem dX7_againLine_77 : decode cX7_againLine 77 = .ok (.iadd, 1) := by decide +kernel
theorem dX7_againLine_78 : decode cX7_againLine 78 = .ok (.bipush 40, 2) := by decide +kernel
theorem dX7_againLine_80 : decode cX7_againLine 80 = .ok (.if_icmp .gt 7, 3) := by decide +kernel
theorem dX7_againLine_83 : decode cX7_againLine 83 = .ok (.iconst 1, 1) := by decide +kernel
theorem dX7_againLine_84 : decode cX7_againLine 84 = .ok (.goto 4, 3) := by decide +kernel
theorem dX7_againLine_87 : decode cX7_againLine 87 = .ok (.iconst 0, 1) := by decide +kernel
theorem dX7_againLine_88 : decode cX7_againLine 88 = .ok (.iconst 5, 1) := by decide +kernel
theorem dX7_againLine_89 : decode cX7_againLine 89 = .ok (.invokevirtual 97, 3) := by decide +kernel
theorem dX7_againLine_92 : decode cX7_againLine 92 = .ok (.ifCond .ne 4, 3) := by decide +kernel
theorem dX7_againLine_95 : decode cX7_againLine 95 = .ok (.return_, 1) := by decide +kernel
theorem dX7_againLine_96 : decode cX7_againLine 96 = .ok (.bipush 8, 2) := by decide +kernel
theorem dX7_againLine_98 : decode cX7_againLine 98 = .ok (.bipush 7, 2) := by decide +kernel
theorem dX7_againLine_100 : decode cX7_againLine 100 = .ok (.aload_n 0, 1) := by decide +kernel
theorem dX7_againLine_101 : decode cX7_againLine 101 = .ok (.getfield 13, 3) := by decide +kernel
theorem dX7_againLine_104 : decode cX7_againLine 104 = .ok (.iconst 2, 1) := by decide +kernel
theorem dX7_againLine_105 : decode cX7_againLine 105 = .ok (.iaload, 1) := by decide +kernel
theorem dX7_againLine_106 : decode cX7_againLine 106 = .ok (.iconst 1, 1) := by decide +kernel
theorem dX7_againLine_107 : decode cX7_againLine 107 = .ok (.isub, 1) := by decide +kernel
theorem dX7_againLine_108 : decode cX7_againLine 108 = .ok (.imul, 1) := by decide +kernel
theorem dX7_againLine_109 : decode cX7_againLine 109 = .ok (.iadd, 1) := by decide +kernel
theorem dX7_againLine_110 : decode cX7_againLine 110 = .ok (.istore_n 1, 1) := by decide +kernel
theorem dX7_againLine_111 : decode cX7_againLine 111 = .ok (.iconst 1, 1) := by decide +kernel
theorem dX7_againLine_112 : decode cX7_againLine 112 = .ok (.istore_n 2, 1) := by decide +kernel
theorem dX7_againLine_113 : decode cX7_againLine 113 = .ok (.iload_n 2, 1) := by decide +kernel
theorem dX7_againLine_114 : decode cX7_againLine 114 = .ok (.aload_n 0, 1) := by decide +kernel
theorem dX7_againLine_115 : decode cX7_againLine 115 = .ok (.getfield 76, 3) := by decide +kernel
theorem dX7_againLine_118 : decode cX7_againLine 118 = .ok (.if_icmp .gt 44, 3) := by decide +kernel
theorem dX7_againLine_121 : decode cX7_againLine 121 = .ok (.iconst 0, 1) := by decide +kernel
theorem dX7_againLine_122 : decode cX7_againLine 122 = .ok (.istore_n 3, 1) := by decide +kernel
theorem dX7_againLine_123 : decode cX7_againLine 123 = .ok (.iload_n 3, 1) := by decide +kernel
theorem dX7_againLine_124 : decode cX7_againLine 124 = .ok (.bipush 7, 2) := by decide +kernel
theorem dX7_againLine_126 : decode cX7_againLine 126 = .ok (.if_icmp .ge 30, 3) := by decide +kernel
theorem dX7_againLine_129 : decode cX7_againLine 129 = .ok (.aload_n 0, 1) := by decide +kernel
theorem dX7_againLine_130 : decode cX7_againLine 130 = .ok (.getfield 13, 3) := by decide +kernel
theorem dX7_againLine_133 : decode cX7_againLine 133 = .ok (.iload_n 1, 1) := by decide +kernel
theorem dX7_againLine_134 : decode cX7_againLine 134 = .ok (.bipush 7, 2) := by decide +kernel
theorem dX7_againLine_136 : decode cX7_againLine 136 = .ok (.iload_n 2, 1) := by decide +kernel
theorem dX7_againLine_137 : decode cX7_againLine 137 = .ok (.imul, 1) := by decide +kernel
theorem dX7_againLine_138 : decode cX7_againLine 138 = .ok (.iadd, 1) := by decide +kernel
theorem dX7_againLine_139 : decode cX7_againLine 139 = .ok (.iload_n 3, 1) := by decide +kernel
theorem dX7_againLine_140 : decode cX7_againLine 140 = .ok (.iadd, 1) := by decide +kernel
theorem dX7_againLine_141 : decode cX7_againLine 141 = .ok (.aload_n 0, 1) := by decide +kernel
theorem dX7_againLine_142 : decode cX7_againLine 142 = .ok (.getfield 13, 3) := by decide +kernel
theorem dX7_againLine_145 : decode cX7_againLine 145 = .ok (.iload_n 1, 1) := by decide +kernel
theorem dX7_againLine_146 : decode cX7_againLine 146 = .ok (.iload_n 3, 1) := by decide +kernel
theorem dX7_againLine_147 : decode cX7_againLine 147 = .ok (.iadd, 1) := by decide +kernel
theorem dX7_againLine_148 : decode cX7_againLine 148 = .ok (.iaload, 1) := by decide +kernel
theorem dX7_againLine_149 : decode cX7_againLine 149 = .ok (.iastore, 1) := by decide +kernel
theorem dX7_againLine_150 : decode cX7_againLine 150 = .ok (.iinc 3 1, 3) := by decide +kernel
theorem dX7_againLine_153 : decode cX7_againLine 153 = .ok (.goto (-30), 3) := by decide +kernel
theorem dX7_againLine_156 : decode cX7_againLine 156 = .ok (.iinc 2 1, 3) := by decide +kernel
theorem dX7_againLine_159 : decode cX7_againLine 159 = .ok (.goto (-46), 3) := by decide +kernel
theorem dX7_againLine_162 : decode cX7_againLine 162 = .ok (.aload_n 0, 1) := by decide +kernel
theorem dX7_againLine_163 : decode cX7_againLine 163 = .ok (.getfield 13, 3) := by decide +kernel
theorem dX7_againLine_166 : decode cX7_againLine 166 = .ok (.iconst 2, 1) := by decide +kernel
theorem dX7_againLine_167 : decode cX7_againLine 167 = .ok (.dup2, 1) := by decide +kernel
theorem dX7_againLine_168 : decode cX7_againLine 168 = .ok (.iaload, 1) := by decide +kernel
theorem dX7_againLine_169 : decode cX7_againLine 169 = .ok (.aload_n 0, 1) := by decide +kernel
theorem dX7_againLine_170 : decode cX7_againLine 170 = .ok (.getfield 76, 3) := by decide +kernel
theorem dX7_againLine_173 : decode cX7_againLine 173 = .ok (.iadd, 1) := by decide +kernel
theorem dX7_againLine_174 : decode cX7_againLine 174 = .ok (.iastore, 1) := by decide +kernel
theorem dX7_againLine_175 : decode cX7_againLine 175 = .ok (.aload_n 0, 1) := by decide +kernel
theorem dX7_againLine_176 : decode cX7_againLine 176 = .ok (.invokevirtual 101, 3) := by decide +kernel
theorem dX7_againLine_179 : decode cX7_againLine 179 = .ok (.return_, 1) := by decide +kernel
theorem dX7_lowest_0 : decode cX7_lowest 0 = .ok (.iload_n 0, 1) := by decide +kernel
theorem dX7_lowest_1 : decode cX7_lowest 1 = .ok (.ifCond .ne 8, 3) := by decide +kernel
theorem dX7_lowest_4 : decode cX7_lowest 4 = .ok (.bipush 101, 2) := by decide +kernel
theorem dX7_lowest_6 : decode cX7_lowest 6 = .ok (.goto 4, 3) := by decide +kernel
theorem dX7_lowest_9 : decode cX7_lowest 9 = .ok (.iconst 0, 1) := by decide +kernel
theorem dX7_lowest_10 : decode cX7_lowest 10 = .ok (.ireturn, 1) := by decide +kernel
theorem dX7_highest_0 : decode cX7_highest 0 = .ok (.iload_n 0, 1) := by decide +kernel
theorem dX7_highest_1 : decode cX7_highest 1 = .ok (.ifCond .ne 9, 3) := by decide +kernel
theorem dX7_highest_4 : decode cX7_highest 4 = .ok (.sipush 300, 3) := by decide +kernel
theorem dX7_highest_7 : decode cX7_highest 7 = .ok (.goto 27, 3) := by decide +kernel
theorem dX7_highest_10 : decode cX7_highest 10 = .ok (.iload_n 0, 1) := by decide +kernel
theorem dX7_highest_11 : decode cX7_highest 11 = .ok (.iconst 1, 1) := by decide +kernel
theorem dX7_highest_12 : decode cX7_highest 12 = .ok (.if_icmp .ne 9, 3) := by decide +kernel
theorem dX7_highest_15 : decode cX7_highest 15 = .ok (.sipush 200, 3) := by decide +kernel
theorem dX7_highest_18 : decode cX7_highest 18 = .ok (.goto 16, 3) := by decide +kernel
theorem dX7_highest_21 : decode cX7_highest 21 = .ok (.iload_n 0, 1) := by decide +kernel
theorem dX7_highest_22 : decode cX7_highest 22 = .ok (.iconst 2, 1) := by decide +kernel
theorem dX7_highest_23 : decode cX7_highest 23 = .ok (.if_icmp .ne 8, 3) := by decide +kernel
theorem dX7_highest_26 : decode cX7_highest 26 = .ok (.bipush 99, 2) := by decide +kernel
theorem dX7_highest_28 : decode cX7_highest 28 = .ok (.goto 6, 3) := by decide +kernel
theorem dX7_highest_31 : decode cX7_highest 31 = .ok (.sipush 1000, 3) := by decide +kernel
theorem dX7_highest_34 : decode cX7_highest 34 = .ok (.ireturn, 1) := by decide +kernel
theorem dX7_limitsLine_0 : decode cX7_limitsLine 0 = .ok (.aload_n 0, 1) := by decide +kernel
theorem dX7_limitsLine_1 : decode cX7_limitsLine 1 = .ok (.aload_n 0, 1) := by decide +kernel
theorem dX7_limitsLine_2 : decode cX7_limitsLine 2 = .ok (.getfield 104, 3) := by decide +kernel
theorem dX7_limitsLine_5 : decode cX7_limitsLine 5 = .ok (.ifCond .ne 7, 3) := by decide +kernel
theorem dX7_limitsLine_8 : decode cX7_limitsLine 8 = .ok (.iconst 1, 1) := by decide +kernel
theorem dX7_limitsLine_9 : decode cX7_limitsLine 9 = .ok (.goto 4, 3) := by decide +kernel
theorem dX7_limitsLine_12 : decode cX7_limitsLine 12 = .ok (.iconst 0, 1) := by decide +kernel
theorem dX7_limitsLine_13 : decode cX7_limitsLine 13 = .ok (.iconst 2, 1) := by decide +kernel
theorem dX7_limitsLine_14 : decode cX7_limitsLine 14 = .ok (.invokevirtual 97, 3) := by decide +kernel
theorem dX7_limitsLine_17 : decode cX7_limitsLine 17 = .ok (.ifCond .ne 4, 3) := by decide +kernel
theorem dX7_limitsLine_20 : decode cX7_limitsLine 20 = .ok (.return_, 1) := by decide +kernel
theorem dX7_limitsLine_21 : decode cX7_limitsLine 21 = .ok (.aload_n 0, 1) := by decide +kernel
theorem dX7_limitsLine_22 : decode cX7_limitsLine 22 = .ok (.iconst 1, 1) := by decide +kernel
theorem dX7_limitsLine_23 : decode cX7_limitsLine 23 = .ok (.putfield 104, 3) := by decide +kernel
theorem dX7_limitsLine_26 : decode cX7_limitsLine 26 = .ok (.aload_n 0, 1) := by decide +kernel
theorem dX7_limitsLine_27 : decode cX7_limitsLine 27 = .ok (.invokevirtual 101, 3) := by decide +kernel
theorem dX7_limitsLine_30 : decode cX7_limitsLine 30 = .ok (.iconst 0, 1) := by decide +kernel
theorem dX7_limitsLine_31 : decode cX7_limitsLine 31 = .ok (.istore_n 1, 1) := by decide +kernel
theorem dX7_limitsLine_32 : decode cX7_limitsLine 32 = .ok (.iload_n 1, 1) := by decide +kernel
theorem dX7_limitsLine_33 : decode cX7_limitsLine 33 = .ok (.iconst 4, 1) := by decide +kernel
theorem dX7_limitsLine_34 : decode cX7_limitsLine 34 = .ok (.if_icmp .ge 29, 3) := by decide +kernel
theorem dX7_limitsLine_37 : decode cX7_limitsLine 37 = .ok (.aload_n 0, 1) := by decide +kernel
theorem dX7_limitsLine_38 : decode cX7_limitsLine 38 = .ok (.getfield 13, 3) := by decide +kernel
theorem dX7_limitsLine_41 : decode cX7_limitsLine 41 = .ok (.iconst 4, 1) := by decide +kernel
theorem dX7_limitsLine_42 : decode cX7_limitsLine 42 = .ok (.iload_n 1, 1) := by decide +kernel
theorem dX7_limitsLine_43 : decode cX7_limitsLine 43 = .ok (.iadd, 1) := by decide +kernel
theorem dX7_limitsLine_44 : decode cX7_limitsLine 44 = .ok (.aload_n 0, 1) := by decide +kernel
theorem dX7_limitsLine_45 : decode cX7_limitsLine 45 = .ok (.iload_n 1, 1) := by decide +kernel
theorem dX7_limitsLine_46 : decode cX7_limitsLine 46 = .ok (.invokestatic 127, 3) := by decide +kernel
theorem dX7_limitsLine_49 : decode cX7_limitsLine 49 = .ok (.iload_n 1, 1) := by decide +kernel
theorem dX7_limitsLine_50 : decode cX7_limitsLine 50 = .ok (.invokestatic 130, 3) := by decide +kernel
theorem dX7_limitsLine_53 : decode cX7_limitsLine 53 = .ok (.invokevirtual 111, 3) := by decide +kernel
theorem dX7_limitsLine_56 : decode cX7_limitsLine 56 = .ok (.iastore, 1) := by decide +kernel
theorem dX7_limitsLine_57 : decode cX7_limitsLine 57 = .ok (.iinc 1 1, 3) := by decide +kernel
theorem dX7_limitsLine_60 : decode cX7_limitsLine 60 = .ok (.goto (-28), 3) := by decide +kernel
theorem dX7_limitsLine_63 : decode cX7_limitsLine 63 = .ok (.return_, 1) := by decide +kernel
theorem dX7_simplexLine_0 : decode cX7_simplexLine 0 = .ok (.aload_n 0, 1) := by decide +kernel
theorem dX7_simplexLine_1 : decode cX7_simplexLine 1 = .ok (.aload_n 0, 1) := by decide +kernel
theorem dX7_simplexLine_2 : decode cX7_simplexLine 2 = .ok (.getfield 108, 3) := by decide +kernel
theorem dX7_simplexLine_5 : decode cX7_simplexLine 5 = .ok (.ifCond .ne 7, 3) := by decide +kernel
theorem dX7_simplexLine_8 : decode cX7_simplexLine 8 = .ok (.iconst 1, 1) := by decide +kernel
theorem dX7_simplexLine_9 : decode cX7_simplexLine 9 = .ok (.goto 4, 3) := by decide +kernel
theorem dX7_simplexLine_12 : decode cX7_simplexLine 12 = .ok (.iconst 0, 1) := by decide +kernel
theorem dX7_simplexLine_13 : decode cX7_simplexLine 13 = .ok (.iconst 2, 1) := by decide +kernel
theorem dX7_simplexLine_14 : decode cX7_simplexLine 14 = .ok (.invokevirtual 97, 3) := by decide +kernel
theorem dX7_simplexLine_17 : decode cX7_simplexLine 17 = .ok (.ifCond .ne 4, 3) := by decide +kernel
theorem dX7_simplexLine_20 : decode cX7_simplexLine 20 = .ok (.return_, 1) := by decide +kernel
theorem dX7_simplexLine_21 : decode cX7_simplexLine 21 = .ok (.aload_n 0, 1) := by decide +kernel
theorem dX7_simplexLine_22 : decode cX7_simplexLine 22 = .ok (.iconst 1, 1) := by decide +kernel
theorem dX7_simplexLine_23 : decode cX7_simplexLine 23 = .ok (.putfield 108, 3) := by decide +kernel
theorem dX7_simplexLine_26 : decode cX7_simplexLine 26 = .ok (.aload_n 0, 1) := by decide +kernel
theorem dX7_simplexLine_27 : decode cX7_simplexLine 27 = .ok (.invokevirtual 101, 3) := by decide +kernel
theorem dX7_simplexLine_30 : decode cX7_simplexLine 30 = .ok (.aload_n 0, 1) := by decide +kernel
theorem dX7_simplexLine_31 : decode cX7_simplexLine 31 = .ok (.getfield 13, 3) := by decide +kernel
theorem dX7_simplexLine_34 : decode cX7_simplexLine 34 = .ok (.iconst 3, 1) := by decide +kernel
theorem dX7_simplexLine_35 : decode cX7_simplexLine 35 = .ok (.iconst 0, 1) := by decide +kernel
theorem dX7_simplexLine_36 : decode cX7_simplexLine 36 = .ok (.iastore, 1) := by decide +kernel
theorem dX7_simplexLine_37 : decode cX7_simplexLine 37 = .ok (.return_, 1) := by decide +kernel
theorem dX7_statement_0 : decode cX7_statement 0 = .ok (.aload_n 0, 1) := by decide +kernel
theorem dX7_statement_1 : decode cX7_statement 1 = .ok (.ldc 133, 2) := by decide +kernel
theorem dX7_statement_3 : decode cX7_statement 3 = .ok (.invokevirtual 117, 3) := by decide +kernel
theorem dX7_statement_6 : decode cX7_statement 6 = .ok (.ifCond .eq 11, 3) := by decide +kernel
theorem dX7_statement_9 : decode cX7_statement 9 = .ok (.aload_n 0, 1) := by decide +kernel
theorem dX7_statement_10 : decode cX7_statement 10 = .ok (.iconst 0, 1) := by decide +kernel
theorem dX7_statement_11 : decode cX7_statement 11 = .ok (.invokevirtual 135, 3) := by decide +kernel
theorem dX7_statement_14 : decode cX7_statement 14 = .ok (.goto 75, 3) := by decide +kernel
theorem dX7_statement_17 : decode cX7_statement 17 = .ok (.aload_n 0, 1) := by decide +kernel
theorem dX7_statement_18 : decode cX7_statement 18 = .ok (.ldc 139, 2) := by decide +kernel
theorem dX7_statement_20 : decode cX7_statement 20 = .ok (.invokevirtual 117, 3) := by decide +kernel
theorem dX7_statement_23 : decode cX7_statement 23 = .ok (.ifCond .eq 11, 3) := by decide +kernel
theorem dX7_statement_26 : decode cX7_statement 26 = .ok (.aload_n 0, 1) := by decide +kernel
theorem dX7_statement_27 : decode cX7_statement 27 = .ok (.iconst 1, 1) := by decide +kernel
theorem dX7_statement_28 : decode cX7_statement 28 = .ok (.invokevirtual 135, 3) := by decide +kernel
theorem dX7_statement_31 : decode cX7_statement 31 = .ok (.goto 58, 3) := by decide +kernel
theorem dX7_statement_34 : decode cX7_statement 34 = .ok (.aload_n 0, 1) := by decide +kernel
theorem dX7_statement_35 : decode cX7_statement 35 = .ok (.ldc 141, 2) := by decide +kernel
theorem dX7_statement_37 : decode cX7_statement 37 = .ok (.invokevirtual 117, 3) := by decide +kernel
theorem dX7_statement_40 : decode cX7_statement 40 = .ok (.ifCond .eq 10, 3) := by decide +kernel
theorem dX7_statement_43 : decode cX7_statement 43 = .ok (.aload_n 0, 1) := by decide +kernel
theorem dX7_statement_44 : decode cX7_statement 44 = .ok (.invokevirtual 143, 3) := by decide +kernel
theorem dX7_statement_47 : decode cX7_statement 47 = .ok (.goto 42, 3) := by decide +kernel
theorem dX7_statement_50 : decode cX7_statement 50 = .ok (.aload_n 0, 1) := by decide +kernel
theorem dX7_statement_51 : decode cX7_statement 51 = .ok (.ldc 146, 2) := by decide +kernel
theorem dX7_statement_53 : decode cX7_statement 53 = .ok (.invokevirtual 117, 3) := by decide +kernel
theorem dX7_statement_56 : decode cX7_statement 56 = .ok (.ifCond .eq 10, 3) := by decide +kernel
theorem dX7_statement_59 : decode cX7_statement 59 = .ok (.aload_n 0, 1) := by decide +kernel
theorem dX7_statement_60 : decode cX7_statement 60 = .ok (.invokevirtual 148, 3) := by decide +kernel
theorem dX7_statement_63 : decode cX7_statement 63 = .ok (.goto 26, 3) := by decide +kernel
theorem dX7_statement_66 : decode cX7_statement 66 = .ok (.aload_n 0, 1) := by decide +kernel
theorem dX7_statement_67 : decode cX7_statement 67 = .ok (.ldc 151, 2) := by decide +kernel
theorem dX7_statement_69 : decode cX7_statement 69 = .ok (.invokevirtual 117, 3) := by decide +kernel
theorem dX7_statement_72 : decode cX7_statement 72 = .ok (.ifCond .eq 10, 3) := by decide +kernel
theorem dX7_statement_75 : decode cX7_statement 75 = .ok (.aload_n 0, 1) := by decide +kernel
theorem dX7_statement_76 : decode cX7_statement 76 = .ok (.invokevirtual 153, 3) := by decide +kernel
theorem dX7_statement_79 : decode cX7_statement 79 = .ok (.goto 10, 3) := by decide +kernel
theorem dX7_statement_82 : decode cX7_statement 82 = .ok (.aload_n 0, 1) := by decide +kernel
theorem dX7_statement_83 : decode cX7_statement 83 = .ok (.iconst 0, 1) := by decide +kernel
theorem dX7_statement_84 : decode cX7_statement 84 = .ok (.iconst 1, 1) := by decide +kernel
theorem dX7_statement_85 : decode cX7_statement 85 = .ok (.invokevirtual 97, 3) := by decide +kernel
theorem dX7_statement_88 : decode cX7_statement 88 = .ok (.pop, 1) := by decide +kernel
theorem dX7_statement_89 : decode cX7_statement 89 = .ok (.aload_n 0, 1) := by decide +kernel
theorem dX7_statement_90 : decode cX7_statement 90 = .ok (.aload_n 0, 1) := by decide +kernel
theorem dX7_statement_91 : decode cX7_statement 91 = .ok (.getfield 69, 3) := by decide +kernel
theorem dX7_statement_94 : decode cX7_statement 94 = .ok (.iconst 3, 1) := by decide +kernel
theorem dX7_statement_95 : decode cX7_statement 95 = .ok (.if_icmp .ne 7, 3) := by decide +kernel
theorem dX7_statement_98 : decode cX7_statement 98 = .ok (.iconst 1, 1) := by decide +kernel
theorem dX7_statement_99 : decode cX7_statement 99 = .ok (.goto 4, 3) := by decide +kernel
theorem dX7_statement_102 : decode cX7_statement 102 = .ok (.iconst 0, 1) := by decide +kernel
theorem dX7_statement_103 : decode cX7_statement 103 = .ok (.iconst 1, 1) := by decide +kernel
theorem dX7_statement_104 : decode cX7_statement 104 = .ok (.invokevirtual 97, 3) := by decide +kernel
theorem dX7_statement_107 : decode cX7_statement 107 = .ok (.ifCond .eq 7, 3) := by decide +kernel
theorem dX7_statement_110 : decode cX7_statement 110 = .ok (.aload_n 0, 1) := by decide +kernel
theorem dX7_statement_111 : decode cX7_statement 111 = .ok (.invokevirtual 94, 3) := by decide +kernel
theorem dX7_statement_114 : decode cX7_statement 114 = .ok (.return_, 1) := by decide +kernel
theorem dX7_parse_0 : decode cX7_parse 0 = .ok (.aload_n 0, 1) := by decide +kernel
theorem dX7_parse_1 : decode cX7_parse 1 = .ok (.iconst 0, 1) := by decide +kernel
theorem dX7_parse_2 : decode cX7_parse 2 = .ok (.putfield 45, 3) := by decide +kernel
theorem dX7_parse_5 : decode cX7_parse 5 = .ok (.iload_n 1, 1) := by decide +kernel
theorem dX7_parse_6 : decode cX7_parse 6 = .ok (.iconst 0, 1) := by decide +kernel
theorem dX7_parse_7 : decode cX7_parse 7 = .ok (.aload_n 0, 1) := by decide +kernel
theorem dX7_parse_8 : decode cX7_parse 8 = .ok (.getfield 49, 3) := by decide +kernel
theorem dX7_parse_11 : decode cX7_parse 11 = .ok (.invokestatic 72, 3) := by decide +kernel
theorem dX7_parse_14 : decode cX7_parse 14 = .ok (.ifCond .ne 9, 3) := by decide +kernel
theorem dX7_parse_17 : decode cX7_parse 17 = .ok (.aload_n 0, 1) := by decide +kernel
theorem dX7_parse_18 : decode cX7_parse 18 = .ok (.iconst 1, 1) := by decide +kernel
theorem dX7_parse_19 : decode cX7_parse 19 = .ok (.invokevirtual 156, 3) := by decide +kernel
theorem dX7_parse_22 : decode cX7_parse 22 = .ok (.ireturn, 1) := by decide +kernel
theorem dX7_parse_23 : decode cX7_parse 23 = .ok (.aload_n 0, 1) := by decide +kernel
theorem dX7_parse_24 : decode cX7_parse 24 = .ok (.iload_n 1, 1) := by decide +kernel
theorem dX7_parse_25 : decode cX7_parse 25 = .ok (.putfield 56, 3) := by decide +kernel
theorem dX7_parse_28 : decode cX7_parse 28 = .ok (.aload_n 0, 1) := by decide +kernel
theorem dX7_parse_29 : decode cX7_parse 29 = .ok (.iconst 0, 1) := by decide +kernel
theorem dX7_parse_30 : decode cX7_parse 30 = .ok (.putfield 49, 3) := by decide +kernel
theorem dX7_parse_33 : decode cX7_parse 33 = .ok (.aload_n 0, 1) := by decide +kernel
theorem dX7_parse_34 : decode cX7_parse 34 = .ok (.iconst 0, 1) := by decide +kernel
theorem dX7_parse_35 : decode cX7_parse 35 = .ok (.putfield 59, 3) := by decide +kernel
theorem dX7_parse_38 : decode cX7_parse 38 = .ok (.aload_n 0, 1) := by decide +kernel
theorem dX7_parse_39 : decode cX7_parse 39 = .ok (.iconst 0, 1) := by decide +kernel
theorem dX7_parse_40 : decode cX7_parse 40 = .ok (.putfield 79, 3) := by decide +kernel
theorem dX7_parse_43 : decode cX7_parse 43 = .ok (.aload_n 0, 1) := by decide +kernel
theorem dX7_parse_44 : decode cX7_parse 44 = .ok (.invokevirtual 39, 3) := by decide +kernel
theorem dX7_parse_47 : decode cX7_parse 47 = .ok (.aload_n 0, 1) := by decide +kernel
theorem dX7_parse_48 : decode cX7_parse 48 = .ok (.invokevirtual 94, 3) := by decide +kernel
theorem dX7_parse_51 : decode cX7_parse 51 = .ok (.aload_n 0, 1) := by decide +kernel
theorem dX7_parse_52 : decode cX7_parse 52 = .ok (.aload_n 0, 1) := by decide +kernel
theorem dX7_parse_53 : decode cX7_parse 53 = .ok (.ldc 159, 2) := by decide +kernel
theorem dX7_parse_55 : decode cX7_parse 55 = .ok (.invokevirtual 117, 3) := by decide +kernel
theorem dX7_parse_58 : decode cX7_parse 58 = .ok (.iconst 1, 1) := by decide +kernel
theorem dX7_parse_59 : decode cX7_parse 59 = .ok (.invokevirtual 97, 3) := by decide +kernel
theorem dX7_parse_62 : decode cX7_parse 62 = .ok (.pop, 1) := by decide +kernel
theorem dX7_parse_63 : decode cX7_parse 63 = .ok (.aload_n 0, 1) := by decide +kernel
theorem dX7_parse_64 : decode cX7_parse 64 = .ok (.invokevirtual 101, 3) := by decide +kernel
theorem dX7_parse_67 : decode cX7_parse 67 = .ok (.aload_n 0, 1) := by decide +kernel
theorem dX7_parse_68 : decode cX7_parse 68 = .ok (.getfield 13, 3) := by decide +kernel
theorem dX7_parse_71 : decode cX7_parse 71 = .ok (.iconst 0, 1) := by decide +kernel
theorem dX7_parse_72 : decode cX7_parse 72 = .ok (.aload_n 0, 1) := by decide +kernel
theorem dX7_parse_73 : decode cX7_parse 73 = .ok (.bipush 50, 2) := by decide +kernel
theorem dX7_parse_75 : decode cX7_parse 75 = .ok (.sipush 500, 3) := by decide +kernel
theorem dX7_parse_78 : decode cX7_parse 78 = .ok (.invokevirtual 111, 3) := by decide +kernel
theorem dX7_parse_81 : decode cX7_parse 81 = .ok (.iastore, 1) := by decide +kernel
theorem dX7_parse_82 : decode cX7_parse 82 = .ok (.aload_n 0, 1) := by decide +kernel
theorem dX7_parse_83 : decode cX7_parse 83 = .ok (.getfield 13, 3) := by decide +kernel
theorem dX7_parse_86 : decode cX7_parse 86 = .ok (.iconst 1, 1) := by decide +kernel
theorem dX7_parse_87 : decode cX7_parse 87 = .ok (.aload_n 0, 1) := by decide +kernel
theorem dX7_parse_88 : decode cX7_parse 88 = .ok (.bipush 30, 2) := by decide +kernel
theorem dX7_parse_90 : decode cX7_parse 90 = .ok (.sipush 500, 3) := by decide +kernel
theorem dX7_parse_93 : decode cX7_parse 93 = .ok (.invokevirtual 111, 3) := by decide +kernel
theorem dX7_parse_96 : decode cX7_parse 96 = .ok (.iastore, 1) := by decide +kernel
theorem dX7_parse_97 : decode cX7_parse 97 = .ok (.aload_n 0, 1) := by decide +kernel
theorem dX7_parse_98 : decode cX7_parse 98 = .ok (.aload_n 0, 1) := by decide +kernel
theorem dX7_parse_99 : decode cX7_parse 99 = .ok (.getfield 69, 3) := by decide +kernel
theorem dX7_parse_102 : decode cX7_parse 102 = .ok (.iconst 3, 1) := by decide +kernel
theorem dX7_parse_103 : decode cX7_parse 103 = .ok (.if_icmp .ne 7, 3) := by decide +kernel
theorem dX7_parse_106 : decode cX7_parse 106 = .ok (.iconst 1, 1) := by decide +kernel
theorem dX7_parse_107 : decode cX7_parse 107 = .ok (.goto 4, 3) := by decide +kernel
theorem dX7_parse_110 : decode cX7_parse 110 = .ok (.iconst 0, 1) := by decide +kernel
theorem dX7_parse_111 : decode cX7_parse 111 = .ok (.iconst 1, 1) := by decide +kernel
theorem dX7_parse_112 : decode cX7_parse 112 = .ok (.invokevirtual 97, 3) := by decide +kernel
theorem dX7_parse_115 : decode cX7_parse 115 = .ok (.ifCond .eq 7, 3) := by decide +kernel
theorem dX7_parse_118 : decode cX7_parse 118 = .ok (.aload_n 0, 1) := by decide +kernel
theorem dX7_parse_119 : decode cX7_parse 119 = .ok (.invokevirtual 94, 3) := by decide +kernel
theorem dX7_parse_122 : decode cX7_parse 122 = .ok (.aload_n 0, 1) := by decide +kernel
theorem dX7_parse_123 : decode cX7_parse 123 = .ok (.getfield 79, 3) := by decide +kernel
theorem dX7_parse_126 : decode cX7_parse 126 = .ok (.ifCond .ne 17, 3) := by decide +kernel
theorem dX7_parse_129 : decode cX7_parse 129 = .ok (.aload_n 0, 1) := by decide +kernel
theorem dX7_parse_130 : decode cX7_parse 130 = .ok (.getfield 69, 3) := by decide +kernel
theorem dX7_parse_133 : decode cX7_parse 133 = .ok (.ifCond .eq 10, 3) := by decide +kernel
theorem dX7_parse_136 : decode cX7_parse 136 = .ok (.aload_n 0, 1) := by decide +kernel
theorem dX7_parse_137 : decode cX7_parse 137 = .ok (.invokevirtual 161, 3) := by decide +kernel
theorem dX7_parse_140 : decode cX7_parse 140 = .ok (.goto (-18), 3) := by decide +kernel
theorem dX7_parse_143 : decode cX7_parse 143 = .ok (.aload_n 0, 1) := by decide +kernel
theorem dX7_parse_144 : decode cX7_parse 144 = .ok (.getfield 79, 3) := by decide +kernel
theorem dX7_parse_147 : decode cX7_parse 147 = .ok (.ifCond .eq 19, 3) := by decide +kernel
theorem dX7_parse_150 : decode cX7_parse 150 = .ok (.bipush (-2), 2) := by decide +kernel
theorem dX7_parse_152 : decode cX7_parse 152 = .ok (.bipush 8, 2) := by decide +kernel
theorem dX7_parse_154 : decode cX7_parse 154 = .ok (.aload_n 0, 1) := by decide +kernel
theorem dX7_parse_155 : decode cX7_parse 155 = .ok (.getfield 82, 3) := by decide +kernel
theorem dX7_parse_158 : decode cX7_parse 158 = .ok (.imul, 1) := by decide +kernel
theorem dX7_parse_159 : decode cX7_parse 159 = .ok (.aload_n 0, 1) := by decide +kernel
theorem dX7_parse_160 : decode cX7_parse 160 = .ok (.getfield 79, 3) := by decide +kernel
theorem dX7_parse_163 : decode cX7_parse 163 = .ok (.iadd, 1) := by decide +kernel
theorem dX7_parse_164 : decode cX7_parse 164 = .ok (.isub, 1) := by decide +kernel
theorem dX7_parse_165 : decode cX7_parse 165 = .ok (.ireturn, 1) := by decide +kernel
theorem dX7_parse_166 : decode cX7_parse 166 = .ok (.aload_n 0, 1) := by decide +kernel
theorem dX7_parse_167 : decode cX7_parse 167 = .ok (.invokevirtual 42, 3) := by decide +kernel
theorem dX7_parse_170 : decode cX7_parse 170 = .ok (.aload_n 0, 1) := by decide +kernel
theorem dX7_parse_171 : decode cX7_parse 171 = .ok (.invokevirtual 164, 3) := by decide +kernel
theorem dX7_parse_174 : decode cX7_parse 174 = .ok (.ireturn, 1) := by decide +kernel
theorem dX7_takeDraft_0 : decode cX7_takeDraft 0 = .ok (.iconst 0, 1) := by decide +kernel
theorem dX7_takeDraft_1 : decode cX7_takeDraft 1 = .ok (.istore_n 1, 1) := by decide +kernel
theorem dX7_takeDraft_2 : decode cX7_takeDraft 2 = .ok (.iload_n 1, 1) := by decide +kernel
theorem dX7_takeDraft_3 : decode cX7_takeDraft 3 = .ok (.sipush 288, 3) := by decide +kernel
theorem dX7_takeDraft_6 : decode cX7_takeDraft 6 = .ok (.if_icmp .ge 21, 3) := by decide +kernel
theorem dX7_takeDraft_9 : decode cX7_takeDraft 9 = .ok (.aload_n 0, 1) := by decide +kernel
theorem dX7_takeDraft_10 : decode cX7_takeDraft 10 = .ok (.getfield 17, 3) := by decide +kernel
theorem dX7_takeDraft_13 : decode cX7_takeDraft 13 = .ok (.iload_n 1, 1) := by decide +kernel
theorem dX7_takeDraft_14 : decode cX7_takeDraft 14 = .ok (.aload_n 0, 1) := by decide +kernel
theorem dX7_takeDraft_15 : decode cX7_takeDraft 15 = .ok (.getfield 13, 3) := by decide +kernel
theorem dX7_takeDraft_18 : decode cX7_takeDraft 18 = .ok (.iload_n 1, 1) := by decide +kernel
theorem dX7_takeDraft_19 : decode cX7_takeDraft 19 = .ok (.iaload, 1) := by decide +kernel
theorem dX7_takeDraft_20 : decode cX7_takeDraft 20 = .ok (.iastore, 1) := by decide +kernel
theorem dX7_takeDraft_21 : decode cX7_takeDraft 21 = .ok (.iinc 1 1, 3) := by decide +kernel
theorem dX7_takeDraft_24 : decode cX7_takeDraft 24 = .ok (.goto (-22), 3) := by decide +kernel
theorem dX7_takeDraft_27 : decode cX7_takeDraft 27 = .ok (.iconst 0, 1) := by decide +kernel
theorem dX7_takeDraft_28 : decode cX7_takeDraft 28 = .ok (.istore_n 1, 1) := by decide +kernel
theorem dX7_takeDraft_29 : decode cX7_takeDraft 29 = .ok (.iload_n 1, 1) := by decide +kernel
theorem dX7_takeDraft_30 : decode cX7_takeDraft 30 = .ok (.sipush 706, 3) := by decide +kernel
theorem dX7_takeDraft_33 : decode cX7_takeDraft 33 = .ok (.if_icmp .ge 16, 3) := by decide +kernel
theorem dX7_takeDraft_36 : decode cX7_takeDraft 36 = .ok (.aload_n 0, 1) := by decide +kernel
theorem dX7_takeDraft_37 : decode cX7_takeDraft 37 = .ok (.getfield 20, 3) := by decide +kernel
theorem dX7_takeDraft_40 : decode cX7_takeDraft 40 = .ok (.iload_n 1, 1) := by decide +kernel
theorem dX7_takeDraft_41 : decode cX7_takeDraft 41 = .ok (.iconst 0, 1) := by decide +kernel
theorem dX7_takeDraft_42 : decode cX7_takeDraft 42 = .ok (.iastore, 1) := by decide +kernel
theorem dX7_takeDraft_43 : decode cX7_takeDraft 43 = .ok (.iinc 1 1, 3) := by decide +kernel
theorem dX7_takeDraft_46 : decode cX7_takeDraft 46 = .ok (.goto (-17), 3) := by decide +kernel
theorem dX7_takeDraft_49 : decode cX7_takeDraft 49 = .ok (.aload_n 0, 1) := by decide +kernel
theorem dX7_takeDraft_50 : decode cX7_takeDraft 50 = .ok (.getfield 20, 3) := by decide +kernel
theorem dX7_takeDraft_53 : decode cX7_takeDraft 53 = .ok (.iconst 0, 1) := by decide +kernel
theorem dX7_takeDraft_54 : decode cX7_takeDraft 54 = .ok (.aload_n 0, 1) := by decide +kernel
theorem dX7_takeDraft_55 : decode cX7_takeDraft 55 = .ok (.getfield 17, 3) := by decide +kernel
theorem dX7_takeDraft_58 : decode cX7_takeDraft 58 = .ok (.iconst 3, 1) := by decide +kernel
theorem dX7_takeDraft_59 : decode cX7_takeDraft 59 = .ok (.iaload, 1) := by decide +kernel
theorem dX7_takeDraft_60 : decode cX7_takeDraft 60 = .ok (.iastore, 1) := by decide +kernel
theorem dX7_takeDraft_61 : decode cX7_takeDraft 61 = .ok (.iconst 0, 1) := by decide +kernel
theorem dX7_takeDraft_62 : decode cX7_takeDraft 62 = .ok (.istore_n 1, 1) := by decide +kernel
theorem dX7_takeDraft_63 : decode cX7_takeDraft 63 = .ok (.iload_n 1, 1) := by decide +kernel
theorem dX7_takeDraft_64 : decode cX7_takeDraft 64 = .ok (.iconst 4, 1) := by decide +kernel
theorem dX7_takeDraft_65 : decode cX7_takeDraft 65 = .ok (.if_icmp .ge 25, 3) := by decide +kernel
theorem dX7_takeDraft_68 : decode cX7_takeDraft 68 = .ok (.aload_n 0, 1) := by decide +kernel
theorem dX7_takeDraft_69 : decode cX7_takeDraft 69 = .ok (.getfield 20, 3) := by decide +kernel
theorem dX7_takeDraft_72 : decode cX7_takeDraft 72 = .ok (.iconst 1, 1) := by decide +kernel
theorem dX7_takeDraft_73 : decode cX7_takeDraft 73 = .ok (.iload_n 1, 1) := by decide +kernel
theorem dX7_takeDraft_74 : decode cX7_takeDraft 74 = .ok (.iadd, 1) := by decide +kernel
theorem dX7_takeDraft_75 : decode cX7_takeDraft 75 = .ok (.aload_n 0, 1) := by decide +kernel
theorem dX7_takeDraft_76 : decode cX7_takeDraft 76 = .ok (.getfield 17, 3) := by decide +kernel
theorem dX7_takeDraft_79 : decode cX7_takeDraft 79 = .ok (.iconst 4, 1) := by decide +kernel
theorem dX7_takeDraft_80 : decode cX7_takeDraft 80 = .ok (.iload_n 1, 1) := by decide +kernel
theorem dX7_takeDraft_81 : decode cX7_takeDraft 81 = .ok (.iadd, 1) := by decide +kernel
theorem dX7_takeDraft_82 : decode cX7_takeDraft 82 = .ok (.iaload, 1) := by decide +kernel
theorem dX7_takeDraft_83 : decode cX7_takeDraft 83 = .ok (.iastore, 1) := by decide +kernel
theorem dX7_takeDraft_84 : decode cX7_takeDraft 84 = .ok (.iinc 1 1, 3) := by decide +kernel
theorem dX7_takeDraft_87 : decode cX7_takeDraft 87 = .ok (.goto (-24), 3) := by decide +kernel
theorem dX7_takeDraft_90 : decode cX7_takeDraft 90 = .ok (.iconst 0, 1) := by decide +kernel
theorem dX7_takeDraft_91 : decode cX7_takeDraft 91 = .ok (.istore_n 1, 1) := by decide +kernel
theorem dX7_takeDraft_92 : decode cX7_takeDraft 92 = .ok (.iload_n 1, 1) := by decide +kernel
theorem dX7_takeDraft_93 : decode cX7_takeDraft 93 = .ok (.aload_n 0, 1) := by decide +kernel
theorem dX7_takeDraft_94 : decode cX7_takeDraft 94 = .ok (.invokevirtual 164, 3) := by decide +kernel
theorem dX7_takeDraft_97 : decode cX7_takeDraft 97 = .ok (.if_icmp .ge 62, 3) := by decide +kernel
theorem dX7_takeDraft_100 : decode cX7_takeDraft 100 = .ok (.aload_n 0, 1) := by decide +kernel
theorem dX7_takeDraft_101 : decode cX7_takeDraft 101 = .ok (.getfield 20, 3) := by decide +kernel
theorem dX7_takeDraft_104 : decode cX7_takeDraft 104 = .ok (.iload_n 1, 1) := by decide +kernel
theorem dX7_takeDraft_105 : decode cX7_takeDraft 105 = .ok (.invokestatic 167, 3) := by decide +kernel
theorem dX7_takeDraft_108 : decode cX7_takeDraft 108 = .ok (.iconst 1, 1) := by decide +kernel
theorem dX7_takeDraft_109 : decode cX7_takeDraft 109 = .ok (.iadd, 1) := by decide +kernel
theorem dX7_takeDraft_110 : decode cX7_takeDraft 110 = .ok (.aload_n 0, 1) := by decide +kernel
theorem dX7_takeDraft_111 : decode cX7_takeDraft 111 = .ok (.iload_n 1, 1) := by decide +kernel
theorem dX7_takeDraft_112 : decode cX7_takeDraft 112 = .ok (.iconst 2, 1) := by decide +kernel
theorem dX7_takeDraft_113 : decode cX7_takeDraft 113 = .ok (.invokevirtual 170, 3) := by decide +kernel
theorem dX7_takeDraft_116 : decode cX7_takeDraft 116 = .ok (.iastore, 1) := by decide +kernel
theorem dX7_takeDraft_117 : decode cX7_takeDraft 117 = .ok (.aload_n 0, 1) := by decide +kernel
theorem dX7_takeDraft_118 : decode cX7_takeDraft 118 = .ok (.getfield 20, 3) := by decide +kernel
theorem dX7_takeDraft_121 : decode cX7_takeDraft 121 = .ok (.iload_n 1, 1) := by decide +kernel
theorem dX7_takeDraft_122 : decode cX7_takeDraft 122 = .ok (.invokestatic 167, 3) := by decide +kernel
theorem dX7_takeDraft_125 : decode cX7_takeDraft 125 = .ok (.iconst 2, 1) := by decide +kernel
theorem dX7_takeDraft_126 : decode cX7_takeDraft 126 = .ok (.iadd, 1) := by decide +kernel
theorem dX7_takeDraft_127 : decode cX7_takeDraft 127 = .ok (.aload_n 0, 1) := by decide +kernel
theorem dX7_takeDraft_128 : decode cX7_takeDraft 128 = .ok (.iload_n 1, 1) := by decide +kernel
theorem dX7_takeDraft_129 : decode cX7_takeDraft 129 = .ok (.bipush 6, 2) := by decide +kernel
theorem dX7_takeDraft_131 : decode cX7_takeDraft 131 = .ok (.invokevirtual 170, 3) := by decide +kernel
theorem dX7_takeDraft_134 : decode cX7_takeDraft 134 = .ok (.iastore, 1) := by decide +kernel
theorem dX7_takeDraft_135 : decode cX7_takeDraft 135 = .ok (.aload_n 0, 1) := by decide +kernel
theorem dX7_takeDraft_136 : decode cX7_takeDraft 136 = .ok (.getfield 20, 3) := by decide +kernel
theorem dX7_takeDraft_139 : decode cX7_takeDraft 139 = .ok (.sipush 186, 3) := by decide +kernel
theorem dX7_takeDraft_142 : decode cX7_takeDraft 142 = .ok (.aload_n 0, 1) := by decide +kernel
theorem dX7_takeDraft_143 : decode cX7_takeDraft 143 = .ok (.invokevirtual 164, 3) := by decide +kernel
theorem dX7_takeDraft_146 : decode cX7_takeDraft 146 = .ok (.iadd, 1) := by decide +kernel
theorem dX7_takeDraft_147 : decode cX7_takeDraft 147 = .ok (.iconst 1, 1) := by decide +kernel
theorem dX7_takeDraft_148 : decode cX7_takeDraft 148 = .ok (.isub, 1) := by decide +kernel
theorem dX7_takeDraft_149 : decode cX7_takeDraft 149 = .ok (.iload_n 1, 1) := by decide +kernel
theorem dX7_takeDraft_150 : decode cX7_takeDraft 150 = .ok (.isub, 1) := by decide +kernel
theorem dX7_takeDraft_151 : decode cX7_takeDraft 151 = .ok (.iload_n 1, 1) := by decide +kernel
theorem dX7_takeDraft_152 : decode cX7_takeDraft 152 = .ok (.iastore, 1) := by decide +kernel
theorem dX7_takeDraft_153 : decode cX7_takeDraft 153 = .ok (.iinc 1 1, 3) := by decide +kernel
theorem dX7_takeDraft_156 : decode cX7_takeDraft 156 = .ok (.goto (-64), 3) := by decide +kernel
theorem dX7_takeDraft_159 : decode cX7_takeDraft 159 = .ok (.aload_n 0, 1) := by decide +kernel
theorem dX7_takeDraft_160 : decode cX7_takeDraft 160 = .ok (.getfield 20, 3) := by decide +kernel
theorem dX7_takeDraft_163 : decode cX7_takeDraft 163 = .ok (.bipush 6, 2) := by decide +kernel
theorem dX7_takeDraft_165 : decode cX7_takeDraft 165 = .ok (.aload_n 0, 1) := by decide +kernel
theorem dX7_takeDraft_166 : decode cX7_takeDraft 166 = .ok (.invokevirtual 164, 3) := by decide +kernel
theorem dX7_takeDraft_169 : decode cX7_takeDraft 169 = .ok (.iastore, 1) := by decide +kernel
theorem dX7_takeDraft_170 : decode cX7_takeDraft 170 = .ok (.aload_n 0, 1) := by decide +kernel
theorem dX7_takeDraft_171 : decode cX7_takeDraft 171 = .ok (.getfield 20, 3) := by decide +kernel
theorem dX7_takeDraft_174 : decode cX7_takeDraft 174 = .ok (.bipush 16, 2) := by decide +kernel
theorem dX7_takeDraft_176 : decode cX7_takeDraft 176 = .ok (.iconst 1, 1) := by decide +kernel
theorem dX7_takeDraft_177 : decode cX7_takeDraft 177 = .ok (.iastore, 1) := by decide +kernel
theorem dX7_takeDraft_178 : decode cX7_takeDraft 178 = .ok (.aload_n 0, 1) := by decide +kernel
theorem dX7_takeDraft_179 : decode cX7_takeDraft 179 = .ok (.getfield 20, 3) := by decide +kernel
theorem dX7_takeDraft_182 : decode cX7_takeDraft 182 = .ok (.sipush 426, 3) := by decide +kernel
theorem dX7_takeDraft_185 : decode cX7_takeDraft 185 = .ok (.iconst (-1), 1) := by decide +kernel
theorem dX7_takeDraft_186 : decode cX7_takeDraft 186 = .ok (.iastore, 1) := by decide +kernel
theorem dX7_takeDraft_187 : decode cX7_takeDraft 187 = .ok (.aload_n 0, 1) := by decide +kernel
theorem dX7_takeDraft_188 : decode cX7_takeDraft 188 = .ok (.iconst 0, 1) := by decide +kernel
theorem dX7_takeDraft_189 : decode cX7_takeDraft 189 = .ok (.putfield 173, 3) := by decide +kernel
theorem dX7_takeDraft_192 : decode cX7_takeDraft 192 = .ok (.aload_n 0, 1) := by decide +kernel
theorem dX7_takeDraft_193 : decode cX7_takeDraft 193 = .ok (.getfield 32, 3) := by decide +kernel
theorem dX7_takeDraft_196 : decode cX7_takeDraft 196 = .ok (.iconst 0, 1) := by decide +kernel
theorem dX7_takeDraft_197 : decode cX7_takeDraft 197 = .ok (.iconst 0, 1) := by decide +kernel
theorem dX7_takeDraft_198 : decode cX7_takeDraft 198 = .ok (.bastore, 1) := by decide +kernel
theorem dX7_takeDraft_199 : decode cX7_takeDraft 199 = .ok (.aload_n 0, 1) := by decide +kernel
theorem dX7_takeDraft_200 : decode cX7_takeDraft 200 = .ok (.getfield 32, 3) := by decide +kernel
theorem dX7_takeDraft_203 : decode cX7_takeDraft 203 = .ok (.iconst 1, 1) := by decide +kernel
theorem dX7_takeDraft_204 : decode cX7_takeDraft 204 = .ok (.iconst 0, 1) := by decide +kernel
theorem dX7_takeDraft_205 : decode cX7_takeDraft 205 = .ok (.bastore, 1) := by decide +kernel
theorem dX7_takeDraft_206 : decode cX7_takeDraft 206 = .ok (.return_, 1) := by decide +kernel
theorem dX7_copy_0 : decode cX7_copy 0 = .ok (.iconst 0, 1) := by decide +kernel
theorem dX7_copy_1 : decode cX7_copy 1 = .ok (.istore 4, 2) := by decide +kernel
theorem dX7_copy_3 : decode cX7_copy 3 = .ok (.iload 4, 2) := by decide +kernel
theorem dX7_copy_5 : decode cX7_copy 5 = .ok (.sipush 706, 3) := by decide +kernel
theorem dX7_copy_8 : decode cX7_copy 8 = .ok (.if_icmp .ge 29, 3) := by decide +kernel
theorem dX7_copy_11 : decode cX7_copy 11 = .ok (.aload_n 2, 1) := by decide +kernel
theorem dX7_copy_12 : decode cX7_copy 12 = .ok (.sipush 706, 3) := by decide +kernel
theorem dX7_copy_15 : decode cX7_copy 15 = .ok (.iload_n 3, 1) := by decide +kernel
theorem dX7_copy_16 : decode cX7_copy 16 = .ok (.imul, 1) := by decide +kernel
theorem dX7_copy_17 : decode cX7_copy 17 = .ok (.iload 4, 2) := by decide +kernel
theorem dX7_copy_19 : decode cX7_copy 19 = .ok (.iadd, 1) := by decide +kernel
theorem dX7_copy_20 : decode cX7_copy 20 = .ok (.aload_n 0, 1) := by decide +kernel
theorem dX7_copy_21 : decode cX7_copy 21 = .ok (.sipush 706, 3) := by decide +kernel
theorem dX7_copy_24 : decode cX7_copy 24 = .ok (.iload_n 1, 1) := by decide +kernel
theorem dX7_copy_25 : decode cX7_copy 25 = .ok (.imul, 1) := by decide +kernel
theorem dX7_copy_26 : decode cX7_copy 26 = .ok (.iload 4, 2) := by decide +kernel
theorem dX7_copy_28 : decode cX7_copy 28 = .ok (.iadd, 1) := by decide +kernel
theorem dX7_copy_29 : decode cX7_copy 29 = .ok (.iaload, 1) := by decide +kernel
theorem dX7_copy_30 : decode cX7_copy 30 = .ok (.iastore, 1) := by decide +kernel
theorem dX7_copy_31 : decode cX7_copy 31 = .ok (.iinc 4 1, 3) := by decide +kernel
theorem dX7_copy_34 : decode cX7_copy 34 = .ok (.goto (-31), 3) := by decide +kernel
theorem dX7_copy_37 : decode cX7_copy 37 = .ok (.return_, 1) := by decide +kernel
theorem dX7_keep_0 : decode cX7_keep 0 = .ok (.aload_n 0, 1) := by decide +kernel
theorem dX7_keep_1 : decode cX7_keep 1 = .ok (.getfield 173, 3) := by decide +kernel
theorem dX7_keep_4 : decode cX7_keep 4 = .ok (.bipush 10, 2) := by decide +kernel
theorem dX7_keep_6 : decode cX7_keep 6 = .ok (.if_icmp .ne 42, 3) := by decide +kernel
theorem dX7_keep_9 : decode cX7_keep 9 = .ok (.iconst 1, 1) := by decide +kernel
theorem dX7_keep_10 : decode cX7_keep 10 = .ok (.istore_n 1, 1) := by decide +kernel
theorem dX7_keep_11 : decode cX7_keep 11 = .ok (.iload_n 1, 1) := by decide +kernel
theorem dX7_keep_12 : decode cX7_keep 12 = .ok (.bipush 10, 2) := by decide +kernel
theorem dX7_keep_14 : decode cX7_keep 14 = .ok (.if_icmp .ge 24, 3) := by decide +kernel
theorem dX7_keep_17 : decode cX7_keep 17 = .ok (.aload_n 0, 1) := by decide +kernel
theorem dX7_keep_18 : decode cX7_keep 18 = .ok (.getfield 26, 3) := by decide +kernel
theorem dX7_keep_21 : decode cX7_keep 21 = .ok (.iload_n 1, 1) := by decide +kernel
theorem dX7_keep_22 : decode cX7_keep 22 = .ok (.aload_n 0, 1) := by decide +kernel
theorem dX7_keep_23 : decode cX7_keep 23 = .ok (.getfield 26, 3) := by decide +kernel
theorem dX7_keep_26 : decode cX7_keep 26 = .ok (.iload_n 1, 1) := by decide +kernel
theorem dX7_keep_27 : decode cX7_keep 27 = .ok (.iconst 1, 1) := by decide +kernel
theorem dX7_keep_28 : decode cX7_keep 28 = .ok (.isub, 1) := by decide +kernel
theorem dX7_keep_29 : decode cX7_keep 29 = .ok (.invokestatic 176, 3) := by decide +kernel
theorem dX7_keep_32 : decode cX7_keep 32 = .ok (.iinc 1 1, 3) := by decide +kernel
theorem dX7_keep_35 : decode cX7_keep 35 = .ok (.goto (-24), 3) := by decide +kernel
theorem dX7_keep_38 : decode cX7_keep 38 = .ok (.aload_n 0, 1) := by decide +kernel
theorem dX7_keep_39 : decode cX7_keep 39 = .ok (.dup, 1) := by decide +kernel
theorem dX7_keep_40 : decode cX7_keep 40 = .ok (.getfield 173, 3) := by decide +kernel
theorem dX7_keep_43 : decode cX7_keep 43 = .ok (.iconst 1, 1) := by decide +kernel
theorem dX7_keep_44 : decode cX7_keep 44 = .ok (.isub, 1) := by decide +kernel
theorem dX7_keep_45 : decode cX7_keep 45 = .ok (.putfield 173, 3) := by decide +kernel
theorem dX7_keep_48 : decode cX7_keep 48 = .ok (.aload_n 0, 1) := by decide +kernel
theorem dX7_keep_49 : decode cX7_keep 49 = .ok (.getfield 20, 3) := by decide +kernel
theorem dX7_keep_52 : decode cX7_keep 52 = .ok (.iconst 0, 1) := by decide +kernel
theorem dX7_keep_53 : decode cX7_keep 53 = .ok (.aload_n 0, 1) := by decide +kernel
theorem dX7_keep_54 : decode cX7_keep 54 = .ok (.getfield 26, 3) := by decide +kernel
theorem dX7_keep_57 : decode cX7_keep 57 = .ok (.aload_n 0, 1) := by decide +kernel
theorem dX7_keep_58 : decode cX7_keep 58 = .ok (.getfield 173, 3) := by decide +kernel
theorem dX7_keep_61 : decode cX7_keep 61 = .ok (.invokestatic 176, 3) := by decide +kernel
theorem dX7_keep_64 : decode cX7_keep 64 = .ok (.aload_n 0, 1) := by decide +kernel
theorem dX7_keep_65 : decode cX7_keep 65 = .ok (.dup, 1) := by decide +kernel
theorem dX7_keep_66 : decode cX7_keep 66 = .ok (.getfield 173, 3) := by decide +kernel
theorem dX7_keep_69 : decode cX7_keep 69 = .ok (.iconst 1, 1) := by decide +kernel
theorem dX7_keep_70 : decode cX7_keep 70 = .ok (.iadd, 1) := by decide +kernel
theorem dX7_keep_71 : decode cX7_keep 71 = .ok (.putfield 173, 3) := by decide +kernel
theorem dX7_keep_74 : decode cX7_keep 74 = .ok (.return_, 1) := by decide +kernel
theorem dX7_sheets_0 : decode cX7_sheets 0 = .ok (.aload_n 0, 1) := by decide +kernel
theorem dX7_sheets_1 : decode cX7_sheets 1 = .ok (.getfield 17, 3) := by decide +kernel
theorem dX7_sheets_4 : decode cX7_sheets 4 = .ok (.iconst 2, 1) := by decide +kernel
theorem dX7_sheets_5 : decode cX7_sheets 5 = .ok (.iaload, 1) := by decide +kernel
theorem dX7_sheets_6 : decode cX7_sheets 6 = .ok (.ireturn, 1) := by decide +kernel
theorem dX7_isSheet_0 : decode cX7_isSheet 0 = .ok (.iload_n 1, 1) := by decide +kernel
theorem dX7_isSheet_1 : decode cX7_isSheet 1 = .ok (.iconst 0, 1) := by decide +kernel
theorem dX7_isSheet_2 : decode cX7_isSheet 2 = .ok (.aload_n 0, 1) := by decide +kernel
theorem dX7_isSheet_3 : decode cX7_isSheet 3 = .ok (.invokevirtual 164, 3) := by decide +kernel
theorem dX7_isSheet_6 : decode cX7_isSheet 6 = .ok (.iconst 1, 1) := by decide +kernel
theorem dX7_isSheet_7 : decode cX7_isSheet 7 = .ok (.isub, 1) := by decide +kernel
theorem dX7_isSheet_8 : decode cX7_isSheet 8 = .ok (.invokestatic 72, 3) := by decide +kernel
theorem dX7_isSheet_11 : decode cX7_isSheet 11 = .ok (.ireturn, 1) := by decide +kernel
theorem dX7_toldOf_0 : decode cX7_toldOf 0 = .ok (.aload_n 0, 1) := by decide +kernel
theorem dX7_toldOf_1 : decode cX7_toldOf 1 = .ok (.getfield 17, 3) := by decide +kernel
theorem dX7_toldOf_4 : decode cX7_toldOf 4 = .ok (.bipush 8, 2) := by decide +kernel
theorem dX7_toldOf_6 : decode cX7_toldOf 6 = .ok (.bipush 7, 2) := by decide +kernel
theorem dX7_toldOf_8 : decode cX7_toldOf 8 = .ok (.iload_n 1, 1) := by decide +kernel
theorem dX7_toldOf_9 : decode cX7_toldOf 9 = .ok (.imul, 1) := by decide +kernel
theorem dX7_toldOf_10 : decode cX7_toldOf 10 = .ok (.iadd, 1) := by decide +kernel
theorem dX7_toldOf_11 : decode cX7_toldOf 11 = .ok (.iload_n 2, 1) := by decide +kernel
theorem dX7_toldOf_12 : decode cX7_toldOf 12 = .ok (.iadd, 1) := by decide +kernel
theorem dX7_toldOf_13 : decode cX7_toldOf 13 = .ok (.iaload, 1) := by decide +kernel
theorem dX7_toldOf_14 : decode cX7_toldOf 14 = .ok (.ireturn, 1) := by decide +kernel
theorem dX7_of_0 : decode cX7_of 0 = .ok (.bipush 26, 2) := by decide +kernel
theorem dX7_of_2 : decode cX7_of 2 = .ok (.iconst 4, 1) := by decide +kernel
theorem dX7_of_3 : decode cX7_of 3 = .ok (.iload_n 0, 1) := by decide +kernel
theorem dX7_of_4 : decode cX7_of 4 = .ok (.imul, 1) := by decide +kernel
theorem dX7_of_5 : decode cX7_of 5 = .ok (.iadd, 1) := by decide +kernel
theorem dX7_of_6 : decode cX7_of 6 = .ok (.ireturn, 1) := by decide +kernel
theorem dX7_isCode_0 : decode cX7_isCode 0 = .ok (.aload_n 0, 1) := by decide +kernel
theorem dX7_isCode_1 : decode cX7_isCode 1 = .ok (.iload_n 1, 1) := by decide +kernel
theorem dX7_isCode_2 : decode cX7_isCode 2 = .ok (.iconst 5, 1) := by decide +kernel
theorem dX7_isCode_3 : decode cX7_isCode 3 = .ok (.invokevirtual 170, 3) := by decide +kernel
theorem dX7_isCode_6 : decode cX7_isCode 6 = .ok (.iconst (-1), 1) := by decide +kernel
theorem dX7_isCode_7 : decode cX7_isCode 7 = .ok (.if_icmp .eq 7, 3) := by decide +kernel
theorem dX7_isCode_10 : decode cX7_isCode 10 = .ok (.iconst 1, 1) := by decide +kernel
theorem dX7_isCode_11 : decode cX7_isCode 11 = .ok (.goto 4, 3) := by decide +kernel
theorem dX7_isCode_14 : decode cX7_isCode 14 = .ok (.iconst 0, 1) := by decide +kernel
theorem dX7_isCode_15 : decode cX7_isCode 15 = .ok (.ireturn, 1) := by decide +kernel
theorem dX7_top_0 : decode cX7_top 0 = .ok (.aload_n 0, 1) := by decide +kernel
theorem dX7_top_1 : decode cX7_top 1 = .ok (.getfield 20, 3) := by decide +kernel
theorem dX7_top_4 : decode cX7_top 4 = .ok (.sipush 186, 3) := by decide +kernel
theorem dX7_top_7 : decode cX7_top 7 = .ok (.aload_n 0, 1) := by decide +kernel
theorem dX7_top_8 : decode cX7_top 8 = .ok (.getfield 20, 3) := by decide +kernel
theorem dX7_top_11 : decode cX7_top 11 = .ok (.bipush 6, 2) := by decide +kernel
theorem dX7_top_13 : decode cX7_top 13 = .ok (.iaload, 1) := by decide +kernel
theorem dX7_top_14 : decode cX7_top 14 = .ok (.iadd, 1) := by decide +kernel
theorem dX7_top_15 : decode cX7_top 15 = .ok (.iconst 1, 1) := by decide +kernel
theorem dX7_top_16 : decode cX7_top 16 = .ok (.isub, 1) := by decide +kernel
theorem dX7_top_17 : decode cX7_top 17 = .ok (.iload_n 1, 1) := by decide +kernel
theorem dX7_top_18 : decode cX7_top 18 = .ok (.isub, 1) := by decide +kernel
theorem dX7_top_19 : decode cX7_top 19 = .ok (.iaload, 1) := by decide +kernel
theorem dX7_top_20 : decode cX7_top 20 = .ok (.ireturn, 1) := by decide +kernel
theorem dX7_usual_0 : decode cX7_usual 0 = .ok (.aload_n 0, 1) := by decide +kernel
theorem dX7_usual_1 : decode cX7_usual 1 = .ok (.getfield 20, 3) := by decide +kernel
theorem dX7_usual_4 : decode cX7_usual 4 = .ok (.bipush 8, 2) := by decide +kernel
theorem dX7_usual_6 : decode cX7_usual 6 = .ok (.iaload, 1) := by decide +kernel
theorem dX7_usual_7 : decode cX7_usual 7 = .ok (.ifCond .ne 10, 3) := by decide +kernel
theorem dX7_usual_10 : decode cX7_usual 10 = .ok (.aload_n 0, 1) := by decide +kernel
theorem dX7_usual_11 : decode cX7_usual 11 = .ok (.getfield 17, 3) := by decide +kernel
theorem dX7_usual_14 : decode cX7_usual 14 = .ok (.iconst 1, 1) := by decide +kernel
theorem dX7_usual_15 : decode cX7_usual 15 = .ok (.iaload, 1) := by decide +kernel
theorem dX7_usual_16 : decode cX7_usual 16 = .ok (.ireturn, 1) := by decide +kernel
theorem dX7_usual_17 : decode cX7_usual 17 = .ok (.iconst 0, 1) := by decide +kernel
theorem dX7_usual_18 : decode cX7_usual 18 = .ok (.istore_n 1, 1) := by decide +kernel
theorem dX7_usual_19 : decode cX7_usual 19 = .ok (.iconst 0, 1) := by decide +kernel
theorem dX7_usual_20 : decode cX7_usual 20 = .ok (.istore_n 2, 1) := by decide +kernel
theorem dX7_usual_21 : decode cX7_usual 21 = .ok (.iload_n 2, 1) := by decide +kernel
theorem dX7_usual_22 : decode cX7_usual 22 = .ok (.aload_n 0, 1) := by decide +kernel
theorem dX7_usual_23 : decode cX7_usual 23 = .ok (.getfield 20, 3) := by decide +kernel
theorem dX7_usual_26 : decode cX7_usual 26 = .ok (.bipush 8, 2) := by decide +kernel
theorem dX7_usual_28 : decode cX7_usual 28 = .ok (.iaload, 1) := by decide +kernel
theorem dX7_usual_29 : decode cX7_usual 29 = .ok (.if_icmp .ge 21, 3) := by decide +kernel
theorem dX7_usual_32 : decode cX7_usual 32 = .ok (.iload_n 1, 1) := by decide +kernel
theorem dX7_usual_33 : decode cX7_usual 33 = .ok (.aload_n 0, 1) := by decide +kernel
theorem dX7_usual_34 : decode cX7_usual 34 = .ok (.getfield 20, 3) := by decide +kernel
theorem dX7_usual_37 : decode cX7_usual 37 = .ok (.bipush 9, 2) := by decide +kernel
theorem dX7_usual_39 : decode cX7_usual 39 = .ok (.iload_n 2, 1) := by decide +kernel
theorem dX7_usual_40 : decode cX7_usual 40 = .ok (.iadd, 1) := by decide +kernel
theorem dX7_usual_41 : decode cX7_usual 41 = .ok (.iaload, 1) := by decide +kernel
theorem dX7_usual_42 : decode cX7_usual 42 = .ok (.iadd, 1) := by decide +kernel
theorem dX7_usual_43 : decode cX7_usual 43 = .ok (.istore_n 1, 1) := by decide +kernel
theorem dX7_usual_44 : decode cX7_usual 44 = .ok (.iinc 2 1, 3) := by decide +kernel
theorem dX7_usual_47 : decode cX7_usual 47 = .ok (.goto (-26), 3) := by decide +kernel
theorem dX7_usual_50 : decode cX7_usual 50 = .ok (.iload_n 1, 1) := by decide +kernel
theorem dX7_usual_51 : decode cX7_usual 51 = .ok (.aload_n 0, 1) := by decide +kernel
theorem dX7_usual_52 : decode cX7_usual 52 = .ok (.getfield 20, 3) := by decide +kernel
theorem dX7_usual_55 : decode cX7_usual 55 = .ok (.bipush 8, 2) := by decide +kernel
theorem dX7_usual_57 : decode cX7_usual 57 = .ok (.iaload, 1) := by decide +kernel
theorem dX7_usual_58 : decode cX7_usual 58 = .ok (.idiv, 1) := by decide +kernel
theorem dX7_usual_59 : decode cX7_usual 59 = .ok (.ireturn, 1) := by decide +kernel
theorem dX7_countsGood_0 : decode cX7_countsGood 0 = .ok (.aload_n 0, 1) := by decide +kernel
theorem dX7_countsGood_1 : decode cX7_countsGood 1 = .ok (.getfield 20, 3) := by decide +kernel
theorem dX7_countsGood_4 : decode cX7_countsGood 4 = .ok (.bipush 21, 2) := by decide +kernel
theorem dX7_countsGood_6 : decode cX7_countsGood 6 = .ok (.dup2, 1) := by decide +kernel
theorem dX7_countsGood_7 : decode cX7_countsGood 7 = .ok (.iaload, 1) := by decide +kernel
theorem dX7_countsGood_8 : decode cX7_countsGood 8 = .ok (.iconst 1, 1) := by decide +kernel
theorem dX7_countsGood_9 : decode cX7_countsGood 9 = .ok (.iadd, 1) := by decide +kernel
theorem dX7_countsGood_10 : decode cX7_countsGood 10 = .ok (.iastore, 1) := by decide +kernel
theorem dX7_countsGood_11 : decode cX7_countsGood 11 = .ok (.aload_n 0, 1) := by decide +kernel
theorem dX7_countsGood_12 : decode cX7_countsGood 12 = .ok (.getfield 20, 3) := by decide +kernel
theorem dX7_countsGood_15 : decode cX7_countsGood 15 = .ok (.bipush 8, 2) := by decide +kernel
theorem dX7_countsGood_17 : decode cX7_countsGood 17 = .ok (.iaload, 1) := by decide +kernel
theorem dX7_countsGood_18 : decode cX7_countsGood 18 = .ok (.bipush 6, 2) := by decide +kernel
theorem dX7_countsGood_20 : decode cX7_countsGood 20 = .ok (.if_icmp .ne 48, 3) := by decide +kernel
theorem dX7_countsGood_23 : decode cX7_countsGood 23 = .ok (.iconst 1, 1) := by decide +kernel
theorem dX7_countsGood_24 : decode cX7_countsGood 24 = .ok (.istore_n 2, 1) := by decide +kernel
theorem dX7_countsGood_25 : decode cX7_countsGood 25 = .ok (.iload_n 2, 1) := by decide +kernel
theorem dX7_countsGood_26 : decode cX7_countsGood 26 = .ok (.bipush 6, 2) := by decide +kernel
theorem dX7_countsGood_28 : decode cX7_countsGood 28 = .ok (.if_icmp .ge 29, 3) := by decide +kernel
theorem dX7_countsGood_31 : decode cX7_countsGood 31 = .ok (.aload_n 0, 1) := by decide +kernel
theorem dX7_countsGood_32 : decode cX7_countsGood 32 = .ok (.getfield 20, 3) := by decide +kernel
theorem dX7_countsGood_35 : decode cX7_countsGood 35 = .ok (.bipush 9, 2) := by decide +kernel
theorem dX7_countsGood_37 : decode cX7_countsGood 37 = .ok (.iload_n 2, 1) := by decide +kernel
theorem dX7_countsGood_38 : decode cX7_countsGood 38 = .ok (.iadd, 1) := by decide +kernel
theorem dX7_countsGood_39 : decode cX7_countsGood 39 = .ok (.iconst 1, 1) := by decide +kernel
theorem dX7_countsGood_40 : decode cX7_countsGood 40 = .ok (.isub, 1) := by decide +kernel
theorem dX7_countsGood_41 : decode cX7_countsGood 41 = .ok (.aload_n 0, 1) := by decide +kernel
theorem dX7_countsGood_42 : decode cX7_countsGood 42 = .ok (.getfield 20, 3) := by decide +kernel
theorem dX7_countsGood_45 : decode cX7_countsGood 45 = .ok (.bipush 9, 2) := by decide +kernel
theorem dX7_countsGood_47 : decode cX7_countsGood 47 = .ok (.iload_n 2, 1) := by decide +kernel
theorem dX7_countsGood_48 : decode cX7_countsGood 48 = .ok (.iadd, 1) := by decide +kernel
theorem dX7_countsGood_49 : decode cX7_countsGood 49 = .ok (.iaload, 1) := by decide +kernel
theorem dX7_countsGood_50 : decode cX7_countsGood 50 = .ok (.iastore, 1) := by decide +kernel
theorem dX7_countsGood_51 : decode cX7_countsGood 51 = .ok (.iinc 2 1, 3) := by decide +kernel
theorem dX7_countsGood_54 : decode cX7_countsGood 54 = .ok (.goto (-29), 3) := by decide +kernel
theorem dX7_countsGood_57 : decode cX7_countsGood 57 = .ok (.aload_n 0, 1) := by decide +kernel
theorem dX7_countsGood_58 : decode cX7_countsGood 58 = .ok (.getfield 20, 3) := by decide +kernel
theorem dX7_countsGood_61 : decode cX7_countsGood 61 = .ok (.bipush 8, 2) := by decide +kernel
theorem dX7_countsGood_63 : decode cX7_countsGood 63 = .ok (.dup2, 1) := by decide +kernel
theorem dX7_countsGood_64 : decode cX7_countsGood 64 = .ok (.iaload, 1) := by decide +kernel
theorem dX7_countsGood_65 : decode cX7_countsGood 65 = .ok (.iconst 1, 1) := by decide +kernel
theorem dX7_countsGood_66 : decode cX7_countsGood 66 = .ok (.isub, 1) := by decide +kernel
theorem dX7_countsGood_67 : decode cX7_countsGood 67 = .ok (.iastore, 1) := by decide +kernel
theorem dX7_countsGood_68 : decode cX7_countsGood 68 = .ok (.aload_n 0, 1) := by decide +kernel
theorem dX7_countsGood_69 : decode cX7_countsGood 69 = .ok (.getfield 20, 3) := by decide +kernel
theorem dX7_countsGood_72 : decode cX7_countsGood 72 = .ok (.bipush 9, 2) := by decide +kernel
theorem dX7_countsGood_74 : decode cX7_countsGood 74 = .ok (.aload_n 0, 1) := by decide +kernel
theorem dX7_countsGood_75 : decode cX7_countsGood 75 = .ok (.getfield 20, 3) := by decide +kernel
theorem dX7_countsGood_78 : decode cX7_countsGood 78 = .ok (.bipush 8, 2) := by decide +kernel
theorem dX7_countsGood_80 : decode cX7_countsGood 80 = .ok (.iaload, 1) := by decide +kernel
theorem dX7_countsGood_81 : decode cX7_countsGood 81 = .ok (.iadd, 1) := by decide +kernel
theorem dX7_countsGood_82 : decode cX7_countsGood 82 = .ok (.iload_n 1, 1) := by decide +kernel
theorem dX7_countsGood_83 : decode cX7_countsGood 83 = .ok (.iastore, 1) := by decide +kernel
theorem dX7_countsGood_84 : decode cX7_countsGood 84 = .ok (.aload_n 0, 1) := by decide +kernel
theorem dX7_countsGood_85 : decode cX7_countsGood 85 = .ok (.getfield 20, 3) := by decide +kernel
theorem dX7_countsGood_88 : decode cX7_countsGood 88 = .ok (.bipush 8, 2) := by decide +kernel
theorem dX7_countsGood_90 : decode cX7_countsGood 90 = .ok (.dup2, 1) := by decide +kernel
theorem dX7_countsGood_91 : decode cX7_countsGood 91 = .ok (.iaload, 1) := by decide +kernel
theorem dX7_countsGood_92 : decode cX7_countsGood 92 = .ok (.iconst 1, 1) := by decide +kernel
theorem dX7_countsGood_93 : decode cX7_countsGood 93 = .ok (.iadd, 1) := by decide +kernel
theorem dX7_countsGood_94 : decode cX7_countsGood 94 = .ok (.iastore, 1) := by decide +kernel
theorem dX7_countsGood_95 : decode cX7_countsGood 95 = .ok (.return_, 1) := by decide +kernel
theorem dX7_pickMany_0 : decode cX7_pickMany 0 = .ok (.iconst 1, 1) := by decide +kernel
theorem dX7_pickMany_1 : decode cX7_pickMany 1 = .ok (.istore_n 1, 1) := by decide +kernel
theorem dX7_pickMany_2 : decode cX7_pickMany 2 = .ok (.iload_n 1, 1) := by decide +kernel
theorem dX7_pickMany_3 : decode cX7_pickMany 3 = .ok (.aload_n 0, 1) := by decide +kernel
theorem dX7_pickMany_4 : decode cX7_pickMany 4 = .ok (.getfield 20, 3) := by decide +kernel
theorem dX7_pickMany_7 : decode cX7_pickMany 7 = .ok (.bipush 6, 2) := by decide +kernel
theorem dX7_pickMany_9 : decode cX7_pickMany 9 = .ok (.iaload, 1) := by decide +kernel
theorem dX7_pickMany_10 : decode cX7_pickMany 10 = .ok (.if_icmp .ge 30, 3) := by decide +kernel
theorem dX7_pickMany_13 : decode cX7_pickMany 13 = .ok (.aload_n 0, 1) := by decide +kernel
theorem dX7_pickMany_14 : decode cX7_pickMany 14 = .ok (.getfield 20, 3) := by decide +kernel
theorem dX7_pickMany_17 : decode cX7_pickMany 17 = .ok (.aload_n 0, 1) := by decide +kernel
theorem dX7_pickMany_18 : decode cX7_pickMany 18 = .ok (.iload_n 1, 1) := by decide +kernel
theorem dX7_pickMany_19 : decode cX7_pickMany 19 = .ok (.iconst 1, 1) := by decide +kernel
theorem dX7_pickMany_20 : decode cX7_pickMany 20 = .ok (.isub, 1) := by decide +kernel
theorem dX7_pickMany_21 : decode cX7_pickMany 21 = .ok (.invokevirtual 180, 3) := by decide +kernel
theorem dX7_pickMany_24 : decode cX7_pickMany 24 = .ok (.invokestatic 167, 3) := by decide +kernel
theorem dX7_pickMany_27 : decode cX7_pickMany 27 = .ok (.iconst 2, 1) := by decide +kernel
theorem dX7_pickMany_28 : decode cX7_pickMany 28 = .ok (.iadd, 1) := by decide +kernel
theorem dX7_pickMany_29 : decode cX7_pickMany 29 = .ok (.iaload, 1) := by decide +kernel
theorem dX7_pickMany_30 : decode cX7_pickMany 30 = .ok (.iconst (-1), 1) := by decide +kernel
theorem dX7_pickMany_31 : decode cX7_pickMany 31 = .ok (.if_icmp .eq 9, 3) := by decide +kernel
theorem dX7_pickMany_34 : decode cX7_pickMany 34 = .ok (.iinc 1 1, 3) := by decide +kernel
theorem dX7_pickMany_37 : decode cX7_pickMany 37 = .ok (.goto (-35), 3) := by decide +kernel
theorem dX7_pickMany_40 : decode cX7_pickMany 40 = .ok (.iload_n 1, 1) := by decide +kernel
theorem dX7_pickMany_41 : decode cX7_pickMany 41 = .ok (.ireturn, 1) := by decide +kernel
theorem dX7_pickThickness_0 : decode cX7_pickThickness 0 = .ok (.iconst 0, 1) := by decide +kernel
theorem dX7_pickThickness_1 : decode cX7_pickThickness 1 = .ok (.istore_n 2, 1) := by decide +kernel
theorem dX7_pickThickness_2 : decode cX7_pickThickness 2 = .ok (.iconst 0, 1) := by decide +kernel
theorem dX7_pickThickness_3 : decode cX7_pickThickness 3 = .ok (.istore_n 3, 1) := by decide +kernel
theorem dX7_pickThickness_4 : decode cX7_pickThickness 4 = .ok (.iload_n 3, 1) := by decide +kernel
theorem dX7_pickThickness_5 : decode cX7_pickThickness 5 = .ok (.iload_n 1, 1) := by decide +kernel
theorem dX7_pickThickness_6 : decode cX7_pickThickness 6 = .ok (.if_icmp .ge 22, 3) := by decide +kernel
theorem dX7_pickThickness_9 : decode cX7_pickThickness 9 = .ok (.iload_n 2, 1) := by decide +kernel
theorem dX7_pickThickness_10 : decode cX7_pickThickness 10 = .ok (.aload_n 0, 1) := by decide +kernel
theorem dX7_pickThickness_11 : decode cX7_pickThickness 11 = .ok (.aload_n 0, 1) := by decide +kernel
theorem dX7_pickThickness_12 : decode cX7_pickThickness 12 = .ok (.iload_n 3, 1) := by decide +kernel
theorem dX7_pickThickness_13 : decode cX7_pickThickness 13 = .ok (.invokevirtual 180, 3) := by decide +kernel
theorem dX7_pickThickness_16 : decode cX7_pickThickness 16 = .ok (.iconst 1, 1) := by decide +kernel
theorem dX7_pickThickness_17 : decode cX7_pickThickness 17 = .ok (.invokevirtual 170, 3) := by decide +kernel
theorem dX7_pickThickness_20 : decode cX7_pickThickness 20 = .ok (.iadd, 1) := by decide +kernel
theorem dX7_pickThickness_21 : decode cX7_pickThickness 21 = .ok (.istore_n 2, 1) := by decide +kernel
theorem dX7_pickThickness_22 : decode cX7_pickThickness 22 = .ok (.iinc 3 1, 3) := by decide +kernel
theorem dX7_pickThickness_25 : decode cX7_pickThickness 25 = .ok (.goto (-21), 3) := by decide +kernel
theorem dX7_pickThickness_28 : decode cX7_pickThickness 28 = .ok (.iload_n 2, 1) := by decide +kernel
theorem dX7_pickThickness_29 : decode cX7_pickThickness 29 = .ok (.ireturn, 1) := by decide +kernel
theorem dX7_pickLength_0 : decode cX7_pickLength 0 = .ok (.iconst 0, 1) := by decide +kernel
theorem dX7_pickLength_1 : decode cX7_pickLength 1 = .ok (.istore_n 2, 1) := by decide +kernel
theorem dX7_pickLength_2 : decode cX7_pickLength 2 = .ok (.iconst 0, 1) := by decide +kernel
theorem dX7_pickLength_3 : decode cX7_pickLength 3 = .ok (.istore_n 3, 1) := by decide +kernel
theorem dX7_pickLength_4 : decode cX7_pickLength 4 = .ok (.iconst 0, 1) := by decide +kernel
theorem dX7_pickLength_5 : decode cX7_pickLength 5 = .ok (.istore 4, 2) := by decide +kernel
theorem dX7_pickLength_7 : decode cX7_pickLength 7 = .ok (.iload 4, 2) := by decide +kernel
theorem dX7_pickLength_9 : decode cX7_pickLength 9 = .ok (.iload_n 1, 1) := by decide +kernel
theorem dX7_pickLength_10 : decode cX7_pickLength 10 = .ok (.if_icmp .ge 56, 3) := by decide +kernel
theorem dX7_pickLength_13 : decode cX7_pickLength 13 = .ok (.iload_n 2, 1) := by decide +kernel
theorem dX7_pickLength_14 : decode cX7_pickLength 14 = .ok (.aload_n 0, 1) := by decide +kernel
theorem dX7_pickLength_15 : decode cX7_pickLength 15 = .ok (.aload_n 0, 1) := by decide +kernel
theorem dX7_pickLength_16 : decode cX7_pickLength 16 = .ok (.iload 4, 2) := by decide +kernel
theorem dX7_pickLength_18 : decode cX7_pickLength 18 = .ok (.invokevirtual 180, 3) := by decide +kernel
theorem dX7_pickLength_21 : decode cX7_pickLength 21 = .ok (.iconst 0, 1) := by decide +kernel
theorem dX7_pickLength_22 : decode cX7_pickLength 22 = .ok (.invokevirtual 170, 3) := by decide +kernel
theorem dX7_pickLength_25 : decode cX7_pickLength 25 = .ok (.iadd, 1) := by decide +kernel
theorem dX7_pickLength_26 : decode cX7_pickLength 26 = .ok (.istore 5, 2) := by decide +kernel
theorem dX7_pickLength_28 : decode cX7_pickLength 28 = .ok (.iload 5, 2) := by decide +kernel
theorem dX7_pickLength_30 : decode cX7_pickLength 30 = .ok (.iload_n 3, 1) := by decide +kernel
theorem dX7_pickLength_31 : decode cX7_pickLength 31 = .ok (.if_icmp .le 8, 3) := by decide +kernel
theorem dX7_pickLength_34 : decode cX7_pickLength 34 = .ok (.iload 5, 2) := by decide +kernel
theorem dX7_pickLength_36 : decode cX7_pickLength 36 = .ok (.goto 4, 3) := by decide +kernel
theorem dX7_pickLength_39 : decode cX7_pickLength 39 = .ok (.iload_n 3, 1) := by decide +kernel
theorem dX7_pickLength_40 : decode cX7_pickLength 40 = .ok (.istore_n 3, 1) := by decide +kernel
theorem dX7_pickLength_41 : decode cX7_pickLength 41 = .ok (.iload_n 2, 1) := by decide +kernel
theorem dX7_pickLength_42 : decode cX7_pickLength 42 = .ok (.aload_n 0, 1) := by decide +kernel
theorem dX7_pickLength_43 : decode cX7_pickLength 43 = .ok (.getfield 20, 3) := by decide +kernel
theorem dX7_pickLength_46 : decode cX7_pickLength 46 = .ok (.aload_n 0, 1) := by decide +kernel
theorem dX7_pickLength_47 : decode cX7_pickLength 47 = .ok (.iload 4, 2) := by decide +kernel
theorem dX7_pickLength_49 : decode cX7_pickLength 49 = .ok (.invokevirtual 180, 3) := by decide +kernel
theorem dX7_pickLength_52 : decode cX7_pickLength 52 = .ok (.invokestatic 167, 3) := by decide +kernel
theorem dX7_pickLength_55 : decode cX7_pickLength 55 = .ok (.iconst 2, 1) := by decide +kernel
theorem dX7_pickLength_56 : decode cX7_pickLength 56 = .ok (.iadd, 1) := by decide +kernel
theorem dX7_pickLength_57 : decode cX7_pickLength 57 = .ok (.iaload, 1) := by decide +kernel
theorem dX7_pickLength_58 : decode cX7_pickLength 58 = .ok (.iadd, 1) := by decide +kernel
theorem dX7_pickLength_59 : decode cX7_pickLength 59 = .ok (.istore_n 2, 1) := by decide +kernel
theorem dX7_pickLength_60 : decode cX7_pickLength 60 = .ok (.iinc 4 1, 3) := by decide +kernel
theorem dX7_pickLength_63 : decode cX7_pickLength 63 = .ok (.goto (-56), 3) := by decide +kernel
theorem dX7_pickLength_66 : decode cX7_pickLength 66 = .ok (.iload_n 3, 1) := by decide +kernel
theorem dX7_pickLength_67 : decode cX7_pickLength 67 = .ok (.ireturn, 1) := by decide +kernel
theorem dX7_reasonFor_0 : decode cX7_reasonFor 0 = .ok (.aload_n 0, 1) := by decide +kernel
theorem dX7_reasonFor_1 : decode cX7_reasonFor 1 = .ok (.iload_n 1, 1) := by decide +kernel
theorem dX7_reasonFor_2 : decode cX7_reasonFor 2 = .ok (.invokevirtual 183, 3) := by decide +kernel
theorem dX7_reasonFor_5 : decode cX7_reasonFor 5 = .ok (.bipush 100, 2) := by decide +kernel
theorem dX7_reasonFor_7 : decode cX7_reasonFor 7 = .ok (.imul, 1) := by decide +kernel
theorem dX7_reasonFor_8 : decode cX7_reasonFor 8 = .ok (.aload_n 0, 1) := by decide +kernel
theorem dX7_reasonFor_9 : decode cX7_reasonFor 9 = .ok (.getfield 20, 3) := by decide +kernel
theorem dX7_reasonFor_12 : decode cX7_reasonFor 12 = .ok (.iconst 1, 1) := by decide +kernel
theorem dX7_reasonFor_13 : decode cX7_reasonFor 13 = .ok (.iaload, 1) := by decide +kernel
theorem dX7_reasonFor_14 : decode cX7_reasonFor 14 = .ok (.aload_n 0, 1) := by decide +kernel
theorem dX7_reasonFor_15 : decode cX7_reasonFor 15 = .ok (.invokevirtual 186, 3) := by decide +kernel
theorem dX7_reasonFor_18 : decode cX7_reasonFor 18 = .ok (.imul, 1) := by decide +kernel
theorem dX7_reasonFor_19 : decode cX7_reasonFor 19 = .ok (.if_icmp .le 5, 3) := by decide +kernel
theorem dX7_reasonFor_22 : decode cX7_reasonFor 22 = .ok (.iconst 1, 1) := by decide +kernel
theorem dX7_reasonFor_23 : decode cX7_reasonFor 23 = .ok (.ireturn, 1) := by decide +kernel
theorem dX7_reasonFor_24 : decode cX7_reasonFor 24 = .ok (.aload_n 0, 1) := by decide +kernel
theorem dX7_reasonFor_25 : decode cX7_reasonFor 25 = .ok (.iload_n 1, 1) := by decide +kernel
theorem dX7_reasonFor_26 : decode cX7_reasonFor 26 = .ok (.invokevirtual 189, 3) := by decide +kernel
theorem dX7_reasonFor_29 : decode cX7_reasonFor 29 = .ok (.aload_n 0, 1) := by decide +kernel
theorem dX7_reasonFor_30 : decode cX7_reasonFor 30 = .ok (.getfield 17, 3) := by decide +kernel
theorem dX7_reasonFor_33 : decode cX7_reasonFor 33 = .ok (.iconst 0, 1) := by decide +kernel
theorem dX7_reasonFor_34 : decode cX7_reasonFor 34 = .ok (.iaload, 1) := by decide +kernel
theorem dX7_reasonFor_35 : decode cX7_reasonFor 35 = .ok (.isub, 1) := by decide +kernel
theorem dX7_reasonFor_36 : decode cX7_reasonFor 36 = .ok (.istore_n 2, 1) := by decide +kernel
theorem dX7_reasonFor_37 : decode cX7_reasonFor 37 = .ok (.iload_n 2, 1) := by decide +kernel
theorem dX7_reasonFor_38 : decode cX7_reasonFor 38 = .ok (.aload_n 0, 1) := by decide +kernel
theorem dX7_reasonFor_39 : decode cX7_reasonFor 39 = .ok (.getfield 20, 3) := by decide +kernel
theorem dX7_reasonFor_42 : decode cX7_reasonFor 42 = .ok (.iconst 2, 1) := by decide +kernel
theorem dX7_reasonFor_43 : decode cX7_reasonFor 43 = .ok (.iaload, 1) := by decide +kernel
theorem dX7_reasonFor_44 : decode cX7_reasonFor 44 = .ok (.if_icmp .gt 14, 3) := by decide +kernel
theorem dX7_reasonFor_47 : decode cX7_reasonFor 47 = .ok (.iload_n 2, 1) := by decide +kernel
theorem dX7_reasonFor_48 : decode cX7_reasonFor 48 = .ok (.ineg, 1) := by decide +kernel
theorem dX7_reasonFor_49 : decode cX7_reasonFor 49 = .ok (.aload_n 0, 1) := by decide +kernel
theorem dX7_reasonFor_50 : decode cX7_reasonFor 50 = .ok (.getfield 20, 3) := by decide +kernel
theorem dX7_reasonFor_53 : decode cX7_reasonFor 53 = .ok (.iconst 2, 1) := by decide +kernel
theorem dX7_reasonFor_54 : decode cX7_reasonFor 54 = .ok (.iaload, 1) := by decide +kernel
theorem dX7_reasonFor_55 : decode cX7_reasonFor 55 = .ok (.if_icmp .le 5, 3) := by decide +kernel
theorem dX7_reasonFor_58 : decode cX7_reasonFor 58 = .ok (.iconst 2, 1) := by decide +kernel
theorem dX7_reasonFor_59 : decode cX7_reasonFor 59 = .ok (.ireturn, 1) := by decide +kernel
theorem dX7_reasonFor_60 : decode cX7_reasonFor 60 = .ok (.aload_n 0, 1) := by decide +kernel
theorem dX7_reasonFor_61 : decode cX7_reasonFor 61 = .ok (.getfield 20, 3) := by decide +kernel
theorem dX7_reasonFor_64 : decode cX7_reasonFor 64 = .ok (.aload_n 0, 1) := by decide +kernel
theorem dX7_reasonFor_65 : decode cX7_reasonFor 65 = .ok (.iconst 0, 1) := by decide +kernel
theorem dX7_reasonFor_66 : decode cX7_reasonFor 66 = .ok (.invokevirtual 180, 3) := by decide +kernel
theorem dX7_reasonFor_69 : decode cX7_reasonFor 69 = .ok (.invokestatic 167, 3) := by decide +kernel
theorem dX7_reasonFor_72 : decode cX7_reasonFor 72 = .ok (.iconst 1, 1) := by decide +kernel
theorem dX7_reasonFor_73 : decode cX7_reasonFor 73 = .ok (.iadd, 1) := by decide +kernel
theorem dX7_reasonFor_74 : decode cX7_reasonFor 74 = .ok (.iaload, 1) := by decide +kernel
theorem dX7_reasonFor_75 : decode cX7_reasonFor 75 = .ok (.istore_n 3, 1) := by decide +kernel
theorem dX7_reasonFor_76 : decode cX7_reasonFor 76 = .ok (.iload_n 3, 1) := by decide +kernel
theorem dX7_reasonFor_77 : decode cX7_reasonFor 77 = .ok (.ifCond .ge 8, 3) := by decide +kernel
theorem dX7_reasonFor_80 : decode cX7_reasonFor 80 = .ok (.iload_n 3, 1) := by decide +kernel
theorem dX7_reasonFor_81 : decode cX7_reasonFor 81 = .ok (.ineg, 1) := by decide +kernel
theorem dX7_reasonFor_82 : decode cX7_reasonFor 82 = .ok (.goto 4, 3) := by decide +kernel
theorem dX7_reasonFor_85 : decode cX7_reasonFor 85 = .ok (.iload_n 3, 1) := by decide +kernel
theorem dX7_reasonFor_86 : decode cX7_reasonFor 86 = .ok (.aload_n 0, 1) := by decide +kernel
theorem dX7_reasonFor_87 : decode cX7_reasonFor 87 = .ok (.getfield 20, 3) := by decide +kernel
theorem dX7_reasonFor_90 : decode cX7_reasonFor 90 = .ok (.iconst 3, 1) := by decide +kernel
theorem dX7_reasonFor_91 : decode cX7_reasonFor 91 = .ok (.iaload, 1) := by decide +kernel
theorem dX7_reasonFor_92 : decode cX7_reasonFor 92 = .ok (.if_icmp .le 7, 3) := by decide +kernel
theorem dX7_reasonFor_95 : decode cX7_reasonFor 95 = .ok (.iconst 3, 1) := by decide +kernel
theorem dX7_reasonFor_96 : decode cX7_reasonFor 96 = .ok (.goto 4, 3) := by decide +kernel
theorem dX7_reasonFor_99 : decode cX7_reasonFor 99 = .ok (.iconst 0, 1) := by decide +kernel
theorem dX7_reasonFor_100 : decode cX7_reasonFor 100 = .ok (.ireturn, 1) := by decide +kernel
theorem dX7_isBlank_0 : decode cX7_isBlank 0 = .ok (.aload_n 0, 1) := by decide +kernel
theorem dX7_isBlank_1 : decode cX7_isBlank 1 = .ok (.iload_n 1, 1) := by decide +kernel
theorem dX7_isBlank_2 : decode cX7_isBlank 2 = .ok (.iconst 3, 1) := by decide +kernel
theorem dX7_isBlank_3 : decode cX7_isBlank 3 = .ok (.iload_n 2, 1) := by decide +kernel
theorem dX7_isBlank_4 : decode cX7_isBlank 4 = .ok (.iadd, 1) := by decide +kernel
theorem dX7_isBlank_5 : decode cX7_isBlank 5 = .ok (.invokevirtual 170, 3) := by decide +kernel
theorem dX7_isBlank_8 : decode cX7_isBlank 8 = .ok (.aload_n 0, 1) := by decide +kernel
theorem dX7_isBlank_9 : decode cX7_isBlank 9 = .ok (.getfield 20, 3) := by decide +kernel
theorem dX7_isBlank_12 : decode cX7_isBlank 12 = .ok (.iconst 4, 1) := by decide +kernel
theorem dX7_isBlank_13 : decode cX7_isBlank 13 = .ok (.iaload, 1) := by decide +kernel
theorem dX7_isBlank_14 : decode cX7_isBlank 14 = .ok (.if_icmp .ge 7, 3) := by decide +kernel
theorem dX7_isBlank_17 : decode cX7_isBlank 17 = .ok (.iconst 1, 1) := by decide +kernel
theorem dX7_isBlank_18 : decode cX7_isBlank 18 = .ok (.goto 4, 3) := by decide +kernel
theorem dX7_isBlank_21 : decode cX7_isBlank 21 = .ok (.iconst 0, 1) := by decide +kernel
theorem dX7_isBlank_22 : decode cX7_isBlank 22 = .ok (.ireturn, 1) := by decide +kernel
theorem dX7_sides_0 : decode cX7_sides 0 = .ok (.aload_n 0, 1) := by decide +kernel
theorem dX7_sides_1 : decode cX7_sides 1 = .ok (.getfield 20, 3) := by decide +kernel
theorem dX7_sides_4 : decode cX7_sides 4 = .ok (.iconst 0, 1) := by decide +kernel
theorem dX7_sides_5 : decode cX7_sides 5 = .ok (.iaload, 1) := by decide +kernel
theorem dX7_sides_6 : decode cX7_sides 6 = .ok (.iconst 1, 1) := by decide +kernel
theorem dX7_sides_7 : decode cX7_sides 7 = .ok (.iadd, 1) := by decide +kernel
theorem dX7_sides_8 : decode cX7_sides 8 = .ok (.ireturn, 1) := by decide +kernel
theorem dX7_pagesOf_0 : decode cX7_pagesOf 0 = .ok (.iconst 0, 1) := by decide +kernel
theorem dX7_pagesOf_1 : decode cX7_pagesOf 1 = .ok (.istore_n 2, 1) := by decide +kernel
theorem dX7_pagesOf_2 : decode cX7_pagesOf 2 = .ok (.iconst 0, 1) := by decide +kernel
theorem dX7_pagesOf_3 : decode cX7_pagesOf 3 = .ok (.istore_n 3, 1) := by decide +kernel
theorem dX7_pagesOf_4 : decode cX7_pagesOf 4 = .ok (.iload_n 3, 1) := by decide +kernel
theorem dX7_pagesOf_5 : decode cX7_pagesOf 5 = .ok (.aload_n 0, 1) := by decide +kernel
theorem dX7_pagesOf_6 : decode cX7_pagesOf 6 = .ok (.invokevirtual 192, 3) := by decide +kernel
theorem dX7_pagesOf_9 : decode cX7_pagesOf 9 = .ok (.if_icmp .ge 34, 3) := by decide +kernel
theorem dX7_pagesOf_12 : decode cX7_pagesOf 12 = .ok (.aload_n 0, 1) := by decide +kernel
theorem dX7_pagesOf_13 : decode cX7_pagesOf 13 = .ok (.iload_n 1, 1) := by decide +kernel
theorem dX7_pagesOf_14 : decode cX7_pagesOf 14 = .ok (.invokevirtual 195, 3) := by decide +kernel
theorem dX7_pagesOf_17 : decode cX7_pagesOf 17 = .ok (.ifCond .ne 26, 3) := by decide +kernel
theorem dX7_pagesOf_20 : decode cX7_pagesOf 20 = .ok (.iload_n 2, 1) := by decide +kernel
theorem dX7_pagesOf_21 : decode cX7_pagesOf 21 = .ok (.aload_n 0, 1) := by decide +kernel
theorem dX7_pagesOf_22 : decode cX7_pagesOf 22 = .ok (.iload_n 1, 1) := by decide +kernel
theorem dX7_pagesOf_23 : decode cX7_pagesOf 23 = .ok (.iload_n 3, 1) := by decide +kernel
theorem dX7_pagesOf_24 : decode cX7_pagesOf 24 = .ok (.invokevirtual 199, 3) := by decide +kernel
theorem dX7_pagesOf_27 : decode cX7_pagesOf 27 = .ok (.ifCond .eq 7, 3) := by decide +kernel
theorem dX7_pagesOf_30 : decode cX7_pagesOf 30 = .ok (.iconst 0, 1) := by decide +kernel
theorem dX7_pagesOf_31 : decode cX7_pagesOf 31 = .ok (.goto 4, 3) := by decide +kernel
theorem dX7_pagesOf_34 : decode cX7_pagesOf 34 = .ok (.iconst 1, 1) := by decide +kernel
theorem dX7_pagesOf_35 : decode cX7_pagesOf 35 = .ok (.iadd, 1) := by decide +kernel
theorem dX7_pagesOf_36 : decode cX7_pagesOf 36 = .ok (.istore_n 2, 1) := by decide +kernel
theorem dX7_pagesOf_37 : decode cX7_pagesOf 37 = .ok (.iinc 3 1, 3) := by decide +kernel
theorem dX7_pagesOf_40 : decode cX7_pagesOf 40 = .ok (.goto (-36), 3) := by decide +kernel
theorem dX7_pagesOf_43 : decode cX7_pagesOf 43 = .ok (.iload_n 2, 1) := by decide +kernel
theorem dX7_pagesOf_44 : decode cX7_pagesOf 44 = .ok (.ireturn, 1) := by decide +kernel
theorem dX7_addPage_0 : decode cX7_addPage 0 = .ok (.sipush 266, 3) := by decide +kernel
theorem dX7_addPage_3 : decode cX7_addPage 3 = .ok (.iconst 2, 1) := by decide +kernel
theorem dX7_addPage_4 : decode cX7_addPage 4 = .ok (.aload_n 0, 1) := by decide +kernel
theorem dX7_addPage_5 : decode cX7_addPage 5 = .ok (.getfield 20, 3) := by decide +kernel
theorem dX7_addPage_8 : decode cX7_addPage 8 = .ok (.bipush 15, 2) := by decide +kernel
theorem dX7_addPage_10 : decode cX7_addPage 10 = .ok (.iaload, 1) := by decide +kernel
theorem dX7_addPage_11 : decode cX7_addPage 11 = .ok (.imul, 1) := by decide +kernel
theorem dX7_addPage_12 : decode cX7_addPage 12 = .ok (.iadd, 1) := by decide +kernel
theorem dX7_addPage_13 : decode cX7_addPage 13 = .ok (.istore_n 3, 1) := by decide +kernel
theorem dX7_addPage_14 : decode cX7_addPage 14 = .ok (.aload_n 0, 1) := by decide +kernel
theorem dX7_addPage_15 : decode cX7_addPage 15 = .ok (.getfield 20, 3) := by decide +kernel
theorem dX7_addPage_18 : decode cX7_addPage 18 = .ok (.iload_n 3, 1) := by decide +kernel
theorem dX7_addPage_19 : decode cX7_addPage 19 = .ok (.iconst 2, 1) := by decide +kernel
theorem dX7_addPage_20 : decode cX7_addPage 20 = .ok (.iload_n 1, 1) := by decide +kernel
theorem dX7_addPage_21 : decode cX7_addPage 21 = .ok (.imul, 1) := by decide +kernel
theorem dX7_addPage_22 : decode cX7_addPage 22 = .ok (.iload_n 2, 1) := by decide +kernel
theorem dX7_addPage_23 : decode cX7_addPage 23 = .ok (.iadd, 1) := by decide +kernel
theorem dX7_addPage_24 : decode cX7_addPage 24 = .ok (.iastore, 1) := by decide +kernel
theorem dX7_addPage_25 : decode cX7_addPage 25 = .ok (.aload_n 0, 1) := by decide +kernel
theorem dX7_addPage_26 : decode cX7_addPage 26 = .ok (.getfield 20, 3) := by decide +kernel
theorem dX7_addPage_29 : decode cX7_addPage 29 = .ok (.iload_n 3, 1) := by decide +kernel
theorem dX7_addPage_30 : decode cX7_addPage 30 = .ok (.iconst 1, 1) := by decide +kernel
theorem dX7_addPage_31 : decode cX7_addPage 31 = .ok (.iadd, 1) := by decide +kernel
theorem dX7_addPage_32 : decode cX7_addPage 32 = .ok (.aload_n 0, 1) := by decide +kernel
theorem dX7_addPage_33 : decode cX7_addPage 33 = .ok (.getfield 20, 3) := by decide +kernel
theorem dX7_addPage_36 : decode cX7_addPage 36 = .ok (.bipush 16, 2) := by decide +kernel
theorem dX7_addPage_38 : decode cX7_addPage 38 = .ok (.iaload, 1) := by decide +kernel
theorem dX7_addPage_39 : decode cX7_addPage 39 = .ok (.iconst 1, 1) := by decide +kernel
theorem dX7_addPage_40 : decode cX7_addPage 40 = .ok (.isub, 1) := by decide +kernel
theorem dX7_addPage_41 : decode cX7_addPage 41 = .ok (.iastore, 1) := by decide +kernel
theorem dX7_addPage_42 : decode cX7_addPage 42 = .ok (.aload_n 0, 1) := by decide +kernel
theorem dX7_addPage_43 : decode cX7_addPage 43 = .ok (.getfield 20, 3) := by decide +kernel
theorem dX7_addPage_46 : decode cX7_addPage 46 = .ok (.bipush 15, 2) := by decide +kernel
theorem dX7_addPage_48 : decode cX7_addPage 48 = .ok (.dup2, 1) := by decide +kernel
theorem dX7_addPage_49 : decode cX7_addPage 49 = .ok (.iaload, 1) := by decide +kernel
theorem dX7_addPage_50 : decode cX7_addPage 50 = .ok (.iconst 1, 1) := by decide +kernel
theorem dX7_addPage_51 : decode cX7_addPage 51 = .ok (.iadd, 1) := by decide +kernel
theorem dX7_addPage_52 : decode cX7_addPage 52 = .ok (.iastore, 1) := by decide +kernel
theorem dX7_addPage_53 : decode cX7_addPage 53 = .ok (.return_, 1) := by decide +kernel
theorem dX7_beginJob_0 : decode cX7_beginJob 0 = .ok (.aload_n 0, 1) := by decide +kernel
theorem dX7_beginJob_1 : decode cX7_beginJob 1 = .ok (.getfield 20, 3) := by decide +kernel
theorem dX7_beginJob_4 : decode cX7_beginJob 4 = .ok (.sipush 426, 3) := by decide +kernel
theorem dX7_beginJob_7 : decode cX7_beginJob 7 = .ok (.iconst 2, 1) := by decide +kernel
theorem dX7_beginJob_8 : decode cX7_beginJob 8 = .ok (.aload_n 0, 1) := by decide +kernel
theorem dX7_beginJob_9 : decode cX7_beginJob 9 = .ok (.getfield 20, 3) := by decide +kernel
theorem dX7_beginJob_12 : decode cX7_beginJob 12 = .ok (.bipush 16, 2) := by decide +kernel
theorem dX7_beginJob_14 : decode cX7_beginJob 14 = .ok (.iaload, 1) := by decide +kernel
theorem dX7_beginJob_15 : decode cX7_beginJob 15 = .ok (.imul, 1) := by decide +kernel
theorem dX7_beginJob_16 : decode cX7_beginJob 16 = .ok (.iadd, 1) := by decide +kernel
theorem dX7_beginJob_17 : decode cX7_beginJob 17 = .ok (.iload_n 1, 1) := by decide +kernel
theorem dX7_beginJob_18 : decode cX7_beginJob 18 = .ok (.iastore, 1) := by decide +kernel
theorem dX7_beginJob_19 : decode cX7_beginJob 19 = .ok (.aload_n 0, 1) := by decide +kernel
theorem dX7_beginJob_20 : decode cX7_beginJob 20 = .ok (.getfield 20, 3) := by decide +kernel
theorem dX7_beginJob_23 : decode cX7_beginJob 23 = .ok (.sipush 426, 3) := by decide +kernel
theorem dX7_beginJob_26 : decode cX7_beginJob 26 = .ok (.iconst 2, 1) := by decide +kernel
theorem dX7_beginJob_27 : decode cX7_beginJob 27 = .ok (.aload_n 0, 1) := by decide +kernel
theorem dX7_beginJob_28 : decode cX7_beginJob 28 = .ok (.getfield 20, 3) := by decide +kernel
theorem dX7_beginJob_31 : decode cX7_beginJob 31 = .ok (.bipush 16, 2) := by decide +kernel
theorem dX7_beginJob_33 : decode cX7_beginJob 33 = .ok (.iaload, 1) := by decide +kernel
theorem dX7_beginJob_34 : decode cX7_beginJob 34 = .ok (.imul, 1) := by decide +kernel
theorem dX7_beginJob_35 : decode cX7_beginJob 35 = .ok (.iadd, 1) := by decide +kernel
theorem dX7_beginJob_36 : decode cX7_beginJob 36 = .ok (.iconst 1, 1) := by decide +kernel
theorem dX7_beginJob_37 : decode cX7_beginJob 37 = .ok (.iadd, 1) := by decide +kernel
theorem dX7_beginJob_38 : decode cX7_beginJob 38 = .ok (.iconst 0, 1) := by decide +kernel
theorem dX7_beginJob_39 : decode cX7_beginJob 39 = .ok (.iastore, 1) := by decide +kernel
theorem dX7_beginJob_40 : decode cX7_beginJob 40 = .ok (.aload_n 0, 1) := by decide +kernel
theorem dX7_beginJob_41 : decode cX7_beginJob 41 = .ok (.getfield 20, 3) := by decide +kernel
theorem dX7_beginJob_44 : decode cX7_beginJob 44 = .ok (.bipush 16, 2) := by decide +kernel
theorem dX7_beginJob_46 : decode cX7_beginJob 46 = .ok (.dup2, 1) := by decide +kernel
theorem dX7_beginJob_47 : decode cX7_beginJob 47 = .ok (.iaload, 1) := by decide +kernel
theorem dX7_beginJob_48 : decode cX7_beginJob 48 = .ok (.iconst 1, 1) := by decide +kernel
theorem dX7_beginJob_49 : decode cX7_beginJob 49 = .ok (.iadd, 1) := by decide +kernel
theorem dX7_beginJob_50 : decode cX7_beginJob 50 = .ok (.iastore, 1) := by decide +kernel
theorem dX7_beginJob_51 : decode cX7_beginJob 51 = .ok (.return_, 1) := by decide +kernel
theorem dX7_goesThrough_0 : decode cX7_goesThrough 0 = .ok (.aload_n 0, 1) := by decide +kernel
theorem dX7_goesThrough_1 : decode cX7_goesThrough 1 = .ok (.getfield 20, 3) := by decide +kernel
theorem dX7_goesThrough_4 : decode cX7_goesThrough 4 = .ok (.sipush 226, 3) := by decide +kernel
theorem dX7_goesThrough_7 : decode cX7_goesThrough 7 = .ok (.iaload, 1) := by decide +kernel
theorem dX7_goesThrough_8 : decode cX7_goesThrough 8 = .ok (.istore_n 1, 1) := by decide +kernel
theorem dX7_goesThrough_9 : decode cX7_goesThrough 9 = .ok (.iconst 1, 1) := by decide +kernel
theorem dX7_goesThrough_10 : decode cX7_goesThrough 10 = .ok (.istore_n 2, 1) := by decide +kernel
theorem dX7_goesThrough_11 : decode cX7_goesThrough 11 = .ok (.iload_n 2, 1) := by decide +kernel
theorem dX7_goesThrough_12 : decode cX7_goesThrough 12 = .ok (.aload_n 0, 1) := by decide +kernel
theorem dX7_goesThrough_13 : decode cX7_goesThrough 13 = .ok (.getfield 20, 3) := by decide +kernel
theorem dX7_goesThrough_16 : decode cX7_goesThrough 16 = .ok (.bipush 7, 2) := by decide +kernel
theorem dX7_goesThrough_18 : decode cX7_goesThrough 18 = .ok (.iaload, 1) := by decide +kernel
theorem dX7_goesThrough_19 : decode cX7_goesThrough 19 = .ok (.if_icmp .ge 30, 3) := by decide +kernel
theorem dX7_goesThrough_22 : decode cX7_goesThrough 22 = .ok (.aload_n 0, 1) := by decide +kernel
theorem dX7_goesThrough_23 : decode cX7_goesThrough 23 = .ok (.getfield 20, 3) := by decide +kernel
theorem dX7_goesThrough_26 : decode cX7_goesThrough 26 = .ok (.aload_n 0, 1) := by decide +kernel
theorem dX7_goesThrough_27 : decode cX7_goesThrough 27 = .ok (.getfield 20, 3) := by decide +kernel
theorem dX7_goesThrough_30 : decode cX7_goesThrough 30 = .ok (.sipush 226, 3) := by decide +kernel
theorem dX7_goesThrough_33 : decode cX7_goesThrough 33 = .ok (.iload_n 2, 1) := by decide +kernel
theorem dX7_goesThrough_34 : decode cX7_goesThrough 34 = .ok (.iadd, 1) := by decide +kernel
theorem dX7_goesThrough_35 : decode cX7_goesThrough 35 = .ok (.iaload, 1) := by decide +kernel
theorem dX7_goesThrough_36 : decode cX7_goesThrough 36 = .ok (.invokestatic 167, 3) := by decide +kernel
theorem dX7_goesThrough_39 : decode cX7_goesThrough 39 = .ok (.iconst 0, 1) := by decide +kernel
theorem dX7_goesThrough_40 : decode cX7_goesThrough 40 = .ok (.iadd, 1) := by decide +kernel
theorem dX7_goesThrough_41 : decode cX7_goesThrough 41 = .ok (.iconst 5, 1) := by decide +kernel
theorem dX7_goesThrough_42 : decode cX7_goesThrough 42 = .ok (.iastore, 1) := by decide +kernel
theorem dX7_goesThrough_43 : decode cX7_goesThrough 43 = .ok (.iinc 2 1, 3) := by decide +kernel
theorem dX7_goesThrough_46 : decode cX7_goesThrough 46 = .ok (.goto (-35), 3) := by decide +kernel
theorem dX7_goesThrough_49 : decode cX7_goesThrough 49 = .ok (.aload_n 0, 1) := by decide +kernel
theorem dX7_goesThrough_50 : decode cX7_goesThrough 50 = .ok (.getfield 20, 3) := by decide +kernel
theorem dX7_goesThrough_53 : decode cX7_goesThrough 53 = .ok (.bipush 7, 2) := by decide +kernel
theorem dX7_goesThrough_55 : decode cX7_goesThrough 55 = .ok (.iconst 0, 1) := by decide +kernel
theorem dX7_goesThrough_56 : decode cX7_goesThrough 56 = .ok (.iastore, 1) := by decide +kernel
theorem dX7_goesThrough_57 : decode cX7_goesThrough 57 = .ok (.aload_n 0, 1) := by decide +kernel
theorem dX7_goesThrough_58 : decode cX7_goesThrough 58 = .ok (.getfield 20, 3) := by decide +kernel
theorem dX7_goesThrough_61 : decode cX7_goesThrough 61 = .ok (.iconst 5, 1) := by decide +kernel
theorem dX7_goesThrough_62 : decode cX7_goesThrough 62 = .ok (.iconst 0, 1) := by decide +kernel
theorem dX7_goesThrough_63 : decode cX7_goesThrough 63 = .ok (.iastore, 1) := by decide +kernel
theorem dX7_goesThrough_64 : decode cX7_goesThrough 64 = .ok (.aload_n 0, 1) := by decide +kernel
theorem dX7_goesThrough_65 : decode cX7_goesThrough 65 = .ok (.iload_n 1, 1) := by decide +kernel
theorem dX7_goesThrough_66 : decode cX7_goesThrough 66 = .ok (.invokevirtual 195, 3) := by decide +kernel
theorem dX7_goesThrough_69 : decode cX7_goesThrough 69 = .ok (.ifCond .eq 27, 3) := by decide +kernel
theorem dX7_goesThrough_72 : decode cX7_goesThrough 72 = .ok (.aload_n 0, 1) := by decide +kernel
theorem dX7_goesThrough_73 : decode cX7_goesThrough 73 = .ok (.getfield 20, 3) := by decide +kernel
theorem dX7_goesThrough_76 : decode cX7_goesThrough 76 = .ok (.iload_n 1, 1) := by decide +kernel
theorem dX7_goesThrough_77 : decode cX7_goesThrough 77 = .ok (.invokestatic 167, 3) := by decide +kernel
theorem dX7_goesThrough_80 : decode cX7_goesThrough 80 = .ok (.iconst 0, 1) := by decide +kernel
theorem dX7_goesThrough_81 : decode cX7_goesThrough 81 = .ok (.iadd, 1) := by decide +kernel
theorem dX7_goesThrough_82 : decode cX7_goesThrough 82 = .ok (.iconst 4, 1) := by decide +kernel
theorem dX7_goesThrough_83 : decode cX7_goesThrough 83 = .ok (.iastore, 1) := by decide +kernel
theorem dX7_goesThrough_84 : decode cX7_goesThrough 84 = .ok (.aload_n 0, 1) := by decide +kernel
theorem dX7_goesThrough_85 : decode cX7_goesThrough 85 = .ok (.aload_n 0, 1) := by decide +kernel
theorem dX7_goesThrough_86 : decode cX7_goesThrough 86 = .ok (.iload_n 1, 1) := by decide +kernel
theorem dX7_goesThrough_87 : decode cX7_goesThrough 87 = .ok (.iconst 5, 1) := by decide +kernel
theorem dX7_goesThrough_88 : decode cX7_goesThrough 88 = .ok (.invokevirtual 170, 3) := by decide +kernel
theorem dX7_goesThrough_91 : decode cX7_goesThrough 91 = .ok (.invokevirtual 203, 3) := by decide +kernel
theorem dX7_goesThrough_94 : decode cX7_goesThrough 94 = .ok (.iconst 0, 1) := by decide +kernel
theorem dX7_goesThrough_95 : decode cX7_goesThrough 95 = .ok (.ireturn, 1) := by decide +kernel
theorem dX7_goesThrough_96 : decode cX7_goesThrough 96 = .ok (.iconst 0, 1) := by decide +kernel
theorem dX7_goesThrough_97 : decode cX7_goesThrough 97 = .ok (.istore_n 2, 1) := by decide +kernel
theorem dX7_goesThrough_98 : decode cX7_goesThrough 98 = .ok (.iconst 0, 1) := by decide +kernel
theorem dX7_goesThrough_99 : decode cX7_goesThrough 99 = .ok (.istore_n 3, 1) := by decide +kernel
theorem dX7_goesThrough_100 : decode cX7_goesThrough 100 = .ok (.iload_n 3, 1) := by decide +kernel
theorem dX7_goesThrough_101 : decode cX7_goesThrough 101 = .ok (.aload_n 0, 1) := by decide +kernel
theorem dX7_goesThrough_102 : decode cX7_goesThrough 102 = .ok (.invokevirtual 192, 3) := by decide +kernel
theorem dX7_goesThrough_105 : decode cX7_goesThrough 105 = .ok (.if_icmp .ge 30, 3) := by decide +kernel
theorem dX7_goesThrough_108 : decode cX7_goesThrough 108 = .ok (.aload_n 0, 1) := by decide +kernel
theorem dX7_goesThrough_109 : decode cX7_goesThrough 109 = .ok (.iload_n 1, 1) := by decide +kernel
theorem dX7_goesThrough_110 : decode cX7_goesThrough 110 = .ok (.iload_n 3, 1) := by decide +kernel
theorem dX7_goesThrough_111 : decode cX7_goesThrough 111 = .ok (.invokevirtual 199, 3) := by decide +kernel
theorem dX7_goesThrough_114 : decode cX7_goesThrough 114 = .ok (.ifCond .eq 6, 3) := by decide +kernel
theorem dX7_goesThrough_117 : decode cX7_goesThrough 117 = .ok (.goto 12, 3) := by decide +kernel
theorem dX7_goesThrough_120 : decode cX7_goesThrough 120 = .ok (.aload_n 0, 1) := by decide +kernel
theorem dX7_goesThrough_121 : decode cX7_goesThrough 121 = .ok (.iload_n 1, 1) := by decide +kernel
theorem dX7_goesThrough_122 : decode cX7_goesThrough 122 = .ok (.iload_n 3, 1) := by decide +kernel
theorem dX7_goesThrough_123 : decode cX7_goesThrough 123 = .ok (.invokevirtual 206, 3) := by decide +kernel
theorem dX7_goesThrough_126 : decode cX7_goesThrough 126 = .ok (.iinc 2 1, 3) := by decide +kernel
theorem dX7_goesThrough_129 : decode cX7_goesThrough 129 = .ok (.iinc 3 1, 3) := by decide +kernel
theorem dX7_goesThrough_132 : decode cX7_goesThrough 132 = .ok (.goto (-32), 3) := by decide +kernel
theorem dX7_goesThrough_135 : decode cX7_goesThrough 135 = .ok (.aload_n 0, 1) := by decide +kernel
theorem dX7_goesThrough_136 : decode cX7_goesThrough 136 = .ok (.getfield 20, 3) := by decide +kernel
theorem dX7_goesThrough_139 : decode cX7_goesThrough 139 = .ok (.iload_n 1, 1) := by decide +kernel
theorem dX7_goesThrough_140 : decode cX7_goesThrough 140 = .ok (.invokestatic 167, 3) := by decide +kernel
theorem dX7_goesThrough_143 : decode cX7_goesThrough 143 = .ok (.iconst 0, 1) := by decide +kernel
theorem dX7_goesThrough_144 : decode cX7_goesThrough 144 = .ok (.iadd, 1) := by decide +kernel
theorem dX7_goesThrough_145 : decode cX7_goesThrough 145 = .ok (.iload_n 2, 1) := by decide +kernel
theorem dX7_goesThrough_146 : decode cX7_goesThrough 146 = .ok (.ifCond .le 7, 3) := by decide +kernel
theorem dX7_goesThrough_149 : decode cX7_goesThrough 149 = .ok (.iconst 2, 1) := by decide +kernel
theorem dX7_goesThrough_150 : decode cX7_goesThrough 150 = .ok (.goto 4, 3) := by decide +kernel
theorem dX7_goesThrough_153 : decode cX7_goesThrough 153 = .ok (.iconst 3, 1) := by decide +kernel
theorem dX7_goesThrough_154 : decode cX7_goesThrough 154 = .ok (.iastore, 1) := by decide +kernel
theorem dX7_goesThrough_155 : decode cX7_goesThrough 155 = .ok (.aload_n 0, 1) := by decide +kernel
theorem dX7_goesThrough_156 : decode cX7_goesThrough 156 = .ok (.getfield 20, 3) := by decide +kernel
theorem dX7_goesThrough_159 : decode cX7_goesThrough 159 = .ok (.sipush 426, 3) := by decide +kernel
theorem dX7_goesThrough_162 : decode cX7_goesThrough 162 = .ok (.iconst 2, 1) := by decide +kernel
theorem dX7_goesThrough_163 : decode cX7_goesThrough 163 = .ok (.aload_n 0, 1) := by decide +kernel
theorem dX7_goesThrough_164 : decode cX7_goesThrough 164 = .ok (.getfield 20, 3) := by decide +kernel
theorem dX7_goesThrough_167 : decode cX7_goesThrough 167 = .ok (.bipush 16, 2) := by decide +kernel
theorem dX7_goesThrough_169 : decode cX7_goesThrough 169 = .ok (.iaload, 1) := by decide +kernel
theorem dX7_goesThrough_170 : decode cX7_goesThrough 170 = .ok (.iconst 1, 1) := by decide +kernel
theorem dX7_goesThrough_171 : decode cX7_goesThrough 171 = .ok (.isub, 1) := by decide +kernel
theorem dX7_goesThrough_172 : decode cX7_goesThrough 172 = .ok (.imul, 1) := by decide +kernel
theorem dX7_goesThrough_173 : decode cX7_goesThrough 173 = .ok (.iadd, 1) := by decide +kernel
theorem dX7_goesThrough_174 : decode cX7_goesThrough 174 = .ok (.iconst 1, 1) := by decide +kernel
theorem dX7_goesThrough_175 : decode cX7_goesThrough 175 = .ok (.iadd, 1) := by decide +kernel
theorem dX7_goesThrough_176 : decode cX7_goesThrough 176 = .ok (.dup2, 1) := by decide +kernel
theorem dX7_goesThrough_177 : decode cX7_goesThrough 177 = .ok (.iaload, 1) := by decide +kernel
theorem dX7_goesThrough_178 : decode cX7_goesThrough 178 = .ok (.iload_n 2, 1) := by decide +kernel
theorem dX7_goesThrough_179 : decode cX7_goesThrough 179 = .ok (.ifCond .le 7, 3) := by decide +kernel
theorem dX7_goesThrough_182 : decode cX7_goesThrough 182 = .ok (.iconst 1, 1) := by decide +kernel
theorem dX7_goesThrough_183 : decode cX7_goesThrough 183 = .ok (.goto 4, 3) := by decide +kernel
theorem dX7_goesThrough_186 : decode cX7_goesThrough 186 = .ok (.iconst 0, 1) := by decide +kernel
theorem dX7_goesThrough_187 : decode cX7_goesThrough 187 = .ok (.iadd, 1) := by decide +kernel
theorem dX7_goesThrough_188 : decode cX7_goesThrough 188 = .ok (.iastore, 1) := by decide +kernel
theorem dX7_goesThrough_189 : decode cX7_goesThrough 189 = .ok (.aload_n 0, 1) := by decide +kernel
theorem dX7_goesThrough_190 : decode cX7_goesThrough 190 = .ok (.getfield 20, 3) := by decide +kernel
theorem dX7_goesThrough_193 : decode cX7_goesThrough 193 = .ok (.bipush 22, 2) := by decide +kernel
theorem dX7_goesThrough_195 : decode cX7_goesThrough 195 = .ok (.dup2, 1) := by decide +kernel
theorem dX7_goesThrough_196 : decode cX7_goesThrough 196 = .ok (.iaload, 1) := by decide +kernel
theorem dX7_goesThrough_197 : decode cX7_goesThrough 197 = .ok (.aload_n 0, 1) := by decide +kernel
theorem dX7_goesThrough_198 : decode cX7_goesThrough 198 = .ok (.getfield 20, 3) := by decide +kernel
theorem dX7_goesThrough_201 : decode cX7_goesThrough 201 = .ok (.iload_n 1, 1) := by decide +kernel
theorem dX7_goesThrough_202 : decode cX7_goesThrough 202 = .ok (.invokestatic 167, 3) := by decide +kernel
theorem dX7_goesThrough_205 : decode cX7_goesThrough 205 = .ok (.iconst 3, 1) := by decide +kernel
theorem dX7_goesThrough_206 : decode cX7_goesThrough 206 = .ok (.iadd, 1) := by decide +kernel
theorem dX7_goesThrough_207 : decode cX7_goesThrough 207 = .ok (.iaload, 1) := by decide +kernel
theorem dX7_goesThrough_208 : decode cX7_goesThrough 208 = .ok (.iadd, 1) := by decide +kernel
theorem dX7_goesThrough_209 : decode cX7_goesThrough 209 = .ok (.iastore, 1) := by decide +kernel
theorem dX7_goesThrough_210 : decode cX7_goesThrough 210 = .ok (.aload_n 0, 1) := by decide +kernel
theorem dX7_goesThrough_211 : decode cX7_goesThrough 211 = .ok (.getfield 20, 3) := by decide +kernel
theorem dX7_goesThrough_214 : decode cX7_goesThrough 214 = .ok (.iload_n 1, 1) := by decide +kernel
theorem dX7_goesThrough_215 : decode cX7_goesThrough 215 = .ok (.invokestatic 167, 3) := by decide +kernel
theorem dX7_goesThrough_218 : decode cX7_goesThrough 218 = .ok (.iconst 3, 1) := by decide +kernel
theorem dX7_goesThrough_219 : decode cX7_goesThrough 219 = .ok (.iadd, 1) := by decide +kernel
theorem dX7_goesThrough_220 : decode cX7_goesThrough 220 = .ok (.iconst 0, 1) := by decide +kernel
theorem dX7_goesThrough_221 : decode cX7_goesThrough 221 = .ok (.iastore, 1) := by decide +kernel
theorem dX7_goesThrough_222 : decode cX7_goesThrough 222 = .ok (.iload_n 2, 1) := by decide +kernel
theorem dX7_goesThrough_223 : decode cX7_goesThrough 223 = .ok (.ireturn, 1) := by decide +kernel
theorem dX7_pick_0 : decode cX7_pick 0 = .ok (.aload_n 0, 1) := by decide +kernel
theorem dX7_pick_1 : decode cX7_pick 1 = .ok (.invokevirtual 210, 3) := by decide +kernel
theorem dX7_pick_4 : decode cX7_pick 4 = .ok (.istore_n 1, 1) := by decide +kernel
theorem dX7_pick_5 : decode cX7_pick 5 = .ok (.aload_n 0, 1) := by decide +kernel
theorem dX7_pick_6 : decode cX7_pick 6 = .ok (.iload_n 1, 1) := by decide +kernel
theorem dX7_pick_7 : decode cX7_pick 7 = .ok (.invokevirtual 213, 3) := by decide +kernel
theorem dX7_pick_10 : decode cX7_pick 10 = .ok (.istore_n 2, 1) := by decide +kernel
theorem dX7_pick_11 : decode cX7_pick 11 = .ok (.aload_n 0, 1) := by decide +kernel
theorem dX7_pick_12 : decode cX7_pick 12 = .ok (.iload_n 1, 1) := by decide +kernel
theorem dX7_pick_13 : decode cX7_pick 13 = .ok (.invokevirtual 183, 3) := by decide +kernel
theorem dX7_pick_16 : decode cX7_pick 16 = .ok (.istore_n 3, 1) := by decide +kernel
theorem dX7_pick_17 : decode cX7_pick 17 = .ok (.aload_n 0, 1) := by decide +kernel
theorem dX7_pick_18 : decode cX7_pick 18 = .ok (.getfield 20, 3) := by decide +kernel
theorem dX7_pick_21 : decode cX7_pick 21 = .ok (.bipush 17, 2) := by decide +kernel
theorem dX7_pick_23 : decode cX7_pick 23 = .ok (.dup2, 1) := by decide +kernel
theorem dX7_pick_24 : decode cX7_pick 24 = .ok (.iaload, 1) := by decide +kernel
theorem dX7_pick_25 : decode cX7_pick 25 = .ok (.iconst 1, 1) := by decide +kernel
theorem dX7_pick_26 : decode cX7_pick 26 = .ok (.iadd, 1) := by decide +kernel
theorem dX7_pick_27 : decode cX7_pick 27 = .ok (.iastore, 1) := by decide +kernel
theorem dX7_pick_28 : decode cX7_pick 28 = .ok (.iconst 0, 1) := by decide +kernel
theorem dX7_pick_29 : decode cX7_pick 29 = .ok (.istore 4, 2) := by decide +kernel
theorem dX7_pick_31 : decode cX7_pick 31 = .ok (.iload 4, 2) := by decide +kernel
theorem dX7_pick_33 : decode cX7_pick 33 = .ok (.iload_n 1, 1) := by decide +kernel
theorem dX7_pick_34 : decode cX7_pick 34 = .ok (.if_icmp .ge 53, 3) := by decide +kernel
theorem dX7_pick_37 : decode cX7_pick 37 = .ok (.aload_n 0, 1) := by decide +kernel
theorem dX7_pick_38 : decode cX7_pick 38 = .ok (.iconst 0, 1) := by decide +kernel
theorem dX7_pick_39 : decode cX7_pick 39 = .ok (.invokevirtual 180, 3) := by decide +kernel
theorem dX7_pick_42 : decode cX7_pick 42 = .ok (.istore 5, 2) := by decide +kernel
theorem dX7_pick_44 : decode cX7_pick 44 = .ok (.aload_n 0, 1) := by decide +kernel
theorem dX7_pick_45 : decode cX7_pick 45 = .ok (.getfield 20, 3) := by decide +kernel
theorem dX7_pick_48 : decode cX7_pick 48 = .ok (.bipush 6, 2) := by decide +kernel
theorem dX7_pick_50 : decode cX7_pick 50 = .ok (.dup2, 1) := by decide +kernel
theorem dX7_pick_51 : decode cX7_pick 51 = .ok (.iaload, 1) := by decide +kernel
theorem dX7_pick_52 : decode cX7_pick 52 = .ok (.iconst 1, 1) := by decide +kernel
theorem dX7_pick_53 : decode cX7_pick 53 = .ok (.isub, 1) := by decide +kernel
theorem dX7_pick_54 : decode cX7_pick 54 = .ok (.iastore, 1) := by decide +kernel
theorem dX7_pick_55 : decode cX7_pick 55 = .ok (.aload_n 0, 1) := by decide +kernel
theorem dX7_pick_56 : decode cX7_pick 56 = .ok (.getfield 20, 3) := by decide +kernel
theorem dX7_pick_59 : decode cX7_pick 59 = .ok (.sipush 226, 3) := by decide +kernel
theorem dX7_pick_62 : decode cX7_pick 62 = .ok (.iload 4, 2) := by decide +kernel
theorem dX7_pick_64 : decode cX7_pick 64 = .ok (.iadd, 1) := by decide +kernel
theorem dX7_pick_65 : decode cX7_pick 65 = .ok (.iload 5, 2) := by decide +kernel
theorem dX7_pick_67 : decode cX7_pick 67 = .ok (.iastore, 1) := by decide +kernel
theorem dX7_pick_68 : decode cX7_pick 68 = .ok (.aload_n 0, 1) := by decide +kernel
theorem dX7_pick_69 : decode cX7_pick 69 = .ok (.getfield 20, 3) := by decide +kernel
theorem dX7_pick_72 : decode cX7_pick 72 = .ok (.iload 5, 2) := by decide +kernel
theorem dX7_pick_74 : decode cX7_pick 74 = .ok (.invokestatic 167, 3) := by decide +kernel
theorem dX7_pick_77 : decode cX7_pick 77 = .ok (.iconst 0, 1) := by decide +kernel
theorem dX7_pick_78 : decode cX7_pick 78 = .ok (.iadd, 1) := by decide +kernel
theorem dX7_pick_79 : decode cX7_pick 79 = .ok (.iconst 1, 1) := by decide +kernel
theorem dX7_pick_80 : decode cX7_pick 80 = .ok (.iastore, 1) := by decide +kernel
theorem dX7_pick_81 : decode cX7_pick 81 = .ok (.iinc 4 1, 3) := by decide +kernel
theorem dX7_pick_84 : decode cX7_pick 84 = .ok (.goto (-53), 3) := by decide +kernel
theorem dX7_pick_87 : decode cX7_pick 87 = .ok (.aload_n 0, 1) := by decide +kernel
theorem dX7_pick_88 : decode cX7_pick 88 = .ok (.getfield 20, 3) := by decide +kernel
theorem dX7_pick_91 : decode cX7_pick 91 = .ok (.bipush 7, 2) := by decide +kernel
theorem dX7_pick_93 : decode cX7_pick 93 = .ok (.iload_n 1, 1) := by decide +kernel
theorem dX7_pick_94 : decode cX7_pick 94 = .ok (.iastore, 1) := by decide +kernel
theorem dX7_pick_95 : decode cX7_pick 95 = .ok (.iload_n 2, 1) := by decide +kernel
theorem dX7_pick_96 : decode cX7_pick 96 = .ok (.ifCond .le 64, 3) := by decide +kernel
theorem dX7_pick_99 : decode cX7_pick 99 = .ok (.aload_n 0, 1) := by decide +kernel
theorem dX7_pick_100 : decode cX7_pick 100 = .ok (.getfield 20, 3) := by decide +kernel
theorem dX7_pick_103 : decode cX7_pick 103 = .ok (.iconst 5, 1) := by decide +kernel
theorem dX7_pick_104 : decode cX7_pick 104 = .ok (.iload_n 2, 1) := by decide +kernel
theorem dX7_pick_105 : decode cX7_pick 105 = .ok (.iastore, 1) := by decide +kernel
theorem dX7_pick_106 : decode cX7_pick 106 = .ok (.aload_n 0, 1) := by decide +kernel
theorem dX7_pick_107 : decode cX7_pick 107 = .ok (.getfield 20, 3) := by decide +kernel
theorem dX7_pick_110 : decode cX7_pick 110 = .ok (.bipush 17, 2) := by decide +kernel
theorem dX7_pick_112 : decode cX7_pick 112 = .ok (.iload_n 2, 1) := by decide +kernel
theorem dX7_pick_113 : decode cX7_pick 113 = .ok (.iadd, 1) := by decide +kernel
theorem dX7_pick_114 : decode cX7_pick 114 = .ok (.dup2, 1) := by decide +kernel
theorem dX7_pick_115 : decode cX7_pick 115 = .ok (.iaload, 1) := by decide +kernel
theorem dX7_pick_116 : decode cX7_pick 116 = .ok (.iconst 1, 1) := by decide +kernel
theorem dX7_pick_117 : decode cX7_pick 117 = .ok (.iadd, 1) := by decide +kernel
theorem dX7_pick_118 : decode cX7_pick 118 = .ok (.iastore, 1) := by decide +kernel
theorem dX7_pick_119 : decode cX7_pick 119 = .ok (.iload_n 2, 1) := by decide +kernel
theorem dX7_pick_120 : decode cX7_pick 120 = .ok (.iconst 3, 1) := by decide +kernel
theorem dX7_pick_121 : decode cX7_pick 121 = .ok (.if_icmp .ne 37, 3) := by decide +kernel
theorem dX7_pick_124 : decode cX7_pick 124 = .ok (.aload_n 0, 1) := by decide +kernel
theorem dX7_pick_125 : decode cX7_pick 125 = .ok (.aload_n 0, 1) := by decide +kernel
theorem dX7_pick_126 : decode cX7_pick 126 = .ok (.getfield 20, 3) := by decide +kernel
theorem dX7_pick_129 : decode cX7_pick 129 = .ok (.sipush 226, 3) := by decide +kernel
theorem dX7_pick_132 : decode cX7_pick 132 = .ok (.iaload, 1) := by decide +kernel
theorem dX7_pick_133 : decode cX7_pick 133 = .ok (.invokevirtual 195, 3) := by decide +kernel
theorem dX7_pick_136 : decode cX7_pick 136 = .ok (.ifCond .ne 22, 3) := by decide +kernel
theorem dX7_pick_139 : decode cX7_pick 139 = .ok (.aload_n 0, 1) := by decide +kernel
theorem dX7_pick_140 : decode cX7_pick 140 = .ok (.getfield 20, 3) := by decide +kernel
theorem dX7_pick_143 : decode cX7_pick 143 = .ok (.aload_n 0, 1) := by decide +kernel
theorem dX7_pick_144 : decode cX7_pick 144 = .ok (.getfield 20, 3) := by decide +kernel
theorem dX7_pick_147 : decode cX7_pick 147 = .ok (.sipush 226, 3) := by decide +kernel
theorem dX7_pick_150 : decode cX7_pick 150 = .ok (.iaload, 1) := by decide +kernel
theorem dX7_pick_151 : decode cX7_pick 151 = .ok (.invokestatic 167, 3) := by decide +kernel
theorem dX7_pick_154 : decode cX7_pick 154 = .ok (.iconst 3, 1) := by decide +kernel
theorem dX7_pick_155 : decode cX7_pick 155 = .ok (.iadd, 1) := by decide +kernel
theorem dX7_pick_156 : decode cX7_pick 156 = .ok (.iconst 1, 1) := by decide +kernel
theorem dX7_pick_157 : decode cX7_pick 157 = .ok (.iastore, 1) := by decide +kernel
theorem dX7_pick_158 : decode cX7_pick 158 = .ok (.iconst (-1), 1) := by decide +kernel
theorem dX7_pick_159 : decode cX7_pick 159 = .ok (.ireturn, 1) := by decide +kernel
theorem dX7_pick_160 : decode cX7_pick 160 = .ok (.iload_n 1, 1) := by decide +kernel
theorem dX7_pick_161 : decode cX7_pick 161 = .ok (.iconst 1, 1) := by decide +kernel
theorem dX7_pick_162 : decode cX7_pick 162 = .ok (.if_icmp .ne 8, 3) := by decide +kernel
theorem dX7_pick_165 : decode cX7_pick 165 = .ok (.aload_n 0, 1) := by decide +kernel
theorem dX7_pick_166 : decode cX7_pick 166 = .ok (.iload_n 3, 1) := by decide +kernel
theorem dX7_pick_167 : decode cX7_pick 167 = .ok (.invokevirtual 216, 3) := by decide +kernel
theorem dX7_pick_170 : decode cX7_pick 170 = .ok (.aload_n 0, 1) := by decide +kernel
theorem dX7_pick_171 : decode cX7_pick 171 = .ok (.invokevirtual 219, 3) := by decide +kernel
theorem dX7_pick_174 : decode cX7_pick 174 = .ok (.ireturn, 1) := by decide +kernel
theorem dX7_feed_0 : decode cX7_feed 0 = .ok (.aload_n 0, 1) := by decide +kernel
theorem dX7_feed_1 : decode cX7_feed 1 = .ok (.iload_n 1, 1) := by decide +kernel
theorem dX7_feed_2 : decode cX7_feed 2 = .ok (.iconst 1, 1) := by decide +kernel
theorem dX7_feed_3 : decode cX7_feed 3 = .ok (.bipush 40, 2) := by decide +kernel
theorem dX7_feed_5 : decode cX7_feed 5 = .ok (.invokestatic 72, 3) := by decide +kernel
theorem dX7_feed_8 : decode cX7_feed 8 = .ok (.ifCond .ne 7, 3) := by decide +kernel
theorem dX7_feed_11 : decode cX7_feed 11 = .ok (.iconst 1, 1) := by decide +kernel
theorem dX7_feed_12 : decode cX7_feed 12 = .ok (.goto 17, 3) := by decide +kernel
theorem dX7_feed_15 : decode cX7_feed 15 = .ok (.aload_n 0, 1) := by decide +kernel
theorem dX7_feed_16 : decode cX7_feed 16 = .ok (.getfield 20, 3) := by decide +kernel
theorem dX7_feed_19 : decode cX7_feed 19 = .ok (.iconst 5, 1) := by decide +kernel
theorem dX7_feed_20 : decode cX7_feed 20 = .ok (.iaload, 1) := by decide +kernel
theorem dX7_feed_21 : decode cX7_feed 21 = .ok (.ifCond .le 7, 3) := by decide +kernel
theorem dX7_feed_24 : decode cX7_feed 24 = .ok (.iconst 2, 1) := by decide +kernel
theorem dX7_feed_25 : decode cX7_feed 25 = .ok (.goto 4, 3) := by decide +kernel
theorem dX7_feed_28 : decode cX7_feed 28 = .ok (.iconst 0, 1) := by decide +kernel
theorem dX7_feed_29 : decode cX7_feed 29 = .ok (.putfield 45, 3) := by decide +kernel
theorem dX7_feed_32 : decode cX7_feed 32 = .ok (.aload_n 0, 1) := by decide +kernel
theorem dX7_feed_33 : decode cX7_feed 33 = .ok (.getfield 45, 3) := by decide +kernel
theorem dX7_feed_36 : decode cX7_feed 36 = .ok (.ifCond .le 5, 3) := by decide +kernel
theorem dX7_feed_39 : decode cX7_feed 39 = .ok (.iconst 0, 1) := by decide +kernel
theorem dX7_feed_40 : decode cX7_feed 40 = .ok (.ireturn, 1) := by decide +kernel
theorem dX7_feed_41 : decode cX7_feed 41 = .ok (.aload_n 0, 1) := by decide +kernel
theorem dX7_feed_42 : decode cX7_feed 42 = .ok (.invokevirtual 222, 3) := by decide +kernel
theorem dX7_feed_45 : decode cX7_feed 45 = .ok (.iconst 0, 1) := by decide +kernel
theorem dX7_feed_46 : decode cX7_feed 46 = .ok (.istore_n 2, 1) := by decide +kernel
theorem dX7_feed_47 : decode cX7_feed 47 = .ok (.iconst 0, 1) := by decide +kernel
theorem dX7_feed_48 : decode cX7_feed 48 = .ok (.istore_n 3, 1) := by decide +kernel
theorem dX7_feed_49 : decode cX7_feed 49 = .ok (.iload_n 3, 1) := by decide +kernel
theorem dX7_feed_50 : decode cX7_feed 50 = .ok (.iload_n 1, 1) := by decide +kernel
theorem dX7_feed_51 : decode cX7_feed 51 = .ok (.if_icmp .ge 44, 3) := by decide +kernel
theorem dX7_feed_54 : decode cX7_feed 54 = .ok (.aload_n 0, 1) := by decide +kernel
theorem dX7_feed_55 : decode cX7_feed 55 = .ok (.getfield 20, 3) := by decide +kernel
theorem dX7_feed_58 : decode cX7_feed 58 = .ok (.bipush 6, 2) := by decide +kernel
theorem dX7_feed_60 : decode cX7_feed 60 = .ok (.iaload, 1) := by decide +kernel
theorem dX7_feed_61 : decode cX7_feed 61 = .ok (.ifCond .le 34, 3) := by decide +kernel
theorem dX7_feed_64 : decode cX7_feed 64 = .ok (.aload_n 0, 1) := by decide +kernel
theorem dX7_feed_65 : decode cX7_feed 65 = .ok (.getfield 20, 3) := by decide +kernel
theorem dX7_feed_68 : decode cX7_feed 68 = .ok (.iconst 5, 1) := by decide +kernel
theorem dX7_feed_69 : decode cX7_feed 69 = .ok (.iaload, 1) := by decide +kernel
theorem dX7_feed_70 : decode cX7_feed 70 = .ok (.ifCond .ne 25, 3) := by decide +kernel
theorem dX7_feed_73 : decode cX7_feed 73 = .ok (.iload_n 2, 1) := by decide +kernel
theorem dX7_feed_74 : decode cX7_feed 74 = .ok (.aload_n 0, 1) := by decide +kernel
theorem dX7_feed_75 : decode cX7_feed 75 = .ok (.invokevirtual 225, 3) := by decide +kernel
theorem dX7_feed_78 : decode cX7_feed 78 = .ok (.iconst (-1), 1) := by decide +kernel
theorem dX7_feed_79 : decode cX7_feed 79 = .ok (.if_icmp .ne 7, 3) := by decide +kernel
theorem dX7_feed_82 : decode cX7_feed 82 = .ok (.iconst 0, 1) := by decide +kernel
theorem dX7_feed_83 : decode cX7_feed 83 = .ok (.goto 4, 3) := by decide +kernel
theorem dX7_feed_86 : decode cX7_feed 86 = .ok (.iconst 1, 1) := by decide +kernel
theorem dX7_feed_87 : decode cX7_feed 87 = .ok (.iadd, 1) := by decide +kernel
theorem dX7_feed_88 : decode cX7_feed 88 = .ok (.istore_n 2, 1) := by decide +kernel
theorem dX7_feed_89 : decode cX7_feed 89 = .ok (.iinc 3 1, 3) := by decide +kernel
theorem dX7_feed_92 : decode cX7_feed 92 = .ok (.goto (-43), 3) := by decide +kernel
theorem dX7_feed_95 : decode cX7_feed 95 = .ok (.iload_n 2, 1) := by decide +kernel
theorem dX7_feed_96 : decode cX7_feed 96 = .ok (.ireturn, 1) := by decide +kernel
theorem dX7_removes_0 : decode cX7_removes 0 = .ok (.aload_n 0, 1) := by decide +kernel
theorem dX7_removes_1 : decode cX7_removes 1 = .ok (.getfield 20, 3) := by decide +kernel
theorem dX7_removes_4 : decode cX7_removes 4 = .ok (.bipush 7, 2) := by decide +kernel
theorem dX7_removes_6 : decode cX7_removes 6 = .ok (.iaload, 1) := by decide +kernel
theorem dX7_removes_7 : decode cX7_removes 7 = .ok (.istore_n 1, 1) := by decide +kernel
theorem dX7_removes_8 : decode cX7_removes 8 = .ok (.iconst 0, 1) := by decide +kernel
theorem dX7_removes_9 : decode cX7_removes 9 = .ok (.istore_n 2, 1) := by decide +kernel
theorem dX7_removes_10 : decode cX7_removes 10 = .ok (.iload_n 2, 1) := by decide +kernel
theorem dX7_removes_11 : decode cX7_removes 11 = .ok (.iload_n 1, 1) := by decide +kernel
theorem dX7_removes_12 : decode cX7_removes 12 = .ok (.if_icmp .ge 66, 3) := by decide +kernel
theorem dX7_removes_15 : decode cX7_removes 15 = .ok (.aload_n 0, 1) := by decide +kernel
theorem dX7_removes_16 : decode cX7_removes 16 = .ok (.getfield 20, 3) := by decide +kernel
theorem dX7_removes_19 : decode cX7_removes 19 = .ok (.sipush 226, 3) := by decide +kernel
theorem dX7_removes_22 : decode cX7_removes 22 = .ok (.iload_n 2, 1) := by decide +kernel
theorem dX7_removes_23 : decode cX7_removes 23 = .ok (.iadd, 1) := by decide +kernel
theorem dX7_removes_24 : decode cX7_removes 24 = .ok (.iaload, 1) := by decide +kernel
theorem dX7_removes_25 : decode cX7_removes 25 = .ok (.istore_n 3, 1) := by decide +kernel
theorem dX7_removes_26 : decode cX7_removes 26 = .ok (.aload_n 0, 1) := by decide +kernel
theorem dX7_removes_27 : decode cX7_removes 27 = .ok (.getfield 20, 3) := by decide +kernel
theorem dX7_removes_30 : decode cX7_removes 30 = .ok (.iload_n 3, 1) := by decide +kernel
theorem dX7_removes_31 : decode cX7_removes 31 = .ok (.invokestatic 167, 3) := by decide +kernel
theorem dX7_removes_34 : decode cX7_removes 34 = .ok (.iconst 0, 1) := by decide +kernel
theorem dX7_removes_35 : decode cX7_removes 35 = .ok (.iadd, 1) := by decide +kernel
theorem dX7_removes_36 : decode cX7_removes 36 = .ok (.bipush 6, 2) := by decide +kernel
theorem dX7_removes_38 : decode cX7_removes 38 = .ok (.iastore, 1) := by decide +kernel
theorem dX7_removes_39 : decode cX7_removes 39 = .ok (.aload_n 0, 1) := by decide +kernel
theorem dX7_removes_40 : decode cX7_removes 40 = .ok (.getfield 20, 3) := by decide +kernel
theorem dX7_removes_43 : decode cX7_removes 43 = .ok (.bipush 23, 2) := by decide +kernel
theorem dX7_removes_45 : decode cX7_removes 45 = .ok (.dup2, 1) := by decide +kernel
theorem dX7_removes_46 : decode cX7_removes 46 = .ok (.iaload, 1) := by decide +kernel
theorem dX7_removes_47 : decode cX7_removes 47 = .ok (.aload_n 0, 1) := by decide +kernel
theorem dX7_removes_48 : decode cX7_removes 48 = .ok (.getfield 20, 3) := by decide +kernel
theorem dX7_removes_51 : decode cX7_removes 51 = .ok (.iload_n 3, 1) := by decide +kernel
theorem dX7_removes_52 : decode cX7_removes 52 = .ok (.invokestatic 167, 3) := by decide +kernel
theorem dX7_removes_55 : decode cX7_removes 55 = .ok (.iconst 3, 1) := by decide +kernel
theorem dX7_removes_56 : decode cX7_removes 56 = .ok (.iadd, 1) := by decide +kernel
theorem dX7_removes_57 : decode cX7_removes 57 = .ok (.iaload, 1) := by decide +kernel
theorem dX7_removes_58 : decode cX7_removes 58 = .ok (.iadd, 1) := by decide +kernel
theorem dX7_removes_59 : decode cX7_removes 59 = .ok (.iastore, 1) := by decide +kernel
theorem dX7_removes_60 : decode cX7_removes 60 = .ok (.aload_n 0, 1) := by decide +kernel
theorem dX7_removes_61 : decode cX7_removes 61 = .ok (.getfield 20, 3) := by decide +kernel
theorem dX7_removes_64 : decode cX7_removes 64 = .ok (.iload_n 3, 1) := by decide +kernel
theorem dX7_removes_65 : decode cX7_removes 65 = .ok (.invokestatic 167, 3) := by decide +kernel
theorem dX7_removes_68 : decode cX7_removes 68 = .ok (.iconst 3, 1) := by decide +kernel
theorem dX7_removes_69 : decode cX7_removes 69 = .ok (.iadd, 1) := by decide +kernel
theorem dX7_removes_70 : decode cX7_removes 70 = .ok (.iconst 0, 1) := by decide +kernel
theorem dX7_removes_71 : decode cX7_removes 71 = .ok (.iastore, 1) := by decide +kernel
theorem dX7_removes_72 : decode cX7_removes 72 = .ok (.iinc 2 1, 3) := by decide +kernel
theorem dX7_removes_75 : decode cX7_removes 75 = .ok (.goto (-65), 3) := by decide +kernel
theorem dX7_removes_78 : decode cX7_removes 78 = .ok (.aload_n 0, 1) := by decide +kernel
theorem dX7_removes_79 : decode cX7_removes 79 = .ok (.getfield 20, 3) := by decide +kernel
theorem dX7_removes_82 : decode cX7_removes 82 = .ok (.bipush 7, 2) := by decide +kernel
theorem dX7_removes_84 : decode cX7_removes 84 = .ok (.iconst 0, 1) := by decide +kernel
theorem dX7_removes_85 : decode cX7_removes 85 = .ok (.iastore, 1) := by decide +kernel
theorem dX7_removes_86 : decode cX7_removes 86 = .ok (.aload_n 0, 1) := by decide +kernel
theorem dX7_removes_87 : decode cX7_removes 87 = .ok (.getfield 20, 3) := by decide +kernel
theorem dX7_removes_90 : decode cX7_removes 90 = .ok (.iconst 5, 1) := by decide +kernel
theorem dX7_removes_91 : decode cX7_removes 91 = .ok (.iconst 0, 1) := by decide +kernel
theorem dX7_removes_92 : decode cX7_removes 92 = .ok (.iastore, 1) := by decide +kernel
theorem dX7_removes_93 : decode cX7_removes 93 = .ok (.iload_n 1, 1) := by decide +kernel
theorem dX7_removes_94 : decode cX7_removes 94 = .ok (.ireturn, 1) := by decide +kernel
theorem dX7_remove_0 : decode cX7_remove 0 = .ok (.aload_n 0, 1) := by decide +kernel
theorem dX7_remove_1 : decode cX7_remove 1 = .ok (.aload_n 0, 1) := by decide +kernel
theorem dX7_remove_2 : decode cX7_remove 2 = .ok (.getfield 20, 3) := by decide +kernel
theorem dX7_remove_5 : decode cX7_remove 5 = .ok (.iconst 5, 1) := by decide +kernel
theorem dX7_remove_6 : decode cX7_remove 6 = .ok (.iaload, 1) := by decide +kernel
theorem dX7_remove_7 : decode cX7_remove 7 = .ok (.ifCond .ne 7, 3) := by decide +kernel
theorem dX7_remove_10 : decode cX7_remove 10 = .ok (.iconst 1, 1) := by decide +kernel
theorem dX7_remove_11 : decode cX7_remove 11 = .ok (.goto 4, 3) := by decide +kernel
theorem dX7_remove_14 : decode cX7_remove 14 = .ok (.iconst 0, 1) := by decide +kernel
theorem dX7_remove_15 : decode cX7_remove 15 = .ok (.putfield 45, 3) := by decide +kernel
theorem dX7_remove_18 : decode cX7_remove 18 = .ok (.aload_n 0, 1) := by decide +kernel
theorem dX7_remove_19 : decode cX7_remove 19 = .ok (.getfield 45, 3) := by decide +kernel
theorem dX7_remove_22 : decode cX7_remove 22 = .ok (.ifCond .le 5, 3) := by decide +kernel
theorem dX7_remove_25 : decode cX7_remove 25 = .ok (.iconst 0, 1) := by decide +kernel
theorem dX7_remove_26 : decode cX7_remove 26 = .ok (.ireturn, 1) := by decide +kernel
theorem dX7_remove_27 : decode cX7_remove 27 = .ok (.aload_n 0, 1) := by decide +kernel
theorem dX7_remove_28 : decode cX7_remove 28 = .ok (.invokevirtual 222, 3) := by decide +kernel
theorem dX7_remove_31 : decode cX7_remove 31 = .ok (.aload_n 0, 1) := by decide +kernel
theorem dX7_remove_32 : decode cX7_remove 32 = .ok (.invokevirtual 228, 3) := by decide +kernel
theorem dX7_remove_35 : decode cX7_remove 35 = .ok (.ireturn, 1) := by decide +kernel
theorem dX7_putBack_0 : decode cX7_putBack 0 = .ok (.aload_n 0, 1) := by decide +kernel
theorem dX7_putBack_1 : decode cX7_putBack 1 = .ok (.aload_n 0, 1) := by decide +kernel
theorem dX7_putBack_2 : decode cX7_putBack 2 = .ok (.getfield 20, 3) := by decide +kernel
theorem dX7_putBack_5 : decode cX7_putBack 5 = .ok (.iconst 5, 1) := by decide +kernel
theorem dX7_putBack_6 : decode cX7_putBack 6 = .ok (.iaload, 1) := by decide +kernel
theorem dX7_putBack_7 : decode cX7_putBack 7 = .ok (.ifCond .ne 7, 3) := by decide +kernel
theorem dX7_putBack_10 : decode cX7_putBack 10 = .ok (.iconst 1, 1) := by decide +kernel
theorem dX7_putBack_11 : decode cX7_putBack 11 = .ok (.goto 4, 3) := by decide +kernel
theorem dX7_putBack_14 : decode cX7_putBack 14 = .ok (.iconst 0, 1) := by decide +kernel
theorem dX7_putBack_15 : decode cX7_putBack 15 = .ok (.putfield 45, 3) := by decide +kernel
theorem dX7_putBack_18 : decode cX7_putBack 18 = .ok (.aload_n 0, 1) := by decide +kernel
theorem dX7_putBack_19 : decode cX7_putBack 19 = .ok (.getfield 45, 3) := by decide +kernel
theorem dX7_putBack_22 : decode cX7_putBack 22 = .ok (.ifCond .le 5, 3) := by decide +kernel
theorem dX7_putBack_25 : decode cX7_putBack 25 = .ok (.iconst 0, 1) := by decide +kernel
theorem dX7_putBack_26 : decode cX7_putBack 26 = .ok (.ireturn, 1) := by decide +kernel
theorem dX7_putBack_27 : decode cX7_putBack 27 = .ok (.aload_n 0, 1) := by decide +kernel
theorem dX7_putBack_28 : decode cX7_putBack 28 = .ok (.invokevirtual 222, 3) := by decide +kernel
theorem dX7_putBack_31 : decode cX7_putBack 31 = .ok (.aload_n 0, 1) := by decide +kernel
theorem dX7_putBack_32 : decode cX7_putBack 32 = .ok (.getfield 20, 3) := by decide +kernel
theorem dX7_putBack_35 : decode cX7_putBack 35 = .ok (.bipush 24, 2) := by decide +kernel
theorem dX7_putBack_37 : decode cX7_putBack 37 = .ok (.dup2, 1) := by decide +kernel
theorem dX7_putBack_38 : decode cX7_putBack 38 = .ok (.iaload, 1) := by decide +kernel
theorem dX7_putBack_39 : decode cX7_putBack 39 = .ok (.aload_n 0, 1) := by decide +kernel
theorem dX7_putBack_40 : decode cX7_putBack 40 = .ok (.getfield 20, 3) := by decide +kernel
theorem dX7_putBack_43 : decode cX7_putBack 43 = .ok (.bipush 7, 2) := by decide +kernel
theorem dX7_putBack_45 : decode cX7_putBack 45 = .ok (.iaload, 1) := by decide +kernel
theorem dX7_putBack_46 : decode cX7_putBack 46 = .ok (.iadd, 1) := by decide +kernel
theorem dX7_putBack_47 : decode cX7_putBack 47 = .ok (.iastore, 1) := by decide +kernel
theorem dX7_putBack_48 : decode cX7_putBack 48 = .ok (.aload_n 0, 1) := by decide +kernel
theorem dX7_putBack_49 : decode cX7_putBack 49 = .ok (.getfield 20, 3) := by decide +kernel
theorem dX7_putBack_52 : decode cX7_putBack 52 = .ok (.aload_n 0, 1) := by decide +kernel
theorem dX7_putBack_53 : decode cX7_putBack 53 = .ok (.getfield 20, 3) := by decide +kernel
theorem dX7_putBack_56 : decode cX7_putBack 56 = .ok (.sipush 226, 3) := by decide +kernel
theorem dX7_putBack_59 : decode cX7_putBack 59 = .ok (.iaload, 1) := by decide +kernel
theorem dX7_putBack_60 : decode cX7_putBack 60 = .ok (.invokestatic 167, 3) := by decide +kernel
theorem dX7_putBack_63 : decode cX7_putBack 63 = .ok (.iconst 1, 1) := by decide +kernel
theorem dX7_putBack_64 : decode cX7_putBack 64 = .ok (.iadd, 1) := by decide +kernel
theorem dX7_putBack_65 : decode cX7_putBack 65 = .ok (.dup2, 1) := by decide +kernel
theorem dX7_putBack_66 : decode cX7_putBack 66 = .ok (.iaload, 1) := by decide +kernel
theorem dX7_putBack_67 : decode cX7_putBack 67 = .ok (.iconst 2, 1) := by decide +kernel
theorem dX7_putBack_68 : decode cX7_putBack 68 = .ok (.idiv, 1) := by decide +kernel
theorem dX7_putBack_69 : decode cX7_putBack 69 = .ok (.iastore, 1) := by decide +kernel
theorem dX7_putBack_70 : decode cX7_putBack 70 = .ok (.aload_n 0, 1) := by decide +kernel
theorem dX7_putBack_71 : decode cX7_putBack 71 = .ok (.getfield 20, 3) := by decide +kernel
theorem dX7_putBack_74 : decode cX7_putBack 74 = .ok (.bipush 7, 2) := by decide +kernel
theorem dX7_putBack_76 : decode cX7_putBack 76 = .ok (.iaload, 1) := by decide +kernel
theorem dX7_putBack_77 : decode cX7_putBack 77 = .ok (.iconst 1, 1) := by decide +kernel
theorem dX7_putBack_78 : decode cX7_putBack 78 = .ok (.isub, 1) := by decide +kernel
theorem dX7_putBack_79 : decode cX7_putBack 79 = .ok (.istore_n 1, 1) := by decide +kernel
theorem dX7_putBack_80 : decode cX7_putBack 80 = .ok (.iload_n 1, 1) := by decide +kernel
theorem dX7_putBack_81 : decode cX7_putBack 81 = .ok (.ifCond .lt 72, 3) := by decide +kernel
theorem dX7_putBack_84 : decode cX7_putBack 84 = .ok (.aload_n 0, 1) := by decide +kernel
theorem dX7_putBack_85 : decode cX7_putBack 85 = .ok (.getfield 20, 3) := by decide +kernel
theorem dX7_putBack_88 : decode cX7_putBack 88 = .ok (.sipush 226, 3) := by decide +kernel
theorem dX7_putBack_91 : decode cX7_putBack 91 = .ok (.iload_n 1, 1) := by decide +kernel
theorem dX7_putBack_92 : decode cX7_putBack 92 = .ok (.iadd, 1) := by decide +kernel
theorem dX7_putBack_93 : decode cX7_putBack 93 = .ok (.iaload, 1) := by decide +kernel
theorem dX7_putBack_94 : decode cX7_putBack 94 = .ok (.istore_n 2, 1) := by decide +kernel
theorem dX7_putBack_95 : decode cX7_putBack 95 = .ok (.aload_n 0, 1) := by decide +kernel
theorem dX7_putBack_96 : decode cX7_putBack 96 = .ok (.getfield 20, 3) := by decide +kernel
theorem dX7_putBack_99 : decode cX7_putBack 99 = .ok (.iload_n 2, 1) := by decide +kernel
theorem dX7_putBack_100 : decode cX7_putBack 100 = .ok (.invokestatic 167, 3) := by decide +kernel
theorem dX7_putBack_103 : decode cX7_putBack 103 = .ok (.iconst 0, 1) := by decide +kernel
theorem dX7_putBack_104 : decode cX7_putBack 104 = .ok (.iadd, 1) := by decide +kernel
theorem dX7_putBack_105 : decode cX7_putBack 105 = .ok (.iconst 0, 1) := by decide +kernel
theorem dX7_putBack_106 : decode cX7_putBack 106 = .ok (.iastore, 1) := by decide +kernel
theorem dX7_putBack_107 : decode cX7_putBack 107 = .ok (.aload_n 0, 1) := by decide +kernel
theorem dX7_putBack_108 : decode cX7_putBack 108 = .ok (.getfield 20, 3) := by decide +kernel
theorem dX7_putBack_111 : decode cX7_putBack 111 = .ok (.iload_n 2, 1) := by decide +kernel
theorem dX7_putBack_112 : decode cX7_putBack 112 = .ok (.invokestatic 167, 3) := by decide +kernel
theorem dX7_putBack_115 : decode cX7_putBack 115 = .ok (.iconst 2, 1) := by decide +kernel
theorem dX7_putBack_116 : decode cX7_putBack 116 = .ok (.iadd, 1) := by decide +kernel
theorem dX7_putBack_117 : decode cX7_putBack 117 = .ok (.iconst (-1), 1) := by decide +kernel
theorem dX7_putBack_118 : decode cX7_putBack 118 = .ok (.iastore, 1) := by decide +kernel
theorem dX7_putBack_119 : decode cX7_putBack 119 = .ok (.aload_n 0, 1) := by decide +kernel
theorem dX7_putBack_120 : decode cX7_putBack 120 = .ok (.getfield 20, 3) := by decide +kernel
theorem dX7_putBack_123 : decode cX7_putBack 123 = .ok (.sipush 186, 3) := by decide +kernel
theorem dX7_putBack_126 : decode cX7_putBack 126 = .ok (.aload_n 0, 1) := by decide +kernel
theorem dX7_putBack_127 : decode cX7_putBack 127 = .ok (.getfield 20, 3) := by decide +kernel
theorem dX7_putBack_130 : decode cX7_putBack 130 = .ok (.bipush 6, 2) := by decide +kernel
theorem dX7_putBack_132 : decode cX7_putBack 132 = .ok (.iaload, 1) := by decide +kernel
theorem dX7_putBack_133 : decode cX7_putBack 133 = .ok (.iadd, 1) := by decide +kernel
theorem dX7_putBack_134 : decode cX7_putBack 134 = .ok (.iload_n 2, 1) := by decide +kernel
theorem dX7_putBack_135 : decode cX7_putBack 135 = .ok (.iastore, 1) := by decide +kernel
theorem dX7_putBack_136 : decode cX7_putBack 136 = .ok (.aload_n 0, 1) := by decide +kernel
theorem dX7_putBack_137 : decode cX7_putBack 137 = .ok (.getfield 20, 3) := by decide +kernel
theorem dX7_putBack_140 : decode cX7_putBack 140 = .ok (.bipush 6, 2) := by decide +kernel
theorem dX7_putBack_142 : decode cX7_putBack 142 = .ok (.dup2, 1) := by decide +kernel
theorem dX7_putBack_143 : decode cX7_putBack 143 = .ok (.iaload, 1) := by decide +kernel
theorem dX7_putBack_144 : decode cX7_putBack 144 = .ok (.iconst 1, 1) := by decide +kernel
theorem dX7_putBack_145 : decode cX7_putBack 145 = .ok (.iadd, 1) := by decide +kernel
theorem dX7_putBack_146 : decode cX7_putBack 146 = .ok (.iastore, 1) := by decide +kernel
theorem dX7_putBack_147 : decode cX7_putBack 147 = .ok (.iinc 1 (-1), 3) := by decide +kernel
theorem dX7_putBack_150 : decode cX7_putBack 150 = .ok (.goto (-70), 3) := by decide +kernel
theorem dX7_putBack_153 : decode cX7_putBack 153 = .ok (.aload_n 0, 1) := by decide +kernel
theorem dX7_putBack_154 : decode cX7_putBack 154 = .ok (.getfield 20, 3) := by decide +kernel
theorem dX7_putBack_157 : decode cX7_putBack 157 = .ok (.bipush 7, 2) := by decide +kernel
theorem dX7_putBack_159 : decode cX7_putBack 159 = .ok (.iconst 0, 1) := by decide +kernel
theorem dX7_putBack_160 : decode cX7_putBack 160 = .ok (.iastore, 1) := by decide +kernel
theorem dX7_putBack_161 : decode cX7_putBack 161 = .ok (.aload_n 0, 1) := by decide +kernel
theorem dX7_putBack_162 : decode cX7_putBack 162 = .ok (.getfield 20, 3) := by decide +kernel
theorem dX7_putBack_165 : decode cX7_putBack 165 = .ok (.iconst 5, 1) := by decide +kernel
theorem dX7_putBack_166 : decode cX7_putBack 166 = .ok (.iconst 0, 1) := by decide +kernel
theorem dX7_putBack_167 : decode cX7_putBack 167 = .ok (.iastore, 1) := by decide +kernel
theorem dX7_putBack_168 : decode cX7_putBack 168 = .ok (.aload_n 0, 1) := by decide +kernel
theorem dX7_putBack_169 : decode cX7_putBack 169 = .ok (.getfield 20, 3) := by decide +kernel
theorem dX7_putBack_172 : decode cX7_putBack 172 = .ok (.bipush 6, 2) := by decide +kernel
theorem dX7_putBack_174 : decode cX7_putBack 174 = .ok (.iaload, 1) := by decide +kernel
theorem dX7_putBack_175 : decode cX7_putBack 175 = .ok (.ireturn, 1) := by decide +kernel
theorem dX7_accept_0 : decode cX7_accept 0 = .ok (.aload_n 0, 1) := by decide +kernel
theorem dX7_accept_1 : decode cX7_accept 1 = .ok (.aload_n 0, 1) := by decide +kernel
theorem dX7_accept_2 : decode cX7_accept 2 = .ok (.getfield 20, 3) := by decide +kernel
theorem dX7_accept_5 : decode cX7_accept 5 = .ok (.iconst 5, 1) := by decide +kernel
theorem dX7_accept_6 : decode cX7_accept 6 = .ok (.iaload, 1) := by decide +kernel
theorem dX7_accept_7 : decode cX7_accept 7 = .ok (.ifCond .eq 13, 3) := by decide +kernel
theorem dX7_accept_10 : decode cX7_accept 10 = .ok (.aload_n 0, 1) := by decide +kernel
theorem dX7_accept_11 : decode cX7_accept 11 = .ok (.getfield 20, 3) := by decide +kernel
theorem dX7_accept_14 : decode cX7_accept 14 = .ok (.iconst 5, 1) := by decide +kernel
theorem dX7_accept_15 : decode cX7_accept 15 = .ok (.iaload, 1) := by decide +kernel
theorem dX7_accept_16 : decode cX7_accept 16 = .ok (.iconst 3, 1) := by decide +kernel
theorem dX7_accept_17 : decode cX7_accept 17 = .ok (.if_icmp .ne 7, 3) := by decide +kernel
theorem dX7_accept_20 : decode cX7_accept 20 = .ok (.iconst 1, 1) := by decide +kernel
theorem dX7_accept_21 : decode cX7_accept 21 = .ok (.goto 4, 3) := by decide +kernel
theorem dX7_accept_24 : decode cX7_accept 24 = .ok (.iconst 0, 1) := by decide +kernel
theorem dX7_accept_25 : decode cX7_accept 25 = .ok (.putfield 45, 3) := by decide +kernel
theorem dX7_accept_28 : decode cX7_accept 28 = .ok (.aload_n 0, 1) := by decide +kernel
theorem dX7_accept_29 : decode cX7_accept 29 = .ok (.getfield 45, 3) := by decide +kernel
theorem dX7_accept_32 : decode cX7_accept 32 = .ok (.ifCond .le 5, 3) := by decide +kernel
theorem dX7_accept_35 : decode cX7_accept 35 = .ok (.iconst 0, 1) := by decide +kernel
theorem dX7_accept_36 : decode cX7_accept 36 = .ok (.ireturn, 1) := by decide +kernel
theorem dX7_accept_37 : decode cX7_accept 37 = .ok (.aload_n 0, 1) := by decide +kernel
theorem dX7_accept_38 : decode cX7_accept 38 = .ok (.invokevirtual 222, 3) := by decide +kernel
theorem dX7_accept_41 : decode cX7_accept 41 = .ok (.aload_n 0, 1) := by decide +kernel
theorem dX7_accept_42 : decode cX7_accept 42 = .ok (.getfield 20, 3) := by decide +kernel
theorem dX7_accept_45 : decode cX7_accept 45 = .ok (.bipush 25, 2) := by decide +kernel
theorem dX7_accept_47 : decode cX7_accept 47 = .ok (.dup2, 1) := by decide +kernel
theorem dX7_accept_48 : decode cX7_accept 48 = .ok (.iaload, 1) := by decide +kernel
theorem dX7_accept_49 : decode cX7_accept 49 = .ok (.iconst 1, 1) := by decide +kernel
theorem dX7_accept_50 : decode cX7_accept 50 = .ok (.iadd, 1) := by decide +kernel
theorem dX7_accept_51 : decode cX7_accept 51 = .ok (.iastore, 1) := by decide +kernel
theorem dX7_accept_52 : decode cX7_accept 52 = .ok (.aload_n 0, 1) := by decide +kernel
theorem dX7_accept_53 : decode cX7_accept 53 = .ok (.invokevirtual 219, 3) := by decide +kernel
theorem dX7_accept_56 : decode cX7_accept 56 = .ok (.ireturn, 1) := by decide +kernel
theorem dX7_endJob_0 : decode cX7_endJob 0 = .ok (.aload_n 0, 1) := by decide +kernel
theorem dX7_endJob_1 : decode cX7_endJob 1 = .ok (.iload_n 1, 1) := by decide +kernel
theorem dX7_endJob_2 : decode cX7_endJob 2 = .ok (.iconst 0, 1) := by decide +kernel
theorem dX7_endJob_3 : decode cX7_endJob 3 = .ok (.sipush 999, 3) := by decide +kernel
theorem dX7_endJob_6 : decode cX7_endJob 6 = .ok (.invokestatic 72, 3) := by decide +kernel
theorem dX7_endJob_9 : decode cX7_endJob 9 = .ok (.ifCond .ne 7, 3) := by decide +kernel
theorem dX7_endJob_12 : decode cX7_endJob 12 = .ok (.iconst 1, 1) := by decide +kernel
theorem dX7_endJob_13 : decode cX7_endJob 13 = .ok (.goto 20, 3) := by decide +kernel
theorem dX7_endJob_16 : decode cX7_endJob 16 = .ok (.aload_n 0, 1) := by decide +kernel
theorem dX7_endJob_17 : decode cX7_endJob 17 = .ok (.getfield 20, 3) := by decide +kernel
theorem dX7_endJob_20 : decode cX7_endJob 20 = .ok (.bipush 16, 2) := by decide +kernel
theorem dX7_endJob_22 : decode cX7_endJob 22 = .ok (.iaload, 1) := by decide +kernel
theorem dX7_endJob_23 : decode cX7_endJob 23 = .ok (.bipush 99, 2) := by decide +kernel
theorem dX7_endJob_25 : decode cX7_endJob 25 = .ok (.if_icmp .lt 7, 3) := by decide +kernel
theorem dX7_endJob_28 : decode cX7_endJob 28 = .ok (.iconst 2, 1) := by decide +kernel
theorem dX7_endJob_29 : decode cX7_endJob 29 = .ok (.goto 4, 3) := by decide +kernel
theorem dX7_endJob_32 : decode cX7_endJob 32 = .ok (.iconst 0, 1) := by decide +kernel
theorem dX7_endJob_33 : decode cX7_endJob 33 = .ok (.putfield 45, 3) := by decide +kernel
theorem dX7_endJob_36 : decode cX7_endJob 36 = .ok (.aload_n 0, 1) := by decide +kernel
theorem dX7_endJob_37 : decode cX7_endJob 37 = .ok (.getfield 45, 3) := by decide +kernel
theorem dX7_endJob_40 : decode cX7_endJob 40 = .ok (.ifCond .le 5, 3) := by decide +kernel
theorem dX7_endJob_43 : decode cX7_endJob 43 = .ok (.iconst 0, 1) := by decide +kernel
theorem dX7_endJob_44 : decode cX7_endJob 44 = .ok (.ireturn, 1) := by decide +kernel
theorem dX7_endJob_45 : decode cX7_endJob 45 = .ok (.aload_n 0, 1) := by decide +kernel
theorem dX7_endJob_46 : decode cX7_endJob 46 = .ok (.invokevirtual 222, 3) := by decide +kernel
theorem dX7_endJob_49 : decode cX7_endJob 49 = .ok (.aload_n 0, 1) := by decide +kernel
theorem dX7_endJob_50 : decode cX7_endJob 50 = .ok (.iload_n 1, 1) := by decide +kernel
theorem dX7_endJob_51 : decode cX7_endJob 51 = .ok (.invokevirtual 203, 3) := by decide +kernel
theorem dX7_endJob_54 : decode cX7_endJob 54 = .ok (.aload_n 0, 1) := by decide +kernel
theorem dX7_endJob_55 : decode cX7_endJob 55 = .ok (.getfield 20, 3) := by decide +kernel
theorem dX7_endJob_58 : decode cX7_endJob 58 = .ok (.bipush 16, 2) := by decide +kernel
theorem dX7_endJob_60 : decode cX7_endJob 60 = .ok (.iaload, 1) := by decide +kernel
theorem dX7_endJob_61 : decode cX7_endJob 61 = .ok (.iconst 1, 1) := by decide +kernel
theorem dX7_endJob_62 : decode cX7_endJob 62 = .ok (.isub, 1) := by decide +kernel
theorem dX7_endJob_63 : decode cX7_endJob 63 = .ok (.ireturn, 1) := by decide +kernel
theorem dX7_setLimit_0 : decode cX7_setLimit 0 = .ok (.aload_n 0, 1) := by decide +kernel
theorem dX7_setLimit_1 : decode cX7_setLimit 1 = .ok (.iload_n 1, 1) := by decide +kernel
theorem dX7_setLimit_2 : decode cX7_setLimit 2 = .ok (.iconst 0, 1) := by decide +kernel
theorem dX7_setLimit_3 : decode cX7_setLimit 3 = .ok (.iconst 3, 1) := by decide +kernel
theorem dX7_setLimit_4 : decode cX7_setLimit 4 = .ok (.invokestatic 72, 3) := by decide +kernel
theorem dX7_setLimit_7 : decode cX7_setLimit 7 = .ok (.ifCond .eq 22, 3) := by decide +kernel
theorem dX7_setLimit_10 : decode cX7_setLimit 10 = .ok (.iload_n 2, 1) := by decide +kernel
theorem dX7_setLimit_11 : decode cX7_setLimit 11 = .ok (.iload_n 1, 1) := by decide +kernel
theorem dX7_setLimit_12 : decode cX7_setLimit 12 = .ok (.invokestatic 127, 3) := by decide +kernel
theorem dX7_setLimit_15 : decode cX7_setLimit 15 = .ok (.iload_n 1, 1) := by decide +kernel
theorem dX7_setLimit_16 : decode cX7_setLimit 16 = .ok (.invokestatic 130, 3) := by decide +kernel
theorem dX7_setLimit_19 : decode cX7_setLimit 19 = .ok (.invokestatic 72, 3) := by decide +kernel
theorem dX7_setLimit_22 : decode cX7_setLimit 22 = .ok (.ifCond .eq 7, 3) := by decide +kernel
theorem dX7_setLimit_25 : decode cX7_setLimit 25 = .ok (.iconst 0, 1) := by decide +kernel
theorem dX7_setLimit_26 : decode cX7_setLimit 26 = .ok (.goto 4, 3) := by decide +kernel
theorem dX7_setLimit_29 : decode cX7_setLimit 29 = .ok (.iconst 1, 1) := by decide +kernel
theorem dX7_setLimit_30 : decode cX7_setLimit 30 = .ok (.putfield 45, 3) := by decide +kernel
theorem dX7_setLimit_33 : decode cX7_setLimit 33 = .ok (.aload_n 0, 1) := by decide +kernel
theorem dX7_setLimit_34 : decode cX7_setLimit 34 = .ok (.getfield 45, 3) := by decide +kernel
theorem dX7_setLimit_37 : decode cX7_setLimit 37 = .ok (.ifCond .le 5, 3) := by decide +kernel
theorem dX7_setLimit_40 : decode cX7_setLimit 40 = .ok (.iconst 0, 1) := by decide +kernel
theorem dX7_setLimit_41 : decode cX7_setLimit 41 = .ok (.ireturn, 1) := by decide +kernel
theorem dX7_setLimit_42 : decode cX7_setLimit 42 = .ok (.aload_n 0, 1) := by decide +kernel
theorem dX7_setLimit_43 : decode cX7_setLimit 43 = .ok (.invokevirtual 222, 3) := by decide +kernel
theorem dX7_setLimit_46 : decode cX7_setLimit 46 = .ok (.aload_n 0, 1) := by decide +kernel
theorem dX7_setLimit_47 : decode cX7_setLimit 47 = .ok (.getfield 20, 3) := by decide +kernel
theorem dX7_setLimit_50 : decode cX7_setLimit 50 = .ok (.iconst 1, 1) := by decide +kernel
theorem dX7_setLimit_51 : decode cX7_setLimit 51 = .ok (.iload_n 1, 1) := by decide +kernel
theorem dX7_setLimit_52 : decode cX7_setLimit 52 = .ok (.iadd, 1) := by decide +kernel
theorem dX7_setLimit_53 : decode cX7_setLimit 53 = .ok (.iaload, 1) := by decide +kernel
theorem dX7_setLimit_54 : decode cX7_setLimit 54 = .ok (.istore_n 3, 1) := by decide +kernel
theorem dX7_setLimit_55 : decode cX7_setLimit 55 = .ok (.aload_n 0, 1) := by decide +kernel
theorem dX7_setLimit_56 : decode cX7_setLimit 56 = .ok (.getfield 20, 3) := by decide +kernel
theorem dX7_setLimit_59 : decode cX7_setLimit 59 = .ok (.iconst 1, 1) := by decide +kernel
theorem dX7_setLimit_60 : decode cX7_setLimit 60 = .ok (.iload_n 1, 1) := by decide +kernel
theorem dX7_setLimit_61 : decode cX7_setLimit 61 = .ok (.iadd, 1) := by decide +kernel
theorem dX7_setLimit_62 : decode cX7_setLimit 62 = .ok (.iload_n 2, 1) := by decide +kernel
theorem dX7_setLimit_63 : decode cX7_setLimit 63 = .ok (.iastore, 1) := by decide +kernel
theorem dX7_setLimit_64 : decode cX7_setLimit 64 = .ok (.iload_n 3, 1) := by decide +kernel
theorem dX7_setLimit_65 : decode cX7_setLimit 65 = .ok (.ireturn, 1) := by decide +kernel
theorem dX7_setDuplex_0 : decode cX7_setDuplex 0 = .ok (.aload_n 0, 1) := by decide +kernel
theorem dX7_setDuplex_1 : decode cX7_setDuplex 1 = .ok (.iconst 0, 1) := by decide +kernel
theorem dX7_setDuplex_2 : decode cX7_setDuplex 2 = .ok (.putfield 45, 3) := by decide +kernel
theorem dX7_setDuplex_5 : decode cX7_setDuplex 5 = .ok (.aload_n 0, 1) := by decide +kernel
theorem dX7_setDuplex_6 : decode cX7_setDuplex 6 = .ok (.invokevirtual 222, 3) := by decide +kernel
theorem dX7_setDuplex_9 : decode cX7_setDuplex 9 = .ok (.aload_n 0, 1) := by decide +kernel
theorem dX7_setDuplex_10 : decode cX7_setDuplex 10 = .ok (.getfield 20, 3) := by decide +kernel
theorem dX7_setDuplex_13 : decode cX7_setDuplex 13 = .ok (.iconst 0, 1) := by decide +kernel
theorem dX7_setDuplex_14 : decode cX7_setDuplex 14 = .ok (.iaload, 1) := by decide +kernel
theorem dX7_setDuplex_15 : decode cX7_setDuplex 15 = .ok (.iconst 1, 1) := by decide +kernel
theorem dX7_setDuplex_16 : decode cX7_setDuplex 16 = .ok (.if_icmp .ne 7, 3) := by decide +kernel
theorem dX7_setDuplex_19 : decode cX7_setDuplex 19 = .ok (.iconst 1, 1) := by decide +kernel
theorem dX7_setDuplex_20 : decode cX7_setDuplex 20 = .ok (.goto 4, 3) := by decide +kernel
theorem dX7_setDuplex_23 : decode cX7_setDuplex 23 = .ok (.iconst 0, 1) := by decide +kernel
theorem dX7_setDuplex_24 : decode cX7_setDuplex 24 = .ok (.istore_n 2, 1) := by decide +kernel
theorem dX7_setDuplex_25 : decode cX7_setDuplex 25 = .ok (.aload_n 0, 1) := by decide +kernel
theorem dX7_setDuplex_26 : decode cX7_setDuplex 26 = .ok (.getfield 20, 3) := by decide +kernel
theorem dX7_setDuplex_29 : decode cX7_setDuplex 29 = .ok (.iconst 0, 1) := by decide +kernel
theorem dX7_setDuplex_30 : decode cX7_setDuplex 30 = .ok (.iload_n 1, 1) := by decide +kernel
theorem dX7_setDuplex_31 : decode cX7_setDuplex 31 = .ok (.ifCond .eq 7, 3) := by decide +kernel
theorem dX7_setDuplex_34 : decode cX7_setDuplex 34 = .ok (.iconst 1, 1) := by decide +kernel
theorem dX7_setDuplex_35 : decode cX7_setDuplex 35 = .ok (.goto 4, 3) := by decide +kernel
theorem dX7_setDuplex_38 : decode cX7_setDuplex 38 = .ok (.iconst 0, 1) := by decide +kernel
theorem dX7_setDuplex_39 : decode cX7_setDuplex 39 = .ok (.iastore, 1) := by decide +kernel
theorem dX7_setDuplex_40 : decode cX7_setDuplex 40 = .ok (.iload_n 2, 1) := by decide +kernel
theorem dX7_setDuplex_41 : decode cX7_setDuplex 41 = .ok (.ireturn, 1) := by decide +kernel
theorem dX7_halves_0 : decode cX7_halves 0 = .ok (.iconst 0, 1) := by decide +kernel
theorem dX7_halves_1 : decode cX7_halves 1 = .ok (.istore_n 1, 1) := by decide +kernel
theorem dX7_halves_2 : decode cX7_halves 2 = .ok (.iconst 0, 1) := by decide +kernel
theorem dX7_halves_3 : decode cX7_halves 3 = .ok (.istore_n 2, 1) := by decide +kernel
theorem dX7_halves_4 : decode cX7_halves 4 = .ok (.iload_n 2, 1) := by decide +kernel
theorem dX7_halves_5 : decode cX7_halves 5 = .ok (.aload_n 0, 1) := by decide +kernel
theorem dX7_halves_6 : decode cX7_halves 6 = .ok (.invokevirtual 164, 3) := by decide +kernel
theorem dX7_halves_9 : decode cX7_halves 9 = .ok (.if_icmp .ge 23, 3) := by decide +kernel
theorem dX7_halves_12 : decode cX7_halves 12 = .ok (.iload_n 1, 1) := by decide +kernel
theorem dX7_halves_13 : decode cX7_halves 13 = .ok (.aload_n 0, 1) := by decide +kernel
theorem dX7_halves_14 : decode cX7_halves 14 = .ok (.getfield 20, 3) := by decide +kernel
theorem dX7_halves_17 : decode cX7_halves 17 = .ok (.iload_n 2, 1) := by decide +kernel
theorem dX7_halves_18 : decode cX7_halves 18 = .ok (.invokestatic 167, 3) := by decide +kernel
theorem dX7_halves_21 : decode cX7_halves 21 = .ok (.iconst 3, 1) := by decide +kernel
theorem dX7_halves_22 : decode cX7_halves 22 = .ok (.iadd, 1) := by decide +kernel
theorem dX7_halves_23 : decode cX7_halves 23 = .ok (.iaload, 1) := by decide +kernel
theorem dX7_halves_24 : decode cX7_halves 24 = .ok (.iadd, 1) := by decide +kernel
theorem dX7_halves_25 : decode cX7_halves 25 = .ok (.istore_n 1, 1) := by decide +kernel
theorem dX7_halves_26 : decode cX7_halves 26 = .ok (.iinc 2 1, 3) := by decide +kernel
theorem dX7_halves_29 : decode cX7_halves 29 = .ok (.goto (-25), 3) := by decide +kernel
theorem dX7_halves_32 : decode cX7_halves 32 = .ok (.iload_n 1, 1) := by decide +kernel
theorem dX7_halves_33 : decode cX7_halves 33 = .ok (.ireturn, 1) := by decide +kernel
theorem dX7_size_0 : decode cX7_size 0 = .ok (.aload_n 0, 1) := by decide +kernel
theorem dX7_size_1 : decode cX7_size 1 = .ok (.iload_n 1, 1) := by decide +kernel
theorem dX7_size_2 : decode cX7_size 2 = .ok (.iconst 0, 1) := by decide +kernel
theorem dX7_size_3 : decode cX7_size 3 = .ok (.bipush 11, 2) := by decide +kernel
theorem dX7_size_5 : decode cX7_size 5 = .ok (.invokestatic 72, 3) := by decide +kernel
theorem dX7_size_8 : decode cX7_size 8 = .ok (.ifCond .eq 7, 3) := by decide +kernel
theorem dX7_size_11 : decode cX7_size 11 = .ok (.iconst 0, 1) := by decide +kernel
theorem dX7_size_12 : decode cX7_size 12 = .ok (.goto 4, 3) := by decide +kernel
theorem dX7_size_15 : decode cX7_size 15 = .ok (.iconst 1, 1) := by decide +kernel
theorem dX7_size_16 : decode cX7_size 16 = .ok (.putfield 45, 3) := by decide +kernel
theorem dX7_size_19 : decode cX7_size 19 = .ok (.aload_n 0, 1) := by decide +kernel
theorem dX7_size_20 : decode cX7_size 20 = .ok (.getfield 45, 3) := by decide +kernel
theorem dX7_size_23 : decode cX7_size 23 = .ok (.ifCond .le 5, 3) := by decide +kernel
theorem dX7_size_26 : decode cX7_size 26 = .ok (.iconst 0, 1) := by decide +kernel
theorem dX7_size_27 : decode cX7_size 27 = .ok (.ireturn, 1) := by decide +kernel
theorem dX7_size_28 : decode cX7_size 28 = .ok (.iload_n 1, 1) := by decide +kernel
theorem dX7_size_29 : decode cX7_size 29 = .ok (.tableswitch 134 0 10 #[59, 64, 72, 80, 87, 95, 103, 110, 117, 124, 129], 59) := by decide +kernel
theorem dX7_size_88 : decode cX7_size 88 = .ok (.aload_n 0, 1) := by decide +kernel
theorem dX7_size_89 : decode cX7_size 89 = .ok (.invokevirtual 164, 3) := by decide +kernel
theorem dX7_size_92 : decode cX7_size 92 = .ok (.ireturn, 1) := by decide +kernel
theorem dX7_size_93 : decode cX7_size 93 = .ok (.aload_n 0, 1) := by decide +kernel
theorem dX7_size_94 : decode cX7_size 94 = .ok (.getfield 20, 3) := by decide +kernel
theorem dX7_size_97 : decode cX7_size 97 = .ok (.bipush 6, 2) := by decide +kernel
theorem dX7_size_99 : decode cX7_size 99 = .ok (.iaload, 1) := by decide +kernel
theorem dX7_size_100 : decode cX7_size 100 = .ok (.ireturn, 1) := by decide +kernel
theorem dX7_size_101 : decode cX7_size 101 = .ok (.aload_n 0, 1) := by decide +kernel
theorem dX7_size_102 : decode cX7_size 102 = .ok (.getfield 20, 3) := by decide +kernel
theorem dX7_size_105 : decode cX7_size 105 = .ok (.bipush 7, 2) := by decide +kernel
theorem dX7_size_107 : decode cX7_size 107 = .ok (.iaload, 1) := by decide +kernel
theorem dX7_size_108 : decode cX7_size 108 = .ok (.ireturn, 1) := by decide +kernel
theorem dX7_size_109 : decode cX7_size 109 = .ok (.aload_n 0, 1) := by decide +kernel
theorem dX7_size_110 : decode cX7_size 110 = .ok (.getfield 20, 3) := by decide +kernel
theorem dX7_size_113 : decode cX7_size 113 = .ok (.iconst 5, 1) := by decide +kernel
theorem dX7_size_114 : decode cX7_size 114 = .ok (.iaload, 1) := by decide +kernel
theorem dX7_size_115 : decode cX7_size 115 = .ok (.ireturn, 1) := by decide +kernel
theorem dX7_size_116 : decode cX7_size 116 = .ok (.aload_n 0, 1) := by decide +kernel
theorem dX7_size_117 : decode cX7_size 117 = .ok (.getfield 20, 3) := by decide +kernel
theorem dX7_size_120 : decode cX7_size 120 = .ok (.bipush 15, 2) := by decide +kernel
theorem dX7_size_122 : decode cX7_size 122 = .ok (.iaload, 1) := by decide +kernel
theorem dX7_size_123 : decode cX7_size 123 = .ok (.ireturn, 1) := by decide +kernel
theorem dX7_size_124 : decode cX7_size 124 = .ok (.aload_n 0, 1) := by decide +kernel
theorem dX7_size_125 : decode cX7_size 125 = .ok (.getfield 20, 3) := by decide +kernel
theorem dX7_size_128 : decode cX7_size 128 = .ok (.bipush 16, 2) := by decide +kernel
theorem dX7_size_130 : decode cX7_size 130 = .ok (.iaload, 1) := by decide +kernel
theorem dX7_size_131 : decode cX7_size 131 = .ok (.ireturn, 1) := by decide +kernel
theorem dX7_size_132 : decode cX7_size 132 = .ok (.aload_n 0, 1) := by decide +kernel
theorem dX7_size_133 : decode cX7_size 133 = .ok (.getfield 20, 3) := by decide +kernel
theorem dX7_size_136 : decode cX7_size 136 = .ok (.iconst 0, 1) := by decide +kernel
theorem dX7_size_137 : decode cX7_size 137 = .ok (.iaload, 1) := by decide +kernel
theorem dX7_size_138 : decode cX7_size 138 = .ok (.ireturn, 1) := by decide +kernel
theorem dX7_size_139 : decode cX7_size 139 = .ok (.aload_n 0, 1) := by decide +kernel
theorem dX7_size_140 : decode cX7_size 140 = .ok (.getfield 17, 3) := by decide +kernel
theorem dX7_size_143 : decode cX7_size 143 = .ok (.iconst 0, 1) := by decide +kernel
theorem dX7_size_144 : decode cX7_size 144 = .ok (.iaload, 1) := by decide +kernel
theorem dX7_size_145 : decode cX7_size 145 = .ok (.ireturn, 1) := by decide +kernel
theorem dX7_size_146 : decode cX7_size 146 = .ok (.aload_n 0, 1) := by decide +kernel
theorem dX7_size_147 : decode cX7_size 147 = .ok (.getfield 17, 3) := by decide +kernel
theorem dX7_size_150 : decode cX7_size 150 = .ok (.iconst 1, 1) := by decide +kernel
theorem dX7_size_151 : decode cX7_size 151 = .ok (.iaload, 1) := by decide +kernel
theorem dX7_size_152 : decode cX7_size 152 = .ok (.ireturn, 1) := by decide +kernel
theorem dX7_size_153 : decode cX7_size 153 = .ok (.aload_n 0, 1) := by decide +kernel
theorem dX7_size_154 : decode cX7_size 154 = .ok (.invokevirtual 186, 3) := by decide +kernel
theorem dX7_size_157 : decode cX7_size 157 = .ok (.ireturn, 1) := by decide +kernel
theorem dX7_size_158 : decode cX7_size 158 = .ok (.aload_n 0, 1) := by decide +kernel
theorem dX7_size_159 : decode cX7_size 159 = .ok (.invokevirtual 231, 3) := by decide +kernel
theorem dX7_size_162 : decode cX7_size 162 = .ok (.ireturn, 1) := by decide +kernel
theorem dX7_size_163 : decode cX7_size 163 = .ok (.aload_n 0, 1) := by decide +kernel
theorem dX7_size_164 : decode cX7_size 164 = .ok (.getfield 173, 3) := by decide +kernel
theorem dX7_size_167 : decode cX7_size 167 = .ok (.ireturn, 1) := by decide +kernel
theorem dX7_limit_0 : decode cX7_limit 0 = .ok (.aload_n 0, 1) := by decide +kernel
theorem dX7_limit_1 : decode cX7_limit 1 = .ok (.iload_n 1, 1) := by decide +kernel
theorem dX7_limit_2 : decode cX7_limit 2 = .ok (.iconst 0, 1) := by decide +kernel
theorem dX7_limit_3 : decode cX7_limit 3 = .ok (.iconst 3, 1) := by decide +kernel
theorem dX7_limit_4 : decode cX7_limit 4 = .ok (.invokestatic 72, 3) := by decide +kernel
theorem dX7_limit_7 : decode cX7_limit 7 = .ok (.ifCond .eq 7, 3) := by decide +kernel
theorem dX7_limit_10 : decode cX7_limit 10 = .ok (.iconst 0, 1) := by decide +kernel
theorem dX7_limit_11 : decode cX7_limit 11 = .ok (.goto 4, 3) := by decide +kernel
theorem dX7_limit_14 : decode cX7_limit 14 = .ok (.iconst 1, 1) := by decide +kernel
theorem dX7_limit_15 : decode cX7_limit 15 = .ok (.putfield 45, 3) := by decide +kernel
theorem dX7_limit_18 : decode cX7_limit 18 = .ok (.aload_n 0, 1) := by decide +kernel
theorem dX7_limit_19 : decode cX7_limit 19 = .ok (.getfield 45, 3) := by decide +kernel
theorem dX7_limit_22 : decode cX7_limit 22 = .ok (.ifCond .ne 14, 3) := by decide +kernel
theorem dX7_limit_25 : decode cX7_limit 25 = .ok (.aload_n 0, 1) := by decide +kernel
theorem dX7_limit_26 : decode cX7_limit 26 = .ok (.getfield 20, 3) := by decide +kernel
theorem dX7_limit_29 : decode cX7_limit 29 = .ok (.iconst 1, 1) := by decide +kernel
theorem dX7_limit_30 : decode cX7_limit 30 = .ok (.iload_n 1, 1) := by decide +kernel
theorem dX7_limit_31 : decode cX7_limit 31 = .ok (.iadd, 1) := by decide +kernel
theorem dX7_limit_32 : decode cX7_limit 32 = .ok (.iaload, 1) := by decide +kernel
theorem dX7_limit_33 : decode cX7_limit 33 = .ok (.goto 4, 3) := by decide +kernel
theorem dX7_limit_36 : decode cX7_limit 36 = .ok (.iconst 0, 1) := by decide +kernel
theorem dX7_limit_37 : decode cX7_limit 37 = .ok (.ireturn, 1) := by decide +kernel
theorem dX7_sheet_0 : decode cX7_sheet 0 = .ok (.aload_n 0, 1) := by decide +kernel
theorem dX7_sheet_1 : decode cX7_sheet 1 = .ok (.aload_n 0, 1) := by decide +kernel
theorem dX7_sheet_2 : decode cX7_sheet 2 = .ok (.iload_n 1, 1) := by decide +kernel
theorem dX7_sheet_3 : decode cX7_sheet 3 = .ok (.invokevirtual 234, 3) := by decide +kernel
theorem dX7_sheet_6 : decode cX7_sheet 6 = .ok (.ifCond .ne 7, 3) := by decide +kernel
theorem dX7_sheet_9 : decode cX7_sheet 9 = .ok (.iconst 1, 1) := by decide +kernel
theorem dX7_sheet_10 : decode cX7_sheet 10 = .ok (.goto 18, 3) := by decide +kernel
theorem dX7_sheet_13 : decode cX7_sheet 13 = .ok (.iload_n 2, 1) := by decide +kernel
theorem dX7_sheet_14 : decode cX7_sheet 14 = .ok (.iconst 0, 1) := by decide +kernel
theorem dX7_sheet_15 : decode cX7_sheet 15 = .ok (.bipush 7, 2) := by decide +kernel
theorem dX7_sheet_17 : decode cX7_sheet 17 = .ok (.invokestatic 72, 3) := by decide +kernel
theorem dX7_sheet_20 : decode cX7_sheet 20 = .ok (.ifCond .ne 7, 3) := by decide +kernel
theorem dX7_sheet_23 : decode cX7_sheet 23 = .ok (.iconst 2, 1) := by decide +kernel
theorem dX7_sheet_24 : decode cX7_sheet 24 = .ok (.goto 4, 3) := by decide +kernel
theorem dX7_sheet_27 : decode cX7_sheet 27 = .ok (.iconst 0, 1) := by decide +kernel
theorem dX7_sheet_28 : decode cX7_sheet 28 = .ok (.putfield 45, 3) := by decide +kernel
theorem dX7_sheet_31 : decode cX7_sheet 31 = .ok (.aload_n 0, 1) := by decide +kernel
theorem dX7_sheet_32 : decode cX7_sheet 32 = .ok (.getfield 45, 3) := by decide +kernel
theorem dX7_sheet_35 : decode cX7_sheet 35 = .ok (.ifCond .le 5, 3) := by decide +kernel
theorem dX7_sheet_38 : decode cX7_sheet 38 = .ok (.iconst 0, 1) := by decide +kernel
theorem dX7_sheet_39 : decode cX7_sheet 39 = .ok (.ireturn, 1) := by decide +kernel
theorem dX7_sheet_40 : decode cX7_sheet 40 = .ok (.iload_n 2, 1) := by decide +kernel
theorem dX7_sheet_41 : decode cX7_sheet 41 = .ok (.lookupswitch 71 #[(2, 35), (6, 47), (7, 59)], 35) := by decide +kernel
theorem dX7_sheet_76 : decode cX7_sheet 76 = .ok (.aload_n 0, 1) := by decide +kernel
theorem dX7_sheet_77 : decode cX7_sheet 77 = .ok (.getfield 20, 3) := by decide +kernel
theorem dX7_sheet_80 : decode cX7_sheet 80 = .ok (.iload_n 1, 1) := by decide +kernel
theorem dX7_sheet_81 : decode cX7_sheet 81 = .ok (.invokestatic 167, 3) := by decide +kernel
theorem dX7_sheet_84 : decode cX7_sheet 84 = .ok (.iconst 1, 1) := by decide +kernel
theorem dX7_sheet_85 : decode cX7_sheet 85 = .ok (.iadd, 1) := by decide +kernel
theorem dX7_sheet_86 : decode cX7_sheet 86 = .ok (.iaload, 1) := by decide +kernel
theorem dX7_sheet_87 : decode cX7_sheet 87 = .ok (.ireturn, 1) := by decide +kernel
theorem dX7_sheet_88 : decode cX7_sheet 88 = .ok (.aload_n 0, 1) := by decide +kernel
theorem dX7_sheet_89 : decode cX7_sheet 89 = .ok (.getfield 20, 3) := by decide +kernel
theorem dX7_sheet_92 : decode cX7_sheet 92 = .ok (.iload_n 1, 1) := by decide +kernel
theorem dX7_sheet_93 : decode cX7_sheet 93 = .ok (.invokestatic 167, 3) := by decide +kernel
theorem dX7_sheet_96 : decode cX7_sheet 96 = .ok (.iconst 2, 1) := by decide +kernel
theorem dX7_sheet_97 : decode cX7_sheet 97 = .ok (.iadd, 1) := by decide +kernel
theorem dX7_sheet_98 : decode cX7_sheet 98 = .ok (.iaload, 1) := by decide +kernel
theorem dX7_sheet_99 : decode cX7_sheet 99 = .ok (.ireturn, 1) := by decide +kernel
theorem dX7_sheet_100 : decode cX7_sheet 100 = .ok (.aload_n 0, 1) := by decide +kernel
theorem dX7_sheet_101 : decode cX7_sheet 101 = .ok (.getfield 20, 3) := by decide +kernel
theorem dX7_sheet_104 : decode cX7_sheet 104 = .ok (.iload_n 1, 1) := by decide +kernel
theorem dX7_sheet_105 : decode cX7_sheet 105 = .ok (.invokestatic 167, 3) := by decide +kernel
theorem dX7_sheet_108 : decode cX7_sheet 108 = .ok (.iconst 0, 1) := by decide +kernel
theorem dX7_sheet_109 : decode cX7_sheet 109 = .ok (.iadd, 1) := by decide +kernel
theorem dX7_sheet_110 : decode cX7_sheet 110 = .ok (.iaload, 1) := by decide +kernel
theorem dX7_sheet_111 : decode cX7_sheet 111 = .ok (.ireturn, 1) := by decide +kernel
theorem dX7_sheet_112 : decode cX7_sheet 112 = .ok (.aload_n 0, 1) := by decide +kernel
theorem dX7_sheet_113 : decode cX7_sheet 113 = .ok (.iload_n 1, 1) := by decide +kernel
theorem dX7_sheet_114 : decode cX7_sheet 114 = .ok (.iload_n 2, 1) := by decide +kernel
theorem dX7_sheet_115 : decode cX7_sheet 115 = .ok (.invokevirtual 170, 3) := by decide +kernel
theorem dX7_sheet_118 : decode cX7_sheet 118 = .ok (.ireturn, 1) := by decide +kernel
theorem dX7_stack_0 : decode cX7_stack 0 = .ok (.aload_n 0, 1) := by decide +kernel
theorem dX7_stack_1 : decode cX7_stack 1 = .ok (.iconst 0, 1) := by decide +kernel
theorem dX7_stack_2 : decode cX7_stack 2 = .ok (.putfield 45, 3) := by decide +kernel
theorem dX7_stack_5 : decode cX7_stack 5 = .ok (.iload_n 1, 1) := by decide +kernel
theorem dX7_stack_6 : decode cX7_stack 6 = .ok (.iconst 0, 1) := by decide +kernel
theorem dX7_stack_7 : decode cX7_stack 7 = .ok (.aload_n 0, 1) := by decide +kernel
theorem dX7_stack_8 : decode cX7_stack 8 = .ok (.getfield 20, 3) := by decide +kernel
theorem dX7_stack_11 : decode cX7_stack 11 = .ok (.bipush 6, 2) := by decide +kernel
theorem dX7_stack_13 : decode cX7_stack 13 = .ok (.iaload, 1) := by decide +kernel
theorem dX7_stack_14 : decode cX7_stack 14 = .ok (.iconst 1, 1) := by decide +kernel
theorem dX7_stack_15 : decode cX7_stack 15 = .ok (.isub, 1) := by decide +kernel
theorem dX7_stack_16 : decode cX7_stack 16 = .ok (.invokestatic 72, 3) := by decide +kernel
theorem dX7_stack_19 : decode cX7_stack 19 = .ok (.ifCond .eq 11, 3) := by decide +kernel
theorem dX7_stack_22 : decode cX7_stack 22 = .ok (.aload_n 0, 1) := by decide +kernel
theorem dX7_stack_23 : decode cX7_stack 23 = .ok (.iload_n 1, 1) := by decide +kernel
theorem dX7_stack_24 : decode cX7_stack 24 = .ok (.invokevirtual 180, 3) := by decide +kernel
theorem dX7_stack_27 : decode cX7_stack 27 = .ok (.goto 4, 3) := by decide +kernel
theorem dX7_stack_30 : decode cX7_stack 30 = .ok (.iconst (-1), 1) := by decide +kernel
theorem dX7_stack_31 : decode cX7_stack 31 = .ok (.ireturn, 1) := by decide +kernel
theorem dX7_path_0 : decode cX7_path 0 = .ok (.aload_n 0, 1) := by decide +kernel
theorem dX7_path_1 : decode cX7_path 1 = .ok (.iconst 0, 1) := by decide +kernel
theorem dX7_path_2 : decode cX7_path 2 = .ok (.putfield 45, 3) := by decide +kernel
theorem dX7_path_5 : decode cX7_path 5 = .ok (.iload_n 1, 1) := by decide +kernel
theorem dX7_path_6 : decode cX7_path 6 = .ok (.iconst 0, 1) := by decide +kernel
theorem dX7_path_7 : decode cX7_path 7 = .ok (.aload_n 0, 1) := by decide +kernel
theorem dX7_path_8 : decode cX7_path 8 = .ok (.getfield 20, 3) := by decide +kernel
theorem dX7_path_11 : decode cX7_path 11 = .ok (.bipush 7, 2) := by decide +kernel
theorem dX7_path_13 : decode cX7_path 13 = .ok (.iaload, 1) := by decide +kernel
theorem dX7_path_14 : decode cX7_path 14 = .ok (.iconst 1, 1) := by decide +kernel
theorem dX7_path_15 : decode cX7_path 15 = .ok (.isub, 1) := by decide +kernel
theorem dX7_path_16 : decode cX7_path 16 = .ok (.invokestatic 72, 3) := by decide +kernel
theorem dX7_path_19 : decode cX7_path 19 = .ok (.ifCond .eq 16, 3) := by decide +kernel
theorem dX7_path_22 : decode cX7_path 22 = .ok (.aload_n 0, 1) := by decide +kernel
theorem dX7_path_23 : decode cX7_path 23 = .ok (.getfield 20, 3) := by decide +kernel
theorem dX7_path_26 : decode cX7_path 26 = .ok (.sipush 226, 3) := by decide +kernel
theorem dX7_path_29 : decode cX7_path 29 = .ok (.iload_n 1, 1) := by decide +kernel
theorem dX7_path_30 : decode cX7_path 30 = .ok (.iadd, 1) := by decide +kernel
theorem dX7_path_31 : decode cX7_path 31 = .ok (.iaload, 1) := by decide +kernel
theorem dX7_path_32 : decode cX7_path 32 = .ok (.goto 4, 3) := by decide +kernel
theorem dX7_path_35 : decode cX7_path 35 = .ok (.iconst (-1), 1) := by decide +kernel
theorem dX7_path_36 : decode cX7_path 36 = .ok (.ireturn, 1) := by decide +kernel
theorem dX7_page_0 : decode cX7_page 0 = .ok (.aload_n 0, 1) := by decide +kernel
theorem dX7_page_1 : decode cX7_page 1 = .ok (.iload_n 1, 1) := by decide +kernel
theorem dX7_page_2 : decode cX7_page 2 = .ok (.iconst 0, 1) := by decide +kernel
theorem dX7_page_3 : decode cX7_page 3 = .ok (.aload_n 0, 1) := by decide +kernel
theorem dX7_page_4 : decode cX7_page 4 = .ok (.getfield 20, 3) := by decide +kernel
theorem dX7_page_7 : decode cX7_page 7 = .ok (.bipush 15, 2) := by decide +kernel
theorem dX7_page_9 : decode cX7_page 9 = .ok (.iaload, 1) := by decide +kernel
theorem dX7_page_10 : decode cX7_page 10 = .ok (.iconst 1, 1) := by decide +kernel
theorem dX7_page_11 : decode cX7_page 11 = .ok (.isub, 1) := by decide +kernel
theorem dX7_page_12 : decode cX7_page 12 = .ok (.invokestatic 72, 3) := by decide +kernel
theorem dX7_page_15 : decode cX7_page 15 = .ok (.ifCond .ne 7, 3) := by decide +kernel
theorem dX7_page_18 : decode cX7_page 18 = .ok (.iconst 1, 1) := by decide +kernel
theorem dX7_page_19 : decode cX7_page 19 = .ok (.goto 17, 3) := by decide +kernel
theorem dX7_page_22 : decode cX7_page 22 = .ok (.iload_n 2, 1) := by decide +kernel
theorem dX7_page_23 : decode cX7_page 23 = .ok (.iconst 0, 1) := by decide +kernel
theorem dX7_page_24 : decode cX7_page 24 = .ok (.iconst 2, 1) := by decide +kernel
theorem dX7_page_25 : decode cX7_page 25 = .ok (.invokestatic 72, 3) := by decide +kernel
theorem dX7_page_28 : decode cX7_page 28 = .ok (.ifCond .ne 7, 3) := by decide +kernel
theorem dX7_page_31 : decode cX7_page 31 = .ok (.iconst 2, 1) := by decide +kernel
theorem dX7_page_32 : decode cX7_page 32 = .ok (.goto 4, 3) := by decide +kernel
theorem dX7_page_35 : decode cX7_page 35 = .ok (.iconst 0, 1) := by decide +kernel
theorem dX7_page_36 : decode cX7_page 36 = .ok (.putfield 45, 3) := by decide +kernel
theorem dX7_page_39 : decode cX7_page 39 = .ok (.aload_n 0, 1) := by decide +kernel
theorem dX7_page_40 : decode cX7_page 40 = .ok (.getfield 45, 3) := by decide +kernel
theorem dX7_page_43 : decode cX7_page 43 = .ok (.ifCond .le 5, 3) := by decide +kernel
theorem dX7_page_46 : decode cX7_page 46 = .ok (.iconst 0, 1) := by decide +kernel
theorem dX7_page_47 : decode cX7_page 47 = .ok (.ireturn, 1) := by decide +kernel
theorem dX7_page_48 : decode cX7_page 48 = .ok (.aload_n 0, 1) := by decide +kernel
theorem dX7_page_49 : decode cX7_page 49 = .ok (.getfield 20, 3) := by decide +kernel
theorem dX7_page_52 : decode cX7_page 52 = .ok (.sipush 266, 3) := by decide +kernel
theorem dX7_page_55 : decode cX7_page 55 = .ok (.iconst 2, 1) := by decide +kernel
theorem dX7_page_56 : decode cX7_page 56 = .ok (.iload_n 1, 1) := by decide +kernel
theorem dX7_page_57 : decode cX7_page 57 = .ok (.imul, 1) := by decide +kernel
theorem dX7_page_58 : decode cX7_page 58 = .ok (.iadd, 1) := by decide +kernel
theorem dX7_page_59 : decode cX7_page 59 = .ok (.iaload, 1) := by decide +kernel
theorem dX7_page_60 : decode cX7_page 60 = .ok (.istore_n 3, 1) := by decide +kernel
theorem dX7_page_61 : decode cX7_page 61 = .ok (.iload_n 2, 1) := by decide +kernel
theorem dX7_page_62 : decode cX7_page 62 = .ok (.ifCond .ne 9, 3) := by decide +kernel
theorem dX7_page_65 : decode cX7_page 65 = .ok (.iload_n 3, 1) := by decide +kernel
theorem dX7_page_66 : decode cX7_page 66 = .ok (.iconst 2, 1) := by decide +kernel
theorem dX7_page_67 : decode cX7_page 67 = .ok (.idiv, 1) := by decide +kernel
theorem dX7_page_68 : decode cX7_page 68 = .ok (.goto 28, 3) := by decide +kernel
theorem dX7_page_71 : decode cX7_page 71 = .ok (.iload_n 2, 1) := by decide +kernel
theorem dX7_page_72 : decode cX7_page 72 = .ok (.iconst 1, 1) := by decide +kernel
theorem dX7_page_73 : decode cX7_page 73 = .ok (.if_icmp .ne 9, 3) := by decide +kernel
theorem dX7_page_76 : decode cX7_page 76 = .ok (.iload_n 3, 1) := by decide +kernel
theorem dX7_page_77 : decode cX7_page 77 = .ok (.iconst 2, 1) := by decide +kernel
theorem dX7_page_78 : decode cX7_page 78 = .ok (.irem, 1) := by decide +kernel
theorem dX7_page_79 : decode cX7_page 79 = .ok (.goto 17, 3) := by decide +kernel
theorem dX7_page_82 : decode cX7_page 82 = .ok (.aload_n 0, 1) := by decide +kernel
theorem dX7_page_83 : decode cX7_page 83 = .ok (.getfield 20, 3) := by decide +kernel
theorem dX7_page_86 : decode cX7_page 86 = .ok (.sipush 266, 3) := by decide +kernel
theorem dX7_page_89 : decode cX7_page 89 = .ok (.iconst 2, 1) := by decide +kernel
theorem dX7_page_90 : decode cX7_page 90 = .ok (.iload_n 1, 1) := by decide +kernel
theorem dX7_page_91 : decode cX7_page 91 = .ok (.imul, 1) := by decide +kernel
theorem dX7_page_92 : decode cX7_page 92 = .ok (.iadd, 1) := by decide +kernel
theorem dX7_page_93 : decode cX7_page 93 = .ok (.iconst 1, 1) := by decide +kernel
theorem dX7_page_94 : decode cX7_page 94 = .ok (.iadd, 1) := by decide +kernel
theorem dX7_page_95 : decode cX7_page 95 = .ok (.iaload, 1) := by decide +kernel
theorem dX7_page_96 : decode cX7_page 96 = .ok (.ireturn, 1) := by decide +kernel
theorem dX7_pagesIn_0 : decode cX7_pagesIn 0 = .ok (.iconst 0, 1) := by decide +kernel
theorem dX7_pagesIn_1 : decode cX7_pagesIn 1 = .ok (.istore_n 2, 1) := by decide +kernel
theorem dX7_pagesIn_2 : decode cX7_pagesIn 2 = .ok (.iconst 0, 1) := by decide +kernel
theorem dX7_pagesIn_3 : decode cX7_pagesIn 3 = .ok (.istore_n 3, 1) := by decide +kernel
theorem dX7_pagesIn_4 : decode cX7_pagesIn 4 = .ok (.iload_n 3, 1) := by decide +kernel
theorem dX7_pagesIn_5 : decode cX7_pagesIn 5 = .ok (.aload_n 0, 1) := by decide +kernel
theorem dX7_pagesIn_6 : decode cX7_pagesIn 6 = .ok (.getfield 20, 3) := by decide +kernel
theorem dX7_pagesIn_9 : decode cX7_pagesIn 9 = .ok (.bipush 15, 2) := by decide +kernel
theorem dX7_pagesIn_11 : decode cX7_pagesIn 11 = .ok (.iaload, 1) := by decide +kernel
theorem dX7_pagesIn_12 : decode cX7_pagesIn 12 = .ok (.if_icmp .ge 35, 3) := by decide +kernel
theorem dX7_pagesIn_15 : decode cX7_pagesIn 15 = .ok (.iload_n 2, 1) := by decide +kernel
theorem dX7_pagesIn_16 : decode cX7_pagesIn 16 = .ok (.aload_n 0, 1) := by decide +kernel
theorem dX7_pagesIn_17 : decode cX7_pagesIn 17 = .ok (.getfield 20, 3) := by decide +kernel
theorem dX7_pagesIn_20 : decode cX7_pagesIn 20 = .ok (.sipush 266, 3) := by decide +kernel
theorem dX7_pagesIn_23 : decode cX7_pagesIn 23 = .ok (.iconst 2, 1) := by decide +kernel
theorem dX7_pagesIn_24 : decode cX7_pagesIn 24 = .ok (.iload_n 3, 1) := by decide +kernel
theorem dX7_pagesIn_25 : decode cX7_pagesIn 25 = .ok (.imul, 1) := by decide +kernel
theorem dX7_pagesIn_26 : decode cX7_pagesIn 26 = .ok (.iadd, 1) := by decide +kernel
theorem dX7_pagesIn_27 : decode cX7_pagesIn 27 = .ok (.iconst 1, 1) := by decide +kernel
theorem dX7_pagesIn_28 : decode cX7_pagesIn 28 = .ok (.iadd, 1) := by decide +kernel
theorem dX7_pagesIn_29 : decode cX7_pagesIn 29 = .ok (.iaload, 1) := by decide +kernel
theorem dX7_pagesIn_30 : decode cX7_pagesIn 30 = .ok (.iload_n 1, 1) := by decide +kernel
theorem dX7_pagesIn_31 : decode cX7_pagesIn 31 = .ok (.if_icmp .ne 7, 3) := by decide +kernel
theorem dX7_pagesIn_34 : decode cX7_pagesIn 34 = .ok (.iconst 1, 1) := by decide +kernel
theorem dX7_pagesIn_35 : decode cX7_pagesIn 35 = .ok (.goto 4, 3) := by decide +kernel
theorem dX7_pagesIn_38 : decode cX7_pagesIn 38 = .ok (.iconst 0, 1) := by decide +kernel
theorem dX7_pagesIn_39 : decode cX7_pagesIn 39 = .ok (.iadd, 1) := by decide +kernel
theorem dX7_pagesIn_40 : decode cX7_pagesIn 40 = .ok (.istore_n 2, 1) := by decide +kernel
theorem dX7_pagesIn_41 : decode cX7_pagesIn 41 = .ok (.iinc 3 1, 3) := by decide +kernel
theorem dX7_pagesIn_44 : decode cX7_pagesIn 44 = .ok (.goto (-40), 3) := by decide +kernel
theorem dX7_pagesIn_47 : decode cX7_pagesIn 47 = .ok (.iload_n 2, 1) := by decide +kernel
theorem dX7_pagesIn_48 : decode cX7_pagesIn 48 = .ok (.ireturn, 1) := by decide +kernel
theorem dX7_firstIn_0 : decode cX7_firstIn 0 = .ok (.iconst 0, 1) := by decide +kernel
theorem dX7_firstIn_1 : decode cX7_firstIn 1 = .ok (.istore_n 2, 1) := by decide +kernel
theorem dX7_firstIn_2 : decode cX7_firstIn 2 = .ok (.iload_n 2, 1) := by decide +kernel
theorem dX7_firstIn_3 : decode cX7_firstIn 3 = .ok (.aload_n 0, 1) := by decide +kernel
theorem dX7_firstIn_4 : decode cX7_firstIn 4 = .ok (.getfield 20, 3) := by decide +kernel
theorem dX7_firstIn_7 : decode cX7_firstIn 7 = .ok (.bipush 15, 2) := by decide +kernel
theorem dX7_firstIn_9 : decode cX7_firstIn 9 = .ok (.iaload, 1) := by decide +kernel
theorem dX7_firstIn_10 : decode cX7_firstIn 10 = .ok (.if_icmp .ge 29, 3) := by decide +kernel
theorem dX7_firstIn_13 : decode cX7_firstIn 13 = .ok (.aload_n 0, 1) := by decide +kernel
theorem dX7_firstIn_14 : decode cX7_firstIn 14 = .ok (.getfield 20, 3) := by decide +kernel
theorem dX7_firstIn_17 : decode cX7_firstIn 17 = .ok (.sipush 266, 3) := by decide +kernel
theorem dX7_firstIn_20 : decode cX7_firstIn 20 = .ok (.iconst 2, 1) := by decide +kernel
theorem dX7_firstIn_21 : decode cX7_firstIn 21 = .ok (.iload_n 2, 1) := by decide +kernel
theorem dX7_firstIn_22 : decode cX7_firstIn 22 = .ok (.imul, 1) := by decide +kernel
theorem dX7_firstIn_23 : decode cX7_firstIn 23 = .ok (.iadd, 1) := by decide +kernel
theorem dX7_firstIn_24 : decode cX7_firstIn 24 = .ok (.iconst 1, 1) := by decide +kernel
theorem dX7_firstIn_25 : decode cX7_firstIn 25 = .ok (.iadd, 1) := by decide +kernel
theorem dX7_firstIn_26 : decode cX7_firstIn 26 = .ok (.iaload, 1) := by decide +kernel
theorem dX7_firstIn_27 : decode cX7_firstIn 27 = .ok (.iload_n 1, 1) := by decide +kernel
theorem dX7_firstIn_28 : decode cX7_firstIn 28 = .ok (.if_icmp .ne 5, 3) := by decide +kernel
theorem dX7_firstIn_31 : decode cX7_firstIn 31 = .ok (.iload_n 2, 1) := by decide +kernel
theorem dX7_firstIn_32 : decode cX7_firstIn 32 = .ok (.ireturn, 1) := by decide +kernel
theorem dX7_firstIn_33 : decode cX7_firstIn 33 = .ok (.iinc 2 1, 3) := by decide +kernel
theorem dX7_firstIn_36 : decode cX7_firstIn 36 = .ok (.goto (-34), 3) := by decide +kernel
theorem dX7_firstIn_39 : decode cX7_firstIn 39 = .ok (.iconst (-1), 1) := by decide +kernel
theorem dX7_firstIn_40 : decode cX7_firstIn 40 = .ok (.ireturn, 1) := by decide +kernel
theorem dX7_job_0 : decode cX7_job 0 = .ok (.aload_n 0, 1) := by decide +kernel
theorem dX7_job_1 : decode cX7_job 1 = .ok (.iload_n 1, 1) := by decide +kernel
theorem dX7_job_2 : decode cX7_job 2 = .ok (.iconst 0, 1) := by decide +kernel
theorem dX7_job_3 : decode cX7_job 3 = .ok (.aload_n 0, 1) := by decide +kernel
theorem dX7_job_4 : decode cX7_job 4 = .ok (.getfield 20, 3) := by decide +kernel
theorem dX7_job_7 : decode cX7_job 7 = .ok (.bipush 16, 2) := by decide +kernel
theorem dX7_job_9 : decode cX7_job 9 = .ok (.iaload, 1) := by decide +kernel
theorem dX7_job_10 : decode cX7_job 10 = .ok (.iconst 1, 1) := by decide +kernel
theorem dX7_job_11 : decode cX7_job 11 = .ok (.isub, 1) := by decide +kernel
theorem dX7_job_12 : decode cX7_job 12 = .ok (.invokestatic 72, 3) := by decide +kernel
theorem dX7_job_15 : decode cX7_job 15 = .ok (.ifCond .ne 7, 3) := by decide +kernel
theorem dX7_job_18 : decode cX7_job 18 = .ok (.iconst 1, 1) := by decide +kernel
theorem dX7_job_19 : decode cX7_job 19 = .ok (.goto 17, 3) := by decide +kernel
theorem dX7_job_22 : decode cX7_job 22 = .ok (.iload_n 2, 1) := by decide +kernel
theorem dX7_job_23 : decode cX7_job 23 = .ok (.iconst 0, 1) := by decide +kernel
theorem dX7_job_24 : decode cX7_job 24 = .ok (.iconst 3, 1) := by decide +kernel
theorem dX7_job_25 : decode cX7_job 25 = .ok (.invokestatic 72, 3) := by decide +kernel
theorem dX7_job_28 : decode cX7_job 28 = .ok (.ifCond .ne 7, 3) := by decide +kernel
theorem dX7_job_31 : decode cX7_job 31 = .ok (.iconst 2, 1) := by decide +kernel
theorem dX7_job_32 : decode cX7_job 32 = .ok (.goto 4, 3) := by decide +kernel
theorem dX7_job_35 : decode cX7_job 35 = .ok (.iconst 0, 1) := by decide +kernel
theorem dX7_job_36 : decode cX7_job 36 = .ok (.putfield 45, 3) := by decide +kernel
theorem dX7_job_39 : decode cX7_job 39 = .ok (.aload_n 0, 1) := by decide +kernel
theorem dX7_job_40 : decode cX7_job 40 = .ok (.getfield 45, 3) := by decide +kernel
theorem dX7_job_43 : decode cX7_job 43 = .ok (.ifCond .le 5, 3) := by decide +kernel
theorem dX7_job_46 : decode cX7_job 46 = .ok (.iconst 0, 1) := by decide +kernel
theorem dX7_job_47 : decode cX7_job 47 = .ok (.ireturn, 1) := by decide +kernel
theorem dX7_job_48 : decode cX7_job 48 = .ok (.iload_n 2, 1) := by decide +kernel
theorem dX7_job_49 : decode cX7_job 49 = .ok (.ifCond .ne 18, 3) := by decide +kernel
theorem dX7_job_52 : decode cX7_job 52 = .ok (.aload_n 0, 1) := by decide +kernel
theorem dX7_job_53 : decode cX7_job 53 = .ok (.getfield 20, 3) := by decide +kernel
theorem dX7_job_56 : decode cX7_job 56 = .ok (.sipush 426, 3) := by decide +kernel
theorem dX7_job_59 : decode cX7_job 59 = .ok (.iconst 2, 1) := by decide +kernel
theorem dX7_job_60 : decode cX7_job 60 = .ok (.iload_n 1, 1) := by decide +kernel
theorem dX7_job_61 : decode cX7_job 61 = .ok (.imul, 1) := by decide +kernel
theorem dX7_job_62 : decode cX7_job 62 = .ok (.iadd, 1) := by decide +kernel
theorem dX7_job_63 : decode cX7_job 63 = .ok (.iaload, 1) := by decide +kernel
theorem dX7_job_64 : decode cX7_job 64 = .ok (.goto 43, 3) := by decide +kernel
theorem dX7_job_67 : decode cX7_job 67 = .ok (.iload_n 2, 1) := by decide +kernel
theorem dX7_job_68 : decode cX7_job 68 = .ok (.iconst 1, 1) := by decide +kernel
theorem dX7_job_69 : decode cX7_job 69 = .ok (.if_icmp .ne 11, 3) := by decide +kernel
theorem dX7_job_72 : decode cX7_job 72 = .ok (.aload_n 0, 1) := by decide +kernel
theorem dX7_job_73 : decode cX7_job 73 = .ok (.iload_n 1, 1) := by decide +kernel
theorem dX7_job_74 : decode cX7_job 74 = .ok (.invokevirtual 237, 3) := by decide +kernel
theorem dX7_job_77 : decode cX7_job 77 = .ok (.goto 30, 3) := by decide +kernel
theorem dX7_job_80 : decode cX7_job 80 = .ok (.iload_n 2, 1) := by decide +kernel
theorem dX7_job_81 : decode cX7_job 81 = .ok (.iconst 2, 1) := by decide +kernel
theorem dX7_job_82 : decode cX7_job 82 = .ok (.if_icmp .ne 11, 3) := by decide +kernel
theorem dX7_job_85 : decode cX7_job 85 = .ok (.aload_n 0, 1) := by decide +kernel
theorem dX7_job_86 : decode cX7_job 86 = .ok (.iload_n 1, 1) := by decide +kernel
theorem dX7_job_87 : decode cX7_job 87 = .ok (.invokevirtual 240, 3) := by decide +kernel
theorem dX7_job_90 : decode cX7_job 90 = .ok (.goto 17, 3) := by decide +kernel
theorem dX7_job_93 : decode cX7_job 93 = .ok (.aload_n 0, 1) := by decide +kernel
theorem dX7_job_94 : decode cX7_job 94 = .ok (.getfield 20, 3) := by decide +kernel
theorem dX7_job_97 : decode cX7_job 97 = .ok (.sipush 426, 3) := by decide +kernel
theorem dX7_job_100 : decode cX7_job 100 = .ok (.iconst 2, 1) := by decide +kernel
theorem dX7_job_101 : decode cX7_job 101 = .ok (.iload_n 1, 1) := by decide +kernel
theorem dX7_job_102 : decode cX7_job 102 = .ok (.imul, 1) := by decide +kernel
theorem dX7_job_103 : decode cX7_job 103 = .ok (.iadd, 1) := by decide +kernel
theorem dX7_job_104 : decode cX7_job 104 = .ok (.iconst 1, 1) := by decide +kernel
theorem dX7_job_105 : decode cX7_job 105 = .ok (.iadd, 1) := by decide +kernel
theorem dX7_job_106 : decode cX7_job 106 = .ok (.iaload, 1) := by decide +kernel
theorem dX7_job_107 : decode cX7_job 107 = .ok (.ireturn, 1) := by decide +kernel
theorem dX7_isHalf_0 : decode cX7_isHalf 0 = .ok (.aload_n 0, 1) := by decide +kernel
theorem dX7_isHalf_1 : decode cX7_isHalf 1 = .ok (.aload_n 0, 1) := by decide +kernel
theorem dX7_isHalf_2 : decode cX7_isHalf 2 = .ok (.iload_n 1, 1) := by decide +kernel
theorem dX7_isHalf_3 : decode cX7_isHalf 3 = .ok (.invokevirtual 234, 3) := by decide +kernel
theorem dX7_isHalf_6 : decode cX7_isHalf 6 = .ok (.ifCond .eq 7, 3) := by decide +kernel
theorem dX7_isHalf_9 : decode cX7_isHalf 9 = .ok (.iconst 0, 1) := by decide +kernel
theorem dX7_isHalf_10 : decode cX7_isHalf 10 = .ok (.goto 4, 3) := by decide +kernel
theorem dX7_isHalf_13 : decode cX7_isHalf 13 = .ok (.iconst 1, 1) := by decide +kernel
theorem dX7_isHalf_14 : decode cX7_isHalf 14 = .ok (.putfield 45, 3) := by decide +kernel
theorem dX7_isHalf_17 : decode cX7_isHalf 17 = .ok (.aload_n 0, 1) := by decide +kernel
theorem dX7_isHalf_18 : decode cX7_isHalf 18 = .ok (.getfield 45, 3) := by decide +kernel
theorem dX7_isHalf_21 : decode cX7_isHalf 21 = .ok (.ifCond .ne 22, 3) := by decide +kernel
theorem dX7_isHalf_24 : decode cX7_isHalf 24 = .ok (.aload_n 0, 1) := by decide +kernel
theorem dX7_isHalf_25 : decode cX7_isHalf 25 = .ok (.getfield 20, 3) := by decide +kernel
theorem dX7_isHalf_28 : decode cX7_isHalf 28 = .ok (.iload_n 1, 1) := by decide +kernel
theorem dX7_isHalf_29 : decode cX7_isHalf 29 = .ok (.invokestatic 167, 3) := by decide +kernel
theorem dX7_isHalf_32 : decode cX7_isHalf 32 = .ok (.iconst 3, 1) := by decide +kernel
theorem dX7_isHalf_33 : decode cX7_isHalf 33 = .ok (.iadd, 1) := by decide +kernel
theorem dX7_isHalf_34 : decode cX7_isHalf 34 = .ok (.iaload, 1) := by decide +kernel
theorem dX7_isHalf_35 : decode cX7_isHalf 35 = .ok (.iconst 1, 1) := by decide +kernel
theorem dX7_isHalf_36 : decode cX7_isHalf 36 = .ok (.if_icmp .ne 7, 3) := by decide +kernel
theorem dX7_isHalf_39 : decode cX7_isHalf 39 = .ok (.iconst 1, 1) := by decide +kernel
theorem dX7_isHalf_40 : decode cX7_isHalf 40 = .ok (.goto 4, 3) := by decide +kernel
theorem dX7_isHalf_43 : decode cX7_isHalf 43 = .ok (.iconst 0, 1) := by decide +kernel
theorem dX7_isHalf_44 : decode cX7_isHalf 44 = .ok (.ireturn, 1) := by decide +kernel
theorem dX7_next_0 : decode cX7_next 0 = .ok (.aload_n 0, 1) := by decide +kernel
theorem dX7_next_1 : decode cX7_next 1 = .ok (.iload_n 1, 1) := by decide +kernel
theorem dX7_next_2 : decode cX7_next 2 = .ok (.iconst 0, 1) := by decide +kernel
theorem dX7_next_3 : decode cX7_next 3 = .ok (.iconst 4, 1) := by decide +kernel
theorem dX7_next_4 : decode cX7_next 4 = .ok (.invokestatic 72, 3) := by decide +kernel
theorem dX7_next_7 : decode cX7_next 7 = .ok (.ifCond .eq 7, 3) := by decide +kernel
theorem dX7_next_10 : decode cX7_next 10 = .ok (.iconst 0, 1) := by decide +kernel
theorem dX7_next_11 : decode cX7_next 11 = .ok (.goto 4, 3) := by decide +kernel
theorem dX7_next_14 : decode cX7_next 14 = .ok (.iconst 1, 1) := by decide +kernel
theorem dX7_next_15 : decode cX7_next 15 = .ok (.putfield 45, 3) := by decide +kernel
theorem dX7_next_18 : decode cX7_next 18 = .ok (.aload_n 0, 1) := by decide +kernel
theorem dX7_next_19 : decode cX7_next 19 = .ok (.getfield 45, 3) := by decide +kernel
theorem dX7_next_22 : decode cX7_next 22 = .ok (.ifCond .le 5, 3) := by decide +kernel
theorem dX7_next_25 : decode cX7_next 25 = .ok (.iconst 0, 1) := by decide +kernel
theorem dX7_next_26 : decode cX7_next 26 = .ok (.ireturn, 1) := by decide +kernel
theorem dX7_next_27 : decode cX7_next 27 = .ok (.aload_n 0, 1) := by decide +kernel
theorem dX7_next_28 : decode cX7_next 28 = .ok (.getfield 20, 3) := by decide +kernel
theorem dX7_next_31 : decode cX7_next 31 = .ok (.bipush 6, 2) := by decide +kernel
theorem dX7_next_33 : decode cX7_next 33 = .ok (.iaload, 1) := by decide +kernel
theorem dX7_next_34 : decode cX7_next 34 = .ok (.ifCond .ne 5, 3) := by decide +kernel
theorem dX7_next_37 : decode cX7_next 37 = .ok (.iconst (-1), 1) := by decide +kernel
theorem dX7_next_38 : decode cX7_next 38 = .ok (.ireturn, 1) := by decide +kernel
theorem dX7_next_39 : decode cX7_next 39 = .ok (.aload_n 0, 1) := by decide +kernel
theorem dX7_next_40 : decode cX7_next 40 = .ok (.invokevirtual 210, 3) := by decide +kernel
theorem dX7_next_43 : decode cX7_next 43 = .ok (.istore_n 2, 1) := by decide +kernel
theorem dX7_next_44 : decode cX7_next 44 = .ok (.iload_n 1, 1) := by decide +kernel
theorem dX7_next_45 : decode cX7_next 45 = .ok (.tableswitch 51 0 3 #[31, 33, 39, 45], 31) := by decide +kernel
theorem dX7_next_76 : decode cX7_next 76 = .ok (.iload_n 2, 1) := by decide +kernel
theorem dX7_next_77 : decode cX7_next 77 = .ok (.ireturn, 1) := by decide +kernel
theorem dX7_next_78 : decode cX7_next 78 = .ok (.aload_n 0, 1) := by decide +kernel
theorem dX7_next_79 : decode cX7_next 79 = .ok (.iload_n 2, 1) := by decide +kernel
theorem dX7_next_80 : decode cX7_next 80 = .ok (.invokevirtual 183, 3) := by decide +kernel
theorem dX7_next_83 : decode cX7_next 83 = .ok (.ireturn, 1) := by decide +kernel
theorem dX7_next_84 : decode cX7_next 84 = .ok (.aload_n 0, 1) := by decide +kernel
theorem dX7_next_85 : decode cX7_next 85 = .ok (.iload_n 2, 1) := by decide +kernel
theorem dX7_next_86 : decode cX7_next 86 = .ok (.invokevirtual 189, 3) := by decide +kernel
theorem dX7_next_89 : decode cX7_next 89 = .ok (.ireturn, 1) := by decide +kernel
theorem dX7_next_90 : decode cX7_next 90 = .ok (.aload_n 0, 1) := by decide +kernel
theorem dX7_next_91 : decode cX7_next 91 = .ok (.iload_n 2, 1) := by decide +kernel
theorem dX7_next_92 : decode cX7_next 92 = .ok (.invokevirtual 213, 3) := by decide +kernel
theorem dX7_next_95 : decode cX7_next 95 = .ok (.ireturn, 1) := by decide +kernel
theorem dX7_next_96 : decode cX7_next 96 = .ok (.aload_n 0, 1) := by decide +kernel
theorem dX7_next_97 : decode cX7_next 97 = .ok (.aload_n 0, 1) := by decide +kernel
theorem dX7_next_98 : decode cX7_next 98 = .ok (.iconst 0, 1) := by decide +kernel
theorem dX7_next_99 : decode cX7_next 99 = .ok (.invokevirtual 180, 3) := by decide +kernel
theorem dX7_next_102 : decode cX7_next 102 = .ok (.invokevirtual 243, 3) := by decide +kernel
theorem dX7_next_105 : decode cX7_next 105 = .ok (.ireturn, 1) := by decide +kernel
theorem dX7_tries_0 : decode cX7_tries 0 = .ok (.iconst 0, 1) := by decide +kernel
theorem dX7_tries_1 : decode cX7_tries 1 = .ok (.istore_n 2, 1) := by decide +kernel
theorem dX7_tries_2 : decode cX7_tries 2 = .ok (.iload_n 2, 1) := by decide +kernel
theorem dX7_tries_3 : decode cX7_tries 3 = .ok (.iconst 5, 1) := by decide +kernel
theorem dX7_tries_4 : decode cX7_tries 4 = .ok (.if_icmp .ge 16, 3) := by decide +kernel
theorem dX7_tries_7 : decode cX7_tries 7 = .ok (.aload_n 0, 1) := by decide +kernel
theorem dX7_tries_8 : decode cX7_tries 8 = .ok (.getfield 36, 3) := by decide +kernel
theorem dX7_tries_11 : decode cX7_tries 11 = .ok (.iload_n 2, 1) := by decide +kernel
theorem dX7_tries_12 : decode cX7_tries 12 = .ok (.iconst 0, 1) := by decide +kernel
theorem dX7_tries_13 : decode cX7_tries 13 = .ok (.iastore, 1) := by decide +kernel
theorem dX7_tries_14 : decode cX7_tries 14 = .ok (.iinc 2 1, 3) := by decide +kernel
theorem dX7_tries_17 : decode cX7_tries 17 = .ok (.goto (-15), 3) := by decide +kernel
theorem dX7_tries_20 : decode cX7_tries 20 = .ok (.aload_n 0, 1) := by decide +kernel
theorem dX7_tries_21 : decode cX7_tries 21 = .ok (.getfield 20, 3) := by decide +kernel
theorem dX7_tries_24 : decode cX7_tries 24 = .ok (.iconst 0, 1) := by decide +kernel
theorem dX7_tries_25 : decode cX7_tries 25 = .ok (.aload_n 0, 1) := by decide +kernel
theorem dX7_tries_26 : decode cX7_tries 26 = .ok (.getfield 23, 3) := by decide +kernel
theorem dX7_tries_29 : decode cX7_tries 29 = .ok (.iconst 0, 1) := by decide +kernel
theorem dX7_tries_30 : decode cX7_tries 30 = .ok (.invokestatic 176, 3) := by decide +kernel
theorem dX7_tries_33 : decode cX7_tries 33 = .ok (.aload_n 0, 1) := by decide +kernel
theorem dX7_tries_34 : decode cX7_tries 34 = .ok (.getfield 20, 3) := by decide +kernel
theorem dX7_tries_37 : decode cX7_tries 37 = .ok (.iconst 1, 1) := by decide +kernel
theorem dX7_tries_38 : decode cX7_tries 38 = .ok (.iload_n 1, 1) := by decide +kernel
theorem dX7_tries_39 : decode cX7_tries 39 = .ok (.iastore, 1) := by decide +kernel
theorem dX7_tries_40 : decode cX7_tries 40 = .ok (.aload_n 0, 1) := by decide +kernel
theorem dX7_tries_41 : decode cX7_tries 41 = .ok (.getfield 20, 3) := by decide +kernel
theorem dX7_tries_44 : decode cX7_tries 44 = .ok (.iconst 5, 1) := by decide +kernel
theorem dX7_tries_45 : decode cX7_tries 45 = .ok (.iaload, 1) := by decide +kernel
theorem dX7_tries_46 : decode cX7_tries 46 = .ok (.ifCond .le 8, 3) := by decide +kernel
theorem dX7_tries_49 : decode cX7_tries 49 = .ok (.aload_n 0, 1) := by decide +kernel
theorem dX7_tries_50 : decode cX7_tries 50 = .ok (.invokevirtual 228, 3) := by decide +kernel
theorem dX7_tries_53 : decode cX7_tries 53 = .ok (.istore_n 2, 1) := by decide +kernel
theorem dX7_tries_54 : decode cX7_tries 54 = .ok (.aload_n 0, 1) := by decide +kernel
theorem dX7_tries_55 : decode cX7_tries 55 = .ok (.getfield 20, 3) := by decide +kernel
theorem dX7_tries_58 : decode cX7_tries 58 = .ok (.bipush 6, 2) := by decide +kernel
theorem dX7_tries_60 : decode cX7_tries 60 = .ok (.iaload, 1) := by decide +kernel
theorem dX7_tries_61 : decode cX7_tries 61 = .ok (.ifCond .le 119, 3) := by decide +kernel
theorem dX7_tries_64 : decode cX7_tries 64 = .ok (.aload_n 0, 1) := by decide +kernel
theorem dX7_tries_65 : decode cX7_tries 65 = .ok (.invokevirtual 210, 3) := by decide +kernel
theorem dX7_tries_68 : decode cX7_tries 68 = .ok (.istore_n 2, 1) := by decide +kernel
theorem dX7_tries_69 : decode cX7_tries 69 = .ok (.aload_n 0, 1) := by decide +kernel
theorem dX7_tries_70 : decode cX7_tries 70 = .ok (.invokevirtual 225, 3) := by decide +kernel
theorem dX7_tries_73 : decode cX7_tries 73 = .ok (.istore_n 3, 1) := by decide +kernel
theorem dX7_tries_74 : decode cX7_tries 74 = .ok (.iload_n 3, 1) := by decide +kernel
theorem dX7_tries_75 : decode cX7_tries 75 = .ok (.iconst (-1), 1) := by decide +kernel
theorem dX7_tries_76 : decode cX7_tries 76 = .ok (.if_icmp .ne 72, 3) := by decide +kernel
theorem dX7_tries_79 : decode cX7_tries 79 = .ok (.aload_n 0, 1) := by decide +kernel
theorem dX7_tries_80 : decode cX7_tries 80 = .ok (.getfield 36, 3) := by decide +kernel
theorem dX7_tries_83 : decode cX7_tries 83 = .ok (.iconst 0, 1) := by decide +kernel
theorem dX7_tries_84 : decode cX7_tries 84 = .ok (.dup2, 1) := by decide +kernel
theorem dX7_tries_85 : decode cX7_tries 85 = .ok (.iaload, 1) := by decide +kernel
theorem dX7_tries_86 : decode cX7_tries 86 = .ok (.aload_n 0, 1) := by decide +kernel
theorem dX7_tries_87 : decode cX7_tries 87 = .ok (.getfield 20, 3) := by decide +kernel
theorem dX7_tries_90 : decode cX7_tries 90 = .ok (.iconst 5, 1) := by decide +kernel
theorem dX7_tries_91 : decode cX7_tries 91 = .ok (.iaload, 1) := by decide +kernel
theorem dX7_tries_92 : decode cX7_tries 92 = .ok (.iconst 1, 1) := by decide +kernel
theorem dX7_tries_93 : decode cX7_tries 93 = .ok (.if_icmp .ne 7, 3) := by decide +kernel
theorem dX7_tries_96 : decode cX7_tries 96 = .ok (.iconst 1, 1) := by decide +kernel
theorem dX7_tries_97 : decode cX7_tries 97 = .ok (.goto 4, 3) := by decide +kernel
theorem dX7_tries_100 : decode cX7_tries 100 = .ok (.iconst 0, 1) := by decide +kernel
theorem dX7_tries_101 : decode cX7_tries 101 = .ok (.iadd, 1) := by decide +kernel
theorem dX7_tries_102 : decode cX7_tries 102 = .ok (.iastore, 1) := by decide +kernel
theorem dX7_tries_103 : decode cX7_tries 103 = .ok (.aload_n 0, 1) := by decide +kernel
theorem dX7_tries_104 : decode cX7_tries 104 = .ok (.getfield 36, 3) := by decide +kernel
theorem dX7_tries_107 : decode cX7_tries 107 = .ok (.iconst 1, 1) := by decide +kernel
theorem dX7_tries_108 : decode cX7_tries 108 = .ok (.dup2, 1) := by decide +kernel
theorem dX7_tries_109 : decode cX7_tries 109 = .ok (.iaload, 1) := by decide +kernel
theorem dX7_tries_110 : decode cX7_tries 110 = .ok (.aload_n 0, 1) := by decide +kernel
theorem dX7_tries_111 : decode cX7_tries 111 = .ok (.getfield 20, 3) := by decide +kernel
theorem dX7_tries_114 : decode cX7_tries 114 = .ok (.iconst 5, 1) := by decide +kernel
theorem dX7_tries_115 : decode cX7_tries 115 = .ok (.iaload, 1) := by decide +kernel
theorem dX7_tries_116 : decode cX7_tries 116 = .ok (.iconst 1, 1) := by decide +kernel
theorem dX7_tries_117 : decode cX7_tries 117 = .ok (.if_icmp .ne 12, 3) := by decide +kernel
theorem dX7_tries_120 : decode cX7_tries 120 = .ok (.iload_n 2, 1) := by decide +kernel
theorem dX7_tries_121 : decode cX7_tries 121 = .ok (.iconst 1, 1) := by decide +kernel
theorem dX7_tries_122 : decode cX7_tries 122 = .ok (.if_icmp .ne 7, 3) := by decide +kernel
theorem dX7_tries_125 : decode cX7_tries 125 = .ok (.iconst 1, 1) := by decide +kernel
theorem dX7_tries_126 : decode cX7_tries 126 = .ok (.goto 4, 3) := by decide +kernel
theorem dX7_tries_129 : decode cX7_tries 129 = .ok (.iconst 0, 1) := by decide +kernel
theorem dX7_tries_130 : decode cX7_tries 130 = .ok (.iadd, 1) := by decide +kernel
theorem dX7_tries_131 : decode cX7_tries 131 = .ok (.iastore, 1) := by decide +kernel
theorem dX7_tries_132 : decode cX7_tries 132 = .ok (.aload_n 0, 1) := by decide +kernel
theorem dX7_tries_133 : decode cX7_tries 133 = .ok (.getfield 36, 3) := by decide +kernel
theorem dX7_tries_136 : decode cX7_tries 136 = .ok (.iconst 4, 1) := by decide +kernel
theorem dX7_tries_137 : decode cX7_tries 137 = .ok (.dup2, 1) := by decide +kernel
theorem dX7_tries_138 : decode cX7_tries 138 = .ok (.iaload, 1) := by decide +kernel
theorem dX7_tries_139 : decode cX7_tries 139 = .ok (.aload_n 0, 1) := by decide +kernel
theorem dX7_tries_140 : decode cX7_tries 140 = .ok (.invokevirtual 228, 3) := by decide +kernel
theorem dX7_tries_143 : decode cX7_tries 143 = .ok (.iadd, 1) := by decide +kernel
theorem dX7_tries_144 : decode cX7_tries 144 = .ok (.iastore, 1) := by decide +kernel
theorem dX7_tries_145 : decode cX7_tries 145 = .ok (.goto 32, 3) := by decide +kernel
theorem dX7_tries_148 : decode cX7_tries 148 = .ok (.aload_n 0, 1) := by decide +kernel
theorem dX7_tries_149 : decode cX7_tries 149 = .ok (.getfield 36, 3) := by decide +kernel
theorem dX7_tries_152 : decode cX7_tries 152 = .ok (.iconst 2, 1) := by decide +kernel
theorem dX7_tries_153 : decode cX7_tries 153 = .ok (.dup2, 1) := by decide +kernel
theorem dX7_tries_154 : decode cX7_tries 154 = .ok (.iaload, 1) := by decide +kernel
theorem dX7_tries_155 : decode cX7_tries 155 = .ok (.iload_n 2, 1) := by decide +kernel
theorem dX7_tries_156 : decode cX7_tries 156 = .ok (.iconst 1, 1) := by decide +kernel
theorem dX7_tries_157 : decode cX7_tries 157 = .ok (.if_icmp .le 7, 3) := by decide +kernel
theorem dX7_tries_160 : decode cX7_tries 160 = .ok (.iconst 1, 1) := by decide +kernel
theorem dX7_tries_161 : decode cX7_tries 161 = .ok (.goto 4, 3) := by decide +kernel
theorem dX7_tries_164 : decode cX7_tries 164 = .ok (.iconst 0, 1) := by decide +kernel
theorem dX7_tries_165 : decode cX7_tries 165 = .ok (.iadd, 1) := by decide +kernel
theorem dX7_tries_166 : decode cX7_tries 166 = .ok (.iastore, 1) := by decide +kernel
theorem dX7_tries_167 : decode cX7_tries 167 = .ok (.aload_n 0, 1) := by decide +kernel
theorem dX7_tries_168 : decode cX7_tries 168 = .ok (.getfield 36, 3) := by decide +kernel
theorem dX7_tries_171 : decode cX7_tries 171 = .ok (.iconst 3, 1) := by decide +kernel
theorem dX7_tries_172 : decode cX7_tries 172 = .ok (.dup2, 1) := by decide +kernel
theorem dX7_tries_173 : decode cX7_tries 173 = .ok (.iaload, 1) := by decide +kernel
theorem dX7_tries_174 : decode cX7_tries 174 = .ok (.iload_n 3, 1) := by decide +kernel
theorem dX7_tries_175 : decode cX7_tries 175 = .ok (.iadd, 1) := by decide +kernel
theorem dX7_tries_176 : decode cX7_tries 176 = .ok (.iastore, 1) := by decide +kernel
theorem dX7_tries_177 : decode cX7_tries 177 = .ok (.goto (-123), 3) := by decide +kernel
theorem dX7_tries_180 : decode cX7_tries 180 = .ok (.aload_n 0, 1) := by decide +kernel
theorem dX7_tries_181 : decode cX7_tries 181 = .ok (.getfield 23, 3) := by decide +kernel
theorem dX7_tries_184 : decode cX7_tries 184 = .ok (.iconst 0, 1) := by decide +kernel
theorem dX7_tries_185 : decode cX7_tries 185 = .ok (.aload_n 0, 1) := by decide +kernel
theorem dX7_tries_186 : decode cX7_tries 186 = .ok (.getfield 20, 3) := by decide +kernel
theorem dX7_tries_189 : decode cX7_tries 189 = .ok (.iconst 0, 1) := by decide +kernel
theorem dX7_tries_190 : decode cX7_tries 190 = .ok (.invokestatic 176, 3) := by decide +kernel
theorem dX7_tries_193 : decode cX7_tries 193 = .ok (.return_, 1) := by decide +kernel
theorem dX7_ahead_0 : decode cX7_ahead 0 = .ok (.aload_n 0, 1) := by decide +kernel
theorem dX7_ahead_1 : decode cX7_ahead 1 = .ok (.iload_n 1, 1) := by decide +kernel
theorem dX7_ahead_2 : decode cX7_ahead 2 = .ok (.bipush 101, 2) := by decide +kernel
theorem dX7_ahead_4 : decode cX7_ahead 4 = .ok (.sipush 300, 3) := by decide +kernel
theorem dX7_ahead_7 : decode cX7_ahead 7 = .ok (.invokestatic 72, 3) := by decide +kernel
theorem dX7_ahead_10 : decode cX7_ahead 10 = .ok (.ifCond .eq 16, 3) := by decide +kernel
theorem dX7_ahead_13 : decode cX7_ahead 13 = .ok (.iload_n 2, 1) := by decide +kernel
theorem dX7_ahead_14 : decode cX7_ahead 14 = .ok (.iconst 0, 1) := by decide +kernel
theorem dX7_ahead_15 : decode cX7_ahead 15 = .ok (.iconst 4, 1) := by decide +kernel
theorem dX7_ahead_16 : decode cX7_ahead 16 = .ok (.invokestatic 72, 3) := by decide +kernel
theorem dX7_ahead_19 : decode cX7_ahead 19 = .ok (.ifCond .eq 7, 3) := by decide +kernel
theorem dX7_ahead_22 : decode cX7_ahead 22 = .ok (.iconst 0, 1) := by decide +kernel
theorem dX7_ahead_23 : decode cX7_ahead 23 = .ok (.goto 4, 3) := by decide +kernel
theorem dX7_ahead_26 : decode cX7_ahead 26 = .ok (.iconst 1, 1) := by decide +kernel
theorem dX7_ahead_27 : decode cX7_ahead 27 = .ok (.putfield 45, 3) := by decide +kernel
theorem dX7_ahead_30 : decode cX7_ahead 30 = .ok (.aload_n 0, 1) := by decide +kernel
theorem dX7_ahead_31 : decode cX7_ahead 31 = .ok (.getfield 45, 3) := by decide +kernel
theorem dX7_ahead_34 : decode cX7_ahead 34 = .ok (.ifCond .le 5, 3) := by decide +kernel
theorem dX7_ahead_37 : decode cX7_ahead 37 = .ok (.iconst 0, 1) := by decide +kernel
theorem dX7_ahead_38 : decode cX7_ahead 38 = .ok (.ireturn, 1) := by decide +kernel
theorem dX7_ahead_39 : decode cX7_ahead 39 = .ok (.aload_n 0, 1) := by decide +kernel
theorem dX7_ahead_40 : decode cX7_ahead 40 = .ok (.iload_n 1, 1) := by decide +kernel
theorem dX7_ahead_41 : decode cX7_ahead 41 = .ok (.invokevirtual 246, 3) := by decide +kernel
theorem dX7_ahead_44 : decode cX7_ahead 44 = .ok (.aload_n 0, 1) := by decide +kernel
theorem dX7_ahead_45 : decode cX7_ahead 45 = .ok (.getfield 36, 3) := by decide +kernel
theorem dX7_ahead_48 : decode cX7_ahead 48 = .ok (.iload_n 2, 1) := by decide +kernel
theorem dX7_ahead_49 : decode cX7_ahead 49 = .ok (.iaload, 1) := by decide +kernel
theorem dX7_ahead_50 : decode cX7_ahead 50 = .ok (.ireturn, 1) := by decide +kernel
theorem dX7_bestPercent_0 : decode cX7_bestPercent 0 = .ok (.aload_n 0, 1) := by decide +kernel
theorem dX7_bestPercent_1 : decode cX7_bestPercent 1 = .ok (.iconst 0, 1) := by decide +kernel
theorem dX7_bestPercent_2 : decode cX7_bestPercent 2 = .ok (.putfield 45, 3) := by decide +kernel
theorem dX7_bestPercent_5 : decode cX7_bestPercent 5 = .ok (.iconst (-1), 1) := by decide +kernel
theorem dX7_bestPercent_6 : decode cX7_bestPercent 6 = .ok (.istore_n 1, 1) := by decide +kernel
theorem dX7_bestPercent_7 : decode cX7_bestPercent 7 = .ok (.iconst 0, 1) := by decide +kernel
theorem dX7_bestPercent_8 : decode cX7_bestPercent 8 = .ok (.istore_n 2, 1) := by decide +kernel
theorem dX7_bestPercent_9 : decode cX7_bestPercent 9 = .ok (.bipush 101, 2) := by decide +kernel
theorem dX7_bestPercent_11 : decode cX7_bestPercent 11 = .ok (.istore_n 3, 1) := by decide +kernel
theorem dX7_bestPercent_12 : decode cX7_bestPercent 12 = .ok (.iload_n 3, 1) := by decide +kernel
theorem dX7_bestPercent_13 : decode cX7_bestPercent 13 = .ok (.sipush 300, 3) := by decide +kernel
theorem dX7_bestPercent_16 : decode cX7_bestPercent 16 = .ok (.if_icmp .gt 48, 3) := by decide +kernel
theorem dX7_bestPercent_19 : decode cX7_bestPercent 19 = .ok (.aload_n 0, 1) := by decide +kernel
theorem dX7_bestPercent_20 : decode cX7_bestPercent 20 = .ok (.iload_n 3, 1) := by decide +kernel
theorem dX7_bestPercent_21 : decode cX7_bestPercent 21 = .ok (.invokevirtual 246, 3) := by decide +kernel
theorem dX7_bestPercent_24 : decode cX7_bestPercent 24 = .ok (.aload_n 0, 1) := by decide +kernel
theorem dX7_bestPercent_25 : decode cX7_bestPercent 25 = .ok (.getfield 36, 3) := by decide +kernel
theorem dX7_bestPercent_28 : decode cX7_bestPercent 28 = .ok (.iconst 1, 1) := by decide +kernel
theorem dX7_bestPercent_29 : decode cX7_bestPercent 29 = .ok (.iaload, 1) := by decide +kernel
theorem dX7_bestPercent_30 : decode cX7_bestPercent 30 = .ok (.aload_n 0, 1) := by decide +kernel
theorem dX7_bestPercent_31 : decode cX7_bestPercent 31 = .ok (.getfield 36, 3) := by decide +kernel
theorem dX7_bestPercent_34 : decode cX7_bestPercent 34 = .ok (.iconst 2, 1) := by decide +kernel
theorem dX7_bestPercent_35 : decode cX7_bestPercent 35 = .ok (.iaload, 1) := by decide +kernel
theorem dX7_bestPercent_36 : decode cX7_bestPercent 36 = .ok (.iadd, 1) := by decide +kernel
theorem dX7_bestPercent_37 : decode cX7_bestPercent 37 = .ok (.istore 4, 2) := by decide +kernel
theorem dX7_bestPercent_39 : decode cX7_bestPercent 39 = .ok (.iload_n 1, 1) := by decide +kernel
theorem dX7_bestPercent_40 : decode cX7_bestPercent 40 = .ok (.iconst (-1), 1) := by decide +kernel
theorem dX7_bestPercent_41 : decode cX7_bestPercent 41 = .ok (.if_icmp .eq 12, 3) := by decide +kernel
theorem dX7_bestPercent_44 : decode cX7_bestPercent 44 = .ok (.iload 4, 2) := by decide +kernel
theorem dX7_bestPercent_46 : decode cX7_bestPercent 46 = .ok (.iload_n 2, 1) := by decide +kernel
theorem dX7_bestPercent_47 : decode cX7_bestPercent 47 = .ok (.if_icmp .lt 6, 3) := by decide +kernel
theorem dX7_bestPercent_50 : decode cX7_bestPercent 50 = .ok (.goto 8, 3) := by decide +kernel
theorem dX7_bestPercent_53 : decode cX7_bestPercent 53 = .ok (.iload_n 3, 1) := by decide +kernel
theorem dX7_bestPercent_54 : decode cX7_bestPercent 54 = .ok (.istore_n 1, 1) := by decide +kernel
theorem dX7_bestPercent_55 : decode cX7_bestPercent 55 = .ok (.iload 4, 2) := by decide +kernel
theorem dX7_bestPercent_57 : decode cX7_bestPercent 57 = .ok (.istore_n 2, 1) := by decide +kernel
theorem dX7_bestPercent_58 : decode cX7_bestPercent 58 = .ok (.iinc 3 1, 3) := by decide +kernel
theorem dX7_bestPercent_61 : decode cX7_bestPercent 61 = .ok (.goto (-49), 3) := by decide +kernel
theorem dX7_bestPercent_64 : decode cX7_bestPercent 64 = .ok (.iload_n 1, 1) := by decide +kernel
theorem dX7_bestPercent_65 : decode cX7_bestPercent 65 = .ok (.ireturn, 1) := by decide +kernel
theorem dX7_blankSides_0 : decode cX7_blankSides 0 = .ok (.iconst 0, 1) := by decide +kernel
theorem dX7_blankSides_1 : decode cX7_blankSides 1 = .ok (.istore_n 2, 1) := by decide +kernel
theorem dX7_blankSides_2 : decode cX7_blankSides 2 = .ok (.iconst 0, 1) := by decide +kernel
theorem dX7_blankSides_3 : decode cX7_blankSides 3 = .ok (.istore_n 3, 1) := by decide +kernel
theorem dX7_blankSides_4 : decode cX7_blankSides 4 = .ok (.iload_n 3, 1) := by decide +kernel
theorem dX7_blankSides_5 : decode cX7_blankSides 5 = .ok (.aload_n 0, 1) := by decide +kernel
theorem dX7_blankSides_6 : decode cX7_blankSides 6 = .ok (.invokevirtual 164, 3) := by decide +kernel
theorem dX7_blankSides_9 : decode cX7_blankSides 9 = .ok (.if_icmp .ge 53, 3) := by decide +kernel
theorem dX7_blankSides_12 : decode cX7_blankSides 12 = .ok (.iconst 0, 1) := by decide +kernel
theorem dX7_blankSides_13 : decode cX7_blankSides 13 = .ok (.istore 4, 2) := by decide +kernel
theorem dX7_blankSides_15 : decode cX7_blankSides 15 = .ok (.iload 4, 2) := by decide +kernel
theorem dX7_blankSides_17 : decode cX7_blankSides 17 = .ok (.iconst 2, 1) := by decide +kernel
theorem dX7_blankSides_18 : decode cX7_blankSides 18 = .ok (.if_icmp .ge 38, 3) := by decide +kernel
theorem dX7_blankSides_21 : decode cX7_blankSides 21 = .ok (.aload_n 0, 1) := by decide +kernel
theorem dX7_blankSides_22 : decode cX7_blankSides 22 = .ok (.iload_n 3, 1) := by decide +kernel
theorem dX7_blankSides_23 : decode cX7_blankSides 23 = .ok (.invokevirtual 195, 3) := by decide +kernel
theorem dX7_blankSides_26 : decode cX7_blankSides 26 = .ok (.ifCond .ne 30, 3) := by decide +kernel
theorem dX7_blankSides_29 : decode cX7_blankSides 29 = .ok (.iload_n 2, 1) := by decide +kernel
theorem dX7_blankSides_30 : decode cX7_blankSides 30 = .ok (.aload_n 0, 1) := by decide +kernel
theorem dX7_blankSides_31 : decode cX7_blankSides 31 = .ok (.iload_n 3, 1) := by decide +kernel
theorem dX7_blankSides_32 : decode cX7_blankSides 32 = .ok (.iconst 3, 1) := by decide +kernel
theorem dX7_blankSides_33 : decode cX7_blankSides 33 = .ok (.iload 4, 2) := by decide +kernel
theorem dX7_blankSides_35 : decode cX7_blankSides 35 = .ok (.iadd, 1) := by decide +kernel
theorem dX7_blankSides_36 : decode cX7_blankSides 36 = .ok (.invokevirtual 170, 3) := by decide +kernel
theorem dX7_blankSides_39 : decode cX7_blankSides 39 = .ok (.iload_n 1, 1) := by decide +kernel
theorem dX7_blankSides_40 : decode cX7_blankSides 40 = .ok (.if_icmp .ge 7, 3) := by decide +kernel
theorem dX7_blankSides_43 : decode cX7_blankSides 43 = .ok (.iconst 1, 1) := by decide +kernel
theorem dX7_blankSides_44 : decode cX7_blankSides 44 = .ok (.goto 4, 3) := by decide +kernel
theorem dX7_blankSides_47 : decode cX7_blankSides 47 = .ok (.iconst 0, 1) := by decide +kernel
theorem dX7_blankSides_48 : decode cX7_blankSides 48 = .ok (.iadd, 1) := by decide +kernel
theorem dX7_blankSides_49 : decode cX7_blankSides 49 = .ok (.istore_n 2, 1) := by decide +kernel
theorem dX7_blankSides_50 : decode cX7_blankSides 50 = .ok (.iinc 4 1, 3) := by decide +kernel
theorem dX7_blankSides_53 : decode cX7_blankSides 53 = .ok (.goto (-38), 3) := by decide +kernel
theorem dX7_blankSides_56 : decode cX7_blankSides 56 = .ok (.iinc 3 1, 3) := by decide +kernel
theorem dX7_blankSides_59 : decode cX7_blankSides 59 = .ok (.goto (-55), 3) := by decide +kernel
theorem dX7_blankSides_62 : decode cX7_blankSides 62 = .ok (.iload_n 2, 1) := by decide +kernel
theorem dX7_blankSides_63 : decode cX7_blankSides 63 = .ok (.ireturn, 1) := by decide +kernel
theorem dX7_blankFor_0 : decode cX7_blankFor 0 = .ok (.aload_n 0, 1) := by decide +kernel
theorem dX7_blankFor_1 : decode cX7_blankFor 1 = .ok (.iload_n 1, 1) := by decide +kernel
theorem dX7_blankFor_2 : decode cX7_blankFor 2 = .ok (.iconst 0, 1) := by decide +kernel
theorem dX7_blankFor_3 : decode cX7_blankFor 3 = .ok (.bipush 80, 2) := by decide +kernel
theorem dX7_blankFor_5 : decode cX7_blankFor 5 = .ok (.invokestatic 72, 3) := by decide +kernel
theorem dX7_blankFor_8 : decode cX7_blankFor 8 = .ok (.ifCond .eq 7, 3) := by decide +kernel
theorem dX7_blankFor_11 : decode cX7_blankFor 11 = .ok (.iconst 0, 1) := by decide +kernel
theorem dX7_blankFor_12 : decode cX7_blankFor 12 = .ok (.goto 4, 3) := by decide +kernel
theorem dX7_blankFor_15 : decode cX7_blankFor 15 = .ok (.iconst 1, 1) := by decide +kernel
theorem dX7_blankFor_16 : decode cX7_blankFor 16 = .ok (.putfield 45, 3) := by decide +kernel
theorem dX7_blankFor_19 : decode cX7_blankFor 19 = .ok (.aload_n 0, 1) := by decide +kernel
theorem dX7_blankFor_20 : decode cX7_blankFor 20 = .ok (.getfield 45, 3) := by decide +kernel
theorem dX7_blankFor_23 : decode cX7_blankFor 23 = .ok (.ifCond .le 5, 3) := by decide +kernel
theorem dX7_blankFor_26 : decode cX7_blankFor 26 = .ok (.iconst 0, 1) := by decide +kernel
theorem dX7_blankFor_27 : decode cX7_blankFor 27 = .ok (.ireturn, 1) := by decide +kernel
theorem dX7_blankFor_28 : decode cX7_blankFor 28 = .ok (.iconst 0, 1) := by decide +kernel
theorem dX7_blankFor_29 : decode cX7_blankFor 29 = .ok (.istore_n 2, 1) := by decide +kernel
theorem dX7_blankFor_30 : decode cX7_blankFor 30 = .ok (.iload_n 2, 1) := by decide +kernel
theorem dX7_blankFor_31 : decode cX7_blankFor 31 = .ok (.sipush 1000, 3) := by decide +kernel
theorem dX7_blankFor_34 : decode cX7_blankFor 34 = .ok (.if_icmp .gt 20, 3) := by decide +kernel
theorem dX7_blankFor_37 : decode cX7_blankFor 37 = .ok (.aload_n 0, 1) := by decide +kernel
theorem dX7_blankFor_38 : decode cX7_blankFor 38 = .ok (.iload_n 2, 1) := by decide +kernel
theorem dX7_blankFor_39 : decode cX7_blankFor 39 = .ok (.invokevirtual 249, 3) := by decide +kernel
theorem dX7_blankFor_42 : decode cX7_blankFor 42 = .ok (.iload_n 1, 1) := by decide +kernel
theorem dX7_blankFor_43 : decode cX7_blankFor 43 = .ok (.if_icmp .lt 5, 3) := by decide +kernel
theorem dX7_blankFor_46 : decode cX7_blankFor 46 = .ok (.iload_n 2, 1) := by decide +kernel
theorem dX7_blankFor_47 : decode cX7_blankFor 47 = .ok (.ireturn, 1) := by decide +kernel
theorem dX7_blankFor_48 : decode cX7_blankFor 48 = .ok (.iinc 2 1, 3) := by decide +kernel
theorem dX7_blankFor_51 : decode cX7_blankFor 51 = .ok (.goto (-21), 3) := by decide +kernel
theorem dX7_blankFor_54 : decode cX7_blankFor 54 = .ok (.iconst (-1), 1) := by decide +kernel
theorem dX7_blankFor_55 : decode cX7_blankFor 55 = .ok (.ireturn, 1) := by decide +kernel
theorem dX7_account_0 : decode cX7_account 0 = .ok (.aload_n 0, 1) := by decide +kernel
theorem dX7_account_1 : decode cX7_account 1 = .ok (.iload_n 1, 1) := by decide +kernel
theorem dX7_account_2 : decode cX7_account 2 = .ok (.iconst 0, 1) := by decide +kernel
theorem dX7_account_3 : decode cX7_account 3 = .ok (.bipush 8, 2) := by decide +kernel
theorem dX7_account_5 : decode cX7_account 5 = .ok (.invokestatic 72, 3) := by decide +kernel
theorem dX7_account_8 : decode cX7_account 8 = .ok (.ifCond .eq 7, 3) := by decide +kernel
theorem dX7_account_11 : decode cX7_account 11 = .ok (.iconst 0, 1) := by decide +kernel
theorem dX7_account_12 : decode cX7_account 12 = .ok (.goto 4, 3) := by decide +kernel
theorem dX7_account_15 : decode cX7_account 15 = .ok (.iconst 1, 1) := by decide +kernel
theorem dX7_account_16 : decode cX7_account 16 = .ok (.putfield 45, 3) := by decide +kernel
theorem dX7_account_19 : decode cX7_account 19 = .ok (.aload_n 0, 1) := by decide +kernel
theorem dX7_account_20 : decode cX7_account 20 = .ok (.getfield 45, 3) := by decide +kernel
theorem dX7_account_23 : decode cX7_account 23 = .ok (.ifCond .ne 15, 3) := by decide +kernel
theorem dX7_account_26 : decode cX7_account 26 = .ok (.aload_n 0, 1) := by decide +kernel
theorem dX7_account_27 : decode cX7_account 27 = .ok (.getfield 20, 3) := by decide +kernel
theorem dX7_account_30 : decode cX7_account 30 = .ok (.bipush 17, 2) := by decide +kernel
theorem dX7_account_32 : decode cX7_account 32 = .ok (.iload_n 1, 1) := by decide +kernel
theorem dX7_account_33 : decode cX7_account 33 = .ok (.iadd, 1) := by decide +kernel
theorem dX7_account_34 : decode cX7_account 34 = .ok (.iaload, 1) := by decide +kernel
theorem dX7_account_35 : decode cX7_account 35 = .ok (.goto 4, 3) := by decide +kernel
theorem dX7_account_38 : decode cX7_account 38 = .ok (.iconst 0, 1) := by decide +kernel
theorem dX7_account_39 : decode cX7_account 39 = .ok (.ireturn, 1) := by decide +kernel
theorem dX7_sheetsAt_0 : decode cX7_sheetsAt 0 = .ok (.aload_n 0, 1) := by decide +kernel
theorem dX7_sheetsAt_1 : decode cX7_sheetsAt 1 = .ok (.iload_n 1, 1) := by decide +kernel
theorem dX7_sheetsAt_2 : decode cX7_sheetsAt 2 = .ok (.iconst 0, 1) := by decide +kernel
theorem dX7_sheetsAt_3 : decode cX7_sheetsAt 3 = .ok (.bipush 6, 2) := by decide +kernel
theorem dX7_sheetsAt_5 : decode cX7_sheetsAt 5 = .ok (.invokestatic 72, 3) := by decide +kernel
theorem dX7_sheetsAt_8 : decode cX7_sheetsAt 8 = .ok (.ifCond .eq 7, 3) := by decide +kernel
theorem dX7_sheetsAt_11 : decode cX7_sheetsAt 11 = .ok (.iconst 0, 1) := by decide +kernel
theorem dX7_sheetsAt_12 : decode cX7_sheetsAt 12 = .ok (.goto 4, 3) := by decide +kernel
theorem dX7_sheetsAt_15 : decode cX7_sheetsAt 15 = .ok (.iconst 1, 1) := by decide +kernel
theorem dX7_sheetsAt_16 : decode cX7_sheetsAt 16 = .ok (.putfield 45, 3) := by decide +kernel
theorem dX7_sheetsAt_19 : decode cX7_sheetsAt 19 = .ok (.iconst 0, 1) := by decide +kernel
theorem dX7_sheetsAt_20 : decode cX7_sheetsAt 20 = .ok (.istore_n 2, 1) := by decide +kernel
theorem dX7_sheetsAt_21 : decode cX7_sheetsAt 21 = .ok (.iconst 0, 1) := by decide +kernel
theorem dX7_sheetsAt_22 : decode cX7_sheetsAt 22 = .ok (.istore_n 3, 1) := by decide +kernel
theorem dX7_sheetsAt_23 : decode cX7_sheetsAt 23 = .ok (.iload_n 3, 1) := by decide +kernel
theorem dX7_sheetsAt_24 : decode cX7_sheetsAt 24 = .ok (.aload_n 0, 1) := by decide +kernel
theorem dX7_sheetsAt_25 : decode cX7_sheetsAt 25 = .ok (.invokevirtual 164, 3) := by decide +kernel
theorem dX7_sheetsAt_28 : decode cX7_sheetsAt 28 = .ok (.if_icmp .ge 39, 3) := by decide +kernel
theorem dX7_sheetsAt_31 : decode cX7_sheetsAt 31 = .ok (.aload_n 0, 1) := by decide +kernel
theorem dX7_sheetsAt_32 : decode cX7_sheetsAt 32 = .ok (.getfield 45, 3) := by decide +kernel
theorem dX7_sheetsAt_35 : decode cX7_sheetsAt 35 = .ok (.ifCond .ne 32, 3) := by decide +kernel
theorem dX7_sheetsAt_38 : decode cX7_sheetsAt 38 = .ok (.iload_n 2, 1) := by decide +kernel
theorem dX7_sheetsAt_39 : decode cX7_sheetsAt 39 = .ok (.aload_n 0, 1) := by decide +kernel
theorem dX7_sheetsAt_40 : decode cX7_sheetsAt 40 = .ok (.getfield 20, 3) := by decide +kernel
theorem dX7_sheetsAt_43 : decode cX7_sheetsAt 43 = .ok (.iload_n 3, 1) := by decide +kernel
theorem dX7_sheetsAt_44 : decode cX7_sheetsAt 44 = .ok (.invokestatic 167, 3) := by decide +kernel
theorem dX7_sheetsAt_47 : decode cX7_sheetsAt 47 = .ok (.iconst 0, 1) := by decide +kernel
theorem dX7_sheetsAt_48 : decode cX7_sheetsAt 48 = .ok (.iadd, 1) := by decide +kernel
theorem dX7_sheetsAt_49 : decode cX7_sheetsAt 49 = .ok (.iaload, 1) := by decide +kernel
theorem dX7_sheetsAt_50 : decode cX7_sheetsAt 50 = .ok (.iload_n 1, 1) := by decide +kernel
theorem dX7_sheetsAt_51 : decode cX7_sheetsAt 51 = .ok (.if_icmp .ne 7, 3) := by decide +kernel
theorem dX7_sheetsAt_54 : decode cX7_sheetsAt 54 = .ok (.iconst 1, 1) := by decide +kernel
theorem dX7_sheetsAt_55 : decode cX7_sheetsAt 55 = .ok (.goto 4, 3) := by decide +kernel
theorem dX7_sheetsAt_58 : decode cX7_sheetsAt 58 = .ok (.iconst 0, 1) := by decide +kernel
theorem dX7_sheetsAt_59 : decode cX7_sheetsAt 59 = .ok (.iadd, 1) := by decide +kernel
theorem dX7_sheetsAt_60 : decode cX7_sheetsAt 60 = .ok (.istore_n 2, 1) := by decide +kernel
theorem dX7_sheetsAt_61 : decode cX7_sheetsAt 61 = .ok (.iinc 3 1, 3) := by decide +kernel
theorem dX7_sheetsAt_64 : decode cX7_sheetsAt 64 = .ok (.goto (-41), 3) := by decide +kernel
theorem dX7_sheetsAt_67 : decode cX7_sheetsAt 67 = .ok (.iload_n 2, 1) := by decide +kernel
theorem dX7_sheetsAt_68 : decode cX7_sheetsAt 68 = .ok (.ireturn, 1) := by decide +kernel
theorem dX7_meanInk_0 : decode cX7_meanInk 0 = .ok (.aload_n 0, 1) := by decide +kernel
theorem dX7_meanInk_1 : decode cX7_meanInk 1 = .ok (.iconst 0, 1) := by decide +kernel
theorem dX7_meanInk_2 : decode cX7_meanInk 2 = .ok (.putfield 45, 3) := by decide +kernel
theorem dX7_meanInk_5 : decode cX7_meanInk 5 = .ok (.aload_n 0, 1) := by decide +kernel
theorem dX7_meanInk_6 : decode cX7_meanInk 6 = .ok (.getfield 20, 3) := by decide +kernel
theorem dX7_meanInk_9 : decode cX7_meanInk 9 = .ok (.bipush 15, 2) := by decide +kernel
theorem dX7_meanInk_11 : decode cX7_meanInk 11 = .ok (.iaload, 1) := by decide +kernel
theorem dX7_meanInk_12 : decode cX7_meanInk 12 = .ok (.ifCond .ne 5, 3) := by decide +kernel
theorem dX7_meanInk_15 : decode cX7_meanInk 15 = .ok (.dconst 0, 1) := by decide +kernel
theorem dX7_meanInk_16 : decode cX7_meanInk 16 = .ok (.dreturn, 1) := by decide +kernel
theorem dX7_meanInk_17 : decode cX7_meanInk 17 = .ok (.iconst 0, 1) := by decide +kernel
theorem dX7_meanInk_18 : decode cX7_meanInk 18 = .ok (.istore_n 1, 1) := by decide +kernel
theorem dX7_meanInk_19 : decode cX7_meanInk 19 = .ok (.iconst 0, 1) := by decide +kernel
theorem dX7_meanInk_20 : decode cX7_meanInk 20 = .ok (.istore_n 2, 1) := by decide +kernel
theorem dX7_meanInk_21 : decode cX7_meanInk 21 = .ok (.iload_n 2, 1) := by decide +kernel
theorem dX7_meanInk_22 : decode cX7_meanInk 22 = .ok (.aload_n 0, 1) := by decide +kernel
theorem dX7_meanInk_23 : decode cX7_meanInk 23 = .ok (.getfield 20, 3) := by decide +kernel
theorem dX7_meanInk_26 : decode cX7_meanInk 26 = .ok (.bipush 15, 2) := by decide +kernel
theorem dX7_meanInk_28 : decode cX7_meanInk 28 = .ok (.iaload, 1) := by decide +kernel
theorem dX7_meanInk_29 : decode cX7_meanInk 29 = .ok (.if_icmp .ge 46, 3) := by decide +kernel
theorem dX7_meanInk_32 : decode cX7_meanInk 32 = .ok (.iload_n 1, 1) := by decide +kernel
theorem dX7_meanInk_33 : decode cX7_meanInk 33 = .ok (.aload_n 0, 1) := by decide +kernel
theorem dX7_meanInk_34 : decode cX7_meanInk 34 = .ok (.aload_n 0, 1) := by decide +kernel
theorem dX7_meanInk_35 : decode cX7_meanInk 35 = .ok (.getfield 20, 3) := by decide +kernel
theorem dX7_meanInk_38 : decode cX7_meanInk 38 = .ok (.sipush 266, 3) := by decide +kernel
theorem dX7_meanInk_41 : decode cX7_meanInk 41 = .ok (.iconst 2, 1) := by decide +kernel
theorem dX7_meanInk_42 : decode cX7_meanInk 42 = .ok (.iload_n 2, 1) := by decide +kernel
theorem dX7_meanInk_43 : decode cX7_meanInk 43 = .ok (.imul, 1) := by decide +kernel
theorem dX7_meanInk_44 : decode cX7_meanInk 44 = .ok (.iadd, 1) := by decide +kernel
theorem dX7_meanInk_45 : decode cX7_meanInk 45 = .ok (.iaload, 1) := by decide +kernel
theorem dX7_meanInk_46 : decode cX7_meanInk 46 = .ok (.iconst 2, 1) := by decide +kernel
theorem dX7_meanInk_47 : decode cX7_meanInk 47 = .ok (.idiv, 1) := by decide +kernel
theorem dX7_meanInk_48 : decode cX7_meanInk 48 = .ok (.iconst 3, 1) := by decide +kernel
theorem dX7_meanInk_49 : decode cX7_meanInk 49 = .ok (.aload_n 0, 1) := by decide +kernel
theorem dX7_meanInk_50 : decode cX7_meanInk 50 = .ok (.getfield 20, 3) := by decide +kernel
theorem dX7_meanInk_53 : decode cX7_meanInk 53 = .ok (.sipush 266, 3) := by decide +kernel
theorem dX7_meanInk_56 : decode cX7_meanInk 56 = .ok (.iconst 2, 1) := by decide +kernel
theorem dX7_meanInk_57 : decode cX7_meanInk 57 = .ok (.iload_n 2, 1) := by decide +kernel
theorem dX7_meanInk_58 : decode cX7_meanInk 58 = .ok (.imul, 1) := by decide +kernel
theorem dX7_meanInk_59 : decode cX7_meanInk 59 = .ok (.iadd, 1) := by decide +kernel
theorem dX7_meanInk_60 : decode cX7_meanInk 60 = .ok (.iaload, 1) := by decide +kernel
theorem dX7_meanInk_61 : decode cX7_meanInk 61 = .ok (.iconst 2, 1) := by decide +kernel
theorem dX7_meanInk_62 : decode cX7_meanInk 62 = .ok (.irem, 1) := by decide +kernel
theorem dX7_meanInk_63 : decode cX7_meanInk 63 = .ok (.iadd, 1) := by decide +kernel
theorem dX7_meanInk_64 : decode cX7_meanInk 64 = .ok (.invokevirtual 170, 3) := by decide +kernel
theorem dX7_meanInk_67 : decode cX7_meanInk 67 = .ok (.iadd, 1) := by decide +kernel
theorem dX7_meanInk_68 : decode cX7_meanInk 68 = .ok (.istore_n 1, 1) := by decide +kernel
theorem dX7_meanInk_69 : decode cX7_meanInk 69 = .ok (.iinc 2 1, 3) := by decide +kernel
theorem dX7_meanInk_72 : decode cX7_meanInk 72 = .ok (.goto (-51), 3) := by decide +kernel
theorem dX7_meanInk_75 : decode cX7_meanInk 75 = .ok (.iload_n 1, 1) := by decide +kernel
theorem dX7_meanInk_76 : decode cX7_meanInk 76 = .ok (.i2d, 1) := by decide +kernel
theorem dX7_meanInk_77 : decode cX7_meanInk 77 = .ok (.aload_n 0, 1) := by decide +kernel
theorem dX7_meanInk_78 : decode cX7_meanInk 78 = .ok (.getfield 20, 3) := by decide +kernel
theorem dX7_meanInk_81 : decode cX7_meanInk 81 = .ok (.bipush 15, 2) := by decide +kernel
theorem dX7_meanInk_83 : decode cX7_meanInk 83 = .ok (.iaload, 1) := by decide +kernel
theorem dX7_meanInk_84 : decode cX7_meanInk 84 = .ok (.i2d, 1) := by decide +kernel
theorem dX7_meanInk_85 : decode cX7_meanInk 85 = .ok (.ddiv, 1) := by decide +kernel
theorem dX7_meanInk_86 : decode cX7_meanInk 86 = .ok (.dreturn, 1) := by decide +kernel
theorem dX7_undo_0 : decode cX7_undo 0 = .ok (.aload_n 0, 1) := by decide +kernel
theorem dX7_undo_1 : decode cX7_undo 1 = .ok (.iconst 0, 1) := by decide +kernel
theorem dX7_undo_2 : decode cX7_undo 2 = .ok (.putfield 45, 3) := by decide +kernel
theorem dX7_undo_5 : decode cX7_undo 5 = .ok (.aload_n 0, 1) := by decide +kernel
theorem dX7_undo_6 : decode cX7_undo 6 = .ok (.getfield 173, 3) := by decide +kernel
theorem dX7_undo_9 : decode cX7_undo 9 = .ok (.ifCond .ne 5, 3) := by decide +kernel
theorem dX7_undo_12 : decode cX7_undo 12 = .ok (.iconst (-1), 1) := by decide +kernel
theorem dX7_undo_13 : decode cX7_undo 13 = .ok (.ireturn, 1) := by decide +kernel
theorem dX7_undo_14 : decode cX7_undo 14 = .ok (.aload_n 0, 1) := by decide +kernel
theorem dX7_undo_15 : decode cX7_undo 15 = .ok (.dup, 1) := by decide +kernel
theorem dX7_undo_16 : decode cX7_undo 16 = .ok (.getfield 173, 3) := by decide +kernel
theorem dX7_undo_19 : decode cX7_undo 19 = .ok (.iconst 1, 1) := by decide +kernel
theorem dX7_undo_20 : decode cX7_undo 20 = .ok (.isub, 1) := by decide +kernel
theorem dX7_undo_21 : decode cX7_undo 21 = .ok (.putfield 173, 3) := by decide +kernel
theorem dX7_undo_24 : decode cX7_undo 24 = .ok (.aload_n 0, 1) := by decide +kernel
theorem dX7_undo_25 : decode cX7_undo 25 = .ok (.getfield 26, 3) := by decide +kernel
theorem dX7_undo_28 : decode cX7_undo 28 = .ok (.aload_n 0, 1) := by decide +kernel
theorem dX7_undo_29 : decode cX7_undo 29 = .ok (.getfield 173, 3) := by decide +kernel
theorem dX7_undo_32 : decode cX7_undo 32 = .ok (.aload_n 0, 1) := by decide +kernel
theorem dX7_undo_33 : decode cX7_undo 33 = .ok (.getfield 20, 3) := by decide +kernel
theorem dX7_undo_36 : decode cX7_undo 36 = .ok (.iconst 0, 1) := by decide +kernel
theorem dX7_undo_37 : decode cX7_undo 37 = .ok (.invokestatic 176, 3) := by decide +kernel
theorem dX7_undo_40 : decode cX7_undo 40 = .ok (.aload_n 0, 1) := by decide +kernel
theorem dX7_undo_41 : decode cX7_undo 41 = .ok (.getfield 173, 3) := by decide +kernel
theorem dX7_undo_44 : decode cX7_undo 44 = .ok (.ireturn, 1) := by decide +kernel
theorem dX7_saveSnapshot_0 : decode cX7_saveSnapshot 0 = .ok (.aload_n 0, 1) := by decide +kernel
theorem dX7_saveSnapshot_1 : decode cX7_saveSnapshot 1 = .ok (.iconst 0, 1) := by decide +kernel
theorem dX7_saveSnapshot_2 : decode cX7_saveSnapshot 2 = .ok (.putfield 45, 3) := by decide +kernel
theorem dX7_saveSnapshot_5 : decode cX7_saveSnapshot 5 = .ok (.iload_n 1, 1) := by decide +kernel
theorem dX7_saveSnapshot_6 : decode cX7_saveSnapshot 6 = .ok (.iconst 0, 1) := by decide +kernel
theorem dX7_saveSnapshot_7 : decode cX7_saveSnapshot 7 = .ok (.iconst 1, 1) := by decide +kernel
theorem dX7_saveSnapshot_8 : decode cX7_saveSnapshot 8 = .ok (.invokestatic 72, 3) := by decide +kernel
theorem dX7_saveSnapshot_11 : decode cX7_saveSnapshot 11 = .ok (.ifCond .ne 5, 3) := by decide +kernel
theorem dX7_saveSnapshot_14 : decode cX7_saveSnapshot 14 = .ok (.iconst 0, 1) := by decide +kernel
theorem dX7_saveSnapshot_15 : decode cX7_saveSnapshot 15 = .ok (.ireturn, 1) := by decide +kernel
theorem dX7_saveSnapshot_16 : decode cX7_saveSnapshot 16 = .ok (.aload_n 0, 1) := by decide +kernel
theorem dX7_saveSnapshot_17 : decode cX7_saveSnapshot 17 = .ok (.getfield 20, 3) := by decide +kernel
theorem dX7_saveSnapshot_20 : decode cX7_saveSnapshot 20 = .ok (.iconst 0, 1) := by decide +kernel
theorem dX7_saveSnapshot_21 : decode cX7_saveSnapshot 21 = .ok (.aload_n 0, 1) := by decide +kernel
theorem dX7_saveSnapshot_22 : decode cX7_saveSnapshot 22 = .ok (.getfield 29, 3) := by decide +kernel
theorem dX7_saveSnapshot_25 : decode cX7_saveSnapshot 25 = .ok (.iload_n 1, 1) := by decide +kernel
theorem dX7_saveSnapshot_26 : decode cX7_saveSnapshot 26 = .ok (.invokestatic 176, 3) := by decide +kernel
theorem dX7_saveSnapshot_29 : decode cX7_saveSnapshot 29 = .ok (.aload_n 0, 1) := by decide +kernel
theorem dX7_saveSnapshot_30 : decode cX7_saveSnapshot 30 = .ok (.getfield 32, 3) := by decide +kernel
theorem dX7_saveSnapshot_33 : decode cX7_saveSnapshot 33 = .ok (.iload_n 1, 1) := by decide +kernel
theorem dX7_saveSnapshot_34 : decode cX7_saveSnapshot 34 = .ok (.iconst 1, 1) := by decide +kernel
theorem dX7_saveSnapshot_35 : decode cX7_saveSnapshot 35 = .ok (.bastore, 1) := by decide +kernel
theorem dX7_saveSnapshot_36 : decode cX7_saveSnapshot 36 = .ok (.iconst 1, 1) := by decide +kernel
theorem dX7_saveSnapshot_37 : decode cX7_saveSnapshot 37 = .ok (.ireturn, 1) := by decide +kernel
theorem dX7_restoreSnapshot_0 : decode cX7_restoreSnapshot 0 = .ok (.aload_n 0, 1) := by decide +kernel
theorem dX7_restoreSnapshot_1 : decode cX7_restoreSnapshot 1 = .ok (.iconst 0, 1) := by decide +kernel
theorem dX7_restoreSnapshot_2 : decode cX7_restoreSnapshot 2 = .ok (.putfield 45, 3) := by decide +kernel
theorem dX7_restoreSnapshot_5 : decode cX7_restoreSnapshot 5 = .ok (.iload_n 1, 1) := by decide +kernel
theorem dX7_restoreSnapshot_6 : decode cX7_restoreSnapshot 6 = .ok (.iconst 0, 1) := by decide +kernel
theorem dX7_restoreSnapshot_7 : decode cX7_restoreSnapshot 7 = .ok (.iconst 1, 1) := by decide +kernel
theorem dX7_restoreSnapshot_8 : decode cX7_restoreSnapshot 8 = .ok (.invokestatic 72, 3) := by decide +kernel
theorem dX7_restoreSnapshot_11 : decode cX7_restoreSnapshot 11 = .ok (.ifCond .eq 12, 3) := by decide +kernel
theorem dX7_restoreSnapshot_14 : decode cX7_restoreSnapshot 14 = .ok (.aload_n 0, 1) := by decide +kernel
theorem dX7_restoreSnapshot_15 : decode cX7_restoreSnapshot 15 = .ok (.getfield 32, 3) := by decide +kernel
theorem dX7_restoreSnapshot_18 : decode cX7_restoreSnapshot 18 = .ok (.iload_n 1, 1) := by decide +kernel
theorem dX7_restoreSnapshot_19 : decode cX7_restoreSnapshot 19 = .ok (.baload, 1) := by decide +kernel
theorem dX7_restoreSnapshot_20 : decode cX7_restoreSnapshot 20 = .ok (.ifCond .ne 5, 3) := by decide +kernel
theorem dX7_restoreSnapshot_23 : decode cX7_restoreSnapshot 23 = .ok (.iconst 0, 1) := by decide +kernel
theorem dX7_restoreSnapshot_24 : decode cX7_restoreSnapshot 24 = .ok (.ireturn, 1) := by decide +kernel
theorem dX7_restoreSnapshot_25 : decode cX7_restoreSnapshot 25 = .ok (.aload_n 0, 1) := by decide +kernel
theorem dX7_restoreSnapshot_26 : decode cX7_restoreSnapshot 26 = .ok (.getfield 29, 3) := by decide +kernel
theorem dX7_restoreSnapshot_29 : decode cX7_restoreSnapshot 29 = .ok (.iload_n 1, 1) := by decide +kernel
theorem dX7_restoreSnapshot_30 : decode cX7_restoreSnapshot 30 = .ok (.aload_n 0, 1) := by decide +kernel
theorem dX7_restoreSnapshot_31 : decode cX7_restoreSnapshot 31 = .ok (.getfield 20, 3) := by decide +kernel
theorem dX7_restoreSnapshot_34 : decode cX7_restoreSnapshot 34 = .ok (.iconst 0, 1) := by decide +kernel
theorem dX7_restoreSnapshot_35 : decode cX7_restoreSnapshot 35 = .ok (.invokestatic 176, 3) := by decide +kernel
theorem dX7_restoreSnapshot_38 : decode cX7_restoreSnapshot 38 = .ok (.aload_n 0, 1) := by decide +kernel
theorem dX7_restoreSnapshot_39 : decode cX7_restoreSnapshot 39 = .ok (.iconst 0, 1) := by decide +kernel
theorem dX7_restoreSnapshot_40 : decode cX7_restoreSnapshot 40 = .ok (.putfield 173, 3) := by decide +kernel
theorem dX7_restoreSnapshot_43 : decode cX7_restoreSnapshot 43 = .ok (.iconst 1, 1) := by decide +kernel
theorem dX7_restoreSnapshot_44 : decode cX7_restoreSnapshot 44 = .ok (.ireturn, 1) := by decide +kernel
theorem dJ9_floorMod_7cf53_0 : decode cJ9_floorMod_7cf53 0 = .ok (.iload_n 0, 1) := by decide +kernel
theorem dJ9_floorMod_7cf53_1 : decode cJ9_floorMod_7cf53 1 = .ok (.iload_n 1, 1) := by decide +kernel
theorem dJ9_floorMod_7cf53_2 : decode cJ9_floorMod_7cf53 2 = .ok (.irem, 1) := by decide +kernel
theorem dJ9_floorMod_7cf53_3 : decode cJ9_floorMod_7cf53 3 = .ok (.istore_n 2, 1) := by decide +kernel
theorem dJ9_floorMod_7cf53_4 : decode cJ9_floorMod_7cf53 4 = .ok (.iload_n 0, 1) := by decide +kernel
theorem dJ9_floorMod_7cf53_5 : decode cJ9_floorMod_7cf53 5 = .ok (.iload_n 1, 1) := by decide +kernel
theorem dJ9_floorMod_7cf53_6 : decode cJ9_floorMod_7cf53 6 = .ok (.ixor, 1) := by decide +kernel
theorem dJ9_floorMod_7cf53_7 : decode cJ9_floorMod_7cf53 7 = .ok (.ifCond .ge 11, 3) := by decide +kernel
theorem dJ9_floorMod_7cf53_10 : decode cJ9_floorMod_7cf53 10 = .ok (.iload_n 2, 1) := by decide +kernel
theorem dJ9_floorMod_7cf53_11 : decode cJ9_floorMod_7cf53 11 = .ok (.ifCond .eq 7, 3) := by decide +kernel
theorem dJ9_floorMod_7cf53_14 : decode cJ9_floorMod_7cf53 14 = .ok (.iload_n 2, 1) := by decide +kernel
theorem dJ9_floorMod_7cf53_15 : decode cJ9_floorMod_7cf53 15 = .ok (.iload_n 1, 1) := by decide +kernel
theorem dJ9_floorMod_7cf53_16 : decode cJ9_floorMod_7cf53 16 = .ok (.iadd, 1) := by decide +kernel
theorem dJ9_floorMod_7cf53_17 : decode cJ9_floorMod_7cf53 17 = .ok (.ireturn, 1) := by decide +kernel
theorem dJ9_floorMod_7cf53_18 : decode cJ9_floorMod_7cf53 18 = .ok (.iload_n 2, 1) := by decide +kernel
theorem dJ9_floorMod_7cf53_19 : decode cJ9_floorMod_7cf53 19 = .ok (.ireturn, 1) := by decide +kernel
theorem dJ9_abs_0f7a4_0 : decode cJ9_abs_0f7a4 0 = .ok (.iload_n 0, 1) := by decide +kernel
theorem dJ9_abs_0f7a4_1 : decode cJ9_abs_0f7a4 1 = .ok (.ifCond .ge 8, 3) := by decide +kernel
theorem dJ9_abs_0f7a4_4 : decode cJ9_abs_0f7a4 4 = .ok (.iload_n 0, 1) := by decide +kernel
theorem dJ9_abs_0f7a4_5 : decode cJ9_abs_0f7a4 5 = .ok (.ineg, 1) := by decide +kernel
theorem dJ9_abs_0f7a4_6 : decode cJ9_abs_0f7a4 6 = .ok (.goto 4, 3) := by decide +kernel
theorem dJ9_abs_0f7a4_9 : decode cJ9_abs_0f7a4 9 = .ok (.iload_n 0, 1) := by decide +kernel
theorem dJ9_abs_0f7a4_10 : decode cJ9_abs_0f7a4 10 = .ok (.ireturn, 1) := by decide +kernel
theorem dJ9_max_7cf53_0 : decode cJ9_max_7cf53 0 = .ok (.iload_n 0, 1) := by decide +kernel
theorem dJ9_max_7cf53_1 : decode cJ9_max_7cf53 1 = .ok (.iload_n 1, 1) := by decide +kernel
theorem dJ9_max_7cf53_2 : decode cJ9_max_7cf53 2 = .ok (.if_icmp .lt 7, 3) := by decide +kernel
theorem dJ9_max_7cf53_5 : decode cJ9_max_7cf53 5 = .ok (.iload_n 0, 1) := by decide +kernel
theorem dJ9_max_7cf53_6 : decode cJ9_max_7cf53 6 = .ok (.goto 4, 3) := by decide +kernel
theorem dJ9_max_7cf53_9 : decode cJ9_max_7cf53 9 = .ok (.iload_n 1, 1) := by decide +kernel
theorem dJ9_max_7cf53_10 : decode cJ9_max_7cf53 10 = .ok (.ireturn, 1) := by decide +kernel
theorem dJ9_min_7cf53_0 : decode cJ9_min_7cf53 0 = .ok (.iload_n 0, 1) := by decide +kernel
theorem dJ9_min_7cf53_1 : decode cJ9_min_7cf53 1 = .ok (.iload_n 1, 1) := by decide +kernel
theorem dJ9_min_7cf53_2 : decode cJ9_min_7cf53 2 = .ok (.if_icmp .gt 7, 3) := by decide +kernel
theorem dJ9_min_7cf53_5 : decode cJ9_min_7cf53 5 = .ok (.iload_n 0, 1) := by decide +kernel
theorem dJ9_min_7cf53_6 : decode cJ9_min_7cf53 6 = .ok (.goto 4, 3) := by decide +kernel
theorem dJ9_min_7cf53_9 : decode cJ9_min_7cf53 9 = .ok (.iload_n 1, 1) := by decide +kernel
theorem dJ9_min_7cf53_10 : decode cJ9_min_7cf53 10 = .ok (.ireturn, 1) := by decide +kernel
theorem dJ0_length_8abf5_0 : decode cJ0_length_8abf5 0 = .ok (.aload_n 0, 1) := by decide +kernel
theorem dJ0_length_8abf5_1 : decode cJ0_length_8abf5 1 = .ok (.getfield 9, 3) := by decide +kernel
theorem dJ0_length_8abf5_4 : decode cJ0_length_8abf5 4 = .ok (.arraylength, 1) := by decide +kernel
theorem dJ0_length_8abf5_5 : decode cJ0_length_8abf5 5 = .ok (.aload_n 0, 1) := by decide +kernel
theorem dJ0_length_8abf5_6 : decode cJ0_length_8abf5 6 = .ok (.invokevirtual 335, 3) := by decide +kernel
theorem dJ0_length_8abf5_9 : decode cJ0_length_8abf5 9 = .ok (.ishr, 1) := by decide +kernel
theorem dJ0_length_8abf5_10 : decode cJ0_length_8abf5 10 = .ok (.ireturn, 1) := by decide +kernel
theorem dJ0_charAt_5068e_0 : decode cJ0_charAt_5068e 0 = .ok (.aload_n 0, 1) := by decide +kernel
theorem dJ0_charAt_5068e_1 : decode cJ0_charAt_5068e 1 = .ok (.invokevirtual 492, 3) := by decide +kernel
theorem dJ0_charAt_5068e_4 : decode cJ0_charAt_5068e 4 = .ok (.ifCond .eq 12, 3) := by decide +kernel
theorem dJ0_charAt_5068e_7 : decode cJ0_charAt_5068e 7 = .ok (.aload_n 0, 1) := by decide +kernel
theorem dJ0_charAt_5068e_8 : decode cJ0_charAt_5068e 8 = .ok (.getfield 9, 3) := by decide +kernel
theorem dJ0_charAt_5068e_11 : decode cJ0_charAt_5068e 11 = .ok (.iload_n 1, 1) := by decide +kernel
theorem dJ0_charAt_5068e_12 : decode cJ0_charAt_5068e 12 = .ok (.invokestatic 495, 3) := by decide +kernel
theorem dJ0_charAt_5068e_15 : decode cJ0_charAt_5068e 15 = .ok (.ireturn, 1) := by decide +kernel
theorem dJ0_charAt_5068e_16 : decode cJ0_charAt_5068e 16 = .ok (.aload_n 0, 1) := by decide +kernel
theorem dJ0_charAt_5068e_17 : decode cJ0_charAt_5068e 17 = .ok (.getfield 9, 3) := by decide +kernel
theorem dJ0_charAt_5068e_20 : decode cJ0_charAt_5068e 20 = .ok (.iload_n 1, 1) := by decide +kernel
theorem dJ0_charAt_5068e_21 : decode cJ0_charAt_5068e 21 = .ok (.invokestatic 498, 3) := by decide +kernel
theorem dJ0_charAt_5068e_24 : decode cJ0_charAt_5068e 24 = .ok (.ireturn, 1) := by decide +kernel
theorem dJ0_coder_7d493_0 : decode cJ0_coder_7d493 0 = .ok (.getstatic 38, 3) := by decide +kernel
theorem dJ0_coder_7d493_3 : decode cJ0_coder_7d493 3 = .ok (.ifCond .eq 10, 3) := by decide +kernel
theorem dJ0_coder_7d493_6 : decode cJ0_coder_7d493 6 = .ok (.aload_n 0, 1) := by decide +kernel
theorem dJ0_coder_7d493_7 : decode cJ0_coder_7d493 7 = .ok (.getfield 15, 3) := by decide +kernel
theorem dJ0_coder_7d493_10 : decode cJ0_coder_7d493 10 = .ok (.goto 4, 3) := by decide +kernel
theorem dJ0_coder_7d493_13 : decode cJ0_coder_7d493 13 = .ok (.iconst 1, 1) := by decide +kernel
theorem dJ0_coder_7d493_14 : decode cJ0_coder_7d493 14 = .ok (.ireturn, 1) := by decide +kernel
theorem dJ0_isLatin1_aae02_0 : decode cJ0_isLatin1_aae02 0 = .ok (.getstatic 38, 3) := by decide +kernel
theorem dJ0_isLatin1_aae02_3 : decode cJ0_isLatin1_aae02 3 = .ok (.ifCond .eq 14, 3) := by decide +kernel
theorem dJ0_isLatin1_aae02_6 : decode cJ0_isLatin1_aae02 6 = .ok (.aload_n 0, 1) := by decide +kernel
theorem dJ0_isLatin1_aae02_7 : decode cJ0_isLatin1_aae02 7 = .ok (.getfield 15, 3) := by decide +kernel
theorem dJ0_isLatin1_aae02_10 : decode cJ0_isLatin1_aae02 10 = .ok (.ifCond .ne 7, 3) := by decide +kernel
theorem dJ0_isLatin1_aae02_13 : decode cJ0_isLatin1_aae02 13 = .ok (.iconst 1, 1) := by decide +kernel
theorem dJ0_isLatin1_aae02_14 : decode cJ0_isLatin1_aae02 14 = .ok (.goto 4, 3) := by decide +kernel
theorem dJ0_isLatin1_aae02_17 : decode cJ0_isLatin1_aae02 17 = .ok (.iconst 0, 1) := by decide +kernel
theorem dJ0_isLatin1_aae02_18 : decode cJ0_isLatin1_aae02 18 = .ok (.ireturn, 1) := by decide +kernel
theorem dJ0_checkIndex_df160_0 : decode cJ0_checkIndex_df160 0 = .ok (.iload_n 0, 1) := by decide +kernel
theorem dJ0_checkIndex_df160_1 : decode cJ0_checkIndex_df160 1 = .ok (.iload_n 1, 1) := by decide +kernel
theorem dJ0_checkIndex_df160_2 : decode cJ0_checkIndex_df160 2 = .ok (.getstatic 1053, 3) := by decide +kernel
theorem dJ0_checkIndex_df160_5 : decode cJ0_checkIndex_df160 5 = .ok (.invokestatic 1059, 3) := by decide +kernel
theorem dJ0_checkIndex_df160_8 : decode cJ0_checkIndex_df160 8 = .ok (.pop, 1) := by decide +kernel
theorem dJ0_checkIndex_df160_9 : decode cJ0_checkIndex_df160 9 = .ok (.return_, 1) := by decide +kernel
theorem dJ1_charAt_3b067_0 : decode cJ1_charAt_3b067 0 = .ok (.iload_n 1, 1) := by decide +kernel
theorem dJ1_charAt_3b067_1 : decode cJ1_charAt_3b067 1 = .ok (.aload_n 0, 1) := by decide +kernel
theorem dJ1_charAt_3b067_2 : decode cJ1_charAt_3b067 2 = .ok (.arraylength, 1) := by decide +kernel
theorem dJ1_charAt_3b067_3 : decode cJ1_charAt_3b067 3 = .ok (.invokestatic 9, 3) := by decide +kernel
theorem dJ1_charAt_3b067_6 : decode cJ1_charAt_3b067 6 = .ok (.aload_n 0, 1) := by decide +kernel
theorem dJ1_charAt_3b067_7 : decode cJ1_charAt_3b067 7 = .ok (.iload_n 1, 1) := by decide +kernel
theorem dJ1_charAt_3b067_8 : decode cJ1_charAt_3b067 8 = .ok (.baload, 1) := by decide +kernel
theorem dJ1_charAt_3b067_9 : decode cJ1_charAt_3b067 9 = .ok (.sipush 255, 3) := by decide +kernel
theorem dJ1_charAt_3b067_12 : decode cJ1_charAt_3b067 12 = .ok (.iand, 1) := by decide +kernel
theorem dJ1_charAt_3b067_13 : decode cJ1_charAt_3b067 13 = .ok (.i2c, 1) := by decide +kernel
theorem dJ1_charAt_3b067_14 : decode cJ1_charAt_3b067 14 = .ok (.ireturn, 1) := by decide +kernel
theorem dJ2_getChar_3b067_0 : decode cJ2_getChar_3b067 0 = .ok (.getstatic 44, 3) := by decide +kernel
theorem dJ2_getChar_3b067_3 : decode cJ2_getChar_3b067 3 = .ok (.ifCond .ne 25, 3) := by decide +kernel
theorem dJ2_getChar_3b067_6 : decode cJ2_getChar_3b067 6 = .ok (.iload_n 1, 1) := by decide +kernel
theorem dJ2_getChar_3b067_7 : decode cJ2_getChar_3b067 7 = .ok (.ifCond .lt 11, 3) := by decide +kernel
theorem dJ2_getChar_3b067_10 : decode cJ2_getChar_3b067 10 = .ok (.iload_n 1, 1) := by decide +kernel
theorem dJ2_getChar_3b067_11 : decode cJ2_getChar_3b067 11 = .ok (.aload_n 0, 1) := by decide +kernel
theorem dJ2_getChar_3b067_12 : decode cJ2_getChar_3b067 12 = .ok (.invokestatic 48, 3) := by decide +kernel
theorem dJ2_getChar_3b067_15 : decode cJ2_getChar_3b067 15 = .ok (.if_icmp .lt 13, 3) := by decide +kernel
theorem dJ2_getChar_3b067_18 : decode cJ2_getChar_3b067 18 = .ok (.new 52, 3) := by decide +kernel
theorem dJ2_getChar_3b067_21 : decode cJ2_getChar_3b067 21 = .ok (.dup, 1) := by decide +kernel
theorem dJ2_getChar_3b067_22 : decode cJ2_getChar_3b067 22 = .ok (.ldc 54, 2) := by decide +kernel
theorem dJ2_getChar_3b067_24 : decode cJ2_getChar_3b067 24 = .ok (.invokespecial 56, 3) := by decide +kernel
theorem dJ2_getChar_3b067_27 : decode cJ2_getChar_3b067 27 = .ok (.athrow, 1) := by decide +kernel
theorem dJ2_getChar_3b067_28 : decode cJ2_getChar_3b067 28 = .ok (.iload_n 1, 1) := by decide +kernel
theorem dJ2_getChar_3b067_29 : decode cJ2_getChar_3b067 29 = .ok (.iconst 1, 1) := by decide +kernel
theorem dJ2_getChar_3b067_30 : decode cJ2_getChar_3b067 30 = .ok (.ishl, 1) := by decide +kernel
theorem dJ2_getChar_3b067_31 : decode cJ2_getChar_3b067 31 = .ok (.istore_n 1, 1) := by decide +kernel
theorem dJ2_getChar_3b067_32 : decode cJ2_getChar_3b067 32 = .ok (.aload_n 0, 1) := by decide +kernel
theorem dJ2_getChar_3b067_33 : decode cJ2_getChar_3b067 33 = .ok (.iload_n 1, 1) := by decide +kernel
theorem dJ2_getChar_3b067_34 : decode cJ2_getChar_3b067 34 = .ok (.iinc 1 1, 3) := by decide +kernel
theorem dJ2_getChar_3b067_37 : decode cJ2_getChar_3b067 37 = .ok (.baload, 1) := by decide +kernel
theorem dJ2_getChar_3b067_38 : decode cJ2_getChar_3b067 38 = .ok (.sipush 255, 3) := by decide +kernel
theorem dJ2_getChar_3b067_41 : decode cJ2_getChar_3b067 41 = .ok (.iand, 1) := by decide +kernel
theorem dJ2_getChar_3b067_42 : decode cJ2_getChar_3b067 42 = .ok (.getstatic 59, 3) := by decide +kernel
theorem dJ2_getChar_3b067_45 : decode cJ2_getChar_3b067 45 = .ok (.ishl, 1) := by decide +kernel
theorem dJ2_getChar_3b067_46 : decode cJ2_getChar_3b067 46 = .ok (.aload_n 0, 1) := by decide +kernel
theorem dJ2_getChar_3b067_47 : decode cJ2_getChar_3b067 47 = .ok (.iload_n 1, 1) := by decide +kernel
theorem dJ2_getChar_3b067_48 : decode cJ2_getChar_3b067 48 = .ok (.baload, 1) := by decide +kernel
theorem dJ2_getChar_3b067_49 : decode cJ2_getChar_3b067 49 = .ok (.sipush 255, 3) := by decide +kernel
theorem dJ2_getChar_3b067_52 : decode cJ2_getChar_3b067 52 = .ok (.iand, 1) := by decide +kernel
theorem dJ2_getChar_3b067_53 : decode cJ2_getChar_3b067 53 = .ok (.getstatic 63, 3) := by decide +kernel
theorem dJ2_getChar_3b067_56 : decode cJ2_getChar_3b067 56 = .ok (.ishl, 1) := by decide +kernel
theorem dJ2_getChar_3b067_57 : decode cJ2_getChar_3b067 57 = .ok (.ior, 1) := by decide +kernel
theorem dJ2_getChar_3b067_58 : decode cJ2_getChar_3b067 58 = .ok (.i2c, 1) := by decide +kernel
theorem dJ2_getChar_3b067_59 : decode cJ2_getChar_3b067 59 = .ok (.ireturn, 1) := by decide +kernel
theorem dJ2_length_9d52b_0 : decode cJ2_length_9d52b 0 = .ok (.aload_n 0, 1) := by decide +kernel
theorem dJ2_length_9d52b_1 : decode cJ2_length_9d52b 1 = .ok (.arraylength, 1) := by decide +kernel
theorem dJ2_length_9d52b_2 : decode cJ2_length_9d52b 2 = .ok (.iconst 1, 1) := by decide +kernel
theorem dJ2_length_9d52b_3 : decode cJ2_length_9d52b 3 = .ok (.ishr, 1) := by decide +kernel
theorem dJ2_length_9d52b_4 : decode cJ2_length_9d52b 4 = .ok (.ireturn, 1) := by decide +kernel
theorem dJ2_charAt_3b067_0 : decode cJ2_charAt_3b067 0 = .ok (.iload_n 1, 1) := by decide +kernel
theorem dJ2_charAt_3b067_1 : decode cJ2_charAt_3b067 1 = .ok (.aload_n 0, 1) := by decide +kernel
theorem dJ2_charAt_3b067_2 : decode cJ2_charAt_3b067 2 = .ok (.invokestatic 67, 3) := by decide +kernel
theorem dJ2_charAt_3b067_5 : decode cJ2_charAt_3b067 5 = .ok (.aload_n 0, 1) := by decide +kernel
theorem dJ2_charAt_3b067_6 : decode cJ2_charAt_3b067 6 = .ok (.iload_n 1, 1) := by decide +kernel
theorem dJ2_charAt_3b067_7 : decode cJ2_charAt_3b067 7 = .ok (.invokestatic 71, 3) := by decide +kernel
theorem dJ2_charAt_3b067_10 : decode cJ2_charAt_3b067 10 = .ok (.ireturn, 1) := by decide +kernel
theorem dJ2_checkIndex_2214a_0 : decode cJ2_checkIndex_2214a 0 = .ok (.iload_n 0, 1) := by decide +kernel
theorem dJ2_checkIndex_2214a_1 : decode cJ2_checkIndex_2214a 1 = .ok (.aload_n 1, 1) := by decide +kernel
theorem dJ2_checkIndex_2214a_2 : decode cJ2_checkIndex_2214a 2 = .ok (.invokestatic 48, 3) := by decide +kernel
theorem dJ2_checkIndex_2214a_5 : decode cJ2_checkIndex_2214a 5 = .ok (.invokestatic 414, 3) := by decide +kernel
theorem dJ2_checkIndex_2214a_8 : decode cJ2_checkIndex_2214a 8 = .ok (.return_, 1) := by decide +kernel
theorem dJ3_checkIndex_8e157_0 : decode cJ3_checkIndex_8e157 0 = .ok (.iload_n 0, 1) := by decide +kernel
theorem dJ3_checkIndex_8e157_1 : decode cJ3_checkIndex_8e157 1 = .ok (.ifCond .lt 8, 3) := by decide +kernel
theorem dJ3_checkIndex_8e157_4 : decode cJ3_checkIndex_8e157 4 = .ok (.iload_n 0, 1) := by decide +kernel
theorem dJ3_checkIndex_8e157_5 : decode cJ3_checkIndex_8e157 5 = .ok (.iload_n 1, 1) := by decide +kernel
theorem dJ3_checkIndex_8e157_6 : decode cJ3_checkIndex_8e157 6 = .ok (.if_icmp .lt 10, 3) := by decide +kernel
theorem dJ3_checkIndex_8e157_9 : decode cJ3_checkIndex_8e157 9 = .ok (.aload_n 2, 1) := by decide +kernel
theorem dJ3_checkIndex_8e157_10 : decode cJ3_checkIndex_8e157 10 = .ok (.iload_n 0, 1) := by decide +kernel
theorem dJ3_checkIndex_8e157_11 : decode cJ3_checkIndex_8e157 11 = .ok (.iload_n 1, 1) := by decide +kernel
theorem dJ3_checkIndex_8e157_12 : decode cJ3_checkIndex_8e157 12 = .ok (.invokestatic 95, 3) := by decide +kernel
theorem dJ3_checkIndex_8e157_15 : decode cJ3_checkIndex_8e157 15 = .ok (.athrow, 1) := by decide +kernel
theorem dJ3_checkIndex_8e157_16 : decode cJ3_checkIndex_8e157 16 = .ok (.iload_n 0, 1) := by decide +kernel
theorem dJ3_checkIndex_8e157_17 : decode cJ3_checkIndex_8e157 17 = .ok (.ireturn, 1) := by decide +kernel
theorem dL_parse_0 : decode cL_parse 0 = .ok (.aload_n 2, 1) := by decide +kernel
theorem dL_parse_1 : decode cL_parse 1 = .ok (.iconst 0, 1) := by decide +kernel
theorem dL_parse_2 : decode cL_parse 2 = .ok (.aload_n 0, 1) := by decide +kernel
theorem dL_parse_3 : decode cL_parse 3 = .ok (.iload_n 1, 1) := by decide +kernel
theorem dL_parse_4 : decode cL_parse 4 = .ok (.invokevirtual 7, 3) := by decide +kernel
theorem dL_parse_7 : decode cL_parse 7 = .ok (.i2l, 1) := by decide +kernel
theorem dL_parse_8 : decode cL_parse 8 = .ok (.lastore, 1) := by decide +kernel
theorem dL_parse_9 : decode cL_parse 9 = .ok (.goto 6, 3) := by decide +kernel
theorem dL_parse_12 : decode cL_parse 12 = .ok (.astore_n 3, 1) := by decide +kernel
theorem dL_parse_13 : decode cL_parse 13 = .ok (.iconst 1, 1) := by decide +kernel
theorem dL_parse_14 : decode cL_parse 14 = .ok (.ireturn, 1) := by decide +kernel
theorem dL_parse_15 : decode cL_parse 15 = .ok (.iconst 0, 1) := by decide +kernel
theorem dL_parse_16 : decode cL_parse 16 = .ok (.ireturn, 1) := by decide +kernel
theorem dL_size_0 : decode cL_size 0 = .ok (.aload_n 2, 1) := by decide +kernel
theorem dL_size_1 : decode cL_size 1 = .ok (.iconst 0, 1) := by decide +kernel
theorem dL_size_2 : decode cL_size 2 = .ok (.aload_n 0, 1) := by decide +kernel
theorem dL_size_3 : decode cL_size 3 = .ok (.iload_n 1, 1) := by decide +kernel
theorem dL_size_4 : decode cL_size 4 = .ok (.invokevirtual 15, 3) := by decide +kernel
theorem dL_size_7 : decode cL_size 7 = .ok (.i2l, 1) := by decide +kernel
theorem dL_size_8 : decode cL_size 8 = .ok (.lastore, 1) := by decide +kernel
theorem dL_size_9 : decode cL_size 9 = .ok (.goto 6, 3) := by decide +kernel
theorem dL_size_12 : decode cL_size 12 = .ok (.astore_n 3, 1) := by decide +kernel
theorem dL_size_13 : decode cL_size 13 = .ok (.iconst 1, 1) := by decide +kernel
theorem dL_size_14 : decode cL_size 14 = .ok (.ireturn, 1) := by decide +kernel
theorem dL_size_15 : decode cL_size 15 = .ok (.iconst 0, 1) := by decide +kernel
theorem dL_size_16 : decode cL_size 16 = .ok (.ireturn, 1) := by decide +kernel
theorem dL_limit_0 : decode cL_limit 0 = .ok (.aload_n 2, 1) := by decide +kernel
theorem dL_limit_1 : decode cL_limit 1 = .ok (.iconst 0, 1) := by decide +kernel
theorem dL_limit_2 : decode cL_limit 2 = .ok (.aload_n 0, 1) := by decide +kernel
theorem dL_limit_3 : decode cL_limit 3 = .ok (.iload_n 1, 1) := by decide +kernel
theorem dL_limit_4 : decode cL_limit 4 = .ok (.invokevirtual 18, 3) := by decide +kernel
theorem dL_limit_7 : decode cL_limit 7 = .ok (.i2l, 1) := by decide +kernel
theorem dL_limit_8 : decode cL_limit 8 = .ok (.lastore, 1) := by decide +kernel
theorem dL_limit_9 : decode cL_limit 9 = .ok (.goto 6, 3) := by decide +kernel
theorem dL_limit_12 : decode cL_limit 12 = .ok (.astore_n 3, 1) := by decide +kernel
theorem dL_limit_13 : decode cL_limit 13 = .ok (.iconst 1, 1) := by decide +kernel
theorem dL_limit_14 : decode cL_limit 14 = .ok (.ireturn, 1) := by decide +kernel
theorem dL_limit_15 : decode cL_limit 15 = .ok (.iconst 0, 1) := by decide +kernel
theorem dL_limit_16 : decode cL_limit 16 = .ok (.ireturn, 1) := by decide +kernel
theorem dL_sheet_0 : decode cL_sheet 0 = .ok (.aload_n 3, 1) := by decide +kernel
theorem dL_sheet_1 : decode cL_sheet 1 = .ok (.iconst 0, 1) := by decide +kernel
theorem dL_sheet_2 : decode cL_sheet 2 = .ok (.aload_n 0, 1) := by decide +kernel
theorem dL_sheet_3 : decode cL_sheet 3 = .ok (.iload_n 1, 1) := by decide +kernel
theorem dL_sheet_4 : decode cL_sheet 4 = .ok (.iload_n 2, 1) := by decide +kernel
theorem dL_sheet_5 : decode cL_sheet 5 = .ok (.invokevirtual 21, 3) := by decide +kernel
theorem dL_sheet_8 : decode cL_sheet 8 = .ok (.i2l, 1) := by decide +kernel
theorem dL_sheet_9 : decode cL_sheet 9 = .ok (.lastore, 1) := by decide +kernel
theorem dL_sheet_10 : decode cL_sheet 10 = .ok (.goto 11, 3) := by decide +kernel
theorem dL_sheet_13 : decode cL_sheet 13 = .ok (.astore 4, 2) := by decide +kernel
theorem dL_sheet_15 : decode cL_sheet 15 = .ok (.iconst 1, 1) := by decide +kernel
theorem dL_sheet_16 : decode cL_sheet 16 = .ok (.ireturn, 1) := by decide +kernel
theorem dL_sheet_17 : decode cL_sheet 17 = .ok (.astore 4, 2) := by decide +kernel
theorem dL_sheet_19 : decode cL_sheet 19 = .ok (.iconst 2, 1) := by decide +kernel
theorem dL_sheet_20 : decode cL_sheet 20 = .ok (.ireturn, 1) := by decide +kernel
theorem dL_sheet_21 : decode cL_sheet 21 = .ok (.iconst 0, 1) := by decide +kernel
theorem dL_sheet_22 : decode cL_sheet 22 = .ok (.ireturn, 1) := by decide +kernel
theorem dL_page_0 : decode cL_page 0 = .ok (.aload_n 3, 1) := by decide +kernel
theorem dL_page_1 : decode cL_page 1 = .ok (.iconst 0, 1) := by decide +kernel
theorem dL_page_2 : decode cL_page 2 = .ok (.aload_n 0, 1) := by decide +kernel
theorem dL_page_3 : decode cL_page 3 = .ok (.iload_n 1, 1) := by decide +kernel
theorem dL_page_4 : decode cL_page 4 = .ok (.iload_n 2, 1) := by decide +kernel
theorem dL_page_5 : decode cL_page 5 = .ok (.invokevirtual 27, 3) := by decide +kernel
theorem dL_page_8 : decode cL_page 8 = .ok (.i2l, 1) := by decide +kernel
theorem dL_page_9 : decode cL_page 9 = .ok (.lastore, 1) := by decide +kernel
theorem dL_page_10 : decode cL_page 10 = .ok (.goto 11, 3) := by decide +kernel
theorem dL_page_13 : decode cL_page 13 = .ok (.astore 4, 2) := by decide +kernel
theorem dL_page_15 : decode cL_page 15 = .ok (.iconst 1, 1) := by decide +kernel
theorem dL_page_16 : decode cL_page 16 = .ok (.ireturn, 1) := by decide +kernel
theorem dL_page_17 : decode cL_page 17 = .ok (.astore 4, 2) := by decide +kernel
theorem dL_page_19 : decode cL_page 19 = .ok (.iconst 2, 1) := by decide +kernel
theorem dL_page_20 : decode cL_page 20 = .ok (.ireturn, 1) := by decide +kernel
theorem dL_page_21 : decode cL_page 21 = .ok (.iconst 0, 1) := by decide +kernel
theorem dL_page_22 : decode cL_page 22 = .ok (.ireturn, 1) := by decide +kernel
theorem dL_job_0 : decode cL_job 0 = .ok (.aload_n 3, 1) := by decide +kernel
theorem dL_job_1 : decode cL_job 1 = .ok (.iconst 0, 1) := by decide +kernel
theorem dL_job_2 : decode cL_job 2 = .ok (.aload_n 0, 1) := by decide +kernel
theorem dL_job_3 : decode cL_job 3 = .ok (.iload_n 1, 1) := by decide +kernel
theorem dL_job_4 : decode cL_job 4 = .ok (.iload_n 2, 1) := by decide +kernel
theorem dL_job_5 : decode cL_job 5 = .ok (.invokevirtual 30, 3) := by decide +kernel
theorem dL_job_8 : decode cL_job 8 = .ok (.i2l, 1) := by decide +kernel
theorem dL_job_9 : decode cL_job 9 = .ok (.lastore, 1) := by decide +kernel
theorem dL_job_10 : decode cL_job 10 = .ok (.goto 11, 3) := by decide +kernel
theorem dL_job_13 : decode cL_job 13 = .ok (.astore 4, 2) := by decide +kernel
theorem dL_job_15 : decode cL_job 15 = .ok (.iconst 1, 1) := by decide +kernel
theorem dL_job_16 : decode cL_job 16 = .ok (.ireturn, 1) := by decide +kernel
theorem dL_job_17 : decode cL_job 17 = .ok (.astore 4, 2) := by decide +kernel
theorem dL_job_19 : decode cL_job 19 = .ok (.iconst 2, 1) := by decide +kernel
theorem dL_job_20 : decode cL_job 20 = .ok (.ireturn, 1) := by decide +kernel
theorem dL_job_21 : decode cL_job 21 = .ok (.iconst 0, 1) := by decide +kernel
theorem dL_job_22 : decode cL_job 22 = .ok (.ireturn, 1) := by decide +kernel
theorem dL_isHalf_0 : decode cL_isHalf 0 = .ok (.aload_n 2, 1) := by decide +kernel
theorem dL_isHalf_1 : decode cL_isHalf 1 = .ok (.iconst 0, 1) := by decide +kernel
theorem dL_isHalf_2 : decode cL_isHalf 2 = .ok (.aload_n 0, 1) := by decide +kernel
theorem dL_isHalf_3 : decode cL_isHalf 3 = .ok (.iload_n 1, 1) := by decide +kernel
theorem dL_isHalf_4 : decode cL_isHalf 4 = .ok (.invokevirtual 33, 3) := by decide +kernel
theorem dL_isHalf_7 : decode cL_isHalf 7 = .ok (.ifCond .eq 7, 3) := by decide +kernel
theorem dL_isHalf_10 : decode cL_isHalf 10 = .ok (.lconst 1, 1) := by decide +kernel
theorem dL_isHalf_11 : decode cL_isHalf 11 = .ok (.goto 4, 3) := by decide +kernel
theorem dL_isHalf_14 : decode cL_isHalf 14 = .ok (.lconst 0, 1) := by decide +kernel
theorem dL_isHalf_15 : decode cL_isHalf 15 = .ok (.lastore, 1) := by decide +kernel
theorem dL_isHalf_16 : decode cL_isHalf 16 = .ok (.goto 6, 3) := by decide +kernel
theorem dL_isHalf_19 : decode cL_isHalf 19 = .ok (.astore_n 3, 1) := by decide +kernel
theorem dL_isHalf_20 : decode cL_isHalf 20 = .ok (.iconst 1, 1) := by decide +kernel
theorem dL_isHalf_21 : decode cL_isHalf 21 = .ok (.ireturn, 1) := by decide +kernel
theorem dL_isHalf_22 : decode cL_isHalf 22 = .ok (.iconst 0, 1) := by decide +kernel
theorem dL_isHalf_23 : decode cL_isHalf 23 = .ok (.ireturn, 1) := by decide +kernel
theorem dL_next_0 : decode cL_next 0 = .ok (.aload_n 2, 1) := by decide +kernel
theorem dL_next_1 : decode cL_next 1 = .ok (.iconst 0, 1) := by decide +kernel
theorem dL_next_2 : decode cL_next 2 = .ok (.aload_n 0, 1) := by decide +kernel
theorem dL_next_3 : decode cL_next 3 = .ok (.iload_n 1, 1) := by decide +kernel
theorem dL_next_4 : decode cL_next 4 = .ok (.invokevirtual 37, 3) := by decide +kernel
theorem dL_next_7 : decode cL_next 7 = .ok (.i2l, 1) := by decide +kernel
theorem dL_next_8 : decode cL_next 8 = .ok (.lastore, 1) := by decide +kernel
theorem dL_next_9 : decode cL_next 9 = .ok (.goto 6, 3) := by decide +kernel
theorem dL_next_12 : decode cL_next 12 = .ok (.astore_n 3, 1) := by decide +kernel
theorem dL_next_13 : decode cL_next 13 = .ok (.iconst 1, 1) := by decide +kernel
theorem dL_next_14 : decode cL_next 14 = .ok (.ireturn, 1) := by decide +kernel
theorem dL_next_15 : decode cL_next 15 = .ok (.iconst 0, 1) := by decide +kernel
theorem dL_next_16 : decode cL_next 16 = .ok (.ireturn, 1) := by decide +kernel
theorem dL_ahead_0 : decode cL_ahead 0 = .ok (.aload_n 3, 1) := by decide +kernel
theorem dL_ahead_1 : decode cL_ahead 1 = .ok (.iconst 0, 1) := by decide +kernel
theorem dL_ahead_2 : decode cL_ahead 2 = .ok (.aload_n 0, 1) := by decide +kernel
theorem dL_ahead_3 : decode cL_ahead 3 = .ok (.iload_n 1, 1) := by decide +kernel
theorem dL_ahead_4 : decode cL_ahead 4 = .ok (.iload_n 2, 1) := by decide +kernel
theorem dL_ahead_5 : decode cL_ahead 5 = .ok (.invokevirtual 40, 3) := by decide +kernel
theorem dL_ahead_8 : decode cL_ahead 8 = .ok (.i2l, 1) := by decide +kernel
theorem dL_ahead_9 : decode cL_ahead 9 = .ok (.lastore, 1) := by decide +kernel
theorem dL_ahead_10 : decode cL_ahead 10 = .ok (.goto 7, 3) := by decide +kernel
theorem dL_ahead_13 : decode cL_ahead 13 = .ok (.astore 4, 2) := by decide +kernel
theorem dL_ahead_15 : decode cL_ahead 15 = .ok (.iconst 1, 1) := by decide +kernel
theorem dL_ahead_16 : decode cL_ahead 16 = .ok (.ireturn, 1) := by decide +kernel
theorem dL_ahead_17 : decode cL_ahead 17 = .ok (.iconst 0, 1) := by decide +kernel
theorem dL_ahead_18 : decode cL_ahead 18 = .ok (.ireturn, 1) := by decide +kernel
theorem dL_blankFor_0 : decode cL_blankFor 0 = .ok (.aload_n 2, 1) := by decide +kernel
theorem dL_blankFor_1 : decode cL_blankFor 1 = .ok (.iconst 0, 1) := by decide +kernel
theorem dL_blankFor_2 : decode cL_blankFor 2 = .ok (.aload_n 0, 1) := by decide +kernel
theorem dL_blankFor_3 : decode cL_blankFor 3 = .ok (.iload_n 1, 1) := by decide +kernel
theorem dL_blankFor_4 : decode cL_blankFor 4 = .ok (.invokevirtual 43, 3) := by decide +kernel
theorem dL_blankFor_7 : decode cL_blankFor 7 = .ok (.i2l, 1) := by decide +kernel
theorem dL_blankFor_8 : decode cL_blankFor 8 = .ok (.lastore, 1) := by decide +kernel
theorem dL_blankFor_9 : decode cL_blankFor 9 = .ok (.goto 6, 3) := by decide +kernel
theorem dL_blankFor_12 : decode cL_blankFor 12 = .ok (.astore_n 3, 1) := by decide +kernel
theorem dL_blankFor_13 : decode cL_blankFor 13 = .ok (.iconst 1, 1) := by decide +kernel
theorem dL_blankFor_14 : decode cL_blankFor 14 = .ok (.ireturn, 1) := by decide +kernel
theorem dL_blankFor_15 : decode cL_blankFor 15 = .ok (.iconst 0, 1) := by decide +kernel
theorem dL_blankFor_16 : decode cL_blankFor 16 = .ok (.ireturn, 1) := by decide +kernel
theorem dL_account_0 : decode cL_account 0 = .ok (.aload_n 2, 1) := by decide +kernel
theorem dL_account_1 : decode cL_account 1 = .ok (.iconst 0, 1) := by decide +kernel
theorem dL_account_2 : decode cL_account 2 = .ok (.aload_n 0, 1) := by decide +kernel
theorem dL_account_3 : decode cL_account 3 = .ok (.iload_n 1, 1) := by decide +kernel
theorem dL_account_4 : decode cL_account 4 = .ok (.invokevirtual 46, 3) := by decide +kernel
theorem dL_account_7 : decode cL_account 7 = .ok (.i2l, 1) := by decide +kernel
theorem dL_account_8 : decode cL_account 8 = .ok (.lastore, 1) := by decide +kernel
theorem dL_account_9 : decode cL_account 9 = .ok (.goto 6, 3) := by decide +kernel
theorem dL_account_12 : decode cL_account 12 = .ok (.astore_n 3, 1) := by decide +kernel
theorem dL_account_13 : decode cL_account 13 = .ok (.iconst 1, 1) := by decide +kernel
theorem dL_account_14 : decode cL_account 14 = .ok (.ireturn, 1) := by decide +kernel
theorem dL_account_15 : decode cL_account 15 = .ok (.iconst 0, 1) := by decide +kernel
theorem dL_account_16 : decode cL_account 16 = .ok (.ireturn, 1) := by decide +kernel
theorem dL_sheetsAt_0 : decode cL_sheetsAt 0 = .ok (.aload_n 2, 1) := by decide +kernel
theorem dL_sheetsAt_1 : decode cL_sheetsAt 1 = .ok (.iconst 0, 1) := by decide +kernel
theorem dL_sheetsAt_2 : decode cL_sheetsAt 2 = .ok (.aload_n 0, 1) := by decide +kernel
theorem dL_sheetsAt_3 : decode cL_sheetsAt 3 = .ok (.iload_n 1, 1) := by decide +kernel
theorem dL_sheetsAt_4 : decode cL_sheetsAt 4 = .ok (.invokevirtual 49, 3) := by decide +kernel
theorem dL_sheetsAt_7 : decode cL_sheetsAt 7 = .ok (.i2l, 1) := by decide +kernel
theorem dL_sheetsAt_8 : decode cL_sheetsAt 8 = .ok (.lastore, 1) := by decide +kernel
theorem dL_sheetsAt_9 : decode cL_sheetsAt 9 = .ok (.goto 6, 3) := by decide +kernel
theorem dL_sheetsAt_12 : decode cL_sheetsAt 12 = .ok (.astore_n 3, 1) := by decide +kernel
theorem dL_sheetsAt_13 : decode cL_sheetsAt 13 = .ok (.iconst 1, 1) := by decide +kernel
theorem dL_sheetsAt_14 : decode cL_sheetsAt 14 = .ok (.ireturn, 1) := by decide +kernel
theorem dL_sheetsAt_15 : decode cL_sheetsAt 15 = .ok (.iconst 0, 1) := by decide +kernel
theorem dL_sheetsAt_16 : decode cL_sheetsAt 16 = .ok (.ireturn, 1) := by decide +kernel
theorem dL_feed_0 : decode cL_feed 0 = .ok (.aload_n 2, 1) := by decide +kernel
theorem dL_feed_1 : decode cL_feed 1 = .ok (.iconst 0, 1) := by decide +kernel
theorem dL_feed_2 : decode cL_feed 2 = .ok (.aload_n 0, 1) := by decide +kernel
theorem dL_feed_3 : decode cL_feed 3 = .ok (.iload_n 1, 1) := by decide +kernel
theorem dL_feed_4 : decode cL_feed 4 = .ok (.invokevirtual 52, 3) := by decide +kernel
theorem dL_feed_7 : decode cL_feed 7 = .ok (.i2l, 1) := by decide +kernel
theorem dL_feed_8 : decode cL_feed 8 = .ok (.lastore, 1) := by decide +kernel
theorem dL_feed_9 : decode cL_feed 9 = .ok (.goto 9, 3) := by decide +kernel
theorem dL_feed_12 : decode cL_feed 12 = .ok (.astore_n 3, 1) := by decide +kernel
theorem dL_feed_13 : decode cL_feed 13 = .ok (.iconst 1, 1) := by decide +kernel
theorem dL_feed_14 : decode cL_feed 14 = .ok (.ireturn, 1) := by decide +kernel
theorem dL_feed_15 : decode cL_feed 15 = .ok (.astore_n 3, 1) := by decide +kernel
theorem dL_feed_16 : decode cL_feed 16 = .ok (.iconst 2, 1) := by decide +kernel
theorem dL_feed_17 : decode cL_feed 17 = .ok (.ireturn, 1) := by decide +kernel
theorem dL_feed_18 : decode cL_feed 18 = .ok (.iconst 0, 1) := by decide +kernel
theorem dL_feed_19 : decode cL_feed 19 = .ok (.ireturn, 1) := by decide +kernel
theorem dL_putBack_0 : decode cL_putBack 0 = .ok (.aload_n 1, 1) := by decide +kernel
theorem dL_putBack_1 : decode cL_putBack 1 = .ok (.iconst 0, 1) := by decide +kernel
theorem dL_putBack_2 : decode cL_putBack 2 = .ok (.aload_n 0, 1) := by decide +kernel
theorem dL_putBack_3 : decode cL_putBack 3 = .ok (.invokevirtual 57, 3) := by decide +kernel
theorem dL_putBack_6 : decode cL_putBack 6 = .ok (.i2l, 1) := by decide +kernel
theorem dL_putBack_7 : decode cL_putBack 7 = .ok (.lastore, 1) := by decide +kernel
theorem dL_putBack_8 : decode cL_putBack 8 = .ok (.goto 6, 3) := by decide +kernel
theorem dL_putBack_11 : decode cL_putBack 11 = .ok (.astore_n 2, 1) := by decide +kernel
theorem dL_putBack_12 : decode cL_putBack 12 = .ok (.iconst 1, 1) := by decide +kernel
theorem dL_putBack_13 : decode cL_putBack 13 = .ok (.ireturn, 1) := by decide +kernel
theorem dL_putBack_14 : decode cL_putBack 14 = .ok (.iconst 0, 1) := by decide +kernel
theorem dL_putBack_15 : decode cL_putBack 15 = .ok (.ireturn, 1) := by decide +kernel
theorem dL_remove_0 : decode cL_remove 0 = .ok (.aload_n 1, 1) := by decide +kernel
theorem dL_remove_1 : decode cL_remove 1 = .ok (.iconst 0, 1) := by decide +kernel
theorem dL_remove_2 : decode cL_remove 2 = .ok (.aload_n 0, 1) := by decide +kernel
theorem dL_remove_3 : decode cL_remove 3 = .ok (.invokevirtual 61, 3) := by decide +kernel
theorem dL_remove_6 : decode cL_remove 6 = .ok (.i2l, 1) := by decide +kernel
theorem dL_remove_7 : decode cL_remove 7 = .ok (.lastore, 1) := by decide +kernel
theorem dL_remove_8 : decode cL_remove 8 = .ok (.goto 6, 3) := by decide +kernel
theorem dL_remove_11 : decode cL_remove 11 = .ok (.astore_n 2, 1) := by decide +kernel
theorem dL_remove_12 : decode cL_remove 12 = .ok (.iconst 1, 1) := by decide +kernel
theorem dL_remove_13 : decode cL_remove 13 = .ok (.ireturn, 1) := by decide +kernel
theorem dL_remove_14 : decode cL_remove 14 = .ok (.iconst 0, 1) := by decide +kernel
theorem dL_remove_15 : decode cL_remove 15 = .ok (.ireturn, 1) := by decide +kernel
theorem dL_accept_0 : decode cL_accept 0 = .ok (.aload_n 1, 1) := by decide +kernel
theorem dL_accept_1 : decode cL_accept 1 = .ok (.iconst 0, 1) := by decide +kernel
theorem dL_accept_2 : decode cL_accept 2 = .ok (.aload_n 0, 1) := by decide +kernel
theorem dL_accept_3 : decode cL_accept 3 = .ok (.invokevirtual 64, 3) := by decide +kernel
theorem dL_accept_6 : decode cL_accept 6 = .ok (.i2l, 1) := by decide +kernel
theorem dL_accept_7 : decode cL_accept 7 = .ok (.lastore, 1) := by decide +kernel
theorem dL_accept_8 : decode cL_accept 8 = .ok (.goto 6, 3) := by decide +kernel
theorem dL_accept_11 : decode cL_accept 11 = .ok (.astore_n 2, 1) := by decide +kernel
theorem dL_accept_12 : decode cL_accept 12 = .ok (.iconst 1, 1) := by decide +kernel
theorem dL_accept_13 : decode cL_accept 13 = .ok (.ireturn, 1) := by decide +kernel
theorem dL_accept_14 : decode cL_accept 14 = .ok (.iconst 0, 1) := by decide +kernel
theorem dL_accept_15 : decode cL_accept 15 = .ok (.ireturn, 1) := by decide +kernel
theorem dL_endJob_0 : decode cL_endJob 0 = .ok (.aload_n 2, 1) := by decide +kernel
theorem dL_endJob_1 : decode cL_endJob 1 = .ok (.iconst 0, 1) := by decide +kernel
theorem dL_endJob_2 : decode cL_endJob 2 = .ok (.aload_n 0, 1) := by decide +kernel
theorem dL_endJob_3 : decode cL_endJob 3 = .ok (.iload_n 1, 1) := by decide +kernel
theorem dL_endJob_4 : decode cL_endJob 4 = .ok (.invokevirtual 67, 3) := by decide +kernel
theorem dL_endJob_7 : decode cL_endJob 7 = .ok (.i2l, 1) := by decide +kernel
theorem dL_endJob_8 : decode cL_endJob 8 = .ok (.lastore, 1) := by decide +kernel
theorem dL_endJob_9 : decode cL_endJob 9 = .ok (.goto 9, 3) := by decide +kernel
theorem dL_endJob_12 : decode cL_endJob 12 = .ok (.astore_n 3, 1) := by decide +kernel
theorem dL_endJob_13 : decode cL_endJob 13 = .ok (.iconst 1, 1) := by decide +kernel
theorem dL_endJob_14 : decode cL_endJob 14 = .ok (.ireturn, 1) := by decide +kernel
theorem dL_endJob_15 : decode cL_endJob 15 = .ok (.astore_n 3, 1) := by decide +kernel
theorem dL_endJob_16 : decode cL_endJob 16 = .ok (.iconst 2, 1) := by decide +kernel
theorem dL_endJob_17 : decode cL_endJob 17 = .ok (.ireturn, 1) := by decide +kernel
theorem dL_endJob_18 : decode cL_endJob 18 = .ok (.iconst 0, 1) := by decide +kernel
theorem dL_endJob_19 : decode cL_endJob 19 = .ok (.ireturn, 1) := by decide +kernel
theorem dL_setLimit_0 : decode cL_setLimit 0 = .ok (.aload_n 3, 1) := by decide +kernel
theorem dL_setLimit_1 : decode cL_setLimit 1 = .ok (.iconst 0, 1) := by decide +kernel
theorem dL_setLimit_2 : decode cL_setLimit 2 = .ok (.aload_n 0, 1) := by decide +kernel
theorem dL_setLimit_3 : decode cL_setLimit 3 = .ok (.iload_n 1, 1) := by decide +kernel
theorem dL_setLimit_4 : decode cL_setLimit 4 = .ok (.iload_n 2, 1) := by decide +kernel
theorem dL_setLimit_5 : decode cL_setLimit 5 = .ok (.invokevirtual 70, 3) := by decide +kernel
theorem dL_setLimit_8 : decode cL_setLimit 8 = .ok (.i2l, 1) := by decide +kernel
theorem dL_setLimit_9 : decode cL_setLimit 9 = .ok (.lastore, 1) := by decide +kernel
theorem dL_setLimit_10 : decode cL_setLimit 10 = .ok (.goto 7, 3) := by decide +kernel
theorem dL_setLimit_13 : decode cL_setLimit 13 = .ok (.astore 4, 2) := by decide +kernel
theorem dL_setLimit_15 : decode cL_setLimit 15 = .ok (.iconst 1, 1) := by decide +kernel
theorem dL_setLimit_16 : decode cL_setLimit 16 = .ok (.ireturn, 1) := by decide +kernel
theorem dL_setLimit_17 : decode cL_setLimit 17 = .ok (.iconst 0, 1) := by decide +kernel
theorem dL_setLimit_18 : decode cL_setLimit 18 = .ok (.ireturn, 1) := by decide +kernel
theorem dL_law_0 : decode cL_law 0 = .ok (.new 8, 3) := by decide +kernel
theorem dL_law_3 : decode cL_law 3 = .ok (.dup, 1) := by decide +kernel
theorem dL_law_4 : decode cL_law 4 = .ok (.invokespecial 73, 3) := by decide +kernel
theorem dL_law_7 : decode cL_law 7 = .ok (.astore_n 1, 1) := by decide +kernel
theorem dL_law_8 : decode cL_law 8 = .ok (.new 74, 3) := by decide +kernel
theorem dL_law_11 : decode cL_law 11 = .ok (.dup, 1) := by decide +kernel
theorem dL_law_12 : decode cL_law 12 = .ok (.invokespecial 76, 3) := by decide +kernel
theorem dL_law_15 : decode cL_law 15 = .ok (.astore_n 2, 1) := by decide +kernel
theorem dL_law_16 : decode cL_law 16 = .ok (.iconst 1, 1) := by decide +kernel
theorem dL_law_17 : decode cL_law 17 = .ok (.newarray .long, 2) := by decide +kernel
theorem dL_law_19 : decode cL_law 19 = .ok (.astore_n 3, 1) := by decide +kernel
theorem dL_law_20 : decode cL_law 20 = .ok (.iconst 0, 1) := by decide +kernel
theorem dL_law_21 : decode cL_law 21 = .ok (.istore 4, 2) := by decide +kernel
theorem dL_law_23 : decode cL_law 23 = .ok (.iload 4, 2) := by decide +kernel
theorem dL_law_25 : decode cL_law 25 = .ok (.aload_n 0, 1) := by decide +kernel
theorem dL_law_26 : decode cL_law 26 = .ok (.arraylength, 1) := by decide +kernel
theorem dL_law_27 : decode cL_law 27 = .ok (.bipush 6, 2) := by decide +kernel
theorem dL_law_29 : decode cL_law 29 = .ok (.isub, 1) := by decide +kernel
theorem dL_law_30 : decode cL_law 30 = .ok (.if_icmp .gt 1460, 3) := by decide +kernel
theorem dL_law_33 : decode cL_law 33 = .ok (.aload_n 0, 1) := by decide +kernel
theorem dL_law_34 : decode cL_law 34 = .ok (.iload 4, 2) := by decide +kernel
theorem dL_law_36 : decode cL_law 36 = .ok (.iaload, 1) := by decide +kernel
theorem dL_law_37 : decode cL_law 37 = .ok (.bipush 31, 2) := by decide +kernel
theorem dL_law_39 : decode cL_law 39 = .ok (.iand, 1) := by decide +kernel
theorem dL_law_40 : decode cL_law 40 = .ok (.tableswitch 1444 0 26 #[124, 197, 253, 309, 365, 433, 458, 483, 551, 619, 682, 738, 806, 819, 875, 931, 987, 1028, 1084, 1128, 1172, 1216, 1272, 1340, 1381, 1394, 1419], 124) := by decide +kernel
theorem dL_law_164 : decode cL_law 164 = .ok (.aload_n 1, 1) := by decide +kernel
theorem dL_law_165 : decode cL_law 165 = .ok (.aload_n 0, 1) := by decide +kernel
theorem dL_law_166 : decode cL_law 166 = .ok (.iload 4, 2) := by decide +kernel
theorem dL_law_168 : decode cL_law 168 = .ok (.iconst 1, 1) := by decide +kernel
theorem dL_law_169 : decode cL_law 169 = .ok (.iadd, 1) := by decide +kernel
theorem dL_law_170 : decode cL_law 170 = .ok (.iaload, 1) := by decide +kernel
theorem dL_law_171 : decode cL_law 171 = .ok (.aload_n 0, 1) := by decide +kernel
theorem dL_law_172 : decode cL_law 172 = .ok (.iload 4, 2) := by decide +kernel
theorem dL_law_174 : decode cL_law 174 = .ok (.iconst 2, 1) := by decide +kernel
theorem dL_law_175 : decode cL_law 175 = .ok (.iadd, 1) := by decide +kernel
theorem dL_law_176 : decode cL_law 176 = .ok (.iaload, 1) := by decide +kernel
theorem dL_law_177 : decode cL_law 177 = .ok (.aload_n 0, 1) := by decide +kernel
theorem dL_law_178 : decode cL_law 178 = .ok (.iload 4, 2) := by decide +kernel
theorem dL_law_180 : decode cL_law 180 = .ok (.iconst 3, 1) := by decide +kernel
theorem dL_law_181 : decode cL_law 181 = .ok (.iadd, 1) := by decide +kernel
theorem dL_law_182 : decode cL_law 182 = .ok (.iaload, 1) := by decide +kernel
theorem dL_law_183 : decode cL_law 183 = .ok (.aload_n 0, 1) := by decide +kernel
theorem dL_law_184 : decode cL_law 184 = .ok (.iload 4, 2) := by decide +kernel
theorem dL_law_186 : decode cL_law 186 = .ok (.iconst 4, 1) := by decide +kernel
theorem dL_law_187 : decode cL_law 187 = .ok (.iadd, 1) := by decide +kernel
theorem dL_law_188 : decode cL_law 188 = .ok (.iaload, 1) := by decide +kernel
theorem dL_law_189 : decode cL_law 189 = .ok (.aload_n 0, 1) := by decide +kernel
theorem dL_law_190 : decode cL_law 190 = .ok (.iload 4, 2) := by decide +kernel
theorem dL_law_192 : decode cL_law 192 = .ok (.iconst 5, 1) := by decide +kernel
theorem dL_law_193 : decode cL_law 193 = .ok (.iadd, 1) := by decide +kernel
theorem dL_law_194 : decode cL_law 194 = .ok (.iaload, 1) := by decide +kernel
theorem dL_law_195 : decode cL_law 195 = .ok (.invokevirtual 77, 3) := by decide +kernel
theorem dL_law_198 : decode cL_law 198 = .ok (.aload_n 2, 1) := by decide +kernel
theorem dL_law_199 : decode cL_law 199 = .ok (.aload_n 0, 1) := by decide +kernel
theorem dL_law_200 : decode cL_law 200 = .ok (.iload 4, 2) := by decide +kernel
theorem dL_law_202 : decode cL_law 202 = .ok (.iconst 1, 1) := by decide +kernel
theorem dL_law_203 : decode cL_law 203 = .ok (.iadd, 1) := by decide +kernel
theorem dL_law_204 : decode cL_law 204 = .ok (.iaload, 1) := by decide +kernel
theorem dL_law_205 : decode cL_law 205 = .ok (.aload_n 0, 1) := by decide +kernel
theorem dL_law_206 : decode cL_law 206 = .ok (.iload 4, 2) := by decide +kernel
theorem dL_law_208 : decode cL_law 208 = .ok (.iconst 2, 1) := by decide +kernel
theorem dL_law_209 : decode cL_law 209 = .ok (.iadd, 1) := by decide +kernel
theorem dL_law_210 : decode cL_law 210 = .ok (.iaload, 1) := by decide +kernel
theorem dL_law_211 : decode cL_law 211 = .ok (.aload_n 0, 1) := by decide +kernel
theorem dL_law_212 : decode cL_law 212 = .ok (.iload 4, 2) := by decide +kernel
theorem dL_law_214 : decode cL_law 214 = .ok (.iconst 3, 1) := by decide +kernel
theorem dL_law_215 : decode cL_law 215 = .ok (.iadd, 1) := by decide +kernel
theorem dL_law_216 : decode cL_law 216 = .ok (.iaload, 1) := by decide +kernel
theorem dL_law_217 : decode cL_law 217 = .ok (.aload_n 0, 1) := by decide +kernel
theorem dL_law_218 : decode cL_law 218 = .ok (.iload 4, 2) := by decide +kernel
theorem dL_law_220 : decode cL_law 220 = .ok (.iconst 4, 1) := by decide +kernel
theorem dL_law_221 : decode cL_law 221 = .ok (.iadd, 1) := by decide +kernel
theorem dL_law_222 : decode cL_law 222 = .ok (.iaload, 1) := by decide +kernel
theorem dL_law_223 : decode cL_law 223 = .ok (.aload_n 0, 1) := by decide +kernel
theorem dL_law_224 : decode cL_law 224 = .ok (.iload 4, 2) := by decide +kernel
theorem dL_law_226 : decode cL_law 226 = .ok (.iconst 5, 1) := by decide +kernel
theorem dL_law_227 : decode cL_law 227 = .ok (.iadd, 1) := by decide +kernel
theorem dL_law_228 : decode cL_law 228 = .ok (.iaload, 1) := by decide +kernel
theorem dL_law_229 : decode cL_law 229 = .ok (.invokevirtual 81, 3) := by decide +kernel
theorem dL_law_232 : decode cL_law 232 = .ok (.if_icmp .eq 1252, 3) := by decide +kernel
theorem dL_law_235 : decode cL_law 235 = .ok (.iconst 0, 1) := by decide +kernel
theorem dL_law_236 : decode cL_law 236 = .ok (.ireturn, 1) := by decide +kernel
theorem dL_law_237 : decode cL_law 237 = .ok (.aload_n 1, 1) := by decide +kernel
theorem dL_law_238 : decode cL_law 238 = .ok (.aload_n 0, 1) := by decide +kernel
theorem dL_law_239 : decode cL_law 239 = .ok (.iload 4, 2) := by decide +kernel
theorem dL_law_241 : decode cL_law 241 = .ok (.iconst 1, 1) := by decide +kernel
theorem dL_law_242 : decode cL_law 242 = .ok (.iadd, 1) := by decide +kernel
theorem dL_law_243 : decode cL_law 243 = .ok (.iaload, 1) := by decide +kernel
theorem dL_law_244 : decode cL_law 244 = .ok (.aload_n 3, 1) := by decide +kernel
theorem dL_law_245 : decode cL_law 245 = .ok (.invokestatic 82, 3) := by decide +kernel
theorem dL_law_248 : decode cL_law 248 = .ok (.istore 5, 2) := by decide +kernel
theorem dL_law_250 : decode cL_law 250 = .ok (.aload_n 2, 1) := by decide +kernel
theorem dL_law_251 : decode cL_law 251 = .ok (.aload_n 0, 1) := by decide +kernel
theorem dL_law_252 : decode cL_law 252 = .ok (.iload 4, 2) := by decide +kernel
theorem dL_law_254 : decode cL_law 254 = .ok (.iconst 1, 1) := by decide +kernel
theorem dL_law_255 : decode cL_law 255 = .ok (.iadd, 1) := by decide +kernel
theorem dL_law_256 : decode cL_law 256 = .ok (.iaload, 1) := by decide +kernel
theorem dL_law_257 : decode cL_law 257 = .ok (.invokevirtual 87, 3) := by decide +kernel
theorem dL_law_260 : decode cL_law 260 = .ok (.istore 6, 2) := by decide +kernel
theorem dL_law_262 : decode cL_law 262 = .ok (.aload_n 2, 1) := by decide +kernel
theorem dL_law_263 : decode cL_law 263 = .ok (.invokevirtual 88, 3) := by decide +kernel
theorem dL_law_266 : decode cL_law 266 = .ok (.iload 5, 2) := by decide +kernel
theorem dL_law_268 : decode cL_law 268 = .ok (.if_icmp .eq 5, 3) := by decide +kernel
theorem dL_law_271 : decode cL_law 271 = .ok (.iconst 0, 1) := by decide +kernel
theorem dL_law_272 : decode cL_law 272 = .ok (.ireturn, 1) := by decide +kernel
theorem dL_law_273 : decode cL_law 273 = .ok (.iload 5, 2) := by decide +kernel
theorem dL_law_275 : decode cL_law 275 = .ok (.ifCond .ne 15, 3) := by decide +kernel
theorem dL_law_278 : decode cL_law 278 = .ok (.aload_n 3, 1) := by decide +kernel
theorem dL_law_279 : decode cL_law 279 = .ok (.iconst 0, 1) := by decide +kernel
theorem dL_law_280 : decode cL_law 280 = .ok (.laload, 1) := by decide +kernel
theorem dL_law_281 : decode cL_law 281 = .ok (.iload 6, 2) := by decide +kernel
theorem dL_law_283 : decode cL_law 283 = .ok (.i2l, 1) := by decide +kernel
theorem dL_law_284 : decode cL_law 284 = .ok (.lcmp, 1) := by decide +kernel
theorem dL_law_285 : decode cL_law 285 = .ok (.ifCond .eq 5, 3) := by decide +kernel
theorem dL_law_288 : decode cL_law 288 = .ok (.iconst 0, 1) := by decide +kernel
theorem dL_law_289 : decode cL_law 289 = .ok (.ireturn, 1) := by decide +kernel
theorem dL_law_290 : decode cL_law 290 = .ok (.goto 1194, 3) := by decide +kernel
theorem dL_law_293 : decode cL_law 293 = .ok (.aload_n 1, 1) := by decide +kernel
theorem dL_law_294 : decode cL_law 294 = .ok (.aload_n 0, 1) := by decide +kernel
theorem dL_law_295 : decode cL_law 295 = .ok (.iload 4, 2) := by decide +kernel
theorem dL_law_297 : decode cL_law 297 = .ok (.iconst 1, 1) := by decide +kernel
theorem dL_law_298 : decode cL_law 298 = .ok (.iadd, 1) := by decide +kernel
theorem dL_law_299 : decode cL_law 299 = .ok (.iaload, 1) := by decide +kernel
theorem dL_law_300 : decode cL_law 300 = .ok (.aload_n 3, 1) := by decide +kernel
theorem dL_law_301 : decode cL_law 301 = .ok (.invokestatic 91, 3) := by decide +kernel
theorem dL_law_304 : decode cL_law 304 = .ok (.istore 5, 2) := by decide +kernel
theorem dL_law_306 : decode cL_law 306 = .ok (.aload_n 2, 1) := by decide +kernel
theorem dL_law_307 : decode cL_law 307 = .ok (.aload_n 0, 1) := by decide +kernel
theorem dL_law_308 : decode cL_law 308 = .ok (.iload 4, 2) := by decide +kernel
theorem dL_law_310 : decode cL_law 310 = .ok (.iconst 1, 1) := by decide +kernel
theorem dL_law_311 : decode cL_law 311 = .ok (.iadd, 1) := by decide +kernel
theorem dL_law_312 : decode cL_law 312 = .ok (.iaload, 1) := by decide +kernel
theorem dL_law_313 : decode cL_law 313 = .ok (.invokevirtual 93, 3) := by decide +kernel
theorem dL_law_316 : decode cL_law 316 = .ok (.istore 6, 2) := by decide +kernel
theorem dL_law_318 : decode cL_law 318 = .ok (.aload_n 2, 1) := by decide +kernel
theorem dL_law_319 : decode cL_law 319 = .ok (.invokevirtual 88, 3) := by decide +kernel
theorem dL_law_322 : decode cL_law 322 = .ok (.iload 5, 2) := by decide +kernel
theorem dL_law_324 : decode cL_law 324 = .ok (.if_icmp .eq 5, 3) := by decide +kernel
theorem dL_law_327 : decode cL_law 327 = .ok (.iconst 0, 1) := by decide +kernel
theorem dL_law_328 : decode cL_law 328 = .ok (.ireturn, 1) := by decide +kernel
theorem dL_law_329 : decode cL_law 329 = .ok (.iload 5, 2) := by decide +kernel
theorem dL_law_331 : decode cL_law 331 = .ok (.ifCond .ne 15, 3) := by decide +kernel
theorem dL_law_334 : decode cL_law 334 = .ok (.aload_n 3, 1) := by decide +kernel
theorem dL_law_335 : decode cL_law 335 = .ok (.iconst 0, 1) := by decide +kernel
theorem dL_law_336 : decode cL_law 336 = .ok (.laload, 1) := by decide +kernel
theorem dL_law_337 : decode cL_law 337 = .ok (.iload 6, 2) := by decide +kernel
theorem dL_law_339 : decode cL_law 339 = .ok (.i2l, 1) := by decide +kernel
theorem dL_law_340 : decode cL_law 340 = .ok (.lcmp, 1) := by decide +kernel
theorem dL_law_341 : decode cL_law 341 = .ok (.ifCond .eq 5, 3) := by decide +kernel
theorem dL_law_344 : decode cL_law 344 = .ok (.iconst 0, 1) := by decide +kernel
theorem dL_law_345 : decode cL_law 345 = .ok (.ireturn, 1) := by decide +kernel
theorem dL_law_346 : decode cL_law 346 = .ok (.goto 1138, 3) := by decide +kernel
theorem dL_law_349 : decode cL_law 349 = .ok (.aload_n 1, 1) := by decide +kernel
theorem dL_law_350 : decode cL_law 350 = .ok (.aload_n 0, 1) := by decide +kernel
theorem dL_law_351 : decode cL_law 351 = .ok (.iload 4, 2) := by decide +kernel
theorem dL_law_353 : decode cL_law 353 = .ok (.iconst 1, 1) := by decide +kernel
theorem dL_law_354 : decode cL_law 354 = .ok (.iadd, 1) := by decide +kernel
theorem dL_law_355 : decode cL_law 355 = .ok (.iaload, 1) := by decide +kernel
theorem dL_law_356 : decode cL_law 356 = .ok (.aload_n 3, 1) := by decide +kernel
theorem dL_law_357 : decode cL_law 357 = .ok (.invokestatic 94, 3) := by decide +kernel
theorem dL_law_360 : decode cL_law 360 = .ok (.istore 5, 2) := by decide +kernel
theorem dL_law_362 : decode cL_law 362 = .ok (.aload_n 2, 1) := by decide +kernel
theorem dL_law_363 : decode cL_law 363 = .ok (.aload_n 0, 1) := by decide +kernel
theorem dL_law_364 : decode cL_law 364 = .ok (.iload 4, 2) := by decide +kernel
theorem dL_law_366 : decode cL_law 366 = .ok (.iconst 1, 1) := by decide +kernel
theorem dL_law_367 : decode cL_law 367 = .ok (.iadd, 1) := by decide +kernel
theorem dL_law_368 : decode cL_law 368 = .ok (.iaload, 1) := by decide +kernel
theorem dL_law_369 : decode cL_law 369 = .ok (.invokevirtual 96, 3) := by decide +kernel
theorem dL_law_372 : decode cL_law 372 = .ok (.istore 6, 2) := by decide +kernel
theorem dL_law_374 : decode cL_law 374 = .ok (.aload_n 2, 1) := by decide +kernel
theorem dL_law_375 : decode cL_law 375 = .ok (.invokevirtual 88, 3) := by decide +kernel
theorem dL_law_378 : decode cL_law 378 = .ok (.iload 5, 2) := by decide +kernel
theorem dL_law_380 : decode cL_law 380 = .ok (.if_icmp .eq 5, 3) := by decide +kernel
theorem dL_law_383 : decode cL_law 383 = .ok (.iconst 0, 1) := by decide +kernel
theorem dL_law_384 : decode cL_law 384 = .ok (.ireturn, 1) := by decide +kernel
theorem dL_law_385 : decode cL_law 385 = .ok (.iload 5, 2) := by decide +kernel
theorem dL_law_387 : decode cL_law 387 = .ok (.ifCond .ne 15, 3) := by decide +kernel
theorem dL_law_390 : decode cL_law 390 = .ok (.aload_n 3, 1) := by decide +kernel
theorem dL_law_391 : decode cL_law 391 = .ok (.iconst 0, 1) := by decide +kernel
theorem dL_law_392 : decode cL_law 392 = .ok (.laload, 1) := by decide +kernel
theorem dL_law_393 : decode cL_law 393 = .ok (.iload 6, 2) := by decide +kernel
theorem dL_law_395 : decode cL_law 395 = .ok (.i2l, 1) := by decide +kernel
theorem dL_law_396 : decode cL_law 396 = .ok (.lcmp, 1) := by decide +kernel
theorem dL_law_397 : decode cL_law 397 = .ok (.ifCond .eq 5, 3) := by decide +kernel
theorem dL_law_400 : decode cL_law 400 = .ok (.iconst 0, 1) := by decide +kernel
theorem dL_law_401 : decode cL_law 401 = .ok (.ireturn, 1) := by decide +kernel
theorem dL_law_402 : decode cL_law 402 = .ok (.goto 1082, 3) := by decide +kernel
theorem dL_law_405 : decode cL_law 405 = .ok (.aload_n 1, 1) := by decide +kernel
theorem dL_law_406 : decode cL_law 406 = .ok (.aload_n 0, 1) := by decide +kernel
theorem dL_law_407 : decode cL_law 407 = .ok (.iload 4, 2) := by decide +kernel
theorem dL_law_409 : decode cL_law 409 = .ok (.iconst 1, 1) := by decide +kernel
theorem dL_law_410 : decode cL_law 410 = .ok (.iadd, 1) := by decide +kernel
theorem dL_law_411 : decode cL_law 411 = .ok (.iaload, 1) := by decide +kernel
theorem dL_law_412 : decode cL_law 412 = .ok (.aload_n 0, 1) := by decide +kernel
theorem dL_law_413 : decode cL_law 413 = .ok (.iload 4, 2) := by decide +kernel
theorem dL_law_415 : decode cL_law 415 = .ok (.iconst 2, 1) := by decide +kernel
theorem dL_law_416 : decode cL_law 416 = .ok (.iadd, 1) := by decide +kernel
theorem dL_law_417 : decode cL_law 417 = .ok (.iaload, 1) := by decide +kernel
theorem dL_law_418 : decode cL_law 418 = .ok (.aload_n 3, 1) := by decide +kernel
theorem dL_law_419 : decode cL_law 419 = .ok (.invokestatic 97, 3) := by decide +kernel
theorem dL_law_422 : decode cL_law 422 = .ok (.istore 5, 2) := by decide +kernel
theorem dL_law_424 : decode cL_law 424 = .ok (.aload_n 2, 1) := by decide +kernel
theorem dL_law_425 : decode cL_law 425 = .ok (.aload_n 0, 1) := by decide +kernel
theorem dL_law_426 : decode cL_law 426 = .ok (.iload 4, 2) := by decide +kernel
theorem dL_law_428 : decode cL_law 428 = .ok (.iconst 1, 1) := by decide +kernel
theorem dL_law_429 : decode cL_law 429 = .ok (.iadd, 1) := by decide +kernel
theorem dL_law_430 : decode cL_law 430 = .ok (.iaload, 1) := by decide +kernel
theorem dL_law_431 : decode cL_law 431 = .ok (.aload_n 0, 1) := by decide +kernel
theorem dL_law_432 : decode cL_law 432 = .ok (.iload 4, 2) := by decide +kernel
theorem dL_law_434 : decode cL_law 434 = .ok (.iconst 2, 1) := by decide +kernel
theorem dL_law_435 : decode cL_law 435 = .ok (.iadd, 1) := by decide +kernel
theorem dL_law_436 : decode cL_law 436 = .ok (.iaload, 1) := by decide +kernel
theorem dL_law_437 : decode cL_law 437 = .ok (.invokevirtual 100, 3) := by decide +kernel
theorem dL_law_440 : decode cL_law 440 = .ok (.istore 6, 2) := by decide +kernel
theorem dL_law_442 : decode cL_law 442 = .ok (.aload_n 2, 1) := by decide +kernel
theorem dL_law_443 : decode cL_law 443 = .ok (.invokevirtual 88, 3) := by decide +kernel
theorem dL_law_446 : decode cL_law 446 = .ok (.iload 5, 2) := by decide +kernel
theorem dL_law_448 : decode cL_law 448 = .ok (.if_icmp .eq 5, 3) := by decide +kernel
theorem dL_law_451 : decode cL_law 451 = .ok (.iconst 0, 1) := by decide +kernel
theorem dL_law_452 : decode cL_law 452 = .ok (.ireturn, 1) := by decide +kernel
theorem dL_law_453 : decode cL_law 453 = .ok (.iload 5, 2) := by decide +kernel
theorem dL_law_455 : decode cL_law 455 = .ok (.ifCond .ne 15, 3) := by decide +kernel
theorem dL_law_458 : decode cL_law 458 = .ok (.aload_n 3, 1) := by decide +kernel
theorem dL_law_459 : decode cL_law 459 = .ok (.iconst 0, 1) := by decide +kernel
theorem dL_law_460 : decode cL_law 460 = .ok (.laload, 1) := by decide +kernel
theorem dL_law_461 : decode cL_law 461 = .ok (.iload 6, 2) := by decide +kernel
theorem dL_law_463 : decode cL_law 463 = .ok (.i2l, 1) := by decide +kernel
theorem dL_law_464 : decode cL_law 464 = .ok (.lcmp, 1) := by decide +kernel
theorem dL_law_465 : decode cL_law 465 = .ok (.ifCond .eq 5, 3) := by decide +kernel
theorem dL_law_468 : decode cL_law 468 = .ok (.iconst 0, 1) := by decide +kernel
theorem dL_law_469 : decode cL_law 469 = .ok (.ireturn, 1) := by decide +kernel
theorem dL_law_470 : decode cL_law 470 = .ok (.goto 1014, 3) := by decide +kernel
theorem dL_law_473 : decode cL_law 473 = .ok (.aload_n 1, 1) := by decide +kernel
theorem dL_law_474 : decode cL_law 474 = .ok (.aload_n 0, 1) := by decide +kernel
theorem dL_law_475 : decode cL_law 475 = .ok (.iload 4, 2) := by decide +kernel
theorem dL_law_477 : decode cL_law 477 = .ok (.iconst 1, 1) := by decide +kernel
theorem dL_law_478 : decode cL_law 478 = .ok (.iadd, 1) := by decide +kernel
theorem dL_law_479 : decode cL_law 479 = .ok (.iaload, 1) := by decide +kernel
theorem dL_law_480 : decode cL_law 480 = .ok (.invokevirtual 101, 3) := by decide +kernel
theorem dL_law_483 : decode cL_law 483 = .ok (.aload_n 2, 1) := by decide +kernel
theorem dL_law_484 : decode cL_law 484 = .ok (.aload_n 0, 1) := by decide +kernel
theorem dL_law_485 : decode cL_law 485 = .ok (.iload 4, 2) := by decide +kernel
theorem dL_law_487 : decode cL_law 487 = .ok (.iconst 1, 1) := by decide +kernel
theorem dL_law_488 : decode cL_law 488 = .ok (.iadd, 1) := by decide +kernel
theorem dL_law_489 : decode cL_law 489 = .ok (.iaload, 1) := by decide +kernel
theorem dL_law_490 : decode cL_law 490 = .ok (.invokevirtual 104, 3) := by decide +kernel
theorem dL_law_493 : decode cL_law 493 = .ok (.if_icmp .eq 991, 3) := by decide +kernel
theorem dL_law_496 : decode cL_law 496 = .ok (.iconst 0, 1) := by decide +kernel
theorem dL_law_497 : decode cL_law 497 = .ok (.ireturn, 1) := by decide +kernel
theorem dL_law_498 : decode cL_law 498 = .ok (.aload_n 1, 1) := by decide +kernel
theorem dL_law_499 : decode cL_law 499 = .ok (.aload_n 0, 1) := by decide +kernel
theorem dL_law_500 : decode cL_law 500 = .ok (.iload 4, 2) := by decide +kernel
theorem dL_law_502 : decode cL_law 502 = .ok (.iconst 1, 1) := by decide +kernel
theorem dL_law_503 : decode cL_law 503 = .ok (.iadd, 1) := by decide +kernel
theorem dL_law_504 : decode cL_law 504 = .ok (.iaload, 1) := by decide +kernel
theorem dL_law_505 : decode cL_law 505 = .ok (.invokevirtual 105, 3) := by decide +kernel
theorem dL_law_508 : decode cL_law 508 = .ok (.aload_n 2, 1) := by decide +kernel
theorem dL_law_509 : decode cL_law 509 = .ok (.aload_n 0, 1) := by decide +kernel
theorem dL_law_510 : decode cL_law 510 = .ok (.iload 4, 2) := by decide +kernel
theorem dL_law_512 : decode cL_law 512 = .ok (.iconst 1, 1) := by decide +kernel
theorem dL_law_513 : decode cL_law 513 = .ok (.iadd, 1) := by decide +kernel
theorem dL_law_514 : decode cL_law 514 = .ok (.iaload, 1) := by decide +kernel
theorem dL_law_515 : decode cL_law 515 = .ok (.invokevirtual 108, 3) := by decide +kernel
theorem dL_law_518 : decode cL_law 518 = .ok (.if_icmp .eq 966, 3) := by decide +kernel
theorem dL_law_521 : decode cL_law 521 = .ok (.iconst 0, 1) := by decide +kernel
theorem dL_law_522 : decode cL_law 522 = .ok (.ireturn, 1) := by decide +kernel
theorem dL_law_523 : decode cL_law 523 = .ok (.aload_n 1, 1) := by decide +kernel
theorem dL_law_524 : decode cL_law 524 = .ok (.aload_n 0, 1) := by decide +kernel
theorem dL_law_525 : decode cL_law 525 = .ok (.iload 4, 2) := by decide +kernel
theorem dL_law_527 : decode cL_law 527 = .ok (.iconst 1, 1) := by decide +kernel
theorem dL_law_528 : decode cL_law 528 = .ok (.iadd, 1) := by decide +kernel
theorem dL_law_529 : decode cL_law 529 = .ok (.iaload, 1) := by decide +kernel
theorem dL_law_530 : decode cL_law 530 = .ok (.aload_n 0, 1) := by decide +kernel
theorem dL_law_531 : decode cL_law 531 = .ok (.iload 4, 2) := by decide +kernel
theorem dL_law_533 : decode cL_law 533 = .ok (.iconst 2, 1) := by decide +kernel
theorem dL_law_534 : decode cL_law 534 = .ok (.iadd, 1) := by decide +kernel
theorem dL_law_535 : decode cL_law 535 = .ok (.iaload, 1) := by decide +kernel
theorem dL_law_536 : decode cL_law 536 = .ok (.aload_n 3, 1) := by decide +kernel
theorem dL_law_537 : decode cL_law 537 = .ok (.invokestatic 109, 3) := by decide +kernel
theorem dL_law_540 : decode cL_law 540 = .ok (.istore 5, 2) := by decide +kernel
theorem dL_law_542 : decode cL_law 542 = .ok (.aload_n 2, 1) := by decide +kernel
theorem dL_law_543 : decode cL_law 543 = .ok (.aload_n 0, 1) := by decide +kernel
theorem dL_law_544 : decode cL_law 544 = .ok (.iload 4, 2) := by decide +kernel
theorem dL_law_546 : decode cL_law 546 = .ok (.iconst 1, 1) := by decide +kernel
theorem dL_law_547 : decode cL_law 547 = .ok (.iadd, 1) := by decide +kernel
theorem dL_law_548 : decode cL_law 548 = .ok (.iaload, 1) := by decide +kernel
theorem dL_law_549 : decode cL_law 549 = .ok (.aload_n 0, 1) := by decide +kernel
theorem dL_law_550 : decode cL_law 550 = .ok (.iload 4, 2) := by decide +kernel
theorem dL_law_552 : decode cL_law 552 = .ok (.iconst 2, 1) := by decide +kernel
theorem dL_law_553 : decode cL_law 553 = .ok (.iadd, 1) := by decide +kernel
theorem dL_law_554 : decode cL_law 554 = .ok (.iaload, 1) := by decide +kernel
theorem dL_law_555 : decode cL_law 555 = .ok (.invokevirtual 111, 3) := by decide +kernel
theorem dL_law_558 : decode cL_law 558 = .ok (.istore 6, 2) := by decide +kernel
theorem dL_law_560 : decode cL_law 560 = .ok (.aload_n 2, 1) := by decide +kernel
theorem dL_law_561 : decode cL_law 561 = .ok (.invokevirtual 88, 3) := by decide +kernel
theorem dL_law_564 : decode cL_law 564 = .ok (.iload 5, 2) := by decide +kernel
theorem dL_law_566 : decode cL_law 566 = .ok (.if_icmp .eq 5, 3) := by decide +kernel
theorem dL_law_569 : decode cL_law 569 = .ok (.iconst 0, 1) := by decide +kernel
theorem dL_law_570 : decode cL_law 570 = .ok (.ireturn, 1) := by decide +kernel
theorem dL_law_571 : decode cL_law 571 = .ok (.iload 5, 2) := by decide +kernel
theorem dL_law_573 : decode cL_law 573 = .ok (.ifCond .ne 15, 3) := by decide +kernel
theorem dL_law_576 : decode cL_law 576 = .ok (.aload_n 3, 1) := by decide +kernel
theorem dL_law_577 : decode cL_law 577 = .ok (.iconst 0, 1) := by decide +kernel
theorem dL_law_578 : decode cL_law 578 = .ok (.laload, 1) := by decide +kernel
theorem dL_law_579 : decode cL_law 579 = .ok (.iload 6, 2) := by decide +kernel
theorem dL_law_581 : decode cL_law 581 = .ok (.i2l, 1) := by decide +kernel
theorem dL_law_582 : decode cL_law 582 = .ok (.lcmp, 1) := by decide +kernel
theorem dL_law_583 : decode cL_law 583 = .ok (.ifCond .eq 5, 3) := by decide +kernel
theorem dL_law_586 : decode cL_law 586 = .ok (.iconst 0, 1) := by decide +kernel
theorem dL_law_587 : decode cL_law 587 = .ok (.ireturn, 1) := by decide +kernel
theorem dL_law_588 : decode cL_law 588 = .ok (.goto 896, 3) := by decide +kernel
theorem dL_law_591 : decode cL_law 591 = .ok (.aload_n 1, 1) := by decide +kernel
theorem dL_law_592 : decode cL_law 592 = .ok (.aload_n 0, 1) := by decide +kernel
theorem dL_law_593 : decode cL_law 593 = .ok (.iload 4, 2) := by decide +kernel
theorem dL_law_595 : decode cL_law 595 = .ok (.iconst 1, 1) := by decide +kernel
theorem dL_law_596 : decode cL_law 596 = .ok (.iadd, 1) := by decide +kernel
theorem dL_law_597 : decode cL_law 597 = .ok (.iaload, 1) := by decide +kernel
theorem dL_law_598 : decode cL_law 598 = .ok (.aload_n 0, 1) := by decide +kernel
theorem dL_law_599 : decode cL_law 599 = .ok (.iload 4, 2) := by decide +kernel
theorem dL_law_601 : decode cL_law 601 = .ok (.iconst 2, 1) := by decide +kernel
theorem dL_law_602 : decode cL_law 602 = .ok (.iadd, 1) := by decide +kernel
theorem dL_law_603 : decode cL_law 603 = .ok (.iaload, 1) := by decide +kernel
theorem dL_law_604 : decode cL_law 604 = .ok (.aload_n 3, 1) := by decide +kernel
theorem dL_law_605 : decode cL_law 605 = .ok (.invokestatic 112, 3) := by decide +kernel
theorem dL_law_608 : decode cL_law 608 = .ok (.istore 5, 2) := by decide +kernel
theorem dL_law_610 : decode cL_law 610 = .ok (.aload_n 2, 1) := by decide +kernel
theorem dL_law_611 : decode cL_law 611 = .ok (.aload_n 0, 1) := by decide +kernel
theorem dL_law_612 : decode cL_law 612 = .ok (.iload 4, 2) := by decide +kernel
theorem dL_law_614 : decode cL_law 614 = .ok (.iconst 1, 1) := by decide +kernel
theorem dL_law_615 : decode cL_law 615 = .ok (.iadd, 1) := by decide +kernel
theorem dL_law_616 : decode cL_law 616 = .ok (.iaload, 1) := by decide +kernel
theorem dL_law_617 : decode cL_law 617 = .ok (.aload_n 0, 1) := by decide +kernel
theorem dL_law_618 : decode cL_law 618 = .ok (.iload 4, 2) := by decide +kernel
theorem dL_law_620 : decode cL_law 620 = .ok (.iconst 2, 1) := by decide +kernel
theorem dL_law_621 : decode cL_law 621 = .ok (.iadd, 1) := by decide +kernel
theorem dL_law_622 : decode cL_law 622 = .ok (.iaload, 1) := by decide +kernel
theorem dL_law_623 : decode cL_law 623 = .ok (.invokevirtual 114, 3) := by decide +kernel
theorem dL_law_626 : decode cL_law 626 = .ok (.istore 6, 2) := by decide +kernel
theorem dL_law_628 : decode cL_law 628 = .ok (.aload_n 2, 1) := by decide +kernel
theorem dL_law_629 : decode cL_law 629 = .ok (.invokevirtual 88, 3) := by decide +kernel
theorem dL_law_632 : decode cL_law 632 = .ok (.iload 5, 2) := by decide +kernel
theorem dL_law_634 : decode cL_law 634 = .ok (.if_icmp .eq 5, 3) := by decide +kernel
theorem dL_law_637 : decode cL_law 637 = .ok (.iconst 0, 1) := by decide +kernel
theorem dL_law_638 : decode cL_law 638 = .ok (.ireturn, 1) := by decide +kernel
theorem dL_law_639 : decode cL_law 639 = .ok (.iload 5, 2) := by decide +kernel
theorem dL_law_641 : decode cL_law 641 = .ok (.ifCond .ne 15, 3) := by decide +kernel
theorem dL_law_644 : decode cL_law 644 = .ok (.aload_n 3, 1) := by decide +kernel
theorem dL_law_645 : decode cL_law 645 = .ok (.iconst 0, 1) := by decide +kernel
theorem dL_law_646 : decode cL_law 646 = .ok (.laload, 1) := by decide +kernel
theorem dL_law_647 : decode cL_law 647 = .ok (.iload 6, 2) := by decide +kernel
theorem dL_law_649 : decode cL_law 649 = .ok (.i2l, 1) := by decide +kernel
theorem dL_law_650 : decode cL_law 650 = .ok (.lcmp, 1) := by decide +kernel
theorem dL_law_651 : decode cL_law 651 = .ok (.ifCond .eq 5, 3) := by decide +kernel
theorem dL_law_654 : decode cL_law 654 = .ok (.iconst 0, 1) := by decide +kernel
theorem dL_law_655 : decode cL_law 655 = .ok (.ireturn, 1) := by decide +kernel
theorem dL_law_656 : decode cL_law 656 = .ok (.goto 828, 3) := by decide +kernel
theorem dL_law_659 : decode cL_law 659 = .ok (.aload_n 1, 1) := by decide +kernel
theorem dL_law_660 : decode cL_law 660 = .ok (.aload_n 0, 1) := by decide +kernel
theorem dL_law_661 : decode cL_law 661 = .ok (.iload 4, 2) := by decide +kernel
theorem dL_law_663 : decode cL_law 663 = .ok (.iconst 1, 1) := by decide +kernel
theorem dL_law_664 : decode cL_law 664 = .ok (.iadd, 1) := by decide +kernel
theorem dL_law_665 : decode cL_law 665 = .ok (.iaload, 1) := by decide +kernel
theorem dL_law_666 : decode cL_law 666 = .ok (.aload_n 3, 1) := by decide +kernel
theorem dL_law_667 : decode cL_law 667 = .ok (.invokestatic 115, 3) := by decide +kernel
theorem dL_law_670 : decode cL_law 670 = .ok (.istore 5, 2) := by decide +kernel
theorem dL_law_672 : decode cL_law 672 = .ok (.aload_n 2, 1) := by decide +kernel
theorem dL_law_673 : decode cL_law 673 = .ok (.aload_n 0, 1) := by decide +kernel
theorem dL_law_674 : decode cL_law 674 = .ok (.iload 4, 2) := by decide +kernel
theorem dL_law_676 : decode cL_law 676 = .ok (.iconst 1, 1) := by decide +kernel
theorem dL_law_677 : decode cL_law 677 = .ok (.iadd, 1) := by decide +kernel
theorem dL_law_678 : decode cL_law 678 = .ok (.iaload, 1) := by decide +kernel
theorem dL_law_679 : decode cL_law 679 = .ok (.invokevirtual 117, 3) := by decide +kernel
theorem dL_law_682 : decode cL_law 682 = .ok (.istore 6, 2) := by decide +kernel
theorem dL_law_684 : decode cL_law 684 = .ok (.aload_n 2, 1) := by decide +kernel
theorem dL_law_685 : decode cL_law 685 = .ok (.invokevirtual 88, 3) := by decide +kernel
theorem dL_law_688 : decode cL_law 688 = .ok (.iload 5, 2) := by decide +kernel
theorem dL_law_690 : decode cL_law 690 = .ok (.if_icmp .eq 5, 3) := by decide +kernel
theorem dL_law_693 : decode cL_law 693 = .ok (.iconst 0, 1) := by decide +kernel
theorem dL_law_694 : decode cL_law 694 = .ok (.ireturn, 1) := by decide +kernel
theorem dL_law_695 : decode cL_law 695 = .ok (.iload 5, 2) := by decide +kernel
theorem dL_law_697 : decode cL_law 697 = .ok (.ifCond .ne 22, 3) := by decide +kernel
theorem dL_law_700 : decode cL_law 700 = .ok (.aload_n 3, 1) := by decide +kernel
theorem dL_law_701 : decode cL_law 701 = .ok (.iconst 0, 1) := by decide +kernel
theorem dL_law_702 : decode cL_law 702 = .ok (.laload, 1) := by decide +kernel
theorem dL_law_703 : decode cL_law 703 = .ok (.iload 6, 2) := by decide +kernel
theorem dL_law_705 : decode cL_law 705 = .ok (.ifCond .eq 7, 3) := by decide +kernel
theorem dL_law_708 : decode cL_law 708 = .ok (.lconst 1, 1) := by decide +kernel
theorem dL_law_709 : decode cL_law 709 = .ok (.goto 4, 3) := by decide +kernel
theorem dL_law_712 : decode cL_law 712 = .ok (.lconst 0, 1) := by decide +kernel
theorem dL_law_713 : decode cL_law 713 = .ok (.lcmp, 1) := by decide +kernel
theorem dL_law_714 : decode cL_law 714 = .ok (.ifCond .eq 5, 3) := by decide +kernel
theorem dL_law_717 : decode cL_law 717 = .ok (.iconst 0, 1) := by decide +kernel
theorem dL_law_718 : decode cL_law 718 = .ok (.ireturn, 1) := by decide +kernel
theorem dL_law_719 : decode cL_law 719 = .ok (.goto 765, 3) := by decide +kernel
theorem dL_law_722 : decode cL_law 722 = .ok (.aload_n 1, 1) := by decide +kernel
theorem dL_law_723 : decode cL_law 723 = .ok (.aload_n 0, 1) := by decide +kernel
theorem dL_law_724 : decode cL_law 724 = .ok (.iload 4, 2) := by decide +kernel
theorem dL_law_726 : decode cL_law 726 = .ok (.iconst 1, 1) := by decide +kernel
theorem dL_law_727 : decode cL_law 727 = .ok (.iadd, 1) := by decide +kernel
theorem dL_law_728 : decode cL_law 728 = .ok (.iaload, 1) := by decide +kernel
theorem dL_law_729 : decode cL_law 729 = .ok (.aload_n 3, 1) := by decide +kernel
theorem dL_law_730 : decode cL_law 730 = .ok (.invokestatic 118, 3) := by decide +kernel
theorem dL_law_733 : decode cL_law 733 = .ok (.istore 5, 2) := by decide +kernel
theorem dL_law_735 : decode cL_law 735 = .ok (.aload_n 2, 1) := by decide +kernel
theorem dL_law_736 : decode cL_law 736 = .ok (.aload_n 0, 1) := by decide +kernel
theorem dL_law_737 : decode cL_law 737 = .ok (.iload 4, 2) := by decide +kernel
theorem dL_law_739 : decode cL_law 739 = .ok (.iconst 1, 1) := by decide +kernel
theorem dL_law_740 : decode cL_law 740 = .ok (.iadd, 1) := by decide +kernel
theorem dL_law_741 : decode cL_law 741 = .ok (.iaload, 1) := by decide +kernel
theorem dL_law_742 : decode cL_law 742 = .ok (.invokevirtual 120, 3) := by decide +kernel
theorem dL_law_745 : decode cL_law 745 = .ok (.istore 6, 2) := by decide +kernel
theorem dL_law_747 : decode cL_law 747 = .ok (.aload_n 2, 1) := by decide +kernel
theorem dL_law_748 : decode cL_law 748 = .ok (.invokevirtual 88, 3) := by decide +kernel
theorem dL_law_751 : decode cL_law 751 = .ok (.iload 5, 2) := by decide +kernel
theorem dL_law_753 : decode cL_law 753 = .ok (.if_icmp .eq 5, 3) := by decide +kernel
theorem dL_law_756 : decode cL_law 756 = .ok (.iconst 0, 1) := by decide +kernel
theorem dL_law_757 : decode cL_law 757 = .ok (.ireturn, 1) := by decide +kernel
theorem dL_law_758 : decode cL_law 758 = .ok (.iload 5, 2) := by decide +kernel
theorem dL_law_760 : decode cL_law 760 = .ok (.ifCond .ne 15, 3) := by decide +kernel
theorem dL_law_763 : decode cL_law 763 = .ok (.aload_n 3, 1) := by decide +kernel
theorem dL_law_764 : decode cL_law 764 = .ok (.iconst 0, 1) := by decide +kernel
theorem dL_law_765 : decode cL_law 765 = .ok (.laload, 1) := by decide +kernel
theorem dL_law_766 : decode cL_law 766 = .ok (.iload 6, 2) := by decide +kernel
theorem dL_law_768 : decode cL_law 768 = .ok (.i2l, 1) := by decide +kernel
theorem dL_law_769 : decode cL_law 769 = .ok (.lcmp, 1) := by decide +kernel
theorem dL_law_770 : decode cL_law 770 = .ok (.ifCond .eq 5, 3) := by decide +kernel
theorem dL_law_773 : decode cL_law 773 = .ok (.iconst 0, 1) := by decide +kernel
theorem dL_law_774 : decode cL_law 774 = .ok (.ireturn, 1) := by decide +kernel
theorem dL_law_775 : decode cL_law 775 = .ok (.goto 709, 3) := by decide +kernel
theorem dL_law_778 : decode cL_law 778 = .ok (.aload_n 1, 1) := by decide +kernel
theorem dL_law_779 : decode cL_law 779 = .ok (.aload_n 0, 1) := by decide +kernel
theorem dL_law_780 : decode cL_law 780 = .ok (.iload 4, 2) := by decide +kernel
theorem dL_law_782 : decode cL_law 782 = .ok (.iconst 1, 1) := by decide +kernel
theorem dL_law_783 : decode cL_law 783 = .ok (.iadd, 1) := by decide +kernel
theorem dL_law_784 : decode cL_law 784 = .ok (.iaload, 1) := by decide +kernel
theorem dL_law_785 : decode cL_law 785 = .ok (.aload_n 0, 1) := by decide +kernel
theorem dL_law_786 : decode cL_law 786 = .ok (.iload 4, 2) := by decide +kernel
theorem dL_law_788 : decode cL_law 788 = .ok (.iconst 2, 1) := by decide +kernel
theorem dL_law_789 : decode cL_law 789 = .ok (.iadd, 1) := by decide +kernel
theorem dL_law_790 : decode cL_law 790 = .ok (.iaload, 1) := by decide +kernel
theorem dL_law_791 : decode cL_law 791 = .ok (.aload_n 3, 1) := by decide +kernel
theorem dL_law_792 : decode cL_law 792 = .ok (.invokestatic 121, 3) := by decide +kernel
theorem dL_law_795 : decode cL_law 795 = .ok (.istore 5, 2) := by decide +kernel
theorem dL_law_797 : decode cL_law 797 = .ok (.aload_n 2, 1) := by decide +kernel
theorem dL_law_798 : decode cL_law 798 = .ok (.aload_n 0, 1) := by decide +kernel
theorem dL_law_799 : decode cL_law 799 = .ok (.iload 4, 2) := by decide +kernel
theorem dL_law_801 : decode cL_law 801 = .ok (.iconst 1, 1) := by decide +kernel
theorem dL_law_802 : decode cL_law 802 = .ok (.iadd, 1) := by decide +kernel
theorem dL_law_803 : decode cL_law 803 = .ok (.iaload, 1) := by decide +kernel
theorem dL_law_804 : decode cL_law 804 = .ok (.aload_n 0, 1) := by decide +kernel
theorem dL_law_805 : decode cL_law 805 = .ok (.iload 4, 2) := by decide +kernel
theorem dL_law_807 : decode cL_law 807 = .ok (.iconst 2, 1) := by decide +kernel
theorem dL_law_808 : decode cL_law 808 = .ok (.iadd, 1) := by decide +kernel
theorem dL_law_809 : decode cL_law 809 = .ok (.iaload, 1) := by decide +kernel
theorem dL_law_810 : decode cL_law 810 = .ok (.invokevirtual 123, 3) := by decide +kernel
theorem dL_law_813 : decode cL_law 813 = .ok (.istore 6, 2) := by decide +kernel
theorem dL_law_815 : decode cL_law 815 = .ok (.aload_n 2, 1) := by decide +kernel
theorem dL_law_816 : decode cL_law 816 = .ok (.invokevirtual 88, 3) := by decide +kernel
theorem dL_law_819 : decode cL_law 819 = .ok (.iload 5, 2) := by decide +kernel
theorem dL_law_821 : decode cL_law 821 = .ok (.if_icmp .eq 5, 3) := by decide +kernel
theorem dL_law_824 : decode cL_law 824 = .ok (.iconst 0, 1) := by decide +kernel
theorem dL_law_825 : decode cL_law 825 = .ok (.ireturn, 1) := by decide +kernel
theorem dL_law_826 : decode cL_law 826 = .ok (.iload 5, 2) := by decide +kernel
theorem dL_law_828 : decode cL_law 828 = .ok (.ifCond .ne 15, 3) := by decide +kernel
theorem dL_law_831 : decode cL_law 831 = .ok (.aload_n 3, 1) := by decide +kernel
theorem dL_law_832 : decode cL_law 832 = .ok (.iconst 0, 1) := by decide +kernel
theorem dL_law_833 : decode cL_law 833 = .ok (.laload, 1) := by decide +kernel
theorem dL_law_834 : decode cL_law 834 = .ok (.iload 6, 2) := by decide +kernel
theorem dL_law_836 : decode cL_law 836 = .ok (.i2l, 1) := by decide +kernel
theorem dL_law_837 : decode cL_law 837 = .ok (.lcmp, 1) := by decide +kernel
theorem dL_law_838 : decode cL_law 838 = .ok (.ifCond .eq 5, 3) := by decide +kernel
theorem dL_law_841 : decode cL_law 841 = .ok (.iconst 0, 1) := by decide +kernel
theorem dL_law_842 : decode cL_law 842 = .ok (.ireturn, 1) := by decide +kernel
theorem dL_law_843 : decode cL_law 843 = .ok (.goto 641, 3) := by decide +kernel
theorem dL_law_846 : decode cL_law 846 = .ok (.aload_n 1, 1) := by decide +kernel
theorem dL_law_847 : decode cL_law 847 = .ok (.invokevirtual 124, 3) := by decide +kernel
theorem dL_law_850 : decode cL_law 850 = .ok (.aload_n 2, 1) := by decide +kernel
theorem dL_law_851 : decode cL_law 851 = .ok (.invokevirtual 127, 3) := by decide +kernel
theorem dL_law_854 : decode cL_law 854 = .ok (.if_icmp .eq 630, 3) := by decide +kernel
theorem dL_law_857 : decode cL_law 857 = .ok (.iconst 0, 1) := by decide +kernel
theorem dL_law_858 : decode cL_law 858 = .ok (.ireturn, 1) := by decide +kernel
theorem dL_law_859 : decode cL_law 859 = .ok (.aload_n 1, 1) := by decide +kernel
theorem dL_law_860 : decode cL_law 860 = .ok (.aload_n 0, 1) := by decide +kernel
theorem dL_law_861 : decode cL_law 861 = .ok (.iload 4, 2) := by decide +kernel
theorem dL_law_863 : decode cL_law 863 = .ok (.iconst 1, 1) := by decide +kernel
theorem dL_law_864 : decode cL_law 864 = .ok (.iadd, 1) := by decide +kernel
theorem dL_law_865 : decode cL_law 865 = .ok (.iaload, 1) := by decide +kernel
theorem dL_law_866 : decode cL_law 866 = .ok (.aload_n 3, 1) := by decide +kernel
theorem dL_law_867 : decode cL_law 867 = .ok (.invokestatic 128, 3) := by decide +kernel
theorem dL_law_870 : decode cL_law 870 = .ok (.istore 5, 2) := by decide +kernel
theorem dL_law_872 : decode cL_law 872 = .ok (.aload_n 2, 1) := by decide +kernel
theorem dL_law_873 : decode cL_law 873 = .ok (.aload_n 0, 1) := by decide +kernel
theorem dL_law_874 : decode cL_law 874 = .ok (.iload 4, 2) := by decide +kernel
theorem dL_law_876 : decode cL_law 876 = .ok (.iconst 1, 1) := by decide +kernel
theorem dL_law_877 : decode cL_law 877 = .ok (.iadd, 1) := by decide +kernel
theorem dL_law_878 : decode cL_law 878 = .ok (.iaload, 1) := by decide +kernel
theorem dL_law_879 : decode cL_law 879 = .ok (.invokevirtual 130, 3) := by decide +kernel
theorem dL_law_882 : decode cL_law 882 = .ok (.istore 6, 2) := by decide +kernel
theorem dL_law_884 : decode cL_law 884 = .ok (.aload_n 2, 1) := by decide +kernel
theorem dL_law_885 : decode cL_law 885 = .ok (.invokevirtual 88, 3) := by decide +kernel
theorem dL_law_888 : decode cL_law 888 = .ok (.iload 5, 2) := by decide +kernel
theorem dL_law_890 : decode cL_law 890 = .ok (.if_icmp .eq 5, 3) := by decide +kernel
theorem dL_law_893 : decode cL_law 893 = .ok (.iconst 0, 1) := by decide +kernel
theorem dL_law_894 : decode cL_law 894 = .ok (.ireturn, 1) := by decide +kernel
theorem dL_law_895 : decode cL_law 895 = .ok (.iload 5, 2) := by decide +kernel
theorem dL_law_897 : decode cL_law 897 = .ok (.ifCond .ne 15, 3) := by decide +kernel
theorem dL_law_900 : decode cL_law 900 = .ok (.aload_n 3, 1) := by decide +kernel
theorem dL_law_901 : decode cL_law 901 = .ok (.iconst 0, 1) := by decide +kernel
theorem dL_law_902 : decode cL_law 902 = .ok (.laload, 1) := by decide +kernel
theorem dL_law_903 : decode cL_law 903 = .ok (.iload 6, 2) := by decide +kernel
theorem dL_law_905 : decode cL_law 905 = .ok (.i2l, 1) := by decide +kernel
theorem dL_law_906 : decode cL_law 906 = .ok (.lcmp, 1) := by decide +kernel
theorem dL_law_907 : decode cL_law 907 = .ok (.ifCond .eq 5, 3) := by decide +kernel
theorem dL_law_910 : decode cL_law 910 = .ok (.iconst 0, 1) := by decide +kernel
theorem dL_law_911 : decode cL_law 911 = .ok (.ireturn, 1) := by decide +kernel
theorem dL_law_912 : decode cL_law 912 = .ok (.goto 572, 3) := by decide +kernel
theorem dL_law_915 : decode cL_law 915 = .ok (.aload_n 1, 1) := by decide +kernel
theorem dL_law_916 : decode cL_law 916 = .ok (.aload_n 0, 1) := by decide +kernel
theorem dL_law_917 : decode cL_law 917 = .ok (.iload 4, 2) := by decide +kernel
theorem dL_law_919 : decode cL_law 919 = .ok (.iconst 1, 1) := by decide +kernel
theorem dL_law_920 : decode cL_law 920 = .ok (.iadd, 1) := by decide +kernel
theorem dL_law_921 : decode cL_law 921 = .ok (.iaload, 1) := by decide +kernel
theorem dL_law_922 : decode cL_law 922 = .ok (.aload_n 3, 1) := by decide +kernel
theorem dL_law_923 : decode cL_law 923 = .ok (.invokestatic 131, 3) := by decide +kernel
theorem dL_law_926 : decode cL_law 926 = .ok (.istore 5, 2) := by decide +kernel
theorem dL_law_928 : decode cL_law 928 = .ok (.aload_n 2, 1) := by decide +kernel
theorem dL_law_929 : decode cL_law 929 = .ok (.aload_n 0, 1) := by decide +kernel
theorem dL_law_930 : decode cL_law 930 = .ok (.iload 4, 2) := by decide +kernel
theorem dL_law_932 : decode cL_law 932 = .ok (.iconst 1, 1) := by decide +kernel
theorem dL_law_933 : decode cL_law 933 = .ok (.iadd, 1) := by decide +kernel
theorem dL_law_934 : decode cL_law 934 = .ok (.iaload, 1) := by decide +kernel
theorem dL_law_935 : decode cL_law 935 = .ok (.invokevirtual 133, 3) := by decide +kernel
theorem dL_law_938 : decode cL_law 938 = .ok (.istore 6, 2) := by decide +kernel
theorem dL_law_940 : decode cL_law 940 = .ok (.aload_n 2, 1) := by decide +kernel
theorem dL_law_941 : decode cL_law 941 = .ok (.invokevirtual 88, 3) := by decide +kernel
theorem dL_law_944 : decode cL_law 944 = .ok (.iload 5, 2) := by decide +kernel
theorem dL_law_946 : decode cL_law 946 = .ok (.if_icmp .eq 5, 3) := by decide +kernel
theorem dL_law_949 : decode cL_law 949 = .ok (.iconst 0, 1) := by decide +kernel
theorem dL_law_950 : decode cL_law 950 = .ok (.ireturn, 1) := by decide +kernel
theorem dL_law_951 : decode cL_law 951 = .ok (.iload 5, 2) := by decide +kernel
theorem dL_law_953 : decode cL_law 953 = .ok (.ifCond .ne 15, 3) := by decide +kernel
theorem dL_law_956 : decode cL_law 956 = .ok (.aload_n 3, 1) := by decide +kernel
theorem dL_law_957 : decode cL_law 957 = .ok (.iconst 0, 1) := by decide +kernel
theorem dL_law_958 : decode cL_law 958 = .ok (.laload, 1) := by decide +kernel
theorem dL_law_959 : decode cL_law 959 = .ok (.iload 6, 2) := by decide +kernel
theorem dL_law_961 : decode cL_law 961 = .ok (.i2l, 1) := by decide +kernel
theorem dL_law_962 : decode cL_law 962 = .ok (.lcmp, 1) := by decide +kernel
theorem dL_law_963 : decode cL_law 963 = .ok (.ifCond .eq 5, 3) := by decide +kernel
theorem dL_law_966 : decode cL_law 966 = .ok (.iconst 0, 1) := by decide +kernel
theorem dL_law_967 : decode cL_law 967 = .ok (.ireturn, 1) := by decide +kernel
theorem dL_law_968 : decode cL_law 968 = .ok (.goto 516, 3) := by decide +kernel
theorem dL_law_971 : decode cL_law 971 = .ok (.aload_n 1, 1) := by decide +kernel
theorem dL_law_972 : decode cL_law 972 = .ok (.aload_n 0, 1) := by decide +kernel
theorem dL_law_973 : decode cL_law 973 = .ok (.iload 4, 2) := by decide +kernel
theorem dL_law_975 : decode cL_law 975 = .ok (.iconst 1, 1) := by decide +kernel
theorem dL_law_976 : decode cL_law 976 = .ok (.iadd, 1) := by decide +kernel
theorem dL_law_977 : decode cL_law 977 = .ok (.iaload, 1) := by decide +kernel
theorem dL_law_978 : decode cL_law 978 = .ok (.aload_n 3, 1) := by decide +kernel
theorem dL_law_979 : decode cL_law 979 = .ok (.invokestatic 134, 3) := by decide +kernel
theorem dL_law_982 : decode cL_law 982 = .ok (.istore 5, 2) := by decide +kernel
theorem dL_law_984 : decode cL_law 984 = .ok (.aload_n 2, 1) := by decide +kernel
theorem dL_law_985 : decode cL_law 985 = .ok (.aload_n 0, 1) := by decide +kernel
theorem dL_law_986 : decode cL_law 986 = .ok (.iload 4, 2) := by decide +kernel
theorem dL_law_988 : decode cL_law 988 = .ok (.iconst 1, 1) := by decide +kernel
theorem dL_law_989 : decode cL_law 989 = .ok (.iadd, 1) := by decide +kernel
theorem dL_law_990 : decode cL_law 990 = .ok (.iaload, 1) := by decide +kernel
theorem dL_law_991 : decode cL_law 991 = .ok (.invokevirtual 136, 3) := by decide +kernel
theorem dL_law_994 : decode cL_law 994 = .ok (.istore 6, 2) := by decide +kernel
theorem dL_law_996 : decode cL_law 996 = .ok (.aload_n 2, 1) := by decide +kernel
theorem dL_law_997 : decode cL_law 997 = .ok (.invokevirtual 88, 3) := by decide +kernel
theorem dL_law_1000 : decode cL_law 1000 = .ok (.iload 5, 2) := by decide +kernel
theorem dL_law_1002 : decode cL_law 1002 = .ok (.if_icmp .eq 5, 3) := by decide +kernel
theorem dL_law_1005 : decode cL_law 1005 = .ok (.iconst 0, 1) := by decide +kernel
theorem dL_law_1006 : decode cL_law 1006 = .ok (.ireturn, 1) := by decide +kernel
theorem dL_law_1007 : decode cL_law 1007 = .ok (.iload 5, 2) := by decide +kernel
theorem dL_law_1009 : decode cL_law 1009 = .ok (.ifCond .ne 15, 3) := by decide +kernel
theorem dL_law_1012 : decode cL_law 1012 = .ok (.aload_n 3, 1) := by decide +kernel
theorem dL_law_1013 : decode cL_law 1013 = .ok (.iconst 0, 1) := by decide +kernel
theorem dL_law_1014 : decode cL_law 1014 = .ok (.laload, 1) := by decide +kernel
theorem dL_law_1015 : decode cL_law 1015 = .ok (.iload 6, 2) := by decide +kernel
theorem dL_law_1017 : decode cL_law 1017 = .ok (.i2l, 1) := by decide +kernel
theorem dL_law_1018 : decode cL_law 1018 = .ok (.lcmp, 1) := by decide +kernel
theorem dL_law_1019 : decode cL_law 1019 = .ok (.ifCond .eq 5, 3) := by decide +kernel
theorem dL_law_1022 : decode cL_law 1022 = .ok (.iconst 0, 1) := by decide +kernel
theorem dL_law_1023 : decode cL_law 1023 = .ok (.ireturn, 1) := by decide +kernel
theorem dL_law_1024 : decode cL_law 1024 = .ok (.goto 460, 3) := by decide +kernel
theorem dL_law_1027 : decode cL_law 1027 = .ok (.aload_n 1, 1) := by decide +kernel
theorem dL_law_1028 : decode cL_law 1028 = .ok (.invokevirtual 137, 3) := by decide +kernel
theorem dL_law_1031 : decode cL_law 1031 = .ok (.dstore 5, 2) := by decide +kernel
theorem dL_law_1033 : decode cL_law 1033 = .ok (.aload_n 2, 1) := by decide +kernel
theorem dL_law_1034 : decode cL_law 1034 = .ok (.invokevirtual 141, 3) := by decide +kernel
theorem dL_law_1037 : decode cL_law 1037 = .ok (.dstore 7, 2) := by decide +kernel
theorem dL_law_1039 : decode cL_law 1039 = .ok (.dload 5, 2) := by decide +kernel
theorem dL_law_1041 : decode cL_law 1041 = .ok (.dload 7, 2) := by decide +kernel
theorem dL_law_1043 : decode cL_law 1043 = .ok (.dcmp .l, 1) := by decide +kernel
theorem dL_law_1044 : decode cL_law 1044 = .ok (.ifCond .eq 21, 3) := by decide +kernel
theorem dL_law_1047 : decode cL_law 1047 = .ok (.dload 5, 2) := by decide +kernel
theorem dL_law_1049 : decode cL_law 1049 = .ok (.dload 5, 2) := by decide +kernel
theorem dL_law_1051 : decode cL_law 1051 = .ok (.dcmp .l, 1) := by decide +kernel
theorem dL_law_1052 : decode cL_law 1052 = .ok (.ifCond .eq 11, 3) := by decide +kernel
theorem dL_law_1055 : decode cL_law 1055 = .ok (.dload 7, 2) := by decide +kernel
theorem dL_law_1057 : decode cL_law 1057 = .ok (.dload 7, 2) := by decide +kernel
theorem dL_law_1059 : decode cL_law 1059 = .ok (.dcmp .l, 1) := by decide +kernel
theorem dL_law_1060 : decode cL_law 1060 = .ok (.ifCond .ne 5, 3) := by decide +kernel
theorem dL_law_1063 : decode cL_law 1063 = .ok (.iconst 0, 1) := by decide +kernel
theorem dL_law_1064 : decode cL_law 1064 = .ok (.ireturn, 1) := by decide +kernel
theorem dL_law_1065 : decode cL_law 1065 = .ok (.goto 419, 3) := by decide +kernel
theorem dL_law_1068 : decode cL_law 1068 = .ok (.aload_n 1, 1) := by decide +kernel
theorem dL_law_1069 : decode cL_law 1069 = .ok (.aload_n 0, 1) := by decide +kernel
theorem dL_law_1070 : decode cL_law 1070 = .ok (.iload 4, 2) := by decide +kernel
theorem dL_law_1072 : decode cL_law 1072 = .ok (.iconst 1, 1) := by decide +kernel
theorem dL_law_1073 : decode cL_law 1073 = .ok (.iadd, 1) := by decide +kernel
theorem dL_law_1074 : decode cL_law 1074 = .ok (.iaload, 1) := by decide +kernel
theorem dL_law_1075 : decode cL_law 1075 = .ok (.aload_n 3, 1) := by decide +kernel
theorem dL_law_1076 : decode cL_law 1076 = .ok (.invokestatic 142, 3) := by decide +kernel
theorem dL_law_1079 : decode cL_law 1079 = .ok (.istore 5, 2) := by decide +kernel
theorem dL_law_1081 : decode cL_law 1081 = .ok (.aload_n 2, 1) := by decide +kernel
theorem dL_law_1082 : decode cL_law 1082 = .ok (.aload_n 0, 1) := by decide +kernel
theorem dL_law_1083 : decode cL_law 1083 = .ok (.iload 4, 2) := by decide +kernel
theorem dL_law_1085 : decode cL_law 1085 = .ok (.iconst 1, 1) := by decide +kernel
theorem dL_law_1086 : decode cL_law 1086 = .ok (.iadd, 1) := by decide +kernel
theorem dL_law_1087 : decode cL_law 1087 = .ok (.iaload, 1) := by decide +kernel
theorem dL_law_1088 : decode cL_law 1088 = .ok (.invokevirtual 144, 3) := by decide +kernel
theorem dL_law_1091 : decode cL_law 1091 = .ok (.istore 6, 2) := by decide +kernel
theorem dL_law_1093 : decode cL_law 1093 = .ok (.aload_n 2, 1) := by decide +kernel
theorem dL_law_1094 : decode cL_law 1094 = .ok (.invokevirtual 88, 3) := by decide +kernel
theorem dL_law_1097 : decode cL_law 1097 = .ok (.iload 5, 2) := by decide +kernel
theorem dL_law_1099 : decode cL_law 1099 = .ok (.if_icmp .eq 5, 3) := by decide +kernel
theorem dL_law_1102 : decode cL_law 1102 = .ok (.iconst 0, 1) := by decide +kernel
theorem dL_law_1103 : decode cL_law 1103 = .ok (.ireturn, 1) := by decide +kernel
theorem dL_law_1104 : decode cL_law 1104 = .ok (.iload 5, 2) := by decide +kernel
theorem dL_law_1106 : decode cL_law 1106 = .ok (.ifCond .ne 15, 3) := by decide +kernel
theorem dL_law_1109 : decode cL_law 1109 = .ok (.aload_n 3, 1) := by decide +kernel
theorem dL_law_1110 : decode cL_law 1110 = .ok (.iconst 0, 1) := by decide +kernel
theorem dL_law_1111 : decode cL_law 1111 = .ok (.laload, 1) := by decide +kernel
theorem dL_law_1112 : decode cL_law 1112 = .ok (.iload 6, 2) := by decide +kernel
theorem dL_law_1114 : decode cL_law 1114 = .ok (.i2l, 1) := by decide +kernel
theorem dL_law_1115 : decode cL_law 1115 = .ok (.lcmp, 1) := by decide +kernel
theorem dL_law_1116 : decode cL_law 1116 = .ok (.ifCond .eq 5, 3) := by decide +kernel
theorem dL_law_1119 : decode cL_law 1119 = .ok (.iconst 0, 1) := by decide +kernel
theorem dL_law_1120 : decode cL_law 1120 = .ok (.ireturn, 1) := by decide +kernel
theorem dL_law_1121 : decode cL_law 1121 = .ok (.goto 363, 3) := by decide +kernel
theorem dL_law_1124 : decode cL_law 1124 = .ok (.aload_n 1, 1) := by decide +kernel
theorem dL_law_1125 : decode cL_law 1125 = .ok (.aload_n 3, 1) := by decide +kernel
theorem dL_law_1126 : decode cL_law 1126 = .ok (.invokestatic 145, 3) := by decide +kernel
theorem dL_law_1129 : decode cL_law 1129 = .ok (.istore 5, 2) := by decide +kernel
theorem dL_law_1131 : decode cL_law 1131 = .ok (.aload_n 2, 1) := by decide +kernel
theorem dL_law_1132 : decode cL_law 1132 = .ok (.invokevirtual 148, 3) := by decide +kernel
theorem dL_law_1135 : decode cL_law 1135 = .ok (.istore 6, 2) := by decide +kernel
theorem dL_law_1137 : decode cL_law 1137 = .ok (.aload_n 2, 1) := by decide +kernel
theorem dL_law_1138 : decode cL_law 1138 = .ok (.invokevirtual 88, 3) := by decide +kernel
theorem dL_law_1141 : decode cL_law 1141 = .ok (.iload 5, 2) := by decide +kernel
theorem dL_law_1143 : decode cL_law 1143 = .ok (.if_icmp .eq 5, 3) := by decide +kernel
theorem dL_law_1146 : decode cL_law 1146 = .ok (.iconst 0, 1) := by decide +kernel
theorem dL_law_1147 : decode cL_law 1147 = .ok (.ireturn, 1) := by decide +kernel
theorem dL_law_1148 : decode cL_law 1148 = .ok (.iload 5, 2) := by decide +kernel
theorem dL_law_1150 : decode cL_law 1150 = .ok (.ifCond .ne 15, 3) := by decide +kernel
theorem dL_law_1153 : decode cL_law 1153 = .ok (.aload_n 3, 1) := by decide +kernel
theorem dL_law_1154 : decode cL_law 1154 = .ok (.iconst 0, 1) := by decide +kernel
theorem dL_law_1155 : decode cL_law 1155 = .ok (.laload, 1) := by decide +kernel
theorem dL_law_1156 : decode cL_law 1156 = .ok (.iload 6, 2) := by decide +kernel
theorem dL_law_1158 : decode cL_law 1158 = .ok (.i2l, 1) := by decide +kernel
theorem dL_law_1159 : decode cL_law 1159 = .ok (.lcmp, 1) := by decide +kernel
theorem dL_law_1160 : decode cL_law 1160 = .ok (.ifCond .eq 5, 3) := by decide +kernel
theorem dL_law_1163 : decode cL_law 1163 = .ok (.iconst 0, 1) := by decide +kernel
theorem dL_law_1164 : decode cL_law 1164 = .ok (.ireturn, 1) := by decide +kernel
theorem dL_law_1165 : decode cL_law 1165 = .ok (.goto 319, 3) := by decide +kernel
theorem dL_law_1168 : decode cL_law 1168 = .ok (.aload_n 1, 1) := by decide +kernel
theorem dL_law_1169 : decode cL_law 1169 = .ok (.aload_n 3, 1) := by decide +kernel
theorem dL_law_1170 : decode cL_law 1170 = .ok (.invokestatic 149, 3) := by decide +kernel
theorem dL_law_1173 : decode cL_law 1173 = .ok (.istore 5, 2) := by decide +kernel
theorem dL_law_1175 : decode cL_law 1175 = .ok (.aload_n 2, 1) := by decide +kernel
theorem dL_law_1176 : decode cL_law 1176 = .ok (.invokevirtual 151, 3) := by decide +kernel
theorem dL_law_1179 : decode cL_law 1179 = .ok (.istore 6, 2) := by decide +kernel
theorem dL_law_1181 : decode cL_law 1181 = .ok (.aload_n 2, 1) := by decide +kernel
theorem dL_law_1182 : decode cL_law 1182 = .ok (.invokevirtual 88, 3) := by decide +kernel
theorem dL_law_1185 : decode cL_law 1185 = .ok (.iload 5, 2) := by decide +kernel
theorem dL_law_1187 : decode cL_law 1187 = .ok (.if_icmp .eq 5, 3) := by decide +kernel
theorem dL_law_1190 : decode cL_law 1190 = .ok (.iconst 0, 1) := by decide +kernel
theorem dL_law_1191 : decode cL_law 1191 = .ok (.ireturn, 1) := by decide +kernel
theorem dL_law_1192 : decode cL_law 1192 = .ok (.iload 5, 2) := by decide +kernel
theorem dL_law_1194 : decode cL_law 1194 = .ok (.ifCond .ne 15, 3) := by decide +kernel
theorem dL_law_1197 : decode cL_law 1197 = .ok (.aload_n 3, 1) := by decide +kernel
theorem dL_law_1198 : decode cL_law 1198 = .ok (.iconst 0, 1) := by decide +kernel
theorem dL_law_1199 : decode cL_law 1199 = .ok (.laload, 1) := by decide +kernel
theorem dL_law_1200 : decode cL_law 1200 = .ok (.iload 6, 2) := by decide +kernel
theorem dL_law_1202 : decode cL_law 1202 = .ok (.i2l, 1) := by decide +kernel
theorem dL_law_1203 : decode cL_law 1203 = .ok (.lcmp, 1) := by decide +kernel
theorem dL_law_1204 : decode cL_law 1204 = .ok (.ifCond .eq 5, 3) := by decide +kernel
theorem dL_law_1207 : decode cL_law 1207 = .ok (.iconst 0, 1) := by decide +kernel
theorem dL_law_1208 : decode cL_law 1208 = .ok (.ireturn, 1) := by decide +kernel
theorem dL_law_1209 : decode cL_law 1209 = .ok (.goto 275, 3) := by decide +kernel
theorem dL_law_1212 : decode cL_law 1212 = .ok (.aload_n 1, 1) := by decide +kernel
theorem dL_law_1213 : decode cL_law 1213 = .ok (.aload_n 3, 1) := by decide +kernel
theorem dL_law_1214 : decode cL_law 1214 = .ok (.invokestatic 152, 3) := by decide +kernel
theorem dL_law_1217 : decode cL_law 1217 = .ok (.istore 5, 2) := by decide +kernel
theorem dL_law_1219 : decode cL_law 1219 = .ok (.aload_n 2, 1) := by decide +kernel
theorem dL_law_1220 : decode cL_law 1220 = .ok (.invokevirtual 154, 3) := by decide +kernel
theorem dL_law_1223 : decode cL_law 1223 = .ok (.istore 6, 2) := by decide +kernel
theorem dL_law_1225 : decode cL_law 1225 = .ok (.aload_n 2, 1) := by decide +kernel
theorem dL_law_1226 : decode cL_law 1226 = .ok (.invokevirtual 88, 3) := by decide +kernel
theorem dL_law_1229 : decode cL_law 1229 = .ok (.iload 5, 2) := by decide +kernel
theorem dL_law_1231 : decode cL_law 1231 = .ok (.if_icmp .eq 5, 3) := by decide +kernel
theorem dL_law_1234 : decode cL_law 1234 = .ok (.iconst 0, 1) := by decide +kernel
theorem dL_law_1235 : decode cL_law 1235 = .ok (.ireturn, 1) := by decide +kernel
theorem dL_law_1236 : decode cL_law 1236 = .ok (.iload 5, 2) := by decide +kernel
theorem dL_law_1238 : decode cL_law 1238 = .ok (.ifCond .ne 15, 3) := by decide +kernel
theorem dL_law_1241 : decode cL_law 1241 = .ok (.aload_n 3, 1) := by decide +kernel
theorem dL_law_1242 : decode cL_law 1242 = .ok (.iconst 0, 1) := by decide +kernel
theorem dL_law_1243 : decode cL_law 1243 = .ok (.laload, 1) := by decide +kernel
theorem dL_law_1244 : decode cL_law 1244 = .ok (.iload 6, 2) := by decide +kernel
theorem dL_law_1246 : decode cL_law 1246 = .ok (.i2l, 1) := by decide +kernel
theorem dL_law_1247 : decode cL_law 1247 = .ok (.lcmp, 1) := by decide +kernel
theorem dL_law_1248 : decode cL_law 1248 = .ok (.ifCond .eq 5, 3) := by decide +kernel
theorem dL_law_1251 : decode cL_law 1251 = .ok (.iconst 0, 1) := by decide +kernel
theorem dL_law_1252 : decode cL_law 1252 = .ok (.ireturn, 1) := by decide +kernel
theorem dL_law_1253 : decode cL_law 1253 = .ok (.goto 231, 3) := by decide +kernel
theorem dL_law_1256 : decode cL_law 1256 = .ok (.aload_n 1, 1) := by decide +kernel
theorem dL_law_1257 : decode cL_law 1257 = .ok (.aload_n 0, 1) := by decide +kernel
theorem dL_law_1258 : decode cL_law 1258 = .ok (.iload 4, 2) := by decide +kernel
theorem dL_law_1260 : decode cL_law 1260 = .ok (.iconst 1, 1) := by decide +kernel
theorem dL_law_1261 : decode cL_law 1261 = .ok (.iadd, 1) := by decide +kernel
theorem dL_law_1262 : decode cL_law 1262 = .ok (.iaload, 1) := by decide +kernel
theorem dL_law_1263 : decode cL_law 1263 = .ok (.aload_n 3, 1) := by decide +kernel
theorem dL_law_1264 : decode cL_law 1264 = .ok (.invokestatic 155, 3) := by decide +kernel
theorem dL_law_1267 : decode cL_law 1267 = .ok (.istore 5, 2) := by decide +kernel
theorem dL_law_1269 : decode cL_law 1269 = .ok (.aload_n 2, 1) := by decide +kernel
theorem dL_law_1270 : decode cL_law 1270 = .ok (.aload_n 0, 1) := by decide +kernel
theorem dL_law_1271 : decode cL_law 1271 = .ok (.iload 4, 2) := by decide +kernel
theorem dL_law_1273 : decode cL_law 1273 = .ok (.iconst 1, 1) := by decide +kernel
theorem dL_law_1274 : decode cL_law 1274 = .ok (.iadd, 1) := by decide +kernel
theorem dL_law_1275 : decode cL_law 1275 = .ok (.iaload, 1) := by decide +kernel
theorem dL_law_1276 : decode cL_law 1276 = .ok (.invokevirtual 157, 3) := by decide +kernel
theorem dL_law_1279 : decode cL_law 1279 = .ok (.istore 6, 2) := by decide +kernel
theorem dL_law_1281 : decode cL_law 1281 = .ok (.aload_n 2, 1) := by decide +kernel
theorem dL_law_1282 : decode cL_law 1282 = .ok (.invokevirtual 88, 3) := by decide +kernel
theorem dL_law_1285 : decode cL_law 1285 = .ok (.iload 5, 2) := by decide +kernel
theorem dL_law_1287 : decode cL_law 1287 = .ok (.if_icmp .eq 5, 3) := by decide +kernel
theorem dL_law_1290 : decode cL_law 1290 = .ok (.iconst 0, 1) := by decide +kernel
theorem dL_law_1291 : decode cL_law 1291 = .ok (.ireturn, 1) := by decide +kernel
theorem dL_law_1292 : decode cL_law 1292 = .ok (.iload 5, 2) := by decide +kernel
theorem dL_law_1294 : decode cL_law 1294 = .ok (.ifCond .ne 15, 3) := by decide +kernel
theorem dL_law_1297 : decode cL_law 1297 = .ok (.aload_n 3, 1) := by decide +kernel
theorem dL_law_1298 : decode cL_law 1298 = .ok (.iconst 0, 1) := by decide +kernel
theorem dL_law_1299 : decode cL_law 1299 = .ok (.laload, 1) := by decide +kernel
theorem dL_law_1300 : decode cL_law 1300 = .ok (.iload 6, 2) := by decide +kernel
theorem dL_law_1302 : decode cL_law 1302 = .ok (.i2l, 1) := by decide +kernel
theorem dL_law_1303 : decode cL_law 1303 = .ok (.lcmp, 1) := by decide +kernel
theorem dL_law_1304 : decode cL_law 1304 = .ok (.ifCond .eq 5, 3) := by decide +kernel
theorem dL_law_1307 : decode cL_law 1307 = .ok (.iconst 0, 1) := by decide +kernel
theorem dL_law_1308 : decode cL_law 1308 = .ok (.ireturn, 1) := by decide +kernel
theorem dL_law_1309 : decode cL_law 1309 = .ok (.goto 175, 3) := by decide +kernel
theorem dL_law_1312 : decode cL_law 1312 = .ok (.aload_n 1, 1) := by decide +kernel
theorem dL_law_1313 : decode cL_law 1313 = .ok (.aload_n 0, 1) := by decide +kernel
theorem dL_law_1314 : decode cL_law 1314 = .ok (.iload 4, 2) := by decide +kernel
theorem dL_law_1316 : decode cL_law 1316 = .ok (.iconst 1, 1) := by decide +kernel
theorem dL_law_1317 : decode cL_law 1317 = .ok (.iadd, 1) := by decide +kernel
theorem dL_law_1318 : decode cL_law 1318 = .ok (.iaload, 1) := by decide +kernel
theorem dL_law_1319 : decode cL_law 1319 = .ok (.aload_n 0, 1) := by decide +kernel
theorem dL_law_1320 : decode cL_law 1320 = .ok (.iload 4, 2) := by decide +kernel
theorem dL_law_1322 : decode cL_law 1322 = .ok (.iconst 2, 1) := by decide +kernel
theorem dL_law_1323 : decode cL_law 1323 = .ok (.iadd, 1) := by decide +kernel
theorem dL_law_1324 : decode cL_law 1324 = .ok (.iaload, 1) := by decide +kernel
theorem dL_law_1325 : decode cL_law 1325 = .ok (.aload_n 3, 1) := by decide +kernel
theorem dL_law_1326 : decode cL_law 1326 = .ok (.invokestatic 158, 3) := by decide +kernel
theorem dL_law_1329 : decode cL_law 1329 = .ok (.istore 5, 2) := by decide +kernel
theorem dL_law_1331 : decode cL_law 1331 = .ok (.aload_n 2, 1) := by decide +kernel
theorem dL_law_1332 : decode cL_law 1332 = .ok (.aload_n 0, 1) := by decide +kernel
theorem dL_law_1333 : decode cL_law 1333 = .ok (.iload 4, 2) := by decide +kernel
theorem dL_law_1335 : decode cL_law 1335 = .ok (.iconst 1, 1) := by decide +kernel
theorem dL_law_1336 : decode cL_law 1336 = .ok (.iadd, 1) := by decide +kernel
theorem dL_law_1337 : decode cL_law 1337 = .ok (.iaload, 1) := by decide +kernel
theorem dL_law_1338 : decode cL_law 1338 = .ok (.aload_n 0, 1) := by decide +kernel
theorem dL_law_1339 : decode cL_law 1339 = .ok (.iload 4, 2) := by decide +kernel
theorem dL_law_1341 : decode cL_law 1341 = .ok (.iconst 2, 1) := by decide +kernel
theorem dL_law_1342 : decode cL_law 1342 = .ok (.iadd, 1) := by decide +kernel
theorem dL_law_1343 : decode cL_law 1343 = .ok (.iaload, 1) := by decide +kernel
theorem dL_law_1344 : decode cL_law 1344 = .ok (.invokevirtual 160, 3) := by decide +kernel
theorem dL_law_1347 : decode cL_law 1347 = .ok (.istore 6, 2) := by decide +kernel
theorem dL_law_1349 : decode cL_law 1349 = .ok (.aload_n 2, 1) := by decide +kernel
theorem dL_law_1350 : decode cL_law 1350 = .ok (.invokevirtual 88, 3) := by decide +kernel
theorem dL_law_1353 : decode cL_law 1353 = .ok (.iload 5, 2) := by decide +kernel
theorem dL_law_1355 : decode cL_law 1355 = .ok (.if_icmp .eq 5, 3) := by decide +kernel
theorem dL_law_1358 : decode cL_law 1358 = .ok (.iconst 0, 1) := by decide +kernel
theorem dL_law_1359 : decode cL_law 1359 = .ok (.ireturn, 1) := by decide +kernel
theorem dL_law_1360 : decode cL_law 1360 = .ok (.iload 5, 2) := by decide +kernel
theorem dL_law_1362 : decode cL_law 1362 = .ok (.ifCond .ne 15, 3) := by decide +kernel
theorem dL_law_1365 : decode cL_law 1365 = .ok (.aload_n 3, 1) := by decide +kernel
theorem dL_law_1366 : decode cL_law 1366 = .ok (.iconst 0, 1) := by decide +kernel
theorem dL_law_1367 : decode cL_law 1367 = .ok (.laload, 1) := by decide +kernel
theorem dL_law_1368 : decode cL_law 1368 = .ok (.iload 6, 2) := by decide +kernel
theorem dL_law_1370 : decode cL_law 1370 = .ok (.i2l, 1) := by decide +kernel
theorem dL_law_1371 : decode cL_law 1371 = .ok (.lcmp, 1) := by decide +kernel
theorem dL_law_1372 : decode cL_law 1372 = .ok (.ifCond .eq 5, 3) := by decide +kernel
theorem dL_law_1375 : decode cL_law 1375 = .ok (.iconst 0, 1) := by decide +kernel
theorem dL_law_1376 : decode cL_law 1376 = .ok (.ireturn, 1) := by decide +kernel
theorem dL_law_1377 : decode cL_law 1377 = .ok (.goto 107, 3) := by decide +kernel
theorem dL_law_1380 : decode cL_law 1380 = .ok (.aload_n 1, 1) := by decide +kernel
theorem dL_law_1381 : decode cL_law 1381 = .ok (.aload_n 0, 1) := by decide +kernel
theorem dL_law_1382 : decode cL_law 1382 = .ok (.iload 4, 2) := by decide +kernel
theorem dL_law_1384 : decode cL_law 1384 = .ok (.iconst 1, 1) := by decide +kernel
theorem dL_law_1385 : decode cL_law 1385 = .ok (.iadd, 1) := by decide +kernel
theorem dL_law_1386 : decode cL_law 1386 = .ok (.iaload, 1) := by decide +kernel
theorem dL_law_1387 : decode cL_law 1387 = .ok (.ifCond .eq 7, 3) := by decide +kernel
theorem dL_law_1390 : decode cL_law 1390 = .ok (.iconst 1, 1) := by decide +kernel
theorem dL_law_1391 : decode cL_law 1391 = .ok (.goto 4, 3) := by decide +kernel
theorem dL_law_1394 : decode cL_law 1394 = .ok (.iconst 0, 1) := by decide +kernel
theorem dL_law_1395 : decode cL_law 1395 = .ok (.invokevirtual 161, 3) := by decide +kernel
theorem dL_law_1398 : decode cL_law 1398 = .ok (.aload_n 2, 1) := by decide +kernel
theorem dL_law_1399 : decode cL_law 1399 = .ok (.aload_n 0, 1) := by decide +kernel
theorem dL_law_1400 : decode cL_law 1400 = .ok (.iload 4, 2) := by decide +kernel
theorem dL_law_1402 : decode cL_law 1402 = .ok (.iconst 1, 1) := by decide +kernel
theorem dL_law_1403 : decode cL_law 1403 = .ok (.iadd, 1) := by decide +kernel
theorem dL_law_1404 : decode cL_law 1404 = .ok (.iaload, 1) := by decide +kernel
theorem dL_law_1405 : decode cL_law 1405 = .ok (.ifCond .eq 7, 3) := by decide +kernel
theorem dL_law_1408 : decode cL_law 1408 = .ok (.iconst 1, 1) := by decide +kernel
theorem dL_law_1409 : decode cL_law 1409 = .ok (.goto 4, 3) := by decide +kernel
theorem dL_law_1412 : decode cL_law 1412 = .ok (.iconst 0, 1) := by decide +kernel
theorem dL_law_1413 : decode cL_law 1413 = .ok (.invokevirtual 165, 3) := by decide +kernel
theorem dL_law_1416 : decode cL_law 1416 = .ok (.if_icmp .eq 68, 3) := by decide +kernel
theorem dL_law_1419 : decode cL_law 1419 = .ok (.iconst 0, 1) := by decide +kernel
theorem dL_law_1420 : decode cL_law 1420 = .ok (.ireturn, 1) := by decide +kernel
theorem dL_law_1421 : decode cL_law 1421 = .ok (.aload_n 1, 1) := by decide +kernel
theorem dL_law_1422 : decode cL_law 1422 = .ok (.invokevirtual 166, 3) := by decide +kernel
theorem dL_law_1425 : decode cL_law 1425 = .ok (.aload_n 2, 1) := by decide +kernel
theorem dL_law_1426 : decode cL_law 1426 = .ok (.invokevirtual 169, 3) := by decide +kernel
theorem dL_law_1429 : decode cL_law 1429 = .ok (.if_icmp .eq 55, 3) := by decide +kernel
theorem dL_law_1432 : decode cL_law 1432 = .ok (.iconst 0, 1) := by decide +kernel
theorem dL_law_1433 : decode cL_law 1433 = .ok (.ireturn, 1) := by decide +kernel
theorem dL_law_1434 : decode cL_law 1434 = .ok (.aload_n 1, 1) := by decide +kernel
theorem dL_law_1435 : decode cL_law 1435 = .ok (.aload_n 0, 1) := by decide +kernel
theorem dL_law_1436 : decode cL_law 1436 = .ok (.iload 4, 2) := by decide +kernel
theorem dL_law_1438 : decode cL_law 1438 = .ok (.iconst 1, 1) := by decide +kernel
theorem dL_law_1439 : decode cL_law 1439 = .ok (.iadd, 1) := by decide +kernel
theorem dL_law_1440 : decode cL_law 1440 = .ok (.iaload, 1) := by decide +kernel
theorem dL_law_1441 : decode cL_law 1441 = .ok (.invokevirtual 170, 3) := by decide +kernel
theorem dL_law_1444 : decode cL_law 1444 = .ok (.aload_n 2, 1) := by decide +kernel
theorem dL_law_1445 : decode cL_law 1445 = .ok (.aload_n 0, 1) := by decide +kernel
theorem dL_law_1446 : decode cL_law 1446 = .ok (.iload 4, 2) := by decide +kernel
theorem dL_law_1448 : decode cL_law 1448 = .ok (.iconst 1, 1) := by decide +kernel
theorem dL_law_1449 : decode cL_law 1449 = .ok (.iadd, 1) := by decide +kernel
theorem dL_law_1450 : decode cL_law 1450 = .ok (.iaload, 1) := by decide +kernel
theorem dL_law_1451 : decode cL_law 1451 = .ok (.invokevirtual 173, 3) := by decide +kernel
theorem dL_law_1454 : decode cL_law 1454 = .ok (.if_icmp .eq 30, 3) := by decide +kernel
theorem dL_law_1457 : decode cL_law 1457 = .ok (.iconst 0, 1) := by decide +kernel
theorem dL_law_1458 : decode cL_law 1458 = .ok (.ireturn, 1) := by decide +kernel
theorem dL_law_1459 : decode cL_law 1459 = .ok (.aload_n 1, 1) := by decide +kernel
theorem dL_law_1460 : decode cL_law 1460 = .ok (.aload_n 0, 1) := by decide +kernel
theorem dL_law_1461 : decode cL_law 1461 = .ok (.iload 4, 2) := by decide +kernel
theorem dL_law_1463 : decode cL_law 1463 = .ok (.iconst 1, 1) := by decide +kernel
theorem dL_law_1464 : decode cL_law 1464 = .ok (.iadd, 1) := by decide +kernel
theorem dL_law_1465 : decode cL_law 1465 = .ok (.iaload, 1) := by decide +kernel
theorem dL_law_1466 : decode cL_law 1466 = .ok (.invokevirtual 174, 3) := by decide +kernel
theorem dL_law_1469 : decode cL_law 1469 = .ok (.aload_n 2, 1) := by decide +kernel
theorem dL_law_1470 : decode cL_law 1470 = .ok (.aload_n 0, 1) := by decide +kernel
theorem dL_law_1471 : decode cL_law 1471 = .ok (.iload 4, 2) := by decide +kernel
theorem dL_law_1473 : decode cL_law 1473 = .ok (.iconst 1, 1) := by decide +kernel
theorem dL_law_1474 : decode cL_law 1474 = .ok (.iadd, 1) := by decide +kernel
theorem dL_law_1475 : decode cL_law 1475 = .ok (.iaload, 1) := by decide +kernel
theorem dL_law_1476 : decode cL_law 1476 = .ok (.invokevirtual 177, 3) := by decide +kernel
theorem dL_law_1479 : decode cL_law 1479 = .ok (.if_icmp .eq 5, 3) := by decide +kernel
theorem dL_law_1482 : decode cL_law 1482 = .ok (.iconst 0, 1) := by decide +kernel
theorem dL_law_1483 : decode cL_law 1483 = .ok (.ireturn, 1) := by decide +kernel
theorem dL_law_1484 : decode cL_law 1484 = .ok (.iinc 4 6, 3) := by decide +kernel
theorem dL_law_1487 : decode cL_law 1487 = .ok (.goto (-1464), 3) := by decide +kernel
theorem dL_law_1490 : decode cL_law 1490 = .ok (.iconst 1, 1) := by decide +kernel
theorem dL_law_1491 : decode cL_law 1491 = .ok (.ireturn, 1) := by decide +kernel
