theorem d_C_init_0 : decode c_C_init 0 = .ok (.aload_n 0, 1) := by decide +kernel
theorem d_C_init_1 : decode c_C_init 1 = .ok (.invokespecial 3, 3) := by decide +kernel
theorem d_C_init_4 : decode c_C_init 4 = .ok (.aload_n 0, 1) := by decide +kernel
theorem d_C_init_5 : decode c_C_init 5 = .ok (.new 9, 3) := by decide +kernel
theorem d_C_init_8 : decode c_C_init 8 = .ok (.dup, 1) := by decide +kernel
theorem d_C_init_9 : decode c_C_init 9 = .ok (.invokespecial 11, 3) := by decide +kernel
theorem d_C_init_12 : decode c_C_init 12 = .ok (.putfield 12, 3) := by decide +kernel
theorem d_C_init_15 : decode c_C_init 15 = .ok (.aload_n 0, 1) := by decide +kernel
theorem d_C_init_16 : decode c_C_init 16 = .ok (.new 18, 3) := by decide +kernel
theorem d_C_init_19 : decode c_C_init 19 = .ok (.dup, 1) := by decide +kernel
theorem d_C_init_20 : decode c_C_init 20 = .ok (.invokespecial 20, 3) := by decide +kernel
theorem d_C_init_23 : decode c_C_init 23 = .ok (.putfield 21, 3) := by decide +kernel
theorem d_C_init_26 : decode c_C_init 26 = .ok (.aload_n 0, 1) := by decide +kernel
theorem d_C_init_27 : decode c_C_init 27 = .ok (.bipush 8, 2) := by decide +kernel
theorem d_C_init_29 : decode c_C_init 29 = .ok (.newarray .int, 2) := by decide +kernel
theorem d_C_init_31 : decode c_C_init 31 = .ok (.putfield 25, 3) := by decide +kernel
theorem d_C_init_34 : decode c_C_init 34 = .ok (.aload_n 0, 1) := by decide +kernel
theorem d_C_init_35 : decode c_C_init 35 = .ok (.iconst 0, 1) := by decide +kernel
theorem d_C_init_36 : decode c_C_init 36 = .ok (.putfield 29, 3) := by decide +kernel
theorem d_C_init_39 : decode c_C_init 39 = .ok (.aload_n 0, 1) := by decide +kernel
theorem d_C_init_40 : decode c_C_init 40 = .ok (.iconst 0, 1) := by decide +kernel
theorem d_C_init_41 : decode c_C_init 41 = .ok (.putfield 33, 3) := by decide +kernel
theorem d_C_init_44 : decode c_C_init 44 = .ok (.aload_n 0, 1) := by decide +kernel
theorem d_C_init_45 : decode c_C_init 45 = .ok (.iconst 0, 1) := by decide +kernel
theorem d_C_init_46 : decode c_C_init 46 = .ok (.putfield 36, 3) := by decide +kernel
theorem d_C_init_49 : decode c_C_init 49 = .ok (.aload_n 0, 1) := by decide +kernel
theorem d_C_init_50 : decode c_C_init 50 = .ok (.iconst 1, 1) := by decide +kernel
theorem d_C_init_51 : decode c_C_init 51 = .ok (.putfield 39, 3) := by decide +kernel
theorem d_C_init_54 : decode c_C_init 54 = .ok (.aload_n 0, 1) := by decide +kernel
theorem d_C_init_55 : decode c_C_init 55 = .ok (.iload_n 1, 1) := by decide +kernel
theorem d_C_init_56 : decode c_C_init 56 = .ok (.putfield 43, 3) := by decide +kernel
theorem d_C_init_59 : decode c_C_init 59 = .ok (.return_, 1) := by decide +kernel
theorem d_C_known_0 : decode c_C_known 0 = .ok (.aload_n 0, 1) := by decide +kernel
theorem d_C_known_1 : decode c_C_known 1 = .ok (.getfield 36, 3) := by decide +kernel
theorem d_C_known_4 : decode c_C_known 4 = .ok (.ireturn, 1) := by decide +kernel
theorem d_C_isOn_0 : decode c_C_isOn 0 = .ok (.aload_n 0, 1) := by decide +kernel
theorem d_C_isOn_1 : decode c_C_isOn 1 = .ok (.getfield 39, 3) := by decide +kernel
theorem d_C_isOn_4 : decode c_C_isOn 4 = .ok (.ireturn, 1) := by decide +kernel
theorem d_C_turn_0 : decode c_C_turn 0 = .ok (.aload_n 0, 1) := by decide +kernel
theorem d_C_turn_1 : decode c_C_turn 1 = .ok (.iload_n 1, 1) := by decide +kernel
theorem d_C_turn_2 : decode c_C_turn 2 = .ok (.putfield 39, 3) := by decide +kernel
theorem d_C_turn_5 : decode c_C_turn 5 = .ok (.return_, 1) := by decide +kernel
theorem d_C_pendingCount_0 : decode c_C_pendingCount 0 = .ok (.aload_n 0, 1) := by decide +kernel
theorem d_C_pendingCount_1 : decode c_C_pendingCount 1 = .ok (.getfield 29, 3) := by decide +kernel
theorem d_C_pendingCount_4 : decode c_C_pendingCount 4 = .ok (.ireturn, 1) := by decide +kernel
theorem d_C_firstPending_0 : decode c_C_firstPending 0 = .ok (.aload_n 0, 1) := by decide +kernel
theorem d_C_firstPending_1 : decode c_C_firstPending 1 = .ok (.getfield 25, 3) := by decide +kernel
theorem d_C_firstPending_4 : decode c_C_firstPending 4 = .ok (.iconst 0, 1) := by decide +kernel
theorem d_C_firstPending_5 : decode c_C_firstPending 5 = .ok (.iaload, 1) := by decide +kernel
theorem d_C_firstPending_6 : decode c_C_firstPending 6 = .ok (.ireturn, 1) := by decide +kernel
theorem d_C_firstNumber_0 : decode c_C_firstNumber 0 = .ok (.aload_n 0, 1) := by decide +kernel
theorem d_C_firstNumber_1 : decode c_C_firstNumber 1 = .ok (.getfield 33, 3) := by decide +kernel
theorem d_C_firstNumber_4 : decode c_C_firstNumber 4 = .ok (.ireturn, 1) := by decide +kernel
theorem d_C_hasMostPending_0 : decode c_C_hasMostPending 0 = .ok (.aload_n 0, 1) := by decide +kernel
theorem d_C_hasMostPending_1 : decode c_C_hasMostPending 1 = .ok (.getfield 29, 3) := by decide +kernel
theorem d_C_hasMostPending_4 : decode c_C_hasMostPending 4 = .ok (.bipush 8, 2) := by decide +kernel
theorem d_C_hasMostPending_6 : decode c_C_hasMostPending 6 = .ok (.if_icmp .lt 7, 3) := by decide +kernel
theorem d_C_hasMostPending_9 : decode c_C_hasMostPending 9 = .ok (.iconst 1, 1) := by decide +kernel
theorem d_C_hasMostPending_10 : decode c_C_hasMostPending 10 = .ok (.goto 4, 3) := by decide +kernel
theorem d_C_hasMostPending_13 : decode c_C_hasMostPending 13 = .ok (.iconst 0, 1) := by decide +kernel
theorem d_C_hasMostPending_14 : decode c_C_hasMostPending 14 = .ok (.ireturn, 1) := by decide +kernel
theorem d_C_isFull_0 : decode c_C_isFull 0 = .ok (.aload_n 0, 1) := by decide +kernel
theorem d_C_isFull_1 : decode c_C_isFull 1 = .ok (.invokevirtual 46, 3) := by decide +kernel
theorem d_C_isFull_4 : decode c_C_isFull 4 = .ok (.ifCond .ne 15, 3) := by decide +kernel
theorem d_C_isFull_7 : decode c_C_isFull 7 = .ok (.aload_n 0, 1) := by decide +kernel
theorem d_C_isFull_8 : decode c_C_isFull 8 = .ok (.getfield 12, 3) := by decide +kernel
theorem d_C_isFull_11 : decode c_C_isFull 11 = .ok (.invokevirtual 50, 3) := by decide +kernel
theorem d_C_isFull_14 : decode c_C_isFull 14 = .ok (.bipush 60, 2) := by decide +kernel
theorem d_C_isFull_16 : decode c_C_isFull 16 = .ok (.if_icmp .lt 7, 3) := by decide +kernel
theorem d_C_isFull_19 : decode c_C_isFull 19 = .ok (.iconst 1, 1) := by decide +kernel
theorem d_C_isFull_20 : decode c_C_isFull 20 = .ok (.goto 4, 3) := by decide +kernel
theorem d_C_isFull_23 : decode c_C_isFull 23 = .ok (.iconst 0, 1) := by decide +kernel
theorem d_C_isFull_24 : decode c_C_isFull 24 = .ok (.ireturn, 1) := by decide +kernel
theorem d_C_make_0 : decode c_C_make 0 = .ok (.aload_n 0, 1) := by decide +kernel
theorem d_C_make_1 : decode c_C_make 1 = .ok (.invokevirtual 46, 3) := by decide +kernel
theorem d_C_make_4 : decode c_C_make 4 = .ok (.ifCond .eq 4, 3) := by decide +kernel
theorem d_C_make_7 : decode c_C_make 7 = .ok (.return_, 1) := by decide +kernel
theorem d_C_make_8 : decode c_C_make 8 = .ok (.aload_n 0, 1) := by decide +kernel
theorem d_C_make_9 : decode c_C_make 9 = .ok (.getfield 21, 3) := by decide +kernel
theorem d_C_make_12 : decode c_C_make 12 = .ok (.iload_n 1, 1) := by decide +kernel
theorem d_C_make_13 : decode c_C_make 13 = .ok (.aload_n 0, 1) := by decide +kernel
theorem d_C_make_14 : decode c_C_make 14 = .ok (.getfield 12, 3) := by decide +kernel
theorem d_C_make_17 : decode c_C_make 17 = .ok (.iload_n 1, 1) := by decide +kernel
theorem d_C_make_18 : decode c_C_make 18 = .ok (.invokevirtual 54, 3) := by decide +kernel
theorem d_C_make_21 : decode c_C_make 21 = .ok (.iload_n 2, 1) := by decide +kernel
theorem d_C_make_22 : decode c_C_make 22 = .ok (.ifCond .ne 7, 3) := by decide +kernel
theorem d_C_make_25 : decode c_C_make 25 = .ok (.iconst 1, 1) := by decide +kernel
theorem d_C_make_26 : decode c_C_make 26 = .ok (.goto 4, 3) := by decide +kernel
theorem d_C_make_29 : decode c_C_make 29 = .ok (.iconst 0, 1) := by decide +kernel
theorem d_C_make_30 : decode c_C_make 30 = .ok (.invokevirtual 58, 3) := by decide +kernel
theorem d_C_make_33 : decode c_C_make 33 = .ok (.aload_n 0, 1) := by decide +kernel
theorem d_C_make_34 : decode c_C_make 34 = .ok (.getfield 25, 3) := by decide +kernel
theorem d_C_make_37 : decode c_C_make 37 = .ok (.aload_n 0, 1) := by decide +kernel
theorem d_C_make_38 : decode c_C_make 38 = .ok (.getfield 29, 3) := by decide +kernel
theorem d_C_make_41 : decode c_C_make 41 = .ok (.iload_n 1, 1) := by decide +kernel
theorem d_C_make_42 : decode c_C_make 42 = .ok (.iastore, 1) := by decide +kernel
theorem d_C_make_43 : decode c_C_make 43 = .ok (.aload_n 0, 1) := by decide +kernel
theorem d_C_make_44 : decode c_C_make 44 = .ok (.dup, 1) := by decide +kernel
theorem d_C_make_45 : decode c_C_make 45 = .ok (.getfield 29, 3) := by decide +kernel
theorem d_C_make_48 : decode c_C_make 48 = .ok (.iconst 1, 1) := by decide +kernel
theorem d_C_make_49 : decode c_C_make 49 = .ok (.iadd, 1) := by decide +kernel
theorem d_C_make_50 : decode c_C_make 50 = .ok (.putfield 29, 3) := by decide +kernel
theorem d_C_make_53 : decode c_C_make 53 = .ok (.return_, 1) := by decide +kernel
theorem d_C_getOwnBack_0 : decode c_C_getOwnBack 0 = .ok (.aload_n 0, 1) := by decide +kernel
theorem d_C_getOwnBack_1 : decode c_C_getOwnBack 1 = .ok (.dup, 1) := by decide +kernel
theorem d_C_getOwnBack_2 : decode c_C_getOwnBack 2 = .ok (.getfield 36, 3) := by decide +kernel
theorem d_C_getOwnBack_5 : decode c_C_getOwnBack 5 = .ok (.iconst 1, 1) := by decide +kernel
theorem d_C_getOwnBack_6 : decode c_C_getOwnBack 6 = .ok (.iadd, 1) := by decide +kernel
theorem d_C_getOwnBack_7 : decode c_C_getOwnBack 7 = .ok (.putfield 36, 3) := by decide +kernel
theorem d_C_getOwnBack_10 : decode c_C_getOwnBack 10 = .ok (.aload_n 0, 1) := by decide +kernel
theorem d_C_getOwnBack_11 : decode c_C_getOwnBack 11 = .ok (.getfield 29, 3) := by decide +kernel
theorem d_C_getOwnBack_14 : decode c_C_getOwnBack 14 = .ok (.ifCond .ne 4, 3) := by decide +kernel
theorem d_C_getOwnBack_17 : decode c_C_getOwnBack 17 = .ok (.return_, 1) := by decide +kernel
theorem d_C_getOwnBack_18 : decode c_C_getOwnBack 18 = .ok (.aload_n 0, 1) := by decide +kernel
theorem d_C_getOwnBack_19 : decode c_C_getOwnBack 19 = .ok (.getfield 25, 3) := by decide +kernel
theorem d_C_getOwnBack_22 : decode c_C_getOwnBack 22 = .ok (.iconst 1, 1) := by decide +kernel
theorem d_C_getOwnBack_23 : decode c_C_getOwnBack 23 = .ok (.aload_n 0, 1) := by decide +kernel
theorem d_C_getOwnBack_24 : decode c_C_getOwnBack 24 = .ok (.getfield 25, 3) := by decide +kernel
theorem d_C_getOwnBack_27 : decode c_C_getOwnBack 27 = .ok (.iconst 0, 1) := by decide +kernel
theorem d_C_getOwnBack_28 : decode c_C_getOwnBack 28 = .ok (.aload_n 0, 1) := by decide +kernel
theorem d_C_getOwnBack_29 : decode c_C_getOwnBack 29 = .ok (.getfield 29, 3) := by decide +kernel
theorem d_C_getOwnBack_32 : decode c_C_getOwnBack 32 = .ok (.iconst 1, 1) := by decide +kernel
theorem d_C_getOwnBack_33 : decode c_C_getOwnBack 33 = .ok (.isub, 1) := by decide +kernel
theorem d_C_getOwnBack_34 : decode c_C_getOwnBack 34 = .ok (.invokestatic 62, 3) := by decide +kernel
theorem d_C_getOwnBack_37 : decode c_C_getOwnBack 37 = .ok (.aload_n 0, 1) := by decide +kernel
theorem d_C_getOwnBack_38 : decode c_C_getOwnBack 38 = .ok (.dup, 1) := by decide +kernel
theorem d_C_getOwnBack_39 : decode c_C_getOwnBack 39 = .ok (.getfield 29, 3) := by decide +kernel
theorem d_C_getOwnBack_42 : decode c_C_getOwnBack 42 = .ok (.iconst 1, 1) := by decide +kernel
theorem d_C_getOwnBack_43 : decode c_C_getOwnBack 43 = .ok (.isub, 1) := by decide +kernel
theorem d_C_getOwnBack_44 : decode c_C_getOwnBack 44 = .ok (.putfield 29, 3) := by decide +kernel
theorem d_C_getOwnBack_47 : decode c_C_getOwnBack 47 = .ok (.aload_n 0, 1) := by decide +kernel
theorem d_C_getOwnBack_48 : decode c_C_getOwnBack 48 = .ok (.dup, 1) := by decide +kernel
theorem d_C_getOwnBack_49 : decode c_C_getOwnBack 49 = .ok (.getfield 33, 3) := by decide +kernel
theorem d_C_getOwnBack_52 : decode c_C_getOwnBack 52 = .ok (.iconst 1, 1) := by decide +kernel
theorem d_C_getOwnBack_53 : decode c_C_getOwnBack 53 = .ok (.iadd, 1) := by decide +kernel
theorem d_C_getOwnBack_54 : decode c_C_getOwnBack 54 = .ok (.putfield 33, 3) := by decide +kernel
theorem d_C_getOwnBack_57 : decode c_C_getOwnBack 57 = .ok (.return_, 1) := by decide +kernel
theorem d_C_getOther_0 : decode c_C_getOther 0 = .ok (.aload_n 0, 1) := by decide +kernel
theorem d_C_getOther_1 : decode c_C_getOther 1 = .ok (.dup, 1) := by decide +kernel
theorem d_C_getOther_2 : decode c_C_getOther 2 = .ok (.getfield 36, 3) := by decide +kernel
theorem d_C_getOther_5 : decode c_C_getOther 5 = .ok (.iconst 1, 1) := by decide +kernel
theorem d_C_getOther_6 : decode c_C_getOther 6 = .ok (.iadd, 1) := by decide +kernel
theorem d_C_getOther_7 : decode c_C_getOther 7 = .ok (.putfield 36, 3) := by decide +kernel
theorem d_C_getOther_10 : decode c_C_getOther 10 = .ok (.iload_n 1, 1) := by decide +kernel
theorem d_C_getOther_11 : decode c_C_getOther 11 = .ok (.istore_n 2, 1) := by decide +kernel
theorem d_C_getOther_12 : decode c_C_getOther 12 = .ok (.iconst 0, 1) := by decide +kernel
theorem d_C_getOther_13 : decode c_C_getOther 13 = .ok (.istore_n 3, 1) := by decide +kernel
theorem d_C_getOther_14 : decode c_C_getOther 14 = .ok (.iload_n 3, 1) := by decide +kernel
theorem d_C_getOther_15 : decode c_C_getOther 15 = .ok (.aload_n 0, 1) := by decide +kernel
theorem d_C_getOther_16 : decode c_C_getOther 16 = .ok (.getfield 29, 3) := by decide +kernel
theorem d_C_getOther_19 : decode c_C_getOther 19 = .ok (.if_icmp .ge 36, 3) := by decide +kernel
theorem d_C_getOther_22 : decode c_C_getOther 22 = .ok (.aload_n 0, 1) := by decide +kernel
theorem d_C_getOther_23 : decode c_C_getOther 23 = .ok (.getfield 25, 3) := by decide +kernel
theorem d_C_getOther_26 : decode c_C_getOther 26 = .ok (.iload_n 3, 1) := by decide +kernel
theorem d_C_getOther_27 : decode c_C_getOther 27 = .ok (.iaload, 1) := by decide +kernel
theorem d_C_getOther_28 : decode c_C_getOther 28 = .ok (.istore 4, 2) := by decide +kernel
theorem d_C_getOther_30 : decode c_C_getOther 30 = .ok (.aload_n 0, 1) := by decide +kernel
theorem d_C_getOther_31 : decode c_C_getOther 31 = .ok (.getfield 25, 3) := by decide +kernel
theorem d_C_getOther_34 : decode c_C_getOther 34 = .ok (.iload_n 3, 1) := by decide +kernel
theorem d_C_getOther_35 : decode c_C_getOther 35 = .ok (.iload 4, 2) := by decide +kernel
theorem d_C_getOther_37 : decode c_C_getOther 37 = .ok (.iload_n 2, 1) := by decide +kernel
theorem d_C_getOther_38 : decode c_C_getOther 38 = .ok (.invokestatic 68, 3) := by decide +kernel
theorem d_C_getOther_41 : decode c_C_getOther 41 = .ok (.iastore, 1) := by decide +kernel
theorem d_C_getOther_42 : decode c_C_getOther 42 = .ok (.iload_n 2, 1) := by decide +kernel
theorem d_C_getOther_43 : decode c_C_getOther 43 = .ok (.iload 4, 2) := by decide +kernel
theorem d_C_getOther_45 : decode c_C_getOther 45 = .ok (.invokestatic 68, 3) := by decide +kernel
theorem d_C_getOther_48 : decode c_C_getOther 48 = .ok (.istore_n 2, 1) := by decide +kernel
theorem d_C_getOther_49 : decode c_C_getOther 49 = .ok (.iinc 3 1, 3) := by decide +kernel
theorem d_C_getOther_52 : decode c_C_getOther 52 = .ok (.goto (-38), 3) := by decide +kernel
theorem d_C_getOther_55 : decode c_C_getOther 55 = .ok (.aload_n 0, 1) := by decide +kernel
theorem d_C_getOther_56 : decode c_C_getOther 56 = .ok (.getfield 21, 3) := by decide +kernel
theorem d_C_getOther_59 : decode c_C_getOther 59 = .ok (.iload_n 2, 1) := by decide +kernel
theorem d_C_getOther_60 : decode c_C_getOther 60 = .ok (.aload_n 0, 1) := by decide +kernel
theorem d_C_getOther_61 : decode c_C_getOther 61 = .ok (.getfield 12, 3) := by decide +kernel
theorem d_C_getOther_64 : decode c_C_getOther 64 = .ok (.iload_n 2, 1) := by decide +kernel
theorem d_C_getOther_65 : decode c_C_getOther 65 = .ok (.invokevirtual 54, 3) := by decide +kernel
theorem d_C_getOther_68 : decode c_C_getOther 68 = .ok (.iconst 0, 1) := by decide +kernel
theorem d_C_getOther_69 : decode c_C_getOther 69 = .ok (.invokevirtual 58, 3) := by decide +kernel
theorem d_C_getOther_72 : decode c_C_getOther 72 = .ok (.return_, 1) := by decide +kernel
theorem d_L_init_0 : decode c_L_init 0 = .ok (.aload_n 0, 1) := by decide +kernel
theorem d_L_init_1 : decode c_L_init 1 = .ok (.invokespecial 3, 3) := by decide +kernel
theorem d_L_init_4 : decode c_L_init 4 = .ok (.aload_n 0, 1) := by decide +kernel
theorem d_L_init_5 : decode c_L_init 5 = .ok (.bipush 30, 2) := by decide +kernel
theorem d_L_init_7 : decode c_L_init 7 = .ok (.bipush 6, 2) := by decide +kernel
theorem d_L_init_9 : decode c_L_init 9 = .ok (.multianewarray 11 2, 4) := by decide +kernel
theorem d_L_init_13 : decode c_L_init 13 = .ok (.putfield 13, 3) := by decide +kernel
theorem d_L_init_16 : decode c_L_init 16 = .ok (.aload_n 0, 1) := by decide +kernel
theorem d_L_init_17 : decode c_L_init 17 = .ok (.iconst 0, 1) := by decide +kernel
theorem d_L_init_18 : decode c_L_init 18 = .ok (.putfield 16, 3) := by decide +kernel
theorem d_L_init_21 : decode c_L_init 21 = .ok (.return_, 1) := by decide +kernel
theorem d_L_size_0 : decode c_L_size 0 = .ok (.aload_n 0, 1) := by decide +kernel
theorem d_L_size_1 : decode c_L_size 1 = .ok (.getfield 16, 3) := by decide +kernel
theorem d_L_size_4 : decode c_L_size 4 = .ok (.ireturn, 1) := by decide +kernel
theorem d_L_has_0 : decode c_L_has 0 = .ok (.iload_n 1, 1) := by decide +kernel
theorem d_L_has_1 : decode c_L_has 1 = .ok (.ifCond .lt 15, 3) := by decide +kernel
theorem d_L_has_4 : decode c_L_has 4 = .ok (.iload_n 1, 1) := by decide +kernel
theorem d_L_has_5 : decode c_L_has 5 = .ok (.aload_n 0, 1) := by decide +kernel
theorem d_L_has_6 : decode c_L_has 6 = .ok (.getfield 16, 3) := by decide +kernel
theorem d_L_has_9 : decode c_L_has 9 = .ok (.if_icmp .ge 7, 3) := by decide +kernel
theorem d_L_has_12 : decode c_L_has 12 = .ok (.iconst 1, 1) := by decide +kernel
theorem d_L_has_13 : decode c_L_has 13 = .ok (.goto 4, 3) := by decide +kernel
theorem d_L_has_16 : decode c_L_has 16 = .ok (.iconst 0, 1) := by decide +kernel
theorem d_L_has_17 : decode c_L_has 17 = .ok (.ireturn, 1) := by decide +kernel
theorem d_L_isFull_0 : decode c_L_isFull 0 = .ok (.aload_n 0, 1) := by decide +kernel
theorem d_L_isFull_1 : decode c_L_isFull 1 = .ok (.getfield 16, 3) := by decide +kernel
theorem d_L_isFull_4 : decode c_L_isFull 4 = .ok (.bipush 30, 2) := by decide +kernel
theorem d_L_isFull_6 : decode c_L_isFull 6 = .ok (.if_icmp .lt 7, 3) := by decide +kernel
theorem d_L_isFull_9 : decode c_L_isFull 9 = .ok (.iconst 1, 1) := by decide +kernel
theorem d_L_isFull_10 : decode c_L_isFull 10 = .ok (.goto 4, 3) := by decide +kernel
theorem d_L_isFull_13 : decode c_L_isFull 13 = .ok (.iconst 0, 1) := by decide +kernel
theorem d_L_isFull_14 : decode c_L_isFull 14 = .ok (.ireturn, 1) := by decide +kernel
theorem d_L_kindAt_0 : decode c_L_kindAt 0 = .ok (.aload_n 0, 1) := by decide +kernel
theorem d_L_kindAt_1 : decode c_L_kindAt 1 = .ok (.getfield 13, 3) := by decide +kernel
theorem d_L_kindAt_4 : decode c_L_kindAt 4 = .ok (.iload_n 1, 1) := by decide +kernel
theorem d_L_kindAt_5 : decode c_L_kindAt 5 = .ok (.aaload, 1) := by decide +kernel
theorem d_L_kindAt_6 : decode c_L_kindAt 6 = .ok (.iconst 0, 1) := by decide +kernel
theorem d_L_kindAt_7 : decode c_L_kindAt 7 = .ok (.iaload, 1) := by decide +kernel
theorem d_L_kindAt_8 : decode c_L_kindAt 8 = .ok (.ireturn, 1) := by decide +kernel
theorem d_L_clientAt_0 : decode c_L_clientAt 0 = .ok (.aload_n 0, 1) := by decide +kernel
theorem d_L_clientAt_1 : decode c_L_clientAt 1 = .ok (.getfield 13, 3) := by decide +kernel
theorem d_L_clientAt_4 : decode c_L_clientAt 4 = .ok (.iload_n 1, 1) := by decide +kernel
theorem d_L_clientAt_5 : decode c_L_clientAt 5 = .ok (.aaload, 1) := by decide +kernel
theorem d_L_clientAt_6 : decode c_L_clientAt 6 = .ok (.iconst 1, 1) := by decide +kernel
theorem d_L_clientAt_7 : decode c_L_clientAt 7 = .ok (.iaload, 1) := by decide +kernel
theorem d_L_clientAt_8 : decode c_L_clientAt 8 = .ok (.ireturn, 1) := by decide +kernel
theorem d_L_revisionAt_0 : decode c_L_revisionAt 0 = .ok (.aload_n 0, 1) := by decide +kernel
theorem d_L_revisionAt_1 : decode c_L_revisionAt 1 = .ok (.getfield 13, 3) := by decide +kernel
theorem d_L_revisionAt_4 : decode c_L_revisionAt 4 = .ok (.iload_n 1, 1) := by decide +kernel
theorem d_L_revisionAt_5 : decode c_L_revisionAt 5 = .ok (.aaload, 1) := by decide +kernel
theorem d_L_revisionAt_6 : decode c_L_revisionAt 6 = .ok (.iconst 2, 1) := by decide +kernel
theorem d_L_revisionAt_7 : decode c_L_revisionAt 7 = .ok (.iaload, 1) := by decide +kernel
theorem d_L_revisionAt_8 : decode c_L_revisionAt 8 = .ok (.ireturn, 1) := by decide +kernel
theorem d_L_numberAt_0 : decode c_L_numberAt 0 = .ok (.aload_n 0, 1) := by decide +kernel
theorem d_L_numberAt_1 : decode c_L_numberAt 1 = .ok (.getfield 13, 3) := by decide +kernel
theorem d_L_numberAt_4 : decode c_L_numberAt 4 = .ok (.iload_n 1, 1) := by decide +kernel
theorem d_L_numberAt_5 : decode c_L_numberAt 5 = .ok (.aaload, 1) := by decide +kernel
theorem d_L_numberAt_6 : decode c_L_numberAt 6 = .ok (.iconst 3, 1) := by decide +kernel
theorem d_L_numberAt_7 : decode c_L_numberAt 7 = .ok (.iaload, 1) := by decide +kernel
theorem d_L_numberAt_8 : decode c_L_numberAt 8 = .ok (.ireturn, 1) := by decide +kernel
theorem d_L_opAt_0 : decode c_L_opAt 0 = .ok (.aload_n 0, 1) := by decide +kernel
theorem d_L_opAt_1 : decode c_L_opAt 1 = .ok (.getfield 13, 3) := by decide +kernel
theorem d_L_opAt_4 : decode c_L_opAt 4 = .ok (.iload_n 1, 1) := by decide +kernel
theorem d_L_opAt_5 : decode c_L_opAt 5 = .ok (.aaload, 1) := by decide +kernel
theorem d_L_opAt_6 : decode c_L_opAt 6 = .ok (.iconst 4, 1) := by decide +kernel
theorem d_L_opAt_7 : decode c_L_opAt 7 = .ok (.iaload, 1) := by decide +kernel
theorem d_L_opAt_8 : decode c_L_opAt 8 = .ok (.ireturn, 1) := by decide +kernel
theorem d_L_isWhole_0 : decode c_L_isWhole 0 = .ok (.aload_n 0, 1) := by decide +kernel
theorem d_L_isWhole_1 : decode c_L_isWhole 1 = .ok (.getfield 13, 3) := by decide +kernel
theorem d_L_isWhole_4 : decode c_L_isWhole 4 = .ok (.iload_n 1, 1) := by decide +kernel
theorem d_L_isWhole_5 : decode c_L_isWhole 5 = .ok (.aaload, 1) := by decide +kernel
theorem d_L_isWhole_6 : decode c_L_isWhole 6 = .ok (.iconst 5, 1) := by decide +kernel
theorem d_L_isWhole_7 : decode c_L_isWhole 7 = .ok (.iaload, 1) := by decide +kernel
theorem d_L_isWhole_8 : decode c_L_isWhole 8 = .ok (.ifCond .ne 7, 3) := by decide +kernel
theorem d_L_isWhole_11 : decode c_L_isWhole 11 = .ok (.iconst 1, 1) := by decide +kernel
theorem d_L_isWhole_12 : decode c_L_isWhole 12 = .ok (.goto 4, 3) := by decide +kernel
theorem d_L_isWhole_15 : decode c_L_isWhole 15 = .ok (.iconst 0, 1) := by decide +kernel
theorem d_L_isWhole_16 : decode c_L_isWhole 16 = .ok (.ireturn, 1) := by decide +kernel
theorem d_L_changeMark_0 : decode c_L_changeMark 0 = .ok (.aload_n 0, 1) := by decide +kernel
theorem d_L_changeMark_1 : decode c_L_changeMark 1 = .ok (.getfield 13, 3) := by decide +kernel
theorem d_L_changeMark_4 : decode c_L_changeMark 4 = .ok (.iload_n 1, 1) := by decide +kernel
theorem d_L_changeMark_5 : decode c_L_changeMark 5 = .ok (.aaload, 1) := by decide +kernel
theorem d_L_changeMark_6 : decode c_L_changeMark 6 = .ok (.iconst 5, 1) := by decide +kernel
theorem d_L_changeMark_7 : decode c_L_changeMark 7 = .ok (.dup2, 1) := by decide +kernel
theorem d_L_changeMark_8 : decode c_L_changeMark 8 = .ok (.iaload, 1) := by decide +kernel
theorem d_L_changeMark_9 : decode c_L_changeMark 9 = .ok (.iload_n 2, 1) := by decide +kernel
theorem d_L_changeMark_10 : decode c_L_changeMark 10 = .ok (.sipush 255, 3) := by decide +kernel
theorem d_L_changeMark_13 : decode c_L_changeMark 13 = .ok (.iand, 1) := by decide +kernel
theorem d_L_changeMark_14 : decode c_L_changeMark 14 = .ok (.ixor, 1) := by decide +kernel
theorem d_L_changeMark_15 : decode c_L_changeMark 15 = .ok (.iastore, 1) := by decide +kernel
theorem d_L_changeMark_16 : decode c_L_changeMark 16 = .ok (.return_, 1) := by decide +kernel
theorem d_L_send_0 : decode c_L_send 0 = .ok (.aload_n 0, 1) := by decide +kernel
theorem d_L_send_1 : decode c_L_send 1 = .ok (.invokevirtual 20, 3) := by decide +kernel
theorem d_L_send_4 : decode c_L_send 4 = .ok (.ifCond .eq 4, 3) := by decide +kernel
theorem d_L_send_7 : decode c_L_send 7 = .ok (.return_, 1) := by decide +kernel
theorem d_L_send_8 : decode c_L_send 8 = .ok (.aload_n 0, 1) := by decide +kernel
theorem d_L_send_9 : decode c_L_send 9 = .ok (.getfield 13, 3) := by decide +kernel
theorem d_L_send_12 : decode c_L_send 12 = .ok (.aload_n 0, 1) := by decide +kernel
theorem d_L_send_13 : decode c_L_send 13 = .ok (.getfield 16, 3) := by decide +kernel
theorem d_L_send_16 : decode c_L_send 16 = .ok (.aaload, 1) := by decide +kernel
theorem d_L_send_17 : decode c_L_send 17 = .ok (.astore 6, 2) := by decide +kernel
theorem d_L_send_19 : decode c_L_send 19 = .ok (.aload 6, 2) := by decide +kernel
theorem d_L_send_21 : decode c_L_send 21 = .ok (.iconst 0, 1) := by decide +kernel
theorem d_L_send_22 : decode c_L_send 22 = .ok (.iload_n 1, 1) := by decide +kernel
theorem d_L_send_23 : decode c_L_send 23 = .ok (.iastore, 1) := by decide +kernel
theorem d_L_send_24 : decode c_L_send 24 = .ok (.aload 6, 2) := by decide +kernel
theorem d_L_send_26 : decode c_L_send 26 = .ok (.iconst 1, 1) := by decide +kernel
theorem d_L_send_27 : decode c_L_send 27 = .ok (.iload_n 2, 1) := by decide +kernel
theorem d_L_send_28 : decode c_L_send 28 = .ok (.iastore, 1) := by decide +kernel
theorem d_L_send_29 : decode c_L_send 29 = .ok (.aload 6, 2) := by decide +kernel
theorem d_L_send_31 : decode c_L_send 31 = .ok (.iconst 2, 1) := by decide +kernel
theorem d_L_send_32 : decode c_L_send 32 = .ok (.iload_n 3, 1) := by decide +kernel
theorem d_L_send_33 : decode c_L_send 33 = .ok (.iastore, 1) := by decide +kernel
theorem d_L_send_34 : decode c_L_send 34 = .ok (.aload 6, 2) := by decide +kernel
theorem d_L_send_36 : decode c_L_send 36 = .ok (.iconst 3, 1) := by decide +kernel
theorem d_L_send_37 : decode c_L_send 37 = .ok (.iload 5, 2) := by decide +kernel
theorem d_L_send_39 : decode c_L_send 39 = .ok (.iastore, 1) := by decide +kernel
theorem d_L_send_40 : decode c_L_send 40 = .ok (.aload 6, 2) := by decide +kernel
theorem d_L_send_42 : decode c_L_send 42 = .ok (.iconst 4, 1) := by decide +kernel
theorem d_L_send_43 : decode c_L_send 43 = .ok (.iload 4, 2) := by decide +kernel
theorem d_L_send_45 : decode c_L_send 45 = .ok (.iastore, 1) := by decide +kernel
theorem d_L_send_46 : decode c_L_send 46 = .ok (.aload 6, 2) := by decide +kernel
theorem d_L_send_48 : decode c_L_send 48 = .ok (.iconst 5, 1) := by decide +kernel
theorem d_L_send_49 : decode c_L_send 49 = .ok (.iconst 0, 1) := by decide +kernel
theorem d_L_send_50 : decode c_L_send 50 = .ok (.iastore, 1) := by decide +kernel
theorem d_L_send_51 : decode c_L_send 51 = .ok (.aload_n 0, 1) := by decide +kernel
theorem d_L_send_52 : decode c_L_send 52 = .ok (.dup, 1) := by decide +kernel
theorem d_L_send_53 : decode c_L_send 53 = .ok (.getfield 16, 3) := by decide +kernel
theorem d_L_send_56 : decode c_L_send 56 = .ok (.iconst 1, 1) := by decide +kernel
theorem d_L_send_57 : decode c_L_send 57 = .ok (.iadd, 1) := by decide +kernel
theorem d_L_send_58 : decode c_L_send 58 = .ok (.putfield 16, 3) := by decide +kernel
theorem d_L_send_61 : decode c_L_send 61 = .ok (.return_, 1) := by decide +kernel
theorem d_L_sendCopy_0 : decode c_L_sendCopy 0 = .ok (.aload_n 0, 1) := by decide +kernel
theorem d_L_sendCopy_1 : decode c_L_sendCopy 1 = .ok (.invokevirtual 20, 3) := by decide +kernel
theorem d_L_sendCopy_4 : decode c_L_sendCopy 4 = .ok (.ifCond .eq 4, 3) := by decide +kernel
theorem d_L_sendCopy_7 : decode c_L_sendCopy 7 = .ok (.return_, 1) := by decide +kernel
theorem d_L_sendCopy_8 : decode c_L_sendCopy 8 = .ok (.aload_n 0, 1) := by decide +kernel
theorem d_L_sendCopy_9 : decode c_L_sendCopy 9 = .ok (.iload_n 1, 1) := by decide +kernel
theorem d_L_sendCopy_10 : decode c_L_sendCopy 10 = .ok (.aload_n 0, 1) := by decide +kernel
theorem d_L_sendCopy_11 : decode c_L_sendCopy 11 = .ok (.getfield 16, 3) := by decide +kernel
theorem d_L_sendCopy_14 : decode c_L_sendCopy 14 = .ok (.invokevirtual 24, 3) := by decide +kernel
theorem d_L_sendCopy_17 : decode c_L_sendCopy 17 = .ok (.aload_n 0, 1) := by decide +kernel
theorem d_L_sendCopy_18 : decode c_L_sendCopy 18 = .ok (.dup, 1) := by decide +kernel
theorem d_L_sendCopy_19 : decode c_L_sendCopy 19 = .ok (.getfield 16, 3) := by decide +kernel
theorem d_L_sendCopy_22 : decode c_L_sendCopy 22 = .ok (.iconst 1, 1) := by decide +kernel
theorem d_L_sendCopy_23 : decode c_L_sendCopy 23 = .ok (.iadd, 1) := by decide +kernel
theorem d_L_sendCopy_24 : decode c_L_sendCopy 24 = .ok (.putfield 16, 3) := by decide +kernel
theorem d_L_sendCopy_27 : decode c_L_sendCopy 27 = .ok (.return_, 1) := by decide +kernel
theorem d_L_takeOut_0 : decode c_L_takeOut 0 = .ok (.iload_n 1, 1) := by decide +kernel
theorem d_L_takeOut_1 : decode c_L_takeOut 1 = .ok (.iconst 1, 1) := by decide +kernel
theorem d_L_takeOut_2 : decode c_L_takeOut 2 = .ok (.iadd, 1) := by decide +kernel
theorem d_L_takeOut_3 : decode c_L_takeOut 3 = .ok (.istore_n 2, 1) := by decide +kernel
theorem d_L_takeOut_4 : decode c_L_takeOut 4 = .ok (.iload_n 2, 1) := by decide +kernel
theorem d_L_takeOut_5 : decode c_L_takeOut 5 = .ok (.aload_n 0, 1) := by decide +kernel
theorem d_L_takeOut_6 : decode c_L_takeOut 6 = .ok (.getfield 16, 3) := by decide +kernel
theorem d_L_takeOut_9 : decode c_L_takeOut 9 = .ok (.if_icmp .ge 17, 3) := by decide +kernel
theorem d_L_takeOut_12 : decode c_L_takeOut 12 = .ok (.aload_n 0, 1) := by decide +kernel
theorem d_L_takeOut_13 : decode c_L_takeOut 13 = .ok (.iload_n 2, 1) := by decide +kernel
theorem d_L_takeOut_14 : decode c_L_takeOut 14 = .ok (.iload_n 2, 1) := by decide +kernel
theorem d_L_takeOut_15 : decode c_L_takeOut 15 = .ok (.iconst 1, 1) := by decide +kernel
theorem d_L_takeOut_16 : decode c_L_takeOut 16 = .ok (.isub, 1) := by decide +kernel
theorem d_L_takeOut_17 : decode c_L_takeOut 17 = .ok (.invokevirtual 24, 3) := by decide +kernel
theorem d_L_takeOut_20 : decode c_L_takeOut 20 = .ok (.iinc 2 1, 3) := by decide +kernel
theorem d_L_takeOut_23 : decode c_L_takeOut 23 = .ok (.goto (-19), 3) := by decide +kernel
theorem d_L_takeOut_26 : decode c_L_takeOut 26 = .ok (.aload_n 0, 1) := by decide +kernel
theorem d_L_takeOut_27 : decode c_L_takeOut 27 = .ok (.dup, 1) := by decide +kernel
theorem d_L_takeOut_28 : decode c_L_takeOut 28 = .ok (.getfield 16, 3) := by decide +kernel
theorem d_L_takeOut_31 : decode c_L_takeOut 31 = .ok (.iconst 1, 1) := by decide +kernel
theorem d_L_takeOut_32 : decode c_L_takeOut 32 = .ok (.isub, 1) := by decide +kernel
theorem d_L_takeOut_33 : decode c_L_takeOut 33 = .ok (.putfield 16, 3) := by decide +kernel
theorem d_L_takeOut_36 : decode c_L_takeOut 36 = .ok (.return_, 1) := by decide +kernel
theorem d_L_copy_0 : decode c_L_copy 0 = .ok (.aload_n 0, 1) := by decide +kernel
theorem d_L_copy_1 : decode c_L_copy 1 = .ok (.getfield 13, 3) := by decide +kernel
theorem d_L_copy_4 : decode c_L_copy 4 = .ok (.iload_n 1, 1) := by decide +kernel
theorem d_L_copy_5 : decode c_L_copy 5 = .ok (.aaload, 1) := by decide +kernel
theorem d_L_copy_6 : decode c_L_copy 6 = .ok (.iconst 0, 1) := by decide +kernel
theorem d_L_copy_7 : decode c_L_copy 7 = .ok (.aload_n 0, 1) := by decide +kernel
theorem d_L_copy_8 : decode c_L_copy 8 = .ok (.getfield 13, 3) := by decide +kernel
theorem d_L_copy_11 : decode c_L_copy 11 = .ok (.iload_n 2, 1) := by decide +kernel
theorem d_L_copy_12 : decode c_L_copy 12 = .ok (.aaload, 1) := by decide +kernel
theorem d_L_copy_13 : decode c_L_copy 13 = .ok (.iconst 0, 1) := by decide +kernel
theorem d_L_copy_14 : decode c_L_copy 14 = .ok (.bipush 6, 2) := by decide +kernel
theorem d_L_copy_16 : decode c_L_copy 16 = .ok (.invokestatic 28, 3) := by decide +kernel
theorem d_L_copy_19 : decode c_L_copy 19 = .ok (.return_, 1) := by decide +kernel
theorem d_G_init_0 : decode c_G_init 0 = .ok (.aload_n 0, 1) := by decide +kernel
theorem d_G_init_1 : decode c_G_init 1 = .ok (.invokespecial 3, 3) := by decide +kernel
theorem d_G_init_4 : decode c_G_init 4 = .ok (.aload_n 0, 1) := by decide +kernel
theorem d_G_init_5 : decode c_G_init 5 = .ok (.bipush 68, 2) := by decide +kernel
theorem d_G_init_7 : decode c_G_init 7 = .ok (.newarray .int, 2) := by decide +kernel
theorem d_G_init_9 : decode c_G_init 9 = .ok (.putfield 9, 3) := by decide +kernel
theorem d_G_init_12 : decode c_G_init 12 = .ok (.aload_n 0, 1) := by decide +kernel
theorem d_G_init_13 : decode c_G_init 13 = .ok (.bipush 68, 2) := by decide +kernel
theorem d_G_init_15 : decode c_G_init 15 = .ok (.newarray .int, 2) := by decide +kernel
theorem d_G_init_17 : decode c_G_init 17 = .ok (.putfield 15, 3) := by decide +kernel
theorem d_G_init_20 : decode c_G_init 20 = .ok (.aload_n 0, 1) := by decide +kernel
theorem d_G_init_21 : decode c_G_init 21 = .ok (.bipush 68, 2) := by decide +kernel
theorem d_G_init_23 : decode c_G_init 23 = .ok (.newarray .boolean, 2) := by decide +kernel
theorem d_G_init_25 : decode c_G_init 25 = .ok (.putfield 18, 3) := by decide +kernel
theorem d_G_init_28 : decode c_G_init 28 = .ok (.aload_n 0, 1) := by decide +kernel
theorem d_G_init_29 : decode c_G_init 29 = .ok (.iconst 0, 1) := by decide +kernel
theorem d_G_init_30 : decode c_G_init 30 = .ok (.putfield 22, 3) := by decide +kernel
theorem d_G_init_33 : decode c_G_init 33 = .ok (.return_, 1) := by decide +kernel
theorem d_G_add_0 : decode c_G_add 0 = .ok (.aload_n 0, 1) := by decide +kernel
theorem d_G_add_1 : decode c_G_add 1 = .ok (.getfield 22, 3) := by decide +kernel
theorem d_G_add_4 : decode c_G_add 4 = .ok (.bipush 68, 2) := by decide +kernel
theorem d_G_add_6 : decode c_G_add 6 = .ok (.if_icmp .lt 4, 3) := by decide +kernel
theorem d_G_add_9 : decode c_G_add 9 = .ok (.return_, 1) := by decide +kernel
theorem d_G_add_10 : decode c_G_add 10 = .ok (.aload_n 0, 1) := by decide +kernel
theorem d_G_add_11 : decode c_G_add 11 = .ok (.getfield 9, 3) := by decide +kernel
theorem d_G_add_14 : decode c_G_add 14 = .ok (.aload_n 0, 1) := by decide +kernel
theorem d_G_add_15 : decode c_G_add 15 = .ok (.getfield 22, 3) := by decide +kernel
theorem d_G_add_18 : decode c_G_add 18 = .ok (.iload_n 1, 1) := by decide +kernel
theorem d_G_add_19 : decode c_G_add 19 = .ok (.iastore, 1) := by decide +kernel
theorem d_G_add_20 : decode c_G_add 20 = .ok (.aload_n 0, 1) := by decide +kernel
theorem d_G_add_21 : decode c_G_add 21 = .ok (.getfield 15, 3) := by decide +kernel
theorem d_G_add_24 : decode c_G_add 24 = .ok (.aload_n 0, 1) := by decide +kernel
theorem d_G_add_25 : decode c_G_add 25 = .ok (.getfield 22, 3) := by decide +kernel
theorem d_G_add_28 : decode c_G_add 28 = .ok (.iload_n 2, 1) := by decide +kernel
theorem d_G_add_29 : decode c_G_add 29 = .ok (.iastore, 1) := by decide +kernel
theorem d_G_add_30 : decode c_G_add 30 = .ok (.aload_n 0, 1) := by decide +kernel
theorem d_G_add_31 : decode c_G_add 31 = .ok (.getfield 18, 3) := by decide +kernel
theorem d_G_add_34 : decode c_G_add 34 = .ok (.aload_n 0, 1) := by decide +kernel
theorem d_G_add_35 : decode c_G_add 35 = .ok (.getfield 22, 3) := by decide +kernel
theorem d_G_add_38 : decode c_G_add 38 = .ok (.iload_n 3, 1) := by decide +kernel
theorem d_G_add_39 : decode c_G_add 39 = .ok (.bastore, 1) := by decide +kernel
theorem d_G_add_40 : decode c_G_add 40 = .ok (.aload_n 0, 1) := by decide +kernel
theorem d_G_add_41 : decode c_G_add 41 = .ok (.dup, 1) := by decide +kernel
theorem d_G_add_42 : decode c_G_add 42 = .ok (.getfield 22, 3) := by decide +kernel
theorem d_G_add_45 : decode c_G_add 45 = .ok (.iconst 1, 1) := by decide +kernel
theorem d_G_add_46 : decode c_G_add 46 = .ok (.iadd, 1) := by decide +kernel
theorem d_G_add_47 : decode c_G_add 47 = .ok (.putfield 22, 3) := by decide +kernel
theorem d_G_add_50 : decode c_G_add 50 = .ok (.return_, 1) := by decide +kernel
theorem d_G_latestToUndo_0 : decode c_G_latestToUndo 0 = .ok (.aload_n 0, 1) := by decide +kernel
theorem d_G_latestToUndo_1 : decode c_G_latestToUndo 1 = .ok (.getfield 22, 3) := by decide +kernel
theorem d_G_latestToUndo_4 : decode c_G_latestToUndo 4 = .ok (.iconst 1, 1) := by decide +kernel
theorem d_G_latestToUndo_5 : decode c_G_latestToUndo 5 = .ok (.isub, 1) := by decide +kernel
theorem d_G_latestToUndo_6 : decode c_G_latestToUndo 6 = .ok (.istore_n 1, 1) := by decide +kernel
theorem d_G_latestToUndo_7 : decode c_G_latestToUndo 7 = .ok (.iload_n 1, 1) := by decide +kernel
theorem d_G_latestToUndo_8 : decode c_G_latestToUndo 8 = .ok (.ifCond .lt 20, 3) := by decide +kernel
theorem d_G_latestToUndo_11 : decode c_G_latestToUndo 11 = .ok (.aload_n 0, 1) := by decide +kernel
theorem d_G_latestToUndo_12 : decode c_G_latestToUndo 12 = .ok (.getfield 18, 3) := by decide +kernel
theorem d_G_latestToUndo_15 : decode c_G_latestToUndo 15 = .ok (.iload_n 1, 1) := by decide +kernel
theorem d_G_latestToUndo_16 : decode c_G_latestToUndo 16 = .ok (.baload, 1) := by decide +kernel
theorem d_G_latestToUndo_17 : decode c_G_latestToUndo 17 = .ok (.ifCond .eq 5, 3) := by decide +kernel
theorem d_G_latestToUndo_20 : decode c_G_latestToUndo 20 = .ok (.iload_n 1, 1) := by decide +kernel
theorem d_G_latestToUndo_21 : decode c_G_latestToUndo 21 = .ok (.ireturn, 1) := by decide +kernel
theorem d_G_latestToUndo_22 : decode c_G_latestToUndo 22 = .ok (.iinc 1 (-1), 3) := by decide +kernel
theorem d_G_latestToUndo_25 : decode c_G_latestToUndo 25 = .ok (.goto (-18), 3) := by decide +kernel
theorem d_G_latestToUndo_28 : decode c_G_latestToUndo 28 = .ok (.iconst (-1), 1) := by decide +kernel
theorem d_G_latestToUndo_29 : decode c_G_latestToUndo 29 = .ok (.ireturn, 1) := by decide +kernel
theorem d_G_takeBack_0 : decode c_G_takeBack 0 = .ok (.aload_n 0, 1) := by decide +kernel
theorem d_G_takeBack_1 : decode c_G_takeBack 1 = .ok (.getfield 18, 3) := by decide +kernel
theorem d_G_takeBack_4 : decode c_G_takeBack 4 = .ok (.iload_n 1, 1) := by decide +kernel
theorem d_G_takeBack_5 : decode c_G_takeBack 5 = .ok (.iconst 0, 1) := by decide +kernel
theorem d_G_takeBack_6 : decode c_G_takeBack 6 = .ok (.bastore, 1) := by decide +kernel
theorem d_G_takeBack_7 : decode c_G_takeBack 7 = .ok (.aload_n 0, 1) := by decide +kernel
theorem d_G_takeBack_8 : decode c_G_takeBack 8 = .ok (.iload_n 1, 1) := by decide +kernel
theorem d_G_takeBack_9 : decode c_G_takeBack 9 = .ok (.invokevirtual 26, 3) := by decide +kernel
theorem d_G_takeBack_12 : decode c_G_takeBack 12 = .ok (.istore_n 2, 1) := by decide +kernel
theorem d_G_takeBack_13 : decode c_G_takeBack 13 = .ok (.iload_n 1, 1) := by decide +kernel
theorem d_G_takeBack_14 : decode c_G_takeBack 14 = .ok (.iconst 1, 1) := by decide +kernel
theorem d_G_takeBack_15 : decode c_G_takeBack 15 = .ok (.iadd, 1) := by decide +kernel
theorem d_G_takeBack_16 : decode c_G_takeBack 16 = .ok (.istore_n 3, 1) := by decide +kernel
theorem d_G_takeBack_17 : decode c_G_takeBack 17 = .ok (.iload_n 3, 1) := by decide +kernel
theorem d_G_takeBack_18 : decode c_G_takeBack 18 = .ok (.aload_n 0, 1) := by decide +kernel
theorem d_G_takeBack_19 : decode c_G_takeBack 19 = .ok (.getfield 22, 3) := by decide +kernel
theorem d_G_takeBack_22 : decode c_G_takeBack 22 = .ok (.if_icmp .ge 20, 3) := by decide +kernel
theorem d_G_takeBack_25 : decode c_G_takeBack 25 = .ok (.iload_n 2, 1) := by decide +kernel
theorem d_G_takeBack_26 : decode c_G_takeBack 26 = .ok (.aload_n 0, 1) := by decide +kernel
theorem d_G_takeBack_27 : decode c_G_takeBack 27 = .ok (.getfield 9, 3) := by decide +kernel
theorem d_G_takeBack_30 : decode c_G_takeBack 30 = .ok (.iload_n 3, 1) := by decide +kernel
theorem d_G_takeBack_31 : decode c_G_takeBack 31 = .ok (.iaload, 1) := by decide +kernel
theorem d_G_takeBack_32 : decode c_G_takeBack 32 = .ok (.invokestatic 30, 3) := by decide +kernel
theorem d_G_takeBack_35 : decode c_G_takeBack 35 = .ok (.istore_n 2, 1) := by decide +kernel
theorem d_G_takeBack_36 : decode c_G_takeBack 36 = .ok (.iinc 3 1, 3) := by decide +kernel
theorem d_G_takeBack_39 : decode c_G_takeBack 39 = .ok (.goto (-22), 3) := by decide +kernel
theorem d_G_takeBack_42 : decode c_G_takeBack 42 = .ok (.iload_n 2, 1) := by decide +kernel
theorem d_G_takeBack_43 : decode c_G_takeBack 43 = .ok (.ireturn, 1) := by decide +kernel
theorem d_G_inverse_0 : decode c_G_inverse 0 = .ok (.aload_n 0, 1) := by decide +kernel
theorem d_G_inverse_1 : decode c_G_inverse 1 = .ok (.getfield 9, 3) := by decide +kernel
theorem d_G_inverse_4 : decode c_G_inverse 4 = .ok (.iload_n 1, 1) := by decide +kernel
theorem d_G_inverse_5 : decode c_G_inverse 5 = .ok (.iaload, 1) := by decide +kernel
theorem d_G_inverse_6 : decode c_G_inverse 6 = .ok (.invokestatic 36, 3) := by decide +kernel
theorem d_G_inverse_9 : decode c_G_inverse 9 = .ok (.istore_n 2, 1) := by decide +kernel
theorem d_G_inverse_10 : decode c_G_inverse 10 = .ok (.aload_n 0, 1) := by decide +kernel
theorem d_G_inverse_11 : decode c_G_inverse 11 = .ok (.getfield 9, 3) := by decide +kernel
theorem d_G_inverse_14 : decode c_G_inverse 14 = .ok (.iload_n 1, 1) := by decide +kernel
theorem d_G_inverse_15 : decode c_G_inverse 15 = .ok (.iaload, 1) := by decide +kernel
theorem d_G_inverse_16 : decode c_G_inverse 16 = .ok (.invokestatic 39, 3) := by decide +kernel
theorem d_G_inverse_19 : decode c_G_inverse 19 = .ok (.istore_n 3, 1) := by decide +kernel
theorem d_G_inverse_20 : decode c_G_inverse 20 = .ok (.aload_n 0, 1) := by decide +kernel
theorem d_G_inverse_21 : decode c_G_inverse 21 = .ok (.getfield 9, 3) := by decide +kernel
theorem d_G_inverse_24 : decode c_G_inverse 24 = .ok (.iload_n 1, 1) := by decide +kernel
theorem d_G_inverse_25 : decode c_G_inverse 25 = .ok (.iaload, 1) := by decide +kernel
theorem d_G_inverse_26 : decode c_G_inverse 26 = .ok (.invokestatic 42, 3) := by decide +kernel
theorem d_G_inverse_29 : decode c_G_inverse 29 = .ok (.iconst 1, 1) := by decide +kernel
theorem d_G_inverse_30 : decode c_G_inverse 30 = .ok (.if_icmp .ne 11, 3) := by decide +kernel
theorem d_G_inverse_33 : decode c_G_inverse 33 = .ok (.iconst 2, 1) := by decide +kernel
theorem d_G_inverse_34 : decode c_G_inverse 34 = .ok (.iload_n 2, 1) := by decide +kernel
theorem d_G_inverse_35 : decode c_G_inverse 35 = .ok (.iconst 0, 1) := by decide +kernel
theorem d_G_inverse_36 : decode c_G_inverse 36 = .ok (.iload_n 3, 1) := by decide +kernel
theorem d_G_inverse_37 : decode c_G_inverse 37 = .ok (.invokestatic 45, 3) := by decide +kernel
theorem d_G_inverse_40 : decode c_G_inverse 40 = .ok (.ireturn, 1) := by decide +kernel
theorem d_G_inverse_41 : decode c_G_inverse 41 = .ok (.iconst 1, 1) := by decide +kernel
theorem d_G_inverse_42 : decode c_G_inverse 42 = .ok (.iload_n 2, 1) := by decide +kernel
theorem d_G_inverse_43 : decode c_G_inverse 43 = .ok (.aload_n 0, 1) := by decide +kernel
theorem d_G_inverse_44 : decode c_G_inverse 44 = .ok (.getfield 15, 3) := by decide +kernel
theorem d_G_inverse_47 : decode c_G_inverse 47 = .ok (.iload_n 1, 1) := by decide +kernel
theorem d_G_inverse_48 : decode c_G_inverse 48 = .ok (.iaload, 1) := by decide +kernel
theorem d_G_inverse_49 : decode c_G_inverse 49 = .ok (.iload_n 3, 1) := by decide +kernel
theorem d_G_inverse_50 : decode c_G_inverse 50 = .ok (.invokestatic 45, 3) := by decide +kernel
theorem d_G_inverse_53 : decode c_G_inverse 53 = .ok (.ireturn, 1) := by decide +kernel
theorem d_O_of_0 : decode c_O_of 0 = .ok (.iload_n 0, 1) := by decide +kernel
theorem d_O_of_1 : decode c_O_of 1 = .ok (.iload_n 3, 1) := by decide +kernel
theorem d_O_of_2 : decode c_O_of 2 = .ok (.iconst 2, 1) := by decide +kernel
theorem d_O_of_3 : decode c_O_of 3 = .ok (.ishl, 1) := by decide +kernel
theorem d_O_of_4 : decode c_O_of 4 = .ok (.ior, 1) := by decide +kernel
theorem d_O_of_5 : decode c_O_of 5 = .ok (.iload_n 2, 1) := by decide +kernel
theorem d_O_of_6 : decode c_O_of 6 = .ok (.iconst 4, 1) := by decide +kernel
theorem d_O_of_7 : decode c_O_of 7 = .ok (.ishl, 1) := by decide +kernel
theorem d_O_of_8 : decode c_O_of 8 = .ok (.ior, 1) := by decide +kernel
theorem d_O_of_9 : decode c_O_of 9 = .ok (.iload_n 1, 1) := by decide +kernel
theorem d_O_of_10 : decode c_O_of 10 = .ok (.bipush 11, 2) := by decide +kernel
theorem d_O_of_12 : decode c_O_of 12 = .ok (.ishl, 1) := by decide +kernel
theorem d_O_of_13 : decode c_O_of 13 = .ok (.ior, 1) := by decide +kernel
theorem d_O_of_14 : decode c_O_of 14 = .ok (.ireturn, 1) := by decide +kernel
theorem d_O_nothingOf_0 : decode c_O_nothingOf 0 = .ok (.iconst 0, 1) := by decide +kernel
theorem d_O_nothingOf_1 : decode c_O_nothingOf 1 = .ok (.iconst 0, 1) := by decide +kernel
theorem d_O_nothingOf_2 : decode c_O_nothingOf 2 = .ok (.iconst 0, 1) := by decide +kernel
theorem d_O_nothingOf_3 : decode c_O_nothingOf 3 = .ok (.iload_n 0, 1) := by decide +kernel
theorem d_O_nothingOf_4 : decode c_O_nothingOf 4 = .ok (.invokestatic 11, 3) := by decide +kernel
theorem d_O_nothingOf_7 : decode c_O_nothingOf 7 = .ok (.ireturn, 1) := by decide +kernel
theorem d_O_kindOf_0 : decode c_O_kindOf 0 = .ok (.iload_n 0, 1) := by decide +kernel
theorem d_O_kindOf_1 : decode c_O_kindOf 1 = .ok (.iconst 3, 1) := by decide +kernel
theorem d_O_kindOf_2 : decode c_O_kindOf 2 = .ok (.iand, 1) := by decide +kernel
theorem d_O_kindOf_3 : decode c_O_kindOf 3 = .ok (.ireturn, 1) := by decide +kernel
theorem d_O_siteOf_0 : decode c_O_siteOf 0 = .ok (.iload_n 0, 1) := by decide +kernel
theorem d_O_siteOf_1 : decode c_O_siteOf 1 = .ok (.iconst 2, 1) := by decide +kernel
theorem d_O_siteOf_2 : decode c_O_siteOf 2 = .ok (.ishr, 1) := by decide +kernel
theorem d_O_siteOf_3 : decode c_O_siteOf 3 = .ok (.iconst 3, 1) := by decide +kernel
theorem d_O_siteOf_4 : decode c_O_siteOf 4 = .ok (.iand, 1) := by decide +kernel
theorem d_O_siteOf_5 : decode c_O_siteOf 5 = .ok (.ireturn, 1) := by decide +kernel
theorem d_O_characterOf_0 : decode c_O_characterOf 0 = .ok (.iload_n 0, 1) := by decide +kernel
theorem d_O_characterOf_1 : decode c_O_characterOf 1 = .ok (.iconst 4, 1) := by decide +kernel
theorem d_O_characterOf_2 : decode c_O_characterOf 2 = .ok (.ishr, 1) := by decide +kernel
theorem d_O_characterOf_3 : decode c_O_characterOf 3 = .ok (.bipush 127, 2) := by decide +kernel
theorem d_O_characterOf_5 : decode c_O_characterOf 5 = .ok (.iand, 1) := by decide +kernel
theorem d_O_characterOf_6 : decode c_O_characterOf 6 = .ok (.ireturn, 1) := by decide +kernel
theorem d_O_positionOf_0 : decode c_O_positionOf 0 = .ok (.iload_n 0, 1) := by decide +kernel
theorem d_O_positionOf_1 : decode c_O_positionOf 1 = .ok (.bipush 11, 2) := by decide +kernel
theorem d_O_positionOf_3 : decode c_O_positionOf 3 = .ok (.ishr, 1) := by decide +kernel
theorem d_O_positionOf_4 : decode c_O_positionOf 4 = .ok (.ireturn, 1) := by decide +kernel
theorem d_O_moved_0 : decode c_O_moved 0 = .ok (.iload_n 0, 1) := by decide +kernel
theorem d_O_moved_1 : decode c_O_moved 1 = .ok (.invokestatic 15, 3) := by decide +kernel
theorem d_O_moved_4 : decode c_O_moved 4 = .ok (.ifCond .eq 21, 3) := by decide +kernel
theorem d_O_moved_7 : decode c_O_moved 7 = .ok (.iload_n 1, 1) := by decide +kernel
theorem d_O_moved_8 : decode c_O_moved 8 = .ok (.invokestatic 15, 3) := by decide +kernel
theorem d_O_moved_11 : decode c_O_moved 11 = .ok (.ifCond .eq 14, 3) := by decide +kernel
theorem d_O_moved_14 : decode c_O_moved 14 = .ok (.iload_n 0, 1) := by decide +kernel
theorem d_O_moved_15 : decode c_O_moved 15 = .ok (.invokestatic 19, 3) := by decide +kernel
theorem d_O_moved_18 : decode c_O_moved 18 = .ok (.iload_n 1, 1) := by decide +kernel
theorem d_O_moved_19 : decode c_O_moved 19 = .ok (.invokestatic 19, 3) := by decide +kernel
theorem d_O_moved_22 : decode c_O_moved 22 = .ok (.if_icmp .ge 5, 3) := by decide +kernel
theorem d_O_moved_25 : decode c_O_moved 25 = .ok (.iload_n 0, 1) := by decide +kernel
theorem d_O_moved_26 : decode c_O_moved 26 = .ok (.ireturn, 1) := by decide +kernel
theorem d_O_moved_27 : decode c_O_moved 27 = .ok (.iload_n 1, 1) := by decide +kernel
theorem d_O_moved_28 : decode c_O_moved 28 = .ok (.invokestatic 15, 3) := by decide +kernel
theorem d_O_moved_31 : decode c_O_moved 31 = .ok (.iconst 1, 1) := by decide +kernel
theorem d_O_moved_32 : decode c_O_moved 32 = .ok (.if_icmp .ne 11, 3) := by decide +kernel
theorem d_O_moved_35 : decode c_O_moved 35 = .ok (.iload_n 0, 1) := by decide +kernel
theorem d_O_moved_36 : decode c_O_moved 36 = .ok (.iload_n 1, 1) := by decide +kernel
theorem d_O_moved_37 : decode c_O_moved 37 = .ok (.invokestatic 22, 3) := by decide +kernel
theorem d_O_moved_40 : decode c_O_moved 40 = .ok (.goto 8, 3) := by decide +kernel
theorem d_O_moved_43 : decode c_O_moved 43 = .ok (.iload_n 0, 1) := by decide +kernel
theorem d_O_moved_44 : decode c_O_moved 44 = .ok (.iload_n 1, 1) := by decide +kernel
theorem d_O_moved_45 : decode c_O_moved 45 = .ok (.invokestatic 26, 3) := by decide +kernel
theorem d_O_moved_48 : decode c_O_moved 48 = .ok (.ireturn, 1) := by decide +kernel
theorem d_O_movedOverInsert_0 : decode c_O_movedOverInsert 0 = .ok (.iload_n 0, 1) := by decide +kernel
theorem d_O_movedOverInsert_1 : decode c_O_movedOverInsert 1 = .ok (.invokestatic 15, 3) := by decide +kernel
theorem d_O_movedOverInsert_4 : decode c_O_movedOverInsert 4 = .ok (.iconst 1, 1) := by decide +kernel
theorem d_O_movedOverInsert_5 : decode c_O_movedOverInsert 5 = .ok (.if_icmp .ne 18, 3) := by decide +kernel
theorem d_O_movedOverInsert_8 : decode c_O_movedOverInsert 8 = .ok (.iload_n 0, 1) := by decide +kernel
theorem d_O_movedOverInsert_9 : decode c_O_movedOverInsert 9 = .ok (.invokestatic 19, 3) := by decide +kernel
theorem d_O_movedOverInsert_12 : decode c_O_movedOverInsert 12 = .ok (.iload_n 1, 1) := by decide +kernel
theorem d_O_movedOverInsert_13 : decode c_O_movedOverInsert 13 = .ok (.invokestatic 19, 3) := by decide +kernel
theorem d_O_movedOverInsert_16 : decode c_O_movedOverInsert 16 = .ok (.if_icmp .ne 7, 3) := by decide +kernel
theorem d_O_movedOverInsert_19 : decode c_O_movedOverInsert 19 = .ok (.iconst 1, 1) := by decide +kernel
theorem d_O_movedOverInsert_20 : decode c_O_movedOverInsert 20 = .ok (.goto 4, 3) := by decide +kernel
theorem d_O_movedOverInsert_23 : decode c_O_movedOverInsert 23 = .ok (.iconst 0, 1) := by decide +kernel
theorem d_O_movedOverInsert_24 : decode c_O_movedOverInsert 24 = .ok (.istore_n 2, 1) := by decide +kernel
theorem d_O_movedOverInsert_25 : decode c_O_movedOverInsert 25 = .ok (.iload_n 2, 1) := by decide +kernel
theorem d_O_movedOverInsert_26 : decode c_O_movedOverInsert 26 = .ok (.ifCond .eq 18, 3) := by decide +kernel
theorem d_O_movedOverInsert_29 : decode c_O_movedOverInsert 29 = .ok (.iload_n 0, 1) := by decide +kernel
theorem d_O_movedOverInsert_30 : decode c_O_movedOverInsert 30 = .ok (.invokestatic 29, 3) := by decide +kernel
theorem d_O_movedOverInsert_33 : decode c_O_movedOverInsert 33 = .ok (.iload_n 1, 1) := by decide +kernel
theorem d_O_movedOverInsert_34 : decode c_O_movedOverInsert 34 = .ok (.invokestatic 29, 3) := by decide +kernel
theorem d_O_movedOverInsert_37 : decode c_O_movedOverInsert 37 = .ok (.if_icmp .ge 7, 3) := by decide +kernel
theorem d_O_movedOverInsert_40 : decode c_O_movedOverInsert 40 = .ok (.iload_n 0, 1) := by decide +kernel
theorem d_O_movedOverInsert_41 : decode c_O_movedOverInsert 41 = .ok (.goto 8, 3) := by decide +kernel
theorem d_O_movedOverInsert_44 : decode c_O_movedOverInsert 44 = .ok (.iload_n 0, 1) := by decide +kernel
theorem d_O_movedOverInsert_45 : decode c_O_movedOverInsert 45 = .ok (.iconst 1, 1) := by decide +kernel
theorem d_O_movedOverInsert_46 : decode c_O_movedOverInsert 46 = .ok (.invokestatic 32, 3) := by decide +kernel
theorem d_O_movedOverInsert_49 : decode c_O_movedOverInsert 49 = .ok (.ireturn, 1) := by decide +kernel
theorem d_O_movedOverErase_0 : decode c_O_movedOverErase 0 = .ok (.iload_n 0, 1) := by decide +kernel
theorem d_O_movedOverErase_1 : decode c_O_movedOverErase 1 = .ok (.invokestatic 19, 3) := by decide +kernel
theorem d_O_movedOverErase_4 : decode c_O_movedOverErase 4 = .ok (.iload_n 1, 1) := by decide +kernel
theorem d_O_movedOverErase_5 : decode c_O_movedOverErase 5 = .ok (.invokestatic 19, 3) := by decide +kernel
theorem d_O_movedOverErase_8 : decode c_O_movedOverErase 8 = .ok (.if_icmp .le 9, 3) := by decide +kernel
theorem d_O_movedOverErase_11 : decode c_O_movedOverErase 11 = .ok (.iload_n 0, 1) := by decide +kernel
theorem d_O_movedOverErase_12 : decode c_O_movedOverErase 12 = .ok (.iconst (-1), 1) := by decide +kernel
theorem d_O_movedOverErase_13 : decode c_O_movedOverErase 13 = .ok (.invokestatic 32, 3) := by decide +kernel
theorem d_O_movedOverErase_16 : decode c_O_movedOverErase 16 = .ok (.ireturn, 1) := by decide +kernel
theorem d_O_movedOverErase_17 : decode c_O_movedOverErase 17 = .ok (.iload_n 0, 1) := by decide +kernel
theorem d_O_movedOverErase_18 : decode c_O_movedOverErase 18 = .ok (.invokestatic 15, 3) := by decide +kernel
theorem d_O_movedOverErase_21 : decode c_O_movedOverErase 21 = .ok (.iconst 1, 1) := by decide +kernel
theorem d_O_movedOverErase_22 : decode c_O_movedOverErase 22 = .ok (.if_icmp .ne 7, 3) := by decide +kernel
theorem d_O_movedOverErase_25 : decode c_O_movedOverErase 25 = .ok (.iload_n 0, 1) := by decide +kernel
theorem d_O_movedOverErase_26 : decode c_O_movedOverErase 26 = .ok (.goto 10, 3) := by decide +kernel
theorem d_O_movedOverErase_29 : decode c_O_movedOverErase 29 = .ok (.iload_n 0, 1) := by decide +kernel
theorem d_O_movedOverErase_30 : decode c_O_movedOverErase 30 = .ok (.invokestatic 29, 3) := by decide +kernel
theorem d_O_movedOverErase_33 : decode c_O_movedOverErase 33 = .ok (.invokestatic 35, 3) := by decide +kernel
theorem d_O_movedOverErase_36 : decode c_O_movedOverErase 36 = .ok (.ireturn, 1) := by decide +kernel
theorem d_O_shifted_0 : decode c_O_shifted 0 = .ok (.iload_n 0, 1) := by decide +kernel
theorem d_O_shifted_1 : decode c_O_shifted 1 = .ok (.invokestatic 15, 3) := by decide +kernel
theorem d_O_shifted_4 : decode c_O_shifted 4 = .ok (.iload_n 0, 1) := by decide +kernel
theorem d_O_shifted_5 : decode c_O_shifted 5 = .ok (.invokestatic 19, 3) := by decide +kernel
theorem d_O_shifted_8 : decode c_O_shifted 8 = .ok (.iload_n 1, 1) := by decide +kernel
theorem d_O_shifted_9 : decode c_O_shifted 9 = .ok (.iadd, 1) := by decide +kernel
theorem d_O_shifted_10 : decode c_O_shifted 10 = .ok (.iload_n 0, 1) := by decide +kernel
theorem d_O_shifted_11 : decode c_O_shifted 11 = .ok (.invokestatic 38, 3) := by decide +kernel
theorem d_O_shifted_14 : decode c_O_shifted 14 = .ok (.iload_n 0, 1) := by decide +kernel
theorem d_O_shifted_15 : decode c_O_shifted 15 = .ok (.invokestatic 29, 3) := by decide +kernel
theorem d_O_shifted_18 : decode c_O_shifted 18 = .ok (.invokestatic 11, 3) := by decide +kernel
theorem d_O_shifted_21 : decode c_O_shifted 21 = .ok (.ireturn, 1) := by decide +kernel
theorem d_S_init_0 : decode c_S_init 0 = .ok (.aload_n 0, 1) := by decide +kernel
theorem d_S_init_1 : decode c_S_init 1 = .ok (.invokespecial 3, 3) := by decide +kernel
theorem d_S_init_4 : decode c_S_init 4 = .ok (.aload_n 0, 1) := by decide +kernel
theorem d_S_init_5 : decode c_S_init 5 = .ok (.new 9, 3) := by decide +kernel
theorem d_S_init_8 : decode c_S_init 8 = .ok (.dup, 1) := by decide +kernel
theorem d_S_init_9 : decode c_S_init 9 = .ok (.invokespecial 11, 3) := by decide +kernel
theorem d_S_init_12 : decode c_S_init 12 = .ok (.putfield 12, 3) := by decide +kernel
theorem d_S_init_15 : decode c_S_init 15 = .ok (.aload_n 0, 1) := by decide +kernel
theorem d_S_init_16 : decode c_S_init 16 = .ok (.bipush 60, 2) := by decide +kernel
theorem d_S_init_18 : decode c_S_init 18 = .ok (.newarray .int, 2) := by decide +kernel
theorem d_S_init_20 : decode c_S_init 20 = .ok (.putfield 18, 3) := by decide +kernel
theorem d_S_init_23 : decode c_S_init 23 = .ok (.aload_n 0, 1) := by decide +kernel
theorem d_S_init_24 : decode c_S_init 24 = .ok (.bipush 60, 2) := by decide +kernel
theorem d_S_init_26 : decode c_S_init 26 = .ok (.newarray .int, 2) := by decide +kernel
theorem d_S_init_28 : decode c_S_init 28 = .ok (.putfield 22, 3) := by decide +kernel
theorem d_S_init_31 : decode c_S_init 31 = .ok (.aload_n 0, 1) := by decide +kernel
theorem d_S_init_32 : decode c_S_init 32 = .ok (.iconst 0, 1) := by decide +kernel
theorem d_S_init_33 : decode c_S_init 33 = .ok (.putfield 25, 3) := by decide +kernel
theorem d_S_init_36 : decode c_S_init 36 = .ok (.aload_n 0, 1) := by decide +kernel
theorem d_S_init_37 : decode c_S_init 37 = .ok (.iconst 1, 1) := by decide +kernel
theorem d_S_init_38 : decode c_S_init 38 = .ok (.putfield 29, 3) := by decide +kernel
theorem d_S_init_41 : decode c_S_init 41 = .ok (.aload_n 0, 1) := by decide +kernel
theorem d_S_init_42 : decode c_S_init 42 = .ok (.iconst 0, 1) := by decide +kernel
theorem d_S_init_43 : decode c_S_init 43 = .ok (.putfield 33, 3) := by decide +kernel
theorem d_S_init_46 : decode c_S_init 46 = .ok (.return_, 1) := by decide +kernel
theorem d_S_written_0 : decode c_S_written 0 = .ok (.aload_n 0, 1) := by decide +kernel
theorem d_S_written_1 : decode c_S_written 1 = .ok (.getfield 25, 3) := by decide +kernel
theorem d_S_written_4 : decode c_S_written 4 = .ok (.ireturn, 1) := by decide +kernel
theorem d_S_hasWritten_0 : decode c_S_hasWritten 0 = .ok (.iload_n 1, 1) := by decide +kernel
theorem d_S_hasWritten_1 : decode c_S_hasWritten 1 = .ok (.ifCond .lt 15, 3) := by decide +kernel
theorem d_S_hasWritten_4 : decode c_S_hasWritten 4 = .ok (.iload_n 1, 1) := by decide +kernel
theorem d_S_hasWritten_5 : decode c_S_hasWritten 5 = .ok (.aload_n 0, 1) := by decide +kernel
theorem d_S_hasWritten_6 : decode c_S_hasWritten 6 = .ok (.getfield 25, 3) := by decide +kernel
theorem d_S_hasWritten_9 : decode c_S_hasWritten 9 = .ok (.if_icmp .ge 7, 3) := by decide +kernel
theorem d_S_hasWritten_12 : decode c_S_hasWritten 12 = .ok (.iconst 1, 1) := by decide +kernel
theorem d_S_hasWritten_13 : decode c_S_hasWritten 13 = .ok (.goto 4, 3) := by decide +kernel
theorem d_S_hasWritten_16 : decode c_S_hasWritten 16 = .ok (.iconst 0, 1) := by decide +kernel
theorem d_S_hasWritten_17 : decode c_S_hasWritten 17 = .ok (.ireturn, 1) := by decide +kernel
theorem d_S_isFull_0 : decode c_S_isFull 0 = .ok (.aload_n 0, 1) := by decide +kernel
theorem d_S_isFull_1 : decode c_S_isFull 1 = .ok (.getfield 25, 3) := by decide +kernel
theorem d_S_isFull_4 : decode c_S_isFull 4 = .ok (.bipush 60, 2) := by decide +kernel
theorem d_S_isFull_6 : decode c_S_isFull 6 = .ok (.if_icmp .lt 7, 3) := by decide +kernel
theorem d_S_isFull_9 : decode c_S_isFull 9 = .ok (.iconst 1, 1) := by decide +kernel
theorem d_S_isFull_10 : decode c_S_isFull 10 = .ok (.goto 4, 3) := by decide +kernel
theorem d_S_isFull_13 : decode c_S_isFull 13 = .ok (.iconst 0, 1) := by decide +kernel
theorem d_S_isFull_14 : decode c_S_isFull 14 = .ok (.ireturn, 1) := by decide +kernel
theorem d_S_opAt_0 : decode c_S_opAt 0 = .ok (.aload_n 0, 1) := by decide +kernel
theorem d_S_opAt_1 : decode c_S_opAt 1 = .ok (.getfield 18, 3) := by decide +kernel
theorem d_S_opAt_4 : decode c_S_opAt 4 = .ok (.iload_n 1, 1) := by decide +kernel
theorem d_S_opAt_5 : decode c_S_opAt 5 = .ok (.iaload, 1) := by decide +kernel
theorem d_S_opAt_6 : decode c_S_opAt 6 = .ok (.ireturn, 1) := by decide +kernel
theorem d_S_numberAt_0 : decode c_S_numberAt 0 = .ok (.aload_n 0, 1) := by decide +kernel
theorem d_S_numberAt_1 : decode c_S_numberAt 1 = .ok (.getfield 22, 3) := by decide +kernel
theorem d_S_numberAt_4 : decode c_S_numberAt 4 = .ok (.iload_n 1, 1) := by decide +kernel
theorem d_S_numberAt_5 : decode c_S_numberAt 5 = .ok (.iaload, 1) := by decide +kernel
theorem d_S_numberAt_6 : decode c_S_numberAt 6 = .ok (.ireturn, 1) := by decide +kernel
theorem d_S_isUp_0 : decode c_S_isUp 0 = .ok (.aload_n 0, 1) := by decide +kernel
theorem d_S_isUp_1 : decode c_S_isUp 1 = .ok (.getfield 29, 3) := by decide +kernel
theorem d_S_isUp_4 : decode c_S_isUp 4 = .ok (.ireturn, 1) := by decide +kernel
theorem d_S_setTrip_0 : decode c_S_setTrip 0 = .ok (.aload_n 0, 1) := by decide +kernel
theorem d_S_setTrip_1 : decode c_S_setTrip 1 = .ok (.iload_n 1, 1) := by decide +kernel
theorem d_S_setTrip_2 : decode c_S_setTrip 2 = .ok (.putfield 33, 3) := by decide +kernel
theorem d_S_setTrip_5 : decode c_S_setTrip 5 = .ok (.return_, 1) := by decide +kernel
theorem d_S_goDown_0 : decode c_S_goDown 0 = .ok (.aload_n 0, 1) := by decide +kernel
theorem d_S_goDown_1 : decode c_S_goDown 1 = .ok (.iconst 0, 1) := by decide +kernel
theorem d_S_goDown_2 : decode c_S_goDown 2 = .ok (.putfield 29, 3) := by decide +kernel
theorem d_S_goDown_5 : decode c_S_goDown 5 = .ok (.return_, 1) := by decide +kernel
theorem d_S_comeUp_0 : decode c_S_comeUp 0 = .ok (.aload_n 0, 1) := by decide +kernel
theorem d_S_comeUp_1 : decode c_S_comeUp 1 = .ok (.iconst 1, 1) := by decide +kernel
theorem d_S_comeUp_2 : decode c_S_comeUp 2 = .ok (.putfield 29, 3) := by decide +kernel
theorem d_S_comeUp_5 : decode c_S_comeUp 5 = .ok (.aload_n 0, 1) := by decide +kernel
theorem d_S_comeUp_6 : decode c_S_comeUp 6 = .ok (.iconst 0, 1) := by decide +kernel
theorem d_S_comeUp_7 : decode c_S_comeUp 7 = .ok (.putfield 33, 3) := by decide +kernel
theorem d_S_comeUp_10 : decode c_S_comeUp 10 = .ok (.aload_n 0, 1) := by decide +kernel
theorem d_S_comeUp_11 : decode c_S_comeUp 11 = .ok (.getfield 12, 3) := by decide +kernel
theorem d_S_comeUp_14 : decode c_S_comeUp 14 = .ok (.invokevirtual 36, 3) := by decide +kernel
theorem d_S_comeUp_17 : decode c_S_comeUp 17 = .ok (.iconst 0, 1) := by decide +kernel
theorem d_S_comeUp_18 : decode c_S_comeUp 18 = .ok (.istore_n 1, 1) := by decide +kernel
theorem d_S_comeUp_19 : decode c_S_comeUp 19 = .ok (.iload_n 1, 1) := by decide +kernel
theorem d_S_comeUp_20 : decode c_S_comeUp 20 = .ok (.aload_n 0, 1) := by decide +kernel
theorem d_S_comeUp_21 : decode c_S_comeUp 21 = .ok (.getfield 25, 3) := by decide +kernel
theorem d_S_comeUp_24 : decode c_S_comeUp 24 = .ok (.if_icmp .ge 23, 3) := by decide +kernel
theorem d_S_comeUp_27 : decode c_S_comeUp 27 = .ok (.aload_n 0, 1) := by decide +kernel
theorem d_S_comeUp_28 : decode c_S_comeUp 28 = .ok (.getfield 12, 3) := by decide +kernel
theorem d_S_comeUp_31 : decode c_S_comeUp 31 = .ok (.aload_n 0, 1) := by decide +kernel
theorem d_S_comeUp_32 : decode c_S_comeUp 32 = .ok (.getfield 18, 3) := by decide +kernel
theorem d_S_comeUp_35 : decode c_S_comeUp 35 = .ok (.iload_n 1, 1) := by decide +kernel
theorem d_S_comeUp_36 : decode c_S_comeUp 36 = .ok (.iaload, 1) := by decide +kernel
theorem d_S_comeUp_37 : decode c_S_comeUp 37 = .ok (.invokevirtual 39, 3) := by decide +kernel
theorem d_S_comeUp_40 : decode c_S_comeUp 40 = .ok (.pop, 1) := by decide +kernel
theorem d_S_comeUp_41 : decode c_S_comeUp 41 = .ok (.iinc 1 1, 3) := by decide +kernel
theorem d_S_comeUp_44 : decode c_S_comeUp 44 = .ok (.goto (-25), 3) := by decide +kernel
theorem d_S_comeUp_47 : decode c_S_comeUp 47 = .ok (.return_, 1) := by decide +kernel
theorem d_S_countOf_0 : decode c_S_countOf 0 = .ok (.iconst 0, 1) := by decide +kernel
theorem d_S_countOf_1 : decode c_S_countOf 1 = .ok (.istore_n 2, 1) := by decide +kernel
theorem d_S_countOf_2 : decode c_S_countOf 2 = .ok (.iconst 0, 1) := by decide +kernel
theorem d_S_countOf_3 : decode c_S_countOf 3 = .ok (.istore_n 3, 1) := by decide +kernel
theorem d_S_countOf_4 : decode c_S_countOf 4 = .ok (.iload_n 3, 1) := by decide +kernel
theorem d_S_countOf_5 : decode c_S_countOf 5 = .ok (.aload_n 0, 1) := by decide +kernel
theorem d_S_countOf_6 : decode c_S_countOf 6 = .ok (.getfield 25, 3) := by decide +kernel
theorem d_S_countOf_9 : decode c_S_countOf 9 = .ok (.if_icmp .ge 25, 3) := by decide +kernel
theorem d_S_countOf_12 : decode c_S_countOf 12 = .ok (.aload_n 0, 1) := by decide +kernel
theorem d_S_countOf_13 : decode c_S_countOf 13 = .ok (.getfield 18, 3) := by decide +kernel
theorem d_S_countOf_16 : decode c_S_countOf 16 = .ok (.iload_n 3, 1) := by decide +kernel
theorem d_S_countOf_17 : decode c_S_countOf 17 = .ok (.iaload, 1) := by decide +kernel
theorem d_S_countOf_18 : decode c_S_countOf 18 = .ok (.invokestatic 43, 3) := by decide +kernel
theorem d_S_countOf_21 : decode c_S_countOf 21 = .ok (.iload_n 1, 1) := by decide +kernel
theorem d_S_countOf_22 : decode c_S_countOf 22 = .ok (.if_icmp .ne 6, 3) := by decide +kernel
theorem d_S_countOf_25 : decode c_S_countOf 25 = .ok (.iinc 2 1, 3) := by decide +kernel
theorem d_S_countOf_28 : decode c_S_countOf 28 = .ok (.iinc 3 1, 3) := by decide +kernel
theorem d_S_countOf_31 : decode c_S_countOf 31 = .ok (.goto (-27), 3) := by decide +kernel
theorem d_S_countOf_34 : decode c_S_countOf 34 = .ok (.iload_n 2, 1) := by decide +kernel
theorem d_S_countOf_35 : decode c_S_countOf 35 = .ok (.ireturn, 1) := by decide +kernel
theorem d_S_movedFrom_0 : decode c_S_movedFrom 0 = .ok (.iload_n 2, 1) := by decide +kernel
theorem d_S_movedFrom_1 : decode c_S_movedFrom 1 = .ok (.istore_n 3, 1) := by decide +kernel
theorem d_S_movedFrom_2 : decode c_S_movedFrom 2 = .ok (.iload_n 1, 1) := by decide +kernel
theorem d_S_movedFrom_3 : decode c_S_movedFrom 3 = .ok (.istore 4, 2) := by decide +kernel
theorem d_S_movedFrom_5 : decode c_S_movedFrom 5 = .ok (.iload 4, 2) := by decide +kernel
theorem d_S_movedFrom_7 : decode c_S_movedFrom 7 = .ok (.aload_n 0, 1) := by decide +kernel
theorem d_S_movedFrom_8 : decode c_S_movedFrom 8 = .ok (.getfield 25, 3) := by decide +kernel
theorem d_S_movedFrom_11 : decode c_S_movedFrom 11 = .ok (.if_icmp .ge 21, 3) := by decide +kernel
theorem d_S_movedFrom_14 : decode c_S_movedFrom 14 = .ok (.iload_n 3, 1) := by decide +kernel
theorem d_S_movedFrom_15 : decode c_S_movedFrom 15 = .ok (.aload_n 0, 1) := by decide +kernel
theorem d_S_movedFrom_16 : decode c_S_movedFrom 16 = .ok (.getfield 18, 3) := by decide +kernel
theorem d_S_movedFrom_19 : decode c_S_movedFrom 19 = .ok (.iload 4, 2) := by decide +kernel
theorem d_S_movedFrom_21 : decode c_S_movedFrom 21 = .ok (.iaload, 1) := by decide +kernel
theorem d_S_movedFrom_22 : decode c_S_movedFrom 22 = .ok (.invokestatic 48, 3) := by decide +kernel
theorem d_S_movedFrom_25 : decode c_S_movedFrom 25 = .ok (.istore_n 3, 1) := by decide +kernel
theorem d_S_movedFrom_26 : decode c_S_movedFrom 26 = .ok (.iinc 4 1, 3) := by decide +kernel
theorem d_S_movedFrom_29 : decode c_S_movedFrom 29 = .ok (.goto (-24), 3) := by decide +kernel
theorem d_S_movedFrom_32 : decode c_S_movedFrom 32 = .ok (.iload_n 3, 1) := by decide +kernel
theorem d_S_movedFrom_33 : decode c_S_movedFrom 33 = .ok (.ireturn, 1) := by decide +kernel
theorem d_S_enter_0 : decode c_S_enter 0 = .ok (.aload_n 0, 1) := by decide +kernel
theorem d_S_enter_1 : decode c_S_enter 1 = .ok (.getfield 33, 3) := by decide +kernel
theorem d_S_enter_4 : decode c_S_enter 4 = .ok (.iconst 1, 1) := by decide +kernel
theorem d_S_enter_5 : decode c_S_enter 5 = .ok (.if_icmp .ne 9, 3) := by decide +kernel
theorem d_S_enter_8 : decode c_S_enter 8 = .ok (.aload_n 0, 1) := by decide +kernel
theorem d_S_enter_9 : decode c_S_enter 9 = .ok (.invokevirtual 52, 3) := by decide +kernel
theorem d_S_enter_12 : decode c_S_enter 12 = .ok (.iconst 0, 1) := by decide +kernel
theorem d_S_enter_13 : decode c_S_enter 13 = .ok (.ireturn, 1) := by decide +kernel
theorem d_S_enter_14 : decode c_S_enter 14 = .ok (.aload_n 0, 1) := by decide +kernel
theorem d_S_enter_15 : decode c_S_enter 15 = .ok (.iload_n 1, 1) := by decide +kernel
theorem d_S_enter_16 : decode c_S_enter 16 = .ok (.iload_n 2, 1) := by decide +kernel
theorem d_S_enter_17 : decode c_S_enter 17 = .ok (.invokevirtual 55, 3) := by decide +kernel
theorem d_S_enter_20 : decode c_S_enter 20 = .ok (.aload_n 0, 1) := by decide +kernel
theorem d_S_enter_21 : decode c_S_enter 21 = .ok (.getfield 33, 3) := by decide +kernel
theorem d_S_enter_24 : decode c_S_enter 24 = .ok (.iconst 2, 1) := by decide +kernel
theorem d_S_enter_25 : decode c_S_enter 25 = .ok (.if_icmp .ne 9, 3) := by decide +kernel
theorem d_S_enter_28 : decode c_S_enter 28 = .ok (.aload_n 0, 1) := by decide +kernel
theorem d_S_enter_29 : decode c_S_enter 29 = .ok (.invokevirtual 52, 3) := by decide +kernel
theorem d_S_enter_32 : decode c_S_enter 32 = .ok (.iconst 0, 1) := by decide +kernel
theorem d_S_enter_33 : decode c_S_enter 33 = .ok (.ireturn, 1) := by decide +kernel
theorem d_S_enter_34 : decode c_S_enter 34 = .ok (.aload_n 0, 1) := by decide +kernel
theorem d_S_enter_35 : decode c_S_enter 35 = .ok (.getfield 12, 3) := by decide +kernel
theorem d_S_enter_38 : decode c_S_enter 38 = .ok (.iload_n 1, 1) := by decide +kernel
theorem d_S_enter_39 : decode c_S_enter 39 = .ok (.invokevirtual 39, 3) := by decide +kernel
theorem d_S_enter_42 : decode c_S_enter 42 = .ok (.pop, 1) := by decide +kernel
theorem d_S_enter_43 : decode c_S_enter 43 = .ok (.iconst 1, 1) := by decide +kernel
theorem d_S_enter_44 : decode c_S_enter 44 = .ok (.ireturn, 1) := by decide +kernel
theorem d_S_write_0 : decode c_S_write 0 = .ok (.aload_n 0, 1) := by decide +kernel
theorem d_S_write_1 : decode c_S_write 1 = .ok (.invokevirtual 59, 3) := by decide +kernel
theorem d_S_write_4 : decode c_S_write 4 = .ok (.ifCond .eq 4, 3) := by decide +kernel
theorem d_S_write_7 : decode c_S_write 7 = .ok (.return_, 1) := by decide +kernel
theorem d_S_write_8 : decode c_S_write 8 = .ok (.aload_n 0, 1) := by decide +kernel
theorem d_S_write_9 : decode c_S_write 9 = .ok (.getfield 18, 3) := by decide +kernel
theorem d_S_write_12 : decode c_S_write 12 = .ok (.aload_n 0, 1) := by decide +kernel
theorem d_S_write_13 : decode c_S_write 13 = .ok (.getfield 25, 3) := by decide +kernel
theorem d_S_write_16 : decode c_S_write 16 = .ok (.iload_n 1, 1) := by decide +kernel
theorem d_S_write_17 : decode c_S_write 17 = .ok (.iastore, 1) := by decide +kernel
theorem d_S_write_18 : decode c_S_write 18 = .ok (.aload_n 0, 1) := by decide +kernel
theorem d_S_write_19 : decode c_S_write 19 = .ok (.getfield 22, 3) := by decide +kernel
theorem d_S_write_22 : decode c_S_write 22 = .ok (.aload_n 0, 1) := by decide +kernel
theorem d_S_write_23 : decode c_S_write 23 = .ok (.getfield 25, 3) := by decide +kernel
theorem d_S_write_26 : decode c_S_write 26 = .ok (.iload_n 2, 1) := by decide +kernel
theorem d_S_write_27 : decode c_S_write 27 = .ok (.iastore, 1) := by decide +kernel
theorem d_S_write_28 : decode c_S_write 28 = .ok (.aload_n 0, 1) := by decide +kernel
theorem d_S_write_29 : decode c_S_write 29 = .ok (.dup, 1) := by decide +kernel
theorem d_S_write_30 : decode c_S_write 30 = .ok (.getfield 25, 3) := by decide +kernel
theorem d_S_write_33 : decode c_S_write 33 = .ok (.iconst 1, 1) := by decide +kernel
theorem d_S_write_34 : decode c_S_write 34 = .ok (.iadd, 1) := by decide +kernel
theorem d_S_write_35 : decode c_S_write 35 = .ok (.putfield 25, 3) := by decide +kernel
theorem d_S_write_38 : decode c_S_write 38 = .ok (.return_, 1) := by decide +kernel
theorem d_T_init_0 : decode c_T_init 0 = .ok (.aload_n 0, 1) := by decide +kernel
theorem d_T_init_1 : decode c_T_init 1 = .ok (.invokespecial 3, 3) := by decide +kernel
theorem d_T_init_4 : decode c_T_init 4 = .ok (.aload_n 0, 1) := by decide +kernel
theorem d_T_init_5 : decode c_T_init 5 = .ok (.bipush 68, 2) := by decide +kernel
theorem d_T_init_7 : decode c_T_init 7 = .ok (.newarray .int, 2) := by decide +kernel
theorem d_T_init_9 : decode c_T_init 9 = .ok (.putfield 9, 3) := by decide +kernel
theorem d_T_init_12 : decode c_T_init 12 = .ok (.aload_n 0, 1) := by decide +kernel
theorem d_T_init_13 : decode c_T_init 13 = .ok (.iconst 0, 1) := by decide +kernel
theorem d_T_init_14 : decode c_T_init 14 = .ok (.putfield 15, 3) := by decide +kernel
theorem d_T_init_17 : decode c_T_init 17 = .ok (.return_, 1) := by decide +kernel
theorem d_T_size_0 : decode c_T_size 0 = .ok (.aload_n 0, 1) := by decide +kernel
theorem d_T_size_1 : decode c_T_size 1 = .ok (.getfield 15, 3) := by decide +kernel
theorem d_T_size_4 : decode c_T_size 4 = .ok (.ireturn, 1) := by decide +kernel
theorem d_T_has_0 : decode c_T_has 0 = .ok (.iload_n 1, 1) := by decide +kernel
theorem d_T_has_1 : decode c_T_has 1 = .ok (.ifCond .lt 15, 3) := by decide +kernel
theorem d_T_has_4 : decode c_T_has 4 = .ok (.iload_n 1, 1) := by decide +kernel
theorem d_T_has_5 : decode c_T_has 5 = .ok (.aload_n 0, 1) := by decide +kernel
theorem d_T_has_6 : decode c_T_has 6 = .ok (.getfield 15, 3) := by decide +kernel
theorem d_T_has_9 : decode c_T_has 9 = .ok (.if_icmp .ge 7, 3) := by decide +kernel
theorem d_T_has_12 : decode c_T_has 12 = .ok (.iconst 1, 1) := by decide +kernel
theorem d_T_has_13 : decode c_T_has 13 = .ok (.goto 4, 3) := by decide +kernel
theorem d_T_has_16 : decode c_T_has 16 = .ok (.iconst 0, 1) := by decide +kernel
theorem d_T_has_17 : decode c_T_has 17 = .ok (.ireturn, 1) := by decide +kernel
theorem d_T_at_0 : decode c_T_at 0 = .ok (.aload_n 0, 1) := by decide +kernel
theorem d_T_at_1 : decode c_T_at 1 = .ok (.iload_n 1, 1) := by decide +kernel
theorem d_T_at_2 : decode c_T_at 2 = .ok (.invokevirtual 19, 3) := by decide +kernel
theorem d_T_at_5 : decode c_T_at 5 = .ok (.ifCond .eq 12, 3) := by decide +kernel
theorem d_T_at_8 : decode c_T_at 8 = .ok (.aload_n 0, 1) := by decide +kernel
theorem d_T_at_9 : decode c_T_at 9 = .ok (.getfield 9, 3) := by decide +kernel
theorem d_T_at_12 : decode c_T_at 12 = .ok (.iload_n 1, 1) := by decide +kernel
theorem d_T_at_13 : decode c_T_at 13 = .ok (.iaload, 1) := by decide +kernel
theorem d_T_at_14 : decode c_T_at 14 = .ok (.goto 4, 3) := by decide +kernel
theorem d_T_at_17 : decode c_T_at 17 = .ok (.iconst 0, 1) := by decide +kernel
theorem d_T_at_18 : decode c_T_at 18 = .ok (.ireturn, 1) := by decide +kernel
theorem d_T_empty_0 : decode c_T_empty 0 = .ok (.aload_n 0, 1) := by decide +kernel
theorem d_T_empty_1 : decode c_T_empty 1 = .ok (.iconst 0, 1) := by decide +kernel
theorem d_T_empty_2 : decode c_T_empty 2 = .ok (.putfield 15, 3) := by decide +kernel
theorem d_T_empty_5 : decode c_T_empty 5 = .ok (.return_, 1) := by decide +kernel
theorem d_T_perform_0 : decode c_T_perform 0 = .ok (.iload_n 1, 1) := by decide +kernel
theorem d_T_perform_1 : decode c_T_perform 1 = .ok (.invokestatic 23, 3) := by decide +kernel
theorem d_T_perform_4 : decode c_T_perform 4 = .ok (.istore_n 2, 1) := by decide +kernel
theorem d_T_perform_5 : decode c_T_perform 5 = .ok (.iload_n 1, 1) := by decide +kernel
theorem d_T_perform_6 : decode c_T_perform 6 = .ok (.invokestatic 29, 3) := by decide +kernel
theorem d_T_perform_9 : decode c_T_perform 9 = .ok (.lookupswitch 54 #[(1, 27), (2, 41)], 27) := by decide +kernel
theorem d_T_perform_36 : decode c_T_perform 36 = .ok (.aload_n 0, 1) := by decide +kernel
theorem d_T_perform_37 : decode c_T_perform 37 = .ok (.iload_n 2, 1) := by decide +kernel
theorem d_T_perform_38 : decode c_T_perform 38 = .ok (.iload_n 1, 1) := by decide +kernel
theorem d_T_perform_39 : decode c_T_perform 39 = .ok (.invokestatic 32, 3) := by decide +kernel
theorem d_T_perform_42 : decode c_T_perform 42 = .ok (.invokevirtual 35, 3) := by decide +kernel
theorem d_T_perform_45 : decode c_T_perform 45 = .ok (.iload_n 1, 1) := by decide +kernel
theorem d_T_perform_46 : decode c_T_perform 46 = .ok (.invokestatic 32, 3) := by decide +kernel
theorem d_T_perform_49 : decode c_T_perform 49 = .ok (.ireturn, 1) := by decide +kernel
theorem d_T_perform_50 : decode c_T_perform 50 = .ok (.aload_n 0, 1) := by decide +kernel
theorem d_T_perform_51 : decode c_T_perform 51 = .ok (.iload_n 2, 1) := by decide +kernel
theorem d_T_perform_52 : decode c_T_perform 52 = .ok (.invokevirtual 39, 3) := by decide +kernel
theorem d_T_perform_55 : decode c_T_perform 55 = .ok (.istore_n 3, 1) := by decide +kernel
theorem d_T_perform_56 : decode c_T_perform 56 = .ok (.aload_n 0, 1) := by decide +kernel
theorem d_T_perform_57 : decode c_T_perform 57 = .ok (.iload_n 2, 1) := by decide +kernel
theorem d_T_perform_58 : decode c_T_perform 58 = .ok (.invokevirtual 42, 3) := by decide +kernel
theorem d_T_perform_61 : decode c_T_perform 61 = .ok (.iload_n 3, 1) := by decide +kernel
theorem d_T_perform_62 : decode c_T_perform 62 = .ok (.ireturn, 1) := by decide +kernel
theorem d_T_perform_63 : decode c_T_perform 63 = .ok (.iconst 0, 1) := by decide +kernel
theorem d_T_perform_64 : decode c_T_perform 64 = .ok (.ireturn, 1) := by decide +kernel
theorem d_T_putIn_0 : decode c_T_putIn 0 = .ok (.iload_n 1, 1) := by decide +kernel
theorem d_T_putIn_1 : decode c_T_putIn 1 = .ok (.ifCond .lt 20, 3) := by decide +kernel
theorem d_T_putIn_4 : decode c_T_putIn 4 = .ok (.iload_n 1, 1) := by decide +kernel
theorem d_T_putIn_5 : decode c_T_putIn 5 = .ok (.aload_n 0, 1) := by decide +kernel
theorem d_T_putIn_6 : decode c_T_putIn 6 = .ok (.getfield 15, 3) := by decide +kernel
theorem d_T_putIn_9 : decode c_T_putIn 9 = .ok (.if_icmp .gt 12, 3) := by decide +kernel
theorem d_T_putIn_12 : decode c_T_putIn 12 = .ok (.aload_n 0, 1) := by decide +kernel
theorem d_T_putIn_13 : decode c_T_putIn 13 = .ok (.getfield 15, 3) := by decide +kernel
theorem d_T_putIn_16 : decode c_T_putIn 16 = .ok (.bipush 68, 2) := by decide +kernel
theorem d_T_putIn_18 : decode c_T_putIn 18 = .ok (.if_icmp .lt 4, 3) := by decide +kernel
theorem d_T_putIn_21 : decode c_T_putIn 21 = .ok (.return_, 1) := by decide +kernel
theorem d_T_putIn_22 : decode c_T_putIn 22 = .ok (.aload_n 0, 1) := by decide +kernel
theorem d_T_putIn_23 : decode c_T_putIn 23 = .ok (.getfield 9, 3) := by decide +kernel
theorem d_T_putIn_26 : decode c_T_putIn 26 = .ok (.iload_n 1, 1) := by decide +kernel
theorem d_T_putIn_27 : decode c_T_putIn 27 = .ok (.aload_n 0, 1) := by decide +kernel
theorem d_T_putIn_28 : decode c_T_putIn 28 = .ok (.getfield 9, 3) := by decide +kernel
theorem d_T_putIn_31 : decode c_T_putIn 31 = .ok (.iload_n 1, 1) := by decide +kernel
theorem d_T_putIn_32 : decode c_T_putIn 32 = .ok (.iconst 1, 1) := by decide +kernel
theorem d_T_putIn_33 : decode c_T_putIn 33 = .ok (.iadd, 1) := by decide +kernel
theorem d_T_putIn_34 : decode c_T_putIn 34 = .ok (.aload_n 0, 1) := by decide +kernel
theorem d_T_putIn_35 : decode c_T_putIn 35 = .ok (.getfield 15, 3) := by decide +kernel
theorem d_T_putIn_38 : decode c_T_putIn 38 = .ok (.iload_n 1, 1) := by decide +kernel
theorem d_T_putIn_39 : decode c_T_putIn 39 = .ok (.isub, 1) := by decide +kernel
theorem d_T_putIn_40 : decode c_T_putIn 40 = .ok (.invokestatic 46, 3) := by decide +kernel
theorem d_T_putIn_43 : decode c_T_putIn 43 = .ok (.aload_n 0, 1) := by decide +kernel
theorem d_T_putIn_44 : decode c_T_putIn 44 = .ok (.getfield 9, 3) := by decide +kernel
theorem d_T_putIn_47 : decode c_T_putIn 47 = .ok (.iload_n 1, 1) := by decide +kernel
theorem d_T_putIn_48 : decode c_T_putIn 48 = .ok (.iload_n 2, 1) := by decide +kernel
theorem d_T_putIn_49 : decode c_T_putIn 49 = .ok (.iastore, 1) := by decide +kernel
theorem d_T_putIn_50 : decode c_T_putIn 50 = .ok (.aload_n 0, 1) := by decide +kernel
theorem d_T_putIn_51 : decode c_T_putIn 51 = .ok (.dup, 1) := by decide +kernel
theorem d_T_putIn_52 : decode c_T_putIn 52 = .ok (.getfield 15, 3) := by decide +kernel
theorem d_T_putIn_55 : decode c_T_putIn 55 = .ok (.iconst 1, 1) := by decide +kernel
theorem d_T_putIn_56 : decode c_T_putIn 56 = .ok (.iadd, 1) := by decide +kernel
theorem d_T_putIn_57 : decode c_T_putIn 57 = .ok (.putfield 15, 3) := by decide +kernel
theorem d_T_putIn_60 : decode c_T_putIn 60 = .ok (.return_, 1) := by decide +kernel
theorem d_T_takeOff_0 : decode c_T_takeOff 0 = .ok (.aload_n 0, 1) := by decide +kernel
theorem d_T_takeOff_1 : decode c_T_takeOff 1 = .ok (.iload_n 1, 1) := by decide +kernel
theorem d_T_takeOff_2 : decode c_T_takeOff 2 = .ok (.invokevirtual 19, 3) := by decide +kernel
theorem d_T_takeOff_5 : decode c_T_takeOff 5 = .ok (.ifCond .ne 4, 3) := by decide +kernel
theorem d_T_takeOff_8 : decode c_T_takeOff 8 = .ok (.return_, 1) := by decide +kernel
theorem d_T_takeOff_9 : decode c_T_takeOff 9 = .ok (.aload_n 0, 1) := by decide +kernel
theorem d_T_takeOff_10 : decode c_T_takeOff 10 = .ok (.getfield 9, 3) := by decide +kernel
theorem d_T_takeOff_13 : decode c_T_takeOff 13 = .ok (.iload_n 1, 1) := by decide +kernel
theorem d_T_takeOff_14 : decode c_T_takeOff 14 = .ok (.iconst 1, 1) := by decide +kernel
theorem d_T_takeOff_15 : decode c_T_takeOff 15 = .ok (.iadd, 1) := by decide +kernel
theorem d_T_takeOff_16 : decode c_T_takeOff 16 = .ok (.aload_n 0, 1) := by decide +kernel
theorem d_T_takeOff_17 : decode c_T_takeOff 17 = .ok (.getfield 9, 3) := by decide +kernel
theorem d_T_takeOff_20 : decode c_T_takeOff 20 = .ok (.iload_n 1, 1) := by decide +kernel
theorem d_T_takeOff_21 : decode c_T_takeOff 21 = .ok (.aload_n 0, 1) := by decide +kernel
theorem d_T_takeOff_22 : decode c_T_takeOff 22 = .ok (.getfield 15, 3) := by decide +kernel
theorem d_T_takeOff_25 : decode c_T_takeOff 25 = .ok (.iload_n 1, 1) := by decide +kernel
theorem d_T_takeOff_26 : decode c_T_takeOff 26 = .ok (.isub, 1) := by decide +kernel
theorem d_T_takeOff_27 : decode c_T_takeOff 27 = .ok (.iconst 1, 1) := by decide +kernel
theorem d_T_takeOff_28 : decode c_T_takeOff 28 = .ok (.isub, 1) := by decide +kernel
theorem d_T_takeOff_29 : decode c_T_takeOff 29 = .ok (.invokestatic 46, 3) := by decide +kernel
theorem d_T_takeOff_32 : decode c_T_takeOff 32 = .ok (.aload_n 0, 1) := by decide +kernel
theorem d_T_takeOff_33 : decode c_T_takeOff 33 = .ok (.dup, 1) := by decide +kernel
theorem d_T_takeOff_34 : decode c_T_takeOff 34 = .ok (.getfield 15, 3) := by decide +kernel
theorem d_T_takeOff_37 : decode c_T_takeOff 37 = .ok (.iconst 1, 1) := by decide +kernel
theorem d_T_takeOff_38 : decode c_T_takeOff 38 = .ok (.isub, 1) := by decide +kernel
theorem d_T_takeOff_39 : decode c_T_takeOff 39 = .ok (.putfield 15, 3) := by decide +kernel
theorem d_T_takeOff_42 : decode c_T_takeOff 42 = .ok (.return_, 1) := by decide +kernel
