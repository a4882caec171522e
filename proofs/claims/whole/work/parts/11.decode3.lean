theorem d_M_init_0 : decode c_M_init 0 = .ok (.aload_n 0, 1) := by decide +kernel
theorem d_M_init_1 : decode c_M_init 1 = .ok (.invokespecial 1, 3) := by decide +kernel
theorem d_M_init_4 : decode c_M_init 4 = .ok (.aload_n 0, 1) := by decide +kernel
theorem d_M_init_5 : decode c_M_init 5 = .ok (.sipush 358, 3) := by decide +kernel
theorem d_M_init_8 : decode c_M_init 8 = .ok (.newarray .int, 2) := by decide +kernel
theorem d_M_init_10 : decode c_M_init 10 = .ok (.putfield 7, 3) := by decide +kernel
theorem d_M_init_13 : decode c_M_init 13 = .ok (.aload_n 0, 1) := by decide +kernel
theorem d_M_init_14 : decode c_M_init 14 = .ok (.sipush 358, 3) := by decide +kernel
theorem d_M_init_17 : decode c_M_init 17 = .ok (.newarray .int, 2) := by decide +kernel
theorem d_M_init_19 : decode c_M_init 19 = .ok (.putfield 13, 3) := by decide +kernel
theorem d_M_init_22 : decode c_M_init 22 = .ok (.aload_n 0, 1) := by decide +kernel
theorem d_M_init_23 : decode c_M_init 23 = .ok (.sipush 358, 3) := by decide +kernel
theorem d_M_init_26 : decode c_M_init 26 = .ok (.newarray .int, 2) := by decide +kernel
theorem d_M_init_28 : decode c_M_init 28 = .ok (.putfield 16, 3) := by decide +kernel
theorem d_M_init_31 : decode c_M_init 31 = .ok (.aload_n 0, 1) := by decide +kernel
theorem d_M_init_32 : decode c_M_init 32 = .ok (.sipush 358, 3) := by decide +kernel
theorem d_M_init_35 : decode c_M_init 35 = .ok (.newarray .int, 2) := by decide +kernel
theorem d_M_init_37 : decode c_M_init 37 = .ok (.putfield 19, 3) := by decide +kernel
theorem d_M_init_40 : decode c_M_init 40 = .ok (.aload_n 0, 1) := by decide +kernel
theorem d_M_init_41 : decode c_M_init 41 = .ok (.bipush 60, 2) := by decide +kernel
theorem d_M_init_43 : decode c_M_init 43 = .ok (.newarray .int, 2) := by decide +kernel
theorem d_M_init_45 : decode c_M_init 45 = .ok (.putfield 22, 3) := by decide +kernel
theorem d_M_init_48 : decode c_M_init 48 = .ok (.aload_n 0, 1) := by decide +kernel
theorem d_M_init_49 : decode c_M_init 49 = .ok (.iconst 3, 1) := by decide +kernel
theorem d_M_init_50 : decode c_M_init 50 = .ok (.newarray .int, 2) := by decide +kernel
theorem d_M_init_52 : decode c_M_init 52 = .ok (.putfield 25, 3) := by decide +kernel
theorem d_M_init_55 : decode c_M_init 55 = .ok (.aload_n 0, 1) := by decide +kernel
theorem d_M_init_56 : decode c_M_init 56 = .ok (.iconst 3, 1) := by decide +kernel
theorem d_M_init_57 : decode c_M_init 57 = .ok (.newarray .int, 2) := by decide +kernel
theorem d_M_init_59 : decode c_M_init 59 = .ok (.putfield 28, 3) := by decide +kernel
theorem d_M_init_62 : decode c_M_init 62 = .ok (.aload_n 0, 1) := by decide +kernel
theorem d_M_init_63 : decode c_M_init 63 = .ok (.iconst 3, 1) := by decide +kernel
theorem d_M_init_64 : decode c_M_init 64 = .ok (.newarray .boolean, 2) := by decide +kernel
theorem d_M_init_66 : decode c_M_init 66 = .ok (.putfield 31, 3) := by decide +kernel
theorem d_M_init_69 : decode c_M_init 69 = .ok (.aload_n 0, 1) := by decide +kernel
theorem d_M_init_70 : decode c_M_init 70 = .ok (.iconst 3, 1) := by decide +kernel
theorem d_M_init_71 : decode c_M_init 71 = .ok (.newarray .int, 2) := by decide +kernel
theorem d_M_init_73 : decode c_M_init 73 = .ok (.putfield 35, 3) := by decide +kernel
theorem d_M_init_76 : decode c_M_init 76 = .ok (.aload_n 0, 1) := by decide +kernel
theorem d_M_init_77 : decode c_M_init 77 = .ok (.iconst 3, 1) := by decide +kernel
theorem d_M_init_78 : decode c_M_init 78 = .ok (.newarray .int, 2) := by decide +kernel
theorem d_M_init_80 : decode c_M_init 80 = .ok (.putfield 38, 3) := by decide +kernel
theorem d_M_init_83 : decode c_M_init 83 = .ok (.aload_n 0, 1) := by decide +kernel
theorem d_M_init_84 : decode c_M_init 84 = .ok (.iconst 3, 1) := by decide +kernel
theorem d_M_init_85 : decode c_M_init 85 = .ok (.newarray .int, 2) := by decide +kernel
theorem d_M_init_87 : decode c_M_init 87 = .ok (.putfield 41, 3) := by decide +kernel
theorem d_M_init_90 : decode c_M_init 90 = .ok (.aload_n 0, 1) := by decide +kernel
theorem d_M_init_91 : decode c_M_init 91 = .ok (.sipush 240, 3) := by decide +kernel
theorem d_M_init_94 : decode c_M_init 94 = .ok (.newarray .int, 2) := by decide +kernel
theorem d_M_init_96 : decode c_M_init 96 = .ok (.putfield 44, 3) := by decide +kernel
theorem d_M_init_99 : decode c_M_init 99 = .ok (.aload_n 0, 1) := by decide +kernel
theorem d_M_init_100 : decode c_M_init 100 = .ok (.bipush 32, 2) := by decide +kernel
theorem d_M_init_102 : decode c_M_init 102 = .ok (.newarray .int, 2) := by decide +kernel
theorem d_M_init_104 : decode c_M_init 104 = .ok (.putfield 47, 3) := by decide +kernel
theorem d_M_init_107 : decode c_M_init 107 = .ok (.aload_n 0, 1) := by decide +kernel
theorem d_M_init_108 : decode c_M_init 108 = .ok (.bipush 32, 2) := by decide +kernel
theorem d_M_init_110 : decode c_M_init 110 = .ok (.newarray .int, 2) := by decide +kernel
theorem d_M_init_112 : decode c_M_init 112 = .ok (.putfield 50, 3) := by decide +kernel
theorem d_M_init_115 : decode c_M_init 115 = .ok (.aload_n 0, 1) := by decide +kernel
theorem d_M_init_116 : decode c_M_init 116 = .ok (.bipush 32, 2) := by decide +kernel
theorem d_M_init_118 : decode c_M_init 118 = .ok (.newarray .int, 2) := by decide +kernel
theorem d_M_init_120 : decode c_M_init 120 = .ok (.putfield 53, 3) := by decide +kernel
theorem d_M_init_123 : decode c_M_init 123 = .ok (.aload_n 0, 1) := by decide +kernel
theorem d_M_init_124 : decode c_M_init 124 = .ok (.bipush 32, 2) := by decide +kernel
theorem d_M_init_126 : decode c_M_init 126 = .ok (.newarray .int, 2) := by decide +kernel
theorem d_M_init_128 : decode c_M_init 128 = .ok (.putfield 56, 3) := by decide +kernel
theorem d_M_init_131 : decode c_M_init 131 = .ok (.aload_n 0, 1) := by decide +kernel
theorem d_M_init_132 : decode c_M_init 132 = .ok (.bipush 32, 2) := by decide +kernel
theorem d_M_init_134 : decode c_M_init 134 = .ok (.newarray .int, 2) := by decide +kernel
theorem d_M_init_136 : decode c_M_init 136 = .ok (.putfield 59, 3) := by decide +kernel
theorem d_M_init_139 : decode c_M_init 139 = .ok (.aload_n 0, 1) := by decide +kernel
theorem d_M_init_140 : decode c_M_init 140 = .ok (.bipush 90, 2) := by decide +kernel
theorem d_M_init_142 : decode c_M_init 142 = .ok (.newarray .int, 2) := by decide +kernel
theorem d_M_init_144 : decode c_M_init 144 = .ok (.putfield 62, 3) := by decide +kernel
theorem d_M_init_147 : decode c_M_init 147 = .ok (.return_, 1) := by decide +kernel
theorem d_M_thrown_0 : decode c_M_thrown 0 = .ok (.aload_n 0, 1) := by decide +kernel
theorem d_M_thrown_1 : decode c_M_thrown 1 = .ok (.getfield 65, 3) := by decide +kernel
theorem d_M_thrown_4 : decode c_M_thrown 4 = .ok (.ireturn, 1) := by decide +kernel
theorem d_M_fail_0 : decode c_M_fail 0 = .ok (.aload_n 0, 1) := by decide +kernel
theorem d_M_fail_1 : decode c_M_fail 1 = .ok (.iload_n 1, 1) := by decide +kernel
theorem d_M_fail_2 : decode c_M_fail 2 = .ok (.putfield 65, 3) := by decide +kernel
theorem d_M_fail_5 : decode c_M_fail 5 = .ok (.iconst 0, 1) := by decide +kernel
theorem d_M_fail_6 : decode c_M_fail 6 = .ok (.ireturn, 1) := by decide +kernel
theorem d_M_isClient_0 : decode c_M_isClient 0 = .ok (.iload_n 0, 1) := by decide +kernel
theorem d_M_isClient_1 : decode c_M_isClient 1 = .ok (.ifCond .lt 12, 3) := by decide +kernel
theorem d_M_isClient_4 : decode c_M_isClient 4 = .ok (.iload_n 0, 1) := by decide +kernel
theorem d_M_isClient_5 : decode c_M_isClient 5 = .ok (.iconst 2, 1) := by decide +kernel
theorem d_M_isClient_6 : decode c_M_isClient 6 = .ok (.if_icmp .gt 7, 3) := by decide +kernel
theorem d_M_isClient_9 : decode c_M_isClient 9 = .ok (.iconst 1, 1) := by decide +kernel
theorem d_M_isClient_10 : decode c_M_isClient 10 = .ok (.goto 4, 3) := by decide +kernel
theorem d_M_isClient_13 : decode c_M_isClient 13 = .ok (.iconst 0, 1) := by decide +kernel
theorem d_M_isClient_14 : decode c_M_isClient 14 = .ok (.ireturn, 1) := by decide +kernel
theorem d_M_set_0 : decode c_M_set 0 = .ok (.aload_n 0, 1) := by decide +kernel
theorem d_M_set_1 : decode c_M_set 1 = .ok (.getfield 7, 3) := by decide +kernel
theorem d_M_set_4 : decode c_M_set 4 = .ok (.iload_n 1, 1) := by decide +kernel
theorem d_M_set_5 : decode c_M_set 5 = .ok (.iload_n 2, 1) := by decide +kernel
theorem d_M_set_6 : decode c_M_set 6 = .ok (.iastore, 1) := by decide +kernel
theorem d_M_set_7 : decode c_M_set 7 = .ok (.aload_n 0, 1) := by decide +kernel
theorem d_M_set_8 : decode c_M_set 8 = .ok (.getfield 13, 3) := by decide +kernel
theorem d_M_set_11 : decode c_M_set 11 = .ok (.iload_n 1, 1) := by decide +kernel
theorem d_M_set_12 : decode c_M_set 12 = .ok (.iload_n 3, 1) := by decide +kernel
theorem d_M_set_13 : decode c_M_set 13 = .ok (.iastore, 1) := by decide +kernel
theorem d_M_set_14 : decode c_M_set 14 = .ok (.aload_n 0, 1) := by decide +kernel
theorem d_M_set_15 : decode c_M_set 15 = .ok (.getfield 16, 3) := by decide +kernel
theorem d_M_set_18 : decode c_M_set 18 = .ok (.iload_n 1, 1) := by decide +kernel
theorem d_M_set_19 : decode c_M_set 19 = .ok (.iload 4, 2) := by decide +kernel
theorem d_M_set_21 : decode c_M_set 21 = .ok (.iastore, 1) := by decide +kernel
theorem d_M_set_22 : decode c_M_set 22 = .ok (.aload_n 0, 1) := by decide +kernel
theorem d_M_set_23 : decode c_M_set 23 = .ok (.getfield 19, 3) := by decide +kernel
theorem d_M_set_26 : decode c_M_set 26 = .ok (.iload_n 1, 1) := by decide +kernel
theorem d_M_set_27 : decode c_M_set 27 = .ok (.iload 5, 2) := by decide +kernel
theorem d_M_set_29 : decode c_M_set 29 = .ok (.iastore, 1) := by decide +kernel
theorem d_M_set_30 : decode c_M_set 30 = .ok (.return_, 1) := by decide +kernel
theorem d_M_copy_0 : decode c_M_copy 0 = .ok (.aload_n 0, 1) := by decide +kernel
theorem d_M_copy_1 : decode c_M_copy 1 = .ok (.iload_n 2, 1) := by decide +kernel
theorem d_M_copy_2 : decode c_M_copy 2 = .ok (.aload_n 0, 1) := by decide +kernel
theorem d_M_copy_3 : decode c_M_copy 3 = .ok (.getfield 7, 3) := by decide +kernel
theorem d_M_copy_6 : decode c_M_copy 6 = .ok (.iload_n 1, 1) := by decide +kernel
theorem d_M_copy_7 : decode c_M_copy 7 = .ok (.iaload, 1) := by decide +kernel
theorem d_M_copy_8 : decode c_M_copy 8 = .ok (.aload_n 0, 1) := by decide +kernel
theorem d_M_copy_9 : decode c_M_copy 9 = .ok (.getfield 13, 3) := by decide +kernel
theorem d_M_copy_12 : decode c_M_copy 12 = .ok (.iload_n 1, 1) := by decide +kernel
theorem d_M_copy_13 : decode c_M_copy 13 = .ok (.iaload, 1) := by decide +kernel
theorem d_M_copy_14 : decode c_M_copy 14 = .ok (.aload_n 0, 1) := by decide +kernel
theorem d_M_copy_15 : decode c_M_copy 15 = .ok (.getfield 16, 3) := by decide +kernel
theorem d_M_copy_18 : decode c_M_copy 18 = .ok (.iload_n 1, 1) := by decide +kernel
theorem d_M_copy_19 : decode c_M_copy 19 = .ok (.iaload, 1) := by decide +kernel
theorem d_M_copy_20 : decode c_M_copy 20 = .ok (.aload_n 0, 1) := by decide +kernel
theorem d_M_copy_21 : decode c_M_copy 21 = .ok (.getfield 19, 3) := by decide +kernel
theorem d_M_copy_24 : decode c_M_copy 24 = .ok (.iload_n 1, 1) := by decide +kernel
theorem d_M_copy_25 : decode c_M_copy 25 = .ok (.iaload, 1) := by decide +kernel
theorem d_M_copy_26 : decode c_M_copy 26 = .ok (.invokevirtual 69, 3) := by decide +kernel
theorem d_M_copy_29 : decode c_M_copy 29 = .ok (.return_, 1) := by decide +kernel
theorem d_M_move_0 : decode c_M_move 0 = .ok (.aload_n 0, 1) := by decide +kernel
theorem d_M_move_1 : decode c_M_move 1 = .ok (.getfield 7, 3) := by decide +kernel
theorem d_M_move_4 : decode c_M_move 4 = .ok (.iload_n 1, 1) := by decide +kernel
theorem d_M_move_5 : decode c_M_move 5 = .ok (.iaload, 1) := by decide +kernel
theorem d_M_move_6 : decode c_M_move 6 = .ok (.ifCond .eq 27, 3) := by decide +kernel
theorem d_M_move_9 : decode c_M_move 9 = .ok (.aload_n 0, 1) := by decide +kernel
theorem d_M_move_10 : decode c_M_move 10 = .ok (.getfield 7, 3) := by decide +kernel
theorem d_M_move_13 : decode c_M_move 13 = .ok (.iload_n 2, 1) := by decide +kernel
theorem d_M_move_14 : decode c_M_move 14 = .ok (.iaload, 1) := by decide +kernel
theorem d_M_move_15 : decode c_M_move 15 = .ok (.ifCond .eq 18, 3) := by decide +kernel
theorem d_M_move_18 : decode c_M_move 18 = .ok (.aload_n 0, 1) := by decide +kernel
theorem d_M_move_19 : decode c_M_move 19 = .ok (.getfield 13, 3) := by decide +kernel
theorem d_M_move_22 : decode c_M_move 22 = .ok (.iload_n 1, 1) := by decide +kernel
theorem d_M_move_23 : decode c_M_move 23 = .ok (.iaload, 1) := by decide +kernel
theorem d_M_move_24 : decode c_M_move 24 = .ok (.aload_n 0, 1) := by decide +kernel
theorem d_M_move_25 : decode c_M_move 25 = .ok (.getfield 13, 3) := by decide +kernel
theorem d_M_move_28 : decode c_M_move 28 = .ok (.iload_n 2, 1) := by decide +kernel
theorem d_M_move_29 : decode c_M_move 29 = .ok (.iaload, 1) := by decide +kernel
theorem d_M_move_30 : decode c_M_move 30 = .ok (.if_icmp .ge 4, 3) := by decide +kernel
theorem d_M_move_33 : decode c_M_move 33 = .ok (.return_, 1) := by decide +kernel
theorem d_M_move_34 : decode c_M_move 34 = .ok (.aload_n 0, 1) := by decide +kernel
theorem d_M_move_35 : decode c_M_move 35 = .ok (.getfield 13, 3) := by decide +kernel
theorem d_M_move_38 : decode c_M_move 38 = .ok (.iload_n 1, 1) := by decide +kernel
theorem d_M_move_39 : decode c_M_move 39 = .ok (.iaload, 1) := by decide +kernel
theorem d_M_move_40 : decode c_M_move 40 = .ok (.aload_n 0, 1) := by decide +kernel
theorem d_M_move_41 : decode c_M_move 41 = .ok (.getfield 13, 3) := by decide +kernel
theorem d_M_move_44 : decode c_M_move 44 = .ok (.iload_n 2, 1) := by decide +kernel
theorem d_M_move_45 : decode c_M_move 45 = .ok (.iaload, 1) := by decide +kernel
theorem d_M_move_46 : decode c_M_move 46 = .ok (.if_icmp .ne 7, 3) := by decide +kernel
theorem d_M_move_49 : decode c_M_move 49 = .ok (.iconst 1, 1) := by decide +kernel
theorem d_M_move_50 : decode c_M_move 50 = .ok (.goto 4, 3) := by decide +kernel
theorem d_M_move_53 : decode c_M_move 53 = .ok (.iconst 0, 1) := by decide +kernel
theorem d_M_move_54 : decode c_M_move 54 = .ok (.istore_n 3, 1) := by decide +kernel
theorem d_M_move_55 : decode c_M_move 55 = .ok (.aload_n 0, 1) := by decide +kernel
theorem d_M_move_56 : decode c_M_move 56 = .ok (.getfield 7, 3) := by decide +kernel
theorem d_M_move_59 : decode c_M_move 59 = .ok (.iload_n 2, 1) := by decide +kernel
theorem d_M_move_60 : decode c_M_move 60 = .ok (.iaload, 1) := by decide +kernel
theorem d_M_move_61 : decode c_M_move 61 = .ok (.iconst 1, 1) := by decide +kernel
theorem d_M_move_62 : decode c_M_move 62 = .ok (.if_icmp .ne 46, 3) := by decide +kernel
theorem d_M_move_65 : decode c_M_move 65 = .ok (.iload_n 3, 1) := by decide +kernel
theorem d_M_move_66 : decode c_M_move 66 = .ok (.ifCond .eq 29, 3) := by decide +kernel
theorem d_M_move_69 : decode c_M_move 69 = .ok (.aload_n 0, 1) := by decide +kernel
theorem d_M_move_70 : decode c_M_move 70 = .ok (.getfield 7, 3) := by decide +kernel
theorem d_M_move_73 : decode c_M_move 73 = .ok (.iload_n 1, 1) := by decide +kernel
theorem d_M_move_74 : decode c_M_move 74 = .ok (.iaload, 1) := by decide +kernel
theorem d_M_move_75 : decode c_M_move 75 = .ok (.iconst 1, 1) := by decide +kernel
theorem d_M_move_76 : decode c_M_move 76 = .ok (.if_icmp .ne 19, 3) := by decide +kernel
theorem d_M_move_79 : decode c_M_move 79 = .ok (.aload_n 0, 1) := by decide +kernel
theorem d_M_move_80 : decode c_M_move 80 = .ok (.getfield 19, 3) := by decide +kernel
theorem d_M_move_83 : decode c_M_move 83 = .ok (.iload_n 1, 1) := by decide +kernel
theorem d_M_move_84 : decode c_M_move 84 = .ok (.iaload, 1) := by decide +kernel
theorem d_M_move_85 : decode c_M_move 85 = .ok (.aload_n 0, 1) := by decide +kernel
theorem d_M_move_86 : decode c_M_move 86 = .ok (.getfield 19, 3) := by decide +kernel
theorem d_M_move_89 : decode c_M_move 89 = .ok (.iload_n 2, 1) := by decide +kernel
theorem d_M_move_90 : decode c_M_move 90 = .ok (.iaload, 1) := by decide +kernel
theorem d_M_move_91 : decode c_M_move 91 = .ok (.if_icmp .ge 4, 3) := by decide +kernel
theorem d_M_move_94 : decode c_M_move 94 = .ok (.return_, 1) := by decide +kernel
theorem d_M_move_95 : decode c_M_move 95 = .ok (.aload_n 0, 1) := by decide +kernel
theorem d_M_move_96 : decode c_M_move 96 = .ok (.getfield 13, 3) := by decide +kernel
theorem d_M_move_99 : decode c_M_move 99 = .ok (.iload_n 1, 1) := by decide +kernel
theorem d_M_move_100 : decode c_M_move 100 = .ok (.dup2, 1) := by decide +kernel
theorem d_M_move_101 : decode c_M_move 101 = .ok (.iaload, 1) := by decide +kernel
theorem d_M_move_102 : decode c_M_move 102 = .ok (.iconst 1, 1) := by decide +kernel
theorem d_M_move_103 : decode c_M_move 103 = .ok (.iadd, 1) := by decide +kernel
theorem d_M_move_104 : decode c_M_move 104 = .ok (.iastore, 1) := by decide +kernel
theorem d_M_move_105 : decode c_M_move 105 = .ok (.goto 44, 3) := by decide +kernel
theorem d_M_move_108 : decode c_M_move 108 = .ok (.iload_n 3, 1) := by decide +kernel
theorem d_M_move_109 : decode c_M_move 109 = .ok (.ifCond .eq 30, 3) := by decide +kernel
theorem d_M_move_112 : decode c_M_move 112 = .ok (.aload_n 0, 1) := by decide +kernel
theorem d_M_move_113 : decode c_M_move 113 = .ok (.getfield 7, 3) := by decide +kernel
theorem d_M_move_116 : decode c_M_move 116 = .ok (.iload_n 1, 1) := by decide +kernel
theorem d_M_move_117 : decode c_M_move 117 = .ok (.iaload, 1) := by decide +kernel
theorem d_M_move_118 : decode c_M_move 118 = .ok (.iconst 2, 1) := by decide +kernel
theorem d_M_move_119 : decode c_M_move 119 = .ok (.if_icmp .ne 30, 3) := by decide +kernel
theorem d_M_move_122 : decode c_M_move 122 = .ok (.aload_n 0, 1) := by decide +kernel
theorem d_M_move_123 : decode c_M_move 123 = .ok (.iload_n 1, 1) := by decide +kernel
theorem d_M_move_124 : decode c_M_move 124 = .ok (.iconst 0, 1) := by decide +kernel
theorem d_M_move_125 : decode c_M_move 125 = .ok (.iconst 0, 1) := by decide +kernel
theorem d_M_move_126 : decode c_M_move 126 = .ok (.iconst 0, 1) := by decide +kernel
theorem d_M_move_127 : decode c_M_move 127 = .ok (.aload_n 0, 1) := by decide +kernel
theorem d_M_move_128 : decode c_M_move 128 = .ok (.getfield 19, 3) := by decide +kernel
theorem d_M_move_131 : decode c_M_move 131 = .ok (.iload_n 1, 1) := by decide +kernel
theorem d_M_move_132 : decode c_M_move 132 = .ok (.iaload, 1) := by decide +kernel
theorem d_M_move_133 : decode c_M_move 133 = .ok (.invokevirtual 69, 3) := by decide +kernel
theorem d_M_move_136 : decode c_M_move 136 = .ok (.goto 13, 3) := by decide +kernel
theorem d_M_move_139 : decode c_M_move 139 = .ok (.aload_n 0, 1) := by decide +kernel
theorem d_M_move_140 : decode c_M_move 140 = .ok (.getfield 13, 3) := by decide +kernel
theorem d_M_move_143 : decode c_M_move 143 = .ok (.iload_n 1, 1) := by decide +kernel
theorem d_M_move_144 : decode c_M_move 144 = .ok (.dup2, 1) := by decide +kernel
theorem d_M_move_145 : decode c_M_move 145 = .ok (.iaload, 1) := by decide +kernel
theorem d_M_move_146 : decode c_M_move 146 = .ok (.iconst 1, 1) := by decide +kernel
theorem d_M_move_147 : decode c_M_move 147 = .ok (.isub, 1) := by decide +kernel
theorem d_M_move_148 : decode c_M_move 148 = .ok (.iastore, 1) := by decide +kernel
theorem d_M_move_149 : decode c_M_move 149 = .ok (.return_, 1) := by decide +kernel
theorem d_M_write_0 : decode c_M_write 0 = .ok (.aload_n 0, 1) := by decide +kernel
theorem d_M_write_1 : decode c_M_write 1 = .ok (.iconst 0, 1) := by decide +kernel
theorem d_M_write_2 : decode c_M_write 2 = .ok (.putfield 73, 3) := by decide +kernel
theorem d_M_write_5 : decode c_M_write 5 = .ok (.iload_n 1, 1) := by decide +kernel
theorem d_M_write_6 : decode c_M_write 6 = .ok (.istore_n 3, 1) := by decide +kernel
theorem d_M_write_7 : decode c_M_write 7 = .ok (.iload_n 3, 1) := by decide +kernel
theorem d_M_write_8 : decode c_M_write 8 = .ok (.iload_n 1, 1) := by decide +kernel
theorem d_M_write_9 : decode c_M_write 9 = .ok (.iload_n 2, 1) := by decide +kernel
theorem d_M_write_10 : decode c_M_write 10 = .ok (.iadd, 1) := by decide +kernel
theorem d_M_write_11 : decode c_M_write 11 = .ok (.if_icmp .ge 144, 3) := by decide +kernel
theorem d_M_write_14 : decode c_M_write 14 = .ok (.aload_n 0, 1) := by decide +kernel
theorem d_M_write_15 : decode c_M_write 15 = .ok (.getfield 7, 3) := by decide +kernel
theorem d_M_write_18 : decode c_M_write 18 = .ok (.iload_n 3, 1) := by decide +kernel
theorem d_M_write_19 : decode c_M_write 19 = .ok (.iaload, 1) := by decide +kernel
theorem d_M_write_20 : decode c_M_write 20 = .ok (.iconst 1, 1) := by decide +kernel
theorem d_M_write_21 : decode c_M_write 21 = .ok (.if_icmp .ne 69, 3) := by decide +kernel
theorem d_M_write_24 : decode c_M_write 24 = .ok (.aload_n 0, 1) := by decide +kernel
theorem d_M_write_25 : decode c_M_write 25 = .ok (.getfield 73, 3) := by decide +kernel
theorem d_M_write_28 : decode c_M_write 28 = .ok (.istore 4, 2) := by decide +kernel
theorem d_M_write_30 : decode c_M_write 30 = .ok (.iload 4, 2) := by decide +kernel
theorem d_M_write_32 : decode c_M_write 32 = .ok (.aload_n 0, 1) := by decide +kernel
theorem d_M_write_33 : decode c_M_write 33 = .ok (.getfield 13, 3) := by decide +kernel
theorem d_M_write_36 : decode c_M_write 36 = .ok (.iload_n 3, 1) := by decide +kernel
theorem d_M_write_37 : decode c_M_write 37 = .ok (.iaload, 1) := by decide +kernel
theorem d_M_write_38 : decode c_M_write 38 = .ok (.if_icmp .le 25, 3) := by decide +kernel
theorem d_M_write_41 : decode c_M_write 41 = .ok (.aload_n 0, 1) := by decide +kernel
theorem d_M_write_42 : decode c_M_write 42 = .ok (.getfield 62, 3) := by decide +kernel
theorem d_M_write_45 : decode c_M_write 45 = .ok (.iload 4, 2) := by decide +kernel
theorem d_M_write_47 : decode c_M_write 47 = .ok (.aload_n 0, 1) := by decide +kernel
theorem d_M_write_48 : decode c_M_write 48 = .ok (.getfield 62, 3) := by decide +kernel
theorem d_M_write_51 : decode c_M_write 51 = .ok (.iload 4, 2) := by decide +kernel
theorem d_M_write_53 : decode c_M_write 53 = .ok (.iconst 1, 1) := by decide +kernel
theorem d_M_write_54 : decode c_M_write 54 = .ok (.isub, 1) := by decide +kernel
theorem d_M_write_55 : decode c_M_write 55 = .ok (.iaload, 1) := by decide +kernel
theorem d_M_write_56 : decode c_M_write 56 = .ok (.iastore, 1) := by decide +kernel
theorem d_M_write_57 : decode c_M_write 57 = .ok (.iinc 4 (-1), 3) := by decide +kernel
theorem d_M_write_60 : decode c_M_write 60 = .ok (.goto (-30), 3) := by decide +kernel
theorem d_M_write_63 : decode c_M_write 63 = .ok (.aload_n 0, 1) := by decide +kernel
theorem d_M_write_64 : decode c_M_write 64 = .ok (.getfield 62, 3) := by decide +kernel
theorem d_M_write_67 : decode c_M_write 67 = .ok (.aload_n 0, 1) := by decide +kernel
theorem d_M_write_68 : decode c_M_write 68 = .ok (.getfield 13, 3) := by decide +kernel
theorem d_M_write_71 : decode c_M_write 71 = .ok (.iload_n 3, 1) := by decide +kernel
theorem d_M_write_72 : decode c_M_write 72 = .ok (.iaload, 1) := by decide +kernel
theorem d_M_write_73 : decode c_M_write 73 = .ok (.aload_n 0, 1) := by decide +kernel
theorem d_M_write_74 : decode c_M_write 74 = .ok (.getfield 16, 3) := by decide +kernel
theorem d_M_write_77 : decode c_M_write 77 = .ok (.iload_n 3, 1) := by decide +kernel
theorem d_M_write_78 : decode c_M_write 78 = .ok (.iaload, 1) := by decide +kernel
theorem d_M_write_79 : decode c_M_write 79 = .ok (.iastore, 1) := by decide +kernel
theorem d_M_write_80 : decode c_M_write 80 = .ok (.aload_n 0, 1) := by decide +kernel
theorem d_M_write_81 : decode c_M_write 81 = .ok (.dup, 1) := by decide +kernel
theorem d_M_write_82 : decode c_M_write 82 = .ok (.getfield 73, 3) := by decide +kernel
theorem d_M_write_85 : decode c_M_write 85 = .ok (.iconst 1, 1) := by decide +kernel
theorem d_M_write_86 : decode c_M_write 86 = .ok (.iadd, 1) := by decide +kernel
theorem d_M_write_87 : decode c_M_write 87 = .ok (.putfield 73, 3) := by decide +kernel
theorem d_M_write_90 : decode c_M_write 90 = .ok (.aload_n 0, 1) := by decide +kernel
theorem d_M_write_91 : decode c_M_write 91 = .ok (.getfield 7, 3) := by decide +kernel
theorem d_M_write_94 : decode c_M_write 94 = .ok (.iload_n 3, 1) := by decide +kernel
theorem d_M_write_95 : decode c_M_write 95 = .ok (.iaload, 1) := by decide +kernel
theorem d_M_write_96 : decode c_M_write 96 = .ok (.iconst 2, 1) := by decide +kernel
theorem d_M_write_97 : decode c_M_write 97 = .ok (.if_icmp .ne 52, 3) := by decide +kernel
theorem d_M_write_100 : decode c_M_write 100 = .ok (.aload_n 0, 1) := by decide +kernel
theorem d_M_write_101 : decode c_M_write 101 = .ok (.dup, 1) := by decide +kernel
theorem d_M_write_102 : decode c_M_write 102 = .ok (.getfield 73, 3) := by decide +kernel
theorem d_M_write_105 : decode c_M_write 105 = .ok (.iconst 1, 1) := by decide +kernel
theorem d_M_write_106 : decode c_M_write 106 = .ok (.isub, 1) := by decide +kernel
theorem d_M_write_107 : decode c_M_write 107 = .ok (.putfield 73, 3) := by decide +kernel
theorem d_M_write_110 : decode c_M_write 110 = .ok (.aload_n 0, 1) := by decide +kernel
theorem d_M_write_111 : decode c_M_write 111 = .ok (.getfield 13, 3) := by decide +kernel
theorem d_M_write_114 : decode c_M_write 114 = .ok (.iload_n 3, 1) := by decide +kernel
theorem d_M_write_115 : decode c_M_write 115 = .ok (.iaload, 1) := by decide +kernel
theorem d_M_write_116 : decode c_M_write 116 = .ok (.istore 4, 2) := by decide +kernel
theorem d_M_write_118 : decode c_M_write 118 = .ok (.iload 4, 2) := by decide +kernel
theorem d_M_write_120 : decode c_M_write 120 = .ok (.aload_n 0, 1) := by decide +kernel
theorem d_M_write_121 : decode c_M_write 121 = .ok (.getfield 73, 3) := by decide +kernel
theorem d_M_write_124 : decode c_M_write 124 = .ok (.if_icmp .ge 25, 3) := by decide +kernel
theorem d_M_write_127 : decode c_M_write 127 = .ok (.aload_n 0, 1) := by decide +kernel
theorem d_M_write_128 : decode c_M_write 128 = .ok (.getfield 62, 3) := by decide +kernel
theorem d_M_write_131 : decode c_M_write 131 = .ok (.iload 4, 2) := by decide +kernel
theorem d_M_write_133 : decode c_M_write 133 = .ok (.aload_n 0, 1) := by decide +kernel
theorem d_M_write_134 : decode c_M_write 134 = .ok (.getfield 62, 3) := by decide +kernel
theorem d_M_write_137 : decode c_M_write 137 = .ok (.iload 4, 2) := by decide +kernel
theorem d_M_write_139 : decode c_M_write 139 = .ok (.iconst 1, 1) := by decide +kernel
theorem d_M_write_140 : decode c_M_write 140 = .ok (.iadd, 1) := by decide +kernel
theorem d_M_write_141 : decode c_M_write 141 = .ok (.iaload, 1) := by decide +kernel
theorem d_M_write_142 : decode c_M_write 142 = .ok (.iastore, 1) := by decide +kernel
theorem d_M_write_143 : decode c_M_write 143 = .ok (.iinc 4 1, 3) := by decide +kernel
theorem d_M_write_146 : decode c_M_write 146 = .ok (.goto (-28), 3) := by decide +kernel
theorem d_M_write_149 : decode c_M_write 149 = .ok (.iinc 3 1, 3) := by decide +kernel
theorem d_M_write_152 : decode c_M_write 152 = .ok (.goto (-145), 3) := by decide +kernel
theorem d_M_write_155 : decode c_M_write 155 = .ok (.return_, 1) := by decide +kernel
theorem d_M_writeOf_0 : decode c_M_writeOf 0 = .ok (.iload_n 1, 1) := by decide +kernel
theorem d_M_writeOf_1 : decode c_M_writeOf 1 = .ok (.iconst 3, 1) := by decide +kernel
theorem d_M_writeOf_2 : decode c_M_writeOf 2 = .ok (.if_icmp .ne 15, 3) := by decide +kernel
theorem d_M_writeOf_5 : decode c_M_writeOf 5 = .ok (.aload_n 0, 1) := by decide +kernel
theorem d_M_writeOf_6 : decode c_M_writeOf 6 = .ok (.iconst 0, 1) := by decide +kernel
theorem d_M_writeOf_7 : decode c_M_writeOf 7 = .ok (.aload_n 0, 1) := by decide +kernel
theorem d_M_writeOf_8 : decode c_M_writeOf 8 = .ok (.getfield 76, 3) := by decide +kernel
theorem d_M_writeOf_11 : decode c_M_writeOf 11 = .ok (.invokevirtual 79, 3) := by decide +kernel
theorem d_M_writeOf_14 : decode c_M_writeOf 14 = .ok (.goto 20, 3) := by decide +kernel
theorem d_M_writeOf_17 : decode c_M_writeOf 17 = .ok (.aload_n 0, 1) := by decide +kernel
theorem d_M_writeOf_18 : decode c_M_writeOf 18 = .ok (.bipush 60, 2) := by decide +kernel
theorem d_M_writeOf_20 : decode c_M_writeOf 20 = .ok (.bipush 80, 2) := by decide +kernel
theorem d_M_writeOf_22 : decode c_M_writeOf 22 = .ok (.iload_n 1, 1) := by decide +kernel
theorem d_M_writeOf_23 : decode c_M_writeOf 23 = .ok (.imul, 1) := by decide +kernel
theorem d_M_writeOf_24 : decode c_M_writeOf 24 = .ok (.iadd, 1) := by decide +kernel
theorem d_M_writeOf_25 : decode c_M_writeOf 25 = .ok (.aload_n 0, 1) := by decide +kernel
theorem d_M_writeOf_26 : decode c_M_writeOf 26 = .ok (.getfield 41, 3) := by decide +kernel
theorem d_M_writeOf_29 : decode c_M_writeOf 29 = .ok (.iload_n 1, 1) := by decide +kernel
theorem d_M_writeOf_30 : decode c_M_writeOf 30 = .ok (.iaload, 1) := by decide +kernel
theorem d_M_writeOf_31 : decode c_M_writeOf 31 = .ok (.invokevirtual 79, 3) := by decide +kernel
theorem d_M_writeOf_34 : decode c_M_writeOf 34 = .ok (.return_, 1) := by decide +kernel
theorem d_M_post_0 : decode c_M_post 0 = .ok (.aload_n 0, 1) := by decide +kernel
theorem d_M_post_1 : decode c_M_post 1 = .ok (.getfield 83, 3) := by decide +kernel
theorem d_M_post_4 : decode c_M_post 4 = .ok (.bipush 30, 2) := by decide +kernel
theorem d_M_post_6 : decode c_M_post 6 = .ok (.if_icmp .ne 5, 3) := by decide +kernel
theorem d_M_post_9 : decode c_M_post 9 = .ok (.iconst 0, 1) := by decide +kernel
theorem d_M_post_10 : decode c_M_post 10 = .ok (.ireturn, 1) := by decide +kernel
theorem d_M_post_11 : decode c_M_post 11 = .ok (.aload_n 0, 1) := by decide +kernel
theorem d_M_post_12 : decode c_M_post 12 = .ok (.getfield 47, 3) := by decide +kernel
theorem d_M_post_15 : decode c_M_post 15 = .ok (.aload_n 0, 1) := by decide +kernel
theorem d_M_post_16 : decode c_M_post 16 = .ok (.getfield 83, 3) := by decide +kernel
theorem d_M_post_19 : decode c_M_post 19 = .ok (.iload_n 1, 1) := by decide +kernel
theorem d_M_post_20 : decode c_M_post 20 = .ok (.iastore, 1) := by decide +kernel
theorem d_M_post_21 : decode c_M_post 21 = .ok (.aload_n 0, 1) := by decide +kernel
theorem d_M_post_22 : decode c_M_post 22 = .ok (.getfield 50, 3) := by decide +kernel
theorem d_M_post_25 : decode c_M_post 25 = .ok (.aload_n 0, 1) := by decide +kernel
theorem d_M_post_26 : decode c_M_post 26 = .ok (.getfield 83, 3) := by decide +kernel
theorem d_M_post_29 : decode c_M_post 29 = .ok (.iload_n 2, 1) := by decide +kernel
theorem d_M_post_30 : decode c_M_post 30 = .ok (.iastore, 1) := by decide +kernel
theorem d_M_post_31 : decode c_M_post 31 = .ok (.aload_n 0, 1) := by decide +kernel
theorem d_M_post_32 : decode c_M_post 32 = .ok (.getfield 53, 3) := by decide +kernel
theorem d_M_post_35 : decode c_M_post 35 = .ok (.aload_n 0, 1) := by decide +kernel
theorem d_M_post_36 : decode c_M_post 36 = .ok (.getfield 83, 3) := by decide +kernel
theorem d_M_post_39 : decode c_M_post 39 = .ok (.iload_n 3, 1) := by decide +kernel
theorem d_M_post_40 : decode c_M_post 40 = .ok (.iastore, 1) := by decide +kernel
theorem d_M_post_41 : decode c_M_post 41 = .ok (.aload_n 0, 1) := by decide +kernel
theorem d_M_post_42 : decode c_M_post 42 = .ok (.getfield 56, 3) := by decide +kernel
theorem d_M_post_45 : decode c_M_post 45 = .ok (.aload_n 0, 1) := by decide +kernel
theorem d_M_post_46 : decode c_M_post 46 = .ok (.getfield 83, 3) := by decide +kernel
theorem d_M_post_49 : decode c_M_post 49 = .ok (.iload 4, 2) := by decide +kernel
theorem d_M_post_51 : decode c_M_post 51 = .ok (.iastore, 1) := by decide +kernel
theorem d_M_post_52 : decode c_M_post 52 = .ok (.aload_n 0, 1) := by decide +kernel
theorem d_M_post_53 : decode c_M_post 53 = .ok (.getfield 59, 3) := by decide +kernel
theorem d_M_post_56 : decode c_M_post 56 = .ok (.aload_n 0, 1) := by decide +kernel
theorem d_M_post_57 : decode c_M_post 57 = .ok (.getfield 83, 3) := by decide +kernel
theorem d_M_post_60 : decode c_M_post 60 = .ok (.iconst 0, 1) := by decide +kernel
theorem d_M_post_61 : decode c_M_post 61 = .ok (.iastore, 1) := by decide +kernel
theorem d_M_post_62 : decode c_M_post 62 = .ok (.aload_n 0, 1) := by decide +kernel
theorem d_M_post_63 : decode c_M_post 63 = .ok (.dup, 1) := by decide +kernel
theorem d_M_post_64 : decode c_M_post 64 = .ok (.getfield 83, 3) := by decide +kernel
theorem d_M_post_67 : decode c_M_post 67 = .ok (.iconst 1, 1) := by decide +kernel
theorem d_M_post_68 : decode c_M_post 68 = .ok (.iadd, 1) := by decide +kernel
theorem d_M_post_69 : decode c_M_post 69 = .ok (.putfield 83, 3) := by decide +kernel
theorem d_M_post_72 : decode c_M_post 72 = .ok (.iconst 1, 1) := by decide +kernel
theorem d_M_post_73 : decode c_M_post 73 = .ok (.ireturn, 1) := by decide +kernel
theorem d_M_news_0 : decode c_M_news 0 = .ok (.aload_n 0, 1) := by decide +kernel
theorem d_M_news_1 : decode c_M_news 1 = .ok (.iconst 2, 1) := by decide +kernel
theorem d_M_news_2 : decode c_M_news 2 = .ok (.iload_n 2, 1) := by decide +kernel
theorem d_M_news_3 : decode c_M_news 3 = .ok (.iload_n 1, 1) := by decide +kernel
theorem d_M_news_4 : decode c_M_news 4 = .ok (.aload_n 0, 1) := by decide +kernel
theorem d_M_news_5 : decode c_M_news 5 = .ok (.getfield 22, 3) := by decide +kernel
theorem d_M_news_8 : decode c_M_news 8 = .ok (.iload_n 1, 1) := by decide +kernel
theorem d_M_news_9 : decode c_M_news 9 = .ok (.iaload, 1) := by decide +kernel
theorem d_M_news_10 : decode c_M_news 10 = .ok (.invokevirtual 86, 3) := by decide +kernel
theorem d_M_news_13 : decode c_M_news 13 = .ok (.ifCond .eq 18, 3) := by decide +kernel
theorem d_M_news_16 : decode c_M_news 16 = .ok (.aload_n 0, 1) := by decide +kernel
theorem d_M_news_17 : decode c_M_news 17 = .ok (.iload_n 1, 1) := by decide +kernel
theorem d_M_news_18 : decode c_M_news 18 = .ok (.sipush 324, 3) := by decide +kernel
theorem d_M_news_21 : decode c_M_news 21 = .ok (.aload_n 0, 1) := by decide +kernel
theorem d_M_news_22 : decode c_M_news 22 = .ok (.getfield 83, 3) := by decide +kernel
theorem d_M_news_25 : decode c_M_news 25 = .ok (.iadd, 1) := by decide +kernel
theorem d_M_news_26 : decode c_M_news 26 = .ok (.iconst 1, 1) := by decide +kernel
theorem d_M_news_27 : decode c_M_news 27 = .ok (.isub, 1) := by decide +kernel
theorem d_M_news_28 : decode c_M_news 28 = .ok (.invokevirtual 90, 3) := by decide +kernel
theorem d_M_news_31 : decode c_M_news 31 = .ok (.return_, 1) := by decide +kernel
theorem d_M_speak_0 : decode c_M_speak 0 = .ok (.aload_n 0, 1) := by decide +kernel
theorem d_M_speak_1 : decode c_M_speak 1 = .ok (.getfield 31, 3) := by decide +kernel
theorem d_M_speak_4 : decode c_M_speak 4 = .ok (.iload_n 1, 1) := by decide +kernel
theorem d_M_speak_5 : decode c_M_speak 5 = .ok (.baload, 1) := by decide +kernel
theorem d_M_speak_6 : decode c_M_speak 6 = .ok (.ifCond .eq 4, 3) := by decide +kernel
theorem d_M_speak_9 : decode c_M_speak 9 = .ok (.return_, 1) := by decide +kernel
theorem d_M_speak_10 : decode c_M_speak 10 = .ok (.aload_n 0, 1) := by decide +kernel
theorem d_M_speak_11 : decode c_M_speak 11 = .ok (.getfield 35, 3) := by decide +kernel
theorem d_M_speak_14 : decode c_M_speak 14 = .ok (.iload_n 1, 1) := by decide +kernel
theorem d_M_speak_15 : decode c_M_speak 15 = .ok (.iaload, 1) := by decide +kernel
theorem d_M_speak_16 : decode c_M_speak 16 = .ok (.ifCond .ne 20, 3) := by decide +kernel
theorem d_M_speak_19 : decode c_M_speak 19 = .ok (.aload_n 0, 1) := by decide +kernel
theorem d_M_speak_20 : decode c_M_speak 20 = .ok (.iconst 1, 1) := by decide +kernel
theorem d_M_speak_21 : decode c_M_speak 21 = .ok (.iload_n 1, 1) := by decide +kernel
theorem d_M_speak_22 : decode c_M_speak 22 = .ok (.aload_n 0, 1) := by decide +kernel
theorem d_M_speak_23 : decode c_M_speak 23 = .ok (.getfield 28, 3) := by decide +kernel
theorem d_M_speak_26 : decode c_M_speak 26 = .ok (.iload_n 1, 1) := by decide +kernel
theorem d_M_speak_27 : decode c_M_speak 27 = .ok (.iaload, 1) := by decide +kernel
theorem d_M_speak_28 : decode c_M_speak 28 = .ok (.iconst 0, 1) := by decide +kernel
theorem d_M_speak_29 : decode c_M_speak 29 = .ok (.invokevirtual 86, 3) := by decide +kernel
theorem d_M_speak_32 : decode c_M_speak 32 = .ok (.pop, 1) := by decide +kernel
theorem d_M_speak_33 : decode c_M_speak 33 = .ok (.goto 46, 3) := by decide +kernel
theorem d_M_speak_36 : decode c_M_speak 36 = .ok (.aload_n 0, 1) := by decide +kernel
theorem d_M_speak_37 : decode c_M_speak 37 = .ok (.iconst 0, 1) := by decide +kernel
theorem d_M_speak_38 : decode c_M_speak 38 = .ok (.iload_n 1, 1) := by decide +kernel
theorem d_M_speak_39 : decode c_M_speak 39 = .ok (.aload_n 0, 1) := by decide +kernel
theorem d_M_speak_40 : decode c_M_speak 40 = .ok (.getfield 28, 3) := by decide +kernel
theorem d_M_speak_43 : decode c_M_speak 43 = .ok (.iload_n 1, 1) := by decide +kernel
theorem d_M_speak_44 : decode c_M_speak 44 = .ok (.iaload, 1) := by decide +kernel
theorem d_M_speak_45 : decode c_M_speak 45 = .ok (.aload_n 0, 1) := by decide +kernel
theorem d_M_speak_46 : decode c_M_speak 46 = .ok (.getfield 38, 3) := by decide +kernel
theorem d_M_speak_49 : decode c_M_speak 49 = .ok (.iload_n 1, 1) := by decide +kernel
theorem d_M_speak_50 : decode c_M_speak 50 = .ok (.iaload, 1) := by decide +kernel
theorem d_M_speak_51 : decode c_M_speak 51 = .ok (.invokevirtual 86, 3) := by decide +kernel
theorem d_M_speak_54 : decode c_M_speak 54 = .ok (.ifCond .eq 25, 3) := by decide +kernel
theorem d_M_speak_57 : decode c_M_speak 57 = .ok (.aload_n 0, 1) := by decide +kernel
theorem d_M_speak_58 : decode c_M_speak 58 = .ok (.sipush 300, 3) := by decide +kernel
theorem d_M_speak_61 : decode c_M_speak 61 = .ok (.bipush 8, 2) := by decide +kernel
theorem d_M_speak_63 : decode c_M_speak 63 = .ok (.iload_n 1, 1) := by decide +kernel
theorem d_M_speak_64 : decode c_M_speak 64 = .ok (.imul, 1) := by decide +kernel
theorem d_M_speak_65 : decode c_M_speak 65 = .ok (.iadd, 1) := by decide +kernel
theorem d_M_speak_66 : decode c_M_speak 66 = .ok (.sipush 324, 3) := by decide +kernel
theorem d_M_speak_69 : decode c_M_speak 69 = .ok (.aload_n 0, 1) := by decide +kernel
theorem d_M_speak_70 : decode c_M_speak 70 = .ok (.getfield 83, 3) := by decide +kernel
theorem d_M_speak_73 : decode c_M_speak 73 = .ok (.iadd, 1) := by decide +kernel
theorem d_M_speak_74 : decode c_M_speak 74 = .ok (.iconst 1, 1) := by decide +kernel
theorem d_M_speak_75 : decode c_M_speak 75 = .ok (.isub, 1) := by decide +kernel
theorem d_M_speak_76 : decode c_M_speak 76 = .ok (.invokevirtual 90, 3) := by decide +kernel
theorem d_M_speak_79 : decode c_M_speak 79 = .ok (.return_, 1) := by decide +kernel
theorem d_M_takeOut_0 : decode c_M_takeOut 0 = .ok (.iload_n 1, 1) := by decide +kernel
theorem d_M_takeOut_1 : decode c_M_takeOut 1 = .ok (.istore_n 2, 1) := by decide +kernel
theorem d_M_takeOut_2 : decode c_M_takeOut 2 = .ok (.iload_n 2, 1) := by decide +kernel
theorem d_M_takeOut_3 : decode c_M_takeOut 3 = .ok (.iconst 1, 1) := by decide +kernel
theorem d_M_takeOut_4 : decode c_M_takeOut 4 = .ok (.iadd, 1) := by decide +kernel
theorem d_M_takeOut_5 : decode c_M_takeOut 5 = .ok (.aload_n 0, 1) := by decide +kernel
theorem d_M_takeOut_6 : decode c_M_takeOut 6 = .ok (.getfield 83, 3) := by decide +kernel
theorem d_M_takeOut_9 : decode c_M_takeOut 9 = .ok (.if_icmp .ge 95, 3) := by decide +kernel
theorem d_M_takeOut_12 : decode c_M_takeOut 12 = .ok (.aload_n 0, 1) := by decide +kernel
theorem d_M_takeOut_13 : decode c_M_takeOut 13 = .ok (.getfield 47, 3) := by decide +kernel
theorem d_M_takeOut_16 : decode c_M_takeOut 16 = .ok (.iload_n 2, 1) := by decide +kernel
theorem d_M_takeOut_17 : decode c_M_takeOut 17 = .ok (.aload_n 0, 1) := by decide +kernel
theorem d_M_takeOut_18 : decode c_M_takeOut 18 = .ok (.getfield 47, 3) := by decide +kernel
theorem d_M_takeOut_21 : decode c_M_takeOut 21 = .ok (.iload_n 2, 1) := by decide +kernel
theorem d_M_takeOut_22 : decode c_M_takeOut 22 = .ok (.iconst 1, 1) := by decide +kernel
theorem d_M_takeOut_23 : decode c_M_takeOut 23 = .ok (.iadd, 1) := by decide +kernel
theorem d_M_takeOut_24 : decode c_M_takeOut 24 = .ok (.iaload, 1) := by decide +kernel
theorem d_M_takeOut_25 : decode c_M_takeOut 25 = .ok (.iastore, 1) := by decide +kernel
theorem d_M_takeOut_26 : decode c_M_takeOut 26 = .ok (.aload_n 0, 1) := by decide +kernel
theorem d_M_takeOut_27 : decode c_M_takeOut 27 = .ok (.getfield 50, 3) := by decide +kernel
theorem d_M_takeOut_30 : decode c_M_takeOut 30 = .ok (.iload_n 2, 1) := by decide +kernel
theorem d_M_takeOut_31 : decode c_M_takeOut 31 = .ok (.aload_n 0, 1) := by decide +kernel
theorem d_M_takeOut_32 : decode c_M_takeOut 32 = .ok (.getfield 50, 3) := by decide +kernel
theorem d_M_takeOut_35 : decode c_M_takeOut 35 = .ok (.iload_n 2, 1) := by decide +kernel
theorem d_M_takeOut_36 : decode c_M_takeOut 36 = .ok (.iconst 1, 1) := by decide +kernel
theorem d_M_takeOut_37 : decode c_M_takeOut 37 = .ok (.iadd, 1) := by decide +kernel
theorem d_M_takeOut_38 : decode c_M_takeOut 38 = .ok (.iaload, 1) := by decide +kernel
theorem d_M_takeOut_39 : decode c_M_takeOut 39 = .ok (.iastore, 1) := by decide +kernel
theorem d_M_takeOut_40 : decode c_M_takeOut 40 = .ok (.aload_n 0, 1) := by decide +kernel
theorem d_M_takeOut_41 : decode c_M_takeOut 41 = .ok (.getfield 53, 3) := by decide +kernel
theorem d_M_takeOut_44 : decode c_M_takeOut 44 = .ok (.iload_n 2, 1) := by decide +kernel
theorem d_M_takeOut_45 : decode c_M_takeOut 45 = .ok (.aload_n 0, 1) := by decide +kernel
theorem d_M_takeOut_46 : decode c_M_takeOut 46 = .ok (.getfield 53, 3) := by decide +kernel
theorem d_M_takeOut_49 : decode c_M_takeOut 49 = .ok (.iload_n 2, 1) := by decide +kernel
theorem d_M_takeOut_50 : decode c_M_takeOut 50 = .ok (.iconst 1, 1) := by decide +kernel
theorem d_M_takeOut_51 : decode c_M_takeOut 51 = .ok (.iadd, 1) := by decide +kernel
theorem d_M_takeOut_52 : decode c_M_takeOut 52 = .ok (.iaload, 1) := by decide +kernel
theorem d_M_takeOut_53 : decode c_M_takeOut 53 = .ok (.iastore, 1) := by decide +kernel
theorem d_M_takeOut_54 : decode c_M_takeOut 54 = .ok (.aload_n 0, 1) := by decide +kernel
theorem d_M_takeOut_55 : decode c_M_takeOut 55 = .ok (.getfield 56, 3) := by decide +kernel
theorem d_M_takeOut_58 : decode c_M_takeOut 58 = .ok (.iload_n 2, 1) := by decide +kernel
theorem d_M_takeOut_59 : decode c_M_takeOut 59 = .ok (.aload_n 0, 1) := by decide +kernel
theorem d_M_takeOut_60 : decode c_M_takeOut 60 = .ok (.getfield 56, 3) := by decide +kernel
theorem d_M_takeOut_63 : decode c_M_takeOut 63 = .ok (.iload_n 2, 1) := by decide +kernel
theorem d_M_takeOut_64 : decode c_M_takeOut 64 = .ok (.iconst 1, 1) := by decide +kernel
theorem d_M_takeOut_65 : decode c_M_takeOut 65 = .ok (.iadd, 1) := by decide +kernel
theorem d_M_takeOut_66 : decode c_M_takeOut 66 = .ok (.iaload, 1) := by decide +kernel
theorem d_M_takeOut_67 : decode c_M_takeOut 67 = .ok (.iastore, 1) := by decide +kernel
theorem d_M_takeOut_68 : decode c_M_takeOut 68 = .ok (.aload_n 0, 1) := by decide +kernel
theorem d_M_takeOut_69 : decode c_M_takeOut 69 = .ok (.getfield 59, 3) := by decide +kernel
theorem d_M_takeOut_72 : decode c_M_takeOut 72 = .ok (.iload_n 2, 1) := by decide +kernel
theorem d_M_takeOut_73 : decode c_M_takeOut 73 = .ok (.aload_n 0, 1) := by decide +kernel
theorem d_M_takeOut_74 : decode c_M_takeOut 74 = .ok (.getfield 59, 3) := by decide +kernel
theorem d_M_takeOut_77 : decode c_M_takeOut 77 = .ok (.iload_n 2, 1) := by decide +kernel
theorem d_M_takeOut_78 : decode c_M_takeOut 78 = .ok (.iconst 1, 1) := by decide +kernel
theorem d_M_takeOut_79 : decode c_M_takeOut 79 = .ok (.iadd, 1) := by decide +kernel
theorem d_M_takeOut_80 : decode c_M_takeOut 80 = .ok (.iaload, 1) := by decide +kernel
theorem d_M_takeOut_81 : decode c_M_takeOut 81 = .ok (.iastore, 1) := by decide +kernel
theorem d_M_takeOut_82 : decode c_M_takeOut 82 = .ok (.aload_n 0, 1) := by decide +kernel
theorem d_M_takeOut_83 : decode c_M_takeOut 83 = .ok (.sipush 324, 3) := by decide +kernel
theorem d_M_takeOut_86 : decode c_M_takeOut 86 = .ok (.iload_n 2, 1) := by decide +kernel
theorem d_M_takeOut_87 : decode c_M_takeOut 87 = .ok (.iadd, 1) := by decide +kernel
theorem d_M_takeOut_88 : decode c_M_takeOut 88 = .ok (.iconst 1, 1) := by decide +kernel
theorem d_M_takeOut_89 : decode c_M_takeOut 89 = .ok (.iadd, 1) := by decide +kernel
theorem d_M_takeOut_90 : decode c_M_takeOut 90 = .ok (.sipush 324, 3) := by decide +kernel
theorem d_M_takeOut_93 : decode c_M_takeOut 93 = .ok (.iload_n 2, 1) := by decide +kernel
theorem d_M_takeOut_94 : decode c_M_takeOut 94 = .ok (.iadd, 1) := by decide +kernel
theorem d_M_takeOut_95 : decode c_M_takeOut 95 = .ok (.invokevirtual 90, 3) := by decide +kernel
theorem d_M_takeOut_98 : decode c_M_takeOut 98 = .ok (.iinc 2 1, 3) := by decide +kernel
theorem d_M_takeOut_101 : decode c_M_takeOut 101 = .ok (.goto (-99), 3) := by decide +kernel
theorem d_M_takeOut_104 : decode c_M_takeOut 104 = .ok (.aload_n 0, 1) := by decide +kernel
theorem d_M_takeOut_105 : decode c_M_takeOut 105 = .ok (.dup, 1) := by decide +kernel
theorem d_M_takeOut_106 : decode c_M_takeOut 106 = .ok (.getfield 83, 3) := by decide +kernel
theorem d_M_takeOut_109 : decode c_M_takeOut 109 = .ok (.iconst 1, 1) := by decide +kernel
theorem d_M_takeOut_110 : decode c_M_takeOut 110 = .ok (.isub, 1) := by decide +kernel
theorem d_M_takeOut_111 : decode c_M_takeOut 111 = .ok (.putfield 83, 3) := by decide +kernel
theorem d_M_takeOut_114 : decode c_M_takeOut 114 = .ok (.return_, 1) := by decide +kernel
theorem d_M_make_0 : decode c_M_make 0 = .ok (.aload_n 0, 1) := by decide +kernel
theorem d_M_make_1 : decode c_M_make 1 = .ok (.sipush 356, 3) := by decide +kernel
theorem d_M_make_4 : decode c_M_make 4 = .ok (.sipush 300, 3) := by decide +kernel
theorem d_M_make_7 : decode c_M_make 7 = .ok (.bipush 8, 2) := by decide +kernel
theorem d_M_make_9 : decode c_M_make 9 = .ok (.iload_n 1, 1) := by decide +kernel
theorem d_M_make_10 : decode c_M_make 10 = .ok (.imul, 1) := by decide +kernel
theorem d_M_make_11 : decode c_M_make 11 = .ok (.iadd, 1) := by decide +kernel
theorem d_M_make_12 : decode c_M_make 12 = .ok (.aload_n 0, 1) := by decide +kernel
theorem d_M_make_13 : decode c_M_make 13 = .ok (.getfield 35, 3) := by decide +kernel
theorem d_M_make_16 : decode c_M_make 16 = .ok (.iload_n 1, 1) := by decide +kernel
theorem d_M_make_17 : decode c_M_make 17 = .ok (.iaload, 1) := by decide +kernel
theorem d_M_make_18 : decode c_M_make 18 = .ok (.iadd, 1) := by decide +kernel
theorem d_M_make_19 : decode c_M_make 19 = .ok (.invokevirtual 90, 3) := by decide +kernel
theorem d_M_make_22 : decode c_M_make 22 = .ok (.aload_n 0, 1) := by decide +kernel
theorem d_M_make_23 : decode c_M_make 23 = .ok (.getfield 35, 3) := by decide +kernel
theorem d_M_make_26 : decode c_M_make 26 = .ok (.iload_n 1, 1) := by decide +kernel
theorem d_M_make_27 : decode c_M_make 27 = .ok (.dup2, 1) := by decide +kernel
theorem d_M_make_28 : decode c_M_make 28 = .ok (.iaload, 1) := by decide +kernel
theorem d_M_make_29 : decode c_M_make 29 = .ok (.iconst 1, 1) := by decide +kernel
theorem d_M_make_30 : decode c_M_make 30 = .ok (.iadd, 1) := by decide +kernel
theorem d_M_make_31 : decode c_M_make 31 = .ok (.iastore, 1) := by decide +kernel
theorem d_M_make_32 : decode c_M_make 32 = .ok (.aload_n 0, 1) := by decide +kernel
theorem d_M_make_33 : decode c_M_make 33 = .ok (.iload_n 1, 1) := by decide +kernel
theorem d_M_make_34 : decode c_M_make 34 = .ok (.iload_n 2, 1) := by decide +kernel
theorem d_M_make_35 : decode c_M_make 35 = .ok (.invokevirtual 93, 3) := by decide +kernel
theorem d_M_make_38 : decode c_M_make 38 = .ok (.aload_n 0, 1) := by decide +kernel
theorem d_M_make_39 : decode c_M_make 39 = .ok (.getfield 7, 3) := by decide +kernel
theorem d_M_make_42 : decode c_M_make 42 = .ok (.sipush 356, 3) := by decide +kernel
theorem d_M_make_45 : decode c_M_make 45 = .ok (.iaload, 1) := by decide +kernel
theorem d_M_make_46 : decode c_M_make 46 = .ok (.iconst 2, 1) := by decide +kernel
theorem d_M_make_47 : decode c_M_make 47 = .ok (.if_icmp .ne 25, 3) := by decide +kernel
theorem d_M_make_50 : decode c_M_make 50 = .ok (.aload_n 0, 1) := by decide +kernel
theorem d_M_make_51 : decode c_M_make 51 = .ok (.getfield 16, 3) := by decide +kernel
theorem d_M_make_54 : decode c_M_make 54 = .ok (.bipush 60, 2) := by decide +kernel
theorem d_M_make_56 : decode c_M_make 56 = .ok (.bipush 80, 2) := by decide +kernel
theorem d_M_make_58 : decode c_M_make 58 = .ok (.iload_n 1, 1) := by decide +kernel
theorem d_M_make_59 : decode c_M_make 59 = .ok (.imul, 1) := by decide +kernel
theorem d_M_make_60 : decode c_M_make 60 = .ok (.iadd, 1) := by decide +kernel
theorem d_M_make_61 : decode c_M_make 61 = .ok (.aload_n 0, 1) := by decide +kernel
theorem d_M_make_62 : decode c_M_make 62 = .ok (.getfield 41, 3) := by decide +kernel
theorem d_M_make_65 : decode c_M_make 65 = .ok (.iload_n 1, 1) := by decide +kernel
theorem d_M_make_66 : decode c_M_make 66 = .ok (.iaload, 1) := by decide +kernel
theorem d_M_make_67 : decode c_M_make 67 = .ok (.iadd, 1) := by decide +kernel
theorem d_M_make_68 : decode c_M_make 68 = .ok (.iconst 1, 1) := by decide +kernel
theorem d_M_make_69 : decode c_M_make 69 = .ok (.isub, 1) := by decide +kernel
theorem d_M_make_70 : decode c_M_make 70 = .ok (.iload_n 3, 1) := by decide +kernel
theorem d_M_make_71 : decode c_M_make 71 = .ok (.iastore, 1) := by decide +kernel
theorem d_M_make_72 : decode c_M_make 72 = .ok (.aload_n 0, 1) := by decide +kernel
theorem d_M_make_73 : decode c_M_make 73 = .ok (.getfield 35, 3) := by decide +kernel
theorem d_M_make_76 : decode c_M_make 76 = .ok (.iload_n 1, 1) := by decide +kernel
theorem d_M_make_77 : decode c_M_make 77 = .ok (.iaload, 1) := by decide +kernel
theorem d_M_make_78 : decode c_M_make 78 = .ok (.iconst 1, 1) := by decide +kernel
theorem d_M_make_79 : decode c_M_make 79 = .ok (.if_icmp .ne 8, 3) := by decide +kernel
theorem d_M_make_82 : decode c_M_make 82 = .ok (.aload_n 0, 1) := by decide +kernel
theorem d_M_make_83 : decode c_M_make 83 = .ok (.iload_n 1, 1) := by decide +kernel
theorem d_M_make_84 : decode c_M_make 84 = .ok (.invokevirtual 96, 3) := by decide +kernel
theorem d_M_make_87 : decode c_M_make 87 = .ok (.return_, 1) := by decide +kernel
theorem d_M_log_0 : decode c_M_log 0 = .ok (.aload_n 0, 1) := by decide +kernel
theorem d_M_log_1 : decode c_M_log 1 = .ok (.sipush 356, 3) := by decide +kernel
theorem d_M_log_4 : decode c_M_log 4 = .ok (.bipush 60, 2) := by decide +kernel
theorem d_M_log_6 : decode c_M_log 6 = .ok (.bipush 80, 2) := by decide +kernel
theorem d_M_log_8 : decode c_M_log 8 = .ok (.iload_n 1, 1) := by decide +kernel
theorem d_M_log_9 : decode c_M_log 9 = .ok (.imul, 1) := by decide +kernel
theorem d_M_log_10 : decode c_M_log 10 = .ok (.iadd, 1) := by decide +kernel
theorem d_M_log_11 : decode c_M_log 11 = .ok (.aload_n 0, 1) := by decide +kernel
theorem d_M_log_12 : decode c_M_log 12 = .ok (.getfield 41, 3) := by decide +kernel
theorem d_M_log_15 : decode c_M_log 15 = .ok (.iload_n 1, 1) := by decide +kernel
theorem d_M_log_16 : decode c_M_log 16 = .ok (.iaload, 1) := by decide +kernel
theorem d_M_log_17 : decode c_M_log 17 = .ok (.iadd, 1) := by decide +kernel
theorem d_M_log_18 : decode c_M_log 18 = .ok (.invokevirtual 90, 3) := by decide +kernel
theorem d_M_log_21 : decode c_M_log 21 = .ok (.aload_n 0, 1) := by decide +kernel
theorem d_M_log_22 : decode c_M_log 22 = .ok (.getfield 44, 3) := by decide +kernel
theorem d_M_log_25 : decode c_M_log 25 = .ok (.bipush 80, 2) := by decide +kernel
theorem d_M_log_27 : decode c_M_log 27 = .ok (.iload_n 1, 1) := by decide +kernel
theorem d_M_log_28 : decode c_M_log 28 = .ok (.imul, 1) := by decide +kernel
theorem d_M_log_29 : decode c_M_log 29 = .ok (.aload_n 0, 1) := by decide +kernel
theorem d_M_log_30 : decode c_M_log 30 = .ok (.getfield 41, 3) := by decide +kernel
theorem d_M_log_33 : decode c_M_log 33 = .ok (.iload_n 1, 1) := by decide +kernel
theorem d_M_log_34 : decode c_M_log 34 = .ok (.iaload, 1) := by decide +kernel
theorem d_M_log_35 : decode c_M_log 35 = .ok (.iadd, 1) := by decide +kernel
theorem d_M_log_36 : decode c_M_log 36 = .ok (.iload_n 2, 1) := by decide +kernel
theorem d_M_log_37 : decode c_M_log 37 = .ok (.iastore, 1) := by decide +kernel
theorem d_M_log_38 : decode c_M_log 38 = .ok (.aload_n 0, 1) := by decide +kernel
theorem d_M_log_39 : decode c_M_log 39 = .ok (.getfield 41, 3) := by decide +kernel
theorem d_M_log_42 : decode c_M_log 42 = .ok (.iload_n 1, 1) := by decide +kernel
theorem d_M_log_43 : decode c_M_log 43 = .ok (.dup2, 1) := by decide +kernel
theorem d_M_log_44 : decode c_M_log 44 = .ok (.iaload, 1) := by decide +kernel
theorem d_M_log_45 : decode c_M_log 45 = .ok (.iconst 1, 1) := by decide +kernel
theorem d_M_log_46 : decode c_M_log 46 = .ok (.iadd, 1) := by decide +kernel
theorem d_M_log_47 : decode c_M_log 47 = .ok (.iastore, 1) := by decide +kernel
theorem d_M_log_48 : decode c_M_log 48 = .ok (.return_, 1) := by decide +kernel
theorem d_M_insert_0 : decode c_M_insert 0 = .ok (.aload_n 0, 1) := by decide +kernel
theorem d_M_insert_1 : decode c_M_insert 1 = .ok (.iconst 0, 1) := by decide +kernel
theorem d_M_insert_2 : decode c_M_insert 2 = .ok (.putfield 65, 3) := by decide +kernel
theorem d_M_insert_5 : decode c_M_insert 5 = .ok (.iload_n 1, 1) := by decide +kernel
theorem d_M_insert_6 : decode c_M_insert 6 = .ok (.invokestatic 100, 3) := by decide +kernel
theorem d_M_insert_9 : decode c_M_insert 9 = .ok (.ifCond .eq 15, 3) := by decide +kernel
theorem d_M_insert_12 : decode c_M_insert 12 = .ok (.iload_n 3, 1) := by decide +kernel
theorem d_M_insert_13 : decode c_M_insert 13 = .ok (.bipush 32, 2) := by decide +kernel
theorem d_M_insert_15 : decode c_M_insert 15 = .ok (.if_icmp .lt 9, 3) := by decide +kernel
theorem d_M_insert_18 : decode c_M_insert 18 = .ok (.iload_n 3, 1) := by decide +kernel
theorem d_M_insert_19 : decode c_M_insert 19 = .ok (.bipush 126, 2) := by decide +kernel
theorem d_M_insert_21 : decode c_M_insert 21 = .ok (.if_icmp .le 9, 3) := by decide +kernel
theorem d_M_insert_24 : decode c_M_insert 24 = .ok (.aload_n 0, 1) := by decide +kernel
theorem d_M_insert_25 : decode c_M_insert 25 = .ok (.iconst 1, 1) := by decide +kernel
theorem d_M_insert_26 : decode c_M_insert 26 = .ok (.invokevirtual 104, 3) := by decide +kernel
theorem d_M_insert_29 : decode c_M_insert 29 = .ok (.ireturn, 1) := by decide +kernel
theorem d_M_insert_30 : decode c_M_insert 30 = .ok (.aload_n 0, 1) := by decide +kernel
theorem d_M_insert_31 : decode c_M_insert 31 = .ok (.iload_n 1, 1) := by decide +kernel
theorem d_M_insert_32 : decode c_M_insert 32 = .ok (.invokevirtual 108, 3) := by decide +kernel
theorem d_M_insert_35 : decode c_M_insert 35 = .ok (.iload_n 2, 1) := by decide +kernel
theorem d_M_insert_36 : decode c_M_insert 36 = .ok (.ifCond .lt 11, 3) := by decide +kernel
theorem d_M_insert_39 : decode c_M_insert 39 = .ok (.iload_n 2, 1) := by decide +kernel
theorem d_M_insert_40 : decode c_M_insert 40 = .ok (.aload_n 0, 1) := by decide +kernel
theorem d_M_insert_41 : decode c_M_insert 41 = .ok (.getfield 73, 3) := by decide +kernel
theorem d_M_insert_44 : decode c_M_insert 44 = .ok (.if_icmp .le 9, 3) := by decide +kernel
theorem d_M_insert_47 : decode c_M_insert 47 = .ok (.aload_n 0, 1) := by decide +kernel
theorem d_M_insert_48 : decode c_M_insert 48 = .ok (.iconst 2, 1) := by decide +kernel
theorem d_M_insert_49 : decode c_M_insert 49 = .ok (.invokevirtual 104, 3) := by decide +kernel
theorem d_M_insert_52 : decode c_M_insert 52 = .ok (.ireturn, 1) := by decide +kernel
theorem d_M_insert_53 : decode c_M_insert 53 = .ok (.aload_n 0, 1) := by decide +kernel
theorem d_M_insert_54 : decode c_M_insert 54 = .ok (.getfield 35, 3) := by decide +kernel
theorem d_M_insert_57 : decode c_M_insert 57 = .ok (.iload_n 1, 1) := by decide +kernel
theorem d_M_insert_58 : decode c_M_insert 58 = .ok (.iaload, 1) := by decide +kernel
theorem d_M_insert_59 : decode c_M_insert 59 = .ok (.bipush 8, 2) := by decide +kernel
theorem d_M_insert_61 : decode c_M_insert 61 = .ok (.if_icmp .eq 12, 3) := by decide +kernel
theorem d_M_insert_64 : decode c_M_insert 64 = .ok (.aload_n 0, 1) := by decide +kernel
theorem d_M_insert_65 : decode c_M_insert 65 = .ok (.getfield 73, 3) := by decide +kernel
theorem d_M_insert_68 : decode c_M_insert 68 = .ok (.bipush 60, 2) := by decide +kernel
theorem d_M_insert_70 : decode c_M_insert 70 = .ok (.if_icmp .lt 9, 3) := by decide +kernel
theorem d_M_insert_73 : decode c_M_insert 73 = .ok (.aload_n 0, 1) := by decide +kernel
theorem d_M_insert_74 : decode c_M_insert 74 = .ok (.iconst 3, 1) := by decide +kernel
theorem d_M_insert_75 : decode c_M_insert 75 = .ok (.invokevirtual 104, 3) := by decide +kernel
theorem d_M_insert_78 : decode c_M_insert 78 = .ok (.ireturn, 1) := by decide +kernel
theorem d_M_insert_79 : decode c_M_insert 79 = .ok (.aload_n 0, 1) := by decide +kernel
theorem d_M_insert_80 : decode c_M_insert 80 = .ok (.sipush 356, 3) := by decide +kernel
theorem d_M_insert_83 : decode c_M_insert 83 = .ok (.iconst 1, 1) := by decide +kernel
theorem d_M_insert_84 : decode c_M_insert 84 = .ok (.iload_n 2, 1) := by decide +kernel
theorem d_M_insert_85 : decode c_M_insert 85 = .ok (.iload_n 3, 1) := by decide +kernel
theorem d_M_insert_86 : decode c_M_insert 86 = .ok (.iload_n 1, 1) := by decide +kernel
theorem d_M_insert_87 : decode c_M_insert 87 = .ok (.invokevirtual 69, 3) := by decide +kernel
theorem d_M_insert_90 : decode c_M_insert 90 = .ok (.aload_n 0, 1) := by decide +kernel
theorem d_M_insert_91 : decode c_M_insert 91 = .ok (.iload_n 1, 1) := by decide +kernel
theorem d_M_insert_92 : decode c_M_insert 92 = .ok (.iconst 1, 1) := by decide +kernel
theorem d_M_insert_93 : decode c_M_insert 93 = .ok (.iconst 0, 1) := by decide +kernel
theorem d_M_insert_94 : decode c_M_insert 94 = .ok (.invokevirtual 111, 3) := by decide +kernel
theorem d_M_insert_97 : decode c_M_insert 97 = .ok (.aload_n 0, 1) := by decide +kernel
theorem d_M_insert_98 : decode c_M_insert 98 = .ok (.getfield 35, 3) := by decide +kernel
theorem d_M_insert_101 : decode c_M_insert 101 = .ok (.iload_n 1, 1) := by decide +kernel
theorem d_M_insert_102 : decode c_M_insert 102 = .ok (.iaload, 1) := by decide +kernel
theorem d_M_insert_103 : decode c_M_insert 103 = .ok (.ireturn, 1) := by decide +kernel
theorem d_M_erase_0 : decode c_M_erase 0 = .ok (.aload_n 0, 1) := by decide +kernel
theorem d_M_erase_1 : decode c_M_erase 1 = .ok (.iconst 0, 1) := by decide +kernel
theorem d_M_erase_2 : decode c_M_erase 2 = .ok (.putfield 65, 3) := by decide +kernel
theorem d_M_erase_5 : decode c_M_erase 5 = .ok (.iload_n 1, 1) := by decide +kernel
theorem d_M_erase_6 : decode c_M_erase 6 = .ok (.invokestatic 100, 3) := by decide +kernel
theorem d_M_erase_9 : decode c_M_erase 9 = .ok (.ifCond .ne 9, 3) := by decide +kernel
theorem d_M_erase_12 : decode c_M_erase 12 = .ok (.aload_n 0, 1) := by decide +kernel
theorem d_M_erase_13 : decode c_M_erase 13 = .ok (.iconst 1, 1) := by decide +kernel
theorem d_M_erase_14 : decode c_M_erase 14 = .ok (.invokevirtual 104, 3) := by decide +kernel
theorem d_M_erase_17 : decode c_M_erase 17 = .ok (.ireturn, 1) := by decide +kernel
theorem d_M_erase_18 : decode c_M_erase 18 = .ok (.aload_n 0, 1) := by decide +kernel
theorem d_M_erase_19 : decode c_M_erase 19 = .ok (.iload_n 1, 1) := by decide +kernel
theorem d_M_erase_20 : decode c_M_erase 20 = .ok (.invokevirtual 108, 3) := by decide +kernel
theorem d_M_erase_23 : decode c_M_erase 23 = .ok (.iload_n 2, 1) := by decide +kernel
theorem d_M_erase_24 : decode c_M_erase 24 = .ok (.ifCond .lt 11, 3) := by decide +kernel
theorem d_M_erase_27 : decode c_M_erase 27 = .ok (.iload_n 2, 1) := by decide +kernel
theorem d_M_erase_28 : decode c_M_erase 28 = .ok (.aload_n 0, 1) := by decide +kernel
theorem d_M_erase_29 : decode c_M_erase 29 = .ok (.getfield 73, 3) := by decide +kernel
theorem d_M_erase_32 : decode c_M_erase 32 = .ok (.if_icmp .lt 9, 3) := by decide +kernel
theorem d_M_erase_35 : decode c_M_erase 35 = .ok (.aload_n 0, 1) := by decide +kernel
theorem d_M_erase_36 : decode c_M_erase 36 = .ok (.iconst 2, 1) := by decide +kernel
theorem d_M_erase_37 : decode c_M_erase 37 = .ok (.invokevirtual 104, 3) := by decide +kernel
theorem d_M_erase_40 : decode c_M_erase 40 = .ok (.ireturn, 1) := by decide +kernel
theorem d_M_erase_41 : decode c_M_erase 41 = .ok (.aload_n 0, 1) := by decide +kernel
theorem d_M_erase_42 : decode c_M_erase 42 = .ok (.getfield 35, 3) := by decide +kernel
theorem d_M_erase_45 : decode c_M_erase 45 = .ok (.iload_n 1, 1) := by decide +kernel
theorem d_M_erase_46 : decode c_M_erase 46 = .ok (.iaload, 1) := by decide +kernel
theorem d_M_erase_47 : decode c_M_erase 47 = .ok (.bipush 8, 2) := by decide +kernel
theorem d_M_erase_49 : decode c_M_erase 49 = .ok (.if_icmp .ne 9, 3) := by decide +kernel
theorem d_M_erase_52 : decode c_M_erase 52 = .ok (.aload_n 0, 1) := by decide +kernel
theorem d_M_erase_53 : decode c_M_erase 53 = .ok (.iconst 3, 1) := by decide +kernel
theorem d_M_erase_54 : decode c_M_erase 54 = .ok (.invokevirtual 104, 3) := by decide +kernel
theorem d_M_erase_57 : decode c_M_erase 57 = .ok (.ireturn, 1) := by decide +kernel
theorem d_M_erase_58 : decode c_M_erase 58 = .ok (.aload_n 0, 1) := by decide +kernel
theorem d_M_erase_59 : decode c_M_erase 59 = .ok (.sipush 356, 3) := by decide +kernel
theorem d_M_erase_62 : decode c_M_erase 62 = .ok (.iconst 2, 1) := by decide +kernel
theorem d_M_erase_63 : decode c_M_erase 63 = .ok (.iload_n 2, 1) := by decide +kernel
theorem d_M_erase_64 : decode c_M_erase 64 = .ok (.iconst 0, 1) := by decide +kernel
theorem d_M_erase_65 : decode c_M_erase 65 = .ok (.iload_n 1, 1) := by decide +kernel
theorem d_M_erase_66 : decode c_M_erase 66 = .ok (.invokevirtual 69, 3) := by decide +kernel
theorem d_M_erase_69 : decode c_M_erase 69 = .ok (.aload_n 0, 1) := by decide +kernel
theorem d_M_erase_70 : decode c_M_erase 70 = .ok (.iload_n 1, 1) := by decide +kernel
theorem d_M_erase_71 : decode c_M_erase 71 = .ok (.iconst 1, 1) := by decide +kernel
theorem d_M_erase_72 : decode c_M_erase 72 = .ok (.aload_n 0, 1) := by decide +kernel
theorem d_M_erase_73 : decode c_M_erase 73 = .ok (.getfield 62, 3) := by decide +kernel
theorem d_M_erase_76 : decode c_M_erase 76 = .ok (.iload_n 2, 1) := by decide +kernel
theorem d_M_erase_77 : decode c_M_erase 77 = .ok (.iaload, 1) := by decide +kernel
theorem d_M_erase_78 : decode c_M_erase 78 = .ok (.invokevirtual 111, 3) := by decide +kernel
theorem d_M_erase_81 : decode c_M_erase 81 = .ok (.aload_n 0, 1) := by decide +kernel
theorem d_M_erase_82 : decode c_M_erase 82 = .ok (.getfield 35, 3) := by decide +kernel
theorem d_M_erase_85 : decode c_M_erase 85 = .ok (.iload_n 1, 1) := by decide +kernel
theorem d_M_erase_86 : decode c_M_erase 86 = .ok (.iaload, 1) := by decide +kernel
theorem d_M_erase_87 : decode c_M_erase 87 = .ok (.ireturn, 1) := by decide +kernel
theorem d_M_undo_0 : decode c_M_undo 0 = .ok (.aload_n 0, 1) := by decide +kernel
theorem d_M_undo_1 : decode c_M_undo 1 = .ok (.iconst 0, 1) := by decide +kernel
theorem d_M_undo_2 : decode c_M_undo 2 = .ok (.putfield 65, 3) := by decide +kernel
theorem d_M_undo_5 : decode c_M_undo 5 = .ok (.iload_n 1, 1) := by decide +kernel
theorem d_M_undo_6 : decode c_M_undo 6 = .ok (.invokestatic 100, 3) := by decide +kernel
theorem d_M_undo_9 : decode c_M_undo 9 = .ok (.ifCond .ne 9, 3) := by decide +kernel
theorem d_M_undo_12 : decode c_M_undo 12 = .ok (.aload_n 0, 1) := by decide +kernel
theorem d_M_undo_13 : decode c_M_undo 13 = .ok (.iconst 1, 1) := by decide +kernel
theorem d_M_undo_14 : decode c_M_undo 14 = .ok (.invokevirtual 104, 3) := by decide +kernel
theorem d_M_undo_17 : decode c_M_undo 17 = .ok (.ireturn, 1) := by decide +kernel
theorem d_M_undo_18 : decode c_M_undo 18 = .ok (.aload_n 0, 1) := by decide +kernel
theorem d_M_undo_19 : decode c_M_undo 19 = .ok (.getfield 41, 3) := by decide +kernel
theorem d_M_undo_22 : decode c_M_undo 22 = .ok (.iload_n 1, 1) := by decide +kernel
theorem d_M_undo_23 : decode c_M_undo 23 = .ok (.iaload, 1) := by decide +kernel
theorem d_M_undo_24 : decode c_M_undo 24 = .ok (.iconst 1, 1) := by decide +kernel
theorem d_M_undo_25 : decode c_M_undo 25 = .ok (.isub, 1) := by decide +kernel
theorem d_M_undo_26 : decode c_M_undo 26 = .ok (.istore_n 2, 1) := by decide +kernel
theorem d_M_undo_27 : decode c_M_undo 27 = .ok (.iload_n 2, 1) := by decide +kernel
theorem d_M_undo_28 : decode c_M_undo 28 = .ok (.ifCond .lt 24, 3) := by decide +kernel
theorem d_M_undo_31 : decode c_M_undo 31 = .ok (.aload_n 0, 1) := by decide +kernel
theorem d_M_undo_32 : decode c_M_undo 32 = .ok (.getfield 44, 3) := by decide +kernel
theorem d_M_undo_35 : decode c_M_undo 35 = .ok (.bipush 80, 2) := by decide +kernel
theorem d_M_undo_37 : decode c_M_undo 37 = .ok (.iload_n 1, 1) := by decide +kernel
theorem d_M_undo_38 : decode c_M_undo 38 = .ok (.imul, 1) := by decide +kernel
theorem d_M_undo_39 : decode c_M_undo 39 = .ok (.iload_n 2, 1) := by decide +kernel
theorem d_M_undo_40 : decode c_M_undo 40 = .ok (.iadd, 1) := by decide +kernel
theorem d_M_undo_41 : decode c_M_undo 41 = .ok (.iaload, 1) := by decide +kernel
theorem d_M_undo_42 : decode c_M_undo 42 = .ok (.iconst 1, 1) := by decide +kernel
theorem d_M_undo_43 : decode c_M_undo 43 = .ok (.if_icmp .eq 9, 3) := by decide +kernel
theorem d_M_undo_46 : decode c_M_undo 46 = .ok (.iinc 2 (-1), 3) := by decide +kernel
theorem d_M_undo_49 : decode c_M_undo 49 = .ok (.goto (-22), 3) := by decide +kernel
theorem d_M_undo_52 : decode c_M_undo 52 = .ok (.iload_n 2, 1) := by decide +kernel
theorem d_M_undo_53 : decode c_M_undo 53 = .ok (.ifCond .ge 9, 3) := by decide +kernel
theorem d_M_undo_56 : decode c_M_undo 56 = .ok (.aload_n 0, 1) := by decide +kernel
theorem d_M_undo_57 : decode c_M_undo 57 = .ok (.iconst 2, 1) := by decide +kernel
theorem d_M_undo_58 : decode c_M_undo 58 = .ok (.invokevirtual 104, 3) := by decide +kernel
theorem d_M_undo_61 : decode c_M_undo 61 = .ok (.ireturn, 1) := by decide +kernel
theorem d_M_undo_62 : decode c_M_undo 62 = .ok (.aload_n 0, 1) := by decide +kernel
theorem d_M_undo_63 : decode c_M_undo 63 = .ok (.iload_n 1, 1) := by decide +kernel
theorem d_M_undo_64 : decode c_M_undo 64 = .ok (.invokevirtual 108, 3) := by decide +kernel
theorem d_M_undo_67 : decode c_M_undo 67 = .ok (.aload_n 0, 1) := by decide +kernel
theorem d_M_undo_68 : decode c_M_undo 68 = .ok (.getfield 35, 3) := by decide +kernel
theorem d_M_undo_71 : decode c_M_undo 71 = .ok (.iload_n 1, 1) := by decide +kernel
theorem d_M_undo_72 : decode c_M_undo 72 = .ok (.iaload, 1) := by decide +kernel
theorem d_M_undo_73 : decode c_M_undo 73 = .ok (.bipush 8, 2) := by decide +kernel
theorem d_M_undo_75 : decode c_M_undo 75 = .ok (.if_icmp .eq 12, 3) := by decide +kernel
theorem d_M_undo_78 : decode c_M_undo 78 = .ok (.aload_n 0, 1) := by decide +kernel
theorem d_M_undo_79 : decode c_M_undo 79 = .ok (.getfield 73, 3) := by decide +kernel
theorem d_M_undo_82 : decode c_M_undo 82 = .ok (.bipush 60, 2) := by decide +kernel
theorem d_M_undo_84 : decode c_M_undo 84 = .ok (.if_icmp .lt 9, 3) := by decide +kernel
theorem d_M_undo_87 : decode c_M_undo 87 = .ok (.aload_n 0, 1) := by decide +kernel
theorem d_M_undo_88 : decode c_M_undo 88 = .ok (.iconst 3, 1) := by decide +kernel
theorem d_M_undo_89 : decode c_M_undo 89 = .ok (.invokevirtual 104, 3) := by decide +kernel
theorem d_M_undo_92 : decode c_M_undo 92 = .ok (.ireturn, 1) := by decide +kernel
theorem d_M_undo_93 : decode c_M_undo 93 = .ok (.aload_n 0, 1) := by decide +kernel
theorem d_M_undo_94 : decode c_M_undo 94 = .ok (.getfield 44, 3) := by decide +kernel
theorem d_M_undo_97 : decode c_M_undo 97 = .ok (.bipush 80, 2) := by decide +kernel
theorem d_M_undo_99 : decode c_M_undo 99 = .ok (.iload_n 1, 1) := by decide +kernel
theorem d_M_undo_100 : decode c_M_undo 100 = .ok (.imul, 1) := by decide +kernel
theorem d_M_undo_101 : decode c_M_undo 101 = .ok (.iload_n 2, 1) := by decide +kernel
theorem d_M_undo_102 : decode c_M_undo 102 = .ok (.iadd, 1) := by decide +kernel
theorem d_M_undo_103 : decode c_M_undo 103 = .ok (.iconst 3, 1) := by decide +kernel
theorem d_M_undo_104 : decode c_M_undo 104 = .ok (.iastore, 1) := by decide +kernel
theorem d_M_undo_105 : decode c_M_undo 105 = .ok (.bipush 60, 2) := by decide +kernel
theorem d_M_undo_107 : decode c_M_undo 107 = .ok (.bipush 80, 2) := by decide +kernel
theorem d_M_undo_109 : decode c_M_undo 109 = .ok (.iload_n 1, 1) := by decide +kernel
theorem d_M_undo_110 : decode c_M_undo 110 = .ok (.imul, 1) := by decide +kernel
theorem d_M_undo_111 : decode c_M_undo 111 = .ok (.iadd, 1) := by decide +kernel
theorem d_M_undo_112 : decode c_M_undo 112 = .ok (.istore_n 3, 1) := by decide +kernel
theorem d_M_undo_113 : decode c_M_undo 113 = .ok (.iload_n 3, 1) := by decide +kernel
theorem d_M_undo_114 : decode c_M_undo 114 = .ok (.iload_n 2, 1) := by decide +kernel
theorem d_M_undo_115 : decode c_M_undo 115 = .ok (.iadd, 1) := by decide +kernel
theorem d_M_undo_116 : decode c_M_undo 116 = .ok (.istore 4, 2) := by decide +kernel
theorem d_M_undo_118 : decode c_M_undo 118 = .ok (.aload_n 0, 1) := by decide +kernel
theorem d_M_undo_119 : decode c_M_undo 119 = .ok (.getfield 7, 3) := by decide +kernel
theorem d_M_undo_122 : decode c_M_undo 122 = .ok (.iload 4, 2) := by decide +kernel
theorem d_M_undo_124 : decode c_M_undo 124 = .ok (.iaload, 1) := by decide +kernel
theorem d_M_undo_125 : decode c_M_undo 125 = .ok (.iconst 1, 1) := by decide +kernel
theorem d_M_undo_126 : decode c_M_undo 126 = .ok (.if_icmp .ne 7, 3) := by decide +kernel
theorem d_M_undo_129 : decode c_M_undo 129 = .ok (.iconst 1, 1) := by decide +kernel
theorem d_M_undo_130 : decode c_M_undo 130 = .ok (.goto 4, 3) := by decide +kernel
theorem d_M_undo_133 : decode c_M_undo 133 = .ok (.iconst 0, 1) := by decide +kernel
theorem d_M_undo_134 : decode c_M_undo 134 = .ok (.istore 5, 2) := by decide +kernel
theorem d_M_undo_136 : decode c_M_undo 136 = .ok (.aload_n 0, 1) := by decide +kernel
theorem d_M_undo_137 : decode c_M_undo 137 = .ok (.sipush 356, 3) := by decide +kernel
theorem d_M_undo_140 : decode c_M_undo 140 = .ok (.iload 5, 2) := by decide +kernel
theorem d_M_undo_142 : decode c_M_undo 142 = .ok (.ifCond .eq 7, 3) := by decide +kernel
theorem d_M_undo_145 : decode c_M_undo 145 = .ok (.iconst 2, 1) := by decide +kernel
theorem d_M_undo_146 : decode c_M_undo 146 = .ok (.goto 4, 3) := by decide +kernel
theorem d_M_undo_149 : decode c_M_undo 149 = .ok (.iconst 1, 1) := by decide +kernel
theorem d_M_undo_150 : decode c_M_undo 150 = .ok (.aload_n 0, 1) := by decide +kernel
theorem d_M_undo_151 : decode c_M_undo 151 = .ok (.getfield 13, 3) := by decide +kernel
theorem d_M_undo_154 : decode c_M_undo 154 = .ok (.iload 4, 2) := by decide +kernel
theorem d_M_undo_156 : decode c_M_undo 156 = .ok (.iaload, 1) := by decide +kernel
theorem d_M_undo_157 : decode c_M_undo 157 = .ok (.iload 5, 2) := by decide +kernel
theorem d_M_undo_159 : decode c_M_undo 159 = .ok (.ifCond .eq 7, 3) := by decide +kernel
theorem d_M_undo_162 : decode c_M_undo 162 = .ok (.iconst 0, 1) := by decide +kernel
theorem d_M_undo_163 : decode c_M_undo 163 = .ok (.goto 10, 3) := by decide +kernel
theorem d_M_undo_166 : decode c_M_undo 166 = .ok (.aload_n 0, 1) := by decide +kernel
theorem d_M_undo_167 : decode c_M_undo 167 = .ok (.getfield 16, 3) := by decide +kernel
theorem d_M_undo_170 : decode c_M_undo 170 = .ok (.iload 4, 2) := by decide +kernel
theorem d_M_undo_172 : decode c_M_undo 172 = .ok (.iaload, 1) := by decide +kernel
theorem d_M_undo_173 : decode c_M_undo 173 = .ok (.iload_n 1, 1) := by decide +kernel
theorem d_M_undo_174 : decode c_M_undo 174 = .ok (.invokevirtual 69, 3) := by decide +kernel
theorem d_M_undo_177 : decode c_M_undo 177 = .ok (.iload 4, 2) := by decide +kernel
theorem d_M_undo_179 : decode c_M_undo 179 = .ok (.iconst 1, 1) := by decide +kernel
theorem d_M_undo_180 : decode c_M_undo 180 = .ok (.iadd, 1) := by decide +kernel
theorem d_M_undo_181 : decode c_M_undo 181 = .ok (.istore 6, 2) := by decide +kernel
theorem d_M_undo_183 : decode c_M_undo 183 = .ok (.iload 6, 2) := by decide +kernel
theorem d_M_undo_185 : decode c_M_undo 185 = .ok (.iload_n 3, 1) := by decide +kernel
theorem d_M_undo_186 : decode c_M_undo 186 = .ok (.aload_n 0, 1) := by decide +kernel
theorem d_M_undo_187 : decode c_M_undo 187 = .ok (.getfield 41, 3) := by decide +kernel
theorem d_M_undo_190 : decode c_M_undo 190 = .ok (.iload_n 1, 1) := by decide +kernel
theorem d_M_undo_191 : decode c_M_undo 191 = .ok (.iaload, 1) := by decide +kernel
theorem d_M_undo_192 : decode c_M_undo 192 = .ok (.iadd, 1) := by decide +kernel
theorem d_M_undo_193 : decode c_M_undo 193 = .ok (.if_icmp .ge 18, 3) := by decide +kernel
theorem d_M_undo_196 : decode c_M_undo 196 = .ok (.aload_n 0, 1) := by decide +kernel
theorem d_M_undo_197 : decode c_M_undo 197 = .ok (.sipush 356, 3) := by decide +kernel
theorem d_M_undo_200 : decode c_M_undo 200 = .ok (.iload 6, 2) := by decide +kernel
theorem d_M_undo_202 : decode c_M_undo 202 = .ok (.invokevirtual 115, 3) := by decide +kernel
theorem d_M_undo_205 : decode c_M_undo 205 = .ok (.iinc 6 1, 3) := by decide +kernel
theorem d_M_undo_208 : decode c_M_undo 208 = .ok (.goto (-25), 3) := by decide +kernel
theorem d_M_undo_211 : decode c_M_undo 211 = .ok (.aload_n 0, 1) := by decide +kernel
theorem d_M_undo_212 : decode c_M_undo 212 = .ok (.getfield 7, 3) := by decide +kernel
theorem d_M_undo_215 : decode c_M_undo 215 = .ok (.sipush 356, 3) := by decide +kernel
theorem d_M_undo_218 : decode c_M_undo 218 = .ok (.iaload, 1) := by decide +kernel
theorem d_M_undo_219 : decode c_M_undo 219 = .ok (.ifCond .ne 5, 3) := by decide +kernel
theorem d_M_undo_222 : decode c_M_undo 222 = .ok (.iconst 0, 1) := by decide +kernel
theorem d_M_undo_223 : decode c_M_undo 223 = .ok (.ireturn, 1) := by decide +kernel
theorem d_M_undo_224 : decode c_M_undo 224 = .ok (.iload 5, 2) := by decide +kernel
theorem d_M_undo_226 : decode c_M_undo 226 = .ok (.ifCond .eq 19, 3) := by decide +kernel
theorem d_M_undo_229 : decode c_M_undo 229 = .ok (.aload_n 0, 1) := by decide +kernel
theorem d_M_undo_230 : decode c_M_undo 230 = .ok (.getfield 62, 3) := by decide +kernel
theorem d_M_undo_233 : decode c_M_undo 233 = .ok (.aload_n 0, 1) := by decide +kernel
theorem d_M_undo_234 : decode c_M_undo 234 = .ok (.getfield 13, 3) := by decide +kernel
theorem d_M_undo_237 : decode c_M_undo 237 = .ok (.sipush 356, 3) := by decide +kernel
theorem d_M_undo_240 : decode c_M_undo 240 = .ok (.iaload, 1) := by decide +kernel
theorem d_M_undo_241 : decode c_M_undo 241 = .ok (.iaload, 1) := by decide +kernel
theorem d_M_undo_242 : decode c_M_undo 242 = .ok (.goto 4, 3) := by decide +kernel
theorem d_M_undo_245 : decode c_M_undo 245 = .ok (.iconst 0, 1) := by decide +kernel
theorem d_M_undo_246 : decode c_M_undo 246 = .ok (.istore 6, 2) := by decide +kernel
theorem d_M_undo_248 : decode c_M_undo 248 = .ok (.aload_n 0, 1) := by decide +kernel
theorem d_M_undo_249 : decode c_M_undo 249 = .ok (.iload_n 1, 1) := by decide +kernel
theorem d_M_undo_250 : decode c_M_undo 250 = .ok (.iconst 2, 1) := by decide +kernel
theorem d_M_undo_251 : decode c_M_undo 251 = .ok (.iload 6, 2) := by decide +kernel
theorem d_M_undo_253 : decode c_M_undo 253 = .ok (.invokevirtual 111, 3) := by decide +kernel
theorem d_M_undo_256 : decode c_M_undo 256 = .ok (.iconst 1, 1) := by decide +kernel
theorem d_M_undo_257 : decode c_M_undo 257 = .ok (.ireturn, 1) := by decide +kernel
theorem d_M_hear_0 : decode c_M_hear 0 = .ok (.aload_n 0, 1) := by decide +kernel
theorem d_M_hear_1 : decode c_M_hear 1 = .ok (.getfield 31, 3) := by decide +kernel
theorem d_M_hear_4 : decode c_M_hear 4 = .ok (.iload_n 1, 1) := by decide +kernel
theorem d_M_hear_5 : decode c_M_hear 5 = .ok (.baload, 1) := by decide +kernel
theorem d_M_hear_6 : decode c_M_hear 6 = .ok (.ifCond .ne 13, 3) := by decide +kernel
theorem d_M_hear_9 : decode c_M_hear 9 = .ok (.iload_n 2, 1) := by decide +kernel
theorem d_M_hear_10 : decode c_M_hear 10 = .ok (.aload_n 0, 1) := by decide +kernel
theorem d_M_hear_11 : decode c_M_hear 11 = .ok (.getfield 28, 3) := by decide +kernel
theorem d_M_hear_14 : decode c_M_hear 14 = .ok (.iload_n 1, 1) := by decide +kernel
theorem d_M_hear_15 : decode c_M_hear 15 = .ok (.iaload, 1) := by decide +kernel
theorem d_M_hear_16 : decode c_M_hear 16 = .ok (.if_icmp .eq 4, 3) := by decide +kernel
theorem d_M_hear_19 : decode c_M_hear 19 = .ok (.return_, 1) := by decide +kernel
theorem d_M_hear_20 : decode c_M_hear 20 = .ok (.aload_n 0, 1) := by decide +kernel
theorem d_M_hear_21 : decode c_M_hear 21 = .ok (.getfield 28, 3) := by decide +kernel
theorem d_M_hear_24 : decode c_M_hear 24 = .ok (.iload_n 1, 1) := by decide +kernel
theorem d_M_hear_25 : decode c_M_hear 25 = .ok (.dup2, 1) := by decide +kernel
theorem d_M_hear_26 : decode c_M_hear 26 = .ok (.iaload, 1) := by decide +kernel
theorem d_M_hear_27 : decode c_M_hear 27 = .ok (.iconst 1, 1) := by decide +kernel
theorem d_M_hear_28 : decode c_M_hear 28 = .ok (.iadd, 1) := by decide +kernel
theorem d_M_hear_29 : decode c_M_hear 29 = .ok (.iastore, 1) := by decide +kernel
theorem d_M_hear_30 : decode c_M_hear 30 = .ok (.aload_n 0, 1) := by decide +kernel
theorem d_M_hear_31 : decode c_M_hear 31 = .ok (.getfield 19, 3) := by decide +kernel
theorem d_M_hear_34 : decode c_M_hear 34 = .ok (.sipush 356, 3) := by decide +kernel
theorem d_M_hear_37 : decode c_M_hear 37 = .ok (.iaload, 1) := by decide +kernel
theorem d_M_hear_38 : decode c_M_hear 38 = .ok (.iload_n 1, 1) := by decide +kernel
theorem d_M_hear_39 : decode c_M_hear 39 = .ok (.if_icmp .ne 82, 3) := by decide +kernel
theorem d_M_hear_42 : decode c_M_hear 42 = .ok (.aload_n 0, 1) := by decide +kernel
theorem d_M_hear_43 : decode c_M_hear 43 = .ok (.getfield 38, 3) := by decide +kernel
theorem d_M_hear_46 : decode c_M_hear 46 = .ok (.iload_n 1, 1) := by decide +kernel
theorem d_M_hear_47 : decode c_M_hear 47 = .ok (.dup2, 1) := by decide +kernel
theorem d_M_hear_48 : decode c_M_hear 48 = .ok (.iaload, 1) := by decide +kernel
theorem d_M_hear_49 : decode c_M_hear 49 = .ok (.iconst 1, 1) := by decide +kernel
theorem d_M_hear_50 : decode c_M_hear 50 = .ok (.iadd, 1) := by decide +kernel
theorem d_M_hear_51 : decode c_M_hear 51 = .ok (.iastore, 1) := by decide +kernel
theorem d_M_hear_52 : decode c_M_hear 52 = .ok (.aload_n 0, 1) := by decide +kernel
theorem d_M_hear_53 : decode c_M_hear 53 = .ok (.getfield 35, 3) := by decide +kernel
theorem d_M_hear_56 : decode c_M_hear 56 = .ok (.iload_n 1, 1) := by decide +kernel
theorem d_M_hear_57 : decode c_M_hear 57 = .ok (.dup2, 1) := by decide +kernel
theorem d_M_hear_58 : decode c_M_hear 58 = .ok (.iaload, 1) := by decide +kernel
theorem d_M_hear_59 : decode c_M_hear 59 = .ok (.iconst 1, 1) := by decide +kernel
theorem d_M_hear_60 : decode c_M_hear 60 = .ok (.isub, 1) := by decide +kernel
theorem d_M_hear_61 : decode c_M_hear 61 = .ok (.iastore, 1) := by decide +kernel
theorem d_M_hear_62 : decode c_M_hear 62 = .ok (.iconst 0, 1) := by decide +kernel
theorem d_M_hear_63 : decode c_M_hear 63 = .ok (.istore_n 3, 1) := by decide +kernel
theorem d_M_hear_64 : decode c_M_hear 64 = .ok (.iload_n 3, 1) := by decide +kernel
theorem d_M_hear_65 : decode c_M_hear 65 = .ok (.aload_n 0, 1) := by decide +kernel
theorem d_M_hear_66 : decode c_M_hear 66 = .ok (.getfield 35, 3) := by decide +kernel
theorem d_M_hear_69 : decode c_M_hear 69 = .ok (.iload_n 1, 1) := by decide +kernel
theorem d_M_hear_70 : decode c_M_hear 70 = .ok (.iaload, 1) := by decide +kernel
theorem d_M_hear_71 : decode c_M_hear 71 = .ok (.if_icmp .ge 35, 3) := by decide +kernel
theorem d_M_hear_74 : decode c_M_hear 74 = .ok (.aload_n 0, 1) := by decide +kernel
theorem d_M_hear_75 : decode c_M_hear 75 = .ok (.sipush 300, 3) := by decide +kernel
theorem d_M_hear_78 : decode c_M_hear 78 = .ok (.bipush 8, 2) := by decide +kernel
theorem d_M_hear_80 : decode c_M_hear 80 = .ok (.iload_n 1, 1) := by decide +kernel
theorem d_M_hear_81 : decode c_M_hear 81 = .ok (.imul, 1) := by decide +kernel
theorem d_M_hear_82 : decode c_M_hear 82 = .ok (.iadd, 1) := by decide +kernel
theorem d_M_hear_83 : decode c_M_hear 83 = .ok (.iload_n 3, 1) := by decide +kernel
theorem d_M_hear_84 : decode c_M_hear 84 = .ok (.iadd, 1) := by decide +kernel
theorem d_M_hear_85 : decode c_M_hear 85 = .ok (.iconst 1, 1) := by decide +kernel
theorem d_M_hear_86 : decode c_M_hear 86 = .ok (.iadd, 1) := by decide +kernel
theorem d_M_hear_87 : decode c_M_hear 87 = .ok (.sipush 300, 3) := by decide +kernel
theorem d_M_hear_90 : decode c_M_hear 90 = .ok (.bipush 8, 2) := by decide +kernel
theorem d_M_hear_92 : decode c_M_hear 92 = .ok (.iload_n 1, 1) := by decide +kernel
theorem d_M_hear_93 : decode c_M_hear 93 = .ok (.imul, 1) := by decide +kernel
theorem d_M_hear_94 : decode c_M_hear 94 = .ok (.iadd, 1) := by decide +kernel
theorem d_M_hear_95 : decode c_M_hear 95 = .ok (.iload_n 3, 1) := by decide +kernel
theorem d_M_hear_96 : decode c_M_hear 96 = .ok (.iadd, 1) := by decide +kernel
theorem d_M_hear_97 : decode c_M_hear 97 = .ok (.invokevirtual 90, 3) := by decide +kernel
theorem d_M_hear_100 : decode c_M_hear 100 = .ok (.iinc 3 1, 3) := by decide +kernel
theorem d_M_hear_103 : decode c_M_hear 103 = .ok (.goto (-39), 3) := by decide +kernel
theorem d_M_hear_106 : decode c_M_hear 106 = .ok (.aload_n 0, 1) := by decide +kernel
theorem d_M_hear_107 : decode c_M_hear 107 = .ok (.getfield 35, 3) := by decide +kernel
theorem d_M_hear_110 : decode c_M_hear 110 = .ok (.iload_n 1, 1) := by decide +kernel
theorem d_M_hear_111 : decode c_M_hear 111 = .ok (.iaload, 1) := by decide +kernel
theorem d_M_hear_112 : decode c_M_hear 112 = .ok (.ifCond .le 8, 3) := by decide +kernel
theorem d_M_hear_115 : decode c_M_hear 115 = .ok (.aload_n 0, 1) := by decide +kernel
theorem d_M_hear_116 : decode c_M_hear 116 = .ok (.iload_n 1, 1) := by decide +kernel
theorem d_M_hear_117 : decode c_M_hear 117 = .ok (.invokevirtual 96, 3) := by decide +kernel
theorem d_M_hear_120 : decode c_M_hear 120 = .ok (.return_, 1) := by decide +kernel
theorem d_M_hear_121 : decode c_M_hear 121 = .ok (.sipush 300, 3) := by decide +kernel
theorem d_M_hear_124 : decode c_M_hear 124 = .ok (.bipush 8, 2) := by decide +kernel
theorem d_M_hear_126 : decode c_M_hear 126 = .ok (.iload_n 1, 1) := by decide +kernel
theorem d_M_hear_127 : decode c_M_hear 127 = .ok (.imul, 1) := by decide +kernel
theorem d_M_hear_128 : decode c_M_hear 128 = .ok (.iadd, 1) := by decide +kernel
theorem d_M_hear_129 : decode c_M_hear 129 = .ok (.istore_n 3, 1) := by decide +kernel
theorem d_M_hear_130 : decode c_M_hear 130 = .ok (.iload_n 3, 1) := by decide +kernel
theorem d_M_hear_131 : decode c_M_hear 131 = .ok (.sipush 300, 3) := by decide +kernel
theorem d_M_hear_134 : decode c_M_hear 134 = .ok (.bipush 8, 2) := by decide +kernel
theorem d_M_hear_136 : decode c_M_hear 136 = .ok (.iload_n 1, 1) := by decide +kernel
theorem d_M_hear_137 : decode c_M_hear 137 = .ok (.imul, 1) := by decide +kernel
theorem d_M_hear_138 : decode c_M_hear 138 = .ok (.iadd, 1) := by decide +kernel
theorem d_M_hear_139 : decode c_M_hear 139 = .ok (.aload_n 0, 1) := by decide +kernel
theorem d_M_hear_140 : decode c_M_hear 140 = .ok (.getfield 35, 3) := by decide +kernel
theorem d_M_hear_143 : decode c_M_hear 143 = .ok (.iload_n 1, 1) := by decide +kernel
theorem d_M_hear_144 : decode c_M_hear 144 = .ok (.iaload, 1) := by decide +kernel
theorem d_M_hear_145 : decode c_M_hear 145 = .ok (.iadd, 1) := by decide +kernel
theorem d_M_hear_146 : decode c_M_hear 146 = .ok (.if_icmp .ge 35, 3) := by decide +kernel
theorem d_M_hear_149 : decode c_M_hear 149 = .ok (.aload_n 0, 1) := by decide +kernel
theorem d_M_hear_150 : decode c_M_hear 150 = .ok (.sipush 356, 3) := by decide +kernel
theorem d_M_hear_153 : decode c_M_hear 153 = .ok (.sipush 357, 3) := by decide +kernel
theorem d_M_hear_156 : decode c_M_hear 156 = .ok (.invokevirtual 90, 3) := by decide +kernel
theorem d_M_hear_159 : decode c_M_hear 159 = .ok (.aload_n 0, 1) := by decide +kernel
theorem d_M_hear_160 : decode c_M_hear 160 = .ok (.sipush 356, 3) := by decide +kernel
theorem d_M_hear_163 : decode c_M_hear 163 = .ok (.iload_n 3, 1) := by decide +kernel
theorem d_M_hear_164 : decode c_M_hear 164 = .ok (.invokevirtual 115, 3) := by decide +kernel
theorem d_M_hear_167 : decode c_M_hear 167 = .ok (.aload_n 0, 1) := by decide +kernel
theorem d_M_hear_168 : decode c_M_hear 168 = .ok (.iload_n 3, 1) := by decide +kernel
theorem d_M_hear_169 : decode c_M_hear 169 = .ok (.sipush 357, 3) := by decide +kernel
theorem d_M_hear_172 : decode c_M_hear 172 = .ok (.invokevirtual 115, 3) := by decide +kernel
theorem d_M_hear_175 : decode c_M_hear 175 = .ok (.iinc 3 1, 3) := by decide +kernel
theorem d_M_hear_178 : decode c_M_hear 178 = .ok (.goto (-48), 3) := by decide +kernel
theorem d_M_hear_181 : decode c_M_hear 181 = .ok (.aload_n 0, 1) := by decide +kernel
theorem d_M_hear_182 : decode c_M_hear 182 = .ok (.iload_n 1, 1) := by decide +kernel
theorem d_M_hear_183 : decode c_M_hear 183 = .ok (.iconst 0, 1) := by decide +kernel
theorem d_M_hear_184 : decode c_M_hear 184 = .ok (.invokevirtual 93, 3) := by decide +kernel
theorem d_M_hear_187 : decode c_M_hear 187 = .ok (.return_, 1) := by decide +kernel
theorem d_M_receive_0 : decode c_M_receive 0 = .ok (.iload_n 3, 1) := by decide +kernel
theorem d_M_receive_1 : decode c_M_receive 1 = .ok (.aload_n 0, 1) := by decide +kernel
theorem d_M_receive_2 : decode c_M_receive 2 = .ok (.getfield 25, 3) := by decide +kernel
theorem d_M_receive_5 : decode c_M_receive 5 = .ok (.iload_n 1, 1) := by decide +kernel
theorem d_M_receive_6 : decode c_M_receive 6 = .ok (.iaload, 1) := by decide +kernel
theorem d_M_receive_7 : decode c_M_receive 7 = .ok (.if_icmp .ge 9, 3) := by decide +kernel
theorem d_M_receive_10 : decode c_M_receive 10 = .ok (.aload_n 0, 1) := by decide +kernel
theorem d_M_receive_11 : decode c_M_receive 11 = .ok (.iload_n 1, 1) := by decide +kernel
theorem d_M_receive_12 : decode c_M_receive 12 = .ok (.iload_n 2, 1) := by decide +kernel
theorem d_M_receive_13 : decode c_M_receive 13 = .ok (.invokevirtual 118, 3) := by decide +kernel
theorem d_M_receive_16 : decode c_M_receive 16 = .ok (.iload_n 3, 1) := by decide +kernel
theorem d_M_receive_17 : decode c_M_receive 17 = .ok (.aload_n 0, 1) := by decide +kernel
theorem d_M_receive_18 : decode c_M_receive 18 = .ok (.getfield 25, 3) := by decide +kernel
theorem d_M_receive_21 : decode c_M_receive 21 = .ok (.iload_n 1, 1) := by decide +kernel
theorem d_M_receive_22 : decode c_M_receive 22 = .ok (.iaload, 1) := by decide +kernel
theorem d_M_receive_23 : decode c_M_receive 23 = .ok (.if_icmp .ne 12, 3) := by decide +kernel
theorem d_M_receive_26 : decode c_M_receive 26 = .ok (.aload_n 0, 1) := by decide +kernel
theorem d_M_receive_27 : decode c_M_receive 27 = .ok (.getfield 76, 3) := by decide +kernel
theorem d_M_receive_30 : decode c_M_receive 30 = .ok (.bipush 60, 2) := by decide +kernel
theorem d_M_receive_32 : decode c_M_receive 32 = .ok (.if_icmp .ne 4, 3) := by decide +kernel
theorem d_M_receive_35 : decode c_M_receive 35 = .ok (.return_, 1) := by decide +kernel
theorem d_M_receive_36 : decode c_M_receive 36 = .ok (.iload_n 2, 1) := by decide +kernel
theorem d_M_receive_37 : decode c_M_receive 37 = .ok (.istore 4, 2) := by decide +kernel
theorem d_M_receive_39 : decode c_M_receive 39 = .ok (.iload 4, 2) := by decide +kernel
theorem d_M_receive_41 : decode c_M_receive 41 = .ok (.aload_n 0, 1) := by decide +kernel
theorem d_M_receive_42 : decode c_M_receive 42 = .ok (.getfield 76, 3) := by decide +kernel
theorem d_M_receive_45 : decode c_M_receive 45 = .ok (.if_icmp .ge 18, 3) := by decide +kernel
theorem d_M_receive_48 : decode c_M_receive 48 = .ok (.aload_n 0, 1) := by decide +kernel
theorem d_M_receive_49 : decode c_M_receive 49 = .ok (.sipush 356, 3) := by decide +kernel
theorem d_M_receive_52 : decode c_M_receive 52 = .ok (.iload 4, 2) := by decide +kernel
theorem d_M_receive_54 : decode c_M_receive 54 = .ok (.invokevirtual 115, 3) := by decide +kernel
theorem d_M_receive_57 : decode c_M_receive 57 = .ok (.iinc 4 1, 3) := by decide +kernel
theorem d_M_receive_60 : decode c_M_receive 60 = .ok (.goto (-21), 3) := by decide +kernel
theorem d_M_receive_63 : decode c_M_receive 63 = .ok (.aload_n 0, 1) := by decide +kernel
theorem d_M_receive_64 : decode c_M_receive 64 = .ok (.getfield 121, 3) := by decide +kernel
theorem d_M_receive_67 : decode c_M_receive 67 = .ok (.iconst 1, 1) := by decide +kernel
theorem d_M_receive_68 : decode c_M_receive 68 = .ok (.if_icmp .ne 8, 3) := by decide +kernel
theorem d_M_receive_71 : decode c_M_receive 71 = .ok (.aload_n 0, 1) := by decide +kernel
theorem d_M_receive_72 : decode c_M_receive 72 = .ok (.iconst 1, 1) := by decide +kernel
theorem d_M_receive_73 : decode c_M_receive 73 = .ok (.putfield 124, 3) := by decide +kernel
theorem d_M_receive_76 : decode c_M_receive 76 = .ok (.aload_n 0, 1) := by decide +kernel
theorem d_M_receive_77 : decode c_M_receive 77 = .ok (.getfield 121, 3) := by decide +kernel
theorem d_M_receive_80 : decode c_M_receive 80 = .ok (.iconst 1, 1) := by decide +kernel
theorem d_M_receive_81 : decode c_M_receive 81 = .ok (.if_icmp .ne 4, 3) := by decide +kernel
theorem d_M_receive_84 : decode c_M_receive 84 = .ok (.return_, 1) := by decide +kernel
theorem d_M_receive_85 : decode c_M_receive 85 = .ok (.aload_n 0, 1) := by decide +kernel
theorem d_M_receive_86 : decode c_M_receive 86 = .ok (.sipush 356, 3) := by decide +kernel
theorem d_M_receive_89 : decode c_M_receive 89 = .ok (.aload_n 0, 1) := by decide +kernel
theorem d_M_receive_90 : decode c_M_receive 90 = .ok (.getfield 76, 3) := by decide +kernel
theorem d_M_receive_93 : decode c_M_receive 93 = .ok (.invokevirtual 90, 3) := by decide +kernel
theorem d_M_receive_96 : decode c_M_receive 96 = .ok (.aload_n 0, 1) := by decide +kernel
theorem d_M_receive_97 : decode c_M_receive 97 = .ok (.getfield 22, 3) := by decide +kernel
theorem d_M_receive_100 : decode c_M_receive 100 = .ok (.aload_n 0, 1) := by decide +kernel
theorem d_M_receive_101 : decode c_M_receive 101 = .ok (.getfield 76, 3) := by decide +kernel
theorem d_M_receive_104 : decode c_M_receive 104 = .ok (.iload_n 3, 1) := by decide +kernel
theorem d_M_receive_105 : decode c_M_receive 105 = .ok (.iastore, 1) := by decide +kernel
theorem d_M_receive_106 : decode c_M_receive 106 = .ok (.aload_n 0, 1) := by decide +kernel
theorem d_M_receive_107 : decode c_M_receive 107 = .ok (.getfield 25, 3) := by decide +kernel
theorem d_M_receive_110 : decode c_M_receive 110 = .ok (.iload_n 1, 1) := by decide +kernel
theorem d_M_receive_111 : decode c_M_receive 111 = .ok (.dup2, 1) := by decide +kernel
theorem d_M_receive_112 : decode c_M_receive 112 = .ok (.iaload, 1) := by decide +kernel
theorem d_M_receive_113 : decode c_M_receive 113 = .ok (.iconst 1, 1) := by decide +kernel
theorem d_M_receive_114 : decode c_M_receive 114 = .ok (.iadd, 1) := by decide +kernel
theorem d_M_receive_115 : decode c_M_receive 115 = .ok (.iastore, 1) := by decide +kernel
theorem d_M_receive_116 : decode c_M_receive 116 = .ok (.aload_n 0, 1) := by decide +kernel
theorem d_M_receive_117 : decode c_M_receive 117 = .ok (.dup, 1) := by decide +kernel
theorem d_M_receive_118 : decode c_M_receive 118 = .ok (.getfield 76, 3) := by decide +kernel
theorem d_M_receive_121 : decode c_M_receive 121 = .ok (.iconst 1, 1) := by decide +kernel
theorem d_M_receive_122 : decode c_M_receive 122 = .ok (.iadd, 1) := by decide +kernel
theorem d_M_receive_123 : decode c_M_receive 123 = .ok (.putfield 76, 3) := by decide +kernel
theorem d_M_receive_126 : decode c_M_receive 126 = .ok (.aload_n 0, 1) := by decide +kernel
theorem d_M_receive_127 : decode c_M_receive 127 = .ok (.getfield 121, 3) := by decide +kernel
theorem d_M_receive_130 : decode c_M_receive 130 = .ok (.iconst 2, 1) := by decide +kernel
theorem d_M_receive_131 : decode c_M_receive 131 = .ok (.if_icmp .ne 8, 3) := by decide +kernel
theorem d_M_receive_134 : decode c_M_receive 134 = .ok (.aload_n 0, 1) := by decide +kernel
theorem d_M_receive_135 : decode c_M_receive 135 = .ok (.iconst 1, 1) := by decide +kernel
theorem d_M_receive_136 : decode c_M_receive 136 = .ok (.putfield 124, 3) := by decide +kernel
theorem d_M_receive_139 : decode c_M_receive 139 = .ok (.aload_n 0, 1) := by decide +kernel
theorem d_M_receive_140 : decode c_M_receive 140 = .ok (.getfield 121, 3) := by decide +kernel
theorem d_M_receive_143 : decode c_M_receive 143 = .ok (.iconst 2, 1) := by decide +kernel
theorem d_M_receive_144 : decode c_M_receive 144 = .ok (.if_icmp .ne 4, 3) := by decide +kernel
theorem d_M_receive_147 : decode c_M_receive 147 = .ok (.return_, 1) := by decide +kernel
theorem d_M_receive_148 : decode c_M_receive 148 = .ok (.iconst 0, 1) := by decide +kernel
theorem d_M_receive_149 : decode c_M_receive 149 = .ok (.istore 4, 2) := by decide +kernel
theorem d_M_receive_151 : decode c_M_receive 151 = .ok (.iload 4, 2) := by decide +kernel
theorem d_M_receive_153 : decode c_M_receive 153 = .ok (.iconst 3, 1) := by decide +kernel
theorem d_M_receive_154 : decode c_M_receive 154 = .ok (.if_icmp .ge 21, 3) := by decide +kernel
theorem d_M_receive_157 : decode c_M_receive 157 = .ok (.aload_n 0, 1) := by decide +kernel
theorem d_M_receive_158 : decode c_M_receive 158 = .ok (.aload_n 0, 1) := by decide +kernel
theorem d_M_receive_159 : decode c_M_receive 159 = .ok (.getfield 76, 3) := by decide +kernel
theorem d_M_receive_162 : decode c_M_receive 162 = .ok (.iconst 1, 1) := by decide +kernel
theorem d_M_receive_163 : decode c_M_receive 163 = .ok (.isub, 1) := by decide +kernel
theorem d_M_receive_164 : decode c_M_receive 164 = .ok (.iload 4, 2) := by decide +kernel
theorem d_M_receive_166 : decode c_M_receive 166 = .ok (.invokevirtual 128, 3) := by decide +kernel
theorem d_M_receive_169 : decode c_M_receive 169 = .ok (.iinc 4 1, 3) := by decide +kernel
theorem d_M_receive_172 : decode c_M_receive 172 = .ok (.goto (-21), 3) := by decide +kernel
theorem d_M_receive_175 : decode c_M_receive 175 = .ok (.return_, 1) := by decide +kernel
theorem d_M_answer_0 : decode c_M_answer 0 = .ok (.iload_n 2, 1) := by decide +kernel
theorem d_M_answer_1 : decode c_M_answer 1 = .ok (.istore_n 3, 1) := by decide +kernel
theorem d_M_answer_2 : decode c_M_answer 2 = .ok (.iload_n 3, 1) := by decide +kernel
theorem d_M_answer_3 : decode c_M_answer 3 = .ok (.aload_n 0, 1) := by decide +kernel
theorem d_M_answer_4 : decode c_M_answer 4 = .ok (.getfield 76, 3) := by decide +kernel
theorem d_M_answer_7 : decode c_M_answer 7 = .ok (.if_icmp .ge 15, 3) := by decide +kernel
theorem d_M_answer_10 : decode c_M_answer 10 = .ok (.aload_n 0, 1) := by decide +kernel
theorem d_M_answer_11 : decode c_M_answer 11 = .ok (.iload_n 3, 1) := by decide +kernel
theorem d_M_answer_12 : decode c_M_answer 12 = .ok (.iload_n 1, 1) := by decide +kernel
theorem d_M_answer_13 : decode c_M_answer 13 = .ok (.invokevirtual 128, 3) := by decide +kernel
theorem d_M_answer_16 : decode c_M_answer 16 = .ok (.iinc 3 1, 3) := by decide +kernel
theorem d_M_answer_19 : decode c_M_answer 19 = .ok (.goto (-17), 3) := by decide +kernel
theorem d_M_answer_22 : decode c_M_answer 22 = .ok (.return_, 1) := by decide +kernel
theorem d_M_deliver_0 : decode c_M_deliver 0 = .ok (.aload_n 0, 1) := by decide +kernel
theorem d_M_deliver_1 : decode c_M_deliver 1 = .ok (.iconst 0, 1) := by decide +kernel
theorem d_M_deliver_2 : decode c_M_deliver 2 = .ok (.putfield 65, 3) := by decide +kernel
theorem d_M_deliver_5 : decode c_M_deliver 5 = .ok (.iload_n 1, 1) := by decide +kernel
theorem d_M_deliver_6 : decode c_M_deliver 6 = .ok (.ifCond .lt 11, 3) := by decide +kernel
theorem d_M_deliver_9 : decode c_M_deliver 9 = .ok (.iload_n 1, 1) := by decide +kernel
theorem d_M_deliver_10 : decode c_M_deliver 10 = .ok (.aload_n 0, 1) := by decide +kernel
theorem d_M_deliver_11 : decode c_M_deliver 11 = .ok (.getfield 83, 3) := by decide +kernel
theorem d_M_deliver_14 : decode c_M_deliver 14 = .ok (.if_icmp .lt 5, 3) := by decide +kernel
theorem d_M_deliver_17 : decode c_M_deliver 17 = .ok (.iconst (-1), 1) := by decide +kernel
theorem d_M_deliver_18 : decode c_M_deliver 18 = .ok (.ireturn, 1) := by decide +kernel
theorem d_M_deliver_19 : decode c_M_deliver 19 = .ok (.aload_n 0, 1) := by decide +kernel
theorem d_M_deliver_20 : decode c_M_deliver 20 = .ok (.getfield 47, 3) := by decide +kernel
theorem d_M_deliver_23 : decode c_M_deliver 23 = .ok (.iload_n 1, 1) := by decide +kernel
theorem d_M_deliver_24 : decode c_M_deliver 24 = .ok (.iaload, 1) := by decide +kernel
theorem d_M_deliver_25 : decode c_M_deliver 25 = .ok (.istore_n 2, 1) := by decide +kernel
theorem d_M_deliver_26 : decode c_M_deliver 26 = .ok (.aload_n 0, 1) := by decide +kernel
theorem d_M_deliver_27 : decode c_M_deliver 27 = .ok (.getfield 50, 3) := by decide +kernel
theorem d_M_deliver_30 : decode c_M_deliver 30 = .ok (.iload_n 1, 1) := by decide +kernel
theorem d_M_deliver_31 : decode c_M_deliver 31 = .ok (.iaload, 1) := by decide +kernel
theorem d_M_deliver_32 : decode c_M_deliver 32 = .ok (.istore_n 3, 1) := by decide +kernel
theorem d_M_deliver_33 : decode c_M_deliver 33 = .ok (.aload_n 0, 1) := by decide +kernel
theorem d_M_deliver_34 : decode c_M_deliver 34 = .ok (.getfield 53, 3) := by decide +kernel
theorem d_M_deliver_37 : decode c_M_deliver 37 = .ok (.iload_n 1, 1) := by decide +kernel
theorem d_M_deliver_38 : decode c_M_deliver 38 = .ok (.iaload, 1) := by decide +kernel
theorem d_M_deliver_39 : decode c_M_deliver 39 = .ok (.istore 4, 2) := by decide +kernel
theorem d_M_deliver_41 : decode c_M_deliver 41 = .ok (.aload_n 0, 1) := by decide +kernel
theorem d_M_deliver_42 : decode c_M_deliver 42 = .ok (.getfield 56, 3) := by decide +kernel
theorem d_M_deliver_45 : decode c_M_deliver 45 = .ok (.iload_n 1, 1) := by decide +kernel
theorem d_M_deliver_46 : decode c_M_deliver 46 = .ok (.iaload, 1) := by decide +kernel
theorem d_M_deliver_47 : decode c_M_deliver 47 = .ok (.istore 5, 2) := by decide +kernel
theorem d_M_deliver_49 : decode c_M_deliver 49 = .ok (.aload_n 0, 1) := by decide +kernel
theorem d_M_deliver_50 : decode c_M_deliver 50 = .ok (.getfield 59, 3) := by decide +kernel
theorem d_M_deliver_53 : decode c_M_deliver 53 = .ok (.iload_n 1, 1) := by decide +kernel
theorem d_M_deliver_54 : decode c_M_deliver 54 = .ok (.iaload, 1) := by decide +kernel
theorem d_M_deliver_55 : decode c_M_deliver 55 = .ok (.ifCond .eq 7, 3) := by decide +kernel
theorem d_M_deliver_58 : decode c_M_deliver 58 = .ok (.iconst 1, 1) := by decide +kernel
theorem d_M_deliver_59 : decode c_M_deliver 59 = .ok (.goto 4, 3) := by decide +kernel
theorem d_M_deliver_62 : decode c_M_deliver 62 = .ok (.iconst 0, 1) := by decide +kernel
theorem d_M_deliver_63 : decode c_M_deliver 63 = .ok (.istore 6, 2) := by decide +kernel
theorem d_M_deliver_65 : decode c_M_deliver 65 = .ok (.aload_n 0, 1) := by decide +kernel
theorem d_M_deliver_66 : decode c_M_deliver 66 = .ok (.sipush 324, 3) := by decide +kernel
theorem d_M_deliver_69 : decode c_M_deliver 69 = .ok (.iload_n 1, 1) := by decide +kernel
theorem d_M_deliver_70 : decode c_M_deliver 70 = .ok (.iadd, 1) := by decide +kernel
theorem d_M_deliver_71 : decode c_M_deliver 71 = .ok (.sipush 356, 3) := by decide +kernel
theorem d_M_deliver_74 : decode c_M_deliver 74 = .ok (.invokevirtual 90, 3) := by decide +kernel
theorem d_M_deliver_77 : decode c_M_deliver 77 = .ok (.aload_n 0, 1) := by decide +kernel
theorem d_M_deliver_78 : decode c_M_deliver 78 = .ok (.iload_n 1, 1) := by decide +kernel
theorem d_M_deliver_79 : decode c_M_deliver 79 = .ok (.invokevirtual 131, 3) := by decide +kernel
theorem d_M_deliver_82 : decode c_M_deliver 82 = .ok (.iload 6, 2) := by decide +kernel
theorem d_M_deliver_84 : decode c_M_deliver 84 = .ok (.ifCond .eq 6, 3) := by decide +kernel
theorem d_M_deliver_87 : decode c_M_deliver 87 = .ok (.bipush (-2), 2) := by decide +kernel
theorem d_M_deliver_89 : decode c_M_deliver 89 = .ok (.ireturn, 1) := by decide +kernel
theorem d_M_deliver_90 : decode c_M_deliver 90 = .ok (.iload_n 2, 1) := by decide +kernel
theorem d_M_deliver_91 : decode c_M_deliver 91 = .ok (.iconst 2, 1) := by decide +kernel
theorem d_M_deliver_92 : decode c_M_deliver 92 = .ok (.if_icmp .ne 13, 3) := by decide +kernel
theorem d_M_deliver_95 : decode c_M_deliver 95 = .ok (.aload_n 0, 1) := by decide +kernel
theorem d_M_deliver_96 : decode c_M_deliver 96 = .ok (.iload_n 3, 1) := by decide +kernel
theorem d_M_deliver_97 : decode c_M_deliver 97 = .ok (.iload 4, 2) := by decide +kernel
theorem d_M_deliver_99 : decode c_M_deliver 99 = .ok (.invokevirtual 134, 3) := by decide +kernel
theorem d_M_deliver_102 : decode c_M_deliver 102 = .ok (.goto 40, 3) := by decide +kernel
theorem d_M_deliver_105 : decode c_M_deliver 105 = .ok (.aload_n 0, 1) := by decide +kernel
theorem d_M_deliver_106 : decode c_M_deliver 106 = .ok (.getfield 124, 3) := by decide +kernel
theorem d_M_deliver_109 : decode c_M_deliver 109 = .ok (.ifCond .ne 19, 3) := by decide +kernel
theorem d_M_deliver_112 : decode c_M_deliver 112 = .ok (.iload_n 2, 1) := by decide +kernel
theorem d_M_deliver_113 : decode c_M_deliver 113 = .ok (.ifCond .ne 15, 3) := by decide +kernel
theorem d_M_deliver_116 : decode c_M_deliver 116 = .ok (.aload_n 0, 1) := by decide +kernel
theorem d_M_deliver_117 : decode c_M_deliver 117 = .ok (.iload_n 3, 1) := by decide +kernel
theorem d_M_deliver_118 : decode c_M_deliver 118 = .ok (.iload 4, 2) := by decide +kernel
theorem d_M_deliver_120 : decode c_M_deliver 120 = .ok (.iload 5, 2) := by decide +kernel
theorem d_M_deliver_122 : decode c_M_deliver 122 = .ok (.invokevirtual 137, 3) := by decide +kernel
theorem d_M_deliver_125 : decode c_M_deliver 125 = .ok (.goto 17, 3) := by decide +kernel
theorem d_M_deliver_128 : decode c_M_deliver 128 = .ok (.aload_n 0, 1) := by decide +kernel
theorem d_M_deliver_129 : decode c_M_deliver 129 = .ok (.getfield 124, 3) := by decide +kernel
theorem d_M_deliver_132 : decode c_M_deliver 132 = .ok (.ifCond .ne 10, 3) := by decide +kernel
theorem d_M_deliver_135 : decode c_M_deliver 135 = .ok (.aload_n 0, 1) := by decide +kernel
theorem d_M_deliver_136 : decode c_M_deliver 136 = .ok (.iload_n 3, 1) := by decide +kernel
theorem d_M_deliver_137 : decode c_M_deliver 137 = .ok (.iload 4, 2) := by decide +kernel
theorem d_M_deliver_139 : decode c_M_deliver 139 = .ok (.invokevirtual 118, 3) := by decide +kernel
theorem d_M_deliver_142 : decode c_M_deliver 142 = .ok (.iload_n 2, 1) := by decide +kernel
theorem d_M_deliver_143 : decode c_M_deliver 143 = .ok (.ireturn, 1) := by decide +kernel
theorem d_M_crash_0 : decode c_M_crash 0 = .ok (.aload_n 0, 1) := by decide +kernel
theorem d_M_crash_1 : decode c_M_crash 1 = .ok (.iconst 0, 1) := by decide +kernel
theorem d_M_crash_2 : decode c_M_crash 2 = .ok (.putfield 65, 3) := by decide +kernel
theorem d_M_crash_5 : decode c_M_crash 5 = .ok (.aload_n 0, 1) := by decide +kernel
theorem d_M_crash_6 : decode c_M_crash 6 = .ok (.getfield 124, 3) := by decide +kernel
theorem d_M_crash_9 : decode c_M_crash 9 = .ok (.istore_n 1, 1) := by decide +kernel
theorem d_M_crash_10 : decode c_M_crash 10 = .ok (.aload_n 0, 1) := by decide +kernel
theorem d_M_crash_11 : decode c_M_crash 11 = .ok (.iconst 1, 1) := by decide +kernel
theorem d_M_crash_12 : decode c_M_crash 12 = .ok (.putfield 124, 3) := by decide +kernel
theorem d_M_crash_15 : decode c_M_crash 15 = .ok (.iload_n 1, 1) := by decide +kernel
theorem d_M_crash_16 : decode c_M_crash 16 = .ok (.ifCond .ne 7, 3) := by decide +kernel
theorem d_M_crash_19 : decode c_M_crash 19 = .ok (.iconst 1, 1) := by decide +kernel
theorem d_M_crash_20 : decode c_M_crash 20 = .ok (.goto 4, 3) := by decide +kernel
theorem d_M_crash_23 : decode c_M_crash 23 = .ok (.iconst 0, 1) := by decide +kernel
theorem d_M_crash_24 : decode c_M_crash 24 = .ok (.ireturn, 1) := by decide +kernel
theorem d_M_restart_0 : decode c_M_restart 0 = .ok (.aload_n 0, 1) := by decide +kernel
theorem d_M_restart_1 : decode c_M_restart 1 = .ok (.iconst 0, 1) := by decide +kernel
theorem d_M_restart_2 : decode c_M_restart 2 = .ok (.putfield 65, 3) := by decide +kernel
theorem d_M_restart_5 : decode c_M_restart 5 = .ok (.aload_n 0, 1) := by decide +kernel
theorem d_M_restart_6 : decode c_M_restart 6 = .ok (.getfield 124, 3) := by decide +kernel
theorem d_M_restart_9 : decode c_M_restart 9 = .ok (.ifCond .ne 5, 3) := by decide +kernel
theorem d_M_restart_12 : decode c_M_restart 12 = .ok (.iconst 0, 1) := by decide +kernel
theorem d_M_restart_13 : decode c_M_restart 13 = .ok (.ireturn, 1) := by decide +kernel
theorem d_M_restart_14 : decode c_M_restart 14 = .ok (.aload_n 0, 1) := by decide +kernel
theorem d_M_restart_15 : decode c_M_restart 15 = .ok (.iconst 0, 1) := by decide +kernel
theorem d_M_restart_16 : decode c_M_restart 16 = .ok (.putfield 124, 3) := by decide +kernel
theorem d_M_restart_19 : decode c_M_restart 19 = .ok (.aload_n 0, 1) := by decide +kernel
theorem d_M_restart_20 : decode c_M_restart 20 = .ok (.iconst 0, 1) := by decide +kernel
theorem d_M_restart_21 : decode c_M_restart 21 = .ok (.putfield 121, 3) := by decide +kernel
theorem d_M_restart_24 : decode c_M_restart 24 = .ok (.iconst 1, 1) := by decide +kernel
theorem d_M_restart_25 : decode c_M_restart 25 = .ok (.ireturn, 1) := by decide +kernel
theorem d_M_trip_0 : decode c_M_trip 0 = .ok (.aload_n 0, 1) := by decide +kernel
theorem d_M_trip_1 : decode c_M_trip 1 = .ok (.iconst 0, 1) := by decide +kernel
theorem d_M_trip_2 : decode c_M_trip 2 = .ok (.putfield 65, 3) := by decide +kernel
theorem d_M_trip_5 : decode c_M_trip 5 = .ok (.iload_n 1, 1) := by decide +kernel
theorem d_M_trip_6 : decode c_M_trip 6 = .ok (.ifCond .lt 8, 3) := by decide +kernel
theorem d_M_trip_9 : decode c_M_trip 9 = .ok (.iload_n 1, 1) := by decide +kernel
theorem d_M_trip_10 : decode c_M_trip 10 = .ok (.iconst 2, 1) := by decide +kernel
theorem d_M_trip_11 : decode c_M_trip 11 = .ok (.if_icmp .le 5, 3) := by decide +kernel
theorem d_M_trip_14 : decode c_M_trip 14 = .ok (.iconst 0, 1) := by decide +kernel
theorem d_M_trip_15 : decode c_M_trip 15 = .ok (.ireturn, 1) := by decide +kernel
theorem d_M_trip_16 : decode c_M_trip 16 = .ok (.aload_n 0, 1) := by decide +kernel
theorem d_M_trip_17 : decode c_M_trip 17 = .ok (.iload_n 1, 1) := by decide +kernel
theorem d_M_trip_18 : decode c_M_trip 18 = .ok (.putfield 121, 3) := by decide +kernel
theorem d_M_trip_21 : decode c_M_trip 21 = .ok (.iconst 1, 1) := by decide +kernel
theorem d_M_trip_22 : decode c_M_trip 22 = .ok (.ireturn, 1) := by decide +kernel
theorem d_M_tick_0 : decode c_M_tick 0 = .ok (.aload_n 0, 1) := by decide +kernel
theorem d_M_tick_1 : decode c_M_tick 1 = .ok (.iconst 0, 1) := by decide +kernel
theorem d_M_tick_2 : decode c_M_tick 2 = .ok (.putfield 65, 3) := by decide +kernel
theorem d_M_tick_5 : decode c_M_tick 5 = .ok (.iconst 0, 1) := by decide +kernel
theorem d_M_tick_6 : decode c_M_tick 6 = .ok (.istore_n 1, 1) := by decide +kernel
theorem d_M_tick_7 : decode c_M_tick 7 = .ok (.iload_n 1, 1) := by decide +kernel
theorem d_M_tick_8 : decode c_M_tick 8 = .ok (.iconst 3, 1) := by decide +kernel
theorem d_M_tick_9 : decode c_M_tick 9 = .ok (.if_icmp .ge 14, 3) := by decide +kernel
theorem d_M_tick_12 : decode c_M_tick 12 = .ok (.aload_n 0, 1) := by decide +kernel
theorem d_M_tick_13 : decode c_M_tick 13 = .ok (.iload_n 1, 1) := by decide +kernel
theorem d_M_tick_14 : decode c_M_tick 14 = .ok (.invokevirtual 96, 3) := by decide +kernel
theorem d_M_tick_17 : decode c_M_tick 17 = .ok (.iinc 1 1, 3) := by decide +kernel
theorem d_M_tick_20 : decode c_M_tick 20 = .ok (.goto (-13), 3) := by decide +kernel
theorem d_M_tick_23 : decode c_M_tick 23 = .ok (.return_, 1) := by decide +kernel
theorem d_M_connect_0 : decode c_M_connect 0 = .ok (.aload_n 0, 1) := by decide +kernel
theorem d_M_connect_1 : decode c_M_connect 1 = .ok (.iconst 0, 1) := by decide +kernel
theorem d_M_connect_2 : decode c_M_connect 2 = .ok (.putfield 65, 3) := by decide +kernel
theorem d_M_connect_5 : decode c_M_connect 5 = .ok (.iload_n 1, 1) := by decide +kernel
theorem d_M_connect_6 : decode c_M_connect 6 = .ok (.invokestatic 100, 3) := by decide +kernel
theorem d_M_connect_9 : decode c_M_connect 9 = .ok (.ifCond .eq 13, 3) := by decide +kernel
theorem d_M_connect_12 : decode c_M_connect 12 = .ok (.aload_n 0, 1) := by decide +kernel
theorem d_M_connect_13 : decode c_M_connect 13 = .ok (.getfield 31, 3) := by decide +kernel
theorem d_M_connect_16 : decode c_M_connect 16 = .ok (.iload_n 1, 1) := by decide +kernel
theorem d_M_connect_17 : decode c_M_connect 17 = .ok (.baload, 1) := by decide +kernel
theorem d_M_connect_18 : decode c_M_connect 18 = .ok (.iload_n 2, 1) := by decide +kernel
theorem d_M_connect_19 : decode c_M_connect 19 = .ok (.if_icmp .eq 5, 3) := by decide +kernel
theorem d_M_connect_22 : decode c_M_connect 22 = .ok (.iconst 0, 1) := by decide +kernel
theorem d_M_connect_23 : decode c_M_connect 23 = .ok (.ireturn, 1) := by decide +kernel
theorem d_M_connect_24 : decode c_M_connect 24 = .ok (.aload_n 0, 1) := by decide +kernel
theorem d_M_connect_25 : decode c_M_connect 25 = .ok (.getfield 31, 3) := by decide +kernel
theorem d_M_connect_28 : decode c_M_connect 28 = .ok (.iload_n 1, 1) := by decide +kernel
theorem d_M_connect_29 : decode c_M_connect 29 = .ok (.iload_n 2, 1) := by decide +kernel
theorem d_M_connect_30 : decode c_M_connect 30 = .ok (.ifCond .ne 7, 3) := by decide +kernel
theorem d_M_connect_33 : decode c_M_connect 33 = .ok (.iconst 1, 1) := by decide +kernel
theorem d_M_connect_34 : decode c_M_connect 34 = .ok (.goto 4, 3) := by decide +kernel
theorem d_M_connect_37 : decode c_M_connect 37 = .ok (.iconst 0, 1) := by decide +kernel
theorem d_M_connect_38 : decode c_M_connect 38 = .ok (.bastore, 1) := by decide +kernel
theorem d_M_connect_39 : decode c_M_connect 39 = .ok (.aload_n 0, 1) := by decide +kernel
theorem d_M_connect_40 : decode c_M_connect 40 = .ok (.iload_n 1, 1) := by decide +kernel
theorem d_M_connect_41 : decode c_M_connect 41 = .ok (.invokevirtual 96, 3) := by decide +kernel
theorem d_M_connect_44 : decode c_M_connect 44 = .ok (.iconst 1, 1) := by decide +kernel
theorem d_M_connect_45 : decode c_M_connect 45 = .ok (.ireturn, 1) := by decide +kernel
theorem d_M_isMessage_0 : decode c_M_isMessage 0 = .ok (.aload_n 0, 1) := by decide +kernel
theorem d_M_isMessage_1 : decode c_M_isMessage 1 = .ok (.iconst 0, 1) := by decide +kernel
theorem d_M_isMessage_2 : decode c_M_isMessage 2 = .ok (.putfield 65, 3) := by decide +kernel
theorem d_M_isMessage_5 : decode c_M_isMessage 5 = .ok (.iload_n 1, 1) := by decide +kernel
theorem d_M_isMessage_6 : decode c_M_isMessage 6 = .ok (.ifCond .lt 15, 3) := by decide +kernel
theorem d_M_isMessage_9 : decode c_M_isMessage 9 = .ok (.iload_n 1, 1) := by decide +kernel
theorem d_M_isMessage_10 : decode c_M_isMessage 10 = .ok (.aload_n 0, 1) := by decide +kernel
theorem d_M_isMessage_11 : decode c_M_isMessage 11 = .ok (.getfield 83, 3) := by decide +kernel
theorem d_M_isMessage_14 : decode c_M_isMessage 14 = .ok (.if_icmp .ge 7, 3) := by decide +kernel
theorem d_M_isMessage_17 : decode c_M_isMessage 17 = .ok (.iconst 1, 1) := by decide +kernel
theorem d_M_isMessage_18 : decode c_M_isMessage 18 = .ok (.goto 4, 3) := by decide +kernel
theorem d_M_isMessage_21 : decode c_M_isMessage 21 = .ok (.iconst 0, 1) := by decide +kernel
theorem d_M_isMessage_22 : decode c_M_isMessage 22 = .ok (.ireturn, 1) := by decide +kernel
theorem d_M_lose_0 : decode c_M_lose 0 = .ok (.aload_n 0, 1) := by decide +kernel
theorem d_M_lose_1 : decode c_M_lose 1 = .ok (.iload_n 1, 1) := by decide +kernel
theorem d_M_lose_2 : decode c_M_lose 2 = .ok (.invokevirtual 140, 3) := by decide +kernel
theorem d_M_lose_5 : decode c_M_lose 5 = .ok (.ifCond .ne 5, 3) := by decide +kernel
theorem d_M_lose_8 : decode c_M_lose 8 = .ok (.iconst 0, 1) := by decide +kernel
theorem d_M_lose_9 : decode c_M_lose 9 = .ok (.ireturn, 1) := by decide +kernel
theorem d_M_lose_10 : decode c_M_lose 10 = .ok (.aload_n 0, 1) := by decide +kernel
theorem d_M_lose_11 : decode c_M_lose 11 = .ok (.iload_n 1, 1) := by decide +kernel
theorem d_M_lose_12 : decode c_M_lose 12 = .ok (.invokevirtual 131, 3) := by decide +kernel
theorem d_M_lose_15 : decode c_M_lose 15 = .ok (.iconst 1, 1) := by decide +kernel
theorem d_M_lose_16 : decode c_M_lose 16 = .ok (.ireturn, 1) := by decide +kernel
theorem d_M_repeat_0 : decode c_M_repeat 0 = .ok (.aload_n 0, 1) := by decide +kernel
theorem d_M_repeat_1 : decode c_M_repeat 1 = .ok (.iload_n 1, 1) := by decide +kernel
theorem d_M_repeat_2 : decode c_M_repeat 2 = .ok (.invokevirtual 140, 3) := by decide +kernel
theorem d_M_repeat_5 : decode c_M_repeat 5 = .ok (.ifCond .eq 34, 3) := by decide +kernel
theorem d_M_repeat_8 : decode c_M_repeat 8 = .ok (.aload_n 0, 1) := by decide +kernel
theorem d_M_repeat_9 : decode c_M_repeat 9 = .ok (.aload_n 0, 1) := by decide +kernel
theorem d_M_repeat_10 : decode c_M_repeat 10 = .ok (.getfield 47, 3) := by decide +kernel
theorem d_M_repeat_13 : decode c_M_repeat 13 = .ok (.iload_n 1, 1) := by decide +kernel
theorem d_M_repeat_14 : decode c_M_repeat 14 = .ok (.iaload, 1) := by decide +kernel
theorem d_M_repeat_15 : decode c_M_repeat 15 = .ok (.aload_n 0, 1) := by decide +kernel
theorem d_M_repeat_16 : decode c_M_repeat 16 = .ok (.getfield 50, 3) := by decide +kernel
theorem d_M_repeat_19 : decode c_M_repeat 19 = .ok (.iload_n 1, 1) := by decide +kernel
theorem d_M_repeat_20 : decode c_M_repeat 20 = .ok (.iaload, 1) := by decide +kernel
theorem d_M_repeat_21 : decode c_M_repeat 21 = .ok (.aload_n 0, 1) := by decide +kernel
theorem d_M_repeat_22 : decode c_M_repeat 22 = .ok (.getfield 53, 3) := by decide +kernel
theorem d_M_repeat_25 : decode c_M_repeat 25 = .ok (.iload_n 1, 1) := by decide +kernel
theorem d_M_repeat_26 : decode c_M_repeat 26 = .ok (.iaload, 1) := by decide +kernel
theorem d_M_repeat_27 : decode c_M_repeat 27 = .ok (.aload_n 0, 1) := by decide +kernel
theorem d_M_repeat_28 : decode c_M_repeat 28 = .ok (.getfield 56, 3) := by decide +kernel
theorem d_M_repeat_31 : decode c_M_repeat 31 = .ok (.iload_n 1, 1) := by decide +kernel
theorem d_M_repeat_32 : decode c_M_repeat 32 = .ok (.iaload, 1) := by decide +kernel
theorem d_M_repeat_33 : decode c_M_repeat 33 = .ok (.invokevirtual 86, 3) := by decide +kernel
theorem d_M_repeat_36 : decode c_M_repeat 36 = .ok (.ifCond .ne 5, 3) := by decide +kernel
theorem d_M_repeat_39 : decode c_M_repeat 39 = .ok (.iconst 0, 1) := by decide +kernel
theorem d_M_repeat_40 : decode c_M_repeat 40 = .ok (.ireturn, 1) := by decide +kernel
theorem d_M_repeat_41 : decode c_M_repeat 41 = .ok (.aload_n 0, 1) := by decide +kernel
theorem d_M_repeat_42 : decode c_M_repeat 42 = .ok (.getfield 59, 3) := by decide +kernel
theorem d_M_repeat_45 : decode c_M_repeat 45 = .ok (.aload_n 0, 1) := by decide +kernel
theorem d_M_repeat_46 : decode c_M_repeat 46 = .ok (.getfield 83, 3) := by decide +kernel
theorem d_M_repeat_49 : decode c_M_repeat 49 = .ok (.iconst 1, 1) := by decide +kernel
theorem d_M_repeat_50 : decode c_M_repeat 50 = .ok (.isub, 1) := by decide +kernel
theorem d_M_repeat_51 : decode c_M_repeat 51 = .ok (.aload_n 0, 1) := by decide +kernel
theorem d_M_repeat_52 : decode c_M_repeat 52 = .ok (.getfield 59, 3) := by decide +kernel
theorem d_M_repeat_55 : decode c_M_repeat 55 = .ok (.iload_n 1, 1) := by decide +kernel
theorem d_M_repeat_56 : decode c_M_repeat 56 = .ok (.iaload, 1) := by decide +kernel
theorem d_M_repeat_57 : decode c_M_repeat 57 = .ok (.iastore, 1) := by decide +kernel
theorem d_M_repeat_58 : decode c_M_repeat 58 = .ok (.aload_n 0, 1) := by decide +kernel
theorem d_M_repeat_59 : decode c_M_repeat 59 = .ok (.sipush 324, 3) := by decide +kernel
theorem d_M_repeat_62 : decode c_M_repeat 62 = .ok (.iload_n 1, 1) := by decide +kernel
theorem d_M_repeat_63 : decode c_M_repeat 63 = .ok (.iadd, 1) := by decide +kernel
theorem d_M_repeat_64 : decode c_M_repeat 64 = .ok (.sipush 324, 3) := by decide +kernel
theorem d_M_repeat_67 : decode c_M_repeat 67 = .ok (.aload_n 0, 1) := by decide +kernel
theorem d_M_repeat_68 : decode c_M_repeat 68 = .ok (.getfield 83, 3) := by decide +kernel
theorem d_M_repeat_71 : decode c_M_repeat 71 = .ok (.iadd, 1) := by decide +kernel
theorem d_M_repeat_72 : decode c_M_repeat 72 = .ok (.iconst 1, 1) := by decide +kernel
theorem d_M_repeat_73 : decode c_M_repeat 73 = .ok (.isub, 1) := by decide +kernel
theorem d_M_repeat_74 : decode c_M_repeat 74 = .ok (.invokevirtual 90, 3) := by decide +kernel
theorem d_M_repeat_77 : decode c_M_repeat 77 = .ok (.iconst 1, 1) := by decide +kernel
theorem d_M_repeat_78 : decode c_M_repeat 78 = .ok (.ireturn, 1) := by decide +kernel
theorem d_M_harm_0 : decode c_M_harm 0 = .ok (.aload_n 0, 1) := by decide +kernel
theorem d_M_harm_1 : decode c_M_harm 1 = .ok (.iload_n 1, 1) := by decide +kernel
theorem d_M_harm_2 : decode c_M_harm 2 = .ok (.invokevirtual 140, 3) := by decide +kernel
theorem d_M_harm_5 : decode c_M_harm 5 = .ok (.ifCond .ne 5, 3) := by decide +kernel
theorem d_M_harm_8 : decode c_M_harm 8 = .ok (.iconst 0, 1) := by decide +kernel
theorem d_M_harm_9 : decode c_M_harm 9 = .ok (.ireturn, 1) := by decide +kernel
theorem d_M_harm_10 : decode c_M_harm 10 = .ok (.aload_n 0, 1) := by decide +kernel
theorem d_M_harm_11 : decode c_M_harm 11 = .ok (.getfield 59, 3) := by decide +kernel
theorem d_M_harm_14 : decode c_M_harm 14 = .ok (.iload_n 1, 1) := by decide +kernel
theorem d_M_harm_15 : decode c_M_harm 15 = .ok (.dup2, 1) := by decide +kernel
theorem d_M_harm_16 : decode c_M_harm 16 = .ok (.iaload, 1) := by decide +kernel
theorem d_M_harm_17 : decode c_M_harm 17 = .ok (.iload_n 2, 1) := by decide +kernel
theorem d_M_harm_18 : decode c_M_harm 18 = .ok (.sipush 255, 3) := by decide +kernel
theorem d_M_harm_21 : decode c_M_harm 21 = .ok (.iand, 1) := by decide +kernel
theorem d_M_harm_22 : decode c_M_harm 22 = .ok (.ixor, 1) := by decide +kernel
theorem d_M_harm_23 : decode c_M_harm 23 = .ok (.iastore, 1) := by decide +kernel
theorem d_M_harm_24 : decode c_M_harm 24 = .ok (.iconst 1, 1) := by decide +kernel
theorem d_M_harm_25 : decode c_M_harm 25 = .ok (.ireturn, 1) := by decide +kernel
theorem d_M_waiting_0 : decode c_M_waiting 0 = .ok (.aload_n 0, 1) := by decide +kernel
theorem d_M_waiting_1 : decode c_M_waiting 1 = .ok (.iconst 0, 1) := by decide +kernel
theorem d_M_waiting_2 : decode c_M_waiting 2 = .ok (.putfield 65, 3) := by decide +kernel
theorem d_M_waiting_5 : decode c_M_waiting 5 = .ok (.aload_n 0, 1) := by decide +kernel
theorem d_M_waiting_6 : decode c_M_waiting 6 = .ok (.getfield 83, 3) := by decide +kernel
theorem d_M_waiting_9 : decode c_M_waiting 9 = .ok (.ireturn, 1) := by decide +kernel
theorem d_M_message_0 : decode c_M_message 0 = .ok (.aload_n 0, 1) := by decide +kernel
theorem d_M_message_1 : decode c_M_message 1 = .ok (.iload_n 1, 1) := by decide +kernel
theorem d_M_message_2 : decode c_M_message 2 = .ok (.invokevirtual 140, 3) := by decide +kernel
theorem d_M_message_5 : decode c_M_message 5 = .ok (.ifCond .ne 5, 3) := by decide +kernel
theorem d_M_message_8 : decode c_M_message 8 = .ok (.iconst (-1), 1) := by decide +kernel
theorem d_M_message_9 : decode c_M_message 9 = .ok (.ireturn, 1) := by decide +kernel
theorem d_M_message_10 : decode c_M_message 10 = .ok (.iload_n 2, 1) := by decide +kernel
theorem d_M_message_11 : decode c_M_message 11 = .ok (.tableswitch 76 0 4 #[33, 40, 47, 54, 61], 33) := by decide +kernel
theorem d_M_message_44 : decode c_M_message 44 = .ok (.aload_n 0, 1) := by decide +kernel
theorem d_M_message_45 : decode c_M_message 45 = .ok (.getfield 47, 3) := by decide +kernel
theorem d_M_message_48 : decode c_M_message 48 = .ok (.iload_n 1, 1) := by decide +kernel
theorem d_M_message_49 : decode c_M_message 49 = .ok (.iaload, 1) := by decide +kernel
theorem d_M_message_50 : decode c_M_message 50 = .ok (.ireturn, 1) := by decide +kernel
theorem d_M_message_51 : decode c_M_message 51 = .ok (.aload_n 0, 1) := by decide +kernel
theorem d_M_message_52 : decode c_M_message 52 = .ok (.getfield 50, 3) := by decide +kernel
theorem d_M_message_55 : decode c_M_message 55 = .ok (.iload_n 1, 1) := by decide +kernel
theorem d_M_message_56 : decode c_M_message 56 = .ok (.iaload, 1) := by decide +kernel
theorem d_M_message_57 : decode c_M_message 57 = .ok (.ireturn, 1) := by decide +kernel
theorem d_M_message_58 : decode c_M_message 58 = .ok (.aload_n 0, 1) := by decide +kernel
theorem d_M_message_59 : decode c_M_message 59 = .ok (.getfield 53, 3) := by decide +kernel
theorem d_M_message_62 : decode c_M_message 62 = .ok (.iload_n 1, 1) := by decide +kernel
theorem d_M_message_63 : decode c_M_message 63 = .ok (.iaload, 1) := by decide +kernel
theorem d_M_message_64 : decode c_M_message 64 = .ok (.ireturn, 1) := by decide +kernel
theorem d_M_message_65 : decode c_M_message 65 = .ok (.aload_n 0, 1) := by decide +kernel
theorem d_M_message_66 : decode c_M_message 66 = .ok (.getfield 56, 3) := by decide +kernel
theorem d_M_message_69 : decode c_M_message 69 = .ok (.iload_n 1, 1) := by decide +kernel
theorem d_M_message_70 : decode c_M_message 70 = .ok (.iaload, 1) := by decide +kernel
theorem d_M_message_71 : decode c_M_message 71 = .ok (.ireturn, 1) := by decide +kernel
theorem d_M_message_72 : decode c_M_message 72 = .ok (.aload_n 0, 1) := by decide +kernel
theorem d_M_message_73 : decode c_M_message 73 = .ok (.getfield 59, 3) := by decide +kernel
theorem d_M_message_76 : decode c_M_message 76 = .ok (.iload_n 1, 1) := by decide +kernel
theorem d_M_message_77 : decode c_M_message 77 = .ok (.iaload, 1) := by decide +kernel
theorem d_M_message_78 : decode c_M_message 78 = .ok (.ifCond .ne 7, 3) := by decide +kernel
theorem d_M_message_81 : decode c_M_message 81 = .ok (.iconst 1, 1) := by decide +kernel
theorem d_M_message_82 : decode c_M_message 82 = .ok (.goto 4, 3) := by decide +kernel
theorem d_M_message_85 : decode c_M_message 85 = .ok (.iconst 0, 1) := by decide +kernel
theorem d_M_message_86 : decode c_M_message 86 = .ok (.ireturn, 1) := by decide +kernel
theorem d_M_message_87 : decode c_M_message 87 = .ok (.iconst (-1), 1) := by decide +kernel
theorem d_M_message_88 : decode c_M_message 88 = .ok (.ireturn, 1) := by decide +kernel
theorem d_M_length_0 : decode c_M_length 0 = .ok (.aload_n 0, 1) := by decide +kernel
theorem d_M_length_1 : decode c_M_length 1 = .ok (.iconst 0, 1) := by decide +kernel
theorem d_M_length_2 : decode c_M_length 2 = .ok (.putfield 65, 3) := by decide +kernel
theorem d_M_length_5 : decode c_M_length 5 = .ok (.iload_n 1, 1) := by decide +kernel
theorem d_M_length_6 : decode c_M_length 6 = .ok (.ifCond .lt 20, 3) := by decide +kernel
theorem d_M_length_9 : decode c_M_length 9 = .ok (.iload_n 1, 1) := by decide +kernel
theorem d_M_length_10 : decode c_M_length 10 = .ok (.iconst 3, 1) := by decide +kernel
theorem d_M_length_11 : decode c_M_length 11 = .ok (.if_icmp .gt 15, 3) := by decide +kernel
theorem d_M_length_14 : decode c_M_length 14 = .ok (.iload_n 1, 1) := by decide +kernel
theorem d_M_length_15 : decode c_M_length 15 = .ok (.iconst 3, 1) := by decide +kernel
theorem d_M_length_16 : decode c_M_length 16 = .ok (.if_icmp .ne 12, 3) := by decide +kernel
theorem d_M_length_19 : decode c_M_length 19 = .ok (.aload_n 0, 1) := by decide +kernel
theorem d_M_length_20 : decode c_M_length 20 = .ok (.getfield 124, 3) := by decide +kernel
theorem d_M_length_23 : decode c_M_length 23 = .ok (.ifCond .eq 5, 3) := by decide +kernel
theorem d_M_length_26 : decode c_M_length 26 = .ok (.iconst (-1), 1) := by decide +kernel
theorem d_M_length_27 : decode c_M_length 27 = .ok (.ireturn, 1) := by decide +kernel
theorem d_M_length_28 : decode c_M_length 28 = .ok (.aload_n 0, 1) := by decide +kernel
theorem d_M_length_29 : decode c_M_length 29 = .ok (.iload_n 1, 1) := by decide +kernel
theorem d_M_length_30 : decode c_M_length 30 = .ok (.invokevirtual 108, 3) := by decide +kernel
theorem d_M_length_33 : decode c_M_length 33 = .ok (.aload_n 0, 1) := by decide +kernel
theorem d_M_length_34 : decode c_M_length 34 = .ok (.getfield 73, 3) := by decide +kernel
theorem d_M_length_37 : decode c_M_length 37 = .ok (.ireturn, 1) := by decide +kernel
theorem d_M_character_0 : decode c_M_character 0 = .ok (.aload_n 0, 1) := by decide +kernel
theorem d_M_character_1 : decode c_M_character 1 = .ok (.iconst 0, 1) := by decide +kernel
theorem d_M_character_2 : decode c_M_character 2 = .ok (.putfield 65, 3) := by decide +kernel
theorem d_M_character_5 : decode c_M_character 5 = .ok (.iload_n 1, 1) := by decide +kernel
theorem d_M_character_6 : decode c_M_character 6 = .ok (.ifCond .lt 8, 3) := by decide +kernel
theorem d_M_character_9 : decode c_M_character 9 = .ok (.iload_n 1, 1) := by decide +kernel
theorem d_M_character_10 : decode c_M_character 10 = .ok (.iconst 3, 1) := by decide +kernel
theorem d_M_character_11 : decode c_M_character 11 = .ok (.if_icmp .le 9, 3) := by decide +kernel
theorem d_M_character_14 : decode c_M_character 14 = .ok (.aload_n 0, 1) := by decide +kernel
theorem d_M_character_15 : decode c_M_character 15 = .ok (.iconst 1, 1) := by decide +kernel
theorem d_M_character_16 : decode c_M_character 16 = .ok (.invokevirtual 104, 3) := by decide +kernel
theorem d_M_character_19 : decode c_M_character 19 = .ok (.ireturn, 1) := by decide +kernel
theorem d_M_character_20 : decode c_M_character 20 = .ok (.iload_n 1, 1) := by decide +kernel
theorem d_M_character_21 : decode c_M_character 21 = .ok (.iconst 3, 1) := by decide +kernel
theorem d_M_character_22 : decode c_M_character 22 = .ok (.if_icmp .ne 16, 3) := by decide +kernel
theorem d_M_character_25 : decode c_M_character 25 = .ok (.aload_n 0, 1) := by decide +kernel
theorem d_M_character_26 : decode c_M_character 26 = .ok (.getfield 124, 3) := by decide +kernel
theorem d_M_character_29 : decode c_M_character 29 = .ok (.ifCond .eq 9, 3) := by decide +kernel
theorem d_M_character_32 : decode c_M_character 32 = .ok (.aload_n 0, 1) := by decide +kernel
theorem d_M_character_33 : decode c_M_character 33 = .ok (.iconst 2, 1) := by decide +kernel
theorem d_M_character_34 : decode c_M_character 34 = .ok (.invokevirtual 104, 3) := by decide +kernel
theorem d_M_character_37 : decode c_M_character 37 = .ok (.ireturn, 1) := by decide +kernel
theorem d_M_character_38 : decode c_M_character 38 = .ok (.aload_n 0, 1) := by decide +kernel
theorem d_M_character_39 : decode c_M_character 39 = .ok (.iload_n 1, 1) := by decide +kernel
theorem d_M_character_40 : decode c_M_character 40 = .ok (.invokevirtual 108, 3) := by decide +kernel
theorem d_M_character_43 : decode c_M_character 43 = .ok (.iload_n 2, 1) := by decide +kernel
theorem d_M_character_44 : decode c_M_character 44 = .ok (.ifCond .lt 11, 3) := by decide +kernel
theorem d_M_character_47 : decode c_M_character 47 = .ok (.iload_n 2, 1) := by decide +kernel
theorem d_M_character_48 : decode c_M_character 48 = .ok (.aload_n 0, 1) := by decide +kernel
theorem d_M_character_49 : decode c_M_character 49 = .ok (.getfield 73, 3) := by decide +kernel
theorem d_M_character_52 : decode c_M_character 52 = .ok (.if_icmp .lt 11, 3) := by decide +kernel
theorem d_M_character_55 : decode c_M_character 55 = .ok (.aload_n 0, 1) := by decide +kernel
theorem d_M_character_56 : decode c_M_character 56 = .ok (.iconst 3, 1) := by decide +kernel
theorem d_M_character_57 : decode c_M_character 57 = .ok (.invokevirtual 104, 3) := by decide +kernel
theorem d_M_character_60 : decode c_M_character 60 = .ok (.goto 9, 3) := by decide +kernel
theorem d_M_character_63 : decode c_M_character 63 = .ok (.aload_n 0, 1) := by decide +kernel
theorem d_M_character_64 : decode c_M_character 64 = .ok (.getfield 62, 3) := by decide +kernel
theorem d_M_character_67 : decode c_M_character 67 = .ok (.iload_n 2, 1) := by decide +kernel
theorem d_M_character_68 : decode c_M_character 68 = .ok (.iaload, 1) := by decide +kernel
theorem d_M_character_69 : decode c_M_character 69 = .ok (.ireturn, 1) := by decide +kernel
theorem d_M_revision_0 : decode c_M_revision 0 = .ok (.aload_n 0, 1) := by decide +kernel
theorem d_M_revision_1 : decode c_M_revision 1 = .ok (.iconst 0, 1) := by decide +kernel
theorem d_M_revision_2 : decode c_M_revision 2 = .ok (.putfield 65, 3) := by decide +kernel
theorem d_M_revision_5 : decode c_M_revision 5 = .ok (.iload_n 1, 1) := by decide +kernel
theorem d_M_revision_6 : decode c_M_revision 6 = .ok (.iconst 3, 1) := by decide +kernel
theorem d_M_revision_7 : decode c_M_revision 7 = .ok (.if_icmp .ne 10, 3) := by decide +kernel
theorem d_M_revision_10 : decode c_M_revision 10 = .ok (.aload_n 0, 1) := by decide +kernel
theorem d_M_revision_11 : decode c_M_revision 11 = .ok (.getfield 76, 3) := by decide +kernel
theorem d_M_revision_14 : decode c_M_revision 14 = .ok (.goto 20, 3) := by decide +kernel
theorem d_M_revision_17 : decode c_M_revision 17 = .ok (.iload_n 1, 1) := by decide +kernel
theorem d_M_revision_18 : decode c_M_revision 18 = .ok (.invokestatic 100, 3) := by decide +kernel
theorem d_M_revision_21 : decode c_M_revision 21 = .ok (.ifCond .eq 12, 3) := by decide +kernel
theorem d_M_revision_24 : decode c_M_revision 24 = .ok (.aload_n 0, 1) := by decide +kernel
theorem d_M_revision_25 : decode c_M_revision 25 = .ok (.getfield 28, 3) := by decide +kernel
theorem d_M_revision_28 : decode c_M_revision 28 = .ok (.iload_n 1, 1) := by decide +kernel
theorem d_M_revision_29 : decode c_M_revision 29 = .ok (.iaload, 1) := by decide +kernel
theorem d_M_revision_30 : decode c_M_revision 30 = .ok (.goto 4, 3) := by decide +kernel
theorem d_M_revision_33 : decode c_M_revision 33 = .ok (.iconst (-1), 1) := by decide +kernel
theorem d_M_revision_34 : decode c_M_revision 34 = .ok (.ireturn, 1) := by decide +kernel
theorem d_M_pending_0 : decode c_M_pending 0 = .ok (.aload_n 0, 1) := by decide +kernel
theorem d_M_pending_1 : decode c_M_pending 1 = .ok (.iconst 0, 1) := by decide +kernel
theorem d_M_pending_2 : decode c_M_pending 2 = .ok (.putfield 65, 3) := by decide +kernel
theorem d_M_pending_5 : decode c_M_pending 5 = .ok (.iload_n 1, 1) := by decide +kernel
theorem d_M_pending_6 : decode c_M_pending 6 = .ok (.invokestatic 100, 3) := by decide +kernel
theorem d_M_pending_9 : decode c_M_pending 9 = .ok (.ifCond .eq 12, 3) := by decide +kernel
theorem d_M_pending_12 : decode c_M_pending 12 = .ok (.aload_n 0, 1) := by decide +kernel
theorem d_M_pending_13 : decode c_M_pending 13 = .ok (.getfield 35, 3) := by decide +kernel
theorem d_M_pending_16 : decode c_M_pending 16 = .ok (.iload_n 1, 1) := by decide +kernel
theorem d_M_pending_17 : decode c_M_pending 17 = .ok (.iaload, 1) := by decide +kernel
theorem d_M_pending_18 : decode c_M_pending 18 = .ok (.goto 4, 3) := by decide +kernel
theorem d_M_pending_21 : decode c_M_pending 21 = .ok (.iconst (-1), 1) := by decide +kernel
theorem d_M_pending_22 : decode c_M_pending 22 = .ok (.ireturn, 1) := by decide +kernel
theorem d_M_op_0 : decode c_M_op 0 = .ok (.aload_n 0, 1) := by decide +kernel
theorem d_M_op_1 : decode c_M_op 1 = .ok (.iconst 0, 1) := by decide +kernel
theorem d_M_op_2 : decode c_M_op 2 = .ok (.putfield 65, 3) := by decide +kernel
theorem d_M_op_5 : decode c_M_op 5 = .ok (.iload_n 1, 1) := by decide +kernel
theorem d_M_op_6 : decode c_M_op 6 = .ok (.ifCond .lt 11, 3) := by decide +kernel
theorem d_M_op_9 : decode c_M_op 9 = .ok (.iload_n 1, 1) := by decide +kernel
theorem d_M_op_10 : decode c_M_op 10 = .ok (.aload_n 0, 1) := by decide +kernel
theorem d_M_op_11 : decode c_M_op 11 = .ok (.getfield 76, 3) := by decide +kernel
theorem d_M_op_14 : decode c_M_op 14 = .ok (.if_icmp .lt 5, 3) := by decide +kernel
theorem d_M_op_17 : decode c_M_op 17 = .ok (.iconst (-1), 1) := by decide +kernel
theorem d_M_op_18 : decode c_M_op 18 = .ok (.ireturn, 1) := by decide +kernel
theorem d_M_op_19 : decode c_M_op 19 = .ok (.iload_n 2, 1) := by decide +kernel
theorem d_M_op_20 : decode c_M_op 20 = .ok (.tableswitch 71 0 4 #[36, 43, 50, 57, 64], 36) := by decide +kernel
theorem d_M_op_56 : decode c_M_op 56 = .ok (.aload_n 0, 1) := by decide +kernel
theorem d_M_op_57 : decode c_M_op 57 = .ok (.getfield 7, 3) := by decide +kernel
theorem d_M_op_60 : decode c_M_op 60 = .ok (.iload_n 1, 1) := by decide +kernel
theorem d_M_op_61 : decode c_M_op 61 = .ok (.iaload, 1) := by decide +kernel
theorem d_M_op_62 : decode c_M_op 62 = .ok (.ireturn, 1) := by decide +kernel
theorem d_M_op_63 : decode c_M_op 63 = .ok (.aload_n 0, 1) := by decide +kernel
theorem d_M_op_64 : decode c_M_op 64 = .ok (.getfield 13, 3) := by decide +kernel
theorem d_M_op_67 : decode c_M_op 67 = .ok (.iload_n 1, 1) := by decide +kernel
theorem d_M_op_68 : decode c_M_op 68 = .ok (.iaload, 1) := by decide +kernel
theorem d_M_op_69 : decode c_M_op 69 = .ok (.ireturn, 1) := by decide +kernel
theorem d_M_op_70 : decode c_M_op 70 = .ok (.aload_n 0, 1) := by decide +kernel
theorem d_M_op_71 : decode c_M_op 71 = .ok (.getfield 16, 3) := by decide +kernel
theorem d_M_op_74 : decode c_M_op 74 = .ok (.iload_n 1, 1) := by decide +kernel
theorem d_M_op_75 : decode c_M_op 75 = .ok (.iaload, 1) := by decide +kernel
theorem d_M_op_76 : decode c_M_op 76 = .ok (.ireturn, 1) := by decide +kernel
theorem d_M_op_77 : decode c_M_op 77 = .ok (.aload_n 0, 1) := by decide +kernel
theorem d_M_op_78 : decode c_M_op 78 = .ok (.getfield 19, 3) := by decide +kernel
theorem d_M_op_81 : decode c_M_op 81 = .ok (.iload_n 1, 1) := by decide +kernel
theorem d_M_op_82 : decode c_M_op 82 = .ok (.iaload, 1) := by decide +kernel
theorem d_M_op_83 : decode c_M_op 83 = .ok (.ireturn, 1) := by decide +kernel
theorem d_M_op_84 : decode c_M_op 84 = .ok (.aload_n 0, 1) := by decide +kernel
theorem d_M_op_85 : decode c_M_op 85 = .ok (.getfield 22, 3) := by decide +kernel
theorem d_M_op_88 : decode c_M_op 88 = .ok (.iload_n 1, 1) := by decide +kernel
theorem d_M_op_89 : decode c_M_op 89 = .ok (.iaload, 1) := by decide +kernel
theorem d_M_op_90 : decode c_M_op 90 = .ok (.ireturn, 1) := by decide +kernel
theorem d_M_op_91 : decode c_M_op 91 = .ok (.iconst (-1), 1) := by decide +kernel
theorem d_M_op_92 : decode c_M_op 92 = .ok (.ireturn, 1) := by decide +kernel
