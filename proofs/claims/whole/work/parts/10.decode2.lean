theorem d_J_init_0 : decode c_J_init 0 = .ok (.aload_n 0, 1) := by decide +kernel
theorem d_J_init_1 : decode c_J_init 1 = .ok (.invokespecial 3, 3) := by decide +kernel
theorem d_J_init_4 : decode c_J_init 4 = .ok (.aload_n 0, 1) := by decide +kernel
theorem d_J_init_5 : decode c_J_init 5 = .ok (.iconst 3, 1) := by decide +kernel
theorem d_J_init_6 : decode c_J_init 6 = .ok (.anewarray 9, 3) := by decide +kernel
theorem d_J_init_9 : decode c_J_init 9 = .ok (.dup, 1) := by decide +kernel
theorem d_J_init_10 : decode c_J_init 10 = .ok (.iconst 0, 1) := by decide +kernel
theorem d_J_init_11 : decode c_J_init 11 = .ok (.new 9, 3) := by decide +kernel
theorem d_J_init_14 : decode c_J_init 14 = .ok (.dup, 1) := by decide +kernel
theorem d_J_init_15 : decode c_J_init 15 = .ok (.iconst 0, 1) := by decide +kernel
theorem d_J_init_16 : decode c_J_init 16 = .ok (.invokespecial 11, 3) := by decide +kernel
theorem d_J_init_19 : decode c_J_init 19 = .ok (.aastore, 1) := by decide +kernel
theorem d_J_init_20 : decode c_J_init 20 = .ok (.dup, 1) := by decide +kernel
theorem d_J_init_21 : decode c_J_init 21 = .ok (.iconst 1, 1) := by decide +kernel
theorem d_J_init_22 : decode c_J_init 22 = .ok (.new 9, 3) := by decide +kernel
theorem d_J_init_25 : decode c_J_init 25 = .ok (.dup, 1) := by decide +kernel
theorem d_J_init_26 : decode c_J_init 26 = .ok (.iconst 1, 1) := by decide +kernel
theorem d_J_init_27 : decode c_J_init 27 = .ok (.invokespecial 11, 3) := by decide +kernel
theorem d_J_init_30 : decode c_J_init 30 = .ok (.aastore, 1) := by decide +kernel
theorem d_J_init_31 : decode c_J_init 31 = .ok (.dup, 1) := by decide +kernel
theorem d_J_init_32 : decode c_J_init 32 = .ok (.iconst 2, 1) := by decide +kernel
theorem d_J_init_33 : decode c_J_init 33 = .ok (.new 9, 3) := by decide +kernel
theorem d_J_init_36 : decode c_J_init 36 = .ok (.dup, 1) := by decide +kernel
theorem d_J_init_37 : decode c_J_init 37 = .ok (.iconst 2, 1) := by decide +kernel
theorem d_J_init_38 : decode c_J_init 38 = .ok (.invokespecial 11, 3) := by decide +kernel
theorem d_J_init_41 : decode c_J_init 41 = .ok (.aastore, 1) := by decide +kernel
theorem d_J_init_42 : decode c_J_init 42 = .ok (.putfield 14, 3) := by decide +kernel
theorem d_J_init_45 : decode c_J_init 45 = .ok (.aload_n 0, 1) := by decide +kernel
theorem d_J_init_46 : decode c_J_init 46 = .ok (.new 18, 3) := by decide +kernel
theorem d_J_init_49 : decode c_J_init 49 = .ok (.dup, 1) := by decide +kernel
theorem d_J_init_50 : decode c_J_init 50 = .ok (.invokespecial 20, 3) := by decide +kernel
theorem d_J_init_53 : decode c_J_init 53 = .ok (.putfield 21, 3) := by decide +kernel
theorem d_J_init_56 : decode c_J_init 56 = .ok (.aload_n 0, 1) := by decide +kernel
theorem d_J_init_57 : decode c_J_init 57 = .ok (.new 25, 3) := by decide +kernel
theorem d_J_init_60 : decode c_J_init 60 = .ok (.dup, 1) := by decide +kernel
theorem d_J_init_61 : decode c_J_init 61 = .ok (.invokespecial 27, 3) := by decide +kernel
theorem d_J_init_64 : decode c_J_init 64 = .ok (.putfield 28, 3) := by decide +kernel
theorem d_J_init_67 : decode c_J_init 67 = .ok (.return_, 1) := by decide +kernel
theorem d_J_insert_0 : decode c_J_insert 0 = .ok (.iload_n 1, 1) := by decide +kernel
theorem d_J_insert_1 : decode c_J_insert 1 = .ok (.invokestatic 32, 3) := by decide +kernel
theorem d_J_insert_4 : decode c_J_insert 4 = .ok (.ifCond .eq 15, 3) := by decide +kernel
theorem d_J_insert_7 : decode c_J_insert 7 = .ok (.iload_n 3, 1) := by decide +kernel
theorem d_J_insert_8 : decode c_J_insert 8 = .ok (.bipush 32, 2) := by decide +kernel
theorem d_J_insert_10 : decode c_J_insert 10 = .ok (.if_icmp .lt 9, 3) := by decide +kernel
theorem d_J_insert_13 : decode c_J_insert 13 = .ok (.iload_n 3, 1) := by decide +kernel
theorem d_J_insert_14 : decode c_J_insert 14 = .ok (.bipush 126, 2) := by decide +kernel
theorem d_J_insert_16 : decode c_J_insert 16 = .ok (.if_icmp .le 11, 3) := by decide +kernel
theorem d_J_insert_19 : decode c_J_insert 19 = .ok (.new 36, 3) := by decide +kernel
theorem d_J_insert_22 : decode c_J_insert 22 = .ok (.dup, 1) := by decide +kernel
theorem d_J_insert_23 : decode c_J_insert 23 = .ok (.invokespecial 38, 3) := by decide +kernel
theorem d_J_insert_26 : decode c_J_insert 26 = .ok (.athrow, 1) := by decide +kernel
theorem d_J_insert_27 : decode c_J_insert 27 = .ok (.aload_n 0, 1) := by decide +kernel
theorem d_J_insert_28 : decode c_J_insert 28 = .ok (.getfield 14, 3) := by decide +kernel
theorem d_J_insert_31 : decode c_J_insert 31 = .ok (.iload_n 1, 1) := by decide +kernel
theorem d_J_insert_32 : decode c_J_insert 32 = .ok (.aaload, 1) := by decide +kernel
theorem d_J_insert_33 : decode c_J_insert 33 = .ok (.astore 4, 2) := by decide +kernel
theorem d_J_insert_35 : decode c_J_insert 35 = .ok (.iload_n 2, 1) := by decide +kernel
theorem d_J_insert_36 : decode c_J_insert 36 = .ok (.ifCond .lt 15, 3) := by decide +kernel
theorem d_J_insert_39 : decode c_J_insert 39 = .ok (.iload_n 2, 1) := by decide +kernel
theorem d_J_insert_40 : decode c_J_insert 40 = .ok (.aload 4, 2) := by decide +kernel
theorem d_J_insert_42 : decode c_J_insert 42 = .ok (.getfield 39, 3) := by decide +kernel
theorem d_J_insert_45 : decode c_J_insert 45 = .ok (.invokevirtual 43, 3) := by decide +kernel
theorem d_J_insert_48 : decode c_J_insert 48 = .ok (.if_icmp .le 11, 3) := by decide +kernel
theorem d_J_insert_51 : decode c_J_insert 51 = .ok (.new 49, 3) := by decide +kernel
theorem d_J_insert_54 : decode c_J_insert 54 = .ok (.dup, 1) := by decide +kernel
theorem d_J_insert_55 : decode c_J_insert 55 = .ok (.invokespecial 51, 3) := by decide +kernel
theorem d_J_insert_58 : decode c_J_insert 58 = .ok (.athrow, 1) := by decide +kernel
theorem d_J_insert_59 : decode c_J_insert 59 = .ok (.aload 4, 2) := by decide +kernel
theorem d_J_insert_61 : decode c_J_insert 61 = .ok (.invokevirtual 52, 3) := by decide +kernel
theorem d_J_insert_64 : decode c_J_insert 64 = .ok (.ifCond .eq 11, 3) := by decide +kernel
theorem d_J_insert_67 : decode c_J_insert 67 = .ok (.new 56, 3) := by decide +kernel
theorem d_J_insert_70 : decode c_J_insert 70 = .ok (.dup, 1) := by decide +kernel
theorem d_J_insert_71 : decode c_J_insert 71 = .ok (.invokespecial 58, 3) := by decide +kernel
theorem d_J_insert_74 : decode c_J_insert 74 = .ok (.athrow, 1) := by decide +kernel
theorem d_J_insert_75 : decode c_J_insert 75 = .ok (.aload_n 0, 1) := by decide +kernel
theorem d_J_insert_76 : decode c_J_insert 76 = .ok (.aload 4, 2) := by decide +kernel
theorem d_J_insert_78 : decode c_J_insert 78 = .ok (.iconst 1, 1) := by decide +kernel
theorem d_J_insert_79 : decode c_J_insert 79 = .ok (.iload_n 2, 1) := by decide +kernel
theorem d_J_insert_80 : decode c_J_insert 80 = .ok (.iload_n 3, 1) := by decide +kernel
theorem d_J_insert_81 : decode c_J_insert 81 = .ok (.iload_n 1, 1) := by decide +kernel
theorem d_J_insert_82 : decode c_J_insert 82 = .ok (.invokestatic 59, 3) := by decide +kernel
theorem d_J_insert_85 : decode c_J_insert 85 = .ok (.iconst 0, 1) := by decide +kernel
theorem d_J_insert_86 : decode c_J_insert 86 = .ok (.invokevirtual 65, 3) := by decide +kernel
theorem d_J_insert_89 : decode c_J_insert 89 = .ok (.aload 4, 2) := by decide +kernel
theorem d_J_insert_91 : decode c_J_insert 91 = .ok (.invokevirtual 69, 3) := by decide +kernel
theorem d_J_insert_94 : decode c_J_insert 94 = .ok (.ireturn, 1) := by decide +kernel
theorem d_J_erase_0 : decode c_J_erase 0 = .ok (.iload_n 1, 1) := by decide +kernel
theorem d_J_erase_1 : decode c_J_erase 1 = .ok (.invokestatic 32, 3) := by decide +kernel
theorem d_J_erase_4 : decode c_J_erase 4 = .ok (.ifCond .ne 11, 3) := by decide +kernel
theorem d_J_erase_7 : decode c_J_erase 7 = .ok (.new 36, 3) := by decide +kernel
theorem d_J_erase_10 : decode c_J_erase 10 = .ok (.dup, 1) := by decide +kernel
theorem d_J_erase_11 : decode c_J_erase 11 = .ok (.invokespecial 38, 3) := by decide +kernel
theorem d_J_erase_14 : decode c_J_erase 14 = .ok (.athrow, 1) := by decide +kernel
theorem d_J_erase_15 : decode c_J_erase 15 = .ok (.aload_n 0, 1) := by decide +kernel
theorem d_J_erase_16 : decode c_J_erase 16 = .ok (.getfield 14, 3) := by decide +kernel
theorem d_J_erase_19 : decode c_J_erase 19 = .ok (.iload_n 1, 1) := by decide +kernel
theorem d_J_erase_20 : decode c_J_erase 20 = .ok (.aaload, 1) := by decide +kernel
theorem d_J_erase_21 : decode c_J_erase 21 = .ok (.astore_n 3, 1) := by decide +kernel
theorem d_J_erase_22 : decode c_J_erase 22 = .ok (.aload_n 3, 1) := by decide +kernel
theorem d_J_erase_23 : decode c_J_erase 23 = .ok (.getfield 39, 3) := by decide +kernel
theorem d_J_erase_26 : decode c_J_erase 26 = .ok (.iload_n 2, 1) := by decide +kernel
theorem d_J_erase_27 : decode c_J_erase 27 = .ok (.invokevirtual 72, 3) := by decide +kernel
theorem d_J_erase_30 : decode c_J_erase 30 = .ok (.ifCond .ne 11, 3) := by decide +kernel
theorem d_J_erase_33 : decode c_J_erase 33 = .ok (.new 49, 3) := by decide +kernel
theorem d_J_erase_36 : decode c_J_erase 36 = .ok (.dup, 1) := by decide +kernel
theorem d_J_erase_37 : decode c_J_erase 37 = .ok (.invokespecial 51, 3) := by decide +kernel
theorem d_J_erase_40 : decode c_J_erase 40 = .ok (.athrow, 1) := by decide +kernel
theorem d_J_erase_41 : decode c_J_erase 41 = .ok (.aload_n 3, 1) := by decide +kernel
theorem d_J_erase_42 : decode c_J_erase 42 = .ok (.invokevirtual 75, 3) := by decide +kernel
theorem d_J_erase_45 : decode c_J_erase 45 = .ok (.ifCond .eq 11, 3) := by decide +kernel
theorem d_J_erase_48 : decode c_J_erase 48 = .ok (.new 56, 3) := by decide +kernel
theorem d_J_erase_51 : decode c_J_erase 51 = .ok (.dup, 1) := by decide +kernel
theorem d_J_erase_52 : decode c_J_erase 52 = .ok (.invokespecial 58, 3) := by decide +kernel
theorem d_J_erase_55 : decode c_J_erase 55 = .ok (.athrow, 1) := by decide +kernel
theorem d_J_erase_56 : decode c_J_erase 56 = .ok (.aload_n 0, 1) := by decide +kernel
theorem d_J_erase_57 : decode c_J_erase 57 = .ok (.aload_n 3, 1) := by decide +kernel
theorem d_J_erase_58 : decode c_J_erase 58 = .ok (.iconst 2, 1) := by decide +kernel
theorem d_J_erase_59 : decode c_J_erase 59 = .ok (.iload_n 2, 1) := by decide +kernel
theorem d_J_erase_60 : decode c_J_erase 60 = .ok (.iconst 0, 1) := by decide +kernel
theorem d_J_erase_61 : decode c_J_erase 61 = .ok (.iload_n 1, 1) := by decide +kernel
theorem d_J_erase_62 : decode c_J_erase 62 = .ok (.invokestatic 59, 3) := by decide +kernel
theorem d_J_erase_65 : decode c_J_erase 65 = .ok (.iconst 0, 1) := by decide +kernel
theorem d_J_erase_66 : decode c_J_erase 66 = .ok (.invokevirtual 65, 3) := by decide +kernel
theorem d_J_erase_69 : decode c_J_erase 69 = .ok (.aload_n 3, 1) := by decide +kernel
theorem d_J_erase_70 : decode c_J_erase 70 = .ok (.invokevirtual 69, 3) := by decide +kernel
theorem d_J_erase_73 : decode c_J_erase 73 = .ok (.ireturn, 1) := by decide +kernel
theorem d_J_undo_0 : decode c_J_undo 0 = .ok (.iload_n 1, 1) := by decide +kernel
theorem d_J_undo_1 : decode c_J_undo 1 = .ok (.invokestatic 32, 3) := by decide +kernel
theorem d_J_undo_4 : decode c_J_undo 4 = .ok (.ifCond .ne 11, 3) := by decide +kernel
theorem d_J_undo_7 : decode c_J_undo 7 = .ok (.new 36, 3) := by decide +kernel
theorem d_J_undo_10 : decode c_J_undo 10 = .ok (.dup, 1) := by decide +kernel
theorem d_J_undo_11 : decode c_J_undo 11 = .ok (.invokespecial 38, 3) := by decide +kernel
theorem d_J_undo_14 : decode c_J_undo 14 = .ok (.athrow, 1) := by decide +kernel
theorem d_J_undo_15 : decode c_J_undo 15 = .ok (.aload_n 0, 1) := by decide +kernel
theorem d_J_undo_16 : decode c_J_undo 16 = .ok (.getfield 14, 3) := by decide +kernel
theorem d_J_undo_19 : decode c_J_undo 19 = .ok (.iload_n 1, 1) := by decide +kernel
theorem d_J_undo_20 : decode c_J_undo 20 = .ok (.aaload, 1) := by decide +kernel
theorem d_J_undo_21 : decode c_J_undo 21 = .ok (.astore_n 2, 1) := by decide +kernel
theorem d_J_undo_22 : decode c_J_undo 22 = .ok (.aload_n 2, 1) := by decide +kernel
theorem d_J_undo_23 : decode c_J_undo 23 = .ok (.getfield 78, 3) := by decide +kernel
theorem d_J_undo_26 : decode c_J_undo 26 = .ok (.invokevirtual 82, 3) := by decide +kernel
theorem d_J_undo_29 : decode c_J_undo 29 = .ok (.istore_n 3, 1) := by decide +kernel
theorem d_J_undo_30 : decode c_J_undo 30 = .ok (.iload_n 3, 1) := by decide +kernel
theorem d_J_undo_31 : decode c_J_undo 31 = .ok (.iconst (-1), 1) := by decide +kernel
theorem d_J_undo_32 : decode c_J_undo 32 = .ok (.if_icmp .ne 11, 3) := by decide +kernel
theorem d_J_undo_35 : decode c_J_undo 35 = .ok (.new 87, 3) := by decide +kernel
theorem d_J_undo_38 : decode c_J_undo 38 = .ok (.dup, 1) := by decide +kernel
theorem d_J_undo_39 : decode c_J_undo 39 = .ok (.invokespecial 89, 3) := by decide +kernel
theorem d_J_undo_42 : decode c_J_undo 42 = .ok (.athrow, 1) := by decide +kernel
theorem d_J_undo_43 : decode c_J_undo 43 = .ok (.aload_n 2, 1) := by decide +kernel
theorem d_J_undo_44 : decode c_J_undo 44 = .ok (.invokevirtual 52, 3) := by decide +kernel
theorem d_J_undo_47 : decode c_J_undo 47 = .ok (.ifCond .eq 11, 3) := by decide +kernel
theorem d_J_undo_50 : decode c_J_undo 50 = .ok (.new 56, 3) := by decide +kernel
theorem d_J_undo_53 : decode c_J_undo 53 = .ok (.dup, 1) := by decide +kernel
theorem d_J_undo_54 : decode c_J_undo 54 = .ok (.invokespecial 58, 3) := by decide +kernel
theorem d_J_undo_57 : decode c_J_undo 57 = .ok (.athrow, 1) := by decide +kernel
theorem d_J_undo_58 : decode c_J_undo 58 = .ok (.aload_n 2, 1) := by decide +kernel
theorem d_J_undo_59 : decode c_J_undo 59 = .ok (.getfield 78, 3) := by decide +kernel
theorem d_J_undo_62 : decode c_J_undo 62 = .ok (.iload_n 3, 1) := by decide +kernel
theorem d_J_undo_63 : decode c_J_undo 63 = .ok (.invokevirtual 90, 3) := by decide +kernel
theorem d_J_undo_66 : decode c_J_undo 66 = .ok (.istore 4, 2) := by decide +kernel
theorem d_J_undo_68 : decode c_J_undo 68 = .ok (.iload 4, 2) := by decide +kernel
theorem d_J_undo_70 : decode c_J_undo 70 = .ok (.invokestatic 94, 3) := by decide +kernel
theorem d_J_undo_73 : decode c_J_undo 73 = .ok (.ifCond .ne 5, 3) := by decide +kernel
theorem d_J_undo_76 : decode c_J_undo 76 = .ok (.iconst 0, 1) := by decide +kernel
theorem d_J_undo_77 : decode c_J_undo 77 = .ok (.ireturn, 1) := by decide +kernel
theorem d_J_undo_78 : decode c_J_undo 78 = .ok (.aload_n 0, 1) := by decide +kernel
theorem d_J_undo_79 : decode c_J_undo 79 = .ok (.aload_n 2, 1) := by decide +kernel
theorem d_J_undo_80 : decode c_J_undo 80 = .ok (.iload 4, 2) := by decide +kernel
theorem d_J_undo_82 : decode c_J_undo 82 = .ok (.iconst 1, 1) := by decide +kernel
theorem d_J_undo_83 : decode c_J_undo 83 = .ok (.invokevirtual 65, 3) := by decide +kernel
theorem d_J_undo_86 : decode c_J_undo 86 = .ok (.iconst 1, 1) := by decide +kernel
theorem d_J_undo_87 : decode c_J_undo 87 = .ok (.ireturn, 1) := by decide +kernel
theorem d_J_length_0 : decode c_J_length 0 = .ok (.iload_n 1, 1) := by decide +kernel
theorem d_J_length_1 : decode c_J_length 1 = .ok (.invokestatic 97, 3) := by decide +kernel
theorem d_J_length_4 : decode c_J_length 4 = .ok (.ifCond .eq 11, 3) := by decide +kernel
theorem d_J_length_7 : decode c_J_length 7 = .ok (.aload_n 0, 1) := by decide +kernel
theorem d_J_length_8 : decode c_J_length 8 = .ok (.iload_n 1, 1) := by decide +kernel
theorem d_J_length_9 : decode c_J_length 9 = .ok (.invokevirtual 100, 3) := by decide +kernel
theorem d_J_length_12 : decode c_J_length 12 = .ok (.ifCond .eq 5, 3) := by decide +kernel
theorem d_J_length_15 : decode c_J_length 15 = .ok (.iconst (-1), 1) := by decide +kernel
theorem d_J_length_16 : decode c_J_length 16 = .ok (.ireturn, 1) := by decide +kernel
theorem d_J_length_17 : decode c_J_length 17 = .ok (.aload_n 0, 1) := by decide +kernel
theorem d_J_length_18 : decode c_J_length 18 = .ok (.iload_n 1, 1) := by decide +kernel
theorem d_J_length_19 : decode c_J_length 19 = .ok (.invokevirtual 103, 3) := by decide +kernel
theorem d_J_length_22 : decode c_J_length 22 = .ok (.invokevirtual 43, 3) := by decide +kernel
theorem d_J_length_25 : decode c_J_length 25 = .ok (.ireturn, 1) := by decide +kernel
theorem d_J_character_0 : decode c_J_character 0 = .ok (.iload_n 1, 1) := by decide +kernel
theorem d_J_character_1 : decode c_J_character 1 = .ok (.invokestatic 97, 3) := by decide +kernel
theorem d_J_character_4 : decode c_J_character 4 = .ok (.ifCond .ne 11, 3) := by decide +kernel
theorem d_J_character_7 : decode c_J_character 7 = .ok (.new 36, 3) := by decide +kernel
theorem d_J_character_10 : decode c_J_character 10 = .ok (.dup, 1) := by decide +kernel
theorem d_J_character_11 : decode c_J_character 11 = .ok (.invokespecial 38, 3) := by decide +kernel
theorem d_J_character_14 : decode c_J_character 14 = .ok (.athrow, 1) := by decide +kernel
theorem d_J_character_15 : decode c_J_character 15 = .ok (.aload_n 0, 1) := by decide +kernel
theorem d_J_character_16 : decode c_J_character 16 = .ok (.iload_n 1, 1) := by decide +kernel
theorem d_J_character_17 : decode c_J_character 17 = .ok (.invokevirtual 100, 3) := by decide +kernel
theorem d_J_character_20 : decode c_J_character 20 = .ok (.ifCond .eq 11, 3) := by decide +kernel
theorem d_J_character_23 : decode c_J_character 23 = .ok (.new 56, 3) := by decide +kernel
theorem d_J_character_26 : decode c_J_character 26 = .ok (.dup, 1) := by decide +kernel
theorem d_J_character_27 : decode c_J_character 27 = .ok (.invokespecial 58, 3) := by decide +kernel
theorem d_J_character_30 : decode c_J_character 30 = .ok (.athrow, 1) := by decide +kernel
theorem d_J_character_31 : decode c_J_character 31 = .ok (.aload_n 0, 1) := by decide +kernel
theorem d_J_character_32 : decode c_J_character 32 = .ok (.iload_n 1, 1) := by decide +kernel
theorem d_J_character_33 : decode c_J_character 33 = .ok (.invokevirtual 103, 3) := by decide +kernel
theorem d_J_character_36 : decode c_J_character 36 = .ok (.astore_n 3, 1) := by decide +kernel
theorem d_J_character_37 : decode c_J_character 37 = .ok (.aload_n 3, 1) := by decide +kernel
theorem d_J_character_38 : decode c_J_character 38 = .ok (.iload_n 2, 1) := by decide +kernel
theorem d_J_character_39 : decode c_J_character 39 = .ok (.invokevirtual 72, 3) := by decide +kernel
theorem d_J_character_42 : decode c_J_character 42 = .ok (.ifCond .ne 11, 3) := by decide +kernel
theorem d_J_character_45 : decode c_J_character 45 = .ok (.new 49, 3) := by decide +kernel
theorem d_J_character_48 : decode c_J_character 48 = .ok (.dup, 1) := by decide +kernel
theorem d_J_character_49 : decode c_J_character 49 = .ok (.invokespecial 51, 3) := by decide +kernel
theorem d_J_character_52 : decode c_J_character 52 = .ok (.athrow, 1) := by decide +kernel
theorem d_J_character_53 : decode c_J_character 53 = .ok (.aload_n 3, 1) := by decide +kernel
theorem d_J_character_54 : decode c_J_character 54 = .ok (.iload_n 2, 1) := by decide +kernel
theorem d_J_character_55 : decode c_J_character 55 = .ok (.invokevirtual 107, 3) := by decide +kernel
theorem d_J_character_58 : decode c_J_character 58 = .ok (.ireturn, 1) := by decide +kernel
theorem d_J_revision_0 : decode c_J_revision 0 = .ok (.iload_n 1, 1) := by decide +kernel
theorem d_J_revision_1 : decode c_J_revision 1 = .ok (.invokestatic 97, 3) := by decide +kernel
theorem d_J_revision_4 : decode c_J_revision 4 = .ok (.ifCond .ne 5, 3) := by decide +kernel
theorem d_J_revision_7 : decode c_J_revision 7 = .ok (.iconst (-1), 1) := by decide +kernel
theorem d_J_revision_8 : decode c_J_revision 8 = .ok (.ireturn, 1) := by decide +kernel
theorem d_J_revision_9 : decode c_J_revision 9 = .ok (.iload_n 1, 1) := by decide +kernel
theorem d_J_revision_10 : decode c_J_revision 10 = .ok (.iconst 3, 1) := by decide +kernel
theorem d_J_revision_11 : decode c_J_revision 11 = .ok (.if_icmp .ne 13, 3) := by decide +kernel
theorem d_J_revision_14 : decode c_J_revision 14 = .ok (.aload_n 0, 1) := by decide +kernel
theorem d_J_revision_15 : decode c_J_revision 15 = .ok (.getfield 21, 3) := by decide +kernel
theorem d_J_revision_18 : decode c_J_revision 18 = .ok (.invokevirtual 110, 3) := by decide +kernel
theorem d_J_revision_21 : decode c_J_revision 21 = .ok (.goto 12, 3) := by decide +kernel
theorem d_J_revision_24 : decode c_J_revision 24 = .ok (.aload_n 0, 1) := by decide +kernel
theorem d_J_revision_25 : decode c_J_revision 25 = .ok (.getfield 14, 3) := by decide +kernel
theorem d_J_revision_28 : decode c_J_revision 28 = .ok (.iload_n 1, 1) := by decide +kernel
theorem d_J_revision_29 : decode c_J_revision 29 = .ok (.aaload, 1) := by decide +kernel
theorem d_J_revision_30 : decode c_J_revision 30 = .ok (.invokevirtual 113, 3) := by decide +kernel
theorem d_J_revision_33 : decode c_J_revision 33 = .ok (.ireturn, 1) := by decide +kernel
theorem d_J_pending_0 : decode c_J_pending 0 = .ok (.iload_n 1, 1) := by decide +kernel
theorem d_J_pending_1 : decode c_J_pending 1 = .ok (.invokestatic 32, 3) := by decide +kernel
theorem d_J_pending_4 : decode c_J_pending 4 = .ok (.ifCond .eq 15, 3) := by decide +kernel
theorem d_J_pending_7 : decode c_J_pending 7 = .ok (.aload_n 0, 1) := by decide +kernel
theorem d_J_pending_8 : decode c_J_pending 8 = .ok (.getfield 14, 3) := by decide +kernel
theorem d_J_pending_11 : decode c_J_pending 11 = .ok (.iload_n 1, 1) := by decide +kernel
theorem d_J_pending_12 : decode c_J_pending 12 = .ok (.aaload, 1) := by decide +kernel
theorem d_J_pending_13 : decode c_J_pending 13 = .ok (.invokevirtual 69, 3) := by decide +kernel
theorem d_J_pending_16 : decode c_J_pending 16 = .ok (.goto 4, 3) := by decide +kernel
theorem d_J_pending_19 : decode c_J_pending 19 = .ok (.iconst (-1), 1) := by decide +kernel
theorem d_J_pending_20 : decode c_J_pending 20 = .ok (.ireturn, 1) := by decide +kernel
theorem d_J_op_0 : decode c_J_op 0 = .ok (.aload_n 0, 1) := by decide +kernel
theorem d_J_op_1 : decode c_J_op 1 = .ok (.getfield 21, 3) := by decide +kernel
theorem d_J_op_4 : decode c_J_op 4 = .ok (.iload_n 1, 1) := by decide +kernel
theorem d_J_op_5 : decode c_J_op 5 = .ok (.invokevirtual 116, 3) := by decide +kernel
theorem d_J_op_8 : decode c_J_op 8 = .ok (.ifCond .ne 5, 3) := by decide +kernel
theorem d_J_op_11 : decode c_J_op 11 = .ok (.iconst (-1), 1) := by decide +kernel
theorem d_J_op_12 : decode c_J_op 12 = .ok (.ireturn, 1) := by decide +kernel
theorem d_J_op_13 : decode c_J_op 13 = .ok (.aload_n 0, 1) := by decide +kernel
theorem d_J_op_14 : decode c_J_op 14 = .ok (.getfield 21, 3) := by decide +kernel
theorem d_J_op_17 : decode c_J_op 17 = .ok (.iload_n 1, 1) := by decide +kernel
theorem d_J_op_18 : decode c_J_op 18 = .ok (.invokevirtual 119, 3) := by decide +kernel
theorem d_J_op_21 : decode c_J_op 21 = .ok (.istore_n 3, 1) := by decide +kernel
theorem d_J_op_22 : decode c_J_op 22 = .ok (.iload_n 2, 1) := by decide +kernel
theorem d_J_op_23 : decode c_J_op 23 = .ok (.tableswitch 62 0 4 #[33, 38, 43, 48, 53], 33) := by decide +kernel
theorem d_J_op_56 : decode c_J_op 56 = .ok (.iload_n 3, 1) := by decide +kernel
theorem d_J_op_57 : decode c_J_op 57 = .ok (.invokestatic 94, 3) := by decide +kernel
theorem d_J_op_60 : decode c_J_op 60 = .ok (.ireturn, 1) := by decide +kernel
theorem d_J_op_61 : decode c_J_op 61 = .ok (.iload_n 3, 1) := by decide +kernel
theorem d_J_op_62 : decode c_J_op 62 = .ok (.invokestatic 122, 3) := by decide +kernel
theorem d_J_op_65 : decode c_J_op 65 = .ok (.ireturn, 1) := by decide +kernel
theorem d_J_op_66 : decode c_J_op 66 = .ok (.iload_n 3, 1) := by decide +kernel
theorem d_J_op_67 : decode c_J_op 67 = .ok (.invokestatic 125, 3) := by decide +kernel
theorem d_J_op_70 : decode c_J_op 70 = .ok (.ireturn, 1) := by decide +kernel
theorem d_J_op_71 : decode c_J_op 71 = .ok (.iload_n 3, 1) := by decide +kernel
theorem d_J_op_72 : decode c_J_op 72 = .ok (.invokestatic 128, 3) := by decide +kernel
theorem d_J_op_75 : decode c_J_op 75 = .ok (.ireturn, 1) := by decide +kernel
theorem d_J_op_76 : decode c_J_op 76 = .ok (.aload_n 0, 1) := by decide +kernel
theorem d_J_op_77 : decode c_J_op 77 = .ok (.getfield 21, 3) := by decide +kernel
theorem d_J_op_80 : decode c_J_op 80 = .ok (.iload_n 1, 1) := by decide +kernel
theorem d_J_op_81 : decode c_J_op 81 = .ok (.invokevirtual 131, 3) := by decide +kernel
theorem d_J_op_84 : decode c_J_op 84 = .ok (.ireturn, 1) := by decide +kernel
theorem d_J_op_85 : decode c_J_op 85 = .ok (.iconst (-1), 1) := by decide +kernel
theorem d_J_op_86 : decode c_J_op 86 = .ok (.ireturn, 1) := by decide +kernel
theorem d_J_waiting_0 : decode c_J_waiting 0 = .ok (.aload_n 0, 1) := by decide +kernel
theorem d_J_waiting_1 : decode c_J_waiting 1 = .ok (.getfield 28, 3) := by decide +kernel
theorem d_J_waiting_4 : decode c_J_waiting 4 = .ok (.invokevirtual 134, 3) := by decide +kernel
theorem d_J_waiting_7 : decode c_J_waiting 7 = .ok (.ireturn, 1) := by decide +kernel
theorem d_J_message_0 : decode c_J_message 0 = .ok (.aload_n 0, 1) := by decide +kernel
theorem d_J_message_1 : decode c_J_message 1 = .ok (.getfield 28, 3) := by decide +kernel
theorem d_J_message_4 : decode c_J_message 4 = .ok (.iload_n 1, 1) := by decide +kernel
theorem d_J_message_5 : decode c_J_message 5 = .ok (.invokevirtual 135, 3) := by decide +kernel
theorem d_J_message_8 : decode c_J_message 8 = .ok (.ifCond .ne 5, 3) := by decide +kernel
theorem d_J_message_11 : decode c_J_message 11 = .ok (.iconst (-1), 1) := by decide +kernel
theorem d_J_message_12 : decode c_J_message 12 = .ok (.ireturn, 1) := by decide +kernel
theorem d_J_message_13 : decode c_J_message 13 = .ok (.iload_n 2, 1) := by decide +kernel
theorem d_J_message_14 : decode c_J_message 14 = .ok (.tableswitch 87 0 4 #[34, 43, 52, 61, 70], 34) := by decide +kernel
theorem d_J_message_48 : decode c_J_message 48 = .ok (.aload_n 0, 1) := by decide +kernel
theorem d_J_message_49 : decode c_J_message 49 = .ok (.getfield 28, 3) := by decide +kernel
theorem d_J_message_52 : decode c_J_message 52 = .ok (.iload_n 1, 1) := by decide +kernel
theorem d_J_message_53 : decode c_J_message 53 = .ok (.invokevirtual 136, 3) := by decide +kernel
theorem d_J_message_56 : decode c_J_message 56 = .ok (.ireturn, 1) := by decide +kernel
theorem d_J_message_57 : decode c_J_message 57 = .ok (.aload_n 0, 1) := by decide +kernel
theorem d_J_message_58 : decode c_J_message 58 = .ok (.getfield 28, 3) := by decide +kernel
theorem d_J_message_61 : decode c_J_message 61 = .ok (.iload_n 1, 1) := by decide +kernel
theorem d_J_message_62 : decode c_J_message 62 = .ok (.invokevirtual 139, 3) := by decide +kernel
theorem d_J_message_65 : decode c_J_message 65 = .ok (.ireturn, 1) := by decide +kernel
theorem d_J_message_66 : decode c_J_message 66 = .ok (.aload_n 0, 1) := by decide +kernel
theorem d_J_message_67 : decode c_J_message 67 = .ok (.getfield 28, 3) := by decide +kernel
theorem d_J_message_70 : decode c_J_message 70 = .ok (.iload_n 1, 1) := by decide +kernel
theorem d_J_message_71 : decode c_J_message 71 = .ok (.invokevirtual 142, 3) := by decide +kernel
theorem d_J_message_74 : decode c_J_message 74 = .ok (.ireturn, 1) := by decide +kernel
theorem d_J_message_75 : decode c_J_message 75 = .ok (.aload_n 0, 1) := by decide +kernel
theorem d_J_message_76 : decode c_J_message 76 = .ok (.getfield 28, 3) := by decide +kernel
theorem d_J_message_79 : decode c_J_message 79 = .ok (.iload_n 1, 1) := by decide +kernel
theorem d_J_message_80 : decode c_J_message 80 = .ok (.invokevirtual 145, 3) := by decide +kernel
theorem d_J_message_83 : decode c_J_message 83 = .ok (.ireturn, 1) := by decide +kernel
theorem d_J_message_84 : decode c_J_message 84 = .ok (.aload_n 0, 1) := by decide +kernel
theorem d_J_message_85 : decode c_J_message 85 = .ok (.getfield 28, 3) := by decide +kernel
theorem d_J_message_88 : decode c_J_message 88 = .ok (.iload_n 1, 1) := by decide +kernel
theorem d_J_message_89 : decode c_J_message 89 = .ok (.invokevirtual 146, 3) := by decide +kernel
theorem d_J_message_92 : decode c_J_message 92 = .ok (.ifCond .eq 7, 3) := by decide +kernel
theorem d_J_message_95 : decode c_J_message 95 = .ok (.iconst 1, 1) := by decide +kernel
theorem d_J_message_96 : decode c_J_message 96 = .ok (.goto 4, 3) := by decide +kernel
theorem d_J_message_99 : decode c_J_message 99 = .ok (.iconst 0, 1) := by decide +kernel
theorem d_J_message_100 : decode c_J_message 100 = .ok (.ireturn, 1) := by decide +kernel
theorem d_J_message_101 : decode c_J_message 101 = .ok (.iconst (-1), 1) := by decide +kernel
theorem d_J_message_102 : decode c_J_message 102 = .ok (.ireturn, 1) := by decide +kernel
theorem d_J_deliver_0 : decode c_J_deliver 0 = .ok (.aload_n 0, 1) := by decide +kernel
theorem d_J_deliver_1 : decode c_J_deliver 1 = .ok (.getfield 28, 3) := by decide +kernel
theorem d_J_deliver_4 : decode c_J_deliver 4 = .ok (.iload_n 1, 1) := by decide +kernel
theorem d_J_deliver_5 : decode c_J_deliver 5 = .ok (.invokevirtual 135, 3) := by decide +kernel
theorem d_J_deliver_8 : decode c_J_deliver 8 = .ok (.ifCond .ne 5, 3) := by decide +kernel
theorem d_J_deliver_11 : decode c_J_deliver 11 = .ok (.iconst (-1), 1) := by decide +kernel
theorem d_J_deliver_12 : decode c_J_deliver 12 = .ok (.ireturn, 1) := by decide +kernel
theorem d_J_deliver_13 : decode c_J_deliver 13 = .ok (.aload_n 0, 1) := by decide +kernel
theorem d_J_deliver_14 : decode c_J_deliver 14 = .ok (.getfield 28, 3) := by decide +kernel
theorem d_J_deliver_17 : decode c_J_deliver 17 = .ok (.iload_n 1, 1) := by decide +kernel
theorem d_J_deliver_18 : decode c_J_deliver 18 = .ok (.invokevirtual 146, 3) := by decide +kernel
theorem d_J_deliver_21 : decode c_J_deliver 21 = .ok (.istore_n 2, 1) := by decide +kernel
theorem d_J_deliver_22 : decode c_J_deliver 22 = .ok (.aload_n 0, 1) := by decide +kernel
theorem d_J_deliver_23 : decode c_J_deliver 23 = .ok (.getfield 28, 3) := by decide +kernel
theorem d_J_deliver_26 : decode c_J_deliver 26 = .ok (.iload_n 1, 1) := by decide +kernel
theorem d_J_deliver_27 : decode c_J_deliver 27 = .ok (.invokevirtual 136, 3) := by decide +kernel
theorem d_J_deliver_30 : decode c_J_deliver 30 = .ok (.istore_n 3, 1) := by decide +kernel
theorem d_J_deliver_31 : decode c_J_deliver 31 = .ok (.aload_n 0, 1) := by decide +kernel
theorem d_J_deliver_32 : decode c_J_deliver 32 = .ok (.getfield 28, 3) := by decide +kernel
theorem d_J_deliver_35 : decode c_J_deliver 35 = .ok (.iload_n 1, 1) := by decide +kernel
theorem d_J_deliver_36 : decode c_J_deliver 36 = .ok (.invokevirtual 139, 3) := by decide +kernel
theorem d_J_deliver_39 : decode c_J_deliver 39 = .ok (.istore 4, 2) := by decide +kernel
theorem d_J_deliver_41 : decode c_J_deliver 41 = .ok (.aload_n 0, 1) := by decide +kernel
theorem d_J_deliver_42 : decode c_J_deliver 42 = .ok (.getfield 28, 3) := by decide +kernel
theorem d_J_deliver_45 : decode c_J_deliver 45 = .ok (.iload_n 1, 1) := by decide +kernel
theorem d_J_deliver_46 : decode c_J_deliver 46 = .ok (.invokevirtual 142, 3) := by decide +kernel
theorem d_J_deliver_49 : decode c_J_deliver 49 = .ok (.istore 5, 2) := by decide +kernel
theorem d_J_deliver_51 : decode c_J_deliver 51 = .ok (.aload_n 0, 1) := by decide +kernel
theorem d_J_deliver_52 : decode c_J_deliver 52 = .ok (.getfield 28, 3) := by decide +kernel
theorem d_J_deliver_55 : decode c_J_deliver 55 = .ok (.iload_n 1, 1) := by decide +kernel
theorem d_J_deliver_56 : decode c_J_deliver 56 = .ok (.invokevirtual 145, 3) := by decide +kernel
theorem d_J_deliver_59 : decode c_J_deliver 59 = .ok (.istore 6, 2) := by decide +kernel
theorem d_J_deliver_61 : decode c_J_deliver 61 = .ok (.aload_n 0, 1) := by decide +kernel
theorem d_J_deliver_62 : decode c_J_deliver 62 = .ok (.getfield 28, 3) := by decide +kernel
theorem d_J_deliver_65 : decode c_J_deliver 65 = .ok (.iload_n 1, 1) := by decide +kernel
theorem d_J_deliver_66 : decode c_J_deliver 66 = .ok (.invokevirtual 149, 3) := by decide +kernel
theorem d_J_deliver_69 : decode c_J_deliver 69 = .ok (.istore 7, 2) := by decide +kernel
theorem d_J_deliver_71 : decode c_J_deliver 71 = .ok (.aload_n 0, 1) := by decide +kernel
theorem d_J_deliver_72 : decode c_J_deliver 72 = .ok (.getfield 28, 3) := by decide +kernel
theorem d_J_deliver_75 : decode c_J_deliver 75 = .ok (.iload_n 1, 1) := by decide +kernel
theorem d_J_deliver_76 : decode c_J_deliver 76 = .ok (.invokevirtual 150, 3) := by decide +kernel
theorem d_J_deliver_79 : decode c_J_deliver 79 = .ok (.iload_n 2, 1) := by decide +kernel
theorem d_J_deliver_80 : decode c_J_deliver 80 = .ok (.ifCond .ne 6, 3) := by decide +kernel
theorem d_J_deliver_83 : decode c_J_deliver 83 = .ok (.bipush (-2), 2) := by decide +kernel
theorem d_J_deliver_85 : decode c_J_deliver 85 = .ok (.ireturn, 1) := by decide +kernel
theorem d_J_deliver_86 : decode c_J_deliver 86 = .ok (.iload_n 3, 1) := by decide +kernel
theorem d_J_deliver_87 : decode c_J_deliver 87 = .ok (.iconst 2, 1) := by decide +kernel
theorem d_J_deliver_88 : decode c_J_deliver 88 = .ok (.if_icmp .ne 21, 3) := by decide +kernel
theorem d_J_deliver_91 : decode c_J_deliver 91 = .ok (.aload_n 0, 1) := by decide +kernel
theorem d_J_deliver_92 : decode c_J_deliver 92 = .ok (.aload_n 0, 1) := by decide +kernel
theorem d_J_deliver_93 : decode c_J_deliver 93 = .ok (.getfield 14, 3) := by decide +kernel
theorem d_J_deliver_96 : decode c_J_deliver 96 = .ok (.iload 4, 2) := by decide +kernel
theorem d_J_deliver_98 : decode c_J_deliver 98 = .ok (.aaload, 1) := by decide +kernel
theorem d_J_deliver_99 : decode c_J_deliver 99 = .ok (.iload 5, 2) := by decide +kernel
theorem d_J_deliver_101 : decode c_J_deliver 101 = .ok (.iload 7, 2) := by decide +kernel
theorem d_J_deliver_103 : decode c_J_deliver 103 = .ok (.invokevirtual 153, 3) := by decide +kernel
theorem d_J_deliver_106 : decode c_J_deliver 106 = .ok (.goto 40, 3) := by decide +kernel
theorem d_J_deliver_109 : decode c_J_deliver 109 = .ok (.aload_n 0, 1) := by decide +kernel
theorem d_J_deliver_110 : decode c_J_deliver 110 = .ok (.getfield 21, 3) := by decide +kernel
theorem d_J_deliver_113 : decode c_J_deliver 113 = .ok (.invokevirtual 157, 3) := by decide +kernel
theorem d_J_deliver_116 : decode c_J_deliver 116 = .ok (.ifCond .eq 30, 3) := by decide +kernel
theorem d_J_deliver_119 : decode c_J_deliver 119 = .ok (.iload_n 3, 1) := by decide +kernel
theorem d_J_deliver_120 : decode c_J_deliver 120 = .ok (.ifCond .ne 18, 3) := by decide +kernel
theorem d_J_deliver_123 : decode c_J_deliver 123 = .ok (.aload_n 0, 1) := by decide +kernel
theorem d_J_deliver_124 : decode c_J_deliver 124 = .ok (.iload 4, 2) := by decide +kernel
theorem d_J_deliver_126 : decode c_J_deliver 126 = .ok (.iload 5, 2) := by decide +kernel
theorem d_J_deliver_128 : decode c_J_deliver 128 = .ok (.iload 7, 2) := by decide +kernel
theorem d_J_deliver_130 : decode c_J_deliver 130 = .ok (.iload 6, 2) := by decide +kernel
theorem d_J_deliver_132 : decode c_J_deliver 132 = .ok (.invokevirtual 160, 3) := by decide +kernel
theorem d_J_deliver_135 : decode c_J_deliver 135 = .ok (.goto 11, 3) := by decide +kernel
theorem d_J_deliver_138 : decode c_J_deliver 138 = .ok (.aload_n 0, 1) := by decide +kernel
theorem d_J_deliver_139 : decode c_J_deliver 139 = .ok (.iload 5, 2) := by decide +kernel
theorem d_J_deliver_141 : decode c_J_deliver 141 = .ok (.iload 4, 2) := by decide +kernel
theorem d_J_deliver_143 : decode c_J_deliver 143 = .ok (.invokevirtual 164, 3) := by decide +kernel
theorem d_J_deliver_146 : decode c_J_deliver 146 = .ok (.iload_n 3, 1) := by decide +kernel
theorem d_J_deliver_147 : decode c_J_deliver 147 = .ok (.ireturn, 1) := by decide +kernel
theorem d_J_lose_0 : decode c_J_lose 0 = .ok (.aload_n 0, 1) := by decide +kernel
theorem d_J_lose_1 : decode c_J_lose 1 = .ok (.getfield 28, 3) := by decide +kernel
theorem d_J_lose_4 : decode c_J_lose 4 = .ok (.iload_n 1, 1) := by decide +kernel
theorem d_J_lose_5 : decode c_J_lose 5 = .ok (.invokevirtual 135, 3) := by decide +kernel
theorem d_J_lose_8 : decode c_J_lose 8 = .ok (.ifCond .ne 5, 3) := by decide +kernel
theorem d_J_lose_11 : decode c_J_lose 11 = .ok (.iconst 0, 1) := by decide +kernel
theorem d_J_lose_12 : decode c_J_lose 12 = .ok (.ireturn, 1) := by decide +kernel
theorem d_J_lose_13 : decode c_J_lose 13 = .ok (.aload_n 0, 1) := by decide +kernel
theorem d_J_lose_14 : decode c_J_lose 14 = .ok (.getfield 28, 3) := by decide +kernel
theorem d_J_lose_17 : decode c_J_lose 17 = .ok (.iload_n 1, 1) := by decide +kernel
theorem d_J_lose_18 : decode c_J_lose 18 = .ok (.invokevirtual 150, 3) := by decide +kernel
theorem d_J_lose_21 : decode c_J_lose 21 = .ok (.iconst 1, 1) := by decide +kernel
theorem d_J_lose_22 : decode c_J_lose 22 = .ok (.ireturn, 1) := by decide +kernel
theorem d_J_repeat_0 : decode c_J_repeat 0 = .ok (.aload_n 0, 1) := by decide +kernel
theorem d_J_repeat_1 : decode c_J_repeat 1 = .ok (.getfield 28, 3) := by decide +kernel
theorem d_J_repeat_4 : decode c_J_repeat 4 = .ok (.iload_n 1, 1) := by decide +kernel
theorem d_J_repeat_5 : decode c_J_repeat 5 = .ok (.invokevirtual 135, 3) := by decide +kernel
theorem d_J_repeat_8 : decode c_J_repeat 8 = .ok (.ifCond .eq 13, 3) := by decide +kernel
theorem d_J_repeat_11 : decode c_J_repeat 11 = .ok (.aload_n 0, 1) := by decide +kernel
theorem d_J_repeat_12 : decode c_J_repeat 12 = .ok (.getfield 28, 3) := by decide +kernel
theorem d_J_repeat_15 : decode c_J_repeat 15 = .ok (.invokevirtual 168, 3) := by decide +kernel
theorem d_J_repeat_18 : decode c_J_repeat 18 = .ok (.ifCond .eq 5, 3) := by decide +kernel
theorem d_J_repeat_21 : decode c_J_repeat 21 = .ok (.iconst 0, 1) := by decide +kernel
theorem d_J_repeat_22 : decode c_J_repeat 22 = .ok (.ireturn, 1) := by decide +kernel
theorem d_J_repeat_23 : decode c_J_repeat 23 = .ok (.aload_n 0, 1) := by decide +kernel
theorem d_J_repeat_24 : decode c_J_repeat 24 = .ok (.getfield 28, 3) := by decide +kernel
theorem d_J_repeat_27 : decode c_J_repeat 27 = .ok (.iload_n 1, 1) := by decide +kernel
theorem d_J_repeat_28 : decode c_J_repeat 28 = .ok (.invokevirtual 169, 3) := by decide +kernel
theorem d_J_repeat_31 : decode c_J_repeat 31 = .ok (.iconst 1, 1) := by decide +kernel
theorem d_J_repeat_32 : decode c_J_repeat 32 = .ok (.ireturn, 1) := by decide +kernel
theorem d_J_harm_0 : decode c_J_harm 0 = .ok (.aload_n 0, 1) := by decide +kernel
theorem d_J_harm_1 : decode c_J_harm 1 = .ok (.getfield 28, 3) := by decide +kernel
theorem d_J_harm_4 : decode c_J_harm 4 = .ok (.iload_n 1, 1) := by decide +kernel
theorem d_J_harm_5 : decode c_J_harm 5 = .ok (.invokevirtual 135, 3) := by decide +kernel
theorem d_J_harm_8 : decode c_J_harm 8 = .ok (.ifCond .ne 5, 3) := by decide +kernel
theorem d_J_harm_11 : decode c_J_harm 11 = .ok (.iconst 0, 1) := by decide +kernel
theorem d_J_harm_12 : decode c_J_harm 12 = .ok (.ireturn, 1) := by decide +kernel
theorem d_J_harm_13 : decode c_J_harm 13 = .ok (.aload_n 0, 1) := by decide +kernel
theorem d_J_harm_14 : decode c_J_harm 14 = .ok (.getfield 28, 3) := by decide +kernel
theorem d_J_harm_17 : decode c_J_harm 17 = .ok (.iload_n 1, 1) := by decide +kernel
theorem d_J_harm_18 : decode c_J_harm 18 = .ok (.iload_n 2, 1) := by decide +kernel
theorem d_J_harm_19 : decode c_J_harm 19 = .ok (.invokevirtual 172, 3) := by decide +kernel
theorem d_J_harm_22 : decode c_J_harm 22 = .ok (.iconst 1, 1) := by decide +kernel
theorem d_J_harm_23 : decode c_J_harm 23 = .ok (.ireturn, 1) := by decide +kernel
theorem d_J_tick_0 : decode c_J_tick 0 = .ok (.iconst 0, 1) := by decide +kernel
theorem d_J_tick_1 : decode c_J_tick 1 = .ok (.istore_n 1, 1) := by decide +kernel
theorem d_J_tick_2 : decode c_J_tick 2 = .ok (.iload_n 1, 1) := by decide +kernel
theorem d_J_tick_3 : decode c_J_tick 3 = .ok (.iconst 3, 1) := by decide +kernel
theorem d_J_tick_4 : decode c_J_tick 4 = .ok (.if_icmp .ge 19, 3) := by decide +kernel
theorem d_J_tick_7 : decode c_J_tick 7 = .ok (.aload_n 0, 1) := by decide +kernel
theorem d_J_tick_8 : decode c_J_tick 8 = .ok (.aload_n 0, 1) := by decide +kernel
theorem d_J_tick_9 : decode c_J_tick 9 = .ok (.getfield 14, 3) := by decide +kernel
theorem d_J_tick_12 : decode c_J_tick 12 = .ok (.iload_n 1, 1) := by decide +kernel
theorem d_J_tick_13 : decode c_J_tick 13 = .ok (.aaload, 1) := by decide +kernel
theorem d_J_tick_14 : decode c_J_tick 14 = .ok (.invokevirtual 175, 3) := by decide +kernel
theorem d_J_tick_17 : decode c_J_tick 17 = .ok (.iinc 1 1, 3) := by decide +kernel
theorem d_J_tick_20 : decode c_J_tick 20 = .ok (.goto (-18), 3) := by decide +kernel
theorem d_J_tick_23 : decode c_J_tick 23 = .ok (.return_, 1) := by decide +kernel
theorem d_J_connect_0 : decode c_J_connect 0 = .ok (.iload_n 1, 1) := by decide +kernel
theorem d_J_connect_1 : decode c_J_connect 1 = .ok (.invokestatic 32, 3) := by decide +kernel
theorem d_J_connect_4 : decode c_J_connect 4 = .ok (.ifCond .eq 16, 3) := by decide +kernel
theorem d_J_connect_7 : decode c_J_connect 7 = .ok (.aload_n 0, 1) := by decide +kernel
theorem d_J_connect_8 : decode c_J_connect 8 = .ok (.getfield 14, 3) := by decide +kernel
theorem d_J_connect_11 : decode c_J_connect 11 = .ok (.iload_n 1, 1) := by decide +kernel
theorem d_J_connect_12 : decode c_J_connect 12 = .ok (.aaload, 1) := by decide +kernel
theorem d_J_connect_13 : decode c_J_connect 13 = .ok (.invokevirtual 179, 3) := by decide +kernel
theorem d_J_connect_16 : decode c_J_connect 16 = .ok (.iload_n 2, 1) := by decide +kernel
theorem d_J_connect_17 : decode c_J_connect 17 = .ok (.if_icmp .ne 5, 3) := by decide +kernel
theorem d_J_connect_20 : decode c_J_connect 20 = .ok (.iconst 0, 1) := by decide +kernel
theorem d_J_connect_21 : decode c_J_connect 21 = .ok (.ireturn, 1) := by decide +kernel
theorem d_J_connect_22 : decode c_J_connect 22 = .ok (.aload_n 0, 1) := by decide +kernel
theorem d_J_connect_23 : decode c_J_connect 23 = .ok (.getfield 14, 3) := by decide +kernel
theorem d_J_connect_26 : decode c_J_connect 26 = .ok (.iload_n 1, 1) := by decide +kernel
theorem d_J_connect_27 : decode c_J_connect 27 = .ok (.aaload, 1) := by decide +kernel
theorem d_J_connect_28 : decode c_J_connect 28 = .ok (.iload_n 2, 1) := by decide +kernel
theorem d_J_connect_29 : decode c_J_connect 29 = .ok (.invokevirtual 182, 3) := by decide +kernel
theorem d_J_connect_32 : decode c_J_connect 32 = .ok (.iload_n 2, 1) := by decide +kernel
theorem d_J_connect_33 : decode c_J_connect 33 = .ok (.ifCond .eq 13, 3) := by decide +kernel
theorem d_J_connect_36 : decode c_J_connect 36 = .ok (.aload_n 0, 1) := by decide +kernel
theorem d_J_connect_37 : decode c_J_connect 37 = .ok (.aload_n 0, 1) := by decide +kernel
theorem d_J_connect_38 : decode c_J_connect 38 = .ok (.getfield 14, 3) := by decide +kernel
theorem d_J_connect_41 : decode c_J_connect 41 = .ok (.iload_n 1, 1) := by decide +kernel
theorem d_J_connect_42 : decode c_J_connect 42 = .ok (.aaload, 1) := by decide +kernel
theorem d_J_connect_43 : decode c_J_connect 43 = .ok (.invokevirtual 175, 3) := by decide +kernel
theorem d_J_connect_46 : decode c_J_connect 46 = .ok (.iconst 1, 1) := by decide +kernel
theorem d_J_connect_47 : decode c_J_connect 47 = .ok (.ireturn, 1) := by decide +kernel
theorem d_J_trip_0 : decode c_J_trip 0 = .ok (.iload_n 1, 1) := by decide +kernel
theorem d_J_trip_1 : decode c_J_trip 1 = .ok (.ifCond .lt 8, 3) := by decide +kernel
theorem d_J_trip_4 : decode c_J_trip 4 = .ok (.iload_n 1, 1) := by decide +kernel
theorem d_J_trip_5 : decode c_J_trip 5 = .ok (.iconst 2, 1) := by decide +kernel
theorem d_J_trip_6 : decode c_J_trip 6 = .ok (.if_icmp .le 5, 3) := by decide +kernel
theorem d_J_trip_9 : decode c_J_trip 9 = .ok (.iconst 0, 1) := by decide +kernel
theorem d_J_trip_10 : decode c_J_trip 10 = .ok (.ireturn, 1) := by decide +kernel
theorem d_J_trip_11 : decode c_J_trip 11 = .ok (.aload_n 0, 1) := by decide +kernel
theorem d_J_trip_12 : decode c_J_trip 12 = .ok (.getfield 21, 3) := by decide +kernel
theorem d_J_trip_15 : decode c_J_trip 15 = .ok (.iload_n 1, 1) := by decide +kernel
theorem d_J_trip_16 : decode c_J_trip 16 = .ok (.invokevirtual 186, 3) := by decide +kernel
theorem d_J_trip_19 : decode c_J_trip 19 = .ok (.iconst 1, 1) := by decide +kernel
theorem d_J_trip_20 : decode c_J_trip 20 = .ok (.ireturn, 1) := by decide +kernel
theorem d_J_crash_0 : decode c_J_crash 0 = .ok (.aload_n 0, 1) := by decide +kernel
theorem d_J_crash_1 : decode c_J_crash 1 = .ok (.getfield 21, 3) := by decide +kernel
theorem d_J_crash_4 : decode c_J_crash 4 = .ok (.invokevirtual 157, 3) := by decide +kernel
theorem d_J_crash_7 : decode c_J_crash 7 = .ok (.ifCond .ne 5, 3) := by decide +kernel
theorem d_J_crash_10 : decode c_J_crash 10 = .ok (.iconst 0, 1) := by decide +kernel
theorem d_J_crash_11 : decode c_J_crash 11 = .ok (.ireturn, 1) := by decide +kernel
theorem d_J_crash_12 : decode c_J_crash 12 = .ok (.aload_n 0, 1) := by decide +kernel
theorem d_J_crash_13 : decode c_J_crash 13 = .ok (.getfield 21, 3) := by decide +kernel
theorem d_J_crash_16 : decode c_J_crash 16 = .ok (.invokevirtual 189, 3) := by decide +kernel
theorem d_J_crash_19 : decode c_J_crash 19 = .ok (.iconst 1, 1) := by decide +kernel
theorem d_J_crash_20 : decode c_J_crash 20 = .ok (.ireturn, 1) := by decide +kernel
theorem d_J_restart_0 : decode c_J_restart 0 = .ok (.aload_n 0, 1) := by decide +kernel
theorem d_J_restart_1 : decode c_J_restart 1 = .ok (.getfield 21, 3) := by decide +kernel
theorem d_J_restart_4 : decode c_J_restart 4 = .ok (.invokevirtual 157, 3) := by decide +kernel
theorem d_J_restart_7 : decode c_J_restart 7 = .ok (.ifCond .eq 5, 3) := by decide +kernel
theorem d_J_restart_10 : decode c_J_restart 10 = .ok (.iconst 0, 1) := by decide +kernel
theorem d_J_restart_11 : decode c_J_restart 11 = .ok (.ireturn, 1) := by decide +kernel
theorem d_J_restart_12 : decode c_J_restart 12 = .ok (.aload_n 0, 1) := by decide +kernel
theorem d_J_restart_13 : decode c_J_restart 13 = .ok (.getfield 21, 3) := by decide +kernel
theorem d_J_restart_16 : decode c_J_restart 16 = .ok (.invokevirtual 192, 3) := by decide +kernel
theorem d_J_restart_19 : decode c_J_restart 19 = .ok (.iconst 1, 1) := by decide +kernel
theorem d_J_restart_20 : decode c_J_restart 20 = .ok (.ireturn, 1) := by decide +kernel
theorem d_J_isClient_0 : decode c_J_isClient 0 = .ok (.iload_n 0, 1) := by decide +kernel
theorem d_J_isClient_1 : decode c_J_isClient 1 = .ok (.ifCond .lt 12, 3) := by decide +kernel
theorem d_J_isClient_4 : decode c_J_isClient 4 = .ok (.iload_n 0, 1) := by decide +kernel
theorem d_J_isClient_5 : decode c_J_isClient 5 = .ok (.iconst 3, 1) := by decide +kernel
theorem d_J_isClient_6 : decode c_J_isClient 6 = .ok (.if_icmp .ge 7, 3) := by decide +kernel
theorem d_J_isClient_9 : decode c_J_isClient 9 = .ok (.iconst 1, 1) := by decide +kernel
theorem d_J_isClient_10 : decode c_J_isClient 10 = .ok (.goto 4, 3) := by decide +kernel
theorem d_J_isClient_13 : decode c_J_isClient 13 = .ok (.iconst 0, 1) := by decide +kernel
theorem d_J_isClient_14 : decode c_J_isClient 14 = .ok (.ireturn, 1) := by decide +kernel
theorem d_J_isSide_0 : decode c_J_isSide 0 = .ok (.iload_n 0, 1) := by decide +kernel
theorem d_J_isSide_1 : decode c_J_isSide 1 = .ok (.invokestatic 32, 3) := by decide +kernel
theorem d_J_isSide_4 : decode c_J_isSide 4 = .ok (.ifCond .ne 8, 3) := by decide +kernel
theorem d_J_isSide_7 : decode c_J_isSide 7 = .ok (.iload_n 0, 1) := by decide +kernel
theorem d_J_isSide_8 : decode c_J_isSide 8 = .ok (.iconst 3, 1) := by decide +kernel
theorem d_J_isSide_9 : decode c_J_isSide 9 = .ok (.if_icmp .ne 7, 3) := by decide +kernel
theorem d_J_isSide_12 : decode c_J_isSide 12 = .ok (.iconst 1, 1) := by decide +kernel
theorem d_J_isSide_13 : decode c_J_isSide 13 = .ok (.goto 4, 3) := by decide +kernel
theorem d_J_isSide_16 : decode c_J_isSide 16 = .ok (.iconst 0, 1) := by decide +kernel
theorem d_J_isSide_17 : decode c_J_isSide 17 = .ok (.ireturn, 1) := by decide +kernel
theorem d_J_isDown_0 : decode c_J_isDown 0 = .ok (.iload_n 1, 1) := by decide +kernel
theorem d_J_isDown_1 : decode c_J_isDown 1 = .ok (.iconst 3, 1) := by decide +kernel
theorem d_J_isDown_2 : decode c_J_isDown 2 = .ok (.if_icmp .ne 17, 3) := by decide +kernel
theorem d_J_isDown_5 : decode c_J_isDown 5 = .ok (.aload_n 0, 1) := by decide +kernel
theorem d_J_isDown_6 : decode c_J_isDown 6 = .ok (.getfield 21, 3) := by decide +kernel
theorem d_J_isDown_9 : decode c_J_isDown 9 = .ok (.invokevirtual 157, 3) := by decide +kernel
theorem d_J_isDown_12 : decode c_J_isDown 12 = .ok (.ifCond .ne 7, 3) := by decide +kernel
theorem d_J_isDown_15 : decode c_J_isDown 15 = .ok (.iconst 1, 1) := by decide +kernel
theorem d_J_isDown_16 : decode c_J_isDown 16 = .ok (.goto 4, 3) := by decide +kernel
theorem d_J_isDown_19 : decode c_J_isDown 19 = .ok (.iconst 0, 1) := by decide +kernel
theorem d_J_isDown_20 : decode c_J_isDown 20 = .ok (.ireturn, 1) := by decide +kernel
theorem d_J_textOf_0 : decode c_J_textOf 0 = .ok (.iload_n 1, 1) := by decide +kernel
theorem d_J_textOf_1 : decode c_J_textOf 1 = .ok (.iconst 3, 1) := by decide +kernel
theorem d_J_textOf_2 : decode c_J_textOf 2 = .ok (.if_icmp .ne 13, 3) := by decide +kernel
theorem d_J_textOf_5 : decode c_J_textOf 5 = .ok (.aload_n 0, 1) := by decide +kernel
theorem d_J_textOf_6 : decode c_J_textOf 6 = .ok (.getfield 21, 3) := by decide +kernel
theorem d_J_textOf_9 : decode c_J_textOf 9 = .ok (.getfield 195, 3) := by decide +kernel
theorem d_J_textOf_12 : decode c_J_textOf 12 = .ok (.goto 12, 3) := by decide +kernel
theorem d_J_textOf_15 : decode c_J_textOf 15 = .ok (.aload_n 0, 1) := by decide +kernel
theorem d_J_textOf_16 : decode c_J_textOf 16 = .ok (.getfield 14, 3) := by decide +kernel
theorem d_J_textOf_19 : decode c_J_textOf 19 = .ok (.iload_n 1, 1) := by decide +kernel
theorem d_J_textOf_20 : decode c_J_textOf 20 = .ok (.aaload, 1) := by decide +kernel
theorem d_J_textOf_21 : decode c_J_textOf 21 = .ok (.getfield 39, 3) := by decide +kernel
theorem d_J_textOf_24 : decode c_J_textOf 24 = .ok (.areturn, 1) := by decide +kernel
theorem d_J_makeEdit_0 : decode c_J_makeEdit 0 = .ok (.aload_n 1, 1) := by decide +kernel
theorem d_J_makeEdit_1 : decode c_J_makeEdit 1 = .ok (.iload_n 2, 1) := by decide +kernel
theorem d_J_makeEdit_2 : decode c_J_makeEdit 2 = .ok (.iload_n 3, 1) := by decide +kernel
theorem d_J_makeEdit_3 : decode c_J_makeEdit 3 = .ok (.invokevirtual 196, 3) := by decide +kernel
theorem d_J_makeEdit_6 : decode c_J_makeEdit 6 = .ok (.aload_n 1, 1) := by decide +kernel
theorem d_J_makeEdit_7 : decode c_J_makeEdit 7 = .ok (.invokevirtual 69, 3) := by decide +kernel
theorem d_J_makeEdit_10 : decode c_J_makeEdit 10 = .ok (.iconst 1, 1) := by decide +kernel
theorem d_J_makeEdit_11 : decode c_J_makeEdit 11 = .ok (.if_icmp .ne 8, 3) := by decide +kernel
theorem d_J_makeEdit_14 : decode c_J_makeEdit 14 = .ok (.aload_n 0, 1) := by decide +kernel
theorem d_J_makeEdit_15 : decode c_J_makeEdit 15 = .ok (.aload_n 1, 1) := by decide +kernel
theorem d_J_makeEdit_16 : decode c_J_makeEdit 16 = .ok (.invokevirtual 200, 3) := by decide +kernel
theorem d_J_makeEdit_19 : decode c_J_makeEdit 19 = .ok (.return_, 1) := by decide +kernel
theorem d_J_sendAgain_0 : decode c_J_sendAgain 0 = .ok (.aload_n 1, 1) := by decide +kernel
theorem d_J_sendAgain_1 : decode c_J_sendAgain 1 = .ok (.invokevirtual 69, 3) := by decide +kernel
theorem d_J_sendAgain_4 : decode c_J_sendAgain 4 = .ok (.ifCond .le 11, 3) := by decide +kernel
theorem d_J_sendAgain_7 : decode c_J_sendAgain 7 = .ok (.aload_n 0, 1) := by decide +kernel
theorem d_J_sendAgain_8 : decode c_J_sendAgain 8 = .ok (.aload_n 1, 1) := by decide +kernel
theorem d_J_sendAgain_9 : decode c_J_sendAgain 9 = .ok (.invokevirtual 200, 3) := by decide +kernel
theorem d_J_sendAgain_12 : decode c_J_sendAgain 12 = .ok (.goto 8, 3) := by decide +kernel
theorem d_J_sendAgain_15 : decode c_J_sendAgain 15 = .ok (.aload_n 0, 1) := by decide +kernel
theorem d_J_sendAgain_16 : decode c_J_sendAgain 16 = .ok (.aload_n 1, 1) := by decide +kernel
theorem d_J_sendAgain_17 : decode c_J_sendAgain 17 = .ok (.invokevirtual 203, 3) := by decide +kernel
theorem d_J_sendAgain_20 : decode c_J_sendAgain 20 = .ok (.return_, 1) := by decide +kernel
theorem d_J_sendEdit_0 : decode c_J_sendEdit 0 = .ok (.aload_n 1, 1) := by decide +kernel
theorem d_J_sendEdit_1 : decode c_J_sendEdit 1 = .ok (.invokevirtual 179, 3) := by decide +kernel
theorem d_J_sendEdit_4 : decode c_J_sendEdit 4 = .ok (.ifCond .eq 27, 3) := by decide +kernel
theorem d_J_sendEdit_7 : decode c_J_sendEdit 7 = .ok (.aload_n 0, 1) := by decide +kernel
theorem d_J_sendEdit_8 : decode c_J_sendEdit 8 = .ok (.getfield 28, 3) := by decide +kernel
theorem d_J_sendEdit_11 : decode c_J_sendEdit 11 = .ok (.iconst 0, 1) := by decide +kernel
theorem d_J_sendEdit_12 : decode c_J_sendEdit 12 = .ok (.aload_n 1, 1) := by decide +kernel
theorem d_J_sendEdit_13 : decode c_J_sendEdit 13 = .ok (.getfield 206, 3) := by decide +kernel
theorem d_J_sendEdit_16 : decode c_J_sendEdit 16 = .ok (.aload_n 1, 1) := by decide +kernel
theorem d_J_sendEdit_17 : decode c_J_sendEdit 17 = .ok (.invokevirtual 113, 3) := by decide +kernel
theorem d_J_sendEdit_20 : decode c_J_sendEdit 20 = .ok (.aload_n 1, 1) := by decide +kernel
theorem d_J_sendEdit_21 : decode c_J_sendEdit 21 = .ok (.invokevirtual 210, 3) := by decide +kernel
theorem d_J_sendEdit_24 : decode c_J_sendEdit 24 = .ok (.aload_n 1, 1) := by decide +kernel
theorem d_J_sendEdit_25 : decode c_J_sendEdit 25 = .ok (.invokevirtual 213, 3) := by decide +kernel
theorem d_J_sendEdit_28 : decode c_J_sendEdit 28 = .ok (.invokevirtual 216, 3) := by decide +kernel
theorem d_J_sendEdit_31 : decode c_J_sendEdit 31 = .ok (.return_, 1) := by decide +kernel
theorem d_J_sendAsk_0 : decode c_J_sendAsk 0 = .ok (.aload_n 1, 1) := by decide +kernel
theorem d_J_sendAsk_1 : decode c_J_sendAsk 1 = .ok (.invokevirtual 179, 3) := by decide +kernel
theorem d_J_sendAsk_4 : decode c_J_sendAsk 4 = .ok (.ifCond .eq 27, 3) := by decide +kernel
theorem d_J_sendAsk_7 : decode c_J_sendAsk 7 = .ok (.aload_n 0, 1) := by decide +kernel
theorem d_J_sendAsk_8 : decode c_J_sendAsk 8 = .ok (.getfield 28, 3) := by decide +kernel
theorem d_J_sendAsk_11 : decode c_J_sendAsk 11 = .ok (.iconst 1, 1) := by decide +kernel
theorem d_J_sendAsk_12 : decode c_J_sendAsk 12 = .ok (.aload_n 1, 1) := by decide +kernel
theorem d_J_sendAsk_13 : decode c_J_sendAsk 13 = .ok (.getfield 206, 3) := by decide +kernel
theorem d_J_sendAsk_16 : decode c_J_sendAsk 16 = .ok (.aload_n 1, 1) := by decide +kernel
theorem d_J_sendAsk_17 : decode c_J_sendAsk 17 = .ok (.invokevirtual 113, 3) := by decide +kernel
theorem d_J_sendAsk_20 : decode c_J_sendAsk 20 = .ok (.aload_n 1, 1) := by decide +kernel
theorem d_J_sendAsk_21 : decode c_J_sendAsk 21 = .ok (.getfield 206, 3) := by decide +kernel
theorem d_J_sendAsk_24 : decode c_J_sendAsk 24 = .ok (.invokestatic 220, 3) := by decide +kernel
theorem d_J_sendAsk_27 : decode c_J_sendAsk 27 = .ok (.iconst 0, 1) := by decide +kernel
theorem d_J_sendAsk_28 : decode c_J_sendAsk 28 = .ok (.invokevirtual 216, 3) := by decide +kernel
theorem d_J_sendAsk_31 : decode c_J_sendAsk 31 = .ok (.return_, 1) := by decide +kernel
theorem d_J_sendNews_0 : decode c_J_sendNews 0 = .ok (.aload_n 0, 1) := by decide +kernel
theorem d_J_sendNews_1 : decode c_J_sendNews 1 = .ok (.getfield 28, 3) := by decide +kernel
theorem d_J_sendNews_4 : decode c_J_sendNews 4 = .ok (.iconst 2, 1) := by decide +kernel
theorem d_J_sendNews_5 : decode c_J_sendNews 5 = .ok (.iload_n 2, 1) := by decide +kernel
theorem d_J_sendNews_6 : decode c_J_sendNews 6 = .ok (.iload_n 1, 1) := by decide +kernel
theorem d_J_sendNews_7 : decode c_J_sendNews 7 = .ok (.aload_n 0, 1) := by decide +kernel
theorem d_J_sendNews_8 : decode c_J_sendNews 8 = .ok (.getfield 21, 3) := by decide +kernel
theorem d_J_sendNews_11 : decode c_J_sendNews 11 = .ok (.iload_n 1, 1) := by decide +kernel
theorem d_J_sendNews_12 : decode c_J_sendNews 12 = .ok (.invokevirtual 119, 3) := by decide +kernel
theorem d_J_sendNews_15 : decode c_J_sendNews 15 = .ok (.aload_n 0, 1) := by decide +kernel
theorem d_J_sendNews_16 : decode c_J_sendNews 16 = .ok (.getfield 21, 3) := by decide +kernel
theorem d_J_sendNews_19 : decode c_J_sendNews 19 = .ok (.iload_n 1, 1) := by decide +kernel
theorem d_J_sendNews_20 : decode c_J_sendNews 20 = .ok (.invokevirtual 131, 3) := by decide +kernel
theorem d_J_sendNews_23 : decode c_J_sendNews 23 = .ok (.invokevirtual 216, 3) := by decide +kernel
theorem d_J_sendNews_26 : decode c_J_sendNews 26 = .ok (.return_, 1) := by decide +kernel
theorem d_J_sendNewsToAll_0 : decode c_J_sendNewsToAll 0 = .ok (.iconst 0, 1) := by decide +kernel
theorem d_J_sendNewsToAll_1 : decode c_J_sendNewsToAll 1 = .ok (.istore_n 2, 1) := by decide +kernel
theorem d_J_sendNewsToAll_2 : decode c_J_sendNewsToAll 2 = .ok (.iload_n 2, 1) := by decide +kernel
theorem d_J_sendNewsToAll_3 : decode c_J_sendNewsToAll 3 = .ok (.iconst 3, 1) := by decide +kernel
theorem d_J_sendNewsToAll_4 : decode c_J_sendNewsToAll 4 = .ok (.if_icmp .ge 15, 3) := by decide +kernel
theorem d_J_sendNewsToAll_7 : decode c_J_sendNewsToAll 7 = .ok (.aload_n 0, 1) := by decide +kernel
theorem d_J_sendNewsToAll_8 : decode c_J_sendNewsToAll 8 = .ok (.iload_n 1, 1) := by decide +kernel
theorem d_J_sendNewsToAll_9 : decode c_J_sendNewsToAll 9 = .ok (.iload_n 2, 1) := by decide +kernel
theorem d_J_sendNewsToAll_10 : decode c_J_sendNewsToAll 10 = .ok (.invokevirtual 223, 3) := by decide +kernel
theorem d_J_sendNewsToAll_13 : decode c_J_sendNewsToAll 13 = .ok (.iinc 2 1, 3) := by decide +kernel
theorem d_J_sendNewsToAll_16 : decode c_J_sendNewsToAll 16 = .ok (.goto (-14), 3) := by decide +kernel
theorem d_J_sendNewsToAll_19 : decode c_J_sendNewsToAll 19 = .ok (.return_, 1) := by decide +kernel
theorem d_J_sendNewsFrom_0 : decode c_J_sendNewsFrom 0 = .ok (.iload_n 1, 1) := by decide +kernel
theorem d_J_sendNewsFrom_1 : decode c_J_sendNewsFrom 1 = .ok (.istore_n 3, 1) := by decide +kernel
theorem d_J_sendNewsFrom_2 : decode c_J_sendNewsFrom 2 = .ok (.iload_n 3, 1) := by decide +kernel
theorem d_J_sendNewsFrom_3 : decode c_J_sendNewsFrom 3 = .ok (.aload_n 0, 1) := by decide +kernel
theorem d_J_sendNewsFrom_4 : decode c_J_sendNewsFrom 4 = .ok (.getfield 21, 3) := by decide +kernel
theorem d_J_sendNewsFrom_7 : decode c_J_sendNewsFrom 7 = .ok (.invokevirtual 110, 3) := by decide +kernel
theorem d_J_sendNewsFrom_10 : decode c_J_sendNewsFrom 10 = .ok (.if_icmp .ge 15, 3) := by decide +kernel
theorem d_J_sendNewsFrom_13 : decode c_J_sendNewsFrom 13 = .ok (.aload_n 0, 1) := by decide +kernel
theorem d_J_sendNewsFrom_14 : decode c_J_sendNewsFrom 14 = .ok (.iload_n 3, 1) := by decide +kernel
theorem d_J_sendNewsFrom_15 : decode c_J_sendNewsFrom 15 = .ok (.iload_n 2, 1) := by decide +kernel
theorem d_J_sendNewsFrom_16 : decode c_J_sendNewsFrom 16 = .ok (.invokevirtual 223, 3) := by decide +kernel
theorem d_J_sendNewsFrom_19 : decode c_J_sendNewsFrom 19 = .ok (.iinc 3 1, 3) := by decide +kernel
theorem d_J_sendNewsFrom_22 : decode c_J_sendNewsFrom 22 = .ok (.goto (-20), 3) := by decide +kernel
theorem d_J_sendNewsFrom_25 : decode c_J_sendNewsFrom 25 = .ok (.return_, 1) := by decide +kernel
theorem d_J_getEdit_0 : decode c_J_getEdit 0 = .ok (.aload_n 0, 1) := by decide +kernel
theorem d_J_getEdit_1 : decode c_J_getEdit 1 = .ok (.getfield 21, 3) := by decide +kernel
theorem d_J_getEdit_4 : decode c_J_getEdit 4 = .ok (.iload_n 1, 1) := by decide +kernel
theorem d_J_getEdit_5 : decode c_J_getEdit 5 = .ok (.invokevirtual 226, 3) := by decide +kernel
theorem d_J_getEdit_8 : decode c_J_getEdit 8 = .ok (.istore 5, 2) := by decide +kernel
theorem d_J_getEdit_10 : decode c_J_getEdit 10 = .ok (.iload 4, 2) := by decide +kernel
theorem d_J_getEdit_12 : decode c_J_getEdit 12 = .ok (.iload 5, 2) := by decide +kernel
theorem d_J_getEdit_14 : decode c_J_getEdit 14 = .ok (.if_icmp .ge 10, 3) := by decide +kernel
theorem d_J_getEdit_17 : decode c_J_getEdit 17 = .ok (.aload_n 0, 1) := by decide +kernel
theorem d_J_getEdit_18 : decode c_J_getEdit 18 = .ok (.iload_n 2, 1) := by decide +kernel
theorem d_J_getEdit_19 : decode c_J_getEdit 19 = .ok (.iload_n 1, 1) := by decide +kernel
theorem d_J_getEdit_20 : decode c_J_getEdit 20 = .ok (.invokevirtual 164, 3) := by decide +kernel
theorem d_J_getEdit_23 : decode c_J_getEdit 23 = .ok (.return_, 1) := by decide +kernel
theorem d_J_getEdit_24 : decode c_J_getEdit 24 = .ok (.iload 4, 2) := by decide +kernel
theorem d_J_getEdit_26 : decode c_J_getEdit 26 = .ok (.iload 5, 2) := by decide +kernel
theorem d_J_getEdit_28 : decode c_J_getEdit 28 = .ok (.if_icmp .gt 13, 3) := by decide +kernel
theorem d_J_getEdit_31 : decode c_J_getEdit 31 = .ok (.aload_n 0, 1) := by decide +kernel
theorem d_J_getEdit_32 : decode c_J_getEdit 32 = .ok (.getfield 21, 3) := by decide +kernel
theorem d_J_getEdit_35 : decode c_J_getEdit 35 = .ok (.invokevirtual 229, 3) := by decide +kernel
theorem d_J_getEdit_38 : decode c_J_getEdit 38 = .ok (.ifCond .eq 4, 3) := by decide +kernel
theorem d_J_getEdit_41 : decode c_J_getEdit 41 = .ok (.return_, 1) := by decide +kernel
theorem d_J_getEdit_42 : decode c_J_getEdit 42 = .ok (.aload_n 0, 1) := by decide +kernel
theorem d_J_getEdit_43 : decode c_J_getEdit 43 = .ok (.getfield 21, 3) := by decide +kernel
theorem d_J_getEdit_46 : decode c_J_getEdit 46 = .ok (.invokevirtual 110, 3) := by decide +kernel
theorem d_J_getEdit_49 : decode c_J_getEdit 49 = .ok (.istore 6, 2) := by decide +kernel
theorem d_J_getEdit_51 : decode c_J_getEdit 51 = .ok (.aload_n 0, 1) := by decide +kernel
theorem d_J_getEdit_52 : decode c_J_getEdit 52 = .ok (.getfield 21, 3) := by decide +kernel
theorem d_J_getEdit_55 : decode c_J_getEdit 55 = .ok (.aload_n 0, 1) := by decide +kernel
theorem d_J_getEdit_56 : decode c_J_getEdit 56 = .ok (.getfield 21, 3) := by decide +kernel
theorem d_J_getEdit_59 : decode c_J_getEdit 59 = .ok (.iload_n 2, 1) := by decide +kernel
theorem d_J_getEdit_60 : decode c_J_getEdit 60 = .ok (.iload_n 3, 1) := by decide +kernel
theorem d_J_getEdit_61 : decode c_J_getEdit 61 = .ok (.invokevirtual 230, 3) := by decide +kernel
theorem d_J_getEdit_64 : decode c_J_getEdit 64 = .ok (.iload 4, 2) := by decide +kernel
theorem d_J_getEdit_66 : decode c_J_getEdit 66 = .ok (.invokevirtual 234, 3) := by decide +kernel
theorem d_J_getEdit_69 : decode c_J_getEdit 69 = .ok (.ifCond .eq 9, 3) := by decide +kernel
theorem d_J_getEdit_72 : decode c_J_getEdit 72 = .ok (.aload_n 0, 1) := by decide +kernel
theorem d_J_getEdit_73 : decode c_J_getEdit 73 = .ok (.iload 6, 2) := by decide +kernel
theorem d_J_getEdit_75 : decode c_J_getEdit 75 = .ok (.invokevirtual 238, 3) := by decide +kernel
theorem d_J_getEdit_78 : decode c_J_getEdit 78 = .ok (.return_, 1) := by decide +kernel
theorem d_J_getNews_0 : decode c_J_getNews 0 = .ok (.aload_n 1, 1) := by decide +kernel
theorem d_J_getNews_1 : decode c_J_getNews 1 = .ok (.invokevirtual 179, 3) := by decide +kernel
theorem d_J_getNews_4 : decode c_J_getNews 4 = .ok (.ifCond .eq 11, 3) := by decide +kernel
theorem d_J_getNews_7 : decode c_J_getNews 7 = .ok (.iload_n 2, 1) := by decide +kernel
theorem d_J_getNews_8 : decode c_J_getNews 8 = .ok (.aload_n 1, 1) := by decide +kernel
theorem d_J_getNews_9 : decode c_J_getNews 9 = .ok (.invokevirtual 113, 3) := by decide +kernel
theorem d_J_getNews_12 : decode c_J_getNews 12 = .ok (.if_icmp .eq 4, 3) := by decide +kernel
theorem d_J_getNews_15 : decode c_J_getNews 15 = .ok (.return_, 1) := by decide +kernel
theorem d_J_getNews_16 : decode c_J_getNews 16 = .ok (.iload_n 3, 1) := by decide +kernel
theorem d_J_getNews_17 : decode c_J_getNews 17 = .ok (.invokestatic 128, 3) := by decide +kernel
theorem d_J_getNews_20 : decode c_J_getNews 20 = .ok (.aload_n 1, 1) := by decide +kernel
theorem d_J_getNews_21 : decode c_J_getNews 21 = .ok (.getfield 206, 3) := by decide +kernel
theorem d_J_getNews_24 : decode c_J_getNews 24 = .ok (.if_icmp .eq 9, 3) := by decide +kernel
theorem d_J_getNews_27 : decode c_J_getNews 27 = .ok (.aload_n 1, 1) := by decide +kernel
theorem d_J_getNews_28 : decode c_J_getNews 28 = .ok (.iload_n 3, 1) := by decide +kernel
theorem d_J_getNews_29 : decode c_J_getNews 29 = .ok (.invokevirtual 241, 3) := by decide +kernel
theorem d_J_getNews_32 : decode c_J_getNews 32 = .ok (.return_, 1) := by decide +kernel
theorem d_J_getNews_33 : decode c_J_getNews 33 = .ok (.aload_n 1, 1) := by decide +kernel
theorem d_J_getNews_34 : decode c_J_getNews 34 = .ok (.invokevirtual 244, 3) := by decide +kernel
theorem d_J_getNews_37 : decode c_J_getNews 37 = .ok (.aload_n 1, 1) := by decide +kernel
theorem d_J_getNews_38 : decode c_J_getNews 38 = .ok (.invokevirtual 69, 3) := by decide +kernel
theorem d_J_getNews_41 : decode c_J_getNews 41 = .ok (.ifCond .le 8, 3) := by decide +kernel
theorem d_J_getNews_44 : decode c_J_getNews 44 = .ok (.aload_n 0, 1) := by decide +kernel
theorem d_J_getNews_45 : decode c_J_getNews 45 = .ok (.aload_n 1, 1) := by decide +kernel
theorem d_J_getNews_46 : decode c_J_getNews 46 = .ok (.invokevirtual 200, 3) := by decide +kernel
theorem d_J_getNews_49 : decode c_J_getNews 49 = .ok (.return_, 1) := by decide +kernel
