theorem dX0_init_0 : decode cX0_init 0 = .ok (.aload_n 0, 1) := by decide +kernel
theorem dX0_init_1 : decode cX0_init 1 = .ok (.invokespecial 3, 3) := by decide +kernel
theorem dX0_init_4 : decode cX0_init 4 = .ok (.aload_n 0, 1) := by decide +kernel
theorem dX0_init_5 : decode cX0_init 5 = .ok (.sipush 176, 3) := by decide +kernel
theorem dX0_init_8 : decode cX0_init 8 = .ok (.newarray .int, 2) := by decide +kernel
theorem dX0_init_10 : decode cX0_init 10 = .ok (.putfield 9, 3) := by decide +kernel
theorem dX0_init_13 : decode cX0_init 13 = .ok (.aload_n 0, 1) := by decide +kernel
theorem dX0_init_14 : decode cX0_init 14 = .ok (.bipush 16, 2) := by decide +kernel
theorem dX0_init_16 : decode cX0_init 16 = .ok (.newarray .int, 2) := by decide +kernel
theorem dX0_init_18 : decode cX0_init 18 = .ok (.putfield 15, 3) := by decide +kernel
theorem dX0_init_21 : decode cX0_init 21 = .ok (.return_, 1) := by decide +kernel
theorem dX0_useKey_0 : decode cX0_useKey 0 = .ok (.iconst 0, 1) := by decide +kernel
theorem dX0_useKey_1 : decode cX0_useKey 1 = .ok (.istore_n 2, 1) := by decide +kernel
theorem dX0_useKey_2 : decode cX0_useKey 2 = .ok (.iload_n 2, 1) := by decide +kernel
theorem dX0_useKey_3 : decode cX0_useKey 3 = .ok (.bipush 16, 2) := by decide +kernel
theorem dX0_useKey_5 : decode cX0_useKey 5 = .ok (.if_icmp .ge 21, 3) := by decide +kernel
theorem dX0_useKey_8 : decode cX0_useKey 8 = .ok (.aload_n 0, 1) := by decide +kernel
theorem dX0_useKey_9 : decode cX0_useKey 9 = .ok (.getfield 9, 3) := by decide +kernel
theorem dX0_useKey_12 : decode cX0_useKey 12 = .ok (.iload_n 2, 1) := by decide +kernel
theorem dX0_useKey_13 : decode cX0_useKey 13 = .ok (.aload_n 1, 1) := by decide +kernel
theorem dX0_useKey_14 : decode cX0_useKey 14 = .ok (.getfield 18, 3) := by decide +kernel
theorem dX0_useKey_17 : decode cX0_useKey 17 = .ok (.iload_n 2, 1) := by decide +kernel
theorem dX0_useKey_18 : decode cX0_useKey 18 = .ok (.iaload, 1) := by decide +kernel
theorem dX0_useKey_19 : decode cX0_useKey 19 = .ok (.iastore, 1) := by decide +kernel
theorem dX0_useKey_20 : decode cX0_useKey 20 = .ok (.iinc 2 1, 3) := by decide +kernel
theorem dX0_useKey_23 : decode cX0_useKey 23 = .ok (.goto (-21), 3) := by decide +kernel
theorem dX0_useKey_26 : decode cX0_useKey 26 = .ok (.iconst 1, 1) := by decide +kernel
theorem dX0_useKey_27 : decode cX0_useKey 27 = .ok (.istore_n 2, 1) := by decide +kernel
theorem dX0_useKey_28 : decode cX0_useKey 28 = .ok (.bipush 16, 2) := by decide +kernel
theorem dX0_useKey_30 : decode cX0_useKey 30 = .ok (.istore_n 3, 1) := by decide +kernel
theorem dX0_useKey_31 : decode cX0_useKey 31 = .ok (.iload_n 3, 1) := by decide +kernel
theorem dX0_useKey_32 : decode cX0_useKey 32 = .ok (.sipush 176, 3) := by decide +kernel
theorem dX0_useKey_35 : decode cX0_useKey 35 = .ok (.if_icmp .ge 67, 3) := by decide +kernel
theorem dX0_useKey_38 : decode cX0_useKey 38 = .ok (.aload_n 0, 1) := by decide +kernel
theorem dX0_useKey_39 : decode cX0_useKey 39 = .ok (.iload_n 3, 1) := by decide +kernel
theorem dX0_useKey_40 : decode cX0_useKey 40 = .ok (.iload_n 2, 1) := by decide +kernel
theorem dX0_useKey_41 : decode cX0_useKey 41 = .ok (.invokevirtual 23, 3) := by decide +kernel
theorem dX0_useKey_44 : decode cX0_useKey 44 = .ok (.iload_n 3, 1) := by decide +kernel
theorem dX0_useKey_45 : decode cX0_useKey 45 = .ok (.iconst 4, 1) := by decide +kernel
theorem dX0_useKey_46 : decode cX0_useKey 46 = .ok (.iadd, 1) := by decide +kernel
theorem dX0_useKey_47 : decode cX0_useKey 47 = .ok (.istore 4, 2) := by decide +kernel
theorem dX0_useKey_49 : decode cX0_useKey 49 = .ok (.iload 4, 2) := by decide +kernel
theorem dX0_useKey_51 : decode cX0_useKey 51 = .ok (.iload_n 3, 1) := by decide +kernel
theorem dX0_useKey_52 : decode cX0_useKey 52 = .ok (.bipush 16, 2) := by decide +kernel
theorem dX0_useKey_54 : decode cX0_useKey 54 = .ok (.iadd, 1) := by decide +kernel
theorem dX0_useKey_55 : decode cX0_useKey 55 = .ok (.if_icmp .ge 36, 3) := by decide +kernel
theorem dX0_useKey_58 : decode cX0_useKey 58 = .ok (.aload_n 0, 1) := by decide +kernel
theorem dX0_useKey_59 : decode cX0_useKey 59 = .ok (.getfield 9, 3) := by decide +kernel
theorem dX0_useKey_62 : decode cX0_useKey 62 = .ok (.iload 4, 2) := by decide +kernel
theorem dX0_useKey_64 : decode cX0_useKey 64 = .ok (.aload_n 0, 1) := by decide +kernel
theorem dX0_useKey_65 : decode cX0_useKey 65 = .ok (.getfield 9, 3) := by decide +kernel
theorem dX0_useKey_68 : decode cX0_useKey 68 = .ok (.iload 4, 2) := by decide +kernel
theorem dX0_useKey_70 : decode cX0_useKey 70 = .ok (.bipush 16, 2) := by decide +kernel
theorem dX0_useKey_72 : decode cX0_useKey 72 = .ok (.isub, 1) := by decide +kernel
theorem dX0_useKey_73 : decode cX0_useKey 73 = .ok (.iaload, 1) := by decide +kernel
theorem dX0_useKey_74 : decode cX0_useKey 74 = .ok (.aload_n 0, 1) := by decide +kernel
theorem dX0_useKey_75 : decode cX0_useKey 75 = .ok (.getfield 9, 3) := by decide +kernel
theorem dX0_useKey_78 : decode cX0_useKey 78 = .ok (.iload 4, 2) := by decide +kernel
theorem dX0_useKey_80 : decode cX0_useKey 80 = .ok (.iconst 4, 1) := by decide +kernel
theorem dX0_useKey_81 : decode cX0_useKey 81 = .ok (.isub, 1) := by decide +kernel
theorem dX0_useKey_82 : decode cX0_useKey 82 = .ok (.iaload, 1) := by decide +kernel
theorem dX0_useKey_83 : decode cX0_useKey 83 = .ok (.ixor, 1) := by decide +kernel
theorem dX0_useKey_84 : decode cX0_useKey 84 = .ok (.iastore, 1) := by decide +kernel
theorem dX0_useKey_85 : decode cX0_useKey 85 = .ok (.iinc 4 1, 3) := by decide +kernel
theorem dX0_useKey_88 : decode cX0_useKey 88 = .ok (.goto (-39), 3) := by decide +kernel
theorem dX0_useKey_91 : decode cX0_useKey 91 = .ok (.iload_n 2, 1) := by decide +kernel
theorem dX0_useKey_92 : decode cX0_useKey 92 = .ok (.invokestatic 27, 3) := by decide +kernel
theorem dX0_useKey_95 : decode cX0_useKey 95 = .ok (.istore_n 2, 1) := by decide +kernel
theorem dX0_useKey_96 : decode cX0_useKey 96 = .ok (.iinc 3 16, 3) := by decide +kernel
theorem dX0_useKey_99 : decode cX0_useKey 99 = .ok (.goto (-68), 3) := by decide +kernel
theorem dX0_useKey_102 : decode cX0_useKey 102 = .ok (.return_, 1) := by decide +kernel
theorem dX0_putFirstWord_0 : decode cX0_putFirstWord 0 = .ok (.iconst 0, 1) := by decide +kernel
theorem dX0_putFirstWord_1 : decode cX0_putFirstWord 1 = .ok (.istore_n 3, 1) := by decide +kernel
theorem dX0_putFirstWord_2 : decode cX0_putFirstWord 2 = .ok (.iload_n 3, 1) := by decide +kernel
theorem dX0_putFirstWord_3 : decode cX0_putFirstWord 3 = .ok (.iconst 4, 1) := by decide +kernel
theorem dX0_putFirstWord_4 : decode cX0_putFirstWord 4 = .ok (.if_icmp .ge 50, 3) := by decide +kernel
theorem dX0_putFirstWord_7 : decode cX0_putFirstWord 7 = .ok (.aload_n 0, 1) := by decide +kernel
theorem dX0_putFirstWord_8 : decode cX0_putFirstWord 8 = .ok (.getfield 9, 3) := by decide +kernel
theorem dX0_putFirstWord_11 : decode cX0_putFirstWord 11 = .ok (.iload_n 1, 1) := by decide +kernel
theorem dX0_putFirstWord_12 : decode cX0_putFirstWord 12 = .ok (.iconst 4, 1) := by decide +kernel
theorem dX0_putFirstWord_13 : decode cX0_putFirstWord 13 = .ok (.isub, 1) := by decide +kernel
theorem dX0_putFirstWord_14 : decode cX0_putFirstWord 14 = .ok (.iload_n 3, 1) := by decide +kernel
theorem dX0_putFirstWord_15 : decode cX0_putFirstWord 15 = .ok (.iconst 1, 1) := by decide +kernel
theorem dX0_putFirstWord_16 : decode cX0_putFirstWord 16 = .ok (.iadd, 1) := by decide +kernel
theorem dX0_putFirstWord_17 : decode cX0_putFirstWord 17 = .ok (.iconst 4, 1) := by decide +kernel
theorem dX0_putFirstWord_18 : decode cX0_putFirstWord 18 = .ok (.irem, 1) := by decide +kernel
theorem dX0_putFirstWord_19 : decode cX0_putFirstWord 19 = .ok (.iadd, 1) := by decide +kernel
theorem dX0_putFirstWord_20 : decode cX0_putFirstWord 20 = .ok (.iaload, 1) := by decide +kernel
theorem dX0_putFirstWord_21 : decode cX0_putFirstWord 21 = .ok (.istore 4, 2) := by decide +kernel
theorem dX0_putFirstWord_23 : decode cX0_putFirstWord 23 = .ok (.aload_n 0, 1) := by decide +kernel
theorem dX0_putFirstWord_24 : decode cX0_putFirstWord 24 = .ok (.getfield 9, 3) := by decide +kernel
theorem dX0_putFirstWord_27 : decode cX0_putFirstWord 27 = .ok (.iload_n 1, 1) := by decide +kernel
theorem dX0_putFirstWord_28 : decode cX0_putFirstWord 28 = .ok (.iload_n 3, 1) := by decide +kernel
theorem dX0_putFirstWord_29 : decode cX0_putFirstWord 29 = .ok (.iadd, 1) := by decide +kernel
theorem dX0_putFirstWord_30 : decode cX0_putFirstWord 30 = .ok (.aload_n 0, 1) := by decide +kernel
theorem dX0_putFirstWord_31 : decode cX0_putFirstWord 31 = .ok (.getfield 9, 3) := by decide +kernel
theorem dX0_putFirstWord_34 : decode cX0_putFirstWord 34 = .ok (.iload_n 1, 1) := by decide +kernel
theorem dX0_putFirstWord_35 : decode cX0_putFirstWord 35 = .ok (.bipush 16, 2) := by decide +kernel
theorem dX0_putFirstWord_37 : decode cX0_putFirstWord 37 = .ok (.isub, 1) := by decide +kernel
theorem dX0_putFirstWord_38 : decode cX0_putFirstWord 38 = .ok (.iload_n 3, 1) := by decide +kernel
theorem dX0_putFirstWord_39 : decode cX0_putFirstWord 39 = .ok (.iadd, 1) := by decide +kernel
theorem dX0_putFirstWord_40 : decode cX0_putFirstWord 40 = .ok (.iaload, 1) := by decide +kernel
theorem dX0_putFirstWord_41 : decode cX0_putFirstWord 41 = .ok (.iload 4, 2) := by decide +kernel
theorem dX0_putFirstWord_43 : decode cX0_putFirstWord 43 = .ok (.invokestatic 31, 3) := by decide +kernel
theorem dX0_putFirstWord_46 : decode cX0_putFirstWord 46 = .ok (.ixor, 1) := by decide +kernel
theorem dX0_putFirstWord_47 : decode cX0_putFirstWord 47 = .ok (.iastore, 1) := by decide +kernel
theorem dX0_putFirstWord_48 : decode cX0_putFirstWord 48 = .ok (.iinc 3 1, 3) := by decide +kernel
theorem dX0_putFirstWord_51 : decode cX0_putFirstWord 51 = .ok (.goto (-49), 3) := by decide +kernel
theorem dX0_putFirstWord_54 : decode cX0_putFirstWord 54 = .ok (.aload_n 0, 1) := by decide +kernel
theorem dX0_putFirstWord_55 : decode cX0_putFirstWord 55 = .ok (.getfield 9, 3) := by decide +kernel
theorem dX0_putFirstWord_58 : decode cX0_putFirstWord 58 = .ok (.iload_n 1, 1) := by decide +kernel
theorem dX0_putFirstWord_59 : decode cX0_putFirstWord 59 = .ok (.dup2, 1) := by decide +kernel
theorem dX0_putFirstWord_60 : decode cX0_putFirstWord 60 = .ok (.iaload, 1) := by decide +kernel
theorem dX0_putFirstWord_61 : decode cX0_putFirstWord 61 = .ok (.iload_n 2, 1) := by decide +kernel
theorem dX0_putFirstWord_62 : decode cX0_putFirstWord 62 = .ok (.ixor, 1) := by decide +kernel
theorem dX0_putFirstWord_63 : decode cX0_putFirstWord 63 = .ok (.iastore, 1) := by decide +kernel
theorem dX0_putFirstWord_64 : decode cX0_putFirstWord 64 = .ok (.return_, 1) := by decide +kernel
theorem dX0_apply_0 : decode cX0_apply 0 = .ok (.aload_n 0, 1) := by decide +kernel
theorem dX0_apply_1 : decode cX0_apply 1 = .ok (.aload_n 1, 1) := by decide +kernel
theorem dX0_apply_2 : decode cX0_apply 2 = .ok (.iconst 0, 1) := by decide +kernel
theorem dX0_apply_3 : decode cX0_apply 3 = .ok (.invokevirtual 34, 3) := by decide +kernel
theorem dX0_apply_6 : decode cX0_apply 6 = .ok (.iconst 1, 1) := by decide +kernel
theorem dX0_apply_7 : decode cX0_apply 7 = .ok (.istore_n 2, 1) := by decide +kernel
theorem dX0_apply_8 : decode cX0_apply 8 = .ok (.iload_n 2, 1) := by decide +kernel
theorem dX0_apply_9 : decode cX0_apply 9 = .ok (.bipush 10, 2) := by decide +kernel
theorem dX0_apply_11 : decode cX0_apply 11 = .ok (.if_icmp .gt 30, 3) := by decide +kernel
theorem dX0_apply_14 : decode cX0_apply 14 = .ok (.aload_n 0, 1) := by decide +kernel
theorem dX0_apply_15 : decode cX0_apply 15 = .ok (.aload_n 1, 1) := by decide +kernel
theorem dX0_apply_16 : decode cX0_apply 16 = .ok (.invokevirtual 38, 3) := by decide +kernel
theorem dX0_apply_19 : decode cX0_apply 19 = .ok (.iload_n 2, 1) := by decide +kernel
theorem dX0_apply_20 : decode cX0_apply 20 = .ok (.bipush 10, 2) := by decide +kernel
theorem dX0_apply_22 : decode cX0_apply 22 = .ok (.if_icmp .ge 7, 3) := by decide +kernel
theorem dX0_apply_25 : decode cX0_apply 25 = .ok (.aload_n 1, 1) := by decide +kernel
theorem dX0_apply_26 : decode cX0_apply 26 = .ok (.invokestatic 42, 3) := by decide +kernel
theorem dX0_apply_29 : decode cX0_apply 29 = .ok (.aload_n 0, 1) := by decide +kernel
theorem dX0_apply_30 : decode cX0_apply 30 = .ok (.aload_n 1, 1) := by decide +kernel
theorem dX0_apply_31 : decode cX0_apply 31 = .ok (.iload_n 2, 1) := by decide +kernel
theorem dX0_apply_32 : decode cX0_apply 32 = .ok (.invokevirtual 34, 3) := by decide +kernel
theorem dX0_apply_35 : decode cX0_apply 35 = .ok (.iinc 2 1, 3) := by decide +kernel
theorem dX0_apply_38 : decode cX0_apply 38 = .ok (.goto (-30), 3) := by decide +kernel
theorem dX0_apply_41 : decode cX0_apply 41 = .ok (.return_, 1) := by decide +kernel
theorem dX0_addRoundKey_0 : decode cX0_addRoundKey 0 = .ok (.iconst 0, 1) := by decide +kernel
theorem dX0_addRoundKey_1 : decode cX0_addRoundKey 1 = .ok (.istore_n 3, 1) := by decide +kernel
theorem dX0_addRoundKey_2 : decode cX0_addRoundKey 2 = .ok (.iload_n 3, 1) := by decide +kernel
theorem dX0_addRoundKey_3 : decode cX0_addRoundKey 3 = .ok (.bipush 16, 2) := by decide +kernel
theorem dX0_addRoundKey_5 : decode cX0_addRoundKey 5 = .ok (.if_icmp .ge 26, 3) := by decide +kernel
theorem dX0_addRoundKey_8 : decode cX0_addRoundKey 8 = .ok (.aload_n 1, 1) := by decide +kernel
theorem dX0_addRoundKey_9 : decode cX0_addRoundKey 9 = .ok (.iload_n 3, 1) := by decide +kernel
theorem dX0_addRoundKey_10 : decode cX0_addRoundKey 10 = .ok (.dup2, 1) := by decide +kernel
theorem dX0_addRoundKey_11 : decode cX0_addRoundKey 11 = .ok (.iaload, 1) := by decide +kernel
theorem dX0_addRoundKey_12 : decode cX0_addRoundKey 12 = .ok (.aload_n 0, 1) := by decide +kernel
theorem dX0_addRoundKey_13 : decode cX0_addRoundKey 13 = .ok (.getfield 9, 3) := by decide +kernel
theorem dX0_addRoundKey_16 : decode cX0_addRoundKey 16 = .ok (.bipush 16, 2) := by decide +kernel
theorem dX0_addRoundKey_18 : decode cX0_addRoundKey 18 = .ok (.iload_n 2, 1) := by decide +kernel
theorem dX0_addRoundKey_19 : decode cX0_addRoundKey 19 = .ok (.imul, 1) := by decide +kernel
theorem dX0_addRoundKey_20 : decode cX0_addRoundKey 20 = .ok (.iload_n 3, 1) := by decide +kernel
theorem dX0_addRoundKey_21 : decode cX0_addRoundKey 21 = .ok (.iadd, 1) := by decide +kernel
theorem dX0_addRoundKey_22 : decode cX0_addRoundKey 22 = .ok (.iaload, 1) := by decide +kernel
theorem dX0_addRoundKey_23 : decode cX0_addRoundKey 23 = .ok (.ixor, 1) := by decide +kernel
theorem dX0_addRoundKey_24 : decode cX0_addRoundKey 24 = .ok (.iastore, 1) := by decide +kernel
theorem dX0_addRoundKey_25 : decode cX0_addRoundKey 25 = .ok (.iinc 3 1, 3) := by decide +kernel
theorem dX0_addRoundKey_28 : decode cX0_addRoundKey 28 = .ok (.goto (-26), 3) := by decide +kernel
theorem dX0_addRoundKey_31 : decode cX0_addRoundKey 31 = .ok (.return_, 1) := by decide +kernel
theorem dX0_substituteAndTurnRows_0 : decode cX0_substituteAndTurnRows 0 = .ok (.iconst 0, 1) := by decide +kernel
theorem dX0_substituteAndTurnRows_1 : decode cX0_substituteAndTurnRows 1 = .ok (.istore_n 2, 1) := by decide +kernel
theorem dX0_substituteAndTurnRows_2 : decode cX0_substituteAndTurnRows 2 = .ok (.iload_n 2, 1) := by decide +kernel
theorem dX0_substituteAndTurnRows_3 : decode cX0_substituteAndTurnRows 3 = .ok (.bipush 16, 2) := by decide +kernel
theorem dX0_substituteAndTurnRows_5 : decode cX0_substituteAndTurnRows 5 = .ok (.if_icmp .ge 32, 3) := by decide +kernel
theorem dX0_substituteAndTurnRows_8 : decode cX0_substituteAndTurnRows 8 = .ok (.iload_n 2, 1) := by decide +kernel
theorem dX0_substituteAndTurnRows_9 : decode cX0_substituteAndTurnRows 9 = .ok (.iconst 4, 1) := by decide +kernel
theorem dX0_substituteAndTurnRows_10 : decode cX0_substituteAndTurnRows 10 = .ok (.irem, 1) := by decide +kernel
theorem dX0_substituteAndTurnRows_11 : decode cX0_substituteAndTurnRows 11 = .ok (.istore_n 3, 1) := by decide +kernel
theorem dX0_substituteAndTurnRows_12 : decode cX0_substituteAndTurnRows 12 = .ok (.aload_n 0, 1) := by decide +kernel
theorem dX0_substituteAndTurnRows_13 : decode cX0_substituteAndTurnRows 13 = .ok (.getfield 15, 3) := by decide +kernel
theorem dX0_substituteAndTurnRows_16 : decode cX0_substituteAndTurnRows 16 = .ok (.iload_n 2, 1) := by decide +kernel
theorem dX0_substituteAndTurnRows_17 : decode cX0_substituteAndTurnRows 17 = .ok (.aload_n 1, 1) := by decide +kernel
theorem dX0_substituteAndTurnRows_18 : decode cX0_substituteAndTurnRows 18 = .ok (.iload_n 2, 1) := by decide +kernel
theorem dX0_substituteAndTurnRows_19 : decode cX0_substituteAndTurnRows 19 = .ok (.iconst 4, 1) := by decide +kernel
theorem dX0_substituteAndTurnRows_20 : decode cX0_substituteAndTurnRows 20 = .ok (.iload_n 3, 1) := by decide +kernel
theorem dX0_substituteAndTurnRows_21 : decode cX0_substituteAndTurnRows 21 = .ok (.imul, 1) := by decide +kernel
theorem dX0_substituteAndTurnRows_22 : decode cX0_substituteAndTurnRows 22 = .ok (.iadd, 1) := by decide +kernel
theorem dX0_substituteAndTurnRows_23 : decode cX0_substituteAndTurnRows 23 = .ok (.bipush 16, 2) := by decide +kernel
theorem dX0_substituteAndTurnRows_25 : decode cX0_substituteAndTurnRows 25 = .ok (.irem, 1) := by decide +kernel
theorem dX0_substituteAndTurnRows_26 : decode cX0_substituteAndTurnRows 26 = .ok (.iaload, 1) := by decide +kernel
theorem dX0_substituteAndTurnRows_27 : decode cX0_substituteAndTurnRows 27 = .ok (.invokestatic 31, 3) := by decide +kernel
theorem dX0_substituteAndTurnRows_30 : decode cX0_substituteAndTurnRows 30 = .ok (.iastore, 1) := by decide +kernel
theorem dX0_substituteAndTurnRows_31 : decode cX0_substituteAndTurnRows 31 = .ok (.iinc 2 1, 3) := by decide +kernel
theorem dX0_substituteAndTurnRows_34 : decode cX0_substituteAndTurnRows 34 = .ok (.goto (-32), 3) := by decide +kernel
theorem dX0_substituteAndTurnRows_37 : decode cX0_substituteAndTurnRows 37 = .ok (.iconst 0, 1) := by decide +kernel
theorem dX0_substituteAndTurnRows_38 : decode cX0_substituteAndTurnRows 38 = .ok (.istore_n 2, 1) := by decide +kernel
theorem dX0_substituteAndTurnRows_39 : decode cX0_substituteAndTurnRows 39 = .ok (.iload_n 2, 1) := by decide +kernel
theorem dX0_substituteAndTurnRows_40 : decode cX0_substituteAndTurnRows 40 = .ok (.bipush 16, 2) := by decide +kernel
theorem dX0_substituteAndTurnRows_42 : decode cX0_substituteAndTurnRows 42 = .ok (.if_icmp .ge 18, 3) := by decide +kernel
theorem dX0_substituteAndTurnRows_45 : decode cX0_substituteAndTurnRows 45 = .ok (.aload_n 1, 1) := by decide +kernel
theorem dX0_substituteAndTurnRows_46 : decode cX0_substituteAndTurnRows 46 = .ok (.iload_n 2, 1) := by decide +kernel
theorem dX0_substituteAndTurnRows_47 : decode cX0_substituteAndTurnRows 47 = .ok (.aload_n 0, 1) := by decide +kernel
theorem dX0_substituteAndTurnRows_48 : decode cX0_substituteAndTurnRows 48 = .ok (.getfield 15, 3) := by decide +kernel
theorem dX0_substituteAndTurnRows_51 : decode cX0_substituteAndTurnRows 51 = .ok (.iload_n 2, 1) := by decide +kernel
theorem dX0_substituteAndTurnRows_52 : decode cX0_substituteAndTurnRows 52 = .ok (.iaload, 1) := by decide +kernel
theorem dX0_substituteAndTurnRows_53 : decode cX0_substituteAndTurnRows 53 = .ok (.iastore, 1) := by decide +kernel
theorem dX0_substituteAndTurnRows_54 : decode cX0_substituteAndTurnRows 54 = .ok (.iinc 2 1, 3) := by decide +kernel
theorem dX0_substituteAndTurnRows_57 : decode cX0_substituteAndTurnRows 57 = .ok (.goto (-18), 3) := by decide +kernel
theorem dX0_substituteAndTurnRows_60 : decode cX0_substituteAndTurnRows 60 = .ok (.return_, 1) := by decide +kernel
theorem dX0_mixColumns_0 : decode cX0_mixColumns 0 = .ok (.iconst 0, 1) := by decide +kernel
theorem dX0_mixColumns_1 : decode cX0_mixColumns 1 = .ok (.istore_n 1, 1) := by decide +kernel
theorem dX0_mixColumns_2 : decode cX0_mixColumns 2 = .ok (.iload_n 1, 1) := by decide +kernel
theorem dX0_mixColumns_3 : decode cX0_mixColumns 3 = .ok (.bipush 16, 2) := by decide +kernel
theorem dX0_mixColumns_5 : decode cX0_mixColumns 5 = .ok (.if_icmp .ge 112, 3) := by decide +kernel
theorem dX0_mixColumns_8 : decode cX0_mixColumns 8 = .ok (.aload_n 0, 1) := by decide +kernel
theorem dX0_mixColumns_9 : decode cX0_mixColumns 9 = .ok (.iload_n 1, 1) := by decide +kernel
theorem dX0_mixColumns_10 : decode cX0_mixColumns 10 = .ok (.iaload, 1) := by decide +kernel
theorem dX0_mixColumns_11 : decode cX0_mixColumns 11 = .ok (.istore_n 2, 1) := by decide +kernel
theorem dX0_mixColumns_12 : decode cX0_mixColumns 12 = .ok (.aload_n 0, 1) := by decide +kernel
theorem dX0_mixColumns_13 : decode cX0_mixColumns 13 = .ok (.iload_n 1, 1) := by decide +kernel
theorem dX0_mixColumns_14 : decode cX0_mixColumns 14 = .ok (.iconst 1, 1) := by decide +kernel
theorem dX0_mixColumns_15 : decode cX0_mixColumns 15 = .ok (.iadd, 1) := by decide +kernel
theorem dX0_mixColumns_16 : decode cX0_mixColumns 16 = .ok (.iaload, 1) := by decide +kernel
theorem dX0_mixColumns_17 : decode cX0_mixColumns 17 = .ok (.istore_n 3, 1) := by decide +kernel
theorem dX0_mixColumns_18 : decode cX0_mixColumns 18 = .ok (.aload_n 0, 1) := by decide +kernel
theorem dX0_mixColumns_19 : decode cX0_mixColumns 19 = .ok (.iload_n 1, 1) := by decide +kernel
theorem dX0_mixColumns_20 : decode cX0_mixColumns 20 = .ok (.iconst 2, 1) := by decide +kernel
theorem dX0_mixColumns_21 : decode cX0_mixColumns 21 = .ok (.iadd, 1) := by decide +kernel
theorem dX0_mixColumns_22 : decode cX0_mixColumns 22 = .ok (.iaload, 1) := by decide +kernel
theorem dX0_mixColumns_23 : decode cX0_mixColumns 23 = .ok (.istore 4, 2) := by decide +kernel
theorem dX0_mixColumns_25 : decode cX0_mixColumns 25 = .ok (.aload_n 0, 1) := by decide +kernel
theorem dX0_mixColumns_26 : decode cX0_mixColumns 26 = .ok (.iload_n 1, 1) := by decide +kernel
theorem dX0_mixColumns_27 : decode cX0_mixColumns 27 = .ok (.iconst 3, 1) := by decide +kernel
theorem dX0_mixColumns_28 : decode cX0_mixColumns 28 = .ok (.iadd, 1) := by decide +kernel
theorem dX0_mixColumns_29 : decode cX0_mixColumns 29 = .ok (.iaload, 1) := by decide +kernel
theorem dX0_mixColumns_30 : decode cX0_mixColumns 30 = .ok (.istore 5, 2) := by decide +kernel
theorem dX0_mixColumns_32 : decode cX0_mixColumns 32 = .ok (.iload_n 2, 1) := by decide +kernel
theorem dX0_mixColumns_33 : decode cX0_mixColumns 33 = .ok (.iload_n 3, 1) := by decide +kernel
theorem dX0_mixColumns_34 : decode cX0_mixColumns 34 = .ok (.ixor, 1) := by decide +kernel
theorem dX0_mixColumns_35 : decode cX0_mixColumns 35 = .ok (.iload 4, 2) := by decide +kernel
theorem dX0_mixColumns_37 : decode cX0_mixColumns 37 = .ok (.ixor, 1) := by decide +kernel
theorem dX0_mixColumns_38 : decode cX0_mixColumns 38 = .ok (.iload 5, 2) := by decide +kernel
theorem dX0_mixColumns_40 : decode cX0_mixColumns 40 = .ok (.ixor, 1) := by decide +kernel
theorem dX0_mixColumns_41 : decode cX0_mixColumns 41 = .ok (.istore 6, 2) := by decide +kernel
theorem dX0_mixColumns_43 : decode cX0_mixColumns 43 = .ok (.aload_n 0, 1) := by decide +kernel
theorem dX0_mixColumns_44 : decode cX0_mixColumns 44 = .ok (.iload_n 1, 1) := by decide +kernel
theorem dX0_mixColumns_45 : decode cX0_mixColumns 45 = .ok (.iload_n 2, 1) := by decide +kernel
theorem dX0_mixColumns_46 : decode cX0_mixColumns 46 = .ok (.iload 6, 2) := by decide +kernel
theorem dX0_mixColumns_48 : decode cX0_mixColumns 48 = .ok (.ixor, 1) := by decide +kernel
theorem dX0_mixColumns_49 : decode cX0_mixColumns 49 = .ok (.iload_n 2, 1) := by decide +kernel
theorem dX0_mixColumns_50 : decode cX0_mixColumns 50 = .ok (.iload_n 3, 1) := by decide +kernel
theorem dX0_mixColumns_51 : decode cX0_mixColumns 51 = .ok (.ixor, 1) := by decide +kernel
theorem dX0_mixColumns_52 : decode cX0_mixColumns 52 = .ok (.invokestatic 27, 3) := by decide +kernel
theorem dX0_mixColumns_55 : decode cX0_mixColumns 55 = .ok (.ixor, 1) := by decide +kernel
theorem dX0_mixColumns_56 : decode cX0_mixColumns 56 = .ok (.iastore, 1) := by decide +kernel
theorem dX0_mixColumns_57 : decode cX0_mixColumns 57 = .ok (.aload_n 0, 1) := by decide +kernel
theorem dX0_mixColumns_58 : decode cX0_mixColumns 58 = .ok (.iload_n 1, 1) := by decide +kernel
theorem dX0_mixColumns_59 : decode cX0_mixColumns 59 = .ok (.iconst 1, 1) := by decide +kernel
theorem dX0_mixColumns_60 : decode cX0_mixColumns 60 = .ok (.iadd, 1) := by decide +kernel
theorem dX0_mixColumns_61 : decode cX0_mixColumns 61 = .ok (.iload_n 3, 1) := by decide +kernel
theorem dX0_mixColumns_62 : decode cX0_mixColumns 62 = .ok (.iload 6, 2) := by decide +kernel
theorem dX0_mixColumns_64 : decode cX0_mixColumns 64 = .ok (.ixor, 1) := by decide +kernel
theorem dX0_mixColumns_65 : decode cX0_mixColumns 65 = .ok (.iload_n 3, 1) := by decide +kernel
theorem dX0_mixColumns_66 : decode cX0_mixColumns 66 = .ok (.iload 4, 2) := by decide +kernel
theorem dX0_mixColumns_68 : decode cX0_mixColumns 68 = .ok (.ixor, 1) := by decide +kernel
theorem dX0_mixColumns_69 : decode cX0_mixColumns 69 = .ok (.invokestatic 27, 3) := by decide +kernel
theorem dX0_mixColumns_72 : decode cX0_mixColumns 72 = .ok (.ixor, 1) := by decide +kernel
theorem dX0_mixColumns_73 : decode cX0_mixColumns 73 = .ok (.iastore, 1) := by decide +kernel
theorem dX0_mixColumns_74 : decode cX0_mixColumns 74 = .ok (.aload_n 0, 1) := by decide +kernel
theorem dX0_mixColumns_75 : decode cX0_mixColumns 75 = .ok (.iload_n 1, 1) := by decide +kernel
theorem dX0_mixColumns_76 : decode cX0_mixColumns 76 = .ok (.iconst 2, 1) := by decide +kernel
theorem dX0_mixColumns_77 : decode cX0_mixColumns 77 = .ok (.iadd, 1) := by decide +kernel
theorem dX0_mixColumns_78 : decode cX0_mixColumns 78 = .ok (.iload 4, 2) := by decide +kernel
theorem dX0_mixColumns_80 : decode cX0_mixColumns 80 = .ok (.iload 6, 2) := by decide +kernel
theorem dX0_mixColumns_82 : decode cX0_mixColumns 82 = .ok (.ixor, 1) := by decide +kernel
theorem dX0_mixColumns_83 : decode cX0_mixColumns 83 = .ok (.iload 4, 2) := by decide +kernel
theorem dX0_mixColumns_85 : decode cX0_mixColumns 85 = .ok (.iload 5, 2) := by decide +kernel
theorem dX0_mixColumns_87 : decode cX0_mixColumns 87 = .ok (.ixor, 1) := by decide +kernel
theorem dX0_mixColumns_88 : decode cX0_mixColumns 88 = .ok (.invokestatic 27, 3) := by decide +kernel
theorem dX0_mixColumns_91 : decode cX0_mixColumns 91 = .ok (.ixor, 1) := by decide +kernel
theorem dX0_mixColumns_92 : decode cX0_mixColumns 92 = .ok (.iastore, 1) := by decide +kernel
theorem dX0_mixColumns_93 : decode cX0_mixColumns 93 = .ok (.aload_n 0, 1) := by decide +kernel
theorem dX0_mixColumns_94 : decode cX0_mixColumns 94 = .ok (.iload_n 1, 1) := by decide +kernel
theorem dX0_mixColumns_95 : decode cX0_mixColumns 95 = .ok (.iconst 3, 1) := by decide +kernel
theorem dX0_mixColumns_96 : decode cX0_mixColumns 96 = .ok (.iadd, 1) := by decide +kernel
theorem dX0_mixColumns_97 : decode cX0_mixColumns 97 = .ok (.iload 5, 2) := by decide +kernel
theorem dX0_mixColumns_99 : decode cX0_mixColumns 99 = .ok (.iload 6, 2) := by decide +kernel
theorem dX0_mixColumns_101 : decode cX0_mixColumns 101 = .ok (.ixor, 1) := by decide +kernel
theorem dX0_mixColumns_102 : decode cX0_mixColumns 102 = .ok (.iload 5, 2) := by decide +kernel
theorem dX0_mixColumns_104 : decode cX0_mixColumns 104 = .ok (.iload_n 2, 1) := by decide +kernel
theorem dX0_mixColumns_105 : decode cX0_mixColumns 105 = .ok (.ixor, 1) := by decide +kernel
theorem dX0_mixColumns_106 : decode cX0_mixColumns 106 = .ok (.invokestatic 27, 3) := by decide +kernel
theorem dX0_mixColumns_109 : decode cX0_mixColumns 109 = .ok (.ixor, 1) := by decide +kernel
theorem dX0_mixColumns_110 : decode cX0_mixColumns 110 = .ok (.iastore, 1) := by decide +kernel
theorem dX0_mixColumns_111 : decode cX0_mixColumns 111 = .ok (.iinc 1 4, 3) := by decide +kernel
theorem dX0_mixColumns_114 : decode cX0_mixColumns 114 = .ok (.goto (-112), 3) := by decide +kernel
theorem dX0_mixColumns_117 : decode cX0_mixColumns 117 = .ok (.return_, 1) := by decide +kernel
theorem dX1_init_0 : decode cX1_init 0 = .ok (.aload_n 0, 1) := by decide +kernel
theorem dX1_init_1 : decode cX1_init 1 = .ok (.invokespecial 3, 3) := by decide +kernel
theorem dX1_init_4 : decode cX1_init 4 = .ok (.aload_n 0, 1) := by decide +kernel
theorem dX1_init_5 : decode cX1_init 5 = .ok (.bipush 16, 2) := by decide +kernel
theorem dX1_init_7 : decode cX1_init 7 = .ok (.newarray .int, 2) := by decide +kernel
theorem dX1_init_9 : decode cX1_init 9 = .ok (.putfield 9, 3) := by decide +kernel
theorem dX1_init_12 : decode cX1_init 12 = .ok (.aload_n 0, 1) := by decide +kernel
theorem dX1_init_13 : decode cX1_init 13 = .ok (.bipush 16, 2) := by decide +kernel
theorem dX1_init_15 : decode cX1_init 15 = .ok (.newarray .int, 2) := by decide +kernel
theorem dX1_init_17 : decode cX1_init 17 = .ok (.putfield 15, 3) := by decide +kernel
theorem dX1_init_20 : decode cX1_init 20 = .ok (.aload_n 0, 1) := by decide +kernel
theorem dX1_init_21 : decode cX1_init 21 = .ok (.aload_n 1, 1) := by decide +kernel
theorem dX1_init_22 : decode cX1_init 22 = .ok (.putfield 18, 3) := by decide +kernel
theorem dX1_init_25 : decode cX1_init 25 = .ok (.return_, 1) := by decide +kernel
theorem dX1_begin_0 : decode cX1_begin 0 = .ok (.aload_n 0, 1) := by decide +kernel
theorem dX1_begin_1 : decode cX1_begin 1 = .ok (.getfield 18, 3) := by decide +kernel
theorem dX1_begin_4 : decode cX1_begin 4 = .ok (.aload_n 1, 1) := by decide +kernel
theorem dX1_begin_5 : decode cX1_begin 5 = .ok (.invokevirtual 22, 3) := by decide +kernel
theorem dX1_begin_8 : decode cX1_begin 8 = .ok (.aload_n 0, 1) := by decide +kernel
theorem dX1_begin_9 : decode cX1_begin 9 = .ok (.getfield 15, 3) := by decide +kernel
theorem dX1_begin_12 : decode cX1_begin 12 = .ok (.iconst 0, 1) := by decide +kernel
theorem dX1_begin_13 : decode cX1_begin 13 = .ok (.invokestatic 28, 3) := by decide +kernel
theorem dX1_begin_16 : decode cX1_begin 16 = .ok (.aload_n 0, 1) := by decide +kernel
theorem dX1_begin_17 : decode cX1_begin 17 = .ok (.iconst 0, 1) := by decide +kernel
theorem dX1_begin_18 : decode cX1_begin 18 = .ok (.putfield 34, 3) := by decide +kernel
theorem dX1_begin_21 : decode cX1_begin 21 = .ok (.return_, 1) := by decide +kernel
theorem dX1_addOctets_0 : decode cX1_addOctets 0 = .ok (.iconst 0, 1) := by decide +kernel
theorem dX1_addOctets_1 : decode cX1_addOctets 1 = .ok (.istore_n 3, 1) := by decide +kernel
theorem dX1_addOctets_2 : decode cX1_addOctets 2 = .ok (.iload_n 3, 1) := by decide +kernel
theorem dX1_addOctets_3 : decode cX1_addOctets 3 = .ok (.iload_n 2, 1) := by decide +kernel
theorem dX1_addOctets_4 : decode cX1_addOctets 4 = .ok (.if_icmp .ge 22, 3) := by decide +kernel
theorem dX1_addOctets_7 : decode cX1_addOctets 7 = .ok (.iload_n 3, 1) := by decide +kernel
theorem dX1_addOctets_8 : decode cX1_addOctets 8 = .ok (.aload_n 1, 1) := by decide +kernel
theorem dX1_addOctets_9 : decode cX1_addOctets 9 = .ok (.arraylength, 1) := by decide +kernel
theorem dX1_addOctets_10 : decode cX1_addOctets 10 = .ok (.if_icmp .ge 16, 3) := by decide +kernel
theorem dX1_addOctets_13 : decode cX1_addOctets 13 = .ok (.aload_n 0, 1) := by decide +kernel
theorem dX1_addOctets_14 : decode cX1_addOctets 14 = .ok (.aload_n 1, 1) := by decide +kernel
theorem dX1_addOctets_15 : decode cX1_addOctets 15 = .ok (.iload_n 3, 1) := by decide +kernel
theorem dX1_addOctets_16 : decode cX1_addOctets 16 = .ok (.iaload, 1) := by decide +kernel
theorem dX1_addOctets_17 : decode cX1_addOctets 17 = .ok (.invokevirtual 38, 3) := by decide +kernel
theorem dX1_addOctets_20 : decode cX1_addOctets 20 = .ok (.iinc 3 1, 3) := by decide +kernel
theorem dX1_addOctets_23 : decode cX1_addOctets 23 = .ok (.goto (-21), 3) := by decide +kernel
theorem dX1_addOctets_26 : decode cX1_addOctets 26 = .ok (.return_, 1) := by decide +kernel
theorem dX1_addNumber_0 : decode cX1_addNumber 0 = .ok (.iload_n 3, 1) := by decide +kernel
theorem dX1_addNumber_1 : decode cX1_addNumber 1 = .ok (.iconst 1, 1) := by decide +kernel
theorem dX1_addNumber_2 : decode cX1_addNumber 2 = .ok (.isub, 1) := by decide +kernel
theorem dX1_addNumber_3 : decode cX1_addNumber 3 = .ok (.istore 4, 2) := by decide +kernel
theorem dX1_addNumber_5 : decode cX1_addNumber 5 = .ok (.iload 4, 2) := by decide +kernel
theorem dX1_addNumber_7 : decode cX1_addNumber 7 = .ok (.ifCond .lt 25, 3) := by decide +kernel
theorem dX1_addNumber_10 : decode cX1_addNumber 10 = .ok (.aload_n 0, 1) := by decide +kernel
theorem dX1_addNumber_11 : decode cX1_addNumber 11 = .ok (.lload_n 1, 1) := by decide +kernel
theorem dX1_addNumber_12 : decode cX1_addNumber 12 = .ok (.bipush 8, 2) := by decide +kernel
theorem dX1_addNumber_14 : decode cX1_addNumber 14 = .ok (.iload 4, 2) := by decide +kernel
theorem dX1_addNumber_16 : decode cX1_addNumber 16 = .ok (.imul, 1) := by decide +kernel
theorem dX1_addNumber_17 : decode cX1_addNumber 17 = .ok (.lshr, 1) := by decide +kernel
theorem dX1_addNumber_18 : decode cX1_addNumber 18 = .ok (.ldc2_w 42, 3) := by decide +kernel
theorem dX1_addNumber_21 : decode cX1_addNumber 21 = .ok (.land, 1) := by decide +kernel
theorem dX1_addNumber_22 : decode cX1_addNumber 22 = .ok (.l2i, 1) := by decide +kernel
theorem dX1_addNumber_23 : decode cX1_addNumber 23 = .ok (.invokevirtual 38, 3) := by decide +kernel
theorem dX1_addNumber_26 : decode cX1_addNumber 26 = .ok (.iinc 4 (-1), 3) := by decide +kernel
theorem dX1_addNumber_29 : decode cX1_addNumber 29 = .ok (.goto (-24), 3) := by decide +kernel
theorem dX1_addNumber_32 : decode cX1_addNumber 32 = .ok (.return_, 1) := by decide +kernel
theorem dX1_add_0 : decode cX1_add 0 = .ok (.aload_n 0, 1) := by decide +kernel
theorem dX1_add_1 : decode cX1_add 1 = .ok (.getfield 34, 3) := by decide +kernel
theorem dX1_add_4 : decode cX1_add 4 = .ok (.bipush 16, 2) := by decide +kernel
theorem dX1_add_6 : decode cX1_add 6 = .ok (.if_icmp .lt 19, 3) := by decide +kernel
theorem dX1_add_9 : decode cX1_add 9 = .ok (.aload_n 0, 1) := by decide +kernel
theorem dX1_add_10 : decode cX1_add 10 = .ok (.getfield 18, 3) := by decide +kernel
theorem dX1_add_13 : decode cX1_add 13 = .ok (.aload_n 0, 1) := by decide +kernel
theorem dX1_add_14 : decode cX1_add 14 = .ok (.getfield 15, 3) := by decide +kernel
theorem dX1_add_17 : decode cX1_add 17 = .ok (.invokevirtual 44, 3) := by decide +kernel
theorem dX1_add_20 : decode cX1_add 20 = .ok (.aload_n 0, 1) := by decide +kernel
theorem dX1_add_21 : decode cX1_add 21 = .ok (.iconst 0, 1) := by decide +kernel
theorem dX1_add_22 : decode cX1_add 22 = .ok (.putfield 34, 3) := by decide +kernel
theorem dX1_add_25 : decode cX1_add 25 = .ok (.aload_n 0, 1) := by decide +kernel
theorem dX1_add_26 : decode cX1_add 26 = .ok (.getfield 15, 3) := by decide +kernel
theorem dX1_add_29 : decode cX1_add 29 = .ok (.aload_n 0, 1) := by decide +kernel
theorem dX1_add_30 : decode cX1_add 30 = .ok (.getfield 34, 3) := by decide +kernel
theorem dX1_add_33 : decode cX1_add 33 = .ok (.dup2, 1) := by decide +kernel
theorem dX1_add_34 : decode cX1_add 34 = .ok (.iaload, 1) := by decide +kernel
theorem dX1_add_35 : decode cX1_add 35 = .ok (.iload_n 1, 1) := by decide +kernel
theorem dX1_add_36 : decode cX1_add 36 = .ok (.ixor, 1) := by decide +kernel
theorem dX1_add_37 : decode cX1_add 37 = .ok (.iastore, 1) := by decide +kernel
theorem dX1_add_38 : decode cX1_add 38 = .ok (.aload_n 0, 1) := by decide +kernel
theorem dX1_add_39 : decode cX1_add 39 = .ok (.dup, 1) := by decide +kernel
theorem dX1_add_40 : decode cX1_add 40 = .ok (.getfield 34, 3) := by decide +kernel
theorem dX1_add_43 : decode cX1_add 43 = .ok (.iconst 1, 1) := by decide +kernel
theorem dX1_add_44 : decode cX1_add 44 = .ok (.iadd, 1) := by decide +kernel
theorem dX1_add_45 : decode cX1_add 45 = .ok (.putfield 34, 3) := by decide +kernel
theorem dX1_add_48 : decode cX1_add 48 = .ok (.return_, 1) := by decide +kernel
theorem dX1_finish_0 : decode cX1_finish 0 = .ok (.aload_n 0, 1) := by decide +kernel
theorem dX1_finish_1 : decode cX1_finish 1 = .ok (.getfield 9, 3) := by decide +kernel
theorem dX1_finish_4 : decode cX1_finish 4 = .ok (.iconst 0, 1) := by decide +kernel
theorem dX1_finish_5 : decode cX1_finish 5 = .ok (.invokestatic 28, 3) := by decide +kernel
theorem dX1_finish_8 : decode cX1_finish 8 = .ok (.aload_n 0, 1) := by decide +kernel
theorem dX1_finish_9 : decode cX1_finish 9 = .ok (.getfield 18, 3) := by decide +kernel
theorem dX1_finish_12 : decode cX1_finish 12 = .ok (.aload_n 0, 1) := by decide +kernel
theorem dX1_finish_13 : decode cX1_finish 13 = .ok (.getfield 9, 3) := by decide +kernel
theorem dX1_finish_16 : decode cX1_finish 16 = .ok (.invokevirtual 44, 3) := by decide +kernel
theorem dX1_finish_19 : decode cX1_finish 19 = .ok (.aload_n 0, 1) := by decide +kernel
theorem dX1_finish_20 : decode cX1_finish 20 = .ok (.invokevirtual 48, 3) := by decide +kernel
theorem dX1_finish_23 : decode cX1_finish 23 = .ok (.aload_n 0, 1) := by decide +kernel
theorem dX1_finish_24 : decode cX1_finish 24 = .ok (.getfield 34, 3) := by decide +kernel
theorem dX1_finish_27 : decode cX1_finish 27 = .ok (.bipush 16, 2) := by decide +kernel
theorem dX1_finish_29 : decode cX1_finish 29 = .ok (.if_icmp .ge 22, 3) := by decide +kernel
theorem dX1_finish_32 : decode cX1_finish 32 = .ok (.aload_n 0, 1) := by decide +kernel
theorem dX1_finish_33 : decode cX1_finish 33 = .ok (.getfield 15, 3) := by decide +kernel
theorem dX1_finish_36 : decode cX1_finish 36 = .ok (.aload_n 0, 1) := by decide +kernel
theorem dX1_finish_37 : decode cX1_finish 37 = .ok (.getfield 34, 3) := by decide +kernel
theorem dX1_finish_40 : decode cX1_finish 40 = .ok (.dup2, 1) := by decide +kernel
theorem dX1_finish_41 : decode cX1_finish 41 = .ok (.iaload, 1) := by decide +kernel
theorem dX1_finish_42 : decode cX1_finish 42 = .ok (.sipush 128, 3) := by decide +kernel
theorem dX1_finish_45 : decode cX1_finish 45 = .ok (.ixor, 1) := by decide +kernel
theorem dX1_finish_46 : decode cX1_finish 46 = .ok (.iastore, 1) := by decide +kernel
theorem dX1_finish_47 : decode cX1_finish 47 = .ok (.aload_n 0, 1) := by decide +kernel
theorem dX1_finish_48 : decode cX1_finish 48 = .ok (.invokevirtual 48, 3) := by decide +kernel
theorem dX1_finish_51 : decode cX1_finish 51 = .ok (.iconst 0, 1) := by decide +kernel
theorem dX1_finish_52 : decode cX1_finish 52 = .ok (.istore_n 1, 1) := by decide +kernel
theorem dX1_finish_53 : decode cX1_finish 53 = .ok (.iload_n 1, 1) := by decide +kernel
theorem dX1_finish_54 : decode cX1_finish 54 = .ok (.bipush 16, 2) := by decide +kernel
theorem dX1_finish_56 : decode cX1_finish 56 = .ok (.if_icmp .ge 24, 3) := by decide +kernel
theorem dX1_finish_59 : decode cX1_finish 59 = .ok (.aload_n 0, 1) := by decide +kernel
theorem dX1_finish_60 : decode cX1_finish 60 = .ok (.getfield 15, 3) := by decide +kernel
theorem dX1_finish_63 : decode cX1_finish 63 = .ok (.iload_n 1, 1) := by decide +kernel
theorem dX1_finish_64 : decode cX1_finish 64 = .ok (.dup2, 1) := by decide +kernel
theorem dX1_finish_65 : decode cX1_finish 65 = .ok (.iaload, 1) := by decide +kernel
theorem dX1_finish_66 : decode cX1_finish 66 = .ok (.aload_n 0, 1) := by decide +kernel
theorem dX1_finish_67 : decode cX1_finish 67 = .ok (.getfield 9, 3) := by decide +kernel
theorem dX1_finish_70 : decode cX1_finish 70 = .ok (.iload_n 1, 1) := by decide +kernel
theorem dX1_finish_71 : decode cX1_finish 71 = .ok (.iaload, 1) := by decide +kernel
theorem dX1_finish_72 : decode cX1_finish 72 = .ok (.ixor, 1) := by decide +kernel
theorem dX1_finish_73 : decode cX1_finish 73 = .ok (.iastore, 1) := by decide +kernel
theorem dX1_finish_74 : decode cX1_finish 74 = .ok (.iinc 1 1, 3) := by decide +kernel
theorem dX1_finish_77 : decode cX1_finish 77 = .ok (.goto (-24), 3) := by decide +kernel
theorem dX1_finish_80 : decode cX1_finish 80 = .ok (.aload_n 0, 1) := by decide +kernel
theorem dX1_finish_81 : decode cX1_finish 81 = .ok (.getfield 18, 3) := by decide +kernel
theorem dX1_finish_84 : decode cX1_finish 84 = .ok (.aload_n 0, 1) := by decide +kernel
theorem dX1_finish_85 : decode cX1_finish 85 = .ok (.getfield 15, 3) := by decide +kernel
theorem dX1_finish_88 : decode cX1_finish 88 = .ok (.invokevirtual 44, 3) := by decide +kernel
theorem dX1_finish_91 : decode cX1_finish 91 = .ok (.return_, 1) := by decide +kernel
theorem dX1_doubleSubkey_0 : decode cX1_doubleSubkey 0 = .ok (.aload_n 0, 1) := by decide +kernel
theorem dX1_doubleSubkey_1 : decode cX1_doubleSubkey 1 = .ok (.getfield 9, 3) := by decide +kernel
theorem dX1_doubleSubkey_4 : decode cX1_doubleSubkey 4 = .ok (.iconst 0, 1) := by decide +kernel
theorem dX1_doubleSubkey_5 : decode cX1_doubleSubkey 5 = .ok (.iaload, 1) := by decide +kernel
theorem dX1_doubleSubkey_6 : decode cX1_doubleSubkey 6 = .ok (.sipush 128, 3) := by decide +kernel
theorem dX1_doubleSubkey_9 : decode cX1_doubleSubkey 9 = .ok (.iand, 1) := by decide +kernel
theorem dX1_doubleSubkey_10 : decode cX1_doubleSubkey 10 = .ok (.ifCond .eq 9, 3) := by decide +kernel
theorem dX1_doubleSubkey_13 : decode cX1_doubleSubkey 13 = .ok (.sipush 135, 3) := by decide +kernel
theorem dX1_doubleSubkey_16 : decode cX1_doubleSubkey 16 = .ok (.goto 4, 3) := by decide +kernel
theorem dX1_doubleSubkey_19 : decode cX1_doubleSubkey 19 = .ok (.iconst 0, 1) := by decide +kernel
theorem dX1_doubleSubkey_20 : decode cX1_doubleSubkey 20 = .ok (.istore_n 1, 1) := by decide +kernel
theorem dX1_doubleSubkey_21 : decode cX1_doubleSubkey 21 = .ok (.iconst 0, 1) := by decide +kernel
theorem dX1_doubleSubkey_22 : decode cX1_doubleSubkey 22 = .ok (.istore_n 2, 1) := by decide +kernel
theorem dX1_doubleSubkey_23 : decode cX1_doubleSubkey 23 = .ok (.iload_n 2, 1) := by decide +kernel
theorem dX1_doubleSubkey_24 : decode cX1_doubleSubkey 24 = .ok (.bipush 15, 2) := by decide +kernel
theorem dX1_doubleSubkey_26 : decode cX1_doubleSubkey 26 = .ok (.if_icmp .ge 39, 3) := by decide +kernel
theorem dX1_doubleSubkey_29 : decode cX1_doubleSubkey 29 = .ok (.aload_n 0, 1) := by decide +kernel
theorem dX1_doubleSubkey_30 : decode cX1_doubleSubkey 30 = .ok (.getfield 9, 3) := by decide +kernel
theorem dX1_doubleSubkey_33 : decode cX1_doubleSubkey 33 = .ok (.iload_n 2, 1) := by decide +kernel
theorem dX1_doubleSubkey_34 : decode cX1_doubleSubkey 34 = .ok (.aload_n 0, 1) := by decide +kernel
theorem dX1_doubleSubkey_35 : decode cX1_doubleSubkey 35 = .ok (.getfield 9, 3) := by decide +kernel
theorem dX1_doubleSubkey_38 : decode cX1_doubleSubkey 38 = .ok (.iload_n 2, 1) := by decide +kernel
theorem dX1_doubleSubkey_39 : decode cX1_doubleSubkey 39 = .ok (.iaload, 1) := by decide +kernel
theorem dX1_doubleSubkey_40 : decode cX1_doubleSubkey 40 = .ok (.iconst 1, 1) := by decide +kernel
theorem dX1_doubleSubkey_41 : decode cX1_doubleSubkey 41 = .ok (.ishl, 1) := by decide +kernel
theorem dX1_doubleSubkey_42 : decode cX1_doubleSubkey 42 = .ok (.aload_n 0, 1) := by decide +kernel
theorem dX1_doubleSubkey_43 : decode cX1_doubleSubkey 43 = .ok (.getfield 9, 3) := by decide +kernel
theorem dX1_doubleSubkey_46 : decode cX1_doubleSubkey 46 = .ok (.iload_n 2, 1) := by decide +kernel
theorem dX1_doubleSubkey_47 : decode cX1_doubleSubkey 47 = .ok (.iconst 1, 1) := by decide +kernel
theorem dX1_doubleSubkey_48 : decode cX1_doubleSubkey 48 = .ok (.iadd, 1) := by decide +kernel
theorem dX1_doubleSubkey_49 : decode cX1_doubleSubkey 49 = .ok (.iaload, 1) := by decide +kernel
theorem dX1_doubleSubkey_50 : decode cX1_doubleSubkey 50 = .ok (.bipush 7, 2) := by decide +kernel
theorem dX1_doubleSubkey_52 : decode cX1_doubleSubkey 52 = .ok (.ishr, 1) := by decide +kernel
theorem dX1_doubleSubkey_53 : decode cX1_doubleSubkey 53 = .ok (.ior, 1) := by decide +kernel
theorem dX1_doubleSubkey_54 : decode cX1_doubleSubkey 54 = .ok (.sipush 255, 3) := by decide +kernel
theorem dX1_doubleSubkey_57 : decode cX1_doubleSubkey 57 = .ok (.iand, 1) := by decide +kernel
theorem dX1_doubleSubkey_58 : decode cX1_doubleSubkey 58 = .ok (.iastore, 1) := by decide +kernel
theorem dX1_doubleSubkey_59 : decode cX1_doubleSubkey 59 = .ok (.iinc 2 1, 3) := by decide +kernel
theorem dX1_doubleSubkey_62 : decode cX1_doubleSubkey 62 = .ok (.goto (-39), 3) := by decide +kernel
theorem dX1_doubleSubkey_65 : decode cX1_doubleSubkey 65 = .ok (.aload_n 0, 1) := by decide +kernel
theorem dX1_doubleSubkey_66 : decode cX1_doubleSubkey 66 = .ok (.getfield 9, 3) := by decide +kernel
theorem dX1_doubleSubkey_69 : decode cX1_doubleSubkey 69 = .ok (.bipush 15, 2) := by decide +kernel
theorem dX1_doubleSubkey_71 : decode cX1_doubleSubkey 71 = .ok (.aload_n 0, 1) := by decide +kernel
theorem dX1_doubleSubkey_72 : decode cX1_doubleSubkey 72 = .ok (.getfield 9, 3) := by decide +kernel
theorem dX1_doubleSubkey_75 : decode cX1_doubleSubkey 75 = .ok (.bipush 15, 2) := by decide +kernel
theorem dX1_doubleSubkey_77 : decode cX1_doubleSubkey 77 = .ok (.iaload, 1) := by decide +kernel
theorem dX1_doubleSubkey_78 : decode cX1_doubleSubkey 78 = .ok (.iconst 1, 1) := by decide +kernel
theorem dX1_doubleSubkey_79 : decode cX1_doubleSubkey 79 = .ok (.ishl, 1) := by decide +kernel
theorem dX1_doubleSubkey_80 : decode cX1_doubleSubkey 80 = .ok (.sipush 255, 3) := by decide +kernel
theorem dX1_doubleSubkey_83 : decode cX1_doubleSubkey 83 = .ok (.iand, 1) := by decide +kernel
theorem dX1_doubleSubkey_84 : decode cX1_doubleSubkey 84 = .ok (.iload_n 1, 1) := by decide +kernel
theorem dX1_doubleSubkey_85 : decode cX1_doubleSubkey 85 = .ok (.ixor, 1) := by decide +kernel
theorem dX1_doubleSubkey_86 : decode cX1_doubleSubkey 86 = .ok (.iastore, 1) := by decide +kernel
theorem dX1_doubleSubkey_87 : decode cX1_doubleSubkey 87 = .ok (.return_, 1) := by decide +kernel
theorem dX1_beginsLike_0 : decode cX1_beginsLike 0 = .ok (.iload_n 2, 1) := by decide +kernel
theorem dX1_beginsLike_1 : decode cX1_beginsLike 1 = .ok (.ifCond .lt 12, 3) := by decide +kernel
theorem dX1_beginsLike_4 : decode cX1_beginsLike 4 = .ok (.iload_n 2, 1) := by decide +kernel
theorem dX1_beginsLike_5 : decode cX1_beginsLike 5 = .ok (.aload_n 1, 1) := by decide +kernel
theorem dX1_beginsLike_6 : decode cX1_beginsLike 6 = .ok (.arraylength, 1) := by decide +kernel
theorem dX1_beginsLike_7 : decode cX1_beginsLike 7 = .ok (.bipush 8, 2) := by decide +kernel
theorem dX1_beginsLike_9 : decode cX1_beginsLike 9 = .ok (.isub, 1) := by decide +kernel
theorem dX1_beginsLike_10 : decode cX1_beginsLike 10 = .ok (.if_icmp .le 5, 3) := by decide +kernel
theorem dX1_beginsLike_13 : decode cX1_beginsLike 13 = .ok (.iconst 0, 1) := by decide +kernel
theorem dX1_beginsLike_14 : decode cX1_beginsLike 14 = .ok (.ireturn, 1) := by decide +kernel
theorem dX1_beginsLike_15 : decode cX1_beginsLike 15 = .ok (.iconst 0, 1) := by decide +kernel
theorem dX1_beginsLike_16 : decode cX1_beginsLike 16 = .ok (.istore_n 3, 1) := by decide +kernel
theorem dX1_beginsLike_17 : decode cX1_beginsLike 17 = .ok (.iload_n 3, 1) := by decide +kernel
theorem dX1_beginsLike_18 : decode cX1_beginsLike 18 = .ok (.bipush 8, 2) := by decide +kernel
theorem dX1_beginsLike_20 : decode cX1_beginsLike 20 = .ok (.if_icmp .ge 25, 3) := by decide +kernel
theorem dX1_beginsLike_23 : decode cX1_beginsLike 23 = .ok (.aload_n 0, 1) := by decide +kernel
theorem dX1_beginsLike_24 : decode cX1_beginsLike 24 = .ok (.getfield 15, 3) := by decide +kernel
theorem dX1_beginsLike_27 : decode cX1_beginsLike 27 = .ok (.iload_n 3, 1) := by decide +kernel
theorem dX1_beginsLike_28 : decode cX1_beginsLike 28 = .ok (.iaload, 1) := by decide +kernel
theorem dX1_beginsLike_29 : decode cX1_beginsLike 29 = .ok (.aload_n 1, 1) := by decide +kernel
theorem dX1_beginsLike_30 : decode cX1_beginsLike 30 = .ok (.iload_n 2, 1) := by decide +kernel
theorem dX1_beginsLike_31 : decode cX1_beginsLike 31 = .ok (.iload_n 3, 1) := by decide +kernel
theorem dX1_beginsLike_32 : decode cX1_beginsLike 32 = .ok (.iadd, 1) := by decide +kernel
theorem dX1_beginsLike_33 : decode cX1_beginsLike 33 = .ok (.iaload, 1) := by decide +kernel
theorem dX1_beginsLike_34 : decode cX1_beginsLike 34 = .ok (.if_icmp .eq 5, 3) := by decide +kernel
theorem dX1_beginsLike_37 : decode cX1_beginsLike 37 = .ok (.iconst 0, 1) := by decide +kernel
theorem dX1_beginsLike_38 : decode cX1_beginsLike 38 = .ok (.ireturn, 1) := by decide +kernel
theorem dX1_beginsLike_39 : decode cX1_beginsLike 39 = .ok (.iinc 3 1, 3) := by decide +kernel
theorem dX1_beginsLike_42 : decode cX1_beginsLike 42 = .ok (.goto (-25), 3) := by decide +kernel
theorem dX1_beginsLike_45 : decode cX1_beginsLike 45 = .ok (.iconst 1, 1) := by decide +kernel
theorem dX1_beginsLike_46 : decode cX1_beginsLike 46 = .ok (.ireturn, 1) := by decide +kernel
theorem dX2_init_0 : decode cX2_init 0 = .ok (.aload_n 0, 1) := by decide +kernel
theorem dX2_init_1 : decode cX2_init 1 = .ok (.invokespecial 3, 3) := by decide +kernel
theorem dX2_init_4 : decode cX2_init 4 = .ok (.aload_n 0, 1) := by decide +kernel
theorem dX2_init_5 : decode cX2_init 5 = .ok (.bipush 16, 2) := by decide +kernel
theorem dX2_init_7 : decode cX2_init 7 = .ok (.newarray .int, 2) := by decide +kernel
theorem dX2_init_9 : decode cX2_init 9 = .ok (.putfield 9, 3) := by decide +kernel
theorem dX2_init_12 : decode cX2_init 12 = .ok (.return_, 1) := by decide +kernel
theorem dX2_putNext_0 : decode cX2_putNext 0 = .ok (.aload_n 0, 1) := by decide +kernel
theorem dX2_putNext_1 : decode cX2_putNext 1 = .ok (.getfield 15, 3) := by decide +kernel
theorem dX2_putNext_4 : decode cX2_putNext 4 = .ok (.ifCond .lt 12, 3) := by decide +kernel
theorem dX2_putNext_7 : decode cX2_putNext 7 = .ok (.aload_n 0, 1) := by decide +kernel
theorem dX2_putNext_8 : decode cX2_putNext 8 = .ok (.getfield 15, 3) := by decide +kernel
theorem dX2_putNext_11 : decode cX2_putNext 11 = .ok (.bipush 16, 2) := by decide +kernel
theorem dX2_putNext_13 : decode cX2_putNext 13 = .ok (.if_icmp .lt 8, 3) := by decide +kernel
theorem dX2_putNext_16 : decode cX2_putNext 16 = .ok (.aload_n 0, 1) := by decide +kernel
theorem dX2_putNext_17 : decode cX2_putNext 17 = .ok (.iconst 0, 1) := by decide +kernel
theorem dX2_putNext_18 : decode cX2_putNext 18 = .ok (.putfield 15, 3) := by decide +kernel
theorem dX2_putNext_21 : decode cX2_putNext 21 = .ok (.aload_n 0, 1) := by decide +kernel
theorem dX2_putNext_22 : decode cX2_putNext 22 = .ok (.getfield 9, 3) := by decide +kernel
theorem dX2_putNext_25 : decode cX2_putNext 25 = .ok (.aload_n 0, 1) := by decide +kernel
theorem dX2_putNext_26 : decode cX2_putNext 26 = .ok (.getfield 15, 3) := by decide +kernel
theorem dX2_putNext_29 : decode cX2_putNext 29 = .ok (.iload_n 1, 1) := by decide +kernel
theorem dX2_putNext_30 : decode cX2_putNext 30 = .ok (.iastore, 1) := by decide +kernel
theorem dX2_putNext_31 : decode cX2_putNext 31 = .ok (.aload_n 0, 1) := by decide +kernel
theorem dX2_putNext_32 : decode cX2_putNext 32 = .ok (.dup, 1) := by decide +kernel
theorem dX2_putNext_33 : decode cX2_putNext 33 = .ok (.getfield 15, 3) := by decide +kernel
theorem dX2_putNext_36 : decode cX2_putNext 36 = .ok (.iconst 1, 1) := by decide +kernel
theorem dX2_putNext_37 : decode cX2_putNext 37 = .ok (.iadd, 1) := by decide +kernel
theorem dX2_putNext_38 : decode cX2_putNext 38 = .ok (.putfield 15, 3) := by decide +kernel
theorem dX2_putNext_41 : decode cX2_putNext 41 = .ok (.return_, 1) := by decide +kernel
theorem dX3_init_0 : decode cX3_init 0 = .ok (.aload_n 0, 1) := by decide +kernel
theorem dX3_init_1 : decode cX3_init 1 = .ok (.invokespecial 3, 3) := by decide +kernel
theorem dX3_init_4 : decode cX3_init 4 = .ok (.aload_n 0, 1) := by decide +kernel
theorem dX3_init_5 : decode cX3_init 5 = .ok (.iload_n 1, 1) := by decide +kernel
theorem dX3_init_6 : decode cX3_init 6 = .ok (.putfield 9, 3) := by decide +kernel
theorem dX3_init_9 : decode cX3_init 9 = .ok (.return_, 1) := by decide +kernel
theorem dX3_isBlocked_0 : decode cX3_isBlocked 0 = .ok (.aload_n 0, 1) := by decide +kernel
theorem dX3_isBlocked_1 : decode cX3_isBlocked 1 = .ok (.getfield 15, 3) := by decide +kernel
theorem dX3_isBlocked_4 : decode cX3_isBlocked 4 = .ok (.iconst 5, 1) := by decide +kernel
theorem dX3_isBlocked_5 : decode cX3_isBlocked 5 = .ok (.if_icmp .lt 7, 3) := by decide +kernel
theorem dX3_isBlocked_8 : decode cX3_isBlocked 8 = .ok (.iconst 1, 1) := by decide +kernel
theorem dX3_isBlocked_9 : decode cX3_isBlocked 9 = .ok (.goto 4, 3) := by decide +kernel
theorem dX3_isBlocked_12 : decode cX3_isBlocked 12 = .ok (.iconst 0, 1) := by decide +kernel
theorem dX3_isBlocked_13 : decode cX3_isBlocked 13 = .ok (.ireturn, 1) := by decide +kernel
theorem dX3_stepsTo_0 : decode cX3_stepsTo 0 = .ok (.iload_n 1, 1) := by decide +kernel
theorem dX3_stepsTo_1 : decode cX3_stepsTo 1 = .ok (.aload_n 0, 1) := by decide +kernel
theorem dX3_stepsTo_2 : decode cX3_stepsTo 2 = .ok (.getfield 18, 3) := by decide +kernel
theorem dX3_stepsTo_5 : decode cX3_stepsTo 5 = .ok (.ldc2_w 22, 3) := by decide +kernel
theorem dX3_stepsTo_8 : decode cX3_stepsTo 8 = .ok (.land, 1) := by decide +kernel
theorem dX3_stepsTo_9 : decode cX3_stepsTo 9 = .ok (.l2i, 1) := by decide +kernel
theorem dX3_stepsTo_10 : decode cX3_stepsTo 10 = .ok (.isub, 1) := by decide +kernel
theorem dX3_stepsTo_11 : decode cX3_stepsTo 11 = .ok (.sipush 255, 3) := by decide +kernel
theorem dX3_stepsTo_14 : decode cX3_stepsTo 14 = .ok (.iand, 1) := by decide +kernel
theorem dX3_stepsTo_15 : decode cX3_stepsTo 15 = .ok (.ireturn, 1) := by decide +kernel
theorem dX3_endTry_0 : decode cX3_endTry 0 = .ok (.iload_n 3, 1) := by decide +kernel
theorem dX3_endTry_1 : decode cX3_endTry 1 = .ok (.ifCond .ne 15, 3) := by decide +kernel
theorem dX3_endTry_4 : decode cX3_endTry 4 = .ok (.aload_n 0, 1) := by decide +kernel
theorem dX3_endTry_5 : decode cX3_endTry 5 = .ok (.dup, 1) := by decide +kernel
theorem dX3_endTry_6 : decode cX3_endTry 6 = .ok (.getfield 15, 3) := by decide +kernel
theorem dX3_endTry_9 : decode cX3_endTry 9 = .ok (.iconst 1, 1) := by decide +kernel
theorem dX3_endTry_10 : decode cX3_endTry 10 = .ok (.iadd, 1) := by decide +kernel
theorem dX3_endTry_11 : decode cX3_endTry 11 = .ok (.putfield 15, 3) := by decide +kernel
theorem dX3_endTry_14 : decode cX3_endTry 14 = .ok (.iconst 0, 1) := by decide +kernel
theorem dX3_endTry_15 : decode cX3_endTry 15 = .ok (.ireturn, 1) := by decide +kernel
theorem dX3_endTry_16 : decode cX3_endTry 16 = .ok (.aload_n 0, 1) := by decide +kernel
theorem dX3_endTry_17 : decode cX3_endTry 17 = .ok (.lload_n 1, 1) := by decide +kernel
theorem dX3_endTry_18 : decode cX3_endTry 18 = .ok (.putfield 18, 3) := by decide +kernel
theorem dX3_endTry_21 : decode cX3_endTry 21 = .ok (.aload_n 0, 1) := by decide +kernel
theorem dX3_endTry_22 : decode cX3_endTry 22 = .ok (.iconst 0, 1) := by decide +kernel
theorem dX3_endTry_23 : decode cX3_endTry 23 = .ok (.putfield 15, 3) := by decide +kernel
theorem dX3_endTry_26 : decode cX3_endTry 26 = .ok (.iconst 1, 1) := by decide +kernel
theorem dX3_endTry_27 : decode cX3_endTry 27 = .ok (.ireturn, 1) := by decide +kernel
theorem dX3_mayUse_0 : decode cX3_mayUse 0 = .ok (.aload_n 0, 1) := by decide +kernel
theorem dX3_mayUse_1 : decode cX3_mayUse 1 = .ok (.getfield 24, 3) := by decide +kernel
theorem dX3_mayUse_4 : decode cX3_mayUse 4 = .ok (.iconst 1, 1) := by decide +kernel
theorem dX3_mayUse_5 : decode cX3_mayUse 5 = .ok (.iload_n 1, 1) := by decide +kernel
theorem dX3_mayUse_6 : decode cX3_mayUse 6 = .ok (.ishl, 1) := by decide +kernel
theorem dX3_mayUse_7 : decode cX3_mayUse 7 = .ok (.iand, 1) := by decide +kernel
theorem dX3_mayUse_8 : decode cX3_mayUse 8 = .ok (.ifCond .eq 7, 3) := by decide +kernel
theorem dX3_mayUse_11 : decode cX3_mayUse 11 = .ok (.iconst 1, 1) := by decide +kernel
theorem dX3_mayUse_12 : decode cX3_mayUse 12 = .ok (.goto 4, 3) := by decide +kernel
theorem dX3_mayUse_15 : decode cX3_mayUse 15 = .ok (.iconst 0, 1) := by decide +kernel
theorem dX3_mayUse_16 : decode cX3_mayUse 16 = .ok (.ireturn, 1) := by decide +kernel
theorem dX3_allow_0 : decode cX3_allow 0 = .ok (.iload_n 2, 1) := by decide +kernel
theorem dX3_allow_1 : decode cX3_allow 1 = .ok (.ifCond .eq 18, 3) := by decide +kernel
theorem dX3_allow_4 : decode cX3_allow 4 = .ok (.aload_n 0, 1) := by decide +kernel
theorem dX3_allow_5 : decode cX3_allow 5 = .ok (.dup, 1) := by decide +kernel
theorem dX3_allow_6 : decode cX3_allow 6 = .ok (.getfield 24, 3) := by decide +kernel
theorem dX3_allow_9 : decode cX3_allow 9 = .ok (.iconst 1, 1) := by decide +kernel
theorem dX3_allow_10 : decode cX3_allow 10 = .ok (.iload_n 1, 1) := by decide +kernel
theorem dX3_allow_11 : decode cX3_allow 11 = .ok (.ishl, 1) := by decide +kernel
theorem dX3_allow_12 : decode cX3_allow 12 = .ok (.ior, 1) := by decide +kernel
theorem dX3_allow_13 : decode cX3_allow 13 = .ok (.putfield 24, 3) := by decide +kernel
theorem dX3_allow_16 : decode cX3_allow 16 = .ok (.goto 17, 3) := by decide +kernel
theorem dX3_allow_19 : decode cX3_allow 19 = .ok (.aload_n 0, 1) := by decide +kernel
theorem dX3_allow_20 : decode cX3_allow 20 = .ok (.dup, 1) := by decide +kernel
theorem dX3_allow_21 : decode cX3_allow 21 = .ok (.getfield 24, 3) := by decide +kernel
theorem dX3_allow_24 : decode cX3_allow 24 = .ok (.iconst 1, 1) := by decide +kernel
theorem dX3_allow_25 : decode cX3_allow 25 = .ok (.iload_n 1, 1) := by decide +kernel
theorem dX3_allow_26 : decode cX3_allow 26 = .ok (.ishl, 1) := by decide +kernel
theorem dX3_allow_27 : decode cX3_allow 27 = .ok (.iconst (-1), 1) := by decide +kernel
theorem dX3_allow_28 : decode cX3_allow 28 = .ok (.ixor, 1) := by decide +kernel
theorem dX3_allow_29 : decode cX3_allow 29 = .ok (.iand, 1) := by decide +kernel
theorem dX3_allow_30 : decode cX3_allow 30 = .ok (.putfield 24, 3) := by decide +kernel
theorem dX3_allow_33 : decode cX3_allow 33 = .ok (.return_, 1) := by decide +kernel
theorem dX3_countOfKeys_0 : decode cX3_countOfKeys 0 = .ok (.aload_n 0, 1) := by decide +kernel
theorem dX3_countOfKeys_1 : decode cX3_countOfKeys 1 = .ok (.getfield 24, 3) := by decide +kernel
theorem dX3_countOfKeys_4 : decode cX3_countOfKeys 4 = .ok (.invokestatic 27, 3) := by decide +kernel
theorem dX3_countOfKeys_7 : decode cX3_countOfKeys 7 = .ok (.ireturn, 1) := by decide +kernel
theorem dX3_beginTrip_0 : decode cX3_beginTrip 0 = .ok (.aload_n 0, 1) := by decide +kernel
theorem dX3_beginTrip_1 : decode cX3_beginTrip 1 = .ok (.lconst 0, 1) := by decide +kernel
theorem dX3_beginTrip_2 : decode cX3_beginTrip 2 = .ok (.putfield 18, 3) := by decide +kernel
theorem dX3_beginTrip_5 : decode cX3_beginTrip 5 = .ok (.aload_n 0, 1) := by decide +kernel
theorem dX3_beginTrip_6 : decode cX3_beginTrip 6 = .ok (.iconst 0, 1) := by decide +kernel
theorem dX3_beginTrip_7 : decode cX3_beginTrip 7 = .ok (.putfield 15, 3) := by decide +kernel
theorem dX3_beginTrip_10 : decode cX3_beginTrip 10 = .ok (.return_, 1) := by decide +kernel
