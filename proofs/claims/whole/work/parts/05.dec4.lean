theorem dX4_init_0 : decode cX4_init 0 = .ok (.aload_n 0, 1) := by decide +kernel
theorem dX4_init_1 : decode cX4_init 1 = .ok (.invokespecial 3, 3) := by decide +kernel
theorem dX4_init_4 : decode cX4_init 4 = .ok (.aload_n 0, 1) := by decide +kernel
theorem dX4_init_5 : decode cX4_init 5 = .ok (.bipush 16, 2) := by decide +kernel
theorem dX4_init_7 : decode cX4_init 7 = .ok (.anewarray 9, 3) := by decide +kernel
theorem dX4_init_10 : decode cX4_init 10 = .ok (.putfield 11, 3) := by decide +kernel
theorem dX4_init_13 : decode cX4_init 13 = .ok (.aload_n 0, 1) := by decide +kernel
theorem dX4_init_14 : decode cX4_init 14 = .ok (.bipush 64, 2) := by decide +kernel
theorem dX4_init_16 : decode cX4_init 16 = .ok (.anewarray 15, 3) := by decide +kernel
theorem dX4_init_19 : decode cX4_init 19 = .ok (.putfield 17, 3) := by decide +kernel
theorem dX4_init_22 : decode cX4_init 22 = .ok (.aload_n 0, 1) := by decide +kernel
theorem dX4_init_23 : decode cX4_init 23 = .ok (.sipush 300, 3) := by decide +kernel
theorem dX4_init_26 : decode cX4_init 26 = .ok (.newarray .int, 2) := by decide +kernel
theorem dX4_init_28 : decode cX4_init 28 = .ok (.putfield 21, 3) := by decide +kernel
theorem dX4_init_31 : decode cX4_init 31 = .ok (.aload_n 0, 1) := by decide +kernel
theorem dX4_init_32 : decode cX4_init 32 = .ok (.bipush 16, 2) := by decide +kernel
theorem dX4_init_34 : decode cX4_init 34 = .ok (.newarray .int, 2) := by decide +kernel
theorem dX4_init_36 : decode cX4_init 36 = .ok (.putfield 25, 3) := by decide +kernel
theorem dX4_init_39 : decode cX4_init 39 = .ok (.aload_n 0, 1) := by decide +kernel
theorem dX4_init_40 : decode cX4_init 40 = .ok (.bipush 16, 2) := by decide +kernel
theorem dX4_init_42 : decode cX4_init 42 = .ok (.newarray .int, 2) := by decide +kernel
theorem dX4_init_44 : decode cX4_init 44 = .ok (.putfield 28, 3) := by decide +kernel
theorem dX4_init_47 : decode cX4_init 47 = .ok (.aload_n 0, 1) := by decide +kernel
theorem dX4_init_48 : decode cX4_init 48 = .ok (.new 31, 3) := by decide +kernel
theorem dX4_init_51 : decode cX4_init 51 = .ok (.dup, 1) := by decide +kernel
theorem dX4_init_52 : decode cX4_init 52 = .ok (.invokespecial 33, 3) := by decide +kernel
theorem dX4_init_55 : decode cX4_init 55 = .ok (.putfield 34, 3) := by decide +kernel
theorem dX4_init_58 : decode cX4_init 58 = .ok (.aload_n 0, 1) := by decide +kernel
theorem dX4_init_59 : decode cX4_init 59 = .ok (.new 38, 3) := by decide +kernel
theorem dX4_init_62 : decode cX4_init 62 = .ok (.dup, 1) := by decide +kernel
theorem dX4_init_63 : decode cX4_init 63 = .ok (.aload_n 0, 1) := by decide +kernel
theorem dX4_init_64 : decode cX4_init 64 = .ok (.getfield 34, 3) := by decide +kernel
theorem dX4_init_67 : decode cX4_init 67 = .ok (.invokespecial 40, 3) := by decide +kernel
theorem dX4_init_70 : decode cX4_init 70 = .ok (.putfield 43, 3) := by decide +kernel
theorem dX4_init_73 : decode cX4_init 73 = .ok (.iconst 0, 1) := by decide +kernel
theorem dX4_init_74 : decode cX4_init 74 = .ok (.istore_n 1, 1) := by decide +kernel
theorem dX4_init_75 : decode cX4_init 75 = .ok (.iload_n 1, 1) := by decide +kernel
theorem dX4_init_76 : decode cX4_init 76 = .ok (.bipush 64, 2) := by decide +kernel
theorem dX4_init_78 : decode cX4_init 78 = .ok (.if_icmp .ge 25, 3) := by decide +kernel
theorem dX4_init_81 : decode cX4_init 81 = .ok (.aload_n 0, 1) := by decide +kernel
theorem dX4_init_82 : decode cX4_init 82 = .ok (.getfield 17, 3) := by decide +kernel
theorem dX4_init_85 : decode cX4_init 85 = .ok (.iload_n 1, 1) := by decide +kernel
theorem dX4_init_86 : decode cX4_init 86 = .ok (.new 15, 3) := by decide +kernel
theorem dX4_init_89 : decode cX4_init 89 = .ok (.dup, 1) := by decide +kernel
theorem dX4_init_90 : decode cX4_init 90 = .ok (.iload_n 1, 1) := by decide +kernel
theorem dX4_init_91 : decode cX4_init 91 = .ok (.iconst 1, 1) := by decide +kernel
theorem dX4_init_92 : decode cX4_init 92 = .ok (.iadd, 1) := by decide +kernel
theorem dX4_init_93 : decode cX4_init 93 = .ok (.invokespecial 47, 3) := by decide +kernel
theorem dX4_init_96 : decode cX4_init 96 = .ok (.aastore, 1) := by decide +kernel
theorem dX4_init_97 : decode cX4_init 97 = .ok (.iinc 1 1, 3) := by decide +kernel
theorem dX4_init_100 : decode cX4_init 100 = .ok (.goto (-25), 3) := by decide +kernel
theorem dX4_init_103 : decode cX4_init 103 = .ok (.return_, 1) := by decide +kernel
theorem dX4_key_0 : decode cX4_key 0 = .ok (.aload_n 0, 1) := by decide +kernel
theorem dX4_key_1 : decode cX4_key 1 = .ok (.getfield 50, 3) := by decide +kernel
theorem dX4_key_4 : decode cX4_key 4 = .ok (.bipush 16, 2) := by decide +kernel
theorem dX4_key_6 : decode cX4_key 6 = .ok (.if_icmp .lt 6, 3) := by decide +kernel
theorem dX4_key_9 : decode cX4_key 9 = .ok (.bipush (-4), 2) := by decide +kernel
theorem dX4_key_11 : decode cX4_key 11 = .ok (.ireturn, 1) := by decide +kernel
theorem dX4_key_12 : decode cX4_key 12 = .ok (.aload_n 0, 1) := by decide +kernel
theorem dX4_key_13 : decode cX4_key 13 = .ok (.getfield 11, 3) := by decide +kernel
theorem dX4_key_16 : decode cX4_key 16 = .ok (.aload_n 0, 1) := by decide +kernel
theorem dX4_key_17 : decode cX4_key 17 = .ok (.getfield 50, 3) := by decide +kernel
theorem dX4_key_20 : decode cX4_key 20 = .ok (.new 9, 3) := by decide +kernel
theorem dX4_key_23 : decode cX4_key 23 = .ok (.dup, 1) := by decide +kernel
theorem dX4_key_24 : decode cX4_key 24 = .ok (.invokespecial 54, 3) := by decide +kernel
theorem dX4_key_27 : decode cX4_key 27 = .ok (.aastore, 1) := by decide +kernel
theorem dX4_key_28 : decode cX4_key 28 = .ok (.aload_n 0, 1) := by decide +kernel
theorem dX4_key_29 : decode cX4_key 29 = .ok (.dup, 1) := by decide +kernel
theorem dX4_key_30 : decode cX4_key 30 = .ok (.getfield 50, 3) := by decide +kernel
theorem dX4_key_33 : decode cX4_key 33 = .ok (.iconst 1, 1) := by decide +kernel
theorem dX4_key_34 : decode cX4_key 34 = .ok (.iadd, 1) := by decide +kernel
theorem dX4_key_35 : decode cX4_key 35 = .ok (.putfield 50, 3) := by decide +kernel
theorem dX4_key_38 : decode cX4_key 38 = .ok (.aload_n 0, 1) := by decide +kernel
theorem dX4_key_39 : decode cX4_key 39 = .ok (.getfield 50, 3) := by decide +kernel
theorem dX4_key_42 : decode cX4_key 42 = .ok (.ireturn, 1) := by decide +kernel
theorem dX4_keyByte_0 : decode cX4_keyByte 0 = .ok (.aload_n 0, 1) := by decide +kernel
theorem dX4_keyByte_1 : decode cX4_keyByte 1 = .ok (.iload_n 1, 1) := by decide +kernel
theorem dX4_keyByte_2 : decode cX4_keyByte 2 = .ok (.invokevirtual 55, 3) := by decide +kernel
theorem dX4_keyByte_5 : decode cX4_keyByte 5 = .ok (.astore_n 3, 1) := by decide +kernel
theorem dX4_keyByte_6 : decode cX4_keyByte 6 = .ok (.aload_n 3, 1) := by decide +kernel
theorem dX4_keyByte_7 : decode cX4_keyByte 7 = .ok (.ifnull 12, 3) := by decide +kernel
theorem dX4_keyByte_10 : decode cX4_keyByte 10 = .ok (.aload_n 3, 1) := by decide +kernel
theorem dX4_keyByte_11 : decode cX4_keyByte 11 = .ok (.iload_n 2, 1) := by decide +kernel
theorem dX4_keyByte_12 : decode cX4_keyByte 12 = .ok (.sipush 255, 3) := by decide +kernel
theorem dX4_keyByte_15 : decode cX4_keyByte 15 = .ok (.iand, 1) := by decide +kernel
theorem dX4_keyByte_16 : decode cX4_keyByte 16 = .ok (.invokevirtual 59, 3) := by decide +kernel
theorem dX4_keyByte_19 : decode cX4_keyByte 19 = .ok (.return_, 1) := by decide +kernel
theorem dX4_octet_0 : decode cX4_octet 0 = .ok (.aload_n 0, 1) := by decide +kernel
theorem dX4_octet_1 : decode cX4_octet 1 = .ok (.getfield 62, 3) := by decide +kernel
theorem dX4_octet_4 : decode cX4_octet 4 = .ok (.sipush 300, 3) := by decide +kernel
theorem dX4_octet_7 : decode cX4_octet 7 = .ok (.if_icmp .ge 27, 3) := by decide +kernel
theorem dX4_octet_10 : decode cX4_octet 10 = .ok (.aload_n 0, 1) := by decide +kernel
theorem dX4_octet_11 : decode cX4_octet 11 = .ok (.getfield 21, 3) := by decide +kernel
theorem dX4_octet_14 : decode cX4_octet 14 = .ok (.aload_n 0, 1) := by decide +kernel
theorem dX4_octet_15 : decode cX4_octet 15 = .ok (.getfield 62, 3) := by decide +kernel
theorem dX4_octet_18 : decode cX4_octet 18 = .ok (.iload_n 1, 1) := by decide +kernel
theorem dX4_octet_19 : decode cX4_octet 19 = .ok (.sipush 255, 3) := by decide +kernel
theorem dX4_octet_22 : decode cX4_octet 22 = .ok (.iand, 1) := by decide +kernel
theorem dX4_octet_23 : decode cX4_octet 23 = .ok (.iastore, 1) := by decide +kernel
theorem dX4_octet_24 : decode cX4_octet 24 = .ok (.aload_n 0, 1) := by decide +kernel
theorem dX4_octet_25 : decode cX4_octet 25 = .ok (.dup, 1) := by decide +kernel
theorem dX4_octet_26 : decode cX4_octet 26 = .ok (.getfield 62, 3) := by decide +kernel
theorem dX4_octet_29 : decode cX4_octet 29 = .ok (.iconst 1, 1) := by decide +kernel
theorem dX4_octet_30 : decode cX4_octet 30 = .ok (.iadd, 1) := by decide +kernel
theorem dX4_octet_31 : decode cX4_octet 31 = .ok (.putfield 62, 3) := by decide +kernel
theorem dX4_octet_34 : decode cX4_octet 34 = .ok (.return_, 1) := by decide +kernel
theorem dX4_code_0 : decode cX4_code 0 = .ok (.aload_n 0, 1) := by decide +kernel
theorem dX4_code_1 : decode cX4_code 1 = .ok (.iload_n 1, 1) := by decide +kernel
theorem dX4_code_2 : decode cX4_code 2 = .ok (.invokevirtual 55, 3) := by decide +kernel
theorem dX4_code_5 : decode cX4_code 5 = .ok (.astore_n 3, 1) := by decide +kernel
theorem dX4_code_6 : decode cX4_code 6 = .ok (.aload_n 3, 1) := by decide +kernel
theorem dX4_code_7 : decode cX4_code 7 = .ok (.ifnonnull 5, 3) := by decide +kernel
theorem dX4_code_10 : decode cX4_code 10 = .ok (.iconst (-1), 1) := by decide +kernel
theorem dX4_code_11 : decode cX4_code 11 = .ok (.ireturn, 1) := by decide +kernel
theorem dX4_code_12 : decode cX4_code 12 = .ok (.iload_n 2, 1) := by decide +kernel
theorem dX4_code_13 : decode cX4_code 13 = .ok (.bipush 32, 2) := by decide +kernel
theorem dX4_code_15 : decode cX4_code 15 = .ok (.if_icmp .lt 10, 3) := by decide +kernel
theorem dX4_code_18 : decode cX4_code 18 = .ok (.iload_n 2, 1) := by decide +kernel
theorem dX4_code_19 : decode cX4_code 19 = .ok (.sipush 128, 3) := by decide +kernel
theorem dX4_code_22 : decode cX4_code 22 = .ok (.if_icmp .le 6, 3) := by decide +kernel
theorem dX4_code_25 : decode cX4_code 25 = .ok (.bipush (-2), 2) := by decide +kernel
theorem dX4_code_27 : decode cX4_code 27 = .ok (.ireturn, 1) := by decide +kernel
theorem dX4_code_28 : decode cX4_code 28 = .ok (.aload_n 0, 1) := by decide +kernel
theorem dX4_code_29 : decode cX4_code 29 = .ok (.getfield 43, 3) := by decide +kernel
theorem dX4_code_32 : decode cX4_code 32 = .ok (.aload_n 3, 1) := by decide +kernel
theorem dX4_code_33 : decode cX4_code 33 = .ok (.invokevirtual 65, 3) := by decide +kernel
theorem dX4_code_36 : decode cX4_code 36 = .ok (.aload_n 0, 1) := by decide +kernel
theorem dX4_code_37 : decode cX4_code 37 = .ok (.getfield 43, 3) := by decide +kernel
theorem dX4_code_40 : decode cX4_code 40 = .ok (.aload_n 0, 1) := by decide +kernel
theorem dX4_code_41 : decode cX4_code 41 = .ok (.getfield 21, 3) := by decide +kernel
theorem dX4_code_44 : decode cX4_code 44 = .ok (.aload_n 0, 1) := by decide +kernel
theorem dX4_code_45 : decode cX4_code 45 = .ok (.getfield 62, 3) := by decide +kernel
theorem dX4_code_48 : decode cX4_code 48 = .ok (.invokevirtual 69, 3) := by decide +kernel
theorem dX4_code_51 : decode cX4_code 51 = .ok (.aload_n 0, 1) := by decide +kernel
theorem dX4_code_52 : decode cX4_code 52 = .ok (.getfield 43, 3) := by decide +kernel
theorem dX4_code_55 : decode cX4_code 55 = .ok (.invokevirtual 73, 3) := by decide +kernel
theorem dX4_code_58 : decode cX4_code 58 = .ok (.aload_n 0, 1) := by decide +kernel
theorem dX4_code_59 : decode cX4_code 59 = .ok (.invokevirtual 76, 3) := by decide +kernel
theorem dX4_code_62 : decode cX4_code 62 = .ok (.aload_n 0, 1) := by decide +kernel
theorem dX4_code_63 : decode cX4_code 63 = .ok (.aload_n 0, 1) := by decide +kernel
theorem dX4_code_64 : decode cX4_code 64 = .ok (.getfield 43, 3) := by decide +kernel
theorem dX4_code_67 : decode cX4_code 67 = .ok (.getfield 79, 3) := by decide +kernel
theorem dX4_code_70 : decode cX4_code 70 = .ok (.iload_n 2, 1) := by decide +kernel
theorem dX4_code_71 : decode cX4_code 71 = .ok (.invokevirtual 82, 3) := by decide +kernel
theorem dX4_code_74 : decode cX4_code 74 = .ok (.aload_n 0, 1) := by decide +kernel
theorem dX4_code_75 : decode cX4_code 75 = .ok (.getfield 85, 3) := by decide +kernel
theorem dX4_code_78 : decode cX4_code 78 = .ok (.ireturn, 1) := by decide +kernel
theorem dX4_out_0 : decode cX4_out 0 = .ok (.iload_n 1, 1) := by decide +kernel
theorem dX4_out_1 : decode cX4_out 1 = .ok (.ifCond .lt 11, 3) := by decide +kernel
theorem dX4_out_4 : decode cX4_out 4 = .ok (.iload_n 1, 1) := by decide +kernel
theorem dX4_out_5 : decode cX4_out 5 = .ok (.aload_n 0, 1) := by decide +kernel
theorem dX4_out_6 : decode cX4_out 6 = .ok (.getfield 85, 3) := by decide +kernel
theorem dX4_out_9 : decode cX4_out 9 = .ok (.if_icmp .lt 13, 3) := by decide +kernel
theorem dX4_out_12 : decode cX4_out 12 = .ok (.new 88, 3) := by decide +kernel
theorem dX4_out_15 : decode cX4_out 15 = .ok (.dup, 1) := by decide +kernel
theorem dX4_out_16 : decode cX4_out 16 = .ok (.ldc 90, 2) := by decide +kernel
theorem dX4_out_18 : decode cX4_out 18 = .ok (.invokespecial 92, 3) := by decide +kernel
theorem dX4_out_21 : decode cX4_out 21 = .ok (.athrow, 1) := by decide +kernel
theorem dX4_out_22 : decode cX4_out 22 = .ok (.aload_n 0, 1) := by decide +kernel
theorem dX4_out_23 : decode cX4_out 23 = .ok (.getfield 25, 3) := by decide +kernel
theorem dX4_out_26 : decode cX4_out 26 = .ok (.iload_n 1, 1) := by decide +kernel
theorem dX4_out_27 : decode cX4_out 27 = .ok (.iaload, 1) := by decide +kernel
theorem dX4_out_28 : decode cX4_out 28 = .ok (.i2b, 1) := by decide +kernel
theorem dX4_out_29 : decode cX4_out 29 = .ok (.ireturn, 1) := by decide +kernel
theorem dX4_fresh_0 : decode cX4_fresh 0 = .ok (.aload_n 0, 1) := by decide +kernel
theorem dX4_fresh_1 : decode cX4_fresh 1 = .ok (.iload_n 1, 1) := by decide +kernel
theorem dX4_fresh_2 : decode cX4_fresh 2 = .ok (.invokevirtual 95, 3) := by decide +kernel
theorem dX4_fresh_5 : decode cX4_fresh 5 = .ok (.astore 4, 2) := by decide +kernel
theorem dX4_fresh_7 : decode cX4_fresh 7 = .ok (.aload 4, 2) := by decide +kernel
theorem dX4_fresh_9 : decode cX4_fresh 9 = .ok (.ifnonnull 5, 3) := by decide +kernel
theorem dX4_fresh_12 : decode cX4_fresh 12 = .ok (.iconst (-1), 1) := by decide +kernel
theorem dX4_fresh_13 : decode cX4_fresh 13 = .ok (.ireturn, 1) := by decide +kernel
theorem dX4_fresh_14 : decode cX4_fresh 14 = .ok (.lload_n 2, 1) := by decide +kernel
theorem dX4_fresh_15 : decode cX4_fresh 15 = .ok (.lconst 0, 1) := by decide +kernel
theorem dX4_fresh_16 : decode cX4_fresh 16 = .ok (.lcmp, 1) := by decide +kernel
theorem dX4_fresh_17 : decode cX4_fresh 17 = .ok (.ifCond .lt 11, 3) := by decide +kernel
theorem dX4_fresh_20 : decode cX4_fresh 20 = .ok (.lload_n 2, 1) := by decide +kernel
theorem dX4_fresh_21 : decode cX4_fresh 21 = .ok (.ldc2_w 99, 3) := by decide +kernel
theorem dX4_fresh_24 : decode cX4_fresh 24 = .ok (.lcmp, 1) := by decide +kernel
theorem dX4_fresh_25 : decode cX4_fresh 25 = .ok (.ifCond .le 6, 3) := by decide +kernel
theorem dX4_fresh_28 : decode cX4_fresh 28 = .ok (.bipush (-2), 2) := by decide +kernel
theorem dX4_fresh_30 : decode cX4_fresh 30 = .ok (.ireturn, 1) := by decide +kernel
theorem dX4_fresh_31 : decode cX4_fresh 31 = .ok (.lload_n 2, 1) := by decide +kernel
theorem dX4_fresh_32 : decode cX4_fresh 32 = .ok (.aload 4, 2) := by decide +kernel
theorem dX4_fresh_34 : decode cX4_fresh 34 = .ok (.getfield 101, 3) := by decide +kernel
theorem dX4_fresh_37 : decode cX4_fresh 37 = .ok (.lcmp, 1) := by decide +kernel
theorem dX4_fresh_38 : decode cX4_fresh 38 = .ok (.ifCond .gt 5, 3) := by decide +kernel
theorem dX4_fresh_41 : decode cX4_fresh 41 = .ok (.iconst 0, 1) := by decide +kernel
theorem dX4_fresh_42 : decode cX4_fresh 42 = .ok (.ireturn, 1) := by decide +kernel
theorem dX4_fresh_43 : decode cX4_fresh 43 = .ok (.aload 4, 2) := by decide +kernel
theorem dX4_fresh_45 : decode cX4_fresh 45 = .ok (.lload_n 2, 1) := by decide +kernel
theorem dX4_fresh_46 : decode cX4_fresh 46 = .ok (.putfield 101, 3) := by decide +kernel
theorem dX4_fresh_49 : decode cX4_fresh 49 = .ok (.iconst 1, 1) := by decide +kernel
theorem dX4_fresh_50 : decode cX4_fresh 50 = .ok (.ireturn, 1) := by decide +kernel
theorem dX4_verify_0 : decode cX4_verify 0 = .ok (.aload_n 0, 1) := by decide +kernel
theorem dX4_verify_1 : decode cX4_verify 1 = .ok (.iload_n 1, 1) := by decide +kernel
theorem dX4_verify_2 : decode cX4_verify 2 = .ok (.invokevirtual 55, 3) := by decide +kernel
theorem dX4_verify_5 : decode cX4_verify 5 = .ok (.astore 4, 2) := by decide +kernel
theorem dX4_verify_7 : decode cX4_verify 7 = .ok (.aload_n 0, 1) := by decide +kernel
theorem dX4_verify_8 : decode cX4_verify 8 = .ok (.iload_n 2, 1) := by decide +kernel
theorem dX4_verify_9 : decode cX4_verify 9 = .ok (.invokevirtual 95, 3) := by decide +kernel
theorem dX4_verify_12 : decode cX4_verify 12 = .ok (.astore 5, 2) := by decide +kernel
theorem dX4_verify_14 : decode cX4_verify 14 = .ok (.aload 4, 2) := by decide +kernel
theorem dX4_verify_16 : decode cX4_verify 16 = .ok (.ifnull 8, 3) := by decide +kernel
theorem dX4_verify_19 : decode cX4_verify 19 = .ok (.aload 5, 2) := by decide +kernel
theorem dX4_verify_21 : decode cX4_verify 21 = .ok (.ifnonnull 5, 3) := by decide +kernel
theorem dX4_verify_24 : decode cX4_verify 24 = .ok (.iconst (-1), 1) := by decide +kernel
theorem dX4_verify_25 : decode cX4_verify 25 = .ok (.ireturn, 1) := by decide +kernel
theorem dX4_verify_26 : decode cX4_verify 26 = .ok (.iload_n 3, 1) := by decide +kernel
theorem dX4_verify_27 : decode cX4_verify 27 = .ok (.ifCond .lt 10, 3) := by decide +kernel
theorem dX4_verify_30 : decode cX4_verify 30 = .ok (.iload_n 3, 1) := by decide +kernel
theorem dX4_verify_31 : decode cX4_verify 31 = .ok (.sipush 255, 3) := by decide +kernel
theorem dX4_verify_34 : decode cX4_verify 34 = .ok (.if_icmp .le 6, 3) := by decide +kernel
theorem dX4_verify_37 : decode cX4_verify 37 = .ok (.bipush (-2), 2) := by decide +kernel
theorem dX4_verify_39 : decode cX4_verify 39 = .ok (.ireturn, 1) := by decide +kernel
theorem dX4_verify_40 : decode cX4_verify 40 = .ok (.aload 5, 2) := by decide +kernel
theorem dX4_verify_42 : decode cX4_verify 42 = .ok (.iload_n 1, 1) := by decide +kernel
theorem dX4_verify_43 : decode cX4_verify 43 = .ok (.invokevirtual 105, 3) := by decide +kernel
theorem dX4_verify_46 : decode cX4_verify 46 = .ok (.ifCond .eq 20, 3) := by decide +kernel
theorem dX4_verify_49 : decode cX4_verify 49 = .ok (.aload 5, 2) := by decide +kernel
theorem dX4_verify_51 : decode cX4_verify 51 = .ok (.invokevirtual 109, 3) := by decide +kernel
theorem dX4_verify_54 : decode cX4_verify 54 = .ok (.ifCond .ne 12, 3) := by decide +kernel
theorem dX4_verify_57 : decode cX4_verify 57 = .ok (.aload_n 0, 1) := by decide +kernel
theorem dX4_verify_58 : decode cX4_verify 58 = .ok (.getfield 62, 3) := by decide +kernel
theorem dX4_verify_61 : decode cX4_verify 61 = .ok (.bipush 8, 2) := by decide +kernel
theorem dX4_verify_63 : decode cX4_verify 63 = .ok (.if_icmp .ge 6, 3) := by decide +kernel
theorem dX4_verify_66 : decode cX4_verify 66 = .ok (.bipush (-3), 2) := by decide +kernel
theorem dX4_verify_68 : decode cX4_verify 68 = .ok (.ireturn, 1) := by decide +kernel
theorem dX4_verify_69 : decode cX4_verify 69 = .ok (.aload 5, 2) := by decide +kernel
theorem dX4_verify_71 : decode cX4_verify 71 = .ok (.iload_n 3, 1) := by decide +kernel
theorem dX4_verify_72 : decode cX4_verify 72 = .ok (.invokevirtual 113, 3) := by decide +kernel
theorem dX4_verify_75 : decode cX4_verify 75 = .ok (.istore 6, 2) := by decide +kernel
theorem dX4_verify_77 : decode cX4_verify 77 = .ok (.aload 5, 2) := by decide +kernel
theorem dX4_verify_79 : decode cX4_verify 79 = .ok (.getfield 101, 3) := by decide +kernel
theorem dX4_verify_82 : decode cX4_verify 82 = .ok (.iload 6, 2) := by decide +kernel
theorem dX4_verify_84 : decode cX4_verify 84 = .ok (.i2l, 1) := by decide +kernel
theorem dX4_verify_85 : decode cX4_verify 85 = .ok (.ladd, 1) := by decide +kernel
theorem dX4_verify_86 : decode cX4_verify 86 = .ok (.lstore 7, 2) := by decide +kernel
theorem dX4_verify_88 : decode cX4_verify 88 = .ok (.iload 6, 2) := by decide +kernel
theorem dX4_verify_90 : decode cX4_verify 90 = .ok (.ifCond .ne 9, 3) := by decide +kernel
theorem dX4_verify_93 : decode cX4_verify 93 = .ok (.iconst 0, 1) := by decide +kernel
theorem dX4_verify_94 : decode cX4_verify 94 = .ok (.istore 9, 2) := by decide +kernel
theorem dX4_verify_96 : decode cX4_verify 96 = .ok (.goto 44, 3) := by decide +kernel
theorem dX4_verify_99 : decode cX4_verify 99 = .ok (.iload 6, 2) := by decide +kernel
theorem dX4_verify_101 : decode cX4_verify 101 = .ok (.bipush 64, 2) := by decide +kernel
theorem dX4_verify_103 : decode cX4_verify 103 = .ok (.if_icmp .gt 12, 3) := by decide +kernel
theorem dX4_verify_106 : decode cX4_verify 106 = .ok (.lload 7, 2) := by decide +kernel
theorem dX4_verify_108 : decode cX4_verify 108 = .ok (.ldc2_w 99, 3) := by decide +kernel
theorem dX4_verify_111 : decode cX4_verify 111 = .ok (.lcmp, 1) := by decide +kernel
theorem dX4_verify_112 : decode cX4_verify 112 = .ok (.ifCond .le 9, 3) := by decide +kernel
theorem dX4_verify_115 : decode cX4_verify 115 = .ok (.iconst 2, 1) := by decide +kernel
theorem dX4_verify_116 : decode cX4_verify 116 = .ok (.istore 9, 2) := by decide +kernel
theorem dX4_verify_118 : decode cX4_verify 118 = .ok (.goto 22, 3) := by decide +kernel
theorem dX4_verify_121 : decode cX4_verify 121 = .ok (.aload 5, 2) := by decide +kernel
theorem dX4_verify_123 : decode cX4_verify 123 = .ok (.lload 7, 2) := by decide +kernel
theorem dX4_verify_125 : decode cX4_verify 125 = .ok (.aload_n 0, 1) := by decide +kernel
theorem dX4_verify_126 : decode cX4_verify 126 = .ok (.aload 4, 2) := by decide +kernel
theorem dX4_verify_128 : decode cX4_verify 128 = .ok (.aload 5, 2) := by decide +kernel
theorem dX4_verify_130 : decode cX4_verify 130 = .ok (.lload 7, 2) := by decide +kernel
theorem dX4_verify_132 : decode cX4_verify 132 = .ok (.invokevirtual 117, 3) := by decide +kernel
theorem dX4_verify_135 : decode cX4_verify 135 = .ok (.invokevirtual 121, 3) := by decide +kernel
theorem dX4_verify_138 : decode cX4_verify 138 = .ok (.istore 9, 2) := by decide +kernel
theorem dX4_verify_140 : decode cX4_verify 140 = .ok (.aload_n 0, 1) := by decide +kernel
theorem dX4_verify_141 : decode cX4_verify 141 = .ok (.invokevirtual 76, 3) := by decide +kernel
theorem dX4_verify_144 : decode cX4_verify 144 = .ok (.iload 9, 2) := by decide +kernel
theorem dX4_verify_146 : decode cX4_verify 146 = .ok (.ireturn, 1) := by decide +kernel
theorem dX4_install_0 : decode cX4_install 0 = .ok (.aload_n 0, 1) := by decide +kernel
theorem dX4_install_1 : decode cX4_install 1 = .ok (.iload_n 1, 1) := by decide +kernel
theorem dX4_install_2 : decode cX4_install 2 = .ok (.invokevirtual 55, 3) := by decide +kernel
theorem dX4_install_5 : decode cX4_install 5 = .ok (.astore 5, 2) := by decide +kernel
theorem dX4_install_7 : decode cX4_install 7 = .ok (.aload_n 0, 1) := by decide +kernel
theorem dX4_install_8 : decode cX4_install 8 = .ok (.iload_n 2, 1) := by decide +kernel
theorem dX4_install_9 : decode cX4_install 9 = .ok (.invokevirtual 55, 3) := by decide +kernel
theorem dX4_install_12 : decode cX4_install 12 = .ok (.astore 6, 2) := by decide +kernel
theorem dX4_install_14 : decode cX4_install 14 = .ok (.aload 5, 2) := by decide +kernel
theorem dX4_install_16 : decode cX4_install 16 = .ok (.ifnull 8, 3) := by decide +kernel
theorem dX4_install_19 : decode cX4_install 19 = .ok (.aload 6, 2) := by decide +kernel
theorem dX4_install_21 : decode cX4_install 21 = .ok (.ifnonnull 5, 3) := by decide +kernel
theorem dX4_install_24 : decode cX4_install 24 = .ok (.iconst (-1), 1) := by decide +kernel
theorem dX4_install_25 : decode cX4_install 25 = .ok (.ireturn, 1) := by decide +kernel
theorem dX4_install_26 : decode cX4_install 26 = .ok (.lload_n 3, 1) := by decide +kernel
theorem dX4_install_27 : decode cX4_install 27 = .ok (.lconst 0, 1) := by decide +kernel
theorem dX4_install_28 : decode cX4_install 28 = .ok (.lcmp, 1) := by decide +kernel
theorem dX4_install_29 : decode cX4_install 29 = .ok (.ifCond .ge 6, 3) := by decide +kernel
theorem dX4_install_32 : decode cX4_install 32 = .ok (.bipush (-2), 2) := by decide +kernel
theorem dX4_install_34 : decode cX4_install 34 = .ok (.ireturn, 1) := by decide +kernel
theorem dX4_install_35 : decode cX4_install 35 = .ok (.aload_n 0, 1) := by decide +kernel
theorem dX4_install_36 : decode cX4_install 36 = .ok (.getfield 62, 3) := by decide +kernel
theorem dX4_install_39 : decode cX4_install 39 = .ok (.bipush 24, 2) := by decide +kernel
theorem dX4_install_41 : decode cX4_install 41 = .ok (.if_icmp .eq 6, 3) := by decide +kernel
theorem dX4_install_44 : decode cX4_install 44 = .ok (.bipush (-3), 2) := by decide +kernel
theorem dX4_install_46 : decode cX4_install 46 = .ok (.ireturn, 1) := by decide +kernel
theorem dX4_install_47 : decode cX4_install 47 = .ok (.lload_n 3, 1) := by decide +kernel
theorem dX4_install_48 : decode cX4_install 48 = .ok (.aload 5, 2) := by decide +kernel
theorem dX4_install_50 : decode cX4_install 50 = .ok (.getfield 125, 3) := by decide +kernel
theorem dX4_install_53 : decode cX4_install 53 = .ok (.lcmp, 1) := by decide +kernel
theorem dX4_install_54 : decode cX4_install 54 = .ok (.ifCond .le 17, 3) := by decide +kernel
theorem dX4_install_57 : decode cX4_install 57 = .ok (.aload_n 0, 1) := by decide +kernel
theorem dX4_install_58 : decode cX4_install 58 = .ok (.aload 6, 2) := by decide +kernel
theorem dX4_install_60 : decode cX4_install 60 = .ok (.lload_n 3, 1) := by decide +kernel
theorem dX4_install_61 : decode cX4_install 61 = .ok (.invokevirtual 126, 3) := by decide +kernel
theorem dX4_install_64 : decode cX4_install 64 = .ok (.ifCond .eq 7, 3) := by decide +kernel
theorem dX4_install_67 : decode cX4_install 67 = .ok (.iconst 1, 1) := by decide +kernel
theorem dX4_install_68 : decode cX4_install 68 = .ok (.goto 4, 3) := by decide +kernel
theorem dX4_install_71 : decode cX4_install 71 = .ok (.iconst 0, 1) := by decide +kernel
theorem dX4_install_72 : decode cX4_install 72 = .ok (.istore 7, 2) := by decide +kernel
theorem dX4_install_74 : decode cX4_install 74 = .ok (.iload 7, 2) := by decide +kernel
theorem dX4_install_76 : decode cX4_install 76 = .ok (.ifCond .eq 12, 3) := by decide +kernel
theorem dX4_install_79 : decode cX4_install 79 = .ok (.aload_n 0, 1) := by decide +kernel
theorem dX4_install_80 : decode cX4_install 80 = .ok (.aload 5, 2) := by decide +kernel
theorem dX4_install_82 : decode cX4_install 82 = .ok (.aload 6, 2) := by decide +kernel
theorem dX4_install_84 : decode cX4_install 84 = .ok (.lload_n 3, 1) := by decide +kernel
theorem dX4_install_85 : decode cX4_install 85 = .ok (.invokevirtual 130, 3) := by decide +kernel
theorem dX4_install_88 : decode cX4_install 88 = .ok (.aload_n 0, 1) := by decide +kernel
theorem dX4_install_89 : decode cX4_install 89 = .ok (.invokevirtual 76, 3) := by decide +kernel
theorem dX4_install_92 : decode cX4_install 92 = .ok (.iload 7, 2) := by decide +kernel
theorem dX4_install_94 : decode cX4_install 94 = .ok (.ifCond .eq 7, 3) := by decide +kernel
theorem dX4_install_97 : decode cX4_install 97 = .ok (.iconst 1, 1) := by decide +kernel
theorem dX4_install_98 : decode cX4_install 98 = .ok (.goto 4, 3) := by decide +kernel
theorem dX4_install_101 : decode cX4_install 101 = .ok (.iconst 0, 1) := by decide +kernel
theorem dX4_install_102 : decode cX4_install 102 = .ok (.ireturn, 1) := by decide +kernel
theorem dX4_check_0 : decode cX4_check 0 = .ok (.aload_n 0, 1) := by decide +kernel
theorem dX4_check_1 : decode cX4_check 1 = .ok (.iload_n 1, 1) := by decide +kernel
theorem dX4_check_2 : decode cX4_check 2 = .ok (.invokevirtual 55, 3) := by decide +kernel
theorem dX4_check_5 : decode cX4_check 5 = .ok (.astore_n 2, 1) := by decide +kernel
theorem dX4_check_6 : decode cX4_check 6 = .ok (.aload_n 2, 1) := by decide +kernel
theorem dX4_check_7 : decode cX4_check 7 = .ok (.ifnonnull 5, 3) := by decide +kernel
theorem dX4_check_10 : decode cX4_check 10 = .ok (.iconst 0, 1) := by decide +kernel
theorem dX4_check_11 : decode cX4_check 11 = .ok (.ireturn, 1) := by decide +kernel
theorem dX4_check_12 : decode cX4_check 12 = .ok (.aload_n 0, 1) := by decide +kernel
theorem dX4_check_13 : decode cX4_check 13 = .ok (.getfield 28, 3) := by decide +kernel
theorem dX4_check_16 : decode cX4_check 16 = .ok (.iconst 0, 1) := by decide +kernel
theorem dX4_check_17 : decode cX4_check 17 = .ok (.invokestatic 134, 3) := by decide +kernel
theorem dX4_check_20 : decode cX4_check 20 = .ok (.aload_n 0, 1) := by decide +kernel
theorem dX4_check_21 : decode cX4_check 21 = .ok (.getfield 34, 3) := by decide +kernel
theorem dX4_check_24 : decode cX4_check 24 = .ok (.aload_n 2, 1) := by decide +kernel
theorem dX4_check_25 : decode cX4_check 25 = .ok (.invokevirtual 139, 3) := by decide +kernel
theorem dX4_check_28 : decode cX4_check 28 = .ok (.aload_n 0, 1) := by decide +kernel
theorem dX4_check_29 : decode cX4_check 29 = .ok (.getfield 34, 3) := by decide +kernel
theorem dX4_check_32 : decode cX4_check 32 = .ok (.aload_n 0, 1) := by decide +kernel
theorem dX4_check_33 : decode cX4_check 33 = .ok (.getfield 28, 3) := by decide +kernel
theorem dX4_check_36 : decode cX4_check 36 = .ok (.invokevirtual 142, 3) := by decide +kernel
theorem dX4_check_39 : decode cX4_check 39 = .ok (.aload_n 0, 1) := by decide +kernel
theorem dX4_check_40 : decode cX4_check 40 = .ok (.getfield 28, 3) := by decide +kernel
theorem dX4_check_43 : decode cX4_check 43 = .ok (.iconst 0, 1) := by decide +kernel
theorem dX4_check_44 : decode cX4_check 44 = .ok (.iaload, 1) := by decide +kernel
theorem dX4_check_45 : decode cX4_check 45 = .ok (.bipush 24, 2) := by decide +kernel
theorem dX4_check_47 : decode cX4_check 47 = .ok (.ishl, 1) := by decide +kernel
theorem dX4_check_48 : decode cX4_check 48 = .ok (.aload_n 0, 1) := by decide +kernel
theorem dX4_check_49 : decode cX4_check 49 = .ok (.getfield 28, 3) := by decide +kernel
theorem dX4_check_52 : decode cX4_check 52 = .ok (.iconst 1, 1) := by decide +kernel
theorem dX4_check_53 : decode cX4_check 53 = .ok (.iaload, 1) := by decide +kernel
theorem dX4_check_54 : decode cX4_check 54 = .ok (.bipush 16, 2) := by decide +kernel
theorem dX4_check_56 : decode cX4_check 56 = .ok (.ishl, 1) := by decide +kernel
theorem dX4_check_57 : decode cX4_check 57 = .ok (.ior, 1) := by decide +kernel
theorem dX4_check_58 : decode cX4_check 58 = .ok (.aload_n 0, 1) := by decide +kernel
theorem dX4_check_59 : decode cX4_check 59 = .ok (.getfield 28, 3) := by decide +kernel
theorem dX4_check_62 : decode cX4_check 62 = .ok (.iconst 2, 1) := by decide +kernel
theorem dX4_check_63 : decode cX4_check 63 = .ok (.iaload, 1) := by decide +kernel
theorem dX4_check_64 : decode cX4_check 64 = .ok (.bipush 8, 2) := by decide +kernel
theorem dX4_check_66 : decode cX4_check 66 = .ok (.ishl, 1) := by decide +kernel
theorem dX4_check_67 : decode cX4_check 67 = .ok (.ior, 1) := by decide +kernel
theorem dX4_check_68 : decode cX4_check 68 = .ok (.aload_n 0, 1) := by decide +kernel
theorem dX4_check_69 : decode cX4_check 69 = .ok (.getfield 28, 3) := by decide +kernel
theorem dX4_check_72 : decode cX4_check 72 = .ok (.iconst 3, 1) := by decide +kernel
theorem dX4_check_73 : decode cX4_check 73 = .ok (.iaload, 1) := by decide +kernel
theorem dX4_check_74 : decode cX4_check 74 = .ok (.ior, 1) := by decide +kernel
theorem dX4_check_75 : decode cX4_check 75 = .ok (.ireturn, 1) := by decide +kernel
theorem dX4_trip_0 : decode cX4_trip 0 = .ok (.lload_n 1, 1) := by decide +kernel
theorem dX4_trip_1 : decode cX4_trip 1 = .ok (.lconst 0, 1) := by decide +kernel
theorem dX4_trip_2 : decode cX4_trip 2 = .ok (.lcmp, 1) := by decide +kernel
theorem dX4_trip_3 : decode cX4_trip 3 = .ok (.ifCond .lt 11, 3) := by decide +kernel
theorem dX4_trip_6 : decode cX4_trip 6 = .ok (.lload_n 1, 1) := by decide +kernel
theorem dX4_trip_7 : decode cX4_trip 7 = .ok (.ldc2_w 146, 3) := by decide +kernel
theorem dX4_trip_10 : decode cX4_trip 10 = .ok (.lcmp, 1) := by decide +kernel
theorem dX4_trip_11 : decode cX4_trip 11 = .ok (.ifCond .le 6, 3) := by decide +kernel
theorem dX4_trip_14 : decode cX4_trip 14 = .ok (.bipush (-2), 2) := by decide +kernel
theorem dX4_trip_16 : decode cX4_trip 16 = .ok (.ireturn, 1) := by decide +kernel
theorem dX4_trip_17 : decode cX4_trip 17 = .ok (.lload_n 1, 1) := by decide +kernel
theorem dX4_trip_18 : decode cX4_trip 18 = .ok (.aload_n 0, 1) := by decide +kernel
theorem dX4_trip_19 : decode cX4_trip 19 = .ok (.getfield 148, 3) := by decide +kernel
theorem dX4_trip_22 : decode cX4_trip 22 = .ok (.lcmp, 1) := by decide +kernel
theorem dX4_trip_23 : decode cX4_trip 23 = .ok (.ifCond .gt 5, 3) := by decide +kernel
theorem dX4_trip_26 : decode cX4_trip 26 = .ok (.iconst 0, 1) := by decide +kernel
theorem dX4_trip_27 : decode cX4_trip 27 = .ok (.ireturn, 1) := by decide +kernel
theorem dX4_trip_28 : decode cX4_trip 28 = .ok (.aload_n 0, 1) := by decide +kernel
theorem dX4_trip_29 : decode cX4_trip 29 = .ok (.lload_n 1, 1) := by decide +kernel
theorem dX4_trip_30 : decode cX4_trip 30 = .ok (.putfield 148, 3) := by decide +kernel
theorem dX4_trip_33 : decode cX4_trip 33 = .ok (.iconst 1, 1) := by decide +kernel
theorem dX4_trip_34 : decode cX4_trip 34 = .ok (.istore_n 3, 1) := by decide +kernel
theorem dX4_trip_35 : decode cX4_trip 35 = .ok (.iload_n 3, 1) := by decide +kernel
theorem dX4_trip_36 : decode cX4_trip 36 = .ok (.bipush 64, 2) := by decide +kernel
theorem dX4_trip_38 : decode cX4_trip 38 = .ok (.if_icmp .gt 26, 3) := by decide +kernel
theorem dX4_trip_41 : decode cX4_trip 41 = .ok (.aload_n 0, 1) := by decide +kernel
theorem dX4_trip_42 : decode cX4_trip 42 = .ok (.iload_n 3, 1) := by decide +kernel
theorem dX4_trip_43 : decode cX4_trip 43 = .ok (.invokevirtual 95, 3) := by decide +kernel
theorem dX4_trip_46 : decode cX4_trip 46 = .ok (.astore 4, 2) := by decide +kernel
theorem dX4_trip_48 : decode cX4_trip 48 = .ok (.aload 4, 2) := by decide +kernel
theorem dX4_trip_50 : decode cX4_trip 50 = .ok (.ifnull 8, 3) := by decide +kernel
theorem dX4_trip_53 : decode cX4_trip 53 = .ok (.aload 4, 2) := by decide +kernel
theorem dX4_trip_55 : decode cX4_trip 55 = .ok (.invokevirtual 151, 3) := by decide +kernel
theorem dX4_trip_58 : decode cX4_trip 58 = .ok (.iinc 3 1, 3) := by decide +kernel
theorem dX4_trip_61 : decode cX4_trip 61 = .ok (.goto (-26), 3) := by decide +kernel
theorem dX4_trip_64 : decode cX4_trip 64 = .ok (.iconst 1, 1) := by decide +kernel
theorem dX4_trip_65 : decode cX4_trip 65 = .ok (.ireturn, 1) := by decide +kernel
theorem dX4_encipher_0 : decode cX4_encipher 0 = .ok (.aload_n 0, 1) := by decide +kernel
theorem dX4_encipher_1 : decode cX4_encipher 1 = .ok (.iload_n 1, 1) := by decide +kernel
theorem dX4_encipher_2 : decode cX4_encipher 2 = .ok (.invokevirtual 55, 3) := by decide +kernel
theorem dX4_encipher_5 : decode cX4_encipher 5 = .ok (.astore_n 2, 1) := by decide +kernel
theorem dX4_encipher_6 : decode cX4_encipher 6 = .ok (.aload_n 2, 1) := by decide +kernel
theorem dX4_encipher_7 : decode cX4_encipher 7 = .ok (.ifnonnull 5, 3) := by decide +kernel
theorem dX4_encipher_10 : decode cX4_encipher 10 = .ok (.iconst (-1), 1) := by decide +kernel
theorem dX4_encipher_11 : decode cX4_encipher 11 = .ok (.ireturn, 1) := by decide +kernel
theorem dX4_encipher_12 : decode cX4_encipher 12 = .ok (.aload_n 0, 1) := by decide +kernel
theorem dX4_encipher_13 : decode cX4_encipher 13 = .ok (.getfield 62, 3) := by decide +kernel
theorem dX4_encipher_16 : decode cX4_encipher 16 = .ok (.bipush 16, 2) := by decide +kernel
theorem dX4_encipher_18 : decode cX4_encipher 18 = .ok (.if_icmp .eq 6, 3) := by decide +kernel
theorem dX4_encipher_21 : decode cX4_encipher 21 = .ok (.bipush (-3), 2) := by decide +kernel
theorem dX4_encipher_23 : decode cX4_encipher 23 = .ok (.ireturn, 1) := by decide +kernel
theorem dX4_encipher_24 : decode cX4_encipher 24 = .ok (.iconst 0, 1) := by decide +kernel
theorem dX4_encipher_25 : decode cX4_encipher 25 = .ok (.istore_n 3, 1) := by decide +kernel
theorem dX4_encipher_26 : decode cX4_encipher 26 = .ok (.iload_n 3, 1) := by decide +kernel
theorem dX4_encipher_27 : decode cX4_encipher 27 = .ok (.bipush 16, 2) := by decide +kernel
theorem dX4_encipher_29 : decode cX4_encipher 29 = .ok (.if_icmp .ge 21, 3) := by decide +kernel
theorem dX4_encipher_32 : decode cX4_encipher 32 = .ok (.aload_n 0, 1) := by decide +kernel
theorem dX4_encipher_33 : decode cX4_encipher 33 = .ok (.getfield 28, 3) := by decide +kernel
theorem dX4_encipher_36 : decode cX4_encipher 36 = .ok (.iload_n 3, 1) := by decide +kernel
theorem dX4_encipher_37 : decode cX4_encipher 37 = .ok (.aload_n 0, 1) := by decide +kernel
theorem dX4_encipher_38 : decode cX4_encipher 38 = .ok (.getfield 21, 3) := by decide +kernel
theorem dX4_encipher_41 : decode cX4_encipher 41 = .ok (.iload_n 3, 1) := by decide +kernel
theorem dX4_encipher_42 : decode cX4_encipher 42 = .ok (.iaload, 1) := by decide +kernel
theorem dX4_encipher_43 : decode cX4_encipher 43 = .ok (.iastore, 1) := by decide +kernel
theorem dX4_encipher_44 : decode cX4_encipher 44 = .ok (.iinc 3 1, 3) := by decide +kernel
theorem dX4_encipher_47 : decode cX4_encipher 47 = .ok (.goto (-21), 3) := by decide +kernel
theorem dX4_encipher_50 : decode cX4_encipher 50 = .ok (.aload_n 0, 1) := by decide +kernel
theorem dX4_encipher_51 : decode cX4_encipher 51 = .ok (.getfield 34, 3) := by decide +kernel
theorem dX4_encipher_54 : decode cX4_encipher 54 = .ok (.aload_n 2, 1) := by decide +kernel
theorem dX4_encipher_55 : decode cX4_encipher 55 = .ok (.invokevirtual 139, 3) := by decide +kernel
theorem dX4_encipher_58 : decode cX4_encipher 58 = .ok (.aload_n 0, 1) := by decide +kernel
theorem dX4_encipher_59 : decode cX4_encipher 59 = .ok (.getfield 34, 3) := by decide +kernel
theorem dX4_encipher_62 : decode cX4_encipher 62 = .ok (.aload_n 0, 1) := by decide +kernel
theorem dX4_encipher_63 : decode cX4_encipher 63 = .ok (.getfield 28, 3) := by decide +kernel
theorem dX4_encipher_66 : decode cX4_encipher 66 = .ok (.invokevirtual 142, 3) := by decide +kernel
theorem dX4_encipher_69 : decode cX4_encipher 69 = .ok (.aload_n 0, 1) := by decide +kernel
theorem dX4_encipher_70 : decode cX4_encipher 70 = .ok (.invokevirtual 76, 3) := by decide +kernel
theorem dX4_encipher_73 : decode cX4_encipher 73 = .ok (.aload_n 0, 1) := by decide +kernel
theorem dX4_encipher_74 : decode cX4_encipher 74 = .ok (.aload_n 0, 1) := by decide +kernel
theorem dX4_encipher_75 : decode cX4_encipher 75 = .ok (.getfield 28, 3) := by decide +kernel
theorem dX4_encipher_78 : decode cX4_encipher 78 = .ok (.sipush 128, 3) := by decide +kernel
theorem dX4_encipher_81 : decode cX4_encipher 81 = .ok (.invokevirtual 82, 3) := by decide +kernel
theorem dX4_encipher_84 : decode cX4_encipher 84 = .ok (.aload_n 0, 1) := by decide +kernel
theorem dX4_encipher_85 : decode cX4_encipher 85 = .ok (.getfield 85, 3) := by decide +kernel
theorem dX4_encipher_88 : decode cX4_encipher 88 = .ok (.ireturn, 1) := by decide +kernel
theorem dX4_may_0 : decode cX4_may 0 = .ok (.aload_n 0, 1) := by decide +kernel
theorem dX4_may_1 : decode cX4_may 1 = .ok (.iload_n 1, 1) := by decide +kernel
theorem dX4_may_2 : decode cX4_may 2 = .ok (.invokevirtual 95, 3) := by decide +kernel
theorem dX4_may_5 : decode cX4_may 5 = .ok (.astore 4, 2) := by decide +kernel
theorem dX4_may_7 : decode cX4_may 7 = .ok (.aload 4, 2) := by decide +kernel
theorem dX4_may_9 : decode cX4_may 9 = .ok (.ifnull 11, 3) := by decide +kernel
theorem dX4_may_12 : decode cX4_may 12 = .ok (.aload_n 0, 1) := by decide +kernel
theorem dX4_may_13 : decode cX4_may 13 = .ok (.iload_n 2, 1) := by decide +kernel
theorem dX4_may_14 : decode cX4_may 14 = .ok (.invokevirtual 55, 3) := by decide +kernel
theorem dX4_may_17 : decode cX4_may 17 = .ok (.ifnonnull 5, 3) := by decide +kernel
theorem dX4_may_20 : decode cX4_may 20 = .ok (.iconst (-1), 1) := by decide +kernel
theorem dX4_may_21 : decode cX4_may 21 = .ok (.ireturn, 1) := by decide +kernel
theorem dX4_may_22 : decode cX4_may 22 = .ok (.aload 4, 2) := by decide +kernel
theorem dX4_may_24 : decode cX4_may 24 = .ok (.iload_n 2, 1) := by decide +kernel
theorem dX4_may_25 : decode cX4_may 25 = .ok (.iload_n 3, 1) := by decide +kernel
theorem dX4_may_26 : decode cX4_may 26 = .ok (.invokevirtual 154, 3) := by decide +kernel
theorem dX4_may_29 : decode cX4_may 29 = .ok (.aload 4, 2) := by decide +kernel
theorem dX4_may_31 : decode cX4_may 31 = .ok (.invokevirtual 158, 3) := by decide +kernel
theorem dX4_may_34 : decode cX4_may 34 = .ok (.ireturn, 1) := by decide +kernel
theorem dX4_findKey_0 : decode cX4_findKey 0 = .ok (.iload_n 1, 1) := by decide +kernel
theorem dX4_findKey_1 : decode cX4_findKey 1 = .ok (.iconst 1, 1) := by decide +kernel
theorem dX4_findKey_2 : decode cX4_findKey 2 = .ok (.if_icmp .lt 28, 3) := by decide +kernel
theorem dX4_findKey_5 : decode cX4_findKey 5 = .ok (.iload_n 1, 1) := by decide +kernel
theorem dX4_findKey_6 : decode cX4_findKey 6 = .ok (.aload_n 0, 1) := by decide +kernel
theorem dX4_findKey_7 : decode cX4_findKey 7 = .ok (.getfield 50, 3) := by decide +kernel
theorem dX4_findKey_10 : decode cX4_findKey 10 = .ok (.if_icmp .gt 20, 3) := by decide +kernel
theorem dX4_findKey_13 : decode cX4_findKey 13 = .ok (.iload_n 1, 1) := by decide +kernel
theorem dX4_findKey_14 : decode cX4_findKey 14 = .ok (.bipush 16, 2) := by decide +kernel
theorem dX4_findKey_16 : decode cX4_findKey 16 = .ok (.if_icmp .gt 14, 3) := by decide +kernel
theorem dX4_findKey_19 : decode cX4_findKey 19 = .ok (.aload_n 0, 1) := by decide +kernel
theorem dX4_findKey_20 : decode cX4_findKey 20 = .ok (.getfield 11, 3) := by decide +kernel
theorem dX4_findKey_23 : decode cX4_findKey 23 = .ok (.iload_n 1, 1) := by decide +kernel
theorem dX4_findKey_24 : decode cX4_findKey 24 = .ok (.iconst 1, 1) := by decide +kernel
theorem dX4_findKey_25 : decode cX4_findKey 25 = .ok (.isub, 1) := by decide +kernel
theorem dX4_findKey_26 : decode cX4_findKey 26 = .ok (.aaload, 1) := by decide +kernel
theorem dX4_findKey_27 : decode cX4_findKey 27 = .ok (.goto 4, 3) := by decide +kernel
theorem dX4_findKey_30 : decode cX4_findKey 30 = .ok (.aconst_null, 1) := by decide +kernel
theorem dX4_findKey_31 : decode cX4_findKey 31 = .ok (.areturn, 1) := by decide +kernel
theorem dX4_findSender_0 : decode cX4_findSender 0 = .ok (.iload_n 1, 1) := by decide +kernel
theorem dX4_findSender_1 : decode cX4_findSender 1 = .ok (.iconst 1, 1) := by decide +kernel
theorem dX4_findSender_2 : decode cX4_findSender 2 = .ok (.if_icmp .lt 20, 3) := by decide +kernel
theorem dX4_findSender_5 : decode cX4_findSender 5 = .ok (.iload_n 1, 1) := by decide +kernel
theorem dX4_findSender_6 : decode cX4_findSender 6 = .ok (.bipush 64, 2) := by decide +kernel
theorem dX4_findSender_8 : decode cX4_findSender 8 = .ok (.if_icmp .gt 14, 3) := by decide +kernel
theorem dX4_findSender_11 : decode cX4_findSender 11 = .ok (.aload_n 0, 1) := by decide +kernel
theorem dX4_findSender_12 : decode cX4_findSender 12 = .ok (.getfield 17, 3) := by decide +kernel
theorem dX4_findSender_15 : decode cX4_findSender 15 = .ok (.iload_n 1, 1) := by decide +kernel
theorem dX4_findSender_16 : decode cX4_findSender 16 = .ok (.iconst 1, 1) := by decide +kernel
theorem dX4_findSender_17 : decode cX4_findSender 17 = .ok (.isub, 1) := by decide +kernel
theorem dX4_findSender_18 : decode cX4_findSender 18 = .ok (.aaload, 1) := by decide +kernel
theorem dX4_findSender_19 : decode cX4_findSender 19 = .ok (.goto 4, 3) := by decide +kernel
theorem dX4_findSender_22 : decode cX4_findSender 22 = .ok (.aconst_null, 1) := by decide +kernel
theorem dX4_findSender_23 : decode cX4_findSender 23 = .ok (.areturn, 1) := by decide +kernel
theorem dX4_emptyMessage_0 : decode cX4_emptyMessage 0 = .ok (.aload_n 0, 1) := by decide +kernel
theorem dX4_emptyMessage_1 : decode cX4_emptyMessage 1 = .ok (.iconst 0, 1) := by decide +kernel
theorem dX4_emptyMessage_2 : decode cX4_emptyMessage 2 = .ok (.putfield 62, 3) := by decide +kernel
theorem dX4_emptyMessage_5 : decode cX4_emptyMessage 5 = .ok (.return_, 1) := by decide +kernel
theorem dX4_answerBits_0 : decode cX4_answerBits 0 = .ok (.iconst 0, 1) := by decide +kernel
theorem dX4_answerBits_1 : decode cX4_answerBits 1 = .ok (.istore_n 3, 1) := by decide +kernel
theorem dX4_answerBits_2 : decode cX4_answerBits 2 = .ok (.iload_n 3, 1) := by decide +kernel
theorem dX4_answerBits_3 : decode cX4_answerBits 3 = .ok (.bipush 16, 2) := by decide +kernel
theorem dX4_answerBits_5 : decode cX4_answerBits 5 = .ok (.if_icmp .ge 41, 3) := by decide +kernel
theorem dX4_answerBits_8 : decode cX4_answerBits 8 = .ok (.iconst 0, 1) := by decide +kernel
theorem dX4_answerBits_9 : decode cX4_answerBits 9 = .ok (.bipush 8, 2) := by decide +kernel
theorem dX4_answerBits_11 : decode cX4_answerBits 11 = .ok (.iload_n 2, 1) := by decide +kernel
theorem dX4_answerBits_12 : decode cX4_answerBits 12 = .ok (.bipush 8, 2) := by decide +kernel
theorem dX4_answerBits_14 : decode cX4_answerBits 14 = .ok (.iload_n 3, 1) := by decide +kernel
theorem dX4_answerBits_15 : decode cX4_answerBits 15 = .ok (.imul, 1) := by decide +kernel
theorem dX4_answerBits_16 : decode cX4_answerBits 16 = .ok (.isub, 1) := by decide +kernel
theorem dX4_answerBits_17 : decode cX4_answerBits 17 = .ok (.invokestatic 162, 3) := by decide +kernel
theorem dX4_answerBits_20 : decode cX4_answerBits 20 = .ok (.invokestatic 168, 3) := by decide +kernel
theorem dX4_answerBits_23 : decode cX4_answerBits 23 = .ok (.istore 4, 2) := by decide +kernel
theorem dX4_answerBits_25 : decode cX4_answerBits 25 = .ok (.aload_n 0, 1) := by decide +kernel
theorem dX4_answerBits_26 : decode cX4_answerBits 26 = .ok (.getfield 25, 3) := by decide +kernel
theorem dX4_answerBits_29 : decode cX4_answerBits 29 = .ok (.iload_n 3, 1) := by decide +kernel
theorem dX4_answerBits_30 : decode cX4_answerBits 30 = .ok (.aload_n 1, 1) := by decide +kernel
theorem dX4_answerBits_31 : decode cX4_answerBits 31 = .ok (.iload_n 3, 1) := by decide +kernel
theorem dX4_answerBits_32 : decode cX4_answerBits 32 = .ok (.iaload, 1) := by decide +kernel
theorem dX4_answerBits_33 : decode cX4_answerBits 33 = .ok (.ldc 171, 2) := by decide +kernel
theorem dX4_answerBits_35 : decode cX4_answerBits 35 = .ok (.iload 4, 2) := by decide +kernel
theorem dX4_answerBits_37 : decode cX4_answerBits 37 = .ok (.ishr, 1) := by decide +kernel
theorem dX4_answerBits_38 : decode cX4_answerBits 38 = .ok (.iand, 1) := by decide +kernel
theorem dX4_answerBits_39 : decode cX4_answerBits 39 = .ok (.iastore, 1) := by decide +kernel
theorem dX4_answerBits_40 : decode cX4_answerBits 40 = .ok (.iinc 3 1, 3) := by decide +kernel
theorem dX4_answerBits_43 : decode cX4_answerBits 43 = .ok (.goto (-41), 3) := by decide +kernel
theorem dX4_answerBits_46 : decode cX4_answerBits 46 = .ok (.aload_n 0, 1) := by decide +kernel
theorem dX4_answerBits_47 : decode cX4_answerBits 47 = .ok (.iload_n 2, 1) := by decide +kernel
theorem dX4_answerBits_48 : decode cX4_answerBits 48 = .ok (.bipush 7, 2) := by decide +kernel
theorem dX4_answerBits_50 : decode cX4_answerBits 50 = .ok (.iadd, 1) := by decide +kernel
theorem dX4_answerBits_51 : decode cX4_answerBits 51 = .ok (.bipush 8, 2) := by decide +kernel
theorem dX4_answerBits_53 : decode cX4_answerBits 53 = .ok (.idiv, 1) := by decide +kernel
theorem dX4_answerBits_54 : decode cX4_answerBits 54 = .ok (.putfield 85, 3) := by decide +kernel
theorem dX4_answerBits_57 : decode cX4_answerBits 57 = .ok (.return_, 1) := by decide +kernel
theorem dX4_isCodedRow_0 : decode cX4_isCodedRow 0 = .ok (.aload_n 0, 1) := by decide +kernel
theorem dX4_isCodedRow_1 : decode cX4_isCodedRow 1 = .ok (.getfield 62, 3) := by decide +kernel
theorem dX4_isCodedRow_4 : decode cX4_isCodedRow 4 = .ok (.bipush 8, 2) := by decide +kernel
theorem dX4_isCodedRow_6 : decode cX4_isCodedRow 6 = .ok (.isub, 1) := by decide +kernel
theorem dX4_isCodedRow_7 : decode cX4_isCodedRow 7 = .ok (.istore 5, 2) := by decide +kernel
theorem dX4_isCodedRow_9 : decode cX4_isCodedRow 9 = .ok (.aload_n 0, 1) := by decide +kernel
theorem dX4_isCodedRow_10 : decode cX4_isCodedRow 10 = .ok (.getfield 43, 3) := by decide +kernel
theorem dX4_isCodedRow_13 : decode cX4_isCodedRow 13 = .ok (.aload_n 1, 1) := by decide +kernel
theorem dX4_isCodedRow_14 : decode cX4_isCodedRow 14 = .ok (.invokevirtual 65, 3) := by decide +kernel
theorem dX4_isCodedRow_17 : decode cX4_isCodedRow 17 = .ok (.aload_n 0, 1) := by decide +kernel
theorem dX4_isCodedRow_18 : decode cX4_isCodedRow 18 = .ok (.getfield 43, 3) := by decide +kernel
theorem dX4_isCodedRow_21 : decode cX4_isCodedRow 21 = .ok (.aload_n 2, 1) := by decide +kernel
theorem dX4_isCodedRow_22 : decode cX4_isCodedRow 22 = .ok (.getfield 172, 3) := by decide +kernel
theorem dX4_isCodedRow_25 : decode cX4_isCodedRow 25 = .ok (.i2l, 1) := by decide +kernel
theorem dX4_isCodedRow_26 : decode cX4_isCodedRow 26 = .ok (.iconst 1, 1) := by decide +kernel
theorem dX4_isCodedRow_27 : decode cX4_isCodedRow 27 = .ok (.invokevirtual 175, 3) := by decide +kernel
theorem dX4_isCodedRow_30 : decode cX4_isCodedRow 30 = .ok (.aload_n 0, 1) := by decide +kernel
theorem dX4_isCodedRow_31 : decode cX4_isCodedRow 31 = .ok (.getfield 43, 3) := by decide +kernel
theorem dX4_isCodedRow_34 : decode cX4_isCodedRow 34 = .ok (.aload_n 0, 1) := by decide +kernel
theorem dX4_isCodedRow_35 : decode cX4_isCodedRow 35 = .ok (.getfield 148, 3) := by decide +kernel
theorem dX4_isCodedRow_38 : decode cX4_isCodedRow 38 = .ok (.iconst 4, 1) := by decide +kernel
theorem dX4_isCodedRow_39 : decode cX4_isCodedRow 39 = .ok (.invokevirtual 175, 3) := by decide +kernel
theorem dX4_isCodedRow_42 : decode cX4_isCodedRow 42 = .ok (.aload_n 0, 1) := by decide +kernel
theorem dX4_isCodedRow_43 : decode cX4_isCodedRow 43 = .ok (.getfield 43, 3) := by decide +kernel
theorem dX4_isCodedRow_46 : decode cX4_isCodedRow 46 = .ok (.lload_n 3, 1) := by decide +kernel
theorem dX4_isCodedRow_47 : decode cX4_isCodedRow 47 = .ok (.bipush 8, 2) := by decide +kernel
theorem dX4_isCodedRow_49 : decode cX4_isCodedRow 49 = .ok (.invokevirtual 175, 3) := by decide +kernel
theorem dX4_isCodedRow_52 : decode cX4_isCodedRow 52 = .ok (.aload_n 0, 1) := by decide +kernel
theorem dX4_isCodedRow_53 : decode cX4_isCodedRow 53 = .ok (.getfield 43, 3) := by decide +kernel
theorem dX4_isCodedRow_56 : decode cX4_isCodedRow 56 = .ok (.aload_n 0, 1) := by decide +kernel
theorem dX4_isCodedRow_57 : decode cX4_isCodedRow 57 = .ok (.getfield 21, 3) := by decide +kernel
theorem dX4_isCodedRow_60 : decode cX4_isCodedRow 60 = .ok (.iload 5, 2) := by decide +kernel
theorem dX4_isCodedRow_62 : decode cX4_isCodedRow 62 = .ok (.invokevirtual 69, 3) := by decide +kernel
theorem dX4_isCodedRow_65 : decode cX4_isCodedRow 65 = .ok (.aload_n 0, 1) := by decide +kernel
theorem dX4_isCodedRow_66 : decode cX4_isCodedRow 66 = .ok (.getfield 43, 3) := by decide +kernel
theorem dX4_isCodedRow_69 : decode cX4_isCodedRow 69 = .ok (.invokevirtual 73, 3) := by decide +kernel
theorem dX4_isCodedRow_72 : decode cX4_isCodedRow 72 = .ok (.aload_n 0, 1) := by decide +kernel
theorem dX4_isCodedRow_73 : decode cX4_isCodedRow 73 = .ok (.getfield 43, 3) := by decide +kernel
theorem dX4_isCodedRow_76 : decode cX4_isCodedRow 76 = .ok (.aload_n 0, 1) := by decide +kernel
theorem dX4_isCodedRow_77 : decode cX4_isCodedRow 77 = .ok (.getfield 21, 3) := by decide +kernel
theorem dX4_isCodedRow_80 : decode cX4_isCodedRow 80 = .ok (.iload 5, 2) := by decide +kernel
theorem dX4_isCodedRow_82 : decode cX4_isCodedRow 82 = .ok (.invokevirtual 179, 3) := by decide +kernel
theorem dX4_isCodedRow_85 : decode cX4_isCodedRow 85 = .ok (.ireturn, 1) := by decide +kernel
theorem dX4_isWrappedKey_0 : decode cX4_isWrappedKey 0 = .ok (.aload_n 0, 1) := by decide +kernel
theorem dX4_isWrappedKey_1 : decode cX4_isWrappedKey 1 = .ok (.getfield 43, 3) := by decide +kernel
theorem dX4_isWrappedKey_4 : decode cX4_isWrappedKey 4 = .ok (.aload_n 1, 1) := by decide +kernel
theorem dX4_isWrappedKey_5 : decode cX4_isWrappedKey 5 = .ok (.invokevirtual 65, 3) := by decide +kernel
theorem dX4_isWrappedKey_8 : decode cX4_isWrappedKey 8 = .ok (.aload_n 0, 1) := by decide +kernel
theorem dX4_isWrappedKey_9 : decode cX4_isWrappedKey 9 = .ok (.getfield 43, 3) := by decide +kernel
theorem dX4_isWrappedKey_12 : decode cX4_isWrappedKey 12 = .ok (.lload_n 2, 1) := by decide +kernel
theorem dX4_isWrappedKey_13 : decode cX4_isWrappedKey 13 = .ok (.bipush 8, 2) := by decide +kernel
theorem dX4_isWrappedKey_15 : decode cX4_isWrappedKey 15 = .ok (.invokevirtual 175, 3) := by decide +kernel
theorem dX4_isWrappedKey_18 : decode cX4_isWrappedKey 18 = .ok (.aload_n 0, 1) := by decide +kernel
theorem dX4_isWrappedKey_19 : decode cX4_isWrappedKey 19 = .ok (.getfield 43, 3) := by decide +kernel
theorem dX4_isWrappedKey_22 : decode cX4_isWrappedKey 22 = .ok (.aload_n 0, 1) := by decide +kernel
theorem dX4_isWrappedKey_23 : decode cX4_isWrappedKey 23 = .ok (.getfield 21, 3) := by decide +kernel
theorem dX4_isWrappedKey_26 : decode cX4_isWrappedKey 26 = .ok (.bipush 16, 2) := by decide +kernel
theorem dX4_isWrappedKey_28 : decode cX4_isWrappedKey 28 = .ok (.invokevirtual 69, 3) := by decide +kernel
theorem dX4_isWrappedKey_31 : decode cX4_isWrappedKey 31 = .ok (.aload_n 0, 1) := by decide +kernel
theorem dX4_isWrappedKey_32 : decode cX4_isWrappedKey 32 = .ok (.getfield 43, 3) := by decide +kernel
theorem dX4_isWrappedKey_35 : decode cX4_isWrappedKey 35 = .ok (.invokevirtual 73, 3) := by decide +kernel
theorem dX4_isWrappedKey_38 : decode cX4_isWrappedKey 38 = .ok (.aload_n 0, 1) := by decide +kernel
theorem dX4_isWrappedKey_39 : decode cX4_isWrappedKey 39 = .ok (.getfield 43, 3) := by decide +kernel
theorem dX4_isWrappedKey_42 : decode cX4_isWrappedKey 42 = .ok (.aload_n 0, 1) := by decide +kernel
theorem dX4_isWrappedKey_43 : decode cX4_isWrappedKey 43 = .ok (.getfield 21, 3) := by decide +kernel
theorem dX4_isWrappedKey_46 : decode cX4_isWrappedKey 46 = .ok (.bipush 16, 2) := by decide +kernel
theorem dX4_isWrappedKey_48 : decode cX4_isWrappedKey 48 = .ok (.invokevirtual 179, 3) := by decide +kernel
theorem dX4_isWrappedKey_51 : decode cX4_isWrappedKey 51 = .ok (.ireturn, 1) := by decide +kernel
theorem dX4_unwrap_0 : decode cX4_unwrap 0 = .ok (.aload_n 0, 1) := by decide +kernel
theorem dX4_unwrap_1 : decode cX4_unwrap 1 = .ok (.getfield 28, 3) := by decide +kernel
theorem dX4_unwrap_4 : decode cX4_unwrap 4 = .ok (.iconst 0, 1) := by decide +kernel
theorem dX4_unwrap_5 : decode cX4_unwrap 5 = .ok (.invokestatic 134, 3) := by decide +kernel
theorem dX4_unwrap_8 : decode cX4_unwrap 8 = .ok (.aload_n 0, 1) := by decide +kernel
theorem dX4_unwrap_9 : decode cX4_unwrap 9 = .ok (.getfield 28, 3) := by decide +kernel
theorem dX4_unwrap_12 : decode cX4_unwrap 12 = .ok (.lload_n 3, 1) := by decide +kernel
theorem dX4_unwrap_13 : decode cX4_unwrap 13 = .ok (.invokestatic 183, 3) := by decide +kernel
theorem dX4_unwrap_16 : decode cX4_unwrap 16 = .ok (.aload_n 0, 1) := by decide +kernel
theorem dX4_unwrap_17 : decode cX4_unwrap 17 = .ok (.getfield 34, 3) := by decide +kernel
theorem dX4_unwrap_20 : decode cX4_unwrap 20 = .ok (.aload_n 2, 1) := by decide +kernel
theorem dX4_unwrap_21 : decode cX4_unwrap 21 = .ok (.invokevirtual 139, 3) := by decide +kernel
theorem dX4_unwrap_24 : decode cX4_unwrap 24 = .ok (.aload_n 0, 1) := by decide +kernel
theorem dX4_unwrap_25 : decode cX4_unwrap 25 = .ok (.getfield 34, 3) := by decide +kernel
theorem dX4_unwrap_28 : decode cX4_unwrap 28 = .ok (.aload_n 0, 1) := by decide +kernel
theorem dX4_unwrap_29 : decode cX4_unwrap 29 = .ok (.getfield 28, 3) := by decide +kernel
theorem dX4_unwrap_32 : decode cX4_unwrap 32 = .ok (.invokevirtual 142, 3) := by decide +kernel
theorem dX4_unwrap_35 : decode cX4_unwrap 35 = .ok (.iconst 0, 1) := by decide +kernel
theorem dX4_unwrap_36 : decode cX4_unwrap 36 = .ok (.istore 5, 2) := by decide +kernel
theorem dX4_unwrap_38 : decode cX4_unwrap 38 = .ok (.iload 5, 2) := by decide +kernel
theorem dX4_unwrap_40 : decode cX4_unwrap 40 = .ok (.bipush 16, 2) := by decide +kernel
theorem dX4_unwrap_42 : decode cX4_unwrap 42 = .ok (.if_icmp .ge 31, 3) := by decide +kernel
theorem dX4_unwrap_45 : decode cX4_unwrap 45 = .ok (.aload_n 1, 1) := by decide +kernel
theorem dX4_unwrap_46 : decode cX4_unwrap 46 = .ok (.getfield 187, 3) := by decide +kernel
theorem dX4_unwrap_49 : decode cX4_unwrap 49 = .ok (.iload 5, 2) := by decide +kernel
theorem dX4_unwrap_51 : decode cX4_unwrap 51 = .ok (.aload_n 0, 1) := by decide +kernel
theorem dX4_unwrap_52 : decode cX4_unwrap 52 = .ok (.getfield 21, 3) := by decide +kernel
theorem dX4_unwrap_55 : decode cX4_unwrap 55 = .ok (.iload 5, 2) := by decide +kernel
theorem dX4_unwrap_57 : decode cX4_unwrap 57 = .ok (.iaload, 1) := by decide +kernel
theorem dX4_unwrap_58 : decode cX4_unwrap 58 = .ok (.aload_n 0, 1) := by decide +kernel
theorem dX4_unwrap_59 : decode cX4_unwrap 59 = .ok (.getfield 28, 3) := by decide +kernel
theorem dX4_unwrap_62 : decode cX4_unwrap 62 = .ok (.iload 5, 2) := by decide +kernel
theorem dX4_unwrap_64 : decode cX4_unwrap 64 = .ok (.iaload, 1) := by decide +kernel
theorem dX4_unwrap_65 : decode cX4_unwrap 65 = .ok (.ixor, 1) := by decide +kernel
theorem dX4_unwrap_66 : decode cX4_unwrap 66 = .ok (.iastore, 1) := by decide +kernel
theorem dX4_unwrap_67 : decode cX4_unwrap 67 = .ok (.iinc 5 1, 3) := by decide +kernel
theorem dX4_unwrap_70 : decode cX4_unwrap 70 = .ok (.goto (-32), 3) := by decide +kernel
theorem dX4_unwrap_73 : decode cX4_unwrap 73 = .ok (.aload_n 1, 1) := by decide +kernel
theorem dX4_unwrap_74 : decode cX4_unwrap 74 = .ok (.iconst 0, 1) := by decide +kernel
theorem dX4_unwrap_75 : decode cX4_unwrap 75 = .ok (.putfield 190, 3) := by decide +kernel
theorem dX4_unwrap_78 : decode cX4_unwrap 78 = .ok (.aload_n 1, 1) := by decide +kernel
theorem dX4_unwrap_79 : decode cX4_unwrap 79 = .ok (.lload_n 3, 1) := by decide +kernel
theorem dX4_unwrap_80 : decode cX4_unwrap 80 = .ok (.putfield 125, 3) := by decide +kernel
theorem dX4_unwrap_83 : decode cX4_unwrap 83 = .ok (.return_, 1) := by decide +kernel
theorem dX4_putNumberAtEnd_0 : decode cX4_putNumberAtEnd 0 = .ok (.iconst 0, 1) := by decide +kernel
theorem dX4_putNumberAtEnd_1 : decode cX4_putNumberAtEnd 1 = .ok (.istore_n 3, 1) := by decide +kernel
theorem dX4_putNumberAtEnd_2 : decode cX4_putNumberAtEnd 2 = .ok (.iload_n 3, 1) := by decide +kernel
theorem dX4_putNumberAtEnd_3 : decode cX4_putNumberAtEnd 3 = .ok (.bipush 8, 2) := by decide +kernel
theorem dX4_putNumberAtEnd_5 : decode cX4_putNumberAtEnd 5 = .ok (.if_icmp .ge 26, 3) := by decide +kernel
theorem dX4_putNumberAtEnd_8 : decode cX4_putNumberAtEnd 8 = .ok (.aload_n 0, 1) := by decide +kernel
theorem dX4_putNumberAtEnd_9 : decode cX4_putNumberAtEnd 9 = .ok (.bipush 15, 2) := by decide +kernel
theorem dX4_putNumberAtEnd_11 : decode cX4_putNumberAtEnd 11 = .ok (.iload_n 3, 1) := by decide +kernel
theorem dX4_putNumberAtEnd_12 : decode cX4_putNumberAtEnd 12 = .ok (.isub, 1) := by decide +kernel
theorem dX4_putNumberAtEnd_13 : decode cX4_putNumberAtEnd 13 = .ok (.lload_n 1, 1) := by decide +kernel
theorem dX4_putNumberAtEnd_14 : decode cX4_putNumberAtEnd 14 = .ok (.bipush 8, 2) := by decide +kernel
theorem dX4_putNumberAtEnd_16 : decode cX4_putNumberAtEnd 16 = .ok (.iload_n 3, 1) := by decide +kernel
theorem dX4_putNumberAtEnd_17 : decode cX4_putNumberAtEnd 17 = .ok (.imul, 1) := by decide +kernel
theorem dX4_putNumberAtEnd_18 : decode cX4_putNumberAtEnd 18 = .ok (.lshr, 1) := by decide +kernel
theorem dX4_putNumberAtEnd_19 : decode cX4_putNumberAtEnd 19 = .ok (.ldc2_w 193, 3) := by decide +kernel
theorem dX4_putNumberAtEnd_22 : decode cX4_putNumberAtEnd 22 = .ok (.land, 1) := by decide +kernel
theorem dX4_putNumberAtEnd_23 : decode cX4_putNumberAtEnd 23 = .ok (.l2i, 1) := by decide +kernel
theorem dX4_putNumberAtEnd_24 : decode cX4_putNumberAtEnd 24 = .ok (.iastore, 1) := by decide +kernel
theorem dX4_putNumberAtEnd_25 : decode cX4_putNumberAtEnd 25 = .ok (.iinc 3 1, 3) := by decide +kernel
theorem dX4_putNumberAtEnd_28 : decode cX4_putNumberAtEnd 28 = .ok (.goto (-26), 3) := by decide +kernel
theorem dX4_putNumberAtEnd_31 : decode cX4_putNumberAtEnd 31 = .ok (.return_, 1) := by decide +kernel
theorem dX4_timesT_0 : decode cX4_timesT 0 = .ok (.iload_n 0, 1) := by decide +kernel
theorem dX4_timesT_1 : decode cX4_timesT 1 = .ok (.iconst 1, 1) := by decide +kernel
theorem dX4_timesT_2 : decode cX4_timesT 2 = .ok (.ishl, 1) := by decide +kernel
theorem dX4_timesT_3 : decode cX4_timesT 3 = .ok (.istore_n 1, 1) := by decide +kernel
theorem dX4_timesT_4 : decode cX4_timesT 4 = .ok (.iload_n 0, 1) := by decide +kernel
theorem dX4_timesT_5 : decode cX4_timesT 5 = .ok (.sipush 128, 3) := by decide +kernel
theorem dX4_timesT_8 : decode cX4_timesT 8 = .ok (.iand, 1) := by decide +kernel
theorem dX4_timesT_9 : decode cX4_timesT 9 = .ok (.ifCond .eq 14, 3) := by decide +kernel
theorem dX4_timesT_12 : decode cX4_timesT 12 = .ok (.iload_n 1, 1) := by decide +kernel
theorem dX4_timesT_13 : decode cX4_timesT 13 = .ok (.bipush 27, 2) := by decide +kernel
theorem dX4_timesT_15 : decode cX4_timesT 15 = .ok (.ixor, 1) := by decide +kernel
theorem dX4_timesT_16 : decode cX4_timesT 16 = .ok (.sipush 255, 3) := by decide +kernel
theorem dX4_timesT_19 : decode cX4_timesT 19 = .ok (.iand, 1) := by decide +kernel
theorem dX4_timesT_20 : decode cX4_timesT 20 = .ok (.goto 8, 3) := by decide +kernel
theorem dX4_timesT_23 : decode cX4_timesT 23 = .ok (.iload_n 1, 1) := by decide +kernel
theorem dX4_timesT_24 : decode cX4_timesT 24 = .ok (.sipush 255, 3) := by decide +kernel
theorem dX4_timesT_27 : decode cX4_timesT 27 = .ok (.iand, 1) := by decide +kernel
theorem dX4_timesT_28 : decode cX4_timesT 28 = .ok (.ireturn, 1) := by decide +kernel
theorem dX4_substitute_0 : decode cX4_substitute 0 = .ok (.getstatic 195, 3) := by decide +kernel
theorem dX4_substitute_3 : decode cX4_substitute 3 = .ok (.iload_n 0, 1) := by decide +kernel
theorem dX4_substitute_4 : decode cX4_substitute 4 = .ok (.sipush 255, 3) := by decide +kernel
theorem dX4_substitute_7 : decode cX4_substitute 7 = .ok (.iand, 1) := by decide +kernel
theorem dX4_substitute_8 : decode cX4_substitute 8 = .ok (.iaload, 1) := by decide +kernel
theorem dX4_substitute_9 : decode cX4_substitute 9 = .ok (.ireturn, 1) := by decide +kernel
