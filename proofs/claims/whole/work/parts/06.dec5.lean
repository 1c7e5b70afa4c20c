theorem dX5_init_0 : decode cX5_init 0 = .ok (.aload_n 0, 1) := by decide +kernel
theorem dX5_init_1 : decode cX5_init 1 = .ok (.invokespecial 1, 3) := by decide +kernel
theorem dX5_init_4 : decode cX5_init 4 = .ok (.aload_n 0, 1) := by decide +kernel
theorem dX5_init_5 : decode cX5_init 5 = .ok (.sipush 272, 3) := by decide +kernel
theorem dX5_init_8 : decode cX5_init 8 = .ok (.newarray .int, 2) := by decide +kernel
theorem dX5_init_10 : decode cX5_init 10 = .ok (.putfield 7, 3) := by decide +kernel
theorem dX5_init_13 : decode cX5_init 13 = .ok (.aload_n 0, 1) := by decide +kernel
theorem dX5_init_14 : decode cX5_init 14 = .ok (.bipush 17, 2) := by decide +kernel
theorem dX5_init_16 : decode cX5_init 16 = .ok (.newarray .int, 2) := by decide +kernel
theorem dX5_init_18 : decode cX5_init 18 = .ok (.putfield 13, 3) := by decide +kernel
theorem dX5_init_21 : decode cX5_init 21 = .ok (.aload_n 0, 1) := by decide +kernel
theorem dX5_init_22 : decode cX5_init 22 = .ok (.bipush 17, 2) := by decide +kernel
theorem dX5_init_24 : decode cX5_init 24 = .ok (.newarray .long, 2) := by decide +kernel
theorem dX5_init_26 : decode cX5_init 26 = .ok (.putfield 16, 3) := by decide +kernel
theorem dX5_init_29 : decode cX5_init 29 = .ok (.aload_n 0, 1) := by decide +kernel
theorem dX5_init_30 : decode cX5_init 30 = .ok (.sipush 300, 3) := by decide +kernel
theorem dX5_init_33 : decode cX5_init 33 = .ok (.newarray .int, 2) := by decide +kernel
theorem dX5_init_35 : decode cX5_init 35 = .ok (.putfield 20, 3) := by decide +kernel
theorem dX5_init_38 : decode cX5_init 38 = .ok (.aload_n 0, 1) := by decide +kernel
theorem dX5_init_39 : decode cX5_init 39 = .ok (.bipush 16, 2) := by decide +kernel
theorem dX5_init_41 : decode cX5_init 41 = .ok (.newarray .int, 2) := by decide +kernel
theorem dX5_init_43 : decode cX5_init 43 = .ok (.putfield 23, 3) := by decide +kernel
theorem dX5_init_46 : decode cX5_init 46 = .ok (.aload_n 0, 1) := by decide +kernel
theorem dX5_init_47 : decode cX5_init 47 = .ok (.sipush 1105, 3) := by decide +kernel
theorem dX5_init_50 : decode cX5_init 50 = .ok (.newarray .boolean, 2) := by decide +kernel
theorem dX5_init_52 : decode cX5_init 52 = .ok (.putfield 26, 3) := by decide +kernel
theorem dX5_init_55 : decode cX5_init 55 = .ok (.aload_n 0, 1) := by decide +kernel
theorem dX5_init_56 : decode cX5_init 56 = .ok (.bipush 65, 2) := by decide +kernel
theorem dX5_init_58 : decode cX5_init 58 = .ok (.newarray .long, 2) := by decide +kernel
theorem dX5_init_60 : decode cX5_init 60 = .ok (.putfield 30, 3) := by decide +kernel
theorem dX5_init_63 : decode cX5_init 63 = .ok (.aload_n 0, 1) := by decide +kernel
theorem dX5_init_64 : decode cX5_init 64 = .ok (.bipush 65, 2) := by decide +kernel
theorem dX5_init_66 : decode cX5_init 66 = .ok (.newarray .int, 2) := by decide +kernel
theorem dX5_init_68 : decode cX5_init 68 = .ok (.putfield 33, 3) := by decide +kernel
theorem dX5_init_71 : decode cX5_init 71 = .ok (.aload_n 0, 1) := by decide +kernel
theorem dX5_init_72 : decode cX5_init 72 = .ok (.bipush 16, 2) := by decide +kernel
theorem dX5_init_74 : decode cX5_init 74 = .ok (.newarray .int, 2) := by decide +kernel
theorem dX5_init_76 : decode cX5_init 76 = .ok (.putfield 36, 3) := by decide +kernel
theorem dX5_init_79 : decode cX5_init 79 = .ok (.aload_n 0, 1) := by decide +kernel
theorem dX5_init_80 : decode cX5_init 80 = .ok (.bipush 16, 2) := by decide +kernel
theorem dX5_init_82 : decode cX5_init 82 = .ok (.newarray .int, 2) := by decide +kernel
theorem dX5_init_84 : decode cX5_init 84 = .ok (.putfield 39, 3) := by decide +kernel
theorem dX5_init_87 : decode cX5_init 87 = .ok (.aload_n 0, 1) := by decide +kernel
theorem dX5_init_88 : decode cX5_init 88 = .ok (.sipush 176, 3) := by decide +kernel
theorem dX5_init_91 : decode cX5_init 91 = .ok (.newarray .int, 2) := by decide +kernel
theorem dX5_init_93 : decode cX5_init 93 = .ok (.putfield 42, 3) := by decide +kernel
theorem dX5_init_96 : decode cX5_init 96 = .ok (.aload_n 0, 1) := by decide +kernel
theorem dX5_init_97 : decode cX5_init 97 = .ok (.bipush 16, 2) := by decide +kernel
theorem dX5_init_99 : decode cX5_init 99 = .ok (.newarray .int, 2) := by decide +kernel
theorem dX5_init_101 : decode cX5_init 101 = .ok (.putfield 45, 3) := by decide +kernel
theorem dX5_init_104 : decode cX5_init 104 = .ok (.aload_n 0, 1) := by decide +kernel
theorem dX5_init_105 : decode cX5_init 105 = .ok (.sipush 320, 3) := by decide +kernel
theorem dX5_init_108 : decode cX5_init 108 = .ok (.newarray .int, 2) := by decide +kernel
theorem dX5_init_110 : decode cX5_init 110 = .ok (.putfield 48, 3) := by decide +kernel
theorem dX5_init_113 : decode cX5_init 113 = .ok (.aload_n 0, 1) := by decide +kernel
theorem dX5_init_114 : decode cX5_init 114 = .ok (.sipush 256, 3) := by decide +kernel
theorem dX5_init_117 : decode cX5_init 117 = .ok (.newarray .int, 2) := by decide +kernel
theorem dX5_init_119 : decode cX5_init 119 = .ok (.putfield 51, 3) := by decide +kernel
theorem dX5_init_122 : decode cX5_init 122 = .ok (.iconst 0, 1) := by decide +kernel
theorem dX5_init_123 : decode cX5_init 123 = .ok (.istore_n 1, 1) := by decide +kernel
theorem dX5_init_124 : decode cX5_init 124 = .ok (.iload_n 1, 1) := by decide +kernel
theorem dX5_init_125 : decode cX5_init 125 = .ok (.sipush 256, 3) := by decide +kernel
theorem dX5_init_128 : decode cX5_init 128 = .ok (.if_icmp .ge 19, 3) := by decide +kernel
theorem dX5_init_131 : decode cX5_init 131 = .ok (.aload_n 0, 1) := by decide +kernel
theorem dX5_init_132 : decode cX5_init 132 = .ok (.getfield 51, 3) := by decide +kernel
theorem dX5_init_135 : decode cX5_init 135 = .ok (.iload_n 1, 1) := by decide +kernel
theorem dX5_init_136 : decode cX5_init 136 = .ok (.iload_n 1, 1) := by decide +kernel
theorem dX5_init_137 : decode cX5_init 137 = .ok (.invokestatic 54, 3) := by decide +kernel
theorem dX5_init_140 : decode cX5_init 140 = .ok (.iastore, 1) := by decide +kernel
theorem dX5_init_141 : decode cX5_init 141 = .ok (.iinc 1 1, 3) := by decide +kernel
theorem dX5_init_144 : decode cX5_init 144 = .ok (.goto (-20), 3) := by decide +kernel
theorem dX5_init_147 : decode cX5_init 147 = .ok (.return_, 1) := by decide +kernel
theorem dX5_substitute_0 : decode cX5_substitute 0 = .ok (.aload_n 0, 1) := by decide +kernel
theorem dX5_substitute_1 : decode cX5_substitute 1 = .ok (.getfield 51, 3) := by decide +kernel
theorem dX5_substitute_4 : decode cX5_substitute 4 = .ok (.iload_n 1, 1) := by decide +kernel
theorem dX5_substitute_5 : decode cX5_substitute 5 = .ok (.iaload, 1) := by decide +kernel
theorem dX5_substitute_6 : decode cX5_substitute 6 = .ok (.ireturn, 1) := by decide +kernel
theorem dX5_thrown_0 : decode cX5_thrown 0 = .ok (.aload_n 0, 1) := by decide +kernel
theorem dX5_thrown_1 : decode cX5_thrown 1 = .ok (.getfield 58, 3) := by decide +kernel
theorem dX5_thrown_4 : decode cX5_thrown 4 = .ok (.ireturn, 1) := by decide +kernel
theorem dX5_noKey_0 : decode cX5_noKey 0 = .ok (.aload_n 0, 1) := by decide +kernel
theorem dX5_noKey_1 : decode cX5_noKey 1 = .ok (.iconst 0, 1) := by decide +kernel
theorem dX5_noKey_2 : decode cX5_noKey 2 = .ok (.putfield 58, 3) := by decide +kernel
theorem dX5_noKey_5 : decode cX5_noKey 5 = .ok (.iload_n 1, 1) := by decide +kernel
theorem dX5_noKey_6 : decode cX5_noKey 6 = .ok (.iconst 1, 1) := by decide +kernel
theorem dX5_noKey_7 : decode cX5_noKey 7 = .ok (.if_icmp .lt 11, 3) := by decide +kernel
theorem dX5_noKey_10 : decode cX5_noKey 10 = .ok (.iload_n 1, 1) := by decide +kernel
theorem dX5_noKey_11 : decode cX5_noKey 11 = .ok (.aload_n 0, 1) := by decide +kernel
theorem dX5_noKey_12 : decode cX5_noKey 12 = .ok (.getfield 62, 3) := by decide +kernel
theorem dX5_noKey_15 : decode cX5_noKey 15 = .ok (.if_icmp .le 7, 3) := by decide +kernel
theorem dX5_noKey_18 : decode cX5_noKey 18 = .ok (.iconst 1, 1) := by decide +kernel
theorem dX5_noKey_19 : decode cX5_noKey 19 = .ok (.goto 4, 3) := by decide +kernel
theorem dX5_noKey_22 : decode cX5_noKey 22 = .ok (.iconst 0, 1) := by decide +kernel
theorem dX5_noKey_23 : decode cX5_noKey 23 = .ok (.ireturn, 1) := by decide +kernel
theorem dX5_product_0 : decode cX5_product 0 = .ok (.iconst 0, 1) := by decide +kernel
theorem dX5_product_1 : decode cX5_product 1 = .ok (.istore_n 2, 1) := by decide +kernel
theorem dX5_product_2 : decode cX5_product 2 = .ok (.iload_n 0, 1) := by decide +kernel
theorem dX5_product_3 : decode cX5_product 3 = .ok (.istore_n 3, 1) := by decide +kernel
theorem dX5_product_4 : decode cX5_product 4 = .ok (.iconst 0, 1) := by decide +kernel
theorem dX5_product_5 : decode cX5_product 5 = .ok (.istore 4, 2) := by decide +kernel
theorem dX5_product_7 : decode cX5_product 7 = .ok (.iload 4, 2) := by decide +kernel
theorem dX5_product_9 : decode cX5_product 9 = .ok (.bipush 8, 2) := by decide +kernel
theorem dX5_product_11 : decode cX5_product 11 = .ok (.if_icmp .ge 50, 3) := by decide +kernel
theorem dX5_product_14 : decode cX5_product 14 = .ok (.iload_n 1, 1) := by decide +kernel
theorem dX5_product_15 : decode cX5_product 15 = .ok (.iload 4, 2) := by decide +kernel
theorem dX5_product_17 : decode cX5_product 17 = .ok (.ishr, 1) := by decide +kernel
theorem dX5_product_18 : decode cX5_product 18 = .ok (.iconst 1, 1) := by decide +kernel
theorem dX5_product_19 : decode cX5_product 19 = .ok (.iand, 1) := by decide +kernel
theorem dX5_product_20 : decode cX5_product 20 = .ok (.iconst 1, 1) := by decide +kernel
theorem dX5_product_21 : decode cX5_product 21 = .ok (.if_icmp .ne 9, 3) := by decide +kernel
theorem dX5_product_24 : decode cX5_product 24 = .ok (.iload_n 2, 1) := by decide +kernel
theorem dX5_product_25 : decode cX5_product 25 = .ok (.iload_n 3, 1) := by decide +kernel
theorem dX5_product_26 : decode cX5_product 26 = .ok (.ixor, 1) := by decide +kernel
theorem dX5_product_27 : decode cX5_product 27 = .ok (.goto 4, 3) := by decide +kernel
theorem dX5_product_30 : decode cX5_product 30 = .ok (.iload_n 2, 1) := by decide +kernel
theorem dX5_product_31 : decode cX5_product 31 = .ok (.istore_n 2, 1) := by decide +kernel
theorem dX5_product_32 : decode cX5_product 32 = .ok (.iload_n 3, 1) := by decide +kernel
theorem dX5_product_33 : decode cX5_product 33 = .ok (.bipush 127, 2) := by decide +kernel
theorem dX5_product_35 : decode cX5_product 35 = .ok (.if_icmp .le 16, 3) := by decide +kernel
theorem dX5_product_38 : decode cX5_product 38 = .ok (.iconst 2, 1) := by decide +kernel
theorem dX5_product_39 : decode cX5_product 39 = .ok (.iload_n 3, 1) := by decide +kernel
theorem dX5_product_40 : decode cX5_product 40 = .ok (.imul, 1) := by decide +kernel
theorem dX5_product_41 : decode cX5_product 41 = .ok (.sipush 256, 3) := by decide +kernel
theorem dX5_product_44 : decode cX5_product 44 = .ok (.isub, 1) := by decide +kernel
theorem dX5_product_45 : decode cX5_product 45 = .ok (.bipush 27, 2) := by decide +kernel
theorem dX5_product_47 : decode cX5_product 47 = .ok (.ixor, 1) := by decide +kernel
theorem dX5_product_48 : decode cX5_product 48 = .ok (.goto 6, 3) := by decide +kernel
theorem dX5_product_51 : decode cX5_product 51 = .ok (.iconst 2, 1) := by decide +kernel
theorem dX5_product_52 : decode cX5_product 52 = .ok (.iload_n 3, 1) := by decide +kernel
theorem dX5_product_53 : decode cX5_product 53 = .ok (.imul, 1) := by decide +kernel
theorem dX5_product_54 : decode cX5_product 54 = .ok (.istore_n 3, 1) := by decide +kernel
theorem dX5_product_55 : decode cX5_product 55 = .ok (.iinc 4 1, 3) := by decide +kernel
theorem dX5_product_58 : decode cX5_product 58 = .ok (.goto (-51), 3) := by decide +kernel
theorem dX5_product_61 : decode cX5_product 61 = .ok (.iload_n 2, 1) := by decide +kernel
theorem dX5_product_62 : decode cX5_product 62 = .ok (.ireturn, 1) := by decide +kernel
theorem dX5_substituteOf_0 : decode cX5_substituteOf 0 = .ok (.iconst 0, 1) := by decide +kernel
theorem dX5_substituteOf_1 : decode cX5_substituteOf 1 = .ok (.istore_n 1, 1) := by decide +kernel
theorem dX5_substituteOf_2 : decode cX5_substituteOf 2 = .ok (.iload_n 0, 1) := by decide +kernel
theorem dX5_substituteOf_3 : decode cX5_substituteOf 3 = .ok (.ifCond .le 18, 3) := by decide +kernel
theorem dX5_substituteOf_6 : decode cX5_substituteOf 6 = .ok (.iload_n 0, 1) := by decide +kernel
theorem dX5_substituteOf_7 : decode cX5_substituteOf 7 = .ok (.iload_n 1, 1) := by decide +kernel
theorem dX5_substituteOf_8 : decode cX5_substituteOf 8 = .ok (.invokestatic 65, 3) := by decide +kernel
theorem dX5_substituteOf_11 : decode cX5_substituteOf 11 = .ok (.iconst 1, 1) := by decide +kernel
theorem dX5_substituteOf_12 : decode cX5_substituteOf 12 = .ok (.if_icmp .eq 9, 3) := by decide +kernel
theorem dX5_substituteOf_15 : decode cX5_substituteOf 15 = .ok (.iinc 1 1, 3) := by decide +kernel
theorem dX5_substituteOf_18 : decode cX5_substituteOf 18 = .ok (.goto (-16), 3) := by decide +kernel
theorem dX5_substituteOf_21 : decode cX5_substituteOf 21 = .ok (.bipush 99, 2) := by decide +kernel
theorem dX5_substituteOf_23 : decode cX5_substituteOf 23 = .ok (.istore_n 2, 1) := by decide +kernel
theorem dX5_substituteOf_24 : decode cX5_substituteOf 24 = .ok (.iconst 0, 1) := by decide +kernel
theorem dX5_substituteOf_25 : decode cX5_substituteOf 25 = .ok (.istore_n 3, 1) := by decide +kernel
theorem dX5_substituteOf_26 : decode cX5_substituteOf 26 = .ok (.iload_n 3, 1) := by decide +kernel
theorem dX5_substituteOf_27 : decode cX5_substituteOf 27 = .ok (.iconst 5, 1) := by decide +kernel
theorem dX5_substituteOf_28 : decode cX5_substituteOf 28 = .ok (.if_icmp .ge 26, 3) := by decide +kernel
theorem dX5_substituteOf_31 : decode cX5_substituteOf 31 = .ok (.iload_n 2, 1) := by decide +kernel
theorem dX5_substituteOf_32 : decode cX5_substituteOf 32 = .ok (.iload_n 1, 1) := by decide +kernel
theorem dX5_substituteOf_33 : decode cX5_substituteOf 33 = .ok (.iload_n 3, 1) := by decide +kernel
theorem dX5_substituteOf_34 : decode cX5_substituteOf 34 = .ok (.ishl, 1) := by decide +kernel
theorem dX5_substituteOf_35 : decode cX5_substituteOf 35 = .ok (.iload_n 1, 1) := by decide +kernel
theorem dX5_substituteOf_36 : decode cX5_substituteOf 36 = .ok (.bipush 8, 2) := by decide +kernel
theorem dX5_substituteOf_38 : decode cX5_substituteOf 38 = .ok (.iload_n 3, 1) := by decide +kernel
theorem dX5_substituteOf_39 : decode cX5_substituteOf 39 = .ok (.isub, 1) := by decide +kernel
theorem dX5_substituteOf_40 : decode cX5_substituteOf 40 = .ok (.ishr, 1) := by decide +kernel
theorem dX5_substituteOf_41 : decode cX5_substituteOf 41 = .ok (.ior, 1) := by decide +kernel
theorem dX5_substituteOf_42 : decode cX5_substituteOf 42 = .ok (.sipush 255, 3) := by decide +kernel
theorem dX5_substituteOf_45 : decode cX5_substituteOf 45 = .ok (.iand, 1) := by decide +kernel
theorem dX5_substituteOf_46 : decode cX5_substituteOf 46 = .ok (.ixor, 1) := by decide +kernel
theorem dX5_substituteOf_47 : decode cX5_substituteOf 47 = .ok (.istore_n 2, 1) := by decide +kernel
theorem dX5_substituteOf_48 : decode cX5_substituteOf 48 = .ok (.iinc 3 1, 3) := by decide +kernel
theorem dX5_substituteOf_51 : decode cX5_substituteOf 51 = .ok (.goto (-25), 3) := by decide +kernel
theorem dX5_substituteOf_54 : decode cX5_substituteOf 54 = .ok (.iload_n 2, 1) := by decide +kernel
theorem dX5_substituteOf_55 : decode cX5_substituteOf 55 = .ok (.ireturn, 1) := by decide +kernel
theorem dX5_makeRound_0 : decode cX5_makeRound 0 = .ok (.iconst 0, 1) := by decide +kernel
theorem dX5_makeRound_1 : decode cX5_makeRound 1 = .ok (.istore_n 2, 1) := by decide +kernel
theorem dX5_makeRound_2 : decode cX5_makeRound 2 = .ok (.iload_n 2, 1) := by decide +kernel
theorem dX5_makeRound_3 : decode cX5_makeRound 3 = .ok (.bipush 16, 2) := by decide +kernel
theorem dX5_makeRound_5 : decode cX5_makeRound 5 = .ok (.if_icmp .ge 23, 3) := by decide +kernel
theorem dX5_makeRound_8 : decode cX5_makeRound 8 = .ok (.aload_n 0, 1) := by decide +kernel
theorem dX5_makeRound_9 : decode cX5_makeRound 9 = .ok (.getfield 42, 3) := by decide +kernel
theorem dX5_makeRound_12 : decode cX5_makeRound 12 = .ok (.iload_n 2, 1) := by decide +kernel
theorem dX5_makeRound_13 : decode cX5_makeRound 13 = .ok (.aload_n 0, 1) := by decide +kernel
theorem dX5_makeRound_14 : decode cX5_makeRound 14 = .ok (.getfield 7, 3) := by decide +kernel
theorem dX5_makeRound_17 : decode cX5_makeRound 17 = .ok (.iload_n 1, 1) := by decide +kernel
theorem dX5_makeRound_18 : decode cX5_makeRound 18 = .ok (.iload_n 2, 1) := by decide +kernel
theorem dX5_makeRound_19 : decode cX5_makeRound 19 = .ok (.iadd, 1) := by decide +kernel
theorem dX5_makeRound_20 : decode cX5_makeRound 20 = .ok (.iaload, 1) := by decide +kernel
theorem dX5_makeRound_21 : decode cX5_makeRound 21 = .ok (.iastore, 1) := by decide +kernel
theorem dX5_makeRound_22 : decode cX5_makeRound 22 = .ok (.iinc 2 1, 3) := by decide +kernel
theorem dX5_makeRound_25 : decode cX5_makeRound 25 = .ok (.goto (-23), 3) := by decide +kernel
theorem dX5_makeRound_28 : decode cX5_makeRound 28 = .ok (.iconst 1, 1) := by decide +kernel
theorem dX5_makeRound_29 : decode cX5_makeRound 29 = .ok (.istore_n 2, 1) := by decide +kernel
theorem dX5_makeRound_30 : decode cX5_makeRound 30 = .ok (.bipush 16, 2) := by decide +kernel
theorem dX5_makeRound_32 : decode cX5_makeRound 32 = .ok (.istore_n 3, 1) := by decide +kernel
theorem dX5_makeRound_33 : decode cX5_makeRound 33 = .ok (.iload_n 3, 1) := by decide +kernel
theorem dX5_makeRound_34 : decode cX5_makeRound 34 = .ok (.sipush 176, 3) := by decide +kernel
theorem dX5_makeRound_37 : decode cX5_makeRound 37 = .ok (.if_icmp .ge 128, 3) := by decide +kernel
theorem dX5_makeRound_40 : decode cX5_makeRound 40 = .ok (.iload_n 3, 1) := by decide +kernel
theorem dX5_makeRound_41 : decode cX5_makeRound 41 = .ok (.iconst 4, 1) := by decide +kernel
theorem dX5_makeRound_42 : decode cX5_makeRound 42 = .ok (.irem, 1) := by decide +kernel
theorem dX5_makeRound_43 : decode cX5_makeRound 43 = .ok (.istore 4, 2) := by decide +kernel
theorem dX5_makeRound_45 : decode cX5_makeRound 45 = .ok (.iload_n 3, 1) := by decide +kernel
theorem dX5_makeRound_46 : decode cX5_makeRound 46 = .ok (.bipush 16, 2) := by decide +kernel
theorem dX5_makeRound_48 : decode cX5_makeRound 48 = .ok (.irem, 1) := by decide +kernel
theorem dX5_makeRound_49 : decode cX5_makeRound 49 = .ok (.iconst 4, 1) := by decide +kernel
theorem dX5_makeRound_50 : decode cX5_makeRound 50 = .ok (.if_icmp .ge 7, 3) := by decide +kernel
theorem dX5_makeRound_53 : decode cX5_makeRound 53 = .ok (.iconst 1, 1) := by decide +kernel
theorem dX5_makeRound_54 : decode cX5_makeRound 54 = .ok (.goto 4, 3) := by decide +kernel
theorem dX5_makeRound_57 : decode cX5_makeRound 57 = .ok (.iconst 0, 1) := by decide +kernel
theorem dX5_makeRound_58 : decode cX5_makeRound 58 = .ok (.istore 5, 2) := by decide +kernel
theorem dX5_makeRound_60 : decode cX5_makeRound 60 = .ok (.iload 5, 2) := by decide +kernel
theorem dX5_makeRound_62 : decode cX5_makeRound 62 = .ok (.ifCond .eq 28, 3) := by decide +kernel
theorem dX5_makeRound_65 : decode cX5_makeRound 65 = .ok (.aload_n 0, 1) := by decide +kernel
theorem dX5_makeRound_66 : decode cX5_makeRound 66 = .ok (.aload_n 0, 1) := by decide +kernel
theorem dX5_makeRound_67 : decode cX5_makeRound 67 = .ok (.getfield 42, 3) := by decide +kernel
theorem dX5_makeRound_70 : decode cX5_makeRound 70 = .ok (.iload_n 3, 1) := by decide +kernel
theorem dX5_makeRound_71 : decode cX5_makeRound 71 = .ok (.iconst 4, 1) := by decide +kernel
theorem dX5_makeRound_72 : decode cX5_makeRound 72 = .ok (.isub, 1) := by decide +kernel
theorem dX5_makeRound_73 : decode cX5_makeRound 73 = .ok (.iload 4, 2) := by decide +kernel
theorem dX5_makeRound_75 : decode cX5_makeRound 75 = .ok (.isub, 1) := by decide +kernel
theorem dX5_makeRound_76 : decode cX5_makeRound 76 = .ok (.iload 4, 2) := by decide +kernel
theorem dX5_makeRound_78 : decode cX5_makeRound 78 = .ok (.iconst 1, 1) := by decide +kernel
theorem dX5_makeRound_79 : decode cX5_makeRound 79 = .ok (.iadd, 1) := by decide +kernel
theorem dX5_makeRound_80 : decode cX5_makeRound 80 = .ok (.iconst 4, 1) := by decide +kernel
theorem dX5_makeRound_81 : decode cX5_makeRound 81 = .ok (.irem, 1) := by decide +kernel
theorem dX5_makeRound_82 : decode cX5_makeRound 82 = .ok (.iadd, 1) := by decide +kernel
theorem dX5_makeRound_83 : decode cX5_makeRound 83 = .ok (.iaload, 1) := by decide +kernel
theorem dX5_makeRound_84 : decode cX5_makeRound 84 = .ok (.invokevirtual 69, 3) := by decide +kernel
theorem dX5_makeRound_87 : decode cX5_makeRound 87 = .ok (.goto 11, 3) := by decide +kernel
theorem dX5_makeRound_90 : decode cX5_makeRound 90 = .ok (.aload_n 0, 1) := by decide +kernel
theorem dX5_makeRound_91 : decode cX5_makeRound 91 = .ok (.getfield 42, 3) := by decide +kernel
theorem dX5_makeRound_94 : decode cX5_makeRound 94 = .ok (.iload_n 3, 1) := by decide +kernel
theorem dX5_makeRound_95 : decode cX5_makeRound 95 = .ok (.iconst 4, 1) := by decide +kernel
theorem dX5_makeRound_96 : decode cX5_makeRound 96 = .ok (.isub, 1) := by decide +kernel
theorem dX5_makeRound_97 : decode cX5_makeRound 97 = .ok (.iaload, 1) := by decide +kernel
theorem dX5_makeRound_98 : decode cX5_makeRound 98 = .ok (.istore 6, 2) := by decide +kernel
theorem dX5_makeRound_100 : decode cX5_makeRound 100 = .ok (.iload 5, 2) := by decide +kernel
theorem dX5_makeRound_102 : decode cX5_makeRound 102 = .ok (.ifCond .eq 15, 3) := by decide +kernel
theorem dX5_makeRound_105 : decode cX5_makeRound 105 = .ok (.iload 4, 2) := by decide +kernel
theorem dX5_makeRound_107 : decode cX5_makeRound 107 = .ok (.ifCond .ne 10, 3) := by decide +kernel
theorem dX5_makeRound_110 : decode cX5_makeRound 110 = .ok (.iload 6, 2) := by decide +kernel
theorem dX5_makeRound_112 : decode cX5_makeRound 112 = .ok (.iload_n 2, 1) := by decide +kernel
theorem dX5_makeRound_113 : decode cX5_makeRound 113 = .ok (.ixor, 1) := by decide +kernel
theorem dX5_makeRound_114 : decode cX5_makeRound 114 = .ok (.goto 5, 3) := by decide +kernel
theorem dX5_makeRound_117 : decode cX5_makeRound 117 = .ok (.iload 6, 2) := by decide +kernel
theorem dX5_makeRound_119 : decode cX5_makeRound 119 = .ok (.istore 6, 2) := by decide +kernel
theorem dX5_makeRound_121 : decode cX5_makeRound 121 = .ok (.iload 5, 2) := by decide +kernel
theorem dX5_makeRound_123 : decode cX5_makeRound 123 = .ok (.ifCond .eq 16, 3) := by decide +kernel
theorem dX5_makeRound_126 : decode cX5_makeRound 126 = .ok (.iload 4, 2) := by decide +kernel
theorem dX5_makeRound_128 : decode cX5_makeRound 128 = .ok (.ifCond .ne 11, 3) := by decide +kernel
theorem dX5_makeRound_131 : decode cX5_makeRound 131 = .ok (.iload_n 2, 1) := by decide +kernel
theorem dX5_makeRound_132 : decode cX5_makeRound 132 = .ok (.iconst 2, 1) := by decide +kernel
theorem dX5_makeRound_133 : decode cX5_makeRound 133 = .ok (.invokestatic 65, 3) := by decide +kernel
theorem dX5_makeRound_136 : decode cX5_makeRound 136 = .ok (.goto 4, 3) := by decide +kernel
theorem dX5_makeRound_139 : decode cX5_makeRound 139 = .ok (.iload_n 2, 1) := by decide +kernel
theorem dX5_makeRound_140 : decode cX5_makeRound 140 = .ok (.istore_n 2, 1) := by decide +kernel
theorem dX5_makeRound_141 : decode cX5_makeRound 141 = .ok (.aload_n 0, 1) := by decide +kernel
theorem dX5_makeRound_142 : decode cX5_makeRound 142 = .ok (.getfield 42, 3) := by decide +kernel
theorem dX5_makeRound_145 : decode cX5_makeRound 145 = .ok (.iload_n 3, 1) := by decide +kernel
theorem dX5_makeRound_146 : decode cX5_makeRound 146 = .ok (.aload_n 0, 1) := by decide +kernel
theorem dX5_makeRound_147 : decode cX5_makeRound 147 = .ok (.getfield 42, 3) := by decide +kernel
theorem dX5_makeRound_150 : decode cX5_makeRound 150 = .ok (.iload_n 3, 1) := by decide +kernel
theorem dX5_makeRound_151 : decode cX5_makeRound 151 = .ok (.bipush 16, 2) := by decide +kernel
theorem dX5_makeRound_153 : decode cX5_makeRound 153 = .ok (.isub, 1) := by decide +kernel
theorem dX5_makeRound_154 : decode cX5_makeRound 154 = .ok (.iaload, 1) := by decide +kernel
theorem dX5_makeRound_155 : decode cX5_makeRound 155 = .ok (.iload 6, 2) := by decide +kernel
theorem dX5_makeRound_157 : decode cX5_makeRound 157 = .ok (.ixor, 1) := by decide +kernel
theorem dX5_makeRound_158 : decode cX5_makeRound 158 = .ok (.iastore, 1) := by decide +kernel
theorem dX5_makeRound_159 : decode cX5_makeRound 159 = .ok (.iinc 3 1, 3) := by decide +kernel
theorem dX5_makeRound_162 : decode cX5_makeRound 162 = .ok (.goto (-129), 3) := by decide +kernel
theorem dX5_makeRound_165 : decode cX5_makeRound 165 = .ok (.return_, 1) := by decide +kernel
theorem dX5_cipher_0 : decode cX5_cipher 0 = .ok (.aload_n 0, 1) := by decide +kernel
theorem dX5_cipher_1 : decode cX5_cipher 1 = .ok (.iload_n 1, 1) := by decide +kernel
theorem dX5_cipher_2 : decode cX5_cipher 2 = .ok (.invokevirtual 72, 3) := by decide +kernel
theorem dX5_cipher_5 : decode cX5_cipher 5 = .ok (.iconst 0, 1) := by decide +kernel
theorem dX5_cipher_6 : decode cX5_cipher 6 = .ok (.istore_n 2, 1) := by decide +kernel
theorem dX5_cipher_7 : decode cX5_cipher 7 = .ok (.iload_n 2, 1) := by decide +kernel
theorem dX5_cipher_8 : decode cX5_cipher 8 = .ok (.bipush 16, 2) := by decide +kernel
theorem dX5_cipher_10 : decode cX5_cipher 10 = .ok (.if_icmp .ge 28, 3) := by decide +kernel
theorem dX5_cipher_13 : decode cX5_cipher 13 = .ok (.aload_n 0, 1) := by decide +kernel
theorem dX5_cipher_14 : decode cX5_cipher 14 = .ok (.getfield 36, 3) := by decide +kernel
theorem dX5_cipher_17 : decode cX5_cipher 17 = .ok (.iload_n 2, 1) := by decide +kernel
theorem dX5_cipher_18 : decode cX5_cipher 18 = .ok (.aload_n 0, 1) := by decide +kernel
theorem dX5_cipher_19 : decode cX5_cipher 19 = .ok (.getfield 36, 3) := by decide +kernel
theorem dX5_cipher_22 : decode cX5_cipher 22 = .ok (.iload_n 2, 1) := by decide +kernel
theorem dX5_cipher_23 : decode cX5_cipher 23 = .ok (.iaload, 1) := by decide +kernel
theorem dX5_cipher_24 : decode cX5_cipher 24 = .ok (.aload_n 0, 1) := by decide +kernel
theorem dX5_cipher_25 : decode cX5_cipher 25 = .ok (.getfield 42, 3) := by decide +kernel
theorem dX5_cipher_28 : decode cX5_cipher 28 = .ok (.iload_n 2, 1) := by decide +kernel
theorem dX5_cipher_29 : decode cX5_cipher 29 = .ok (.iaload, 1) := by decide +kernel
theorem dX5_cipher_30 : decode cX5_cipher 30 = .ok (.ixor, 1) := by decide +kernel
theorem dX5_cipher_31 : decode cX5_cipher 31 = .ok (.iastore, 1) := by decide +kernel
theorem dX5_cipher_32 : decode cX5_cipher 32 = .ok (.iinc 2 1, 3) := by decide +kernel
theorem dX5_cipher_35 : decode cX5_cipher 35 = .ok (.goto (-28), 3) := by decide +kernel
theorem dX5_cipher_38 : decode cX5_cipher 38 = .ok (.iconst 1, 1) := by decide +kernel
theorem dX5_cipher_39 : decode cX5_cipher 39 = .ok (.istore_n 2, 1) := by decide +kernel
theorem dX5_cipher_40 : decode cX5_cipher 40 = .ok (.iload_n 2, 1) := by decide +kernel
theorem dX5_cipher_41 : decode cX5_cipher 41 = .ok (.bipush 11, 2) := by decide +kernel
theorem dX5_cipher_43 : decode cX5_cipher 43 = .ok (.if_icmp .ge 205, 3) := by decide +kernel
theorem dX5_cipher_46 : decode cX5_cipher 46 = .ok (.iconst 0, 1) := by decide +kernel
theorem dX5_cipher_47 : decode cX5_cipher 47 = .ok (.istore_n 3, 1) := by decide +kernel
theorem dX5_cipher_48 : decode cX5_cipher 48 = .ok (.iload_n 3, 1) := by decide +kernel
theorem dX5_cipher_49 : decode cX5_cipher 49 = .ok (.iconst 4, 1) := by decide +kernel
theorem dX5_cipher_50 : decode cX5_cipher 50 = .ok (.if_icmp .ge 55, 3) := by decide +kernel
theorem dX5_cipher_53 : decode cX5_cipher 53 = .ok (.iconst 0, 1) := by decide +kernel
theorem dX5_cipher_54 : decode cX5_cipher 54 = .ok (.istore 4, 2) := by decide +kernel
theorem dX5_cipher_56 : decode cX5_cipher 56 = .ok (.iload 4, 2) := by decide +kernel
theorem dX5_cipher_58 : decode cX5_cipher 58 = .ok (.iconst 4, 1) := by decide +kernel
theorem dX5_cipher_59 : decode cX5_cipher 59 = .ok (.if_icmp .ge 40, 3) := by decide +kernel
theorem dX5_cipher_62 : decode cX5_cipher 62 = .ok (.aload_n 0, 1) := by decide +kernel
theorem dX5_cipher_63 : decode cX5_cipher 63 = .ok (.getfield 39, 3) := by decide +kernel
theorem dX5_cipher_66 : decode cX5_cipher 66 = .ok (.iconst 4, 1) := by decide +kernel
theorem dX5_cipher_67 : decode cX5_cipher 67 = .ok (.iload_n 3, 1) := by decide +kernel
theorem dX5_cipher_68 : decode cX5_cipher 68 = .ok (.imul, 1) := by decide +kernel
theorem dX5_cipher_69 : decode cX5_cipher 69 = .ok (.iload 4, 2) := by decide +kernel
theorem dX5_cipher_71 : decode cX5_cipher 71 = .ok (.iadd, 1) := by decide +kernel
theorem dX5_cipher_72 : decode cX5_cipher 72 = .ok (.aload_n 0, 1) := by decide +kernel
theorem dX5_cipher_73 : decode cX5_cipher 73 = .ok (.aload_n 0, 1) := by decide +kernel
theorem dX5_cipher_74 : decode cX5_cipher 74 = .ok (.getfield 36, 3) := by decide +kernel
theorem dX5_cipher_77 : decode cX5_cipher 77 = .ok (.iconst 4, 1) := by decide +kernel
theorem dX5_cipher_78 : decode cX5_cipher 78 = .ok (.iload_n 3, 1) := by decide +kernel
theorem dX5_cipher_79 : decode cX5_cipher 79 = .ok (.iload 4, 2) := by decide +kernel
theorem dX5_cipher_81 : decode cX5_cipher 81 = .ok (.iadd, 1) := by decide +kernel
theorem dX5_cipher_82 : decode cX5_cipher 82 = .ok (.iconst 4, 1) := by decide +kernel
theorem dX5_cipher_83 : decode cX5_cipher 83 = .ok (.irem, 1) := by decide +kernel
theorem dX5_cipher_84 : decode cX5_cipher 84 = .ok (.imul, 1) := by decide +kernel
theorem dX5_cipher_85 : decode cX5_cipher 85 = .ok (.iload 4, 2) := by decide +kernel
theorem dX5_cipher_87 : decode cX5_cipher 87 = .ok (.iadd, 1) := by decide +kernel
theorem dX5_cipher_88 : decode cX5_cipher 88 = .ok (.iaload, 1) := by decide +kernel
theorem dX5_cipher_89 : decode cX5_cipher 89 = .ok (.invokevirtual 69, 3) := by decide +kernel
theorem dX5_cipher_92 : decode cX5_cipher 92 = .ok (.iastore, 1) := by decide +kernel
theorem dX5_cipher_93 : decode cX5_cipher 93 = .ok (.iinc 4 1, 3) := by decide +kernel
theorem dX5_cipher_96 : decode cX5_cipher 96 = .ok (.goto (-40), 3) := by decide +kernel
theorem dX5_cipher_99 : decode cX5_cipher 99 = .ok (.iinc 3 1, 3) := by decide +kernel
theorem dX5_cipher_102 : decode cX5_cipher 102 = .ok (.goto (-54), 3) := by decide +kernel
theorem dX5_cipher_105 : decode cX5_cipher 105 = .ok (.iconst 0, 1) := by decide +kernel
theorem dX5_cipher_106 : decode cX5_cipher 106 = .ok (.istore_n 3, 1) := by decide +kernel
theorem dX5_cipher_107 : decode cX5_cipher 107 = .ok (.iload_n 3, 1) := by decide +kernel
theorem dX5_cipher_108 : decode cX5_cipher 108 = .ok (.iconst 4, 1) := by decide +kernel
theorem dX5_cipher_109 : decode cX5_cipher 109 = .ok (.if_icmp .ge 133, 3) := by decide +kernel
theorem dX5_cipher_112 : decode cX5_cipher 112 = .ok (.iconst 0, 1) := by decide +kernel
theorem dX5_cipher_113 : decode cX5_cipher 113 = .ok (.istore 4, 2) := by decide +kernel
theorem dX5_cipher_115 : decode cX5_cipher 115 = .ok (.iload 4, 2) := by decide +kernel
theorem dX5_cipher_117 : decode cX5_cipher 117 = .ok (.iconst 4, 1) := by decide +kernel
theorem dX5_cipher_118 : decode cX5_cipher 118 = .ok (.if_icmp .ge 118, 3) := by decide +kernel
theorem dX5_cipher_121 : decode cX5_cipher 121 = .ok (.aload_n 0, 1) := by decide +kernel
theorem dX5_cipher_122 : decode cX5_cipher 122 = .ok (.getfield 39, 3) := by decide +kernel
theorem dX5_cipher_125 : decode cX5_cipher 125 = .ok (.iconst 4, 1) := by decide +kernel
theorem dX5_cipher_126 : decode cX5_cipher 126 = .ok (.iload_n 3, 1) := by decide +kernel
theorem dX5_cipher_127 : decode cX5_cipher 127 = .ok (.imul, 1) := by decide +kernel
theorem dX5_cipher_128 : decode cX5_cipher 128 = .ok (.iload 4, 2) := by decide +kernel
theorem dX5_cipher_130 : decode cX5_cipher 130 = .ok (.iadd, 1) := by decide +kernel
theorem dX5_cipher_131 : decode cX5_cipher 131 = .ok (.iaload, 1) := by decide +kernel
theorem dX5_cipher_132 : decode cX5_cipher 132 = .ok (.istore 5, 2) := by decide +kernel
theorem dX5_cipher_134 : decode cX5_cipher 134 = .ok (.iload_n 2, 1) := by decide +kernel
theorem dX5_cipher_135 : decode cX5_cipher 135 = .ok (.bipush 10, 2) := by decide +kernel
theorem dX5_cipher_137 : decode cX5_cipher 137 = .ok (.if_icmp .ge 63, 3) := by decide +kernel
theorem dX5_cipher_140 : decode cX5_cipher 140 = .ok (.iload 5, 2) := by decide +kernel
theorem dX5_cipher_142 : decode cX5_cipher 142 = .ok (.iconst 2, 1) := by decide +kernel
theorem dX5_cipher_143 : decode cX5_cipher 143 = .ok (.invokestatic 65, 3) := by decide +kernel
theorem dX5_cipher_146 : decode cX5_cipher 146 = .ok (.aload_n 0, 1) := by decide +kernel
theorem dX5_cipher_147 : decode cX5_cipher 147 = .ok (.getfield 39, 3) := by decide +kernel
theorem dX5_cipher_150 : decode cX5_cipher 150 = .ok (.iconst 4, 1) := by decide +kernel
theorem dX5_cipher_151 : decode cX5_cipher 151 = .ok (.iload_n 3, 1) := by decide +kernel
theorem dX5_cipher_152 : decode cX5_cipher 152 = .ok (.imul, 1) := by decide +kernel
theorem dX5_cipher_153 : decode cX5_cipher 153 = .ok (.iload 4, 2) := by decide +kernel
theorem dX5_cipher_155 : decode cX5_cipher 155 = .ok (.iconst 1, 1) := by decide +kernel
theorem dX5_cipher_156 : decode cX5_cipher 156 = .ok (.iadd, 1) := by decide +kernel
theorem dX5_cipher_157 : decode cX5_cipher 157 = .ok (.iconst 4, 1) := by decide +kernel
theorem dX5_cipher_158 : decode cX5_cipher 158 = .ok (.irem, 1) := by decide +kernel
theorem dX5_cipher_159 : decode cX5_cipher 159 = .ok (.iadd, 1) := by decide +kernel
theorem dX5_cipher_160 : decode cX5_cipher 160 = .ok (.iaload, 1) := by decide +kernel
theorem dX5_cipher_161 : decode cX5_cipher 161 = .ok (.iconst 3, 1) := by decide +kernel
theorem dX5_cipher_162 : decode cX5_cipher 162 = .ok (.invokestatic 65, 3) := by decide +kernel
theorem dX5_cipher_165 : decode cX5_cipher 165 = .ok (.ixor, 1) := by decide +kernel
theorem dX5_cipher_166 : decode cX5_cipher 166 = .ok (.aload_n 0, 1) := by decide +kernel
theorem dX5_cipher_167 : decode cX5_cipher 167 = .ok (.getfield 39, 3) := by decide +kernel
theorem dX5_cipher_170 : decode cX5_cipher 170 = .ok (.iconst 4, 1) := by decide +kernel
theorem dX5_cipher_171 : decode cX5_cipher 171 = .ok (.iload_n 3, 1) := by decide +kernel
theorem dX5_cipher_172 : decode cX5_cipher 172 = .ok (.imul, 1) := by decide +kernel
theorem dX5_cipher_173 : decode cX5_cipher 173 = .ok (.iload 4, 2) := by decide +kernel
theorem dX5_cipher_175 : decode cX5_cipher 175 = .ok (.iconst 2, 1) := by decide +kernel
theorem dX5_cipher_176 : decode cX5_cipher 176 = .ok (.iadd, 1) := by decide +kernel
theorem dX5_cipher_177 : decode cX5_cipher 177 = .ok (.iconst 4, 1) := by decide +kernel
theorem dX5_cipher_178 : decode cX5_cipher 178 = .ok (.irem, 1) := by decide +kernel
theorem dX5_cipher_179 : decode cX5_cipher 179 = .ok (.iadd, 1) := by decide +kernel
theorem dX5_cipher_180 : decode cX5_cipher 180 = .ok (.iaload, 1) := by decide +kernel
theorem dX5_cipher_181 : decode cX5_cipher 181 = .ok (.ixor, 1) := by decide +kernel
theorem dX5_cipher_182 : decode cX5_cipher 182 = .ok (.aload_n 0, 1) := by decide +kernel
theorem dX5_cipher_183 : decode cX5_cipher 183 = .ok (.getfield 39, 3) := by decide +kernel
theorem dX5_cipher_186 : decode cX5_cipher 186 = .ok (.iconst 4, 1) := by decide +kernel
theorem dX5_cipher_187 : decode cX5_cipher 187 = .ok (.iload_n 3, 1) := by decide +kernel
theorem dX5_cipher_188 : decode cX5_cipher 188 = .ok (.imul, 1) := by decide +kernel
theorem dX5_cipher_189 : decode cX5_cipher 189 = .ok (.iload 4, 2) := by decide +kernel
theorem dX5_cipher_191 : decode cX5_cipher 191 = .ok (.iconst 3, 1) := by decide +kernel
theorem dX5_cipher_192 : decode cX5_cipher 192 = .ok (.iadd, 1) := by decide +kernel
theorem dX5_cipher_193 : decode cX5_cipher 193 = .ok (.iconst 4, 1) := by decide +kernel
theorem dX5_cipher_194 : decode cX5_cipher 194 = .ok (.irem, 1) := by decide +kernel
theorem dX5_cipher_195 : decode cX5_cipher 195 = .ok (.iadd, 1) := by decide +kernel
theorem dX5_cipher_196 : decode cX5_cipher 196 = .ok (.iaload, 1) := by decide +kernel
theorem dX5_cipher_197 : decode cX5_cipher 197 = .ok (.ixor, 1) := by decide +kernel
theorem dX5_cipher_198 : decode cX5_cipher 198 = .ok (.istore 5, 2) := by decide +kernel
theorem dX5_cipher_200 : decode cX5_cipher 200 = .ok (.aload_n 0, 1) := by decide +kernel
theorem dX5_cipher_201 : decode cX5_cipher 201 = .ok (.getfield 36, 3) := by decide +kernel
theorem dX5_cipher_204 : decode cX5_cipher 204 = .ok (.iconst 4, 1) := by decide +kernel
theorem dX5_cipher_205 : decode cX5_cipher 205 = .ok (.iload_n 3, 1) := by decide +kernel
theorem dX5_cipher_206 : decode cX5_cipher 206 = .ok (.imul, 1) := by decide +kernel
theorem dX5_cipher_207 : decode cX5_cipher 207 = .ok (.iload 4, 2) := by decide +kernel
theorem dX5_cipher_209 : decode cX5_cipher 209 = .ok (.iadd, 1) := by decide +kernel
theorem dX5_cipher_210 : decode cX5_cipher 210 = .ok (.iload 5, 2) := by decide +kernel
theorem dX5_cipher_212 : decode cX5_cipher 212 = .ok (.aload_n 0, 1) := by decide +kernel
theorem dX5_cipher_213 : decode cX5_cipher 213 = .ok (.getfield 42, 3) := by decide +kernel
theorem dX5_cipher_216 : decode cX5_cipher 216 = .ok (.bipush 16, 2) := by decide +kernel
theorem dX5_cipher_218 : decode cX5_cipher 218 = .ok (.iload_n 2, 1) := by decide +kernel
theorem dX5_cipher_219 : decode cX5_cipher 219 = .ok (.imul, 1) := by decide +kernel
theorem dX5_cipher_220 : decode cX5_cipher 220 = .ok (.iconst 4, 1) := by decide +kernel
theorem dX5_cipher_221 : decode cX5_cipher 221 = .ok (.iload_n 3, 1) := by decide +kernel
theorem dX5_cipher_222 : decode cX5_cipher 222 = .ok (.imul, 1) := by decide +kernel
theorem dX5_cipher_223 : decode cX5_cipher 223 = .ok (.iadd, 1) := by decide +kernel
theorem dX5_cipher_224 : decode cX5_cipher 224 = .ok (.iload 4, 2) := by decide +kernel
theorem dX5_cipher_226 : decode cX5_cipher 226 = .ok (.iadd, 1) := by decide +kernel
theorem dX5_cipher_227 : decode cX5_cipher 227 = .ok (.iaload, 1) := by decide +kernel
theorem dX5_cipher_228 : decode cX5_cipher 228 = .ok (.ixor, 1) := by decide +kernel
theorem dX5_cipher_229 : decode cX5_cipher 229 = .ok (.iastore, 1) := by decide +kernel
theorem dX5_cipher_230 : decode cX5_cipher 230 = .ok (.iinc 4 1, 3) := by decide +kernel
theorem dX5_cipher_233 : decode cX5_cipher 233 = .ok (.goto (-118), 3) := by decide +kernel
theorem dX5_cipher_236 : decode cX5_cipher 236 = .ok (.iinc 3 1, 3) := by decide +kernel
theorem dX5_cipher_239 : decode cX5_cipher 239 = .ok (.goto (-132), 3) := by decide +kernel
theorem dX5_cipher_242 : decode cX5_cipher 242 = .ok (.iinc 2 1, 3) := by decide +kernel
theorem dX5_cipher_245 : decode cX5_cipher 245 = .ok (.goto (-205), 3) := by decide +kernel
theorem dX5_cipher_248 : decode cX5_cipher 248 = .ok (.return_, 1) := by decide +kernel
theorem dX5_doubled_0 : decode cX5_doubled 0 = .ok (.iconst 0, 1) := by decide +kernel
theorem dX5_doubled_1 : decode cX5_doubled 1 = .ok (.istore_n 1, 1) := by decide +kernel
theorem dX5_doubled_2 : decode cX5_doubled 2 = .ok (.bipush 15, 2) := by decide +kernel
theorem dX5_doubled_4 : decode cX5_doubled 4 = .ok (.istore_n 2, 1) := by decide +kernel
theorem dX5_doubled_5 : decode cX5_doubled 5 = .ok (.iload_n 2, 1) := by decide +kernel
theorem dX5_doubled_6 : decode cX5_doubled 6 = .ok (.ifCond .lt 36, 3) := by decide +kernel
theorem dX5_doubled_9 : decode cX5_doubled 9 = .ok (.iconst 2, 1) := by decide +kernel
theorem dX5_doubled_10 : decode cX5_doubled 10 = .ok (.aload_n 0, 1) := by decide +kernel
theorem dX5_doubled_11 : decode cX5_doubled 11 = .ok (.getfield 45, 3) := by decide +kernel
theorem dX5_doubled_14 : decode cX5_doubled 14 = .ok (.iload_n 2, 1) := by decide +kernel
theorem dX5_doubled_15 : decode cX5_doubled 15 = .ok (.iaload, 1) := by decide +kernel
theorem dX5_doubled_16 : decode cX5_doubled 16 = .ok (.imul, 1) := by decide +kernel
theorem dX5_doubled_17 : decode cX5_doubled 17 = .ok (.iload_n 1, 1) := by decide +kernel
theorem dX5_doubled_18 : decode cX5_doubled 18 = .ok (.iadd, 1) := by decide +kernel
theorem dX5_doubled_19 : decode cX5_doubled 19 = .ok (.istore_n 3, 1) := by decide +kernel
theorem dX5_doubled_20 : decode cX5_doubled 20 = .ok (.aload_n 0, 1) := by decide +kernel
theorem dX5_doubled_21 : decode cX5_doubled 21 = .ok (.getfield 45, 3) := by decide +kernel
theorem dX5_doubled_24 : decode cX5_doubled 24 = .ok (.iload_n 2, 1) := by decide +kernel
theorem dX5_doubled_25 : decode cX5_doubled 25 = .ok (.iload_n 3, 1) := by decide +kernel
theorem dX5_doubled_26 : decode cX5_doubled 26 = .ok (.sipush 255, 3) := by decide +kernel
theorem dX5_doubled_29 : decode cX5_doubled 29 = .ok (.iand, 1) := by decide +kernel
theorem dX5_doubled_30 : decode cX5_doubled 30 = .ok (.iastore, 1) := by decide +kernel
theorem dX5_doubled_31 : decode cX5_doubled 31 = .ok (.iload_n 3, 1) := by decide +kernel
theorem dX5_doubled_32 : decode cX5_doubled 32 = .ok (.bipush 8, 2) := by decide +kernel
theorem dX5_doubled_34 : decode cX5_doubled 34 = .ok (.ishr, 1) := by decide +kernel
theorem dX5_doubled_35 : decode cX5_doubled 35 = .ok (.istore_n 1, 1) := by decide +kernel
theorem dX5_doubled_36 : decode cX5_doubled 36 = .ok (.iinc 2 (-1), 3) := by decide +kernel
theorem dX5_doubled_39 : decode cX5_doubled 39 = .ok (.goto (-34), 3) := by decide +kernel
theorem dX5_doubled_42 : decode cX5_doubled 42 = .ok (.aload_n 0, 1) := by decide +kernel
theorem dX5_doubled_43 : decode cX5_doubled 43 = .ok (.getfield 45, 3) := by decide +kernel
theorem dX5_doubled_46 : decode cX5_doubled 46 = .ok (.bipush 15, 2) := by decide +kernel
theorem dX5_doubled_48 : decode cX5_doubled 48 = .ok (.aload_n 0, 1) := by decide +kernel
theorem dX5_doubled_49 : decode cX5_doubled 49 = .ok (.getfield 45, 3) := by decide +kernel
theorem dX5_doubled_52 : decode cX5_doubled 52 = .ok (.bipush 15, 2) := by decide +kernel
theorem dX5_doubled_54 : decode cX5_doubled 54 = .ok (.iaload, 1) := by decide +kernel
theorem dX5_doubled_55 : decode cX5_doubled 55 = .ok (.sipush 135, 3) := by decide +kernel
theorem dX5_doubled_58 : decode cX5_doubled 58 = .ok (.iload_n 1, 1) := by decide +kernel
theorem dX5_doubled_59 : decode cX5_doubled 59 = .ok (.imul, 1) := by decide +kernel
theorem dX5_doubled_60 : decode cX5_doubled 60 = .ok (.ixor, 1) := by decide +kernel
theorem dX5_doubled_61 : decode cX5_doubled 61 = .ok (.iastore, 1) := by decide +kernel
theorem dX5_doubled_62 : decode cX5_doubled 62 = .ok (.return_, 1) := by decide +kernel
theorem dX5_codeOf_0 : decode cX5_codeOf 0 = .ok (.iconst 0, 1) := by decide +kernel
theorem dX5_codeOf_1 : decode cX5_codeOf 1 = .ok (.istore_n 3, 1) := by decide +kernel
theorem dX5_codeOf_2 : decode cX5_codeOf 2 = .ok (.iload_n 3, 1) := by decide +kernel
theorem dX5_codeOf_3 : decode cX5_codeOf 3 = .ok (.bipush 16, 2) := by decide +kernel
theorem dX5_codeOf_5 : decode cX5_codeOf 5 = .ok (.if_icmp .ge 16, 3) := by decide +kernel
theorem dX5_codeOf_8 : decode cX5_codeOf 8 = .ok (.aload_n 0, 1) := by decide +kernel
theorem dX5_codeOf_9 : decode cX5_codeOf 9 = .ok (.getfield 36, 3) := by decide +kernel
theorem dX5_codeOf_12 : decode cX5_codeOf 12 = .ok (.iload_n 3, 1) := by decide +kernel
theorem dX5_codeOf_13 : decode cX5_codeOf 13 = .ok (.iconst 0, 1) := by decide +kernel
theorem dX5_codeOf_14 : decode cX5_codeOf 14 = .ok (.iastore, 1) := by decide +kernel
theorem dX5_codeOf_15 : decode cX5_codeOf 15 = .ok (.iinc 3 1, 3) := by decide +kernel
theorem dX5_codeOf_18 : decode cX5_codeOf 18 = .ok (.goto (-16), 3) := by decide +kernel
theorem dX5_codeOf_21 : decode cX5_codeOf 21 = .ok (.aload_n 0, 1) := by decide +kernel
theorem dX5_codeOf_22 : decode cX5_codeOf 22 = .ok (.iload_n 1, 1) := by decide +kernel
theorem dX5_codeOf_23 : decode cX5_codeOf 23 = .ok (.invokevirtual 76, 3) := by decide +kernel
theorem dX5_codeOf_26 : decode cX5_codeOf 26 = .ok (.iconst 0, 1) := by decide +kernel
theorem dX5_codeOf_27 : decode cX5_codeOf 27 = .ok (.istore_n 3, 1) := by decide +kernel
theorem dX5_codeOf_28 : decode cX5_codeOf 28 = .ok (.iload_n 3, 1) := by decide +kernel
theorem dX5_codeOf_29 : decode cX5_codeOf 29 = .ok (.bipush 16, 2) := by decide +kernel
theorem dX5_codeOf_31 : decode cX5_codeOf 31 = .ok (.if_icmp .ge 21, 3) := by decide +kernel
theorem dX5_codeOf_34 : decode cX5_codeOf 34 = .ok (.aload_n 0, 1) := by decide +kernel
theorem dX5_codeOf_35 : decode cX5_codeOf 35 = .ok (.getfield 45, 3) := by decide +kernel
theorem dX5_codeOf_38 : decode cX5_codeOf 38 = .ok (.iload_n 3, 1) := by decide +kernel
theorem dX5_codeOf_39 : decode cX5_codeOf 39 = .ok (.aload_n 0, 1) := by decide +kernel
theorem dX5_codeOf_40 : decode cX5_codeOf 40 = .ok (.getfield 36, 3) := by decide +kernel
theorem dX5_codeOf_43 : decode cX5_codeOf 43 = .ok (.iload_n 3, 1) := by decide +kernel
theorem dX5_codeOf_44 : decode cX5_codeOf 44 = .ok (.iaload, 1) := by decide +kernel
theorem dX5_codeOf_45 : decode cX5_codeOf 45 = .ok (.iastore, 1) := by decide +kernel
theorem dX5_codeOf_46 : decode cX5_codeOf 46 = .ok (.iinc 3 1, 3) := by decide +kernel
theorem dX5_codeOf_49 : decode cX5_codeOf 49 = .ok (.goto (-21), 3) := by decide +kernel
theorem dX5_codeOf_52 : decode cX5_codeOf 52 = .ok (.aload_n 0, 1) := by decide +kernel
theorem dX5_codeOf_53 : decode cX5_codeOf 53 = .ok (.invokevirtual 79, 3) := by decide +kernel
theorem dX5_codeOf_56 : decode cX5_codeOf 56 = .ok (.iload_n 2, 1) := by decide +kernel
theorem dX5_codeOf_57 : decode cX5_codeOf 57 = .ok (.ifCond .le 14, 3) := by decide +kernel
theorem dX5_codeOf_60 : decode cX5_codeOf 60 = .ok (.iload_n 2, 1) := by decide +kernel
theorem dX5_codeOf_61 : decode cX5_codeOf 61 = .ok (.bipush 16, 2) := by decide +kernel
theorem dX5_codeOf_63 : decode cX5_codeOf 63 = .ok (.irem, 1) := by decide +kernel
theorem dX5_codeOf_64 : decode cX5_codeOf 64 = .ok (.ifCond .ne 7, 3) := by decide +kernel
theorem dX5_codeOf_67 : decode cX5_codeOf 67 = .ok (.iconst 1, 1) := by decide +kernel
theorem dX5_codeOf_68 : decode cX5_codeOf 68 = .ok (.goto 4, 3) := by decide +kernel
theorem dX5_codeOf_71 : decode cX5_codeOf 71 = .ok (.iconst 0, 1) := by decide +kernel
theorem dX5_codeOf_72 : decode cX5_codeOf 72 = .ok (.istore_n 3, 1) := by decide +kernel
theorem dX5_codeOf_73 : decode cX5_codeOf 73 = .ok (.iload_n 3, 1) := by decide +kernel
theorem dX5_codeOf_74 : decode cX5_codeOf 74 = .ok (.ifCond .ne 7, 3) := by decide +kernel
theorem dX5_codeOf_77 : decode cX5_codeOf 77 = .ok (.aload_n 0, 1) := by decide +kernel
theorem dX5_codeOf_78 : decode cX5_codeOf 78 = .ok (.invokevirtual 79, 3) := by decide +kernel
theorem dX5_codeOf_81 : decode cX5_codeOf 81 = .ok (.iload_n 3, 1) := by decide +kernel
theorem dX5_codeOf_82 : decode cX5_codeOf 82 = .ok (.ifCond .eq 7, 3) := by decide +kernel
theorem dX5_codeOf_85 : decode cX5_codeOf 85 = .ok (.iload_n 2, 1) := by decide +kernel
theorem dX5_codeOf_86 : decode cX5_codeOf 86 = .ok (.goto 13, 3) := by decide +kernel
theorem dX5_codeOf_89 : decode cX5_codeOf 89 = .ok (.iload_n 2, 1) := by decide +kernel
theorem dX5_codeOf_90 : decode cX5_codeOf 90 = .ok (.bipush 16, 2) := by decide +kernel
theorem dX5_codeOf_92 : decode cX5_codeOf 92 = .ok (.idiv, 1) := by decide +kernel
theorem dX5_codeOf_93 : decode cX5_codeOf 93 = .ok (.bipush 16, 2) := by decide +kernel
theorem dX5_codeOf_95 : decode cX5_codeOf 95 = .ok (.imul, 1) := by decide +kernel
theorem dX5_codeOf_96 : decode cX5_codeOf 96 = .ok (.bipush 16, 2) := by decide +kernel
theorem dX5_codeOf_98 : decode cX5_codeOf 98 = .ok (.iadd, 1) := by decide +kernel
theorem dX5_codeOf_99 : decode cX5_codeOf 99 = .ok (.istore 4, 2) := by decide +kernel
theorem dX5_codeOf_101 : decode cX5_codeOf 101 = .ok (.iconst 0, 1) := by decide +kernel
theorem dX5_codeOf_102 : decode cX5_codeOf 102 = .ok (.istore 5, 2) := by decide +kernel
theorem dX5_codeOf_104 : decode cX5_codeOf 104 = .ok (.iload 5, 2) := by decide +kernel
theorem dX5_codeOf_106 : decode cX5_codeOf 106 = .ok (.bipush 16, 2) := by decide +kernel
theorem dX5_codeOf_108 : decode cX5_codeOf 108 = .ok (.if_icmp .ge 17, 3) := by decide +kernel
theorem dX5_codeOf_111 : decode cX5_codeOf 111 = .ok (.aload_n 0, 1) := by decide +kernel
theorem dX5_codeOf_112 : decode cX5_codeOf 112 = .ok (.getfield 36, 3) := by decide +kernel
theorem dX5_codeOf_115 : decode cX5_codeOf 115 = .ok (.iload 5, 2) := by decide +kernel
theorem dX5_codeOf_117 : decode cX5_codeOf 117 = .ok (.iconst 0, 1) := by decide +kernel
theorem dX5_codeOf_118 : decode cX5_codeOf 118 = .ok (.iastore, 1) := by decide +kernel
theorem dX5_codeOf_119 : decode cX5_codeOf 119 = .ok (.iinc 5 1, 3) := by decide +kernel
theorem dX5_codeOf_122 : decode cX5_codeOf 122 = .ok (.goto (-18), 3) := by decide +kernel
theorem dX5_codeOf_125 : decode cX5_codeOf 125 = .ok (.iconst 0, 1) := by decide +kernel
theorem dX5_codeOf_126 : decode cX5_codeOf 126 = .ok (.istore 5, 2) := by decide +kernel
theorem dX5_codeOf_128 : decode cX5_codeOf 128 = .ok (.iload 5, 2) := by decide +kernel
theorem dX5_codeOf_130 : decode cX5_codeOf 130 = .ok (.iload 4, 2) := by decide +kernel
theorem dX5_codeOf_132 : decode cX5_codeOf 132 = .ok (.if_icmp .ge 119, 3) := by decide +kernel
theorem dX5_codeOf_135 : decode cX5_codeOf 135 = .ok (.iconst 0, 1) := by decide +kernel
theorem dX5_codeOf_136 : decode cX5_codeOf 136 = .ok (.istore 6, 2) := by decide +kernel
theorem dX5_codeOf_138 : decode cX5_codeOf 138 = .ok (.iload 6, 2) := by decide +kernel
theorem dX5_codeOf_140 : decode cX5_codeOf 140 = .ok (.bipush 16, 2) := by decide +kernel
theorem dX5_codeOf_142 : decode cX5_codeOf 142 = .ok (.if_icmp .ge 98, 3) := by decide +kernel
theorem dX5_codeOf_145 : decode cX5_codeOf 145 = .ok (.iload 5, 2) := by decide +kernel
theorem dX5_codeOf_147 : decode cX5_codeOf 147 = .ok (.iload 6, 2) := by decide +kernel
theorem dX5_codeOf_149 : decode cX5_codeOf 149 = .ok (.iadd, 1) := by decide +kernel
theorem dX5_codeOf_150 : decode cX5_codeOf 150 = .ok (.iload_n 2, 1) := by decide +kernel
theorem dX5_codeOf_151 : decode cX5_codeOf 151 = .ok (.if_icmp .ge 16, 3) := by decide +kernel
theorem dX5_codeOf_154 : decode cX5_codeOf 154 = .ok (.aload_n 0, 1) := by decide +kernel
theorem dX5_codeOf_155 : decode cX5_codeOf 155 = .ok (.getfield 48, 3) := by decide +kernel
theorem dX5_codeOf_158 : decode cX5_codeOf 158 = .ok (.iload 5, 2) := by decide +kernel
theorem dX5_codeOf_160 : decode cX5_codeOf 160 = .ok (.iload 6, 2) := by decide +kernel
theorem dX5_codeOf_162 : decode cX5_codeOf 162 = .ok (.iadd, 1) := by decide +kernel
theorem dX5_codeOf_163 : decode cX5_codeOf 163 = .ok (.iaload, 1) := by decide +kernel
theorem dX5_codeOf_164 : decode cX5_codeOf 164 = .ok (.goto 19, 3) := by decide +kernel
theorem dX5_codeOf_167 : decode cX5_codeOf 167 = .ok (.iload 5, 2) := by decide +kernel
theorem dX5_codeOf_169 : decode cX5_codeOf 169 = .ok (.iload 6, 2) := by decide +kernel
theorem dX5_codeOf_171 : decode cX5_codeOf 171 = .ok (.iadd, 1) := by decide +kernel
theorem dX5_codeOf_172 : decode cX5_codeOf 172 = .ok (.iload_n 2, 1) := by decide +kernel
theorem dX5_codeOf_173 : decode cX5_codeOf 173 = .ok (.if_icmp .ne 9, 3) := by decide +kernel
theorem dX5_codeOf_176 : decode cX5_codeOf 176 = .ok (.sipush 128, 3) := by decide +kernel
theorem dX5_codeOf_179 : decode cX5_codeOf 179 = .ok (.goto 4, 3) := by decide +kernel
theorem dX5_codeOf_182 : decode cX5_codeOf 182 = .ok (.iconst 0, 1) := by decide +kernel
theorem dX5_codeOf_183 : decode cX5_codeOf 183 = .ok (.istore 7, 2) := by decide +kernel
theorem dX5_codeOf_185 : decode cX5_codeOf 185 = .ok (.aload_n 0, 1) := by decide +kernel
theorem dX5_codeOf_186 : decode cX5_codeOf 186 = .ok (.getfield 36, 3) := by decide +kernel
theorem dX5_codeOf_189 : decode cX5_codeOf 189 = .ok (.iload 6, 2) := by decide +kernel
theorem dX5_codeOf_191 : decode cX5_codeOf 191 = .ok (.aload_n 0, 1) := by decide +kernel
theorem dX5_codeOf_192 : decode cX5_codeOf 192 = .ok (.getfield 36, 3) := by decide +kernel
theorem dX5_codeOf_195 : decode cX5_codeOf 195 = .ok (.iload 6, 2) := by decide +kernel
theorem dX5_codeOf_197 : decode cX5_codeOf 197 = .ok (.iaload, 1) := by decide +kernel
theorem dX5_codeOf_198 : decode cX5_codeOf 198 = .ok (.iload 7, 2) := by decide +kernel
theorem dX5_codeOf_200 : decode cX5_codeOf 200 = .ok (.ixor, 1) := by decide +kernel
theorem dX5_codeOf_201 : decode cX5_codeOf 201 = .ok (.iastore, 1) := by decide +kernel
theorem dX5_codeOf_202 : decode cX5_codeOf 202 = .ok (.iload 5, 2) := by decide +kernel
theorem dX5_codeOf_204 : decode cX5_codeOf 204 = .ok (.bipush 16, 2) := by decide +kernel
theorem dX5_codeOf_206 : decode cX5_codeOf 206 = .ok (.iadd, 1) := by decide +kernel
theorem dX5_codeOf_207 : decode cX5_codeOf 207 = .ok (.iload 4, 2) := by decide +kernel
theorem dX5_codeOf_209 : decode cX5_codeOf 209 = .ok (.if_icmp .ne 25, 3) := by decide +kernel
theorem dX5_codeOf_212 : decode cX5_codeOf 212 = .ok (.aload_n 0, 1) := by decide +kernel
theorem dX5_codeOf_213 : decode cX5_codeOf 213 = .ok (.getfield 36, 3) := by decide +kernel
theorem dX5_codeOf_216 : decode cX5_codeOf 216 = .ok (.iload 6, 2) := by decide +kernel
theorem dX5_codeOf_218 : decode cX5_codeOf 218 = .ok (.aload_n 0, 1) := by decide +kernel
theorem dX5_codeOf_219 : decode cX5_codeOf 219 = .ok (.getfield 36, 3) := by decide +kernel
theorem dX5_codeOf_222 : decode cX5_codeOf 222 = .ok (.iload 6, 2) := by decide +kernel
theorem dX5_codeOf_224 : decode cX5_codeOf 224 = .ok (.iaload, 1) := by decide +kernel
theorem dX5_codeOf_225 : decode cX5_codeOf 225 = .ok (.aload_n 0, 1) := by decide +kernel
theorem dX5_codeOf_226 : decode cX5_codeOf 226 = .ok (.getfield 45, 3) := by decide +kernel
theorem dX5_codeOf_229 : decode cX5_codeOf 229 = .ok (.iload 6, 2) := by decide +kernel
theorem dX5_codeOf_231 : decode cX5_codeOf 231 = .ok (.iaload, 1) := by decide +kernel
theorem dX5_codeOf_232 : decode cX5_codeOf 232 = .ok (.ixor, 1) := by decide +kernel
theorem dX5_codeOf_233 : decode cX5_codeOf 233 = .ok (.iastore, 1) := by decide +kernel
theorem dX5_codeOf_234 : decode cX5_codeOf 234 = .ok (.iinc 6 1, 3) := by decide +kernel
theorem dX5_codeOf_237 : decode cX5_codeOf 237 = .ok (.goto (-99), 3) := by decide +kernel
theorem dX5_codeOf_240 : decode cX5_codeOf 240 = .ok (.aload_n 0, 1) := by decide +kernel
theorem dX5_codeOf_241 : decode cX5_codeOf 241 = .ok (.iload_n 1, 1) := by decide +kernel
theorem dX5_codeOf_242 : decode cX5_codeOf 242 = .ok (.invokevirtual 76, 3) := by decide +kernel
theorem dX5_codeOf_245 : decode cX5_codeOf 245 = .ok (.iinc 5 16, 3) := by decide +kernel
theorem dX5_codeOf_248 : decode cX5_codeOf 248 = .ok (.goto (-120), 3) := by decide +kernel
theorem dX5_codeOf_251 : decode cX5_codeOf 251 = .ok (.return_, 1) := by decide +kernel
theorem dX5_key_0 : decode cX5_key 0 = .ok (.aload_n 0, 1) := by decide +kernel
theorem dX5_key_1 : decode cX5_key 1 = .ok (.iconst 0, 1) := by decide +kernel
theorem dX5_key_2 : decode cX5_key 2 = .ok (.putfield 58, 3) := by decide +kernel
theorem dX5_key_5 : decode cX5_key 5 = .ok (.aload_n 0, 1) := by decide +kernel
theorem dX5_key_6 : decode cX5_key 6 = .ok (.getfield 62, 3) := by decide +kernel
theorem dX5_key_9 : decode cX5_key 9 = .ok (.bipush 16, 2) := by decide +kernel
theorem dX5_key_11 : decode cX5_key 11 = .ok (.if_icmp .ne 6, 3) := by decide +kernel
theorem dX5_key_14 : decode cX5_key 14 = .ok (.bipush (-4), 2) := by decide +kernel
theorem dX5_key_16 : decode cX5_key 16 = .ok (.ireturn, 1) := by decide +kernel
theorem dX5_key_17 : decode cX5_key 17 = .ok (.aload_n 0, 1) := by decide +kernel
theorem dX5_key_18 : decode cX5_key 18 = .ok (.dup, 1) := by decide +kernel
theorem dX5_key_19 : decode cX5_key 19 = .ok (.getfield 62, 3) := by decide +kernel
theorem dX5_key_22 : decode cX5_key 22 = .ok (.iconst 1, 1) := by decide +kernel
theorem dX5_key_23 : decode cX5_key 23 = .ok (.iadd, 1) := by decide +kernel
theorem dX5_key_24 : decode cX5_key 24 = .ok (.putfield 62, 3) := by decide +kernel
theorem dX5_key_27 : decode cX5_key 27 = .ok (.aload_n 0, 1) := by decide +kernel
theorem dX5_key_28 : decode cX5_key 28 = .ok (.getfield 62, 3) := by decide +kernel
theorem dX5_key_31 : decode cX5_key 31 = .ok (.ireturn, 1) := by decide +kernel
theorem dX5_keyByte_0 : decode cX5_keyByte 0 = .ok (.aload_n 0, 1) := by decide +kernel
theorem dX5_keyByte_1 : decode cX5_keyByte 1 = .ok (.iload_n 1, 1) := by decide +kernel
theorem dX5_keyByte_2 : decode cX5_keyByte 2 = .ok (.invokevirtual 82, 3) := by decide +kernel
theorem dX5_keyByte_5 : decode cX5_keyByte 5 = .ok (.ifCond .eq 4, 3) := by decide +kernel
theorem dX5_keyByte_8 : decode cX5_keyByte 8 = .ok (.return_, 1) := by decide +kernel
theorem dX5_keyByte_9 : decode cX5_keyByte 9 = .ok (.aload_n 0, 1) := by decide +kernel
theorem dX5_keyByte_10 : decode cX5_keyByte 10 = .ok (.getfield 7, 3) := by decide +kernel
theorem dX5_keyByte_13 : decode cX5_keyByte 13 = .ok (.bipush 16, 2) := by decide +kernel
theorem dX5_keyByte_15 : decode cX5_keyByte 15 = .ok (.iload_n 1, 1) := by decide +kernel
theorem dX5_keyByte_16 : decode cX5_keyByte 16 = .ok (.imul, 1) := by decide +kernel
theorem dX5_keyByte_17 : decode cX5_keyByte 17 = .ok (.aload_n 0, 1) := by decide +kernel
theorem dX5_keyByte_18 : decode cX5_keyByte 18 = .ok (.getfield 13, 3) := by decide +kernel
theorem dX5_keyByte_21 : decode cX5_keyByte 21 = .ok (.iload_n 1, 1) := by decide +kernel
theorem dX5_keyByte_22 : decode cX5_keyByte 22 = .ok (.iaload, 1) := by decide +kernel
theorem dX5_keyByte_23 : decode cX5_keyByte 23 = .ok (.iadd, 1) := by decide +kernel
theorem dX5_keyByte_24 : decode cX5_keyByte 24 = .ok (.iload_n 2, 1) := by decide +kernel
theorem dX5_keyByte_25 : decode cX5_keyByte 25 = .ok (.sipush 255, 3) := by decide +kernel
theorem dX5_keyByte_28 : decode cX5_keyByte 28 = .ok (.iand, 1) := by decide +kernel
theorem dX5_keyByte_29 : decode cX5_keyByte 29 = .ok (.iastore, 1) := by decide +kernel
theorem dX5_keyByte_30 : decode cX5_keyByte 30 = .ok (.aload_n 0, 1) := by decide +kernel
theorem dX5_keyByte_31 : decode cX5_keyByte 31 = .ok (.getfield 13, 3) := by decide +kernel
theorem dX5_keyByte_34 : decode cX5_keyByte 34 = .ok (.iload_n 1, 1) := by decide +kernel
theorem dX5_keyByte_35 : decode cX5_keyByte 35 = .ok (.aload_n 0, 1) := by decide +kernel
theorem dX5_keyByte_36 : decode cX5_keyByte 36 = .ok (.getfield 13, 3) := by decide +kernel
theorem dX5_keyByte_39 : decode cX5_keyByte 39 = .ok (.iload_n 1, 1) := by decide +kernel
theorem dX5_keyByte_40 : decode cX5_keyByte 40 = .ok (.iaload, 1) := by decide +kernel
theorem dX5_keyByte_41 : decode cX5_keyByte 41 = .ok (.iconst 1, 1) := by decide +kernel
theorem dX5_keyByte_42 : decode cX5_keyByte 42 = .ok (.iadd, 1) := by decide +kernel
theorem dX5_keyByte_43 : decode cX5_keyByte 43 = .ok (.bipush 16, 2) := by decide +kernel
theorem dX5_keyByte_45 : decode cX5_keyByte 45 = .ok (.irem, 1) := by decide +kernel
theorem dX5_keyByte_46 : decode cX5_keyByte 46 = .ok (.iastore, 1) := by decide +kernel
theorem dX5_keyByte_47 : decode cX5_keyByte 47 = .ok (.return_, 1) := by decide +kernel
theorem dX5_octet_0 : decode cX5_octet 0 = .ok (.aload_n 0, 1) := by decide +kernel
theorem dX5_octet_1 : decode cX5_octet 1 = .ok (.iconst 0, 1) := by decide +kernel
theorem dX5_octet_2 : decode cX5_octet 2 = .ok (.putfield 58, 3) := by decide +kernel
theorem dX5_octet_5 : decode cX5_octet 5 = .ok (.aload_n 0, 1) := by decide +kernel
theorem dX5_octet_6 : decode cX5_octet 6 = .ok (.getfield 86, 3) := by decide +kernel
theorem dX5_octet_9 : decode cX5_octet 9 = .ok (.sipush 300, 3) := by decide +kernel
theorem dX5_octet_12 : decode cX5_octet 12 = .ok (.if_icmp .ne 4, 3) := by decide +kernel
theorem dX5_octet_15 : decode cX5_octet 15 = .ok (.return_, 1) := by decide +kernel
theorem dX5_octet_16 : decode cX5_octet 16 = .ok (.aload_n 0, 1) := by decide +kernel
theorem dX5_octet_17 : decode cX5_octet 17 = .ok (.getfield 20, 3) := by decide +kernel
theorem dX5_octet_20 : decode cX5_octet 20 = .ok (.aload_n 0, 1) := by decide +kernel
theorem dX5_octet_21 : decode cX5_octet 21 = .ok (.getfield 86, 3) := by decide +kernel
theorem dX5_octet_24 : decode cX5_octet 24 = .ok (.iload_n 1, 1) := by decide +kernel
theorem dX5_octet_25 : decode cX5_octet 25 = .ok (.sipush 255, 3) := by decide +kernel
theorem dX5_octet_28 : decode cX5_octet 28 = .ok (.iand, 1) := by decide +kernel
theorem dX5_octet_29 : decode cX5_octet 29 = .ok (.iastore, 1) := by decide +kernel
theorem dX5_octet_30 : decode cX5_octet 30 = .ok (.aload_n 0, 1) := by decide +kernel
theorem dX5_octet_31 : decode cX5_octet 31 = .ok (.dup, 1) := by decide +kernel
theorem dX5_octet_32 : decode cX5_octet 32 = .ok (.getfield 86, 3) := by decide +kernel
theorem dX5_octet_35 : decode cX5_octet 35 = .ok (.iconst 1, 1) := by decide +kernel
theorem dX5_octet_36 : decode cX5_octet 36 = .ok (.iadd, 1) := by decide +kernel
theorem dX5_octet_37 : decode cX5_octet 37 = .ok (.putfield 86, 3) := by decide +kernel
theorem dX5_octet_40 : decode cX5_octet 40 = .ok (.return_, 1) := by decide +kernel
theorem dX5_tell_0 : decode cX5_tell 0 = .ok (.iconst 0, 1) := by decide +kernel
theorem dX5_tell_1 : decode cX5_tell 1 = .ok (.istore_n 2, 1) := by decide +kernel
theorem dX5_tell_2 : decode cX5_tell 2 = .ok (.iload_n 2, 1) := by decide +kernel
theorem dX5_tell_3 : decode cX5_tell 3 = .ok (.iload_n 1, 1) := by decide +kernel
theorem dX5_tell_4 : decode cX5_tell 4 = .ok (.if_icmp .ge 21, 3) := by decide +kernel
theorem dX5_tell_7 : decode cX5_tell 7 = .ok (.aload_n 0, 1) := by decide +kernel
theorem dX5_tell_8 : decode cX5_tell 8 = .ok (.getfield 23, 3) := by decide +kernel
theorem dX5_tell_11 : decode cX5_tell 11 = .ok (.iload_n 2, 1) := by decide +kernel
theorem dX5_tell_12 : decode cX5_tell 12 = .ok (.aload_n 0, 1) := by decide +kernel
theorem dX5_tell_13 : decode cX5_tell 13 = .ok (.getfield 36, 3) := by decide +kernel
theorem dX5_tell_16 : decode cX5_tell 16 = .ok (.iload_n 2, 1) := by decide +kernel
theorem dX5_tell_17 : decode cX5_tell 17 = .ok (.iaload, 1) := by decide +kernel
theorem dX5_tell_18 : decode cX5_tell 18 = .ok (.iastore, 1) := by decide +kernel
theorem dX5_tell_19 : decode cX5_tell 19 = .ok (.iinc 2 1, 3) := by decide +kernel
theorem dX5_tell_22 : decode cX5_tell 22 = .ok (.goto (-20), 3) := by decide +kernel
theorem dX5_tell_25 : decode cX5_tell 25 = .ok (.aload_n 0, 1) := by decide +kernel
theorem dX5_tell_26 : decode cX5_tell 26 = .ok (.iload_n 1, 1) := by decide +kernel
theorem dX5_tell_27 : decode cX5_tell 27 = .ok (.putfield 89, 3) := by decide +kernel
theorem dX5_tell_30 : decode cX5_tell 30 = .ok (.aload_n 0, 1) := by decide +kernel
theorem dX5_tell_31 : decode cX5_tell 31 = .ok (.iconst 0, 1) := by decide +kernel
theorem dX5_tell_32 : decode cX5_tell 32 = .ok (.putfield 86, 3) := by decide +kernel
theorem dX5_tell_35 : decode cX5_tell 35 = .ok (.iload_n 1, 1) := by decide +kernel
theorem dX5_tell_36 : decode cX5_tell 36 = .ok (.ireturn, 1) := by decide +kernel
theorem dX5_code_0 : decode cX5_code 0 = .ok (.aload_n 0, 1) := by decide +kernel
theorem dX5_code_1 : decode cX5_code 1 = .ok (.iload_n 1, 1) := by decide +kernel
theorem dX5_code_2 : decode cX5_code 2 = .ok (.invokevirtual 82, 3) := by decide +kernel
theorem dX5_code_5 : decode cX5_code 5 = .ok (.ifCond .eq 5, 3) := by decide +kernel
theorem dX5_code_8 : decode cX5_code 8 = .ok (.iconst (-1), 1) := by decide +kernel
theorem dX5_code_9 : decode cX5_code 9 = .ok (.ireturn, 1) := by decide +kernel
theorem dX5_code_10 : decode cX5_code 10 = .ok (.iload_n 2, 1) := by decide +kernel
theorem dX5_code_11 : decode cX5_code 11 = .ok (.bipush 32, 2) := by decide +kernel
theorem dX5_code_13 : decode cX5_code 13 = .ok (.if_icmp .lt 10, 3) := by decide +kernel
theorem dX5_code_16 : decode cX5_code 16 = .ok (.iload_n 2, 1) := by decide +kernel
theorem dX5_code_17 : decode cX5_code 17 = .ok (.sipush 128, 3) := by decide +kernel
theorem dX5_code_20 : decode cX5_code 20 = .ok (.if_icmp .le 6, 3) := by decide +kernel
theorem dX5_code_23 : decode cX5_code 23 = .ok (.bipush (-2), 2) := by decide +kernel
theorem dX5_code_25 : decode cX5_code 25 = .ok (.ireturn, 1) := by decide +kernel
theorem dX5_code_26 : decode cX5_code 26 = .ok (.iconst 0, 1) := by decide +kernel
theorem dX5_code_27 : decode cX5_code 27 = .ok (.istore_n 3, 1) := by decide +kernel
theorem dX5_code_28 : decode cX5_code 28 = .ok (.iload_n 3, 1) := by decide +kernel
theorem dX5_code_29 : decode cX5_code 29 = .ok (.aload_n 0, 1) := by decide +kernel
theorem dX5_code_30 : decode cX5_code 30 = .ok (.getfield 86, 3) := by decide +kernel
theorem dX5_code_33 : decode cX5_code 33 = .ok (.if_icmp .ge 21, 3) := by decide +kernel
theorem dX5_code_36 : decode cX5_code 36 = .ok (.aload_n 0, 1) := by decide +kernel
theorem dX5_code_37 : decode cX5_code 37 = .ok (.getfield 48, 3) := by decide +kernel
theorem dX5_code_40 : decode cX5_code 40 = .ok (.iload_n 3, 1) := by decide +kernel
theorem dX5_code_41 : decode cX5_code 41 = .ok (.aload_n 0, 1) := by decide +kernel
theorem dX5_code_42 : decode cX5_code 42 = .ok (.getfield 20, 3) := by decide +kernel
theorem dX5_code_45 : decode cX5_code 45 = .ok (.iload_n 3, 1) := by decide +kernel
theorem dX5_code_46 : decode cX5_code 46 = .ok (.iaload, 1) := by decide +kernel
theorem dX5_code_47 : decode cX5_code 47 = .ok (.iastore, 1) := by decide +kernel
theorem dX5_code_48 : decode cX5_code 48 = .ok (.iinc 3 1, 3) := by decide +kernel
theorem dX5_code_51 : decode cX5_code 51 = .ok (.goto (-23), 3) := by decide +kernel
theorem dX5_code_54 : decode cX5_code 54 = .ok (.aload_n 0, 1) := by decide +kernel
theorem dX5_code_55 : decode cX5_code 55 = .ok (.bipush 16, 2) := by decide +kernel
theorem dX5_code_57 : decode cX5_code 57 = .ok (.iload_n 1, 1) := by decide +kernel
theorem dX5_code_58 : decode cX5_code 58 = .ok (.imul, 1) := by decide +kernel
theorem dX5_code_59 : decode cX5_code 59 = .ok (.aload_n 0, 1) := by decide +kernel
theorem dX5_code_60 : decode cX5_code 60 = .ok (.getfield 86, 3) := by decide +kernel
theorem dX5_code_63 : decode cX5_code 63 = .ok (.invokevirtual 92, 3) := by decide +kernel
theorem dX5_code_66 : decode cX5_code 66 = .ok (.aload_n 0, 1) := by decide +kernel
theorem dX5_code_67 : decode cX5_code 67 = .ok (.iload_n 2, 1) := by decide +kernel
theorem dX5_code_68 : decode cX5_code 68 = .ok (.bipush 7, 2) := by decide +kernel
theorem dX5_code_70 : decode cX5_code 70 = .ok (.iadd, 1) := by decide +kernel
theorem dX5_code_71 : decode cX5_code 71 = .ok (.bipush 8, 2) := by decide +kernel
theorem dX5_code_73 : decode cX5_code 73 = .ok (.idiv, 1) := by decide +kernel
theorem dX5_code_74 : decode cX5_code 74 = .ok (.invokevirtual 96, 3) := by decide +kernel
theorem dX5_code_77 : decode cX5_code 77 = .ok (.istore_n 3, 1) := by decide +kernel
theorem dX5_code_78 : decode cX5_code 78 = .ok (.iload_n 2, 1) := by decide +kernel
theorem dX5_code_79 : decode cX5_code 79 = .ok (.istore 4, 2) := by decide +kernel
theorem dX5_code_81 : decode cX5_code 81 = .ok (.iload 4, 2) := by decide +kernel
theorem dX5_code_83 : decode cX5_code 83 = .ok (.bipush 8, 2) := by decide +kernel
theorem dX5_code_85 : decode cX5_code 85 = .ok (.iload_n 3, 1) := by decide +kernel
theorem dX5_code_86 : decode cX5_code 86 = .ok (.imul, 1) := by decide +kernel
theorem dX5_code_87 : decode cX5_code 87 = .ok (.if_icmp .ge 37, 3) := by decide +kernel
theorem dX5_code_90 : decode cX5_code 90 = .ok (.aload_n 0, 1) := by decide +kernel
theorem dX5_code_91 : decode cX5_code 91 = .ok (.getfield 23, 3) := by decide +kernel
theorem dX5_code_94 : decode cX5_code 94 = .ok (.iload_n 3, 1) := by decide +kernel
theorem dX5_code_95 : decode cX5_code 95 = .ok (.iconst 1, 1) := by decide +kernel
theorem dX5_code_96 : decode cX5_code 96 = .ok (.isub, 1) := by decide +kernel
theorem dX5_code_97 : decode cX5_code 97 = .ok (.aload_n 0, 1) := by decide +kernel
theorem dX5_code_98 : decode cX5_code 98 = .ok (.getfield 23, 3) := by decide +kernel
theorem dX5_code_101 : decode cX5_code 101 = .ok (.iload_n 3, 1) := by decide +kernel
theorem dX5_code_102 : decode cX5_code 102 = .ok (.iconst 1, 1) := by decide +kernel
theorem dX5_code_103 : decode cX5_code 103 = .ok (.isub, 1) := by decide +kernel
theorem dX5_code_104 : decode cX5_code 104 = .ok (.iaload, 1) := by decide +kernel
theorem dX5_code_105 : decode cX5_code 105 = .ok (.sipush 128, 3) := by decide +kernel
theorem dX5_code_108 : decode cX5_code 108 = .ok (.iload 4, 2) := by decide +kernel
theorem dX5_code_110 : decode cX5_code 110 = .ok (.bipush 8, 2) := by decide +kernel
theorem dX5_code_112 : decode cX5_code 112 = .ok (.irem, 1) := by decide +kernel
theorem dX5_code_113 : decode cX5_code 113 = .ok (.ishr, 1) := by decide +kernel
theorem dX5_code_114 : decode cX5_code 114 = .ok (.iconst (-1), 1) := by decide +kernel
theorem dX5_code_115 : decode cX5_code 115 = .ok (.ixor, 1) := by decide +kernel
theorem dX5_code_116 : decode cX5_code 116 = .ok (.iand, 1) := by decide +kernel
theorem dX5_code_117 : decode cX5_code 117 = .ok (.iastore, 1) := by decide +kernel
theorem dX5_code_118 : decode cX5_code 118 = .ok (.iinc 4 1, 3) := by decide +kernel
theorem dX5_code_121 : decode cX5_code 121 = .ok (.goto (-40), 3) := by decide +kernel
theorem dX5_code_124 : decode cX5_code 124 = .ok (.iload_n 3, 1) := by decide +kernel
theorem dX5_code_125 : decode cX5_code 125 = .ok (.ireturn, 1) := by decide +kernel
theorem dX5_out_0 : decode cX5_out 0 = .ok (.aload_n 0, 1) := by decide +kernel
theorem dX5_out_1 : decode cX5_out 1 = .ok (.iload_n 1, 1) := by decide +kernel
theorem dX5_out_2 : decode cX5_out 2 = .ok (.ifCond .lt 11, 3) := by decide +kernel
theorem dX5_out_5 : decode cX5_out 5 = .ok (.iload_n 1, 1) := by decide +kernel
theorem dX5_out_6 : decode cX5_out 6 = .ok (.aload_n 0, 1) := by decide +kernel
theorem dX5_out_7 : decode cX5_out 7 = .ok (.getfield 89, 3) := by decide +kernel
theorem dX5_out_10 : decode cX5_out 10 = .ok (.if_icmp .lt 7, 3) := by decide +kernel
theorem dX5_out_13 : decode cX5_out 13 = .ok (.iconst 1, 1) := by decide +kernel
theorem dX5_out_14 : decode cX5_out 14 = .ok (.goto 4, 3) := by decide +kernel
theorem dX5_out_17 : decode cX5_out 17 = .ok (.iconst 0, 1) := by decide +kernel
theorem dX5_out_18 : decode cX5_out 18 = .ok (.putfield 58, 3) := by decide +kernel
theorem dX5_out_21 : decode cX5_out 21 = .ok (.aload_n 0, 1) := by decide +kernel
theorem dX5_out_22 : decode cX5_out 22 = .ok (.getfield 58, 3) := by decide +kernel
theorem dX5_out_25 : decode cX5_out 25 = .ok (.ifCond .le 7, 3) := by decide +kernel
theorem dX5_out_28 : decode cX5_out 28 = .ok (.iconst 0, 1) := by decide +kernel
theorem dX5_out_29 : decode cX5_out 29 = .ok (.goto 10, 3) := by decide +kernel
theorem dX5_out_32 : decode cX5_out 32 = .ok (.aload_n 0, 1) := by decide +kernel
theorem dX5_out_33 : decode cX5_out 33 = .ok (.getfield 23, 3) := by decide +kernel
theorem dX5_out_36 : decode cX5_out 36 = .ok (.iload_n 1, 1) := by decide +kernel
theorem dX5_out_37 : decode cX5_out 37 = .ok (.iaload, 1) := by decide +kernel
theorem dX5_out_38 : decode cX5_out 38 = .ok (.i2b, 1) := by decide +kernel
theorem dX5_out_39 : decode cX5_out 39 = .ok (.ireturn, 1) := by decide +kernel
theorem dX5_encipher_0 : decode cX5_encipher 0 = .ok (.aload_n 0, 1) := by decide +kernel
theorem dX5_encipher_1 : decode cX5_encipher 1 = .ok (.iload_n 1, 1) := by decide +kernel
theorem dX5_encipher_2 : decode cX5_encipher 2 = .ok (.invokevirtual 82, 3) := by decide +kernel
theorem dX5_encipher_5 : decode cX5_encipher 5 = .ok (.ifCond .eq 5, 3) := by decide +kernel
theorem dX5_encipher_8 : decode cX5_encipher 8 = .ok (.iconst (-1), 1) := by decide +kernel
theorem dX5_encipher_9 : decode cX5_encipher 9 = .ok (.ireturn, 1) := by decide +kernel
theorem dX5_encipher_10 : decode cX5_encipher 10 = .ok (.aload_n 0, 1) := by decide +kernel
theorem dX5_encipher_11 : decode cX5_encipher 11 = .ok (.getfield 86, 3) := by decide +kernel
theorem dX5_encipher_14 : decode cX5_encipher 14 = .ok (.bipush 16, 2) := by decide +kernel
theorem dX5_encipher_16 : decode cX5_encipher 16 = .ok (.if_icmp .eq 6, 3) := by decide +kernel
theorem dX5_encipher_19 : decode cX5_encipher 19 = .ok (.bipush (-3), 2) := by decide +kernel
theorem dX5_encipher_21 : decode cX5_encipher 21 = .ok (.ireturn, 1) := by decide +kernel
theorem dX5_encipher_22 : decode cX5_encipher 22 = .ok (.iconst 0, 1) := by decide +kernel
theorem dX5_encipher_23 : decode cX5_encipher 23 = .ok (.istore_n 2, 1) := by decide +kernel
theorem dX5_encipher_24 : decode cX5_encipher 24 = .ok (.iload_n 2, 1) := by decide +kernel
theorem dX5_encipher_25 : decode cX5_encipher 25 = .ok (.bipush 16, 2) := by decide +kernel
theorem dX5_encipher_27 : decode cX5_encipher 27 = .ok (.if_icmp .ge 21, 3) := by decide +kernel
theorem dX5_encipher_30 : decode cX5_encipher 30 = .ok (.aload_n 0, 1) := by decide +kernel
theorem dX5_encipher_31 : decode cX5_encipher 31 = .ok (.getfield 36, 3) := by decide +kernel
theorem dX5_encipher_34 : decode cX5_encipher 34 = .ok (.iload_n 2, 1) := by decide +kernel
theorem dX5_encipher_35 : decode cX5_encipher 35 = .ok (.aload_n 0, 1) := by decide +kernel
theorem dX5_encipher_36 : decode cX5_encipher 36 = .ok (.getfield 20, 3) := by decide +kernel
theorem dX5_encipher_39 : decode cX5_encipher 39 = .ok (.iload_n 2, 1) := by decide +kernel
theorem dX5_encipher_40 : decode cX5_encipher 40 = .ok (.iaload, 1) := by decide +kernel
theorem dX5_encipher_41 : decode cX5_encipher 41 = .ok (.iastore, 1) := by decide +kernel
theorem dX5_encipher_42 : decode cX5_encipher 42 = .ok (.iinc 2 1, 3) := by decide +kernel
theorem dX5_encipher_45 : decode cX5_encipher 45 = .ok (.goto (-21), 3) := by decide +kernel
theorem dX5_encipher_48 : decode cX5_encipher 48 = .ok (.aload_n 0, 1) := by decide +kernel
theorem dX5_encipher_49 : decode cX5_encipher 49 = .ok (.bipush 16, 2) := by decide +kernel
theorem dX5_encipher_51 : decode cX5_encipher 51 = .ok (.iload_n 1, 1) := by decide +kernel
theorem dX5_encipher_52 : decode cX5_encipher 52 = .ok (.imul, 1) := by decide +kernel
theorem dX5_encipher_53 : decode cX5_encipher 53 = .ok (.invokevirtual 76, 3) := by decide +kernel
theorem dX5_encipher_56 : decode cX5_encipher 56 = .ok (.aload_n 0, 1) := by decide +kernel
theorem dX5_encipher_57 : decode cX5_encipher 57 = .ok (.bipush 16, 2) := by decide +kernel
theorem dX5_encipher_59 : decode cX5_encipher 59 = .ok (.invokevirtual 96, 3) := by decide +kernel
theorem dX5_encipher_62 : decode cX5_encipher 62 = .ok (.ireturn, 1) := by decide +kernel
theorem dX5_check_0 : decode cX5_check 0 = .ok (.aload_n 0, 1) := by decide +kernel
theorem dX5_check_1 : decode cX5_check 1 = .ok (.iload_n 1, 1) := by decide +kernel
theorem dX5_check_2 : decode cX5_check 2 = .ok (.invokevirtual 82, 3) := by decide +kernel
theorem dX5_check_5 : decode cX5_check 5 = .ok (.ifCond .eq 5, 3) := by decide +kernel
theorem dX5_check_8 : decode cX5_check 8 = .ok (.iconst 0, 1) := by decide +kernel
theorem dX5_check_9 : decode cX5_check 9 = .ok (.ireturn, 1) := by decide +kernel
theorem dX5_check_10 : decode cX5_check 10 = .ok (.iconst 0, 1) := by decide +kernel
theorem dX5_check_11 : decode cX5_check 11 = .ok (.istore_n 2, 1) := by decide +kernel
theorem dX5_check_12 : decode cX5_check 12 = .ok (.iload_n 2, 1) := by decide +kernel
theorem dX5_check_13 : decode cX5_check 13 = .ok (.bipush 16, 2) := by decide +kernel
theorem dX5_check_15 : decode cX5_check 15 = .ok (.if_icmp .ge 16, 3) := by decide +kernel
theorem dX5_check_18 : decode cX5_check 18 = .ok (.aload_n 0, 1) := by decide +kernel
theorem dX5_check_19 : decode cX5_check 19 = .ok (.getfield 36, 3) := by decide +kernel
theorem dX5_check_22 : decode cX5_check 22 = .ok (.iload_n 2, 1) := by decide +kernel
theorem dX5_check_23 : decode cX5_check 23 = .ok (.iconst 0, 1) := by decide +kernel
theorem dX5_check_24 : decode cX5_check 24 = .ok (.iastore, 1) := by decide +kernel
theorem dX5_check_25 : decode cX5_check 25 = .ok (.iinc 2 1, 3) := by decide +kernel
theorem dX5_check_28 : decode cX5_check 28 = .ok (.goto (-16), 3) := by decide +kernel
theorem dX5_check_31 : decode cX5_check 31 = .ok (.aload_n 0, 1) := by decide +kernel
theorem dX5_check_32 : decode cX5_check 32 = .ok (.bipush 16, 2) := by decide +kernel
theorem dX5_check_34 : decode cX5_check 34 = .ok (.iload_n 1, 1) := by decide +kernel
theorem dX5_check_35 : decode cX5_check 35 = .ok (.imul, 1) := by decide +kernel
theorem dX5_check_36 : decode cX5_check 36 = .ok (.invokevirtual 76, 3) := by decide +kernel
theorem dX5_check_39 : decode cX5_check 39 = .ok (.aload_n 0, 1) := by decide +kernel
theorem dX5_check_40 : decode cX5_check 40 = .ok (.getfield 36, 3) := by decide +kernel
theorem dX5_check_43 : decode cX5_check 43 = .ok (.iconst 0, 1) := by decide +kernel
theorem dX5_check_44 : decode cX5_check 44 = .ok (.iaload, 1) := by decide +kernel
theorem dX5_check_45 : decode cX5_check 45 = .ok (.bipush 24, 2) := by decide +kernel
theorem dX5_check_47 : decode cX5_check 47 = .ok (.ishl, 1) := by decide +kernel
theorem dX5_check_48 : decode cX5_check 48 = .ok (.aload_n 0, 1) := by decide +kernel
theorem dX5_check_49 : decode cX5_check 49 = .ok (.getfield 36, 3) := by decide +kernel
theorem dX5_check_52 : decode cX5_check 52 = .ok (.iconst 1, 1) := by decide +kernel
theorem dX5_check_53 : decode cX5_check 53 = .ok (.iaload, 1) := by decide +kernel
theorem dX5_check_54 : decode cX5_check 54 = .ok (.bipush 16, 2) := by decide +kernel
theorem dX5_check_56 : decode cX5_check 56 = .ok (.ishl, 1) := by decide +kernel
theorem dX5_check_57 : decode cX5_check 57 = .ok (.ior, 1) := by decide +kernel
theorem dX5_check_58 : decode cX5_check 58 = .ok (.aload_n 0, 1) := by decide +kernel
theorem dX5_check_59 : decode cX5_check 59 = .ok (.getfield 36, 3) := by decide +kernel
theorem dX5_check_62 : decode cX5_check 62 = .ok (.iconst 2, 1) := by decide +kernel
theorem dX5_check_63 : decode cX5_check 63 = .ok (.iaload, 1) := by decide +kernel
theorem dX5_check_64 : decode cX5_check 64 = .ok (.bipush 8, 2) := by decide +kernel
theorem dX5_check_66 : decode cX5_check 66 = .ok (.ishl, 1) := by decide +kernel
theorem dX5_check_67 : decode cX5_check 67 = .ok (.ior, 1) := by decide +kernel
theorem dX5_check_68 : decode cX5_check 68 = .ok (.aload_n 0, 1) := by decide +kernel
theorem dX5_check_69 : decode cX5_check 69 = .ok (.getfield 36, 3) := by decide +kernel
theorem dX5_check_72 : decode cX5_check 72 = .ok (.iconst 3, 1) := by decide +kernel
theorem dX5_check_73 : decode cX5_check 73 = .ok (.iaload, 1) := by decide +kernel
theorem dX5_check_74 : decode cX5_check 74 = .ok (.ior, 1) := by decide +kernel
theorem dX5_check_75 : decode cX5_check 75 = .ok (.ireturn, 1) := by decide +kernel
theorem dX5_noSender_0 : decode cX5_noSender 0 = .ok (.iload_n 0, 1) := by decide +kernel
theorem dX5_noSender_1 : decode cX5_noSender 1 = .ok (.iconst 1, 1) := by decide +kernel
theorem dX5_noSender_2 : decode cX5_noSender 2 = .ok (.if_icmp .lt 9, 3) := by decide +kernel
theorem dX5_noSender_5 : decode cX5_noSender 5 = .ok (.iload_n 0, 1) := by decide +kernel
theorem dX5_noSender_6 : decode cX5_noSender 6 = .ok (.bipush 64, 2) := by decide +kernel
theorem dX5_noSender_8 : decode cX5_noSender 8 = .ok (.if_icmp .le 7, 3) := by decide +kernel
theorem dX5_noSender_11 : decode cX5_noSender 11 = .ok (.iconst 1, 1) := by decide +kernel
theorem dX5_noSender_12 : decode cX5_noSender 12 = .ok (.goto 4, 3) := by decide +kernel
theorem dX5_noSender_15 : decode cX5_noSender 15 = .ok (.iconst 0, 1) := by decide +kernel
theorem dX5_noSender_16 : decode cX5_noSender 16 = .ok (.ireturn, 1) := by decide +kernel
theorem dX5_fresh_0 : decode cX5_fresh 0 = .ok (.aload_n 0, 1) := by decide +kernel
theorem dX5_fresh_1 : decode cX5_fresh 1 = .ok (.iconst 0, 1) := by decide +kernel
theorem dX5_fresh_2 : decode cX5_fresh 2 = .ok (.putfield 58, 3) := by decide +kernel
theorem dX5_fresh_5 : decode cX5_fresh 5 = .ok (.iload_n 1, 1) := by decide +kernel
theorem dX5_fresh_6 : decode cX5_fresh 6 = .ok (.invokestatic 99, 3) := by decide +kernel
theorem dX5_fresh_9 : decode cX5_fresh 9 = .ok (.ifCond .eq 5, 3) := by decide +kernel
theorem dX5_fresh_12 : decode cX5_fresh 12 = .ok (.iconst (-1), 1) := by decide +kernel
theorem dX5_fresh_13 : decode cX5_fresh 13 = .ok (.ireturn, 1) := by decide +kernel
theorem dX5_fresh_14 : decode cX5_fresh 14 = .ok (.lload_n 2, 1) := by decide +kernel
theorem dX5_fresh_15 : decode cX5_fresh 15 = .ok (.lconst 0, 1) := by decide +kernel
theorem dX5_fresh_16 : decode cX5_fresh 16 = .ok (.lcmp, 1) := by decide +kernel
theorem dX5_fresh_17 : decode cX5_fresh 17 = .ok (.ifCond .lt 11, 3) := by decide +kernel
theorem dX5_fresh_20 : decode cX5_fresh 20 = .ok (.lload_n 2, 1) := by decide +kernel
theorem dX5_fresh_21 : decode cX5_fresh 21 = .ok (.ldc2_w 102, 3) := by decide +kernel
theorem dX5_fresh_24 : decode cX5_fresh 24 = .ok (.lcmp, 1) := by decide +kernel
theorem dX5_fresh_25 : decode cX5_fresh 25 = .ok (.ifCond .le 6, 3) := by decide +kernel
theorem dX5_fresh_28 : decode cX5_fresh 28 = .ok (.bipush (-2), 2) := by decide +kernel
theorem dX5_fresh_30 : decode cX5_fresh 30 = .ok (.ireturn, 1) := by decide +kernel
theorem dX5_fresh_31 : decode cX5_fresh 31 = .ok (.lload_n 2, 1) := by decide +kernel
theorem dX5_fresh_32 : decode cX5_fresh 32 = .ok (.aload_n 0, 1) := by decide +kernel
theorem dX5_fresh_33 : decode cX5_fresh 33 = .ok (.getfield 30, 3) := by decide +kernel
theorem dX5_fresh_36 : decode cX5_fresh 36 = .ok (.iload_n 1, 1) := by decide +kernel
theorem dX5_fresh_37 : decode cX5_fresh 37 = .ok (.laload, 1) := by decide +kernel
theorem dX5_fresh_38 : decode cX5_fresh 38 = .ok (.lcmp, 1) := by decide +kernel
theorem dX5_fresh_39 : decode cX5_fresh 39 = .ok (.ifCond .le 7, 3) := by decide +kernel
theorem dX5_fresh_42 : decode cX5_fresh 42 = .ok (.iconst 1, 1) := by decide +kernel
theorem dX5_fresh_43 : decode cX5_fresh 43 = .ok (.goto 4, 3) := by decide +kernel
theorem dX5_fresh_46 : decode cX5_fresh 46 = .ok (.iconst 0, 1) := by decide +kernel
theorem dX5_fresh_47 : decode cX5_fresh 47 = .ok (.istore 4, 2) := by decide +kernel
theorem dX5_fresh_49 : decode cX5_fresh 49 = .ok (.aload_n 0, 1) := by decide +kernel
theorem dX5_fresh_50 : decode cX5_fresh 50 = .ok (.getfield 30, 3) := by decide +kernel
theorem dX5_fresh_53 : decode cX5_fresh 53 = .ok (.iload_n 1, 1) := by decide +kernel
theorem dX5_fresh_54 : decode cX5_fresh 54 = .ok (.iload 4, 2) := by decide +kernel
theorem dX5_fresh_56 : decode cX5_fresh 56 = .ok (.ifCond .eq 7, 3) := by decide +kernel
theorem dX5_fresh_59 : decode cX5_fresh 59 = .ok (.lload_n 2, 1) := by decide +kernel
theorem dX5_fresh_60 : decode cX5_fresh 60 = .ok (.goto 9, 3) := by decide +kernel
theorem dX5_fresh_63 : decode cX5_fresh 63 = .ok (.aload_n 0, 1) := by decide +kernel
theorem dX5_fresh_64 : decode cX5_fresh 64 = .ok (.getfield 30, 3) := by decide +kernel
theorem dX5_fresh_67 : decode cX5_fresh 67 = .ok (.iload_n 1, 1) := by decide +kernel
theorem dX5_fresh_68 : decode cX5_fresh 68 = .ok (.laload, 1) := by decide +kernel
theorem dX5_fresh_69 : decode cX5_fresh 69 = .ok (.lastore, 1) := by decide +kernel
theorem dX5_fresh_70 : decode cX5_fresh 70 = .ok (.iload 4, 2) := by decide +kernel
theorem dX5_fresh_72 : decode cX5_fresh 72 = .ok (.ifCond .eq 7, 3) := by decide +kernel
theorem dX5_fresh_75 : decode cX5_fresh 75 = .ok (.iconst 1, 1) := by decide +kernel
theorem dX5_fresh_76 : decode cX5_fresh 76 = .ok (.goto 4, 3) := by decide +kernel
theorem dX5_fresh_79 : decode cX5_fresh 79 = .ok (.iconst 0, 1) := by decide +kernel
theorem dX5_fresh_80 : decode cX5_fresh 80 = .ok (.ireturn, 1) := by decide +kernel
theorem dX5_number_0 : decode cX5_number 0 = .ok (.iconst 0, 1) := by decide +kernel
theorem dX5_number_1 : decode cX5_number 1 = .ok (.istore 5, 2) := by decide +kernel
theorem dX5_number_3 : decode cX5_number 3 = .ok (.iload 5, 2) := by decide +kernel
theorem dX5_number_5 : decode cX5_number 5 = .ok (.iload_n 3, 1) := by decide +kernel
theorem dX5_number_6 : decode cX5_number 6 = .ok (.if_icmp .ge 35, 3) := by decide +kernel
theorem dX5_number_9 : decode cX5_number 9 = .ok (.aload_n 0, 1) := by decide +kernel
theorem dX5_number_10 : decode cX5_number 10 = .ok (.getfield 48, 3) := by decide +kernel
theorem dX5_number_13 : decode cX5_number 13 = .ok (.iload 4, 2) := by decide +kernel
theorem dX5_number_15 : decode cX5_number 15 = .ok (.iload 5, 2) := by decide +kernel
theorem dX5_number_17 : decode cX5_number 17 = .ok (.iadd, 1) := by decide +kernel
theorem dX5_number_18 : decode cX5_number 18 = .ok (.lload_n 1, 1) := by decide +kernel
theorem dX5_number_19 : decode cX5_number 19 = .ok (.bipush 8, 2) := by decide +kernel
theorem dX5_number_21 : decode cX5_number 21 = .ok (.iload_n 3, 1) := by decide +kernel
theorem dX5_number_22 : decode cX5_number 22 = .ok (.iconst 1, 1) := by decide +kernel
theorem dX5_number_23 : decode cX5_number 23 = .ok (.isub, 1) := by decide +kernel
theorem dX5_number_24 : decode cX5_number 24 = .ok (.iload 5, 2) := by decide +kernel
theorem dX5_number_26 : decode cX5_number 26 = .ok (.isub, 1) := by decide +kernel
theorem dX5_number_27 : decode cX5_number 27 = .ok (.imul, 1) := by decide +kernel
theorem dX5_number_28 : decode cX5_number 28 = .ok (.lshr, 1) := by decide +kernel
theorem dX5_number_29 : decode cX5_number 29 = .ok (.ldc2_w 104, 3) := by decide +kernel
theorem dX5_number_32 : decode cX5_number 32 = .ok (.land, 1) := by decide +kernel
theorem dX5_number_33 : decode cX5_number 33 = .ok (.l2i, 1) := by decide +kernel
theorem dX5_number_34 : decode cX5_number 34 = .ok (.iastore, 1) := by decide +kernel
theorem dX5_number_35 : decode cX5_number 35 = .ok (.iinc 5 1, 3) := by decide +kernel
theorem dX5_number_38 : decode cX5_number 38 = .ok (.goto (-35), 3) := by decide +kernel
theorem dX5_number_41 : decode cX5_number 41 = .ok (.return_, 1) := by decide +kernel
theorem dX5_fits_0 : decode cX5_fits 0 = .ok (.iconst 1, 1) := by decide +kernel
theorem dX5_fits_1 : decode cX5_fits 1 = .ok (.istore_n 2, 1) := by decide +kernel
theorem dX5_fits_2 : decode cX5_fits 2 = .ok (.iconst 0, 1) := by decide +kernel
theorem dX5_fits_3 : decode cX5_fits 3 = .ok (.istore_n 3, 1) := by decide +kernel
theorem dX5_fits_4 : decode cX5_fits 4 = .ok (.iload_n 3, 1) := by decide +kernel
theorem dX5_fits_5 : decode cX5_fits 5 = .ok (.bipush 8, 2) := by decide +kernel
theorem dX5_fits_7 : decode cX5_fits 7 = .ok (.if_icmp .ge 36, 3) := by decide +kernel
theorem dX5_fits_10 : decode cX5_fits 10 = .ok (.iload_n 2, 1) := by decide +kernel
theorem dX5_fits_11 : decode cX5_fits 11 = .ok (.ifCond .eq 24, 3) := by decide +kernel
theorem dX5_fits_14 : decode cX5_fits 14 = .ok (.aload_n 0, 1) := by decide +kernel
theorem dX5_fits_15 : decode cX5_fits 15 = .ok (.getfield 20, 3) := by decide +kernel
theorem dX5_fits_18 : decode cX5_fits 18 = .ok (.iload_n 1, 1) := by decide +kernel
theorem dX5_fits_19 : decode cX5_fits 19 = .ok (.iload_n 3, 1) := by decide +kernel
theorem dX5_fits_20 : decode cX5_fits 20 = .ok (.iadd, 1) := by decide +kernel
theorem dX5_fits_21 : decode cX5_fits 21 = .ok (.iaload, 1) := by decide +kernel
theorem dX5_fits_22 : decode cX5_fits 22 = .ok (.aload_n 0, 1) := by decide +kernel
theorem dX5_fits_23 : decode cX5_fits 23 = .ok (.getfield 36, 3) := by decide +kernel
theorem dX5_fits_26 : decode cX5_fits 26 = .ok (.iload_n 3, 1) := by decide +kernel
theorem dX5_fits_27 : decode cX5_fits 27 = .ok (.iaload, 1) := by decide +kernel
theorem dX5_fits_28 : decode cX5_fits 28 = .ok (.if_icmp .ne 7, 3) := by decide +kernel
theorem dX5_fits_31 : decode cX5_fits 31 = .ok (.iconst 1, 1) := by decide +kernel
theorem dX5_fits_32 : decode cX5_fits 32 = .ok (.goto 4, 3) := by decide +kernel
theorem dX5_fits_35 : decode cX5_fits 35 = .ok (.iconst 0, 1) := by decide +kernel
theorem dX5_fits_36 : decode cX5_fits 36 = .ok (.istore_n 2, 1) := by decide +kernel
theorem dX5_fits_37 : decode cX5_fits 37 = .ok (.iinc 3 1, 3) := by decide +kernel
theorem dX5_fits_40 : decode cX5_fits 40 = .ok (.goto (-36), 3) := by decide +kernel
theorem dX5_fits_43 : decode cX5_fits 43 = .ok (.iload_n 2, 1) := by decide +kernel
theorem dX5_fits_44 : decode cX5_fits 44 = .ok (.ireturn, 1) := by decide +kernel
theorem dX5_verify_0 : decode cX5_verify 0 = .ok (.aload_n 0, 1) := by decide +kernel
theorem dX5_verify_1 : decode cX5_verify 1 = .ok (.iload_n 1, 1) := by decide +kernel
theorem dX5_verify_2 : decode cX5_verify 2 = .ok (.invokevirtual 82, 3) := by decide +kernel
theorem dX5_verify_5 : decode cX5_verify 5 = .ok (.ifCond .ne 10, 3) := by decide +kernel
theorem dX5_verify_8 : decode cX5_verify 8 = .ok (.iload_n 2, 1) := by decide +kernel
theorem dX5_verify_9 : decode cX5_verify 9 = .ok (.invokestatic 99, 3) := by decide +kernel
theorem dX5_verify_12 : decode cX5_verify 12 = .ok (.ifCond .eq 5, 3) := by decide +kernel
theorem dX5_verify_15 : decode cX5_verify 15 = .ok (.iconst (-1), 1) := by decide +kernel
theorem dX5_verify_16 : decode cX5_verify 16 = .ok (.ireturn, 1) := by decide +kernel
theorem dX5_verify_17 : decode cX5_verify 17 = .ok (.iload_n 3, 1) := by decide +kernel
theorem dX5_verify_18 : decode cX5_verify 18 = .ok (.ifCond .lt 10, 3) := by decide +kernel
theorem dX5_verify_21 : decode cX5_verify 21 = .ok (.iload_n 3, 1) := by decide +kernel
theorem dX5_verify_22 : decode cX5_verify 22 = .ok (.sipush 255, 3) := by decide +kernel
theorem dX5_verify_25 : decode cX5_verify 25 = .ok (.if_icmp .le 6, 3) := by decide +kernel
theorem dX5_verify_28 : decode cX5_verify 28 = .ok (.bipush (-2), 2) := by decide +kernel
theorem dX5_verify_30 : decode cX5_verify 30 = .ok (.ireturn, 1) := by decide +kernel
theorem dX5_verify_31 : decode cX5_verify 31 = .ok (.aload_n 0, 1) := by decide +kernel
theorem dX5_verify_32 : decode cX5_verify 32 = .ok (.getfield 26, 3) := by decide +kernel
theorem dX5_verify_35 : decode cX5_verify 35 = .ok (.bipush 17, 2) := by decide +kernel
theorem dX5_verify_37 : decode cX5_verify 37 = .ok (.iload_n 2, 1) := by decide +kernel
theorem dX5_verify_38 : decode cX5_verify 38 = .ok (.imul, 1) := by decide +kernel
theorem dX5_verify_39 : decode cX5_verify 39 = .ok (.iload_n 1, 1) := by decide +kernel
theorem dX5_verify_40 : decode cX5_verify 40 = .ok (.iadd, 1) := by decide +kernel
theorem dX5_verify_41 : decode cX5_verify 41 = .ok (.baload, 1) := by decide +kernel
theorem dX5_verify_42 : decode cX5_verify 42 = .ok (.ifCond .eq 22, 3) := by decide +kernel
theorem dX5_verify_45 : decode cX5_verify 45 = .ok (.aload_n 0, 1) := by decide +kernel
theorem dX5_verify_46 : decode cX5_verify 46 = .ok (.getfield 33, 3) := by decide +kernel
theorem dX5_verify_49 : decode cX5_verify 49 = .ok (.iload_n 2, 1) := by decide +kernel
theorem dX5_verify_50 : decode cX5_verify 50 = .ok (.iaload, 1) := by decide +kernel
theorem dX5_verify_51 : decode cX5_verify 51 = .ok (.iconst 5, 1) := by decide +kernel
theorem dX5_verify_52 : decode cX5_verify 52 = .ok (.if_icmp .eq 12, 3) := by decide +kernel
theorem dX5_verify_55 : decode cX5_verify 55 = .ok (.aload_n 0, 1) := by decide +kernel
theorem dX5_verify_56 : decode cX5_verify 56 = .ok (.getfield 86, 3) := by decide +kernel
theorem dX5_verify_59 : decode cX5_verify 59 = .ok (.bipush 8, 2) := by decide +kernel
theorem dX5_verify_61 : decode cX5_verify 61 = .ok (.if_icmp .ge 6, 3) := by decide +kernel
theorem dX5_verify_64 : decode cX5_verify 64 = .ok (.bipush (-3), 2) := by decide +kernel
theorem dX5_verify_66 : decode cX5_verify 66 = .ok (.ireturn, 1) := by decide +kernel
theorem dX5_verify_67 : decode cX5_verify 67 = .ok (.aload_n 0, 1) := by decide +kernel
theorem dX5_verify_68 : decode cX5_verify 68 = .ok (.getfield 86, 3) := by decide +kernel
theorem dX5_verify_71 : decode cX5_verify 71 = .ok (.bipush 8, 2) := by decide +kernel
theorem dX5_verify_73 : decode cX5_verify 73 = .ok (.isub, 1) := by decide +kernel
theorem dX5_verify_74 : decode cX5_verify 74 = .ok (.istore 4, 2) := by decide +kernel
theorem dX5_verify_76 : decode cX5_verify 76 = .ok (.aload_n 0, 1) := by decide +kernel
theorem dX5_verify_77 : decode cX5_verify 77 = .ok (.iconst 0, 1) := by decide +kernel
theorem dX5_verify_78 : decode cX5_verify 78 = .ok (.putfield 86, 3) := by decide +kernel
theorem dX5_verify_81 : decode cX5_verify 81 = .ok (.iload_n 3, 1) := by decide +kernel
theorem dX5_verify_82 : decode cX5_verify 82 = .ok (.i2l, 1) := by decide +kernel
theorem dX5_verify_83 : decode cX5_verify 83 = .ok (.aload_n 0, 1) := by decide +kernel
theorem dX5_verify_84 : decode cX5_verify 84 = .ok (.getfield 30, 3) := by decide +kernel
theorem dX5_verify_87 : decode cX5_verify 87 = .ok (.iload_n 2, 1) := by decide +kernel
theorem dX5_verify_88 : decode cX5_verify 88 = .ok (.laload, 1) := by decide +kernel
theorem dX5_verify_89 : decode cX5_verify 89 = .ok (.ldc2_w 104, 3) := by decide +kernel
theorem dX5_verify_92 : decode cX5_verify 92 = .ok (.land, 1) := by decide +kernel
theorem dX5_verify_93 : decode cX5_verify 93 = .ok (.lsub, 1) := by decide +kernel
theorem dX5_verify_94 : decode cX5_verify 94 = .ok (.ldc2_w 106, 3) := by decide +kernel
theorem dX5_verify_97 : decode cX5_verify 97 = .ok (.ladd, 1) := by decide +kernel
theorem dX5_verify_98 : decode cX5_verify 98 = .ok (.ldc2_w 106, 3) := by decide +kernel
theorem dX5_verify_101 : decode cX5_verify 101 = .ok (.lrem, 1) := by decide +kernel
theorem dX5_verify_102 : decode cX5_verify 102 = .ok (.l2i, 1) := by decide +kernel
theorem dX5_verify_103 : decode cX5_verify 103 = .ok (.istore 5, 2) := by decide +kernel
theorem dX5_verify_105 : decode cX5_verify 105 = .ok (.iload 5, 2) := by decide +kernel
theorem dX5_verify_107 : decode cX5_verify 107 = .ok (.ifCond .ne 5, 3) := by decide +kernel
theorem dX5_verify_110 : decode cX5_verify 110 = .ok (.iconst 0, 1) := by decide +kernel
theorem dX5_verify_111 : decode cX5_verify 111 = .ok (.ireturn, 1) := by decide +kernel
theorem dX5_verify_112 : decode cX5_verify 112 = .ok (.iload 5, 2) := by decide +kernel
theorem dX5_verify_114 : decode cX5_verify 114 = .ok (.bipush 64, 2) := by decide +kernel
theorem dX5_verify_116 : decode cX5_verify 116 = .ok (.if_icmp .gt 20, 3) := by decide +kernel
theorem dX5_verify_119 : decode cX5_verify 119 = .ok (.aload_n 0, 1) := by decide +kernel
theorem dX5_verify_120 : decode cX5_verify 120 = .ok (.getfield 30, 3) := by decide +kernel
theorem dX5_verify_123 : decode cX5_verify 123 = .ok (.iload_n 2, 1) := by decide +kernel
theorem dX5_verify_124 : decode cX5_verify 124 = .ok (.laload, 1) := by decide +kernel
theorem dX5_verify_125 : decode cX5_verify 125 = .ok (.ldc2_w 102, 3) := by decide +kernel
theorem dX5_verify_128 : decode cX5_verify 128 = .ok (.iload 5, 2) := by decide +kernel
theorem dX5_verify_130 : decode cX5_verify 130 = .ok (.i2l, 1) := by decide +kernel
theorem dX5_verify_131 : decode cX5_verify 131 = .ok (.lsub, 1) := by decide +kernel
theorem dX5_verify_132 : decode cX5_verify 132 = .ok (.lcmp, 1) := by decide +kernel
theorem dX5_verify_133 : decode cX5_verify 133 = .ok (.ifCond .le 5, 3) := by decide +kernel
theorem dX5_verify_136 : decode cX5_verify 136 = .ok (.iconst 2, 1) := by decide +kernel
theorem dX5_verify_137 : decode cX5_verify 137 = .ok (.ireturn, 1) := by decide +kernel
theorem dX5_verify_138 : decode cX5_verify 138 = .ok (.aload_n 0, 1) := by decide +kernel
theorem dX5_verify_139 : decode cX5_verify 139 = .ok (.iload_n 2, 1) := by decide +kernel
theorem dX5_verify_140 : decode cX5_verify 140 = .ok (.i2l, 1) := by decide +kernel
theorem dX5_verify_141 : decode cX5_verify 141 = .ok (.iconst 1, 1) := by decide +kernel
theorem dX5_verify_142 : decode cX5_verify 142 = .ok (.iconst 0, 1) := by decide +kernel
theorem dX5_verify_143 : decode cX5_verify 143 = .ok (.invokevirtual 108, 3) := by decide +kernel
theorem dX5_verify_146 : decode cX5_verify 146 = .ok (.aload_n 0, 1) := by decide +kernel
theorem dX5_verify_147 : decode cX5_verify 147 = .ok (.aload_n 0, 1) := by decide +kernel
theorem dX5_verify_148 : decode cX5_verify 148 = .ok (.getfield 112, 3) := by decide +kernel
theorem dX5_verify_151 : decode cX5_verify 151 = .ok (.iconst 4, 1) := by decide +kernel
theorem dX5_verify_152 : decode cX5_verify 152 = .ok (.iconst 1, 1) := by decide +kernel
theorem dX5_verify_153 : decode cX5_verify 153 = .ok (.invokevirtual 108, 3) := by decide +kernel
theorem dX5_verify_156 : decode cX5_verify 156 = .ok (.aload_n 0, 1) := by decide +kernel
theorem dX5_verify_157 : decode cX5_verify 157 = .ok (.aload_n 0, 1) := by decide +kernel
theorem dX5_verify_158 : decode cX5_verify 158 = .ok (.getfield 30, 3) := by decide +kernel
theorem dX5_verify_161 : decode cX5_verify 161 = .ok (.iload_n 2, 1) := by decide +kernel
theorem dX5_verify_162 : decode cX5_verify 162 = .ok (.laload, 1) := by decide +kernel
theorem dX5_verify_163 : decode cX5_verify 163 = .ok (.iload 5, 2) := by decide +kernel
theorem dX5_verify_165 : decode cX5_verify 165 = .ok (.i2l, 1) := by decide +kernel
theorem dX5_verify_166 : decode cX5_verify 166 = .ok (.ladd, 1) := by decide +kernel
theorem dX5_verify_167 : decode cX5_verify 167 = .ok (.bipush 8, 2) := by decide +kernel
theorem dX5_verify_169 : decode cX5_verify 169 = .ok (.iconst 5, 1) := by decide +kernel
theorem dX5_verify_170 : decode cX5_verify 170 = .ok (.invokevirtual 108, 3) := by decide +kernel
theorem dX5_verify_173 : decode cX5_verify 173 = .ok (.iconst 0, 1) := by decide +kernel
theorem dX5_verify_174 : decode cX5_verify 174 = .ok (.istore 6, 2) := by decide +kernel
theorem dX5_verify_176 : decode cX5_verify 176 = .ok (.iload 6, 2) := by decide +kernel
theorem dX5_verify_178 : decode cX5_verify 178 = .ok (.iload 4, 2) := by decide +kernel
theorem dX5_verify_180 : decode cX5_verify 180 = .ok (.if_icmp .ge 26, 3) := by decide +kernel
theorem dX5_verify_183 : decode cX5_verify 183 = .ok (.aload_n 0, 1) := by decide +kernel
theorem dX5_verify_184 : decode cX5_verify 184 = .ok (.getfield 48, 3) := by decide +kernel
theorem dX5_verify_187 : decode cX5_verify 187 = .ok (.bipush 13, 2) := by decide +kernel
theorem dX5_verify_189 : decode cX5_verify 189 = .ok (.iload 6, 2) := by decide +kernel
theorem dX5_verify_191 : decode cX5_verify 191 = .ok (.iadd, 1) := by decide +kernel
theorem dX5_verify_192 : decode cX5_verify 192 = .ok (.aload_n 0, 1) := by decide +kernel
theorem dX5_verify_193 : decode cX5_verify 193 = .ok (.getfield 20, 3) := by decide +kernel
theorem dX5_verify_196 : decode cX5_verify 196 = .ok (.iload 6, 2) := by decide +kernel
theorem dX5_verify_198 : decode cX5_verify 198 = .ok (.iaload, 1) := by decide +kernel
theorem dX5_verify_199 : decode cX5_verify 199 = .ok (.iastore, 1) := by decide +kernel
theorem dX5_verify_200 : decode cX5_verify 200 = .ok (.iinc 6 1, 3) := by decide +kernel
theorem dX5_verify_203 : decode cX5_verify 203 = .ok (.goto (-27), 3) := by decide +kernel
theorem dX5_verify_206 : decode cX5_verify 206 = .ok (.aload_n 0, 1) := by decide +kernel
theorem dX5_verify_207 : decode cX5_verify 207 = .ok (.bipush 16, 2) := by decide +kernel
theorem dX5_verify_209 : decode cX5_verify 209 = .ok (.iload_n 1, 1) := by decide +kernel
theorem dX5_verify_210 : decode cX5_verify 210 = .ok (.imul, 1) := by decide +kernel
theorem dX5_verify_211 : decode cX5_verify 211 = .ok (.bipush 13, 2) := by decide +kernel
theorem dX5_verify_213 : decode cX5_verify 213 = .ok (.iload 4, 2) := by decide +kernel
theorem dX5_verify_215 : decode cX5_verify 215 = .ok (.iadd, 1) := by decide +kernel
theorem dX5_verify_216 : decode cX5_verify 216 = .ok (.invokevirtual 92, 3) := by decide +kernel
theorem dX5_verify_219 : decode cX5_verify 219 = .ok (.aload_n 0, 1) := by decide +kernel
theorem dX5_verify_220 : decode cX5_verify 220 = .ok (.iload 4, 2) := by decide +kernel
theorem dX5_verify_222 : decode cX5_verify 222 = .ok (.invokevirtual 116, 3) := by decide +kernel
theorem dX5_verify_225 : decode cX5_verify 225 = .ok (.istore 6, 2) := by decide +kernel
theorem dX5_verify_227 : decode cX5_verify 227 = .ok (.aload_n 0, 1) := by decide +kernel
theorem dX5_verify_228 : decode cX5_verify 228 = .ok (.getfield 33, 3) := by decide +kernel
theorem dX5_verify_231 : decode cX5_verify 231 = .ok (.iload_n 2, 1) := by decide +kernel
theorem dX5_verify_232 : decode cX5_verify 232 = .ok (.iload 6, 2) := by decide +kernel
theorem dX5_verify_234 : decode cX5_verify 234 = .ok (.ifCond .eq 7, 3) := by decide +kernel
theorem dX5_verify_237 : decode cX5_verify 237 = .ok (.iconst 0, 1) := by decide +kernel
theorem dX5_verify_238 : decode cX5_verify 238 = .ok (.goto 11, 3) := by decide +kernel
theorem dX5_verify_241 : decode cX5_verify 241 = .ok (.aload_n 0, 1) := by decide +kernel
theorem dX5_verify_242 : decode cX5_verify 242 = .ok (.getfield 33, 3) := by decide +kernel
theorem dX5_verify_245 : decode cX5_verify 245 = .ok (.iload_n 2, 1) := by decide +kernel
theorem dX5_verify_246 : decode cX5_verify 246 = .ok (.iaload, 1) := by decide +kernel
theorem dX5_verify_247 : decode cX5_verify 247 = .ok (.iconst 1, 1) := by decide +kernel
theorem dX5_verify_248 : decode cX5_verify 248 = .ok (.iadd, 1) := by decide +kernel
theorem dX5_verify_249 : decode cX5_verify 249 = .ok (.iastore, 1) := by decide +kernel
theorem dX5_verify_250 : decode cX5_verify 250 = .ok (.aload_n 0, 1) := by decide +kernel
theorem dX5_verify_251 : decode cX5_verify 251 = .ok (.getfield 30, 3) := by decide +kernel
theorem dX5_verify_254 : decode cX5_verify 254 = .ok (.iload_n 2, 1) := by decide +kernel
theorem dX5_verify_255 : decode cX5_verify 255 = .ok (.iload 6, 2) := by decide +kernel
theorem dX5_verify_257 : decode cX5_verify 257 = .ok (.ifCond .eq 16, 3) := by decide +kernel
theorem dX5_verify_260 : decode cX5_verify 260 = .ok (.aload_n 0, 1) := by decide +kernel
theorem dX5_verify_261 : decode cX5_verify 261 = .ok (.getfield 30, 3) := by decide +kernel
theorem dX5_verify_264 : decode cX5_verify 264 = .ok (.iload_n 2, 1) := by decide +kernel
theorem dX5_verify_265 : decode cX5_verify 265 = .ok (.laload, 1) := by decide +kernel
theorem dX5_verify_266 : decode cX5_verify 266 = .ok (.iload 5, 2) := by decide +kernel
theorem dX5_verify_268 : decode cX5_verify 268 = .ok (.i2l, 1) := by decide +kernel
theorem dX5_verify_269 : decode cX5_verify 269 = .ok (.ladd, 1) := by decide +kernel
theorem dX5_verify_270 : decode cX5_verify 270 = .ok (.goto 9, 3) := by decide +kernel
theorem dX5_verify_273 : decode cX5_verify 273 = .ok (.aload_n 0, 1) := by decide +kernel
theorem dX5_verify_274 : decode cX5_verify 274 = .ok (.getfield 30, 3) := by decide +kernel
theorem dX5_verify_277 : decode cX5_verify 277 = .ok (.iload_n 2, 1) := by decide +kernel
theorem dX5_verify_278 : decode cX5_verify 278 = .ok (.laload, 1) := by decide +kernel
theorem dX5_verify_279 : decode cX5_verify 279 = .ok (.lastore, 1) := by decide +kernel
theorem dX5_verify_280 : decode cX5_verify 280 = .ok (.iload 6, 2) := by decide +kernel
theorem dX5_verify_282 : decode cX5_verify 282 = .ok (.ifCond .eq 7, 3) := by decide +kernel
theorem dX5_verify_285 : decode cX5_verify 285 = .ok (.iconst 1, 1) := by decide +kernel
theorem dX5_verify_286 : decode cX5_verify 286 = .ok (.goto 4, 3) := by decide +kernel
theorem dX5_verify_289 : decode cX5_verify 289 = .ok (.iconst 0, 1) := by decide +kernel
theorem dX5_verify_290 : decode cX5_verify 290 = .ok (.ireturn, 1) := by decide +kernel
theorem dX5_may_0 : decode cX5_may 0 = .ok (.aload_n 0, 1) := by decide +kernel
theorem dX5_may_1 : decode cX5_may 1 = .ok (.iload_n 2, 1) := by decide +kernel
theorem dX5_may_2 : decode cX5_may 2 = .ok (.invokevirtual 82, 3) := by decide +kernel
theorem dX5_may_5 : decode cX5_may 5 = .ok (.ifCond .ne 10, 3) := by decide +kernel
theorem dX5_may_8 : decode cX5_may 8 = .ok (.iload_n 1, 1) := by decide +kernel
theorem dX5_may_9 : decode cX5_may 9 = .ok (.invokestatic 99, 3) := by decide +kernel
theorem dX5_may_12 : decode cX5_may 12 = .ok (.ifCond .eq 5, 3) := by decide +kernel
theorem dX5_may_15 : decode cX5_may 15 = .ok (.iconst (-1), 1) := by decide +kernel
theorem dX5_may_16 : decode cX5_may 16 = .ok (.ireturn, 1) := by decide +kernel
theorem dX5_may_17 : decode cX5_may 17 = .ok (.aload_n 0, 1) := by decide +kernel
theorem dX5_may_18 : decode cX5_may 18 = .ok (.getfield 26, 3) := by decide +kernel
theorem dX5_may_21 : decode cX5_may 21 = .ok (.bipush 17, 2) := by decide +kernel
theorem dX5_may_23 : decode cX5_may 23 = .ok (.iload_n 1, 1) := by decide +kernel
theorem dX5_may_24 : decode cX5_may 24 = .ok (.imul, 1) := by decide +kernel
theorem dX5_may_25 : decode cX5_may 25 = .ok (.iload_n 2, 1) := by decide +kernel
theorem dX5_may_26 : decode cX5_may 26 = .ok (.iadd, 1) := by decide +kernel
theorem dX5_may_27 : decode cX5_may 27 = .ok (.iload_n 3, 1) := by decide +kernel
theorem dX5_may_28 : decode cX5_may 28 = .ok (.bastore, 1) := by decide +kernel
theorem dX5_may_29 : decode cX5_may 29 = .ok (.iconst 0, 1) := by decide +kernel
theorem dX5_may_30 : decode cX5_may 30 = .ok (.istore 4, 2) := by decide +kernel
theorem dX5_may_32 : decode cX5_may 32 = .ok (.iconst 1, 1) := by decide +kernel
theorem dX5_may_33 : decode cX5_may 33 = .ok (.istore 5, 2) := by decide +kernel
theorem dX5_may_35 : decode cX5_may 35 = .ok (.iload 5, 2) := by decide +kernel
theorem dX5_may_37 : decode cX5_may 37 = .ok (.bipush 17, 2) := by decide +kernel
theorem dX5_may_39 : decode cX5_may 39 = .ok (.if_icmp .ge 35, 3) := by decide +kernel
theorem dX5_may_42 : decode cX5_may 42 = .ok (.aload_n 0, 1) := by decide +kernel
theorem dX5_may_43 : decode cX5_may 43 = .ok (.getfield 26, 3) := by decide +kernel
theorem dX5_may_46 : decode cX5_may 46 = .ok (.bipush 17, 2) := by decide +kernel
theorem dX5_may_48 : decode cX5_may 48 = .ok (.iload_n 1, 1) := by decide +kernel
theorem dX5_may_49 : decode cX5_may 49 = .ok (.imul, 1) := by decide +kernel
theorem dX5_may_50 : decode cX5_may 50 = .ok (.iload 5, 2) := by decide +kernel
theorem dX5_may_52 : decode cX5_may 52 = .ok (.iadd, 1) := by decide +kernel
theorem dX5_may_53 : decode cX5_may 53 = .ok (.baload, 1) := by decide +kernel
theorem dX5_may_54 : decode cX5_may 54 = .ok (.ifCond .eq 10, 3) := by decide +kernel
theorem dX5_may_57 : decode cX5_may 57 = .ok (.iload 4, 2) := by decide +kernel
theorem dX5_may_59 : decode cX5_may 59 = .ok (.iconst 1, 1) := by decide +kernel
theorem dX5_may_60 : decode cX5_may 60 = .ok (.iadd, 1) := by decide +kernel
theorem dX5_may_61 : decode cX5_may 61 = .ok (.goto 5, 3) := by decide +kernel
theorem dX5_may_64 : decode cX5_may 64 = .ok (.iload 4, 2) := by decide +kernel
theorem dX5_may_66 : decode cX5_may 66 = .ok (.istore 4, 2) := by decide +kernel
theorem dX5_may_68 : decode cX5_may 68 = .ok (.iinc 5 1, 3) := by decide +kernel
theorem dX5_may_71 : decode cX5_may 71 = .ok (.goto (-36), 3) := by decide +kernel
theorem dX5_may_74 : decode cX5_may 74 = .ok (.iload 4, 2) := by decide +kernel
theorem dX5_may_76 : decode cX5_may 76 = .ok (.ireturn, 1) := by decide +kernel
theorem dX5_trip_0 : decode cX5_trip 0 = .ok (.aload_n 0, 1) := by decide +kernel
theorem dX5_trip_1 : decode cX5_trip 1 = .ok (.iconst 0, 1) := by decide +kernel
theorem dX5_trip_2 : decode cX5_trip 2 = .ok (.putfield 58, 3) := by decide +kernel
theorem dX5_trip_5 : decode cX5_trip 5 = .ok (.lload_n 1, 1) := by decide +kernel
theorem dX5_trip_6 : decode cX5_trip 6 = .ok (.lconst 0, 1) := by decide +kernel
theorem dX5_trip_7 : decode cX5_trip 7 = .ok (.lcmp, 1) := by decide +kernel
theorem dX5_trip_8 : decode cX5_trip 8 = .ok (.ifCond .lt 11, 3) := by decide +kernel
theorem dX5_trip_11 : decode cX5_trip 11 = .ok (.lload_n 1, 1) := by decide +kernel
theorem dX5_trip_12 : decode cX5_trip 12 = .ok (.ldc2_w 119, 3) := by decide +kernel
theorem dX5_trip_15 : decode cX5_trip 15 = .ok (.lcmp, 1) := by decide +kernel
theorem dX5_trip_16 : decode cX5_trip 16 = .ok (.ifCond .le 6, 3) := by decide +kernel
theorem dX5_trip_19 : decode cX5_trip 19 = .ok (.bipush (-2), 2) := by decide +kernel
theorem dX5_trip_21 : decode cX5_trip 21 = .ok (.ireturn, 1) := by decide +kernel
theorem dX5_trip_22 : decode cX5_trip 22 = .ok (.lload_n 1, 1) := by decide +kernel
theorem dX5_trip_23 : decode cX5_trip 23 = .ok (.aload_n 0, 1) := by decide +kernel
theorem dX5_trip_24 : decode cX5_trip 24 = .ok (.getfield 112, 3) := by decide +kernel
theorem dX5_trip_27 : decode cX5_trip 27 = .ok (.lcmp, 1) := by decide +kernel
theorem dX5_trip_28 : decode cX5_trip 28 = .ok (.ifCond .gt 5, 3) := by decide +kernel
theorem dX5_trip_31 : decode cX5_trip 31 = .ok (.iconst 0, 1) := by decide +kernel
theorem dX5_trip_32 : decode cX5_trip 32 = .ok (.ireturn, 1) := by decide +kernel
theorem dX5_trip_33 : decode cX5_trip 33 = .ok (.aload_n 0, 1) := by decide +kernel
theorem dX5_trip_34 : decode cX5_trip 34 = .ok (.lload_n 1, 1) := by decide +kernel
theorem dX5_trip_35 : decode cX5_trip 35 = .ok (.putfield 112, 3) := by decide +kernel
theorem dX5_trip_38 : decode cX5_trip 38 = .ok (.iconst 1, 1) := by decide +kernel
theorem dX5_trip_39 : decode cX5_trip 39 = .ok (.istore_n 3, 1) := by decide +kernel
theorem dX5_trip_40 : decode cX5_trip 40 = .ok (.iload_n 3, 1) := by decide +kernel
theorem dX5_trip_41 : decode cX5_trip 41 = .ok (.bipush 65, 2) := by decide +kernel
theorem dX5_trip_43 : decode cX5_trip 43 = .ok (.if_icmp .ge 23, 3) := by decide +kernel
theorem dX5_trip_46 : decode cX5_trip 46 = .ok (.aload_n 0, 1) := by decide +kernel
theorem dX5_trip_47 : decode cX5_trip 47 = .ok (.getfield 30, 3) := by decide +kernel
theorem dX5_trip_50 : decode cX5_trip 50 = .ok (.iload_n 3, 1) := by decide +kernel
theorem dX5_trip_51 : decode cX5_trip 51 = .ok (.lconst 0, 1) := by decide +kernel
theorem dX5_trip_52 : decode cX5_trip 52 = .ok (.lastore, 1) := by decide +kernel
theorem dX5_trip_53 : decode cX5_trip 53 = .ok (.aload_n 0, 1) := by decide +kernel
theorem dX5_trip_54 : decode cX5_trip 54 = .ok (.getfield 33, 3) := by decide +kernel
theorem dX5_trip_57 : decode cX5_trip 57 = .ok (.iload_n 3, 1) := by decide +kernel
theorem dX5_trip_58 : decode cX5_trip 58 = .ok (.iconst 0, 1) := by decide +kernel
theorem dX5_trip_59 : decode cX5_trip 59 = .ok (.iastore, 1) := by decide +kernel
theorem dX5_trip_60 : decode cX5_trip 60 = .ok (.iinc 3 1, 3) := by decide +kernel
theorem dX5_trip_63 : decode cX5_trip 63 = .ok (.goto (-23), 3) := by decide +kernel
theorem dX5_trip_66 : decode cX5_trip 66 = .ok (.iconst 1, 1) := by decide +kernel
theorem dX5_trip_67 : decode cX5_trip 67 = .ok (.ireturn, 1) := by decide +kernel
theorem dX5_install_0 : decode cX5_install 0 = .ok (.aload_n 0, 1) := by decide +kernel
theorem dX5_install_1 : decode cX5_install 1 = .ok (.iload_n 1, 1) := by decide +kernel
theorem dX5_install_2 : decode cX5_install 2 = .ok (.invokevirtual 82, 3) := by decide +kernel
theorem dX5_install_5 : decode cX5_install 5 = .ok (.ifCond .ne 11, 3) := by decide +kernel
theorem dX5_install_8 : decode cX5_install 8 = .ok (.aload_n 0, 1) := by decide +kernel
theorem dX5_install_9 : decode cX5_install 9 = .ok (.iload_n 2, 1) := by decide +kernel
theorem dX5_install_10 : decode cX5_install 10 = .ok (.invokevirtual 82, 3) := by decide +kernel
theorem dX5_install_13 : decode cX5_install 13 = .ok (.ifCond .eq 5, 3) := by decide +kernel
theorem dX5_install_16 : decode cX5_install 16 = .ok (.iconst (-1), 1) := by decide +kernel
theorem dX5_install_17 : decode cX5_install 17 = .ok (.ireturn, 1) := by decide +kernel
theorem dX5_install_18 : decode cX5_install 18 = .ok (.lload_n 3, 1) := by decide +kernel
theorem dX5_install_19 : decode cX5_install 19 = .ok (.lconst 0, 1) := by decide +kernel
theorem dX5_install_20 : decode cX5_install 20 = .ok (.lcmp, 1) := by decide +kernel
theorem dX5_install_21 : decode cX5_install 21 = .ok (.ifCond .ge 6, 3) := by decide +kernel
theorem dX5_install_24 : decode cX5_install 24 = .ok (.bipush (-2), 2) := by decide +kernel
theorem dX5_install_26 : decode cX5_install 26 = .ok (.ireturn, 1) := by decide +kernel
theorem dX5_install_27 : decode cX5_install 27 = .ok (.aload_n 0, 1) := by decide +kernel
theorem dX5_install_28 : decode cX5_install 28 = .ok (.getfield 86, 3) := by decide +kernel
theorem dX5_install_31 : decode cX5_install 31 = .ok (.bipush 24, 2) := by decide +kernel
theorem dX5_install_33 : decode cX5_install 33 = .ok (.if_icmp .eq 6, 3) := by decide +kernel
theorem dX5_install_36 : decode cX5_install 36 = .ok (.bipush (-3), 2) := by decide +kernel
theorem dX5_install_38 : decode cX5_install 38 = .ok (.ireturn, 1) := by decide +kernel
theorem dX5_install_39 : decode cX5_install 39 = .ok (.aload_n 0, 1) := by decide +kernel
theorem dX5_install_40 : decode cX5_install 40 = .ok (.iconst 0, 1) := by decide +kernel
theorem dX5_install_41 : decode cX5_install 41 = .ok (.putfield 86, 3) := by decide +kernel
theorem dX5_install_44 : decode cX5_install 44 = .ok (.aload_n 0, 1) := by decide +kernel
theorem dX5_install_45 : decode cX5_install 45 = .ok (.lload_n 3, 1) := by decide +kernel
theorem dX5_install_46 : decode cX5_install 46 = .ok (.bipush 8, 2) := by decide +kernel
theorem dX5_install_48 : decode cX5_install 48 = .ok (.iconst 0, 1) := by decide +kernel
theorem dX5_install_49 : decode cX5_install 49 = .ok (.invokevirtual 108, 3) := by decide +kernel
theorem dX5_install_52 : decode cX5_install 52 = .ok (.iconst 0, 1) := by decide +kernel
theorem dX5_install_53 : decode cX5_install 53 = .ok (.istore 5, 2) := by decide +kernel
theorem dX5_install_55 : decode cX5_install 55 = .ok (.iload 5, 2) := by decide +kernel
theorem dX5_install_57 : decode cX5_install 57 = .ok (.bipush 16, 2) := by decide +kernel
theorem dX5_install_59 : decode cX5_install 59 = .ok (.if_icmp .ge 26, 3) := by decide +kernel
theorem dX5_install_62 : decode cX5_install 62 = .ok (.aload_n 0, 1) := by decide +kernel
theorem dX5_install_63 : decode cX5_install 63 = .ok (.getfield 48, 3) := by decide +kernel
theorem dX5_install_66 : decode cX5_install 66 = .ok (.bipush 8, 2) := by decide +kernel
theorem dX5_install_68 : decode cX5_install 68 = .ok (.iload 5, 2) := by decide +kernel
theorem dX5_install_70 : decode cX5_install 70 = .ok (.iadd, 1) := by decide +kernel
theorem dX5_install_71 : decode cX5_install 71 = .ok (.aload_n 0, 1) := by decide +kernel
theorem dX5_install_72 : decode cX5_install 72 = .ok (.getfield 20, 3) := by decide +kernel
theorem dX5_install_75 : decode cX5_install 75 = .ok (.iload 5, 2) := by decide +kernel
theorem dX5_install_77 : decode cX5_install 77 = .ok (.iaload, 1) := by decide +kernel
theorem dX5_install_78 : decode cX5_install 78 = .ok (.iastore, 1) := by decide +kernel
theorem dX5_install_79 : decode cX5_install 79 = .ok (.iinc 5 1, 3) := by decide +kernel
theorem dX5_install_82 : decode cX5_install 82 = .ok (.goto (-27), 3) := by decide +kernel
theorem dX5_install_85 : decode cX5_install 85 = .ok (.aload_n 0, 1) := by decide +kernel
theorem dX5_install_86 : decode cX5_install 86 = .ok (.bipush 16, 2) := by decide +kernel
theorem dX5_install_88 : decode cX5_install 88 = .ok (.iload_n 2, 1) := by decide +kernel
theorem dX5_install_89 : decode cX5_install 89 = .ok (.imul, 1) := by decide +kernel
theorem dX5_install_90 : decode cX5_install 90 = .ok (.bipush 24, 2) := by decide +kernel
theorem dX5_install_92 : decode cX5_install 92 = .ok (.invokevirtual 92, 3) := by decide +kernel
theorem dX5_install_95 : decode cX5_install 95 = .ok (.aload_n 0, 1) := by decide +kernel
theorem dX5_install_96 : decode cX5_install 96 = .ok (.bipush 16, 2) := by decide +kernel
theorem dX5_install_98 : decode cX5_install 98 = .ok (.invokevirtual 116, 3) := by decide +kernel
theorem dX5_install_101 : decode cX5_install 101 = .ok (.ifCond .eq 14, 3) := by decide +kernel
theorem dX5_install_104 : decode cX5_install 104 = .ok (.lload_n 3, 1) := by decide +kernel
theorem dX5_install_105 : decode cX5_install 105 = .ok (.aload_n 0, 1) := by decide +kernel
theorem dX5_install_106 : decode cX5_install 106 = .ok (.getfield 16, 3) := by decide +kernel
theorem dX5_install_109 : decode cX5_install 109 = .ok (.iload_n 1, 1) := by decide +kernel
theorem dX5_install_110 : decode cX5_install 110 = .ok (.laload, 1) := by decide +kernel
theorem dX5_install_111 : decode cX5_install 111 = .ok (.lcmp, 1) := by decide +kernel
theorem dX5_install_112 : decode cX5_install 112 = .ok (.ifCond .gt 5, 3) := by decide +kernel
theorem dX5_install_115 : decode cX5_install 115 = .ok (.iconst 0, 1) := by decide +kernel
theorem dX5_install_116 : decode cX5_install 116 = .ok (.ireturn, 1) := by decide +kernel
theorem dX5_install_117 : decode cX5_install 117 = .ok (.iconst 0, 1) := by decide +kernel
theorem dX5_install_118 : decode cX5_install 118 = .ok (.istore 5, 2) := by decide +kernel
theorem dX5_install_120 : decode cX5_install 120 = .ok (.iload 5, 2) := by decide +kernel
theorem dX5_install_122 : decode cX5_install 122 = .ok (.bipush 16, 2) := by decide +kernel
theorem dX5_install_124 : decode cX5_install 124 = .ok (.if_icmp .ge 42, 3) := by decide +kernel
theorem dX5_install_127 : decode cX5_install 127 = .ok (.aload_n 0, 1) := by decide +kernel
theorem dX5_install_128 : decode cX5_install 128 = .ok (.getfield 36, 3) := by decide +kernel
theorem dX5_install_131 : decode cX5_install 131 = .ok (.iload 5, 2) := by decide +kernel
theorem dX5_install_133 : decode cX5_install 133 = .ok (.iload 5, 2) := by decide +kernel
theorem dX5_install_135 : decode cX5_install 135 = .ok (.bipush 8, 2) := by decide +kernel
theorem dX5_install_137 : decode cX5_install 137 = .ok (.if_icmp .ge 7, 3) := by decide +kernel
theorem dX5_install_140 : decode cX5_install 140 = .ok (.iconst 0, 1) := by decide +kernel
theorem dX5_install_141 : decode cX5_install 141 = .ok (.goto 18, 3) := by decide +kernel
theorem dX5_install_144 : decode cX5_install 144 = .ok (.lload_n 3, 1) := by decide +kernel
theorem dX5_install_145 : decode cX5_install 145 = .ok (.bipush 8, 2) := by decide +kernel
theorem dX5_install_147 : decode cX5_install 147 = .ok (.bipush 15, 2) := by decide +kernel
theorem dX5_install_149 : decode cX5_install 149 = .ok (.iload 5, 2) := by decide +kernel
theorem dX5_install_151 : decode cX5_install 151 = .ok (.isub, 1) := by decide +kernel
theorem dX5_install_152 : decode cX5_install 152 = .ok (.imul, 1) := by decide +kernel
theorem dX5_install_153 : decode cX5_install 153 = .ok (.lshr, 1) := by decide +kernel
theorem dX5_install_154 : decode cX5_install 154 = .ok (.ldc2_w 104, 3) := by decide +kernel
theorem dX5_install_157 : decode cX5_install 157 = .ok (.land, 1) := by decide +kernel
theorem dX5_install_158 : decode cX5_install 158 = .ok (.l2i, 1) := by decide +kernel
theorem dX5_install_159 : decode cX5_install 159 = .ok (.iastore, 1) := by decide +kernel
theorem dX5_install_160 : decode cX5_install 160 = .ok (.iinc 5 1, 3) := by decide +kernel
theorem dX5_install_163 : decode cX5_install 163 = .ok (.goto (-43), 3) := by decide +kernel
theorem dX5_install_166 : decode cX5_install 166 = .ok (.aload_n 0, 1) := by decide +kernel
theorem dX5_install_167 : decode cX5_install 167 = .ok (.bipush 16, 2) := by decide +kernel
theorem dX5_install_169 : decode cX5_install 169 = .ok (.iload_n 2, 1) := by decide +kernel
theorem dX5_install_170 : decode cX5_install 170 = .ok (.imul, 1) := by decide +kernel
theorem dX5_install_171 : decode cX5_install 171 = .ok (.invokevirtual 76, 3) := by decide +kernel
theorem dX5_install_174 : decode cX5_install 174 = .ok (.iconst 0, 1) := by decide +kernel
theorem dX5_install_175 : decode cX5_install 175 = .ok (.istore 5, 2) := by decide +kernel
theorem dX5_install_177 : decode cX5_install 177 = .ok (.iload 5, 2) := by decide +kernel
theorem dX5_install_179 : decode cX5_install 179 = .ok (.bipush 16, 2) := by decide +kernel
theorem dX5_install_181 : decode cX5_install 181 = .ok (.if_icmp .ge 36, 3) := by decide +kernel
theorem dX5_install_184 : decode cX5_install 184 = .ok (.aload_n 0, 1) := by decide +kernel
theorem dX5_install_185 : decode cX5_install 185 = .ok (.getfield 7, 3) := by decide +kernel
theorem dX5_install_188 : decode cX5_install 188 = .ok (.bipush 16, 2) := by decide +kernel
theorem dX5_install_190 : decode cX5_install 190 = .ok (.iload_n 1, 1) := by decide +kernel
theorem dX5_install_191 : decode cX5_install 191 = .ok (.imul, 1) := by decide +kernel
theorem dX5_install_192 : decode cX5_install 192 = .ok (.iload 5, 2) := by decide +kernel
theorem dX5_install_194 : decode cX5_install 194 = .ok (.iadd, 1) := by decide +kernel
theorem dX5_install_195 : decode cX5_install 195 = .ok (.aload_n 0, 1) := by decide +kernel
theorem dX5_install_196 : decode cX5_install 196 = .ok (.getfield 20, 3) := by decide +kernel
theorem dX5_install_199 : decode cX5_install 199 = .ok (.iload 5, 2) := by decide +kernel
theorem dX5_install_201 : decode cX5_install 201 = .ok (.iaload, 1) := by decide +kernel
theorem dX5_install_202 : decode cX5_install 202 = .ok (.aload_n 0, 1) := by decide +kernel
theorem dX5_install_203 : decode cX5_install 203 = .ok (.getfield 36, 3) := by decide +kernel
theorem dX5_install_206 : decode cX5_install 206 = .ok (.iload 5, 2) := by decide +kernel
theorem dX5_install_208 : decode cX5_install 208 = .ok (.iaload, 1) := by decide +kernel
theorem dX5_install_209 : decode cX5_install 209 = .ok (.ixor, 1) := by decide +kernel
theorem dX5_install_210 : decode cX5_install 210 = .ok (.iastore, 1) := by decide +kernel
theorem dX5_install_211 : decode cX5_install 211 = .ok (.iinc 5 1, 3) := by decide +kernel
theorem dX5_install_214 : decode cX5_install 214 = .ok (.goto (-37), 3) := by decide +kernel
theorem dX5_install_217 : decode cX5_install 217 = .ok (.aload_n 0, 1) := by decide +kernel
theorem dX5_install_218 : decode cX5_install 218 = .ok (.getfield 13, 3) := by decide +kernel
theorem dX5_install_221 : decode cX5_install 221 = .ok (.iload_n 1, 1) := by decide +kernel
theorem dX5_install_222 : decode cX5_install 222 = .ok (.iconst 0, 1) := by decide +kernel
theorem dX5_install_223 : decode cX5_install 223 = .ok (.iastore, 1) := by decide +kernel
theorem dX5_install_224 : decode cX5_install 224 = .ok (.aload_n 0, 1) := by decide +kernel
theorem dX5_install_225 : decode cX5_install 225 = .ok (.getfield 16, 3) := by decide +kernel
theorem dX5_install_228 : decode cX5_install 228 = .ok (.iload_n 1, 1) := by decide +kernel
theorem dX5_install_229 : decode cX5_install 229 = .ok (.lload_n 3, 1) := by decide +kernel
theorem dX5_install_230 : decode cX5_install 230 = .ok (.lastore, 1) := by decide +kernel
theorem dX5_install_231 : decode cX5_install 231 = .ok (.iconst 1, 1) := by decide +kernel
theorem dX5_install_232 : decode cX5_install 232 = .ok (.ireturn, 1) := by decide +kernel
