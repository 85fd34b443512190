theorem dX4_init_0 : decode cX4_init 0 = .ok (.aload_n 0, 1) := by decide +kernel
theorem dX4_init_1 : decode cX4_init 1 = .ok (.invokespecial 3, 3) := by decide +kernel
theorem dX4_init_4 : decode cX4_init 4 = .ok (.aload_n 0, 1) := by decide +kernel
theorem dX4_init_5 : decode cX4_init 5 = .ok (.bipush 32, 2) := by decide +kernel
theorem dX4_init_7 : decode cX4_init 7 = .ok (.newarray .byte, 2) := by decide +kernel
theorem dX4_init_9 : decode cX4_init 9 = .ok (.putfield 9, 3) := by decide +kernel
theorem dX4_init_12 : decode cX4_init 12 = .ok (.aload_n 0, 1) := by decide +kernel
theorem dX4_init_13 : decode cX4_init 13 = .ok (.bipush 32, 2) := by decide +kernel
theorem dX4_init_15 : decode cX4_init 15 = .ok (.newarray .byte, 2) := by decide +kernel
theorem dX4_init_17 : decode cX4_init 17 = .ok (.putfield 15, 3) := by decide +kernel
theorem dX4_init_20 : decode cX4_init 20 = .ok (.aload_n 0, 1) := by decide +kernel
theorem dX4_init_21 : decode cX4_init 21 = .ok (.bipush 10, 2) := by decide +kernel
theorem dX4_init_23 : decode cX4_init 23 = .ok (.newarray .long, 2) := by decide +kernel
theorem dX4_init_25 : decode cX4_init 25 = .ok (.putfield 18, 3) := by decide +kernel
theorem dX4_init_28 : decode cX4_init 28 = .ok (.aload_n 0, 1) := by decide +kernel
theorem dX4_init_29 : decode cX4_init 29 = .ok (.bipush 10, 2) := by decide +kernel
theorem dX4_init_31 : decode cX4_init 31 = .ok (.newarray .long, 2) := by decide +kernel
theorem dX4_init_33 : decode cX4_init 33 = .ok (.putfield 22, 3) := by decide +kernel
theorem dX4_init_36 : decode cX4_init 36 = .ok (.aload_n 0, 1) := by decide +kernel
theorem dX4_init_37 : decode cX4_init 37 = .ok (.bipush 10, 2) := by decide +kernel
theorem dX4_init_39 : decode cX4_init 39 = .ok (.newarray .long, 2) := by decide +kernel
theorem dX4_init_41 : decode cX4_init 41 = .ok (.putfield 25, 3) := by decide +kernel
theorem dX4_init_44 : decode cX4_init 44 = .ok (.aload_n 0, 1) := by decide +kernel
theorem dX4_init_45 : decode cX4_init 45 = .ok (.bipush 10, 2) := by decide +kernel
theorem dX4_init_47 : decode cX4_init 47 = .ok (.newarray .long, 2) := by decide +kernel
theorem dX4_init_49 : decode cX4_init 49 = .ok (.putfield 28, 3) := by decide +kernel
theorem dX4_init_52 : decode cX4_init 52 = .ok (.aload_n 0, 1) := by decide +kernel
theorem dX4_init_53 : decode cX4_init 53 = .ok (.bipush 10, 2) := by decide +kernel
theorem dX4_init_55 : decode cX4_init 55 = .ok (.newarray .long, 2) := by decide +kernel
theorem dX4_init_57 : decode cX4_init 57 = .ok (.putfield 31, 3) := by decide +kernel
theorem dX4_init_60 : decode cX4_init 60 = .ok (.aload_n 0, 1) := by decide +kernel
theorem dX4_init_61 : decode cX4_init 61 = .ok (.bipush 10, 2) := by decide +kernel
theorem dX4_init_63 : decode cX4_init 63 = .ok (.newarray .long, 2) := by decide +kernel
theorem dX4_init_65 : decode cX4_init 65 = .ok (.putfield 34, 3) := by decide +kernel
theorem dX4_init_68 : decode cX4_init 68 = .ok (.aload_n 0, 1) := by decide +kernel
theorem dX4_init_69 : decode cX4_init 69 = .ok (.bipush 10, 2) := by decide +kernel
theorem dX4_init_71 : decode cX4_init 71 = .ok (.newarray .long, 2) := by decide +kernel
theorem dX4_init_73 : decode cX4_init 73 = .ok (.putfield 37, 3) := by decide +kernel
theorem dX4_init_76 : decode cX4_init 76 = .ok (.return_, 1) := by decide +kernel
theorem dX4_publicKey_0 : decode cX4_publicKey 0 = .ok (.aload_n 0, 1) := by decide +kernel
theorem dX4_publicKey_1 : decode cX4_publicKey 1 = .ok (.aload_n 1, 1) := by decide +kernel
theorem dX4_publicKey_2 : decode cX4_publicKey 2 = .ok (.getstatic 40, 3) := by decide +kernel
theorem dX4_publicKey_5 : decode cX4_publicKey 5 = .ok (.invokevirtual 43, 3) := by decide +kernel
theorem dX4_publicKey_8 : decode cX4_publicKey 8 = .ok (.areturn, 1) := by decide +kernel
theorem dX4_multiply_0 : decode cX4_multiply 0 = .ok (.aload_n 0, 1) := by decide +kernel
theorem dX4_multiply_1 : decode cX4_multiply 1 = .ok (.aload_n 1, 1) := by decide +kernel
theorem dX4_multiply_2 : decode cX4_multiply 2 = .ok (.invokevirtual 47, 3) := by decide +kernel
theorem dX4_multiply_5 : decode cX4_multiply 5 = .ok (.aload_n 0, 1) := by decide +kernel
theorem dX4_multiply_6 : decode cX4_multiply 6 = .ok (.aload_n 2, 1) := by decide +kernel
theorem dX4_multiply_7 : decode cX4_multiply 7 = .ok (.invokevirtual 51, 3) := by decide +kernel
theorem dX4_multiply_10 : decode cX4_multiply 10 = .ok (.aload_n 0, 1) := by decide +kernel
theorem dX4_multiply_11 : decode cX4_multiply 11 = .ok (.invokevirtual 54, 3) := by decide +kernel
theorem dX4_multiply_14 : decode cX4_multiply 14 = .ok (.aload_n 0, 1) := by decide +kernel
theorem dX4_multiply_15 : decode cX4_multiply 15 = .ok (.getfield 34, 3) := by decide +kernel
theorem dX4_multiply_18 : decode cX4_multiply 18 = .ok (.aload_n 0, 1) := by decide +kernel
theorem dX4_multiply_19 : decode cX4_multiply 19 = .ok (.getfield 25, 3) := by decide +kernel
theorem dX4_multiply_22 : decode cX4_multiply 22 = .ok (.invokestatic 57, 3) := by decide +kernel
theorem dX4_multiply_25 : decode cX4_multiply 25 = .ok (.aload_n 0, 1) := by decide +kernel
theorem dX4_multiply_26 : decode cX4_multiply 26 = .ok (.getfield 22, 3) := by decide +kernel
theorem dX4_multiply_29 : decode cX4_multiply 29 = .ok (.aload_n 0, 1) := by decide +kernel
theorem dX4_multiply_30 : decode cX4_multiply 30 = .ok (.getfield 22, 3) := by decide +kernel
theorem dX4_multiply_33 : decode cX4_multiply 33 = .ok (.aload_n 0, 1) := by decide +kernel
theorem dX4_multiply_34 : decode cX4_multiply 34 = .ok (.getfield 34, 3) := by decide +kernel
theorem dX4_multiply_37 : decode cX4_multiply 37 = .ok (.invokestatic 61, 3) := by decide +kernel
theorem dX4_multiply_40 : decode cX4_multiply 40 = .ok (.aload_n 0, 1) := by decide +kernel
theorem dX4_multiply_41 : decode cX4_multiply 41 = .ok (.aload_n 0, 1) := by decide +kernel
theorem dX4_multiply_42 : decode cX4_multiply 42 = .ok (.getfield 22, 3) := by decide +kernel
theorem dX4_multiply_45 : decode cX4_multiply 45 = .ok (.invokevirtual 65, 3) := by decide +kernel
theorem dX4_multiply_48 : decode cX4_multiply 48 = .ok (.aload_n 0, 1) := by decide +kernel
theorem dX4_multiply_49 : decode cX4_multiply 49 = .ok (.getfield 15, 3) := by decide +kernel
theorem dX4_multiply_52 : decode cX4_multiply 52 = .ok (.areturn, 1) := by decide +kernel
theorem dX4_decodeScalar_0 : decode cX4_decodeScalar 0 = .ok (.aload_n 1, 1) := by decide +kernel
theorem dX4_decodeScalar_1 : decode cX4_decodeScalar 1 = .ok (.iconst 0, 1) := by decide +kernel
theorem dX4_decodeScalar_2 : decode cX4_decodeScalar 2 = .ok (.aload_n 0, 1) := by decide +kernel
theorem dX4_decodeScalar_3 : decode cX4_decodeScalar 3 = .ok (.getfield 9, 3) := by decide +kernel
theorem dX4_decodeScalar_6 : decode cX4_decodeScalar 6 = .ok (.iconst 0, 1) := by decide +kernel
theorem dX4_decodeScalar_7 : decode cX4_decodeScalar 7 = .ok (.bipush 32, 2) := by decide +kernel
theorem dX4_decodeScalar_9 : decode cX4_decodeScalar 9 = .ok (.invokestatic 69, 3) := by decide +kernel
theorem dX4_decodeScalar_12 : decode cX4_decodeScalar 12 = .ok (.aload_n 0, 1) := by decide +kernel
theorem dX4_decodeScalar_13 : decode cX4_decodeScalar 13 = .ok (.getfield 9, 3) := by decide +kernel
theorem dX4_decodeScalar_16 : decode cX4_decodeScalar 16 = .ok (.iconst 0, 1) := by decide +kernel
theorem dX4_decodeScalar_17 : decode cX4_decodeScalar 17 = .ok (.dup2, 1) := by decide +kernel
theorem dX4_decodeScalar_18 : decode cX4_decodeScalar 18 = .ok (.baload, 1) := by decide +kernel
theorem dX4_decodeScalar_19 : decode cX4_decodeScalar 19 = .ok (.bipush (-8), 2) := by decide +kernel
theorem dX4_decodeScalar_21 : decode cX4_decodeScalar 21 = .ok (.iand, 1) := by decide +kernel
theorem dX4_decodeScalar_22 : decode cX4_decodeScalar 22 = .ok (.i2b, 1) := by decide +kernel
theorem dX4_decodeScalar_23 : decode cX4_decodeScalar 23 = .ok (.bastore, 1) := by decide +kernel
theorem dX4_decodeScalar_24 : decode cX4_decodeScalar 24 = .ok (.aload_n 0, 1) := by decide +kernel
theorem dX4_decodeScalar_25 : decode cX4_decodeScalar 25 = .ok (.getfield 9, 3) := by decide +kernel
theorem dX4_decodeScalar_28 : decode cX4_decodeScalar 28 = .ok (.bipush 31, 2) := by decide +kernel
theorem dX4_decodeScalar_30 : decode cX4_decodeScalar 30 = .ok (.dup2, 1) := by decide +kernel
theorem dX4_decodeScalar_31 : decode cX4_decodeScalar 31 = .ok (.baload, 1) := by decide +kernel
theorem dX4_decodeScalar_32 : decode cX4_decodeScalar 32 = .ok (.bipush 127, 2) := by decide +kernel
theorem dX4_decodeScalar_34 : decode cX4_decodeScalar 34 = .ok (.iand, 1) := by decide +kernel
theorem dX4_decodeScalar_35 : decode cX4_decodeScalar 35 = .ok (.i2b, 1) := by decide +kernel
theorem dX4_decodeScalar_36 : decode cX4_decodeScalar 36 = .ok (.bastore, 1) := by decide +kernel
theorem dX4_decodeScalar_37 : decode cX4_decodeScalar 37 = .ok (.aload_n 0, 1) := by decide +kernel
theorem dX4_decodeScalar_38 : decode cX4_decodeScalar 38 = .ok (.getfield 9, 3) := by decide +kernel
theorem dX4_decodeScalar_41 : decode cX4_decodeScalar 41 = .ok (.bipush 31, 2) := by decide +kernel
theorem dX4_decodeScalar_43 : decode cX4_decodeScalar 43 = .ok (.dup2, 1) := by decide +kernel
theorem dX4_decodeScalar_44 : decode cX4_decodeScalar 44 = .ok (.baload, 1) := by decide +kernel
theorem dX4_decodeScalar_45 : decode cX4_decodeScalar 45 = .ok (.bipush 64, 2) := by decide +kernel
theorem dX4_decodeScalar_47 : decode cX4_decodeScalar 47 = .ok (.ior, 1) := by decide +kernel
theorem dX4_decodeScalar_48 : decode cX4_decodeScalar 48 = .ok (.i2b, 1) := by decide +kernel
theorem dX4_decodeScalar_49 : decode cX4_decodeScalar 49 = .ok (.bastore, 1) := by decide +kernel
theorem dX4_decodeScalar_50 : decode cX4_decodeScalar 50 = .ok (.return_, 1) := by decide +kernel
theorem dX4_decodePoint_0 : decode cX4_decodePoint 0 = .ok (.iconst 0, 1) := by decide +kernel
theorem dX4_decodePoint_1 : decode cX4_decodePoint 1 = .ok (.istore_n 2, 1) := by decide +kernel
theorem dX4_decodePoint_2 : decode cX4_decodePoint 2 = .ok (.iload_n 2, 1) := by decide +kernel
theorem dX4_decodePoint_3 : decode cX4_decodePoint 3 = .ok (.bipush 10, 2) := by decide +kernel
theorem dX4_decodePoint_5 : decode cX4_decodePoint 5 = .ok (.if_icmp .ge 47, 3) := by decide +kernel
theorem dX4_decodePoint_8 : decode cX4_decodePoint 8 = .ok (.aload_n 1, 1) := by decide +kernel
theorem dX4_decodePoint_9 : decode cX4_decodePoint 9 = .ok (.getstatic 75, 3) := by decide +kernel
theorem dX4_decodePoint_12 : decode cX4_decodePoint 12 = .ok (.iload_n 2, 1) := by decide +kernel
theorem dX4_decodePoint_13 : decode cX4_decodePoint 13 = .ok (.iaload, 1) := by decide +kernel
theorem dX4_decodePoint_14 : decode cX4_decodePoint 14 = .ok (.iconst 3, 1) := by decide +kernel
theorem dX4_decodePoint_15 : decode cX4_decodePoint 15 = .ok (.ishr, 1) := by decide +kernel
theorem dX4_decodePoint_16 : decode cX4_decodePoint 16 = .ok (.invokestatic 79, 3) := by decide +kernel
theorem dX4_decodePoint_19 : decode cX4_decodePoint 19 = .ok (.getstatic 75, 3) := by decide +kernel
theorem dX4_decodePoint_22 : decode cX4_decodePoint 22 = .ok (.iload_n 2, 1) := by decide +kernel
theorem dX4_decodePoint_23 : decode cX4_decodePoint 23 = .ok (.iaload, 1) := by decide +kernel
theorem dX4_decodePoint_24 : decode cX4_decodePoint 24 = .ok (.bipush 7, 2) := by decide +kernel
theorem dX4_decodePoint_26 : decode cX4_decodePoint 26 = .ok (.iand, 1) := by decide +kernel
theorem dX4_decodePoint_27 : decode cX4_decodePoint 27 = .ok (.iushr, 1) := by decide +kernel
theorem dX4_decodePoint_28 : decode cX4_decodePoint 28 = .ok (.istore_n 3, 1) := by decide +kernel
theorem dX4_decodePoint_29 : decode cX4_decodePoint 29 = .ok (.aload_n 0, 1) := by decide +kernel
theorem dX4_decodePoint_30 : decode cX4_decodePoint 30 = .ok (.getfield 18, 3) := by decide +kernel
theorem dX4_decodePoint_33 : decode cX4_decodePoint 33 = .ok (.iload_n 2, 1) := by decide +kernel
theorem dX4_decodePoint_34 : decode cX4_decodePoint 34 = .ok (.iload_n 3, 1) := by decide +kernel
theorem dX4_decodePoint_35 : decode cX4_decodePoint 35 = .ok (.iconst 1, 1) := by decide +kernel
theorem dX4_decodePoint_36 : decode cX4_decodePoint 36 = .ok (.iload_n 2, 1) := by decide +kernel
theorem dX4_decodePoint_37 : decode cX4_decodePoint 37 = .ok (.invokestatic 85, 3) := by decide +kernel
theorem dX4_decodePoint_40 : decode cX4_decodePoint 40 = .ok (.ishl, 1) := by decide +kernel
theorem dX4_decodePoint_41 : decode cX4_decodePoint 41 = .ok (.iconst 1, 1) := by decide +kernel
theorem dX4_decodePoint_42 : decode cX4_decodePoint 42 = .ok (.isub, 1) := by decide +kernel
theorem dX4_decodePoint_43 : decode cX4_decodePoint 43 = .ok (.iand, 1) := by decide +kernel
theorem dX4_decodePoint_44 : decode cX4_decodePoint 44 = .ok (.i2l, 1) := by decide +kernel
theorem dX4_decodePoint_45 : decode cX4_decodePoint 45 = .ok (.lastore, 1) := by decide +kernel
theorem dX4_decodePoint_46 : decode cX4_decodePoint 46 = .ok (.iinc 2 1, 3) := by decide +kernel
theorem dX4_decodePoint_49 : decode cX4_decodePoint 49 = .ok (.goto (-47), 3) := by decide +kernel
theorem dX4_decodePoint_52 : decode cX4_decodePoint 52 = .ok (.return_, 1) := by decide +kernel
theorem dX4_limbBits_0 : decode cX4_limbBits 0 = .ok (.bipush 26, 2) := by decide +kernel
theorem dX4_limbBits_2 : decode cX4_limbBits 2 = .ok (.iload_n 0, 1) := by decide +kernel
theorem dX4_limbBits_3 : decode cX4_limbBits 3 = .ok (.iconst 1, 1) := by decide +kernel
theorem dX4_limbBits_4 : decode cX4_limbBits 4 = .ok (.iand, 1) := by decide +kernel
theorem dX4_limbBits_5 : decode cX4_limbBits 5 = .ok (.isub, 1) := by decide +kernel
theorem dX4_limbBits_6 : decode cX4_limbBits 6 = .ok (.ireturn, 1) := by decide +kernel
theorem dX4_climb_0 : decode cX4_climb 0 = .ok (.aload_n 0, 1) := by decide +kernel
theorem dX4_climb_1 : decode cX4_climb 1 = .ok (.getfield 22, 3) := by decide +kernel
theorem dX4_climb_4 : decode cX4_climb 4 = .ok (.iconst 1, 1) := by decide +kernel
theorem dX4_climb_5 : decode cX4_climb 5 = .ok (.invokestatic 89, 3) := by decide +kernel
theorem dX4_climb_8 : decode cX4_climb 8 = .ok (.aload_n 0, 1) := by decide +kernel
theorem dX4_climb_9 : decode cX4_climb 9 = .ok (.getfield 25, 3) := by decide +kernel
theorem dX4_climb_12 : decode cX4_climb 12 = .ok (.iconst 0, 1) := by decide +kernel
theorem dX4_climb_13 : decode cX4_climb 13 = .ok (.invokestatic 89, 3) := by decide +kernel
theorem dX4_climb_16 : decode cX4_climb 16 = .ok (.aload_n 0, 1) := by decide +kernel
theorem dX4_climb_17 : decode cX4_climb 17 = .ok (.getfield 18, 3) := by decide +kernel
theorem dX4_climb_20 : decode cX4_climb 20 = .ok (.iconst 0, 1) := by decide +kernel
theorem dX4_climb_21 : decode cX4_climb 21 = .ok (.aload_n 0, 1) := by decide +kernel
theorem dX4_climb_22 : decode cX4_climb 22 = .ok (.getfield 28, 3) := by decide +kernel
theorem dX4_climb_25 : decode cX4_climb 25 = .ok (.iconst 0, 1) := by decide +kernel
theorem dX4_climb_26 : decode cX4_climb 26 = .ok (.bipush 10, 2) := by decide +kernel
theorem dX4_climb_28 : decode cX4_climb 28 = .ok (.invokestatic 69, 3) := by decide +kernel
theorem dX4_climb_31 : decode cX4_climb 31 = .ok (.aload_n 0, 1) := by decide +kernel
theorem dX4_climb_32 : decode cX4_climb 32 = .ok (.getfield 31, 3) := by decide +kernel
theorem dX4_climb_35 : decode cX4_climb 35 = .ok (.iconst 1, 1) := by decide +kernel
theorem dX4_climb_36 : decode cX4_climb 36 = .ok (.invokestatic 89, 3) := by decide +kernel
theorem dX4_climb_39 : decode cX4_climb 39 = .ok (.iconst 0, 1) := by decide +kernel
theorem dX4_climb_40 : decode cX4_climb 40 = .ok (.istore_n 1, 1) := by decide +kernel
theorem dX4_climb_41 : decode cX4_climb 41 = .ok (.sipush 254, 3) := by decide +kernel
theorem dX4_climb_44 : decode cX4_climb 44 = .ok (.istore_n 2, 1) := by decide +kernel
theorem dX4_climb_45 : decode cX4_climb 45 = .ok (.iload_n 2, 1) := by decide +kernel
theorem dX4_climb_46 : decode cX4_climb 46 = .ok (.ifCond .lt 59, 3) := by decide +kernel
theorem dX4_climb_49 : decode cX4_climb 49 = .ok (.aload_n 0, 1) := by decide +kernel
theorem dX4_climb_50 : decode cX4_climb 50 = .ok (.getfield 9, 3) := by decide +kernel
theorem dX4_climb_53 : decode cX4_climb 53 = .ok (.iload_n 2, 1) := by decide +kernel
theorem dX4_climb_54 : decode cX4_climb 54 = .ok (.iconst 3, 1) := by decide +kernel
theorem dX4_climb_55 : decode cX4_climb 55 = .ok (.ishr, 1) := by decide +kernel
theorem dX4_climb_56 : decode cX4_climb 56 = .ok (.baload, 1) := by decide +kernel
theorem dX4_climb_57 : decode cX4_climb 57 = .ok (.iload_n 2, 1) := by decide +kernel
theorem dX4_climb_58 : decode cX4_climb 58 = .ok (.bipush 7, 2) := by decide +kernel
theorem dX4_climb_60 : decode cX4_climb 60 = .ok (.iand, 1) := by decide +kernel
theorem dX4_climb_61 : decode cX4_climb 61 = .ok (.ishr, 1) := by decide +kernel
theorem dX4_climb_62 : decode cX4_climb 62 = .ok (.iconst 1, 1) := by decide +kernel
theorem dX4_climb_63 : decode cX4_climb 63 = .ok (.iand, 1) := by decide +kernel
theorem dX4_climb_64 : decode cX4_climb 64 = .ok (.istore_n 3, 1) := by decide +kernel
theorem dX4_climb_65 : decode cX4_climb 65 = .ok (.iload_n 1, 1) := by decide +kernel
theorem dX4_climb_66 : decode cX4_climb 66 = .ok (.iload_n 3, 1) := by decide +kernel
theorem dX4_climb_67 : decode cX4_climb 67 = .ok (.ixor, 1) := by decide +kernel
theorem dX4_climb_68 : decode cX4_climb 68 = .ok (.aload_n 0, 1) := by decide +kernel
theorem dX4_climb_69 : decode cX4_climb 69 = .ok (.getfield 22, 3) := by decide +kernel
theorem dX4_climb_72 : decode cX4_climb 72 = .ok (.aload_n 0, 1) := by decide +kernel
theorem dX4_climb_73 : decode cX4_climb 73 = .ok (.getfield 28, 3) := by decide +kernel
theorem dX4_climb_76 : decode cX4_climb 76 = .ok (.invokestatic 93, 3) := by decide +kernel
theorem dX4_climb_79 : decode cX4_climb 79 = .ok (.iload_n 1, 1) := by decide +kernel
theorem dX4_climb_80 : decode cX4_climb 80 = .ok (.iload_n 3, 1) := by decide +kernel
theorem dX4_climb_81 : decode cX4_climb 81 = .ok (.ixor, 1) := by decide +kernel
theorem dX4_climb_82 : decode cX4_climb 82 = .ok (.aload_n 0, 1) := by decide +kernel
theorem dX4_climb_83 : decode cX4_climb 83 = .ok (.getfield 25, 3) := by decide +kernel
theorem dX4_climb_86 : decode cX4_climb 86 = .ok (.aload_n 0, 1) := by decide +kernel
theorem dX4_climb_87 : decode cX4_climb 87 = .ok (.getfield 31, 3) := by decide +kernel
theorem dX4_climb_90 : decode cX4_climb 90 = .ok (.invokestatic 93, 3) := by decide +kernel
theorem dX4_climb_93 : decode cX4_climb 93 = .ok (.iload_n 3, 1) := by decide +kernel
theorem dX4_climb_94 : decode cX4_climb 94 = .ok (.istore_n 1, 1) := by decide +kernel
theorem dX4_climb_95 : decode cX4_climb 95 = .ok (.aload_n 0, 1) := by decide +kernel
theorem dX4_climb_96 : decode cX4_climb 96 = .ok (.invokevirtual 97, 3) := by decide +kernel
theorem dX4_climb_99 : decode cX4_climb 99 = .ok (.iinc 2 (-1), 3) := by decide +kernel
theorem dX4_climb_102 : decode cX4_climb 102 = .ok (.goto (-57), 3) := by decide +kernel
theorem dX4_climb_105 : decode cX4_climb 105 = .ok (.iload_n 1, 1) := by decide +kernel
theorem dX4_climb_106 : decode cX4_climb 106 = .ok (.aload_n 0, 1) := by decide +kernel
theorem dX4_climb_107 : decode cX4_climb 107 = .ok (.getfield 22, 3) := by decide +kernel
theorem dX4_climb_110 : decode cX4_climb 110 = .ok (.aload_n 0, 1) := by decide +kernel
theorem dX4_climb_111 : decode cX4_climb 111 = .ok (.getfield 28, 3) := by decide +kernel
theorem dX4_climb_114 : decode cX4_climb 114 = .ok (.invokestatic 93, 3) := by decide +kernel
theorem dX4_climb_117 : decode cX4_climb 117 = .ok (.iload_n 1, 1) := by decide +kernel
theorem dX4_climb_118 : decode cX4_climb 118 = .ok (.aload_n 0, 1) := by decide +kernel
theorem dX4_climb_119 : decode cX4_climb 119 = .ok (.getfield 25, 3) := by decide +kernel
theorem dX4_climb_122 : decode cX4_climb 122 = .ok (.aload_n 0, 1) := by decide +kernel
theorem dX4_climb_123 : decode cX4_climb 123 = .ok (.getfield 31, 3) := by decide +kernel
theorem dX4_climb_126 : decode cX4_climb 126 = .ok (.invokestatic 93, 3) := by decide +kernel
theorem dX4_climb_129 : decode cX4_climb 129 = .ok (.return_, 1) := by decide +kernel
theorem dX4_step_0 : decode cX4_step 0 = .ok (.aload_n 0, 1) := by decide +kernel
theorem dX4_step_1 : decode cX4_step 1 = .ok (.getfield 37, 3) := by decide +kernel
theorem dX4_step_4 : decode cX4_step 4 = .ok (.aload_n 0, 1) := by decide +kernel
theorem dX4_step_5 : decode cX4_step 5 = .ok (.getfield 22, 3) := by decide +kernel
theorem dX4_step_8 : decode cX4_step 8 = .ok (.aload_n 0, 1) := by decide +kernel
theorem dX4_step_9 : decode cX4_step 9 = .ok (.getfield 25, 3) := by decide +kernel
theorem dX4_step_12 : decode cX4_step 12 = .ok (.invokestatic 100, 3) := by decide +kernel
theorem dX4_step_15 : decode cX4_step 15 = .ok (.aload_n 0, 1) := by decide +kernel
theorem dX4_step_16 : decode cX4_step 16 = .ok (.getfield 34, 3) := by decide +kernel
theorem dX4_step_19 : decode cX4_step 19 = .ok (.aload_n 0, 1) := by decide +kernel
theorem dX4_step_20 : decode cX4_step 20 = .ok (.getfield 22, 3) := by decide +kernel
theorem dX4_step_23 : decode cX4_step 23 = .ok (.aload_n 0, 1) := by decide +kernel
theorem dX4_step_24 : decode cX4_step 24 = .ok (.getfield 25, 3) := by decide +kernel
theorem dX4_step_27 : decode cX4_step 27 = .ok (.invokestatic 103, 3) := by decide +kernel
theorem dX4_step_30 : decode cX4_step 30 = .ok (.aload_n 0, 1) := by decide +kernel
theorem dX4_step_31 : decode cX4_step 31 = .ok (.getfield 22, 3) := by decide +kernel
theorem dX4_step_34 : decode cX4_step 34 = .ok (.aload_n 0, 1) := by decide +kernel
theorem dX4_step_35 : decode cX4_step 35 = .ok (.getfield 28, 3) := by decide +kernel
theorem dX4_step_38 : decode cX4_step 38 = .ok (.aload_n 0, 1) := by decide +kernel
theorem dX4_step_39 : decode cX4_step 39 = .ok (.getfield 31, 3) := by decide +kernel
theorem dX4_step_42 : decode cX4_step 42 = .ok (.invokestatic 103, 3) := by decide +kernel
theorem dX4_step_45 : decode cX4_step 45 = .ok (.aload_n 0, 1) := by decide +kernel
theorem dX4_step_46 : decode cX4_step 46 = .ok (.getfield 31, 3) := by decide +kernel
theorem dX4_step_49 : decode cX4_step 49 = .ok (.aload_n 0, 1) := by decide +kernel
theorem dX4_step_50 : decode cX4_step 50 = .ok (.getfield 28, 3) := by decide +kernel
theorem dX4_step_53 : decode cX4_step 53 = .ok (.aload_n 0, 1) := by decide +kernel
theorem dX4_step_54 : decode cX4_step 54 = .ok (.getfield 31, 3) := by decide +kernel
theorem dX4_step_57 : decode cX4_step 57 = .ok (.invokestatic 100, 3) := by decide +kernel
theorem dX4_step_60 : decode cX4_step 60 = .ok (.aload_n 0, 1) := by decide +kernel
theorem dX4_step_61 : decode cX4_step 61 = .ok (.getfield 28, 3) := by decide +kernel
theorem dX4_step_64 : decode cX4_step 64 = .ok (.aload_n 0, 1) := by decide +kernel
theorem dX4_step_65 : decode cX4_step 65 = .ok (.getfield 31, 3) := by decide +kernel
theorem dX4_step_68 : decode cX4_step 68 = .ok (.aload_n 0, 1) := by decide +kernel
theorem dX4_step_69 : decode cX4_step 69 = .ok (.getfield 34, 3) := by decide +kernel
theorem dX4_step_72 : decode cX4_step 72 = .ok (.invokestatic 61, 3) := by decide +kernel
theorem dX4_step_75 : decode cX4_step 75 = .ok (.aload_n 0, 1) := by decide +kernel
theorem dX4_step_76 : decode cX4_step 76 = .ok (.getfield 31, 3) := by decide +kernel
theorem dX4_step_79 : decode cX4_step 79 = .ok (.aload_n 0, 1) := by decide +kernel
theorem dX4_step_80 : decode cX4_step 80 = .ok (.getfield 22, 3) := by decide +kernel
theorem dX4_step_83 : decode cX4_step 83 = .ok (.aload_n 0, 1) := by decide +kernel
theorem dX4_step_84 : decode cX4_step 84 = .ok (.getfield 37, 3) := by decide +kernel
theorem dX4_step_87 : decode cX4_step 87 = .ok (.invokestatic 61, 3) := by decide +kernel
theorem dX4_step_90 : decode cX4_step 90 = .ok (.aload_n 0, 1) := by decide +kernel
theorem dX4_step_91 : decode cX4_step 91 = .ok (.getfield 34, 3) := by decide +kernel
theorem dX4_step_94 : decode cX4_step 94 = .ok (.aload_n 0, 1) := by decide +kernel
theorem dX4_step_95 : decode cX4_step 95 = .ok (.getfield 34, 3) := by decide +kernel
theorem dX4_step_98 : decode cX4_step 98 = .ok (.aload_n 0, 1) := by decide +kernel
theorem dX4_step_99 : decode cX4_step 99 = .ok (.getfield 34, 3) := by decide +kernel
theorem dX4_step_102 : decode cX4_step 102 = .ok (.invokestatic 61, 3) := by decide +kernel
theorem dX4_step_105 : decode cX4_step 105 = .ok (.aload_n 0, 1) := by decide +kernel
theorem dX4_step_106 : decode cX4_step 106 = .ok (.getfield 37, 3) := by decide +kernel
theorem dX4_step_109 : decode cX4_step 109 = .ok (.aload_n 0, 1) := by decide +kernel
theorem dX4_step_110 : decode cX4_step 110 = .ok (.getfield 37, 3) := by decide +kernel
theorem dX4_step_113 : decode cX4_step 113 = .ok (.aload_n 0, 1) := by decide +kernel
theorem dX4_step_114 : decode cX4_step 114 = .ok (.getfield 37, 3) := by decide +kernel
theorem dX4_step_117 : decode cX4_step 117 = .ok (.invokestatic 61, 3) := by decide +kernel
theorem dX4_step_120 : decode cX4_step 120 = .ok (.aload_n 0, 1) := by decide +kernel
theorem dX4_step_121 : decode cX4_step 121 = .ok (.getfield 22, 3) := by decide +kernel
theorem dX4_step_124 : decode cX4_step 124 = .ok (.aload_n 0, 1) := by decide +kernel
theorem dX4_step_125 : decode cX4_step 125 = .ok (.getfield 34, 3) := by decide +kernel
theorem dX4_step_128 : decode cX4_step 128 = .ok (.aload_n 0, 1) := by decide +kernel
theorem dX4_step_129 : decode cX4_step 129 = .ok (.getfield 37, 3) := by decide +kernel
theorem dX4_step_132 : decode cX4_step 132 = .ok (.invokestatic 61, 3) := by decide +kernel
theorem dX4_step_135 : decode cX4_step 135 = .ok (.aload_n 0, 1) := by decide +kernel
theorem dX4_step_136 : decode cX4_step 136 = .ok (.getfield 37, 3) := by decide +kernel
theorem dX4_step_139 : decode cX4_step 139 = .ok (.aload_n 0, 1) := by decide +kernel
theorem dX4_step_140 : decode cX4_step 140 = .ok (.getfield 34, 3) := by decide +kernel
theorem dX4_step_143 : decode cX4_step 143 = .ok (.aload_n 0, 1) := by decide +kernel
theorem dX4_step_144 : decode cX4_step 144 = .ok (.getfield 37, 3) := by decide +kernel
theorem dX4_step_147 : decode cX4_step 147 = .ok (.invokestatic 100, 3) := by decide +kernel
theorem dX4_step_150 : decode cX4_step 150 = .ok (.aload_n 0, 1) := by decide +kernel
theorem dX4_step_151 : decode cX4_step 151 = .ok (.getfield 25, 3) := by decide +kernel
theorem dX4_step_154 : decode cX4_step 154 = .ok (.aload_n 0, 1) := by decide +kernel
theorem dX4_step_155 : decode cX4_step 155 = .ok (.getfield 37, 3) := by decide +kernel
theorem dX4_step_158 : decode cX4_step 158 = .ok (.ldc2_w 106, 3) := by decide +kernel
theorem dX4_step_161 : decode cX4_step 161 = .ok (.invokestatic 108, 3) := by decide +kernel
theorem dX4_step_164 : decode cX4_step 164 = .ok (.aload_n 0, 1) := by decide +kernel
theorem dX4_step_165 : decode cX4_step 165 = .ok (.getfield 25, 3) := by decide +kernel
theorem dX4_step_168 : decode cX4_step 168 = .ok (.aload_n 0, 1) := by decide +kernel
theorem dX4_step_169 : decode cX4_step 169 = .ok (.getfield 25, 3) := by decide +kernel
theorem dX4_step_172 : decode cX4_step 172 = .ok (.aload_n 0, 1) := by decide +kernel
theorem dX4_step_173 : decode cX4_step 173 = .ok (.getfield 34, 3) := by decide +kernel
theorem dX4_step_176 : decode cX4_step 176 = .ok (.invokestatic 103, 3) := by decide +kernel
theorem dX4_step_179 : decode cX4_step 179 = .ok (.aload_n 0, 1) := by decide +kernel
theorem dX4_step_180 : decode cX4_step 180 = .ok (.getfield 25, 3) := by decide +kernel
theorem dX4_step_183 : decode cX4_step 183 = .ok (.aload_n 0, 1) := by decide +kernel
theorem dX4_step_184 : decode cX4_step 184 = .ok (.getfield 25, 3) := by decide +kernel
theorem dX4_step_187 : decode cX4_step 187 = .ok (.aload_n 0, 1) := by decide +kernel
theorem dX4_step_188 : decode cX4_step 188 = .ok (.getfield 37, 3) := by decide +kernel
theorem dX4_step_191 : decode cX4_step 191 = .ok (.invokestatic 61, 3) := by decide +kernel
theorem dX4_step_194 : decode cX4_step 194 = .ok (.aload_n 0, 1) := by decide +kernel
theorem dX4_step_195 : decode cX4_step 195 = .ok (.getfield 34, 3) := by decide +kernel
theorem dX4_step_198 : decode cX4_step 198 = .ok (.aload_n 0, 1) := by decide +kernel
theorem dX4_step_199 : decode cX4_step 199 = .ok (.getfield 28, 3) := by decide +kernel
theorem dX4_step_202 : decode cX4_step 202 = .ok (.aload_n 0, 1) := by decide +kernel
theorem dX4_step_203 : decode cX4_step 203 = .ok (.getfield 31, 3) := by decide +kernel
theorem dX4_step_206 : decode cX4_step 206 = .ok (.invokestatic 103, 3) := by decide +kernel
theorem dX4_step_209 : decode cX4_step 209 = .ok (.aload_n 0, 1) := by decide +kernel
theorem dX4_step_210 : decode cX4_step 210 = .ok (.getfield 31, 3) := by decide +kernel
theorem dX4_step_213 : decode cX4_step 213 = .ok (.aload_n 0, 1) := by decide +kernel
theorem dX4_step_214 : decode cX4_step 214 = .ok (.getfield 28, 3) := by decide +kernel
theorem dX4_step_217 : decode cX4_step 217 = .ok (.aload_n 0, 1) := by decide +kernel
theorem dX4_step_218 : decode cX4_step 218 = .ok (.getfield 31, 3) := by decide +kernel
theorem dX4_step_221 : decode cX4_step 221 = .ok (.invokestatic 100, 3) := by decide +kernel
theorem dX4_step_224 : decode cX4_step 224 = .ok (.aload_n 0, 1) := by decide +kernel
theorem dX4_step_225 : decode cX4_step 225 = .ok (.getfield 28, 3) := by decide +kernel
theorem dX4_step_228 : decode cX4_step 228 = .ok (.aload_n 0, 1) := by decide +kernel
theorem dX4_step_229 : decode cX4_step 229 = .ok (.getfield 34, 3) := by decide +kernel
theorem dX4_step_232 : decode cX4_step 232 = .ok (.aload_n 0, 1) := by decide +kernel
theorem dX4_step_233 : decode cX4_step 233 = .ok (.getfield 34, 3) := by decide +kernel
theorem dX4_step_236 : decode cX4_step 236 = .ok (.invokestatic 61, 3) := by decide +kernel
theorem dX4_step_239 : decode cX4_step 239 = .ok (.aload_n 0, 1) := by decide +kernel
theorem dX4_step_240 : decode cX4_step 240 = .ok (.getfield 31, 3) := by decide +kernel
theorem dX4_step_243 : decode cX4_step 243 = .ok (.aload_n 0, 1) := by decide +kernel
theorem dX4_step_244 : decode cX4_step 244 = .ok (.getfield 31, 3) := by decide +kernel
theorem dX4_step_247 : decode cX4_step 247 = .ok (.aload_n 0, 1) := by decide +kernel
theorem dX4_step_248 : decode cX4_step 248 = .ok (.getfield 31, 3) := by decide +kernel
theorem dX4_step_251 : decode cX4_step 251 = .ok (.invokestatic 61, 3) := by decide +kernel
theorem dX4_step_254 : decode cX4_step 254 = .ok (.aload_n 0, 1) := by decide +kernel
theorem dX4_step_255 : decode cX4_step 255 = .ok (.getfield 31, 3) := by decide +kernel
theorem dX4_step_258 : decode cX4_step 258 = .ok (.aload_n 0, 1) := by decide +kernel
theorem dX4_step_259 : decode cX4_step 259 = .ok (.getfield 31, 3) := by decide +kernel
theorem dX4_step_262 : decode cX4_step 262 = .ok (.aload_n 0, 1) := by decide +kernel
theorem dX4_step_263 : decode cX4_step 263 = .ok (.getfield 18, 3) := by decide +kernel
theorem dX4_step_266 : decode cX4_step 266 = .ok (.invokestatic 61, 3) := by decide +kernel
theorem dX4_step_269 : decode cX4_step 269 = .ok (.return_, 1) := by decide +kernel
theorem dX4_swapIf_0 : decode cX4_swapIf 0 = .ok (.iload_n 0, 1) := by decide +kernel
theorem dX4_swapIf_1 : decode cX4_swapIf 1 = .ok (.i2l, 1) := by decide +kernel
theorem dX4_swapIf_2 : decode cX4_swapIf 2 = .ok (.lneg, 1) := by decide +kernel
theorem dX4_swapIf_3 : decode cX4_swapIf 3 = .ok (.lstore_n 3, 1) := by decide +kernel
theorem dX4_swapIf_4 : decode cX4_swapIf 4 = .ok (.iconst 0, 1) := by decide +kernel
theorem dX4_swapIf_5 : decode cX4_swapIf 5 = .ok (.istore 5, 2) := by decide +kernel
theorem dX4_swapIf_7 : decode cX4_swapIf 7 = .ok (.iload 5, 2) := by decide +kernel
theorem dX4_swapIf_9 : decode cX4_swapIf 9 = .ok (.bipush 10, 2) := by decide +kernel
theorem dX4_swapIf_11 : decode cX4_swapIf 11 = .ok (.if_icmp .ge 40, 3) := by decide +kernel
theorem dX4_swapIf_14 : decode cX4_swapIf 14 = .ok (.lload_n 3, 1) := by decide +kernel
theorem dX4_swapIf_15 : decode cX4_swapIf 15 = .ok (.aload_n 1, 1) := by decide +kernel
theorem dX4_swapIf_16 : decode cX4_swapIf 16 = .ok (.iload 5, 2) := by decide +kernel
theorem dX4_swapIf_18 : decode cX4_swapIf 18 = .ok (.laload, 1) := by decide +kernel
theorem dX4_swapIf_19 : decode cX4_swapIf 19 = .ok (.aload_n 2, 1) := by decide +kernel
theorem dX4_swapIf_20 : decode cX4_swapIf 20 = .ok (.iload 5, 2) := by decide +kernel
theorem dX4_swapIf_22 : decode cX4_swapIf 22 = .ok (.laload, 1) := by decide +kernel
theorem dX4_swapIf_23 : decode cX4_swapIf 23 = .ok (.lxor, 1) := by decide +kernel
theorem dX4_swapIf_24 : decode cX4_swapIf 24 = .ok (.land, 1) := by decide +kernel
theorem dX4_swapIf_25 : decode cX4_swapIf 25 = .ok (.lstore 6, 2) := by decide +kernel
theorem dX4_swapIf_27 : decode cX4_swapIf 27 = .ok (.aload_n 1, 1) := by decide +kernel
theorem dX4_swapIf_28 : decode cX4_swapIf 28 = .ok (.iload 5, 2) := by decide +kernel
theorem dX4_swapIf_30 : decode cX4_swapIf 30 = .ok (.dup2, 1) := by decide +kernel
theorem dX4_swapIf_31 : decode cX4_swapIf 31 = .ok (.laload, 1) := by decide +kernel
theorem dX4_swapIf_32 : decode cX4_swapIf 32 = .ok (.lload 6, 2) := by decide +kernel
theorem dX4_swapIf_34 : decode cX4_swapIf 34 = .ok (.lxor, 1) := by decide +kernel
theorem dX4_swapIf_35 : decode cX4_swapIf 35 = .ok (.lastore, 1) := by decide +kernel
theorem dX4_swapIf_36 : decode cX4_swapIf 36 = .ok (.aload_n 2, 1) := by decide +kernel
theorem dX4_swapIf_37 : decode cX4_swapIf 37 = .ok (.iload 5, 2) := by decide +kernel
theorem dX4_swapIf_39 : decode cX4_swapIf 39 = .ok (.dup2, 1) := by decide +kernel
theorem dX4_swapIf_40 : decode cX4_swapIf 40 = .ok (.laload, 1) := by decide +kernel
theorem dX4_swapIf_41 : decode cX4_swapIf 41 = .ok (.lload 6, 2) := by decide +kernel
theorem dX4_swapIf_43 : decode cX4_swapIf 43 = .ok (.lxor, 1) := by decide +kernel
theorem dX4_swapIf_44 : decode cX4_swapIf 44 = .ok (.lastore, 1) := by decide +kernel
theorem dX4_swapIf_45 : decode cX4_swapIf 45 = .ok (.iinc 5 1, 3) := by decide +kernel
theorem dX4_swapIf_48 : decode cX4_swapIf 48 = .ok (.goto (-41), 3) := by decide +kernel
theorem dX4_swapIf_51 : decode cX4_swapIf 51 = .ok (.return_, 1) := by decide +kernel
theorem dX4_setSmall_0 : decode cX4_setSmall 0 = .ok (.aload_n 0, 1) := by decide +kernel
theorem dX4_setSmall_1 : decode cX4_setSmall 1 = .ok (.iconst 0, 1) := by decide +kernel
theorem dX4_setSmall_2 : decode cX4_setSmall 2 = .ok (.iload_n 1, 1) := by decide +kernel
theorem dX4_setSmall_3 : decode cX4_setSmall 3 = .ok (.i2l, 1) := by decide +kernel
theorem dX4_setSmall_4 : decode cX4_setSmall 4 = .ok (.lastore, 1) := by decide +kernel
theorem dX4_setSmall_5 : decode cX4_setSmall 5 = .ok (.iconst 1, 1) := by decide +kernel
theorem dX4_setSmall_6 : decode cX4_setSmall 6 = .ok (.istore_n 2, 1) := by decide +kernel
theorem dX4_setSmall_7 : decode cX4_setSmall 7 = .ok (.iload_n 2, 1) := by decide +kernel
theorem dX4_setSmall_8 : decode cX4_setSmall 8 = .ok (.bipush 10, 2) := by decide +kernel
theorem dX4_setSmall_10 : decode cX4_setSmall 10 = .ok (.if_icmp .ge 13, 3) := by decide +kernel
theorem dX4_setSmall_13 : decode cX4_setSmall 13 = .ok (.aload_n 0, 1) := by decide +kernel
theorem dX4_setSmall_14 : decode cX4_setSmall 14 = .ok (.iload_n 2, 1) := by decide +kernel
theorem dX4_setSmall_15 : decode cX4_setSmall 15 = .ok (.lconst 0, 1) := by decide +kernel
theorem dX4_setSmall_16 : decode cX4_setSmall 16 = .ok (.lastore, 1) := by decide +kernel
theorem dX4_setSmall_17 : decode cX4_setSmall 17 = .ok (.iinc 2 1, 3) := by decide +kernel
theorem dX4_setSmall_20 : decode cX4_setSmall 20 = .ok (.goto (-13), 3) := by decide +kernel
theorem dX4_setSmall_23 : decode cX4_setSmall 23 = .ok (.return_, 1) := by decide +kernel
theorem dX4_add_0 : decode cX4_add 0 = .ok (.iconst 0, 1) := by decide +kernel
theorem dX4_add_1 : decode cX4_add 1 = .ok (.istore_n 3, 1) := by decide +kernel
theorem dX4_add_2 : decode cX4_add 2 = .ok (.iload_n 3, 1) := by decide +kernel
theorem dX4_add_3 : decode cX4_add 3 = .ok (.bipush 10, 2) := by decide +kernel
theorem dX4_add_5 : decode cX4_add 5 = .ok (.if_icmp .ge 19, 3) := by decide +kernel
theorem dX4_add_8 : decode cX4_add 8 = .ok (.aload_n 0, 1) := by decide +kernel
theorem dX4_add_9 : decode cX4_add 9 = .ok (.iload_n 3, 1) := by decide +kernel
theorem dX4_add_10 : decode cX4_add 10 = .ok (.aload_n 1, 1) := by decide +kernel
theorem dX4_add_11 : decode cX4_add 11 = .ok (.iload_n 3, 1) := by decide +kernel
theorem dX4_add_12 : decode cX4_add 12 = .ok (.laload, 1) := by decide +kernel
theorem dX4_add_13 : decode cX4_add 13 = .ok (.aload_n 2, 1) := by decide +kernel
theorem dX4_add_14 : decode cX4_add 14 = .ok (.iload_n 3, 1) := by decide +kernel
theorem dX4_add_15 : decode cX4_add 15 = .ok (.laload, 1) := by decide +kernel
theorem dX4_add_16 : decode cX4_add 16 = .ok (.ladd, 1) := by decide +kernel
theorem dX4_add_17 : decode cX4_add 17 = .ok (.lastore, 1) := by decide +kernel
theorem dX4_add_18 : decode cX4_add 18 = .ok (.iinc 3 1, 3) := by decide +kernel
theorem dX4_add_21 : decode cX4_add 21 = .ok (.goto (-19), 3) := by decide +kernel
theorem dX4_add_24 : decode cX4_add 24 = .ok (.return_, 1) := by decide +kernel
theorem dX4_subtract_0 : decode cX4_subtract 0 = .ok (.iconst 0, 1) := by decide +kernel
theorem dX4_subtract_1 : decode cX4_subtract 1 = .ok (.istore_n 3, 1) := by decide +kernel
theorem dX4_subtract_2 : decode cX4_subtract 2 = .ok (.iload_n 3, 1) := by decide +kernel
theorem dX4_subtract_3 : decode cX4_subtract 3 = .ok (.bipush 10, 2) := by decide +kernel
theorem dX4_subtract_5 : decode cX4_subtract 5 = .ok (.if_icmp .ge 19, 3) := by decide +kernel
theorem dX4_subtract_8 : decode cX4_subtract 8 = .ok (.aload_n 0, 1) := by decide +kernel
theorem dX4_subtract_9 : decode cX4_subtract 9 = .ok (.iload_n 3, 1) := by decide +kernel
theorem dX4_subtract_10 : decode cX4_subtract 10 = .ok (.aload_n 1, 1) := by decide +kernel
theorem dX4_subtract_11 : decode cX4_subtract 11 = .ok (.iload_n 3, 1) := by decide +kernel
theorem dX4_subtract_12 : decode cX4_subtract 12 = .ok (.laload, 1) := by decide +kernel
theorem dX4_subtract_13 : decode cX4_subtract 13 = .ok (.aload_n 2, 1) := by decide +kernel
theorem dX4_subtract_14 : decode cX4_subtract 14 = .ok (.iload_n 3, 1) := by decide +kernel
theorem dX4_subtract_15 : decode cX4_subtract 15 = .ok (.laload, 1) := by decide +kernel
theorem dX4_subtract_16 : decode cX4_subtract 16 = .ok (.lsub, 1) := by decide +kernel
theorem dX4_subtract_17 : decode cX4_subtract 17 = .ok (.lastore, 1) := by decide +kernel
theorem dX4_subtract_18 : decode cX4_subtract 18 = .ok (.iinc 3 1, 3) := by decide +kernel
theorem dX4_subtract_21 : decode cX4_subtract 21 = .ok (.goto (-19), 3) := by decide +kernel
theorem dX4_subtract_24 : decode cX4_subtract 24 = .ok (.return_, 1) := by decide +kernel
theorem dX4_scale_0 : decode cX4_scale 0 = .ok (.iconst 0, 1) := by decide +kernel
theorem dX4_scale_1 : decode cX4_scale 1 = .ok (.istore 4, 2) := by decide +kernel
theorem dX4_scale_3 : decode cX4_scale 3 = .ok (.iload 4, 2) := by decide +kernel
theorem dX4_scale_5 : decode cX4_scale 5 = .ok (.bipush 10, 2) := by decide +kernel
theorem dX4_scale_7 : decode cX4_scale 7 = .ok (.if_icmp .ge 19, 3) := by decide +kernel
theorem dX4_scale_10 : decode cX4_scale 10 = .ok (.aload_n 0, 1) := by decide +kernel
theorem dX4_scale_11 : decode cX4_scale 11 = .ok (.iload 4, 2) := by decide +kernel
theorem dX4_scale_13 : decode cX4_scale 13 = .ok (.aload_n 1, 1) := by decide +kernel
theorem dX4_scale_14 : decode cX4_scale 14 = .ok (.iload 4, 2) := by decide +kernel
theorem dX4_scale_16 : decode cX4_scale 16 = .ok (.laload, 1) := by decide +kernel
theorem dX4_scale_17 : decode cX4_scale 17 = .ok (.lload_n 2, 1) := by decide +kernel
theorem dX4_scale_18 : decode cX4_scale 18 = .ok (.lmul, 1) := by decide +kernel
theorem dX4_scale_19 : decode cX4_scale 19 = .ok (.lastore, 1) := by decide +kernel
theorem dX4_scale_20 : decode cX4_scale 20 = .ok (.iinc 4 1, 3) := by decide +kernel
theorem dX4_scale_23 : decode cX4_scale 23 = .ok (.goto (-20), 3) := by decide +kernel
theorem dX4_scale_26 : decode cX4_scale 26 = .ok (.aload_n 0, 1) := by decide +kernel
theorem dX4_scale_27 : decode cX4_scale 27 = .ok (.invokestatic 112, 3) := by decide +kernel
theorem dX4_scale_30 : decode cX4_scale 30 = .ok (.return_, 1) := by decide +kernel
theorem dX4_multiplyLimbs_0 : decode cX4_multiplyLimbs 0 = .ok (.aload_n 1, 1) := by decide +kernel
theorem dX4_multiplyLimbs_1 : decode cX4_multiplyLimbs 1 = .ok (.iconst 0, 1) := by decide +kernel
theorem dX4_multiplyLimbs_2 : decode cX4_multiplyLimbs 2 = .ok (.laload, 1) := by decide +kernel
theorem dX4_multiplyLimbs_3 : decode cX4_multiplyLimbs 3 = .ok (.lstore_n 3, 1) := by decide +kernel
theorem dX4_multiplyLimbs_4 : decode cX4_multiplyLimbs 4 = .ok (.aload_n 1, 1) := by decide +kernel
theorem dX4_multiplyLimbs_5 : decode cX4_multiplyLimbs 5 = .ok (.iconst 1, 1) := by decide +kernel
theorem dX4_multiplyLimbs_6 : decode cX4_multiplyLimbs 6 = .ok (.laload, 1) := by decide +kernel
theorem dX4_multiplyLimbs_7 : decode cX4_multiplyLimbs 7 = .ok (.lstore 5, 2) := by decide +kernel
theorem dX4_multiplyLimbs_9 : decode cX4_multiplyLimbs 9 = .ok (.aload_n 1, 1) := by decide +kernel
theorem dX4_multiplyLimbs_10 : decode cX4_multiplyLimbs 10 = .ok (.iconst 2, 1) := by decide +kernel
theorem dX4_multiplyLimbs_11 : decode cX4_multiplyLimbs 11 = .ok (.laload, 1) := by decide +kernel
theorem dX4_multiplyLimbs_12 : decode cX4_multiplyLimbs 12 = .ok (.lstore 7, 2) := by decide +kernel
theorem dX4_multiplyLimbs_14 : decode cX4_multiplyLimbs 14 = .ok (.aload_n 1, 1) := by decide +kernel
theorem dX4_multiplyLimbs_15 : decode cX4_multiplyLimbs 15 = .ok (.iconst 3, 1) := by decide +kernel
theorem dX4_multiplyLimbs_16 : decode cX4_multiplyLimbs 16 = .ok (.laload, 1) := by decide +kernel
theorem dX4_multiplyLimbs_17 : decode cX4_multiplyLimbs 17 = .ok (.lstore 9, 2) := by decide +kernel
theorem dX4_multiplyLimbs_19 : decode cX4_multiplyLimbs 19 = .ok (.aload_n 1, 1) := by decide +kernel
theorem dX4_multiplyLimbs_20 : decode cX4_multiplyLimbs 20 = .ok (.iconst 4, 1) := by decide +kernel
theorem dX4_multiplyLimbs_21 : decode cX4_multiplyLimbs 21 = .ok (.laload, 1) := by decide +kernel
theorem dX4_multiplyLimbs_22 : decode cX4_multiplyLimbs 22 = .ok (.lstore 11, 2) := by decide +kernel
theorem dX4_multiplyLimbs_24 : decode cX4_multiplyLimbs 24 = .ok (.aload_n 1, 1) := by decide +kernel
theorem dX4_multiplyLimbs_25 : decode cX4_multiplyLimbs 25 = .ok (.iconst 5, 1) := by decide +kernel
theorem dX4_multiplyLimbs_26 : decode cX4_multiplyLimbs 26 = .ok (.laload, 1) := by decide +kernel
theorem dX4_multiplyLimbs_27 : decode cX4_multiplyLimbs 27 = .ok (.lstore 13, 2) := by decide +kernel
theorem dX4_multiplyLimbs_29 : decode cX4_multiplyLimbs 29 = .ok (.aload_n 1, 1) := by decide +kernel
theorem dX4_multiplyLimbs_30 : decode cX4_multiplyLimbs 30 = .ok (.bipush 6, 2) := by decide +kernel
theorem dX4_multiplyLimbs_32 : decode cX4_multiplyLimbs 32 = .ok (.laload, 1) := by decide +kernel
theorem dX4_multiplyLimbs_33 : decode cX4_multiplyLimbs 33 = .ok (.lstore 15, 2) := by decide +kernel
theorem dX4_multiplyLimbs_35 : decode cX4_multiplyLimbs 35 = .ok (.aload_n 1, 1) := by decide +kernel
theorem dX4_multiplyLimbs_36 : decode cX4_multiplyLimbs 36 = .ok (.bipush 7, 2) := by decide +kernel
theorem dX4_multiplyLimbs_38 : decode cX4_multiplyLimbs 38 = .ok (.laload, 1) := by decide +kernel
theorem dX4_multiplyLimbs_39 : decode cX4_multiplyLimbs 39 = .ok (.lstore 17, 2) := by decide +kernel
theorem dX4_multiplyLimbs_41 : decode cX4_multiplyLimbs 41 = .ok (.aload_n 1, 1) := by decide +kernel
theorem dX4_multiplyLimbs_42 : decode cX4_multiplyLimbs 42 = .ok (.bipush 8, 2) := by decide +kernel
theorem dX4_multiplyLimbs_44 : decode cX4_multiplyLimbs 44 = .ok (.laload, 1) := by decide +kernel
theorem dX4_multiplyLimbs_45 : decode cX4_multiplyLimbs 45 = .ok (.lstore 19, 2) := by decide +kernel
theorem dX4_multiplyLimbs_47 : decode cX4_multiplyLimbs 47 = .ok (.aload_n 1, 1) := by decide +kernel
theorem dX4_multiplyLimbs_48 : decode cX4_multiplyLimbs 48 = .ok (.bipush 9, 2) := by decide +kernel
theorem dX4_multiplyLimbs_50 : decode cX4_multiplyLimbs 50 = .ok (.laload, 1) := by decide +kernel
theorem dX4_multiplyLimbs_51 : decode cX4_multiplyLimbs 51 = .ok (.lstore 21, 2) := by decide +kernel
theorem dX4_multiplyLimbs_53 : decode cX4_multiplyLimbs 53 = .ok (.aload_n 2, 1) := by decide +kernel
theorem dX4_multiplyLimbs_54 : decode cX4_multiplyLimbs 54 = .ok (.iconst 0, 1) := by decide +kernel
theorem dX4_multiplyLimbs_55 : decode cX4_multiplyLimbs 55 = .ok (.laload, 1) := by decide +kernel
theorem dX4_multiplyLimbs_56 : decode cX4_multiplyLimbs 56 = .ok (.lstore 23, 2) := by decide +kernel
theorem dX4_multiplyLimbs_58 : decode cX4_multiplyLimbs 58 = .ok (.aload_n 2, 1) := by decide +kernel
theorem dX4_multiplyLimbs_59 : decode cX4_multiplyLimbs 59 = .ok (.iconst 1, 1) := by decide +kernel
theorem dX4_multiplyLimbs_60 : decode cX4_multiplyLimbs 60 = .ok (.laload, 1) := by decide +kernel
theorem dX4_multiplyLimbs_61 : decode cX4_multiplyLimbs 61 = .ok (.lstore 25, 2) := by decide +kernel
theorem dX4_multiplyLimbs_63 : decode cX4_multiplyLimbs 63 = .ok (.aload_n 2, 1) := by decide +kernel
theorem dX4_multiplyLimbs_64 : decode cX4_multiplyLimbs 64 = .ok (.iconst 2, 1) := by decide +kernel
theorem dX4_multiplyLimbs_65 : decode cX4_multiplyLimbs 65 = .ok (.laload, 1) := by decide +kernel
theorem dX4_multiplyLimbs_66 : decode cX4_multiplyLimbs 66 = .ok (.lstore 27, 2) := by decide +kernel
theorem dX4_multiplyLimbs_68 : decode cX4_multiplyLimbs 68 = .ok (.aload_n 2, 1) := by decide +kernel
theorem dX4_multiplyLimbs_69 : decode cX4_multiplyLimbs 69 = .ok (.iconst 3, 1) := by decide +kernel
theorem dX4_multiplyLimbs_70 : decode cX4_multiplyLimbs 70 = .ok (.laload, 1) := by decide +kernel
theorem dX4_multiplyLimbs_71 : decode cX4_multiplyLimbs 71 = .ok (.lstore 29, 2) := by decide +kernel
theorem dX4_multiplyLimbs_73 : decode cX4_multiplyLimbs 73 = .ok (.aload_n 2, 1) := by decide +kernel
theorem dX4_multiplyLimbs_74 : decode cX4_multiplyLimbs 74 = .ok (.iconst 4, 1) := by decide +kernel
theorem dX4_multiplyLimbs_75 : decode cX4_multiplyLimbs 75 = .ok (.laload, 1) := by decide +kernel
theorem dX4_multiplyLimbs_76 : decode cX4_multiplyLimbs 76 = .ok (.lstore 31, 2) := by decide +kernel
theorem dX4_multiplyLimbs_78 : decode cX4_multiplyLimbs 78 = .ok (.aload_n 2, 1) := by decide +kernel
theorem dX4_multiplyLimbs_79 : decode cX4_multiplyLimbs 79 = .ok (.iconst 5, 1) := by decide +kernel
theorem dX4_multiplyLimbs_80 : decode cX4_multiplyLimbs 80 = .ok (.laload, 1) := by decide +kernel
theorem dX4_multiplyLimbs_81 : decode cX4_multiplyLimbs 81 = .ok (.lstore 33, 2) := by decide +kernel
theorem dX4_multiplyLimbs_83 : decode cX4_multiplyLimbs 83 = .ok (.aload_n 2, 1) := by decide +kernel
theorem dX4_multiplyLimbs_84 : decode cX4_multiplyLimbs 84 = .ok (.bipush 6, 2) := by decide +kernel
theorem dX4_multiplyLimbs_86 : decode cX4_multiplyLimbs 86 = .ok (.laload, 1) := by decide +kernel
theorem dX4_multiplyLimbs_87 : decode cX4_multiplyLimbs 87 = .ok (.lstore 35, 2) := by decide +kernel
theorem dX4_multiplyLimbs_89 : decode cX4_multiplyLimbs 89 = .ok (.aload_n 2, 1) := by decide +kernel
theorem dX4_multiplyLimbs_90 : decode cX4_multiplyLimbs 90 = .ok (.bipush 7, 2) := by decide +kernel
theorem dX4_multiplyLimbs_92 : decode cX4_multiplyLimbs 92 = .ok (.laload, 1) := by decide +kernel
theorem dX4_multiplyLimbs_93 : decode cX4_multiplyLimbs 93 = .ok (.lstore 37, 2) := by decide +kernel
theorem dX4_multiplyLimbs_95 : decode cX4_multiplyLimbs 95 = .ok (.aload_n 2, 1) := by decide +kernel
theorem dX4_multiplyLimbs_96 : decode cX4_multiplyLimbs 96 = .ok (.bipush 8, 2) := by decide +kernel
theorem dX4_multiplyLimbs_98 : decode cX4_multiplyLimbs 98 = .ok (.laload, 1) := by decide +kernel
theorem dX4_multiplyLimbs_99 : decode cX4_multiplyLimbs 99 = .ok (.lstore 39, 2) := by decide +kernel
theorem dX4_multiplyLimbs_101 : decode cX4_multiplyLimbs 101 = .ok (.aload_n 2, 1) := by decide +kernel
theorem dX4_multiplyLimbs_102 : decode cX4_multiplyLimbs 102 = .ok (.bipush 9, 2) := by decide +kernel
theorem dX4_multiplyLimbs_104 : decode cX4_multiplyLimbs 104 = .ok (.laload, 1) := by decide +kernel
theorem dX4_multiplyLimbs_105 : decode cX4_multiplyLimbs 105 = .ok (.lstore 41, 2) := by decide +kernel
theorem dX4_multiplyLimbs_107 : decode cX4_multiplyLimbs 107 = .ok (.ldc2_w 115, 3) := by decide +kernel
theorem dX4_multiplyLimbs_110 : decode cX4_multiplyLimbs 110 = .ok (.lload 5, 2) := by decide +kernel
theorem dX4_multiplyLimbs_112 : decode cX4_multiplyLimbs 112 = .ok (.lmul, 1) := by decide +kernel
theorem dX4_multiplyLimbs_113 : decode cX4_multiplyLimbs 113 = .ok (.lstore 43, 2) := by decide +kernel
theorem dX4_multiplyLimbs_115 : decode cX4_multiplyLimbs 115 = .ok (.ldc2_w 115, 3) := by decide +kernel
theorem dX4_multiplyLimbs_118 : decode cX4_multiplyLimbs 118 = .ok (.lload 9, 2) := by decide +kernel
theorem dX4_multiplyLimbs_120 : decode cX4_multiplyLimbs 120 = .ok (.lmul, 1) := by decide +kernel
theorem dX4_multiplyLimbs_121 : decode cX4_multiplyLimbs 121 = .ok (.lstore 45, 2) := by decide +kernel
theorem dX4_multiplyLimbs_123 : decode cX4_multiplyLimbs 123 = .ok (.ldc2_w 115, 3) := by decide +kernel
theorem dX4_multiplyLimbs_126 : decode cX4_multiplyLimbs 126 = .ok (.lload 13, 2) := by decide +kernel
theorem dX4_multiplyLimbs_128 : decode cX4_multiplyLimbs 128 = .ok (.lmul, 1) := by decide +kernel
theorem dX4_multiplyLimbs_129 : decode cX4_multiplyLimbs 129 = .ok (.lstore 47, 2) := by decide +kernel
theorem dX4_multiplyLimbs_131 : decode cX4_multiplyLimbs 131 = .ok (.ldc2_w 115, 3) := by decide +kernel
theorem dX4_multiplyLimbs_134 : decode cX4_multiplyLimbs 134 = .ok (.lload 17, 2) := by decide +kernel
theorem dX4_multiplyLimbs_136 : decode cX4_multiplyLimbs 136 = .ok (.lmul, 1) := by decide +kernel
theorem dX4_multiplyLimbs_137 : decode cX4_multiplyLimbs 137 = .ok (.lstore 49, 2) := by decide +kernel
theorem dX4_multiplyLimbs_139 : decode cX4_multiplyLimbs 139 = .ok (.ldc2_w 115, 3) := by decide +kernel
theorem dX4_multiplyLimbs_142 : decode cX4_multiplyLimbs 142 = .ok (.lload 21, 2) := by decide +kernel
theorem dX4_multiplyLimbs_144 : decode cX4_multiplyLimbs 144 = .ok (.lmul, 1) := by decide +kernel
theorem dX4_multiplyLimbs_145 : decode cX4_multiplyLimbs 145 = .ok (.lstore 51, 2) := by decide +kernel
theorem dX4_multiplyLimbs_147 : decode cX4_multiplyLimbs 147 = .ok (.ldc2_w 117, 3) := by decide +kernel
theorem dX4_multiplyLimbs_150 : decode cX4_multiplyLimbs 150 = .ok (.lload 25, 2) := by decide +kernel
theorem dX4_multiplyLimbs_152 : decode cX4_multiplyLimbs 152 = .ok (.lmul, 1) := by decide +kernel
theorem dX4_multiplyLimbs_153 : decode cX4_multiplyLimbs 153 = .ok (.lstore 53, 2) := by decide +kernel
theorem dX4_multiplyLimbs_155 : decode cX4_multiplyLimbs 155 = .ok (.ldc2_w 117, 3) := by decide +kernel
theorem dX4_multiplyLimbs_158 : decode cX4_multiplyLimbs 158 = .ok (.lload 27, 2) := by decide +kernel
theorem dX4_multiplyLimbs_160 : decode cX4_multiplyLimbs 160 = .ok (.lmul, 1) := by decide +kernel
theorem dX4_multiplyLimbs_161 : decode cX4_multiplyLimbs 161 = .ok (.lstore 55, 2) := by decide +kernel
theorem dX4_multiplyLimbs_163 : decode cX4_multiplyLimbs 163 = .ok (.ldc2_w 117, 3) := by decide +kernel
theorem dX4_multiplyLimbs_166 : decode cX4_multiplyLimbs 166 = .ok (.lload 29, 2) := by decide +kernel
theorem dX4_multiplyLimbs_168 : decode cX4_multiplyLimbs 168 = .ok (.lmul, 1) := by decide +kernel
theorem dX4_multiplyLimbs_169 : decode cX4_multiplyLimbs 169 = .ok (.lstore 57, 2) := by decide +kernel
theorem dX4_multiplyLimbs_171 : decode cX4_multiplyLimbs 171 = .ok (.ldc2_w 117, 3) := by decide +kernel
theorem dX4_multiplyLimbs_174 : decode cX4_multiplyLimbs 174 = .ok (.lload 31, 2) := by decide +kernel
theorem dX4_multiplyLimbs_176 : decode cX4_multiplyLimbs 176 = .ok (.lmul, 1) := by decide +kernel
theorem dX4_multiplyLimbs_177 : decode cX4_multiplyLimbs 177 = .ok (.lstore 59, 2) := by decide +kernel
theorem dX4_multiplyLimbs_179 : decode cX4_multiplyLimbs 179 = .ok (.ldc2_w 117, 3) := by decide +kernel
theorem dX4_multiplyLimbs_182 : decode cX4_multiplyLimbs 182 = .ok (.lload 33, 2) := by decide +kernel
theorem dX4_multiplyLimbs_184 : decode cX4_multiplyLimbs 184 = .ok (.lmul, 1) := by decide +kernel
theorem dX4_multiplyLimbs_185 : decode cX4_multiplyLimbs 185 = .ok (.lstore 61, 2) := by decide +kernel
theorem dX4_multiplyLimbs_187 : decode cX4_multiplyLimbs 187 = .ok (.ldc2_w 117, 3) := by decide +kernel
theorem dX4_multiplyLimbs_190 : decode cX4_multiplyLimbs 190 = .ok (.lload 35, 2) := by decide +kernel
theorem dX4_multiplyLimbs_192 : decode cX4_multiplyLimbs 192 = .ok (.lmul, 1) := by decide +kernel
theorem dX4_multiplyLimbs_193 : decode cX4_multiplyLimbs 193 = .ok (.lstore 63, 2) := by decide +kernel
theorem dX4_multiplyLimbs_195 : decode cX4_multiplyLimbs 195 = .ok (.ldc2_w 117, 3) := by decide +kernel
theorem dX4_multiplyLimbs_198 : decode cX4_multiplyLimbs 198 = .ok (.lload 37, 2) := by decide +kernel
theorem dX4_multiplyLimbs_200 : decode cX4_multiplyLimbs 200 = .ok (.lmul, 1) := by decide +kernel
theorem dX4_multiplyLimbs_201 : decode cX4_multiplyLimbs 201 = .ok (.lstore 65, 2) := by decide +kernel
theorem dX4_multiplyLimbs_203 : decode cX4_multiplyLimbs 203 = .ok (.ldc2_w 117, 3) := by decide +kernel
theorem dX4_multiplyLimbs_206 : decode cX4_multiplyLimbs 206 = .ok (.lload 39, 2) := by decide +kernel
theorem dX4_multiplyLimbs_208 : decode cX4_multiplyLimbs 208 = .ok (.lmul, 1) := by decide +kernel
theorem dX4_multiplyLimbs_209 : decode cX4_multiplyLimbs 209 = .ok (.lstore 67, 2) := by decide +kernel
theorem dX4_multiplyLimbs_211 : decode cX4_multiplyLimbs 211 = .ok (.ldc2_w 117, 3) := by decide +kernel
theorem dX4_multiplyLimbs_214 : decode cX4_multiplyLimbs 214 = .ok (.lload 41, 2) := by decide +kernel
theorem dX4_multiplyLimbs_216 : decode cX4_multiplyLimbs 216 = .ok (.lmul, 1) := by decide +kernel
theorem dX4_multiplyLimbs_217 : decode cX4_multiplyLimbs 217 = .ok (.lstore 69, 2) := by decide +kernel
theorem dX4_multiplyLimbs_219 : decode cX4_multiplyLimbs 219 = .ok (.aload_n 0, 1) := by decide +kernel
theorem dX4_multiplyLimbs_220 : decode cX4_multiplyLimbs 220 = .ok (.iconst 0, 1) := by decide +kernel
theorem dX4_multiplyLimbs_221 : decode cX4_multiplyLimbs 221 = .ok (.lload_n 3, 1) := by decide +kernel
theorem dX4_multiplyLimbs_222 : decode cX4_multiplyLimbs 222 = .ok (.lload 23, 2) := by decide +kernel
theorem dX4_multiplyLimbs_224 : decode cX4_multiplyLimbs 224 = .ok (.lmul, 1) := by decide +kernel
theorem dX4_multiplyLimbs_225 : decode cX4_multiplyLimbs 225 = .ok (.lload 43, 2) := by decide +kernel
theorem dX4_multiplyLimbs_227 : decode cX4_multiplyLimbs 227 = .ok (.lload 69, 2) := by decide +kernel
theorem dX4_multiplyLimbs_229 : decode cX4_multiplyLimbs 229 = .ok (.lmul, 1) := by decide +kernel
theorem dX4_multiplyLimbs_230 : decode cX4_multiplyLimbs 230 = .ok (.ladd, 1) := by decide +kernel
theorem dX4_multiplyLimbs_231 : decode cX4_multiplyLimbs 231 = .ok (.lload 7, 2) := by decide +kernel
theorem dX4_multiplyLimbs_233 : decode cX4_multiplyLimbs 233 = .ok (.lload 67, 2) := by decide +kernel
theorem dX4_multiplyLimbs_235 : decode cX4_multiplyLimbs 235 = .ok (.lmul, 1) := by decide +kernel
theorem dX4_multiplyLimbs_236 : decode cX4_multiplyLimbs 236 = .ok (.ladd, 1) := by decide +kernel
theorem dX4_multiplyLimbs_237 : decode cX4_multiplyLimbs 237 = .ok (.lload 45, 2) := by decide +kernel
theorem dX4_multiplyLimbs_239 : decode cX4_multiplyLimbs 239 = .ok (.lload 65, 2) := by decide +kernel
theorem dX4_multiplyLimbs_241 : decode cX4_multiplyLimbs 241 = .ok (.lmul, 1) := by decide +kernel
theorem dX4_multiplyLimbs_242 : decode cX4_multiplyLimbs 242 = .ok (.ladd, 1) := by decide +kernel
theorem dX4_multiplyLimbs_243 : decode cX4_multiplyLimbs 243 = .ok (.lload 11, 2) := by decide +kernel
theorem dX4_multiplyLimbs_245 : decode cX4_multiplyLimbs 245 = .ok (.lload 63, 2) := by decide +kernel
theorem dX4_multiplyLimbs_247 : decode cX4_multiplyLimbs 247 = .ok (.lmul, 1) := by decide +kernel
theorem dX4_multiplyLimbs_248 : decode cX4_multiplyLimbs 248 = .ok (.ladd, 1) := by decide +kernel
theorem dX4_multiplyLimbs_249 : decode cX4_multiplyLimbs 249 = .ok (.lload 47, 2) := by decide +kernel
theorem dX4_multiplyLimbs_251 : decode cX4_multiplyLimbs 251 = .ok (.lload 61, 2) := by decide +kernel
theorem dX4_multiplyLimbs_253 : decode cX4_multiplyLimbs 253 = .ok (.lmul, 1) := by decide +kernel
theorem dX4_multiplyLimbs_254 : decode cX4_multiplyLimbs 254 = .ok (.ladd, 1) := by decide +kernel
theorem dX4_multiplyLimbs_255 : decode cX4_multiplyLimbs 255 = .ok (.lload 15, 2) := by decide +kernel
theorem dX4_multiplyLimbs_257 : decode cX4_multiplyLimbs 257 = .ok (.lload 59, 2) := by decide +kernel
theorem dX4_multiplyLimbs_259 : decode cX4_multiplyLimbs 259 = .ok (.lmul, 1) := by decide +kernel
theorem dX4_multiplyLimbs_260 : decode cX4_multiplyLimbs 260 = .ok (.ladd, 1) := by decide +kernel
theorem dX4_multiplyLimbs_261 : decode cX4_multiplyLimbs 261 = .ok (.lload 49, 2) := by decide +kernel
theorem dX4_multiplyLimbs_263 : decode cX4_multiplyLimbs 263 = .ok (.lload 57, 2) := by decide +kernel
theorem dX4_multiplyLimbs_265 : decode cX4_multiplyLimbs 265 = .ok (.lmul, 1) := by decide +kernel
theorem dX4_multiplyLimbs_266 : decode cX4_multiplyLimbs 266 = .ok (.ladd, 1) := by decide +kernel
theorem dX4_multiplyLimbs_267 : decode cX4_multiplyLimbs 267 = .ok (.lload 19, 2) := by decide +kernel
theorem dX4_multiplyLimbs_269 : decode cX4_multiplyLimbs 269 = .ok (.lload 55, 2) := by decide +kernel
theorem dX4_multiplyLimbs_271 : decode cX4_multiplyLimbs 271 = .ok (.lmul, 1) := by decide +kernel
theorem dX4_multiplyLimbs_272 : decode cX4_multiplyLimbs 272 = .ok (.ladd, 1) := by decide +kernel
theorem dX4_multiplyLimbs_273 : decode cX4_multiplyLimbs 273 = .ok (.lload 51, 2) := by decide +kernel
theorem dX4_multiplyLimbs_275 : decode cX4_multiplyLimbs 275 = .ok (.lload 53, 2) := by decide +kernel
theorem dX4_multiplyLimbs_277 : decode cX4_multiplyLimbs 277 = .ok (.lmul, 1) := by decide +kernel
theorem dX4_multiplyLimbs_278 : decode cX4_multiplyLimbs 278 = .ok (.ladd, 1) := by decide +kernel
theorem dX4_multiplyLimbs_279 : decode cX4_multiplyLimbs 279 = .ok (.lastore, 1) := by decide +kernel
theorem dX4_multiplyLimbs_280 : decode cX4_multiplyLimbs 280 = .ok (.aload_n 0, 1) := by decide +kernel
theorem dX4_multiplyLimbs_281 : decode cX4_multiplyLimbs 281 = .ok (.iconst 1, 1) := by decide +kernel
theorem dX4_multiplyLimbs_282 : decode cX4_multiplyLimbs 282 = .ok (.lload_n 3, 1) := by decide +kernel
theorem dX4_multiplyLimbs_283 : decode cX4_multiplyLimbs 283 = .ok (.lload 25, 2) := by decide +kernel
theorem dX4_multiplyLimbs_285 : decode cX4_multiplyLimbs 285 = .ok (.lmul, 1) := by decide +kernel
theorem dX4_multiplyLimbs_286 : decode cX4_multiplyLimbs 286 = .ok (.lload 5, 2) := by decide +kernel
theorem dX4_multiplyLimbs_288 : decode cX4_multiplyLimbs 288 = .ok (.lload 23, 2) := by decide +kernel
theorem dX4_multiplyLimbs_290 : decode cX4_multiplyLimbs 290 = .ok (.lmul, 1) := by decide +kernel
theorem dX4_multiplyLimbs_291 : decode cX4_multiplyLimbs 291 = .ok (.ladd, 1) := by decide +kernel
theorem dX4_multiplyLimbs_292 : decode cX4_multiplyLimbs 292 = .ok (.lload 7, 2) := by decide +kernel
theorem dX4_multiplyLimbs_294 : decode cX4_multiplyLimbs 294 = .ok (.lload 69, 2) := by decide +kernel
theorem dX4_multiplyLimbs_296 : decode cX4_multiplyLimbs 296 = .ok (.lmul, 1) := by decide +kernel
theorem dX4_multiplyLimbs_297 : decode cX4_multiplyLimbs 297 = .ok (.ladd, 1) := by decide +kernel
theorem dX4_multiplyLimbs_298 : decode cX4_multiplyLimbs 298 = .ok (.lload 9, 2) := by decide +kernel
theorem dX4_multiplyLimbs_300 : decode cX4_multiplyLimbs 300 = .ok (.lload 67, 2) := by decide +kernel
theorem dX4_multiplyLimbs_302 : decode cX4_multiplyLimbs 302 = .ok (.lmul, 1) := by decide +kernel
theorem dX4_multiplyLimbs_303 : decode cX4_multiplyLimbs 303 = .ok (.ladd, 1) := by decide +kernel
theorem dX4_multiplyLimbs_304 : decode cX4_multiplyLimbs 304 = .ok (.lload 11, 2) := by decide +kernel
theorem dX4_multiplyLimbs_306 : decode cX4_multiplyLimbs 306 = .ok (.lload 65, 2) := by decide +kernel
theorem dX4_multiplyLimbs_308 : decode cX4_multiplyLimbs 308 = .ok (.lmul, 1) := by decide +kernel
theorem dX4_multiplyLimbs_309 : decode cX4_multiplyLimbs 309 = .ok (.ladd, 1) := by decide +kernel
theorem dX4_multiplyLimbs_310 : decode cX4_multiplyLimbs 310 = .ok (.lload 13, 2) := by decide +kernel
theorem dX4_multiplyLimbs_312 : decode cX4_multiplyLimbs 312 = .ok (.lload 63, 2) := by decide +kernel
theorem dX4_multiplyLimbs_314 : decode cX4_multiplyLimbs 314 = .ok (.lmul, 1) := by decide +kernel
theorem dX4_multiplyLimbs_315 : decode cX4_multiplyLimbs 315 = .ok (.ladd, 1) := by decide +kernel
theorem dX4_multiplyLimbs_316 : decode cX4_multiplyLimbs 316 = .ok (.lload 15, 2) := by decide +kernel
theorem dX4_multiplyLimbs_318 : decode cX4_multiplyLimbs 318 = .ok (.lload 61, 2) := by decide +kernel
theorem dX4_multiplyLimbs_320 : decode cX4_multiplyLimbs 320 = .ok (.lmul, 1) := by decide +kernel
theorem dX4_multiplyLimbs_321 : decode cX4_multiplyLimbs 321 = .ok (.ladd, 1) := by decide +kernel
theorem dX4_multiplyLimbs_322 : decode cX4_multiplyLimbs 322 = .ok (.lload 17, 2) := by decide +kernel
theorem dX4_multiplyLimbs_324 : decode cX4_multiplyLimbs 324 = .ok (.lload 59, 2) := by decide +kernel
theorem dX4_multiplyLimbs_326 : decode cX4_multiplyLimbs 326 = .ok (.lmul, 1) := by decide +kernel
theorem dX4_multiplyLimbs_327 : decode cX4_multiplyLimbs 327 = .ok (.ladd, 1) := by decide +kernel
theorem dX4_multiplyLimbs_328 : decode cX4_multiplyLimbs 328 = .ok (.lload 19, 2) := by decide +kernel
theorem dX4_multiplyLimbs_330 : decode cX4_multiplyLimbs 330 = .ok (.lload 57, 2) := by decide +kernel
theorem dX4_multiplyLimbs_332 : decode cX4_multiplyLimbs 332 = .ok (.lmul, 1) := by decide +kernel
theorem dX4_multiplyLimbs_333 : decode cX4_multiplyLimbs 333 = .ok (.ladd, 1) := by decide +kernel
theorem dX4_multiplyLimbs_334 : decode cX4_multiplyLimbs 334 = .ok (.lload 21, 2) := by decide +kernel
theorem dX4_multiplyLimbs_336 : decode cX4_multiplyLimbs 336 = .ok (.lload 55, 2) := by decide +kernel
theorem dX4_multiplyLimbs_338 : decode cX4_multiplyLimbs 338 = .ok (.lmul, 1) := by decide +kernel
theorem dX4_multiplyLimbs_339 : decode cX4_multiplyLimbs 339 = .ok (.ladd, 1) := by decide +kernel
theorem dX4_multiplyLimbs_340 : decode cX4_multiplyLimbs 340 = .ok (.lastore, 1) := by decide +kernel
theorem dX4_multiplyLimbs_341 : decode cX4_multiplyLimbs 341 = .ok (.aload_n 0, 1) := by decide +kernel
theorem dX4_multiplyLimbs_342 : decode cX4_multiplyLimbs 342 = .ok (.iconst 2, 1) := by decide +kernel
theorem dX4_multiplyLimbs_343 : decode cX4_multiplyLimbs 343 = .ok (.lload_n 3, 1) := by decide +kernel
theorem dX4_multiplyLimbs_344 : decode cX4_multiplyLimbs 344 = .ok (.lload 27, 2) := by decide +kernel
theorem dX4_multiplyLimbs_346 : decode cX4_multiplyLimbs 346 = .ok (.lmul, 1) := by decide +kernel
theorem dX4_multiplyLimbs_347 : decode cX4_multiplyLimbs 347 = .ok (.lload 43, 2) := by decide +kernel
theorem dX4_multiplyLimbs_349 : decode cX4_multiplyLimbs 349 = .ok (.lload 25, 2) := by decide +kernel
theorem dX4_multiplyLimbs_351 : decode cX4_multiplyLimbs 351 = .ok (.lmul, 1) := by decide +kernel
theorem dX4_multiplyLimbs_352 : decode cX4_multiplyLimbs 352 = .ok (.ladd, 1) := by decide +kernel
theorem dX4_multiplyLimbs_353 : decode cX4_multiplyLimbs 353 = .ok (.lload 7, 2) := by decide +kernel
theorem dX4_multiplyLimbs_355 : decode cX4_multiplyLimbs 355 = .ok (.lload 23, 2) := by decide +kernel
theorem dX4_multiplyLimbs_357 : decode cX4_multiplyLimbs 357 = .ok (.lmul, 1) := by decide +kernel
theorem dX4_multiplyLimbs_358 : decode cX4_multiplyLimbs 358 = .ok (.ladd, 1) := by decide +kernel
theorem dX4_multiplyLimbs_359 : decode cX4_multiplyLimbs 359 = .ok (.lload 45, 2) := by decide +kernel
theorem dX4_multiplyLimbs_361 : decode cX4_multiplyLimbs 361 = .ok (.lload 69, 2) := by decide +kernel
theorem dX4_multiplyLimbs_363 : decode cX4_multiplyLimbs 363 = .ok (.lmul, 1) := by decide +kernel
theorem dX4_multiplyLimbs_364 : decode cX4_multiplyLimbs 364 = .ok (.ladd, 1) := by decide +kernel
theorem dX4_multiplyLimbs_365 : decode cX4_multiplyLimbs 365 = .ok (.lload 11, 2) := by decide +kernel
theorem dX4_multiplyLimbs_367 : decode cX4_multiplyLimbs 367 = .ok (.lload 67, 2) := by decide +kernel
theorem dX4_multiplyLimbs_369 : decode cX4_multiplyLimbs 369 = .ok (.lmul, 1) := by decide +kernel
theorem dX4_multiplyLimbs_370 : decode cX4_multiplyLimbs 370 = .ok (.ladd, 1) := by decide +kernel
theorem dX4_multiplyLimbs_371 : decode cX4_multiplyLimbs 371 = .ok (.lload 47, 2) := by decide +kernel
theorem dX4_multiplyLimbs_373 : decode cX4_multiplyLimbs 373 = .ok (.lload 65, 2) := by decide +kernel
theorem dX4_multiplyLimbs_375 : decode cX4_multiplyLimbs 375 = .ok (.lmul, 1) := by decide +kernel
theorem dX4_multiplyLimbs_376 : decode cX4_multiplyLimbs 376 = .ok (.ladd, 1) := by decide +kernel
theorem dX4_multiplyLimbs_377 : decode cX4_multiplyLimbs 377 = .ok (.lload 15, 2) := by decide +kernel
theorem dX4_multiplyLimbs_379 : decode cX4_multiplyLimbs 379 = .ok (.lload 63, 2) := by decide +kernel
theorem dX4_multiplyLimbs_381 : decode cX4_multiplyLimbs 381 = .ok (.lmul, 1) := by decide +kernel
theorem dX4_multiplyLimbs_382 : decode cX4_multiplyLimbs 382 = .ok (.ladd, 1) := by decide +kernel
theorem dX4_multiplyLimbs_383 : decode cX4_multiplyLimbs 383 = .ok (.lload 49, 2) := by decide +kernel
theorem dX4_multiplyLimbs_385 : decode cX4_multiplyLimbs 385 = .ok (.lload 61, 2) := by decide +kernel
theorem dX4_multiplyLimbs_387 : decode cX4_multiplyLimbs 387 = .ok (.lmul, 1) := by decide +kernel
theorem dX4_multiplyLimbs_388 : decode cX4_multiplyLimbs 388 = .ok (.ladd, 1) := by decide +kernel
theorem dX4_multiplyLimbs_389 : decode cX4_multiplyLimbs 389 = .ok (.lload 19, 2) := by decide +kernel
theorem dX4_multiplyLimbs_391 : decode cX4_multiplyLimbs 391 = .ok (.lload 59, 2) := by decide +kernel
theorem dX4_multiplyLimbs_393 : decode cX4_multiplyLimbs 393 = .ok (.lmul, 1) := by decide +kernel
theorem dX4_multiplyLimbs_394 : decode cX4_multiplyLimbs 394 = .ok (.ladd, 1) := by decide +kernel
theorem dX4_multiplyLimbs_395 : decode cX4_multiplyLimbs 395 = .ok (.lload 51, 2) := by decide +kernel
theorem dX4_multiplyLimbs_397 : decode cX4_multiplyLimbs 397 = .ok (.lload 57, 2) := by decide +kernel
theorem dX4_multiplyLimbs_399 : decode cX4_multiplyLimbs 399 = .ok (.lmul, 1) := by decide +kernel
theorem dX4_multiplyLimbs_400 : decode cX4_multiplyLimbs 400 = .ok (.ladd, 1) := by decide +kernel
theorem dX4_multiplyLimbs_401 : decode cX4_multiplyLimbs 401 = .ok (.lastore, 1) := by decide +kernel
theorem dX4_multiplyLimbs_402 : decode cX4_multiplyLimbs 402 = .ok (.aload_n 0, 1) := by decide +kernel
theorem dX4_multiplyLimbs_403 : decode cX4_multiplyLimbs 403 = .ok (.iconst 3, 1) := by decide +kernel
theorem dX4_multiplyLimbs_404 : decode cX4_multiplyLimbs 404 = .ok (.lload_n 3, 1) := by decide +kernel
theorem dX4_multiplyLimbs_405 : decode cX4_multiplyLimbs 405 = .ok (.lload 29, 2) := by decide +kernel
theorem dX4_multiplyLimbs_407 : decode cX4_multiplyLimbs 407 = .ok (.lmul, 1) := by decide +kernel
theorem dX4_multiplyLimbs_408 : decode cX4_multiplyLimbs 408 = .ok (.lload 5, 2) := by decide +kernel
theorem dX4_multiplyLimbs_410 : decode cX4_multiplyLimbs 410 = .ok (.lload 27, 2) := by decide +kernel
theorem dX4_multiplyLimbs_412 : decode cX4_multiplyLimbs 412 = .ok (.lmul, 1) := by decide +kernel
theorem dX4_multiplyLimbs_413 : decode cX4_multiplyLimbs 413 = .ok (.ladd, 1) := by decide +kernel
theorem dX4_multiplyLimbs_414 : decode cX4_multiplyLimbs 414 = .ok (.lload 7, 2) := by decide +kernel
theorem dX4_multiplyLimbs_416 : decode cX4_multiplyLimbs 416 = .ok (.lload 25, 2) := by decide +kernel
theorem dX4_multiplyLimbs_418 : decode cX4_multiplyLimbs 418 = .ok (.lmul, 1) := by decide +kernel
theorem dX4_multiplyLimbs_419 : decode cX4_multiplyLimbs 419 = .ok (.ladd, 1) := by decide +kernel
theorem dX4_multiplyLimbs_420 : decode cX4_multiplyLimbs 420 = .ok (.lload 9, 2) := by decide +kernel
theorem dX4_multiplyLimbs_422 : decode cX4_multiplyLimbs 422 = .ok (.lload 23, 2) := by decide +kernel
theorem dX4_multiplyLimbs_424 : decode cX4_multiplyLimbs 424 = .ok (.lmul, 1) := by decide +kernel
theorem dX4_multiplyLimbs_425 : decode cX4_multiplyLimbs 425 = .ok (.ladd, 1) := by decide +kernel
theorem dX4_multiplyLimbs_426 : decode cX4_multiplyLimbs 426 = .ok (.lload 11, 2) := by decide +kernel
theorem dX4_multiplyLimbs_428 : decode cX4_multiplyLimbs 428 = .ok (.lload 69, 2) := by decide +kernel
theorem dX4_multiplyLimbs_430 : decode cX4_multiplyLimbs 430 = .ok (.lmul, 1) := by decide +kernel
theorem dX4_multiplyLimbs_431 : decode cX4_multiplyLimbs 431 = .ok (.ladd, 1) := by decide +kernel
theorem dX4_multiplyLimbs_432 : decode cX4_multiplyLimbs 432 = .ok (.lload 13, 2) := by decide +kernel
theorem dX4_multiplyLimbs_434 : decode cX4_multiplyLimbs 434 = .ok (.lload 67, 2) := by decide +kernel
theorem dX4_multiplyLimbs_436 : decode cX4_multiplyLimbs 436 = .ok (.lmul, 1) := by decide +kernel
theorem dX4_multiplyLimbs_437 : decode cX4_multiplyLimbs 437 = .ok (.ladd, 1) := by decide +kernel
theorem dX4_multiplyLimbs_438 : decode cX4_multiplyLimbs 438 = .ok (.lload 15, 2) := by decide +kernel
theorem dX4_multiplyLimbs_440 : decode cX4_multiplyLimbs 440 = .ok (.lload 65, 2) := by decide +kernel
theorem dX4_multiplyLimbs_442 : decode cX4_multiplyLimbs 442 = .ok (.lmul, 1) := by decide +kernel
theorem dX4_multiplyLimbs_443 : decode cX4_multiplyLimbs 443 = .ok (.ladd, 1) := by decide +kernel
theorem dX4_multiplyLimbs_444 : decode cX4_multiplyLimbs 444 = .ok (.lload 17, 2) := by decide +kernel
theorem dX4_multiplyLimbs_446 : decode cX4_multiplyLimbs 446 = .ok (.lload 63, 2) := by decide +kernel
theorem dX4_multiplyLimbs_448 : decode cX4_multiplyLimbs 448 = .ok (.lmul, 1) := by decide +kernel
theorem dX4_multiplyLimbs_449 : decode cX4_multiplyLimbs 449 = .ok (.ladd, 1) := by decide +kernel
theorem dX4_multiplyLimbs_450 : decode cX4_multiplyLimbs 450 = .ok (.lload 19, 2) := by decide +kernel
theorem dX4_multiplyLimbs_452 : decode cX4_multiplyLimbs 452 = .ok (.lload 61, 2) := by decide +kernel
theorem dX4_multiplyLimbs_454 : decode cX4_multiplyLimbs 454 = .ok (.lmul, 1) := by decide +kernel
theorem dX4_multiplyLimbs_455 : decode cX4_multiplyLimbs 455 = .ok (.ladd, 1) := by decide +kernel
theorem dX4_multiplyLimbs_456 : decode cX4_multiplyLimbs 456 = .ok (.lload 21, 2) := by decide +kernel
theorem dX4_multiplyLimbs_458 : decode cX4_multiplyLimbs 458 = .ok (.lload 59, 2) := by decide +kernel
theorem dX4_multiplyLimbs_460 : decode cX4_multiplyLimbs 460 = .ok (.lmul, 1) := by decide +kernel
theorem dX4_multiplyLimbs_461 : decode cX4_multiplyLimbs 461 = .ok (.ladd, 1) := by decide +kernel
theorem dX4_multiplyLimbs_462 : decode cX4_multiplyLimbs 462 = .ok (.lastore, 1) := by decide +kernel
theorem dX4_multiplyLimbs_463 : decode cX4_multiplyLimbs 463 = .ok (.aload_n 0, 1) := by decide +kernel
theorem dX4_multiplyLimbs_464 : decode cX4_multiplyLimbs 464 = .ok (.iconst 4, 1) := by decide +kernel
theorem dX4_multiplyLimbs_465 : decode cX4_multiplyLimbs 465 = .ok (.lload_n 3, 1) := by decide +kernel
theorem dX4_multiplyLimbs_466 : decode cX4_multiplyLimbs 466 = .ok (.lload 31, 2) := by decide +kernel
theorem dX4_multiplyLimbs_468 : decode cX4_multiplyLimbs 468 = .ok (.lmul, 1) := by decide +kernel
theorem dX4_multiplyLimbs_469 : decode cX4_multiplyLimbs 469 = .ok (.lload 43, 2) := by decide +kernel
theorem dX4_multiplyLimbs_471 : decode cX4_multiplyLimbs 471 = .ok (.lload 29, 2) := by decide +kernel
theorem dX4_multiplyLimbs_473 : decode cX4_multiplyLimbs 473 = .ok (.lmul, 1) := by decide +kernel
theorem dX4_multiplyLimbs_474 : decode cX4_multiplyLimbs 474 = .ok (.ladd, 1) := by decide +kernel
theorem dX4_multiplyLimbs_475 : decode cX4_multiplyLimbs 475 = .ok (.lload 7, 2) := by decide +kernel
theorem dX4_multiplyLimbs_477 : decode cX4_multiplyLimbs 477 = .ok (.lload 27, 2) := by decide +kernel
theorem dX4_multiplyLimbs_479 : decode cX4_multiplyLimbs 479 = .ok (.lmul, 1) := by decide +kernel
theorem dX4_multiplyLimbs_480 : decode cX4_multiplyLimbs 480 = .ok (.ladd, 1) := by decide +kernel
theorem dX4_multiplyLimbs_481 : decode cX4_multiplyLimbs 481 = .ok (.lload 45, 2) := by decide +kernel
theorem dX4_multiplyLimbs_483 : decode cX4_multiplyLimbs 483 = .ok (.lload 25, 2) := by decide +kernel
theorem dX4_multiplyLimbs_485 : decode cX4_multiplyLimbs 485 = .ok (.lmul, 1) := by decide +kernel
theorem dX4_multiplyLimbs_486 : decode cX4_multiplyLimbs 486 = .ok (.ladd, 1) := by decide +kernel
theorem dX4_multiplyLimbs_487 : decode cX4_multiplyLimbs 487 = .ok (.lload 11, 2) := by decide +kernel
theorem dX4_multiplyLimbs_489 : decode cX4_multiplyLimbs 489 = .ok (.lload 23, 2) := by decide +kernel
theorem dX4_multiplyLimbs_491 : decode cX4_multiplyLimbs 491 = .ok (.lmul, 1) := by decide +kernel
theorem dX4_multiplyLimbs_492 : decode cX4_multiplyLimbs 492 = .ok (.ladd, 1) := by decide +kernel
theorem dX4_multiplyLimbs_493 : decode cX4_multiplyLimbs 493 = .ok (.lload 47, 2) := by decide +kernel
theorem dX4_multiplyLimbs_495 : decode cX4_multiplyLimbs 495 = .ok (.lload 69, 2) := by decide +kernel
theorem dX4_multiplyLimbs_497 : decode cX4_multiplyLimbs 497 = .ok (.lmul, 1) := by decide +kernel
theorem dX4_multiplyLimbs_498 : decode cX4_multiplyLimbs 498 = .ok (.ladd, 1) := by decide +kernel
theorem dX4_multiplyLimbs_499 : decode cX4_multiplyLimbs 499 = .ok (.lload 15, 2) := by decide +kernel
theorem dX4_multiplyLimbs_501 : decode cX4_multiplyLimbs 501 = .ok (.lload 67, 2) := by decide +kernel
theorem dX4_multiplyLimbs_503 : decode cX4_multiplyLimbs 503 = .ok (.lmul, 1) := by decide +kernel
theorem dX4_multiplyLimbs_504 : decode cX4_multiplyLimbs 504 = .ok (.ladd, 1) := by decide +kernel
theorem dX4_multiplyLimbs_505 : decode cX4_multiplyLimbs 505 = .ok (.lload 49, 2) := by decide +kernel
theorem dX4_multiplyLimbs_507 : decode cX4_multiplyLimbs 507 = .ok (.lload 65, 2) := by decide +kernel
theorem dX4_multiplyLimbs_509 : decode cX4_multiplyLimbs 509 = .ok (.lmul, 1) := by decide +kernel
theorem dX4_multiplyLimbs_510 : decode cX4_multiplyLimbs 510 = .ok (.ladd, 1) := by decide +kernel
theorem dX4_multiplyLimbs_511 : decode cX4_multiplyLimbs 511 = .ok (.lload 19, 2) := by decide +kernel
theorem dX4_multiplyLimbs_513 : decode cX4_multiplyLimbs 513 = .ok (.lload 63, 2) := by decide +kernel
theorem dX4_multiplyLimbs_515 : decode cX4_multiplyLimbs 515 = .ok (.lmul, 1) := by decide +kernel
theorem dX4_multiplyLimbs_516 : decode cX4_multiplyLimbs 516 = .ok (.ladd, 1) := by decide +kernel
theorem dX4_multiplyLimbs_517 : decode cX4_multiplyLimbs 517 = .ok (.lload 51, 2) := by decide +kernel
theorem dX4_multiplyLimbs_519 : decode cX4_multiplyLimbs 519 = .ok (.lload 61, 2) := by decide +kernel
theorem dX4_multiplyLimbs_521 : decode cX4_multiplyLimbs 521 = .ok (.lmul, 1) := by decide +kernel
theorem dX4_multiplyLimbs_522 : decode cX4_multiplyLimbs 522 = .ok (.ladd, 1) := by decide +kernel
theorem dX4_multiplyLimbs_523 : decode cX4_multiplyLimbs 523 = .ok (.lastore, 1) := by decide +kernel
theorem dX4_multiplyLimbs_524 : decode cX4_multiplyLimbs 524 = .ok (.aload_n 0, 1) := by decide +kernel
theorem dX4_multiplyLimbs_525 : decode cX4_multiplyLimbs 525 = .ok (.iconst 5, 1) := by decide +kernel
theorem dX4_multiplyLimbs_526 : decode cX4_multiplyLimbs 526 = .ok (.lload_n 3, 1) := by decide +kernel
theorem dX4_multiplyLimbs_527 : decode cX4_multiplyLimbs 527 = .ok (.lload 33, 2) := by decide +kernel
theorem dX4_multiplyLimbs_529 : decode cX4_multiplyLimbs 529 = .ok (.lmul, 1) := by decide +kernel
theorem dX4_multiplyLimbs_530 : decode cX4_multiplyLimbs 530 = .ok (.lload 5, 2) := by decide +kernel
theorem dX4_multiplyLimbs_532 : decode cX4_multiplyLimbs 532 = .ok (.lload 31, 2) := by decide +kernel
theorem dX4_multiplyLimbs_534 : decode cX4_multiplyLimbs 534 = .ok (.lmul, 1) := by decide +kernel
theorem dX4_multiplyLimbs_535 : decode cX4_multiplyLimbs 535 = .ok (.ladd, 1) := by decide +kernel
theorem dX4_multiplyLimbs_536 : decode cX4_multiplyLimbs 536 = .ok (.lload 7, 2) := by decide +kernel
theorem dX4_multiplyLimbs_538 : decode cX4_multiplyLimbs 538 = .ok (.lload 29, 2) := by decide +kernel
theorem dX4_multiplyLimbs_540 : decode cX4_multiplyLimbs 540 = .ok (.lmul, 1) := by decide +kernel
theorem dX4_multiplyLimbs_541 : decode cX4_multiplyLimbs 541 = .ok (.ladd, 1) := by decide +kernel
theorem dX4_multiplyLimbs_542 : decode cX4_multiplyLimbs 542 = .ok (.lload 9, 2) := by decide +kernel
theorem dX4_multiplyLimbs_544 : decode cX4_multiplyLimbs 544 = .ok (.lload 27, 2) := by decide +kernel
theorem dX4_multiplyLimbs_546 : decode cX4_multiplyLimbs 546 = .ok (.lmul, 1) := by decide +kernel
theorem dX4_multiplyLimbs_547 : decode cX4_multiplyLimbs 547 = .ok (.ladd, 1) := by decide +kernel
theorem dX4_multiplyLimbs_548 : decode cX4_multiplyLimbs 548 = .ok (.lload 11, 2) := by decide +kernel
theorem dX4_multiplyLimbs_550 : decode cX4_multiplyLimbs 550 = .ok (.lload 25, 2) := by decide +kernel
theorem dX4_multiplyLimbs_552 : decode cX4_multiplyLimbs 552 = .ok (.lmul, 1) := by decide +kernel
theorem dX4_multiplyLimbs_553 : decode cX4_multiplyLimbs 553 = .ok (.ladd, 1) := by decide +kernel
theorem dX4_multiplyLimbs_554 : decode cX4_multiplyLimbs 554 = .ok (.lload 13, 2) := by decide +kernel
theorem dX4_multiplyLimbs_556 : decode cX4_multiplyLimbs 556 = .ok (.lload 23, 2) := by decide +kernel
theorem dX4_multiplyLimbs_558 : decode cX4_multiplyLimbs 558 = .ok (.lmul, 1) := by decide +kernel
theorem dX4_multiplyLimbs_559 : decode cX4_multiplyLimbs 559 = .ok (.ladd, 1) := by decide +kernel
theorem dX4_multiplyLimbs_560 : decode cX4_multiplyLimbs 560 = .ok (.lload 15, 2) := by decide +kernel
theorem dX4_multiplyLimbs_562 : decode cX4_multiplyLimbs 562 = .ok (.lload 69, 2) := by decide +kernel
theorem dX4_multiplyLimbs_564 : decode cX4_multiplyLimbs 564 = .ok (.lmul, 1) := by decide +kernel
theorem dX4_multiplyLimbs_565 : decode cX4_multiplyLimbs 565 = .ok (.ladd, 1) := by decide +kernel
theorem dX4_multiplyLimbs_566 : decode cX4_multiplyLimbs 566 = .ok (.lload 17, 2) := by decide +kernel
theorem dX4_multiplyLimbs_568 : decode cX4_multiplyLimbs 568 = .ok (.lload 67, 2) := by decide +kernel
theorem dX4_multiplyLimbs_570 : decode cX4_multiplyLimbs 570 = .ok (.lmul, 1) := by decide +kernel
theorem dX4_multiplyLimbs_571 : decode cX4_multiplyLimbs 571 = .ok (.ladd, 1) := by decide +kernel
theorem dX4_multiplyLimbs_572 : decode cX4_multiplyLimbs 572 = .ok (.lload 19, 2) := by decide +kernel
theorem dX4_multiplyLimbs_574 : decode cX4_multiplyLimbs 574 = .ok (.lload 65, 2) := by decide +kernel
theorem dX4_multiplyLimbs_576 : decode cX4_multiplyLimbs 576 = .ok (.lmul, 1) := by decide +kernel
theorem dX4_multiplyLimbs_577 : decode cX4_multiplyLimbs 577 = .ok (.ladd, 1) := by decide +kernel
theorem dX4_multiplyLimbs_578 : decode cX4_multiplyLimbs 578 = .ok (.lload 21, 2) := by decide +kernel
theorem dX4_multiplyLimbs_580 : decode cX4_multiplyLimbs 580 = .ok (.lload 63, 2) := by decide +kernel
theorem dX4_multiplyLimbs_582 : decode cX4_multiplyLimbs 582 = .ok (.lmul, 1) := by decide +kernel
theorem dX4_multiplyLimbs_583 : decode cX4_multiplyLimbs 583 = .ok (.ladd, 1) := by decide +kernel
theorem dX4_multiplyLimbs_584 : decode cX4_multiplyLimbs 584 = .ok (.lastore, 1) := by decide +kernel
theorem dX4_multiplyLimbs_585 : decode cX4_multiplyLimbs 585 = .ok (.aload_n 0, 1) := by decide +kernel
theorem dX4_multiplyLimbs_586 : decode cX4_multiplyLimbs 586 = .ok (.bipush 6, 2) := by decide +kernel
theorem dX4_multiplyLimbs_588 : decode cX4_multiplyLimbs 588 = .ok (.lload_n 3, 1) := by decide +kernel
theorem dX4_multiplyLimbs_589 : decode cX4_multiplyLimbs 589 = .ok (.lload 35, 2) := by decide +kernel
theorem dX4_multiplyLimbs_591 : decode cX4_multiplyLimbs 591 = .ok (.lmul, 1) := by decide +kernel
theorem dX4_multiplyLimbs_592 : decode cX4_multiplyLimbs 592 = .ok (.lload 43, 2) := by decide +kernel
theorem dX4_multiplyLimbs_594 : decode cX4_multiplyLimbs 594 = .ok (.lload 33, 2) := by decide +kernel
theorem dX4_multiplyLimbs_596 : decode cX4_multiplyLimbs 596 = .ok (.lmul, 1) := by decide +kernel
theorem dX4_multiplyLimbs_597 : decode cX4_multiplyLimbs 597 = .ok (.ladd, 1) := by decide +kernel
theorem dX4_multiplyLimbs_598 : decode cX4_multiplyLimbs 598 = .ok (.lload 7, 2) := by decide +kernel
theorem dX4_multiplyLimbs_600 : decode cX4_multiplyLimbs 600 = .ok (.lload 31, 2) := by decide +kernel
theorem dX4_multiplyLimbs_602 : decode cX4_multiplyLimbs 602 = .ok (.lmul, 1) := by decide +kernel
theorem dX4_multiplyLimbs_603 : decode cX4_multiplyLimbs 603 = .ok (.ladd, 1) := by decide +kernel
theorem dX4_multiplyLimbs_604 : decode cX4_multiplyLimbs 604 = .ok (.lload 45, 2) := by decide +kernel
theorem dX4_multiplyLimbs_606 : decode cX4_multiplyLimbs 606 = .ok (.lload 29, 2) := by decide +kernel
theorem dX4_multiplyLimbs_608 : decode cX4_multiplyLimbs 608 = .ok (.lmul, 1) := by decide +kernel
theorem dX4_multiplyLimbs_609 : decode cX4_multiplyLimbs 609 = .ok (.ladd, 1) := by decide +kernel
theorem dX4_multiplyLimbs_610 : decode cX4_multiplyLimbs 610 = .ok (.lload 11, 2) := by decide +kernel
theorem dX4_multiplyLimbs_612 : decode cX4_multiplyLimbs 612 = .ok (.lload 27, 2) := by decide +kernel
theorem dX4_multiplyLimbs_614 : decode cX4_multiplyLimbs 614 = .ok (.lmul, 1) := by decide +kernel
theorem dX4_multiplyLimbs_615 : decode cX4_multiplyLimbs 615 = .ok (.ladd, 1) := by decide +kernel
theorem dX4_multiplyLimbs_616 : decode cX4_multiplyLimbs 616 = .ok (.lload 47, 2) := by decide +kernel
theorem dX4_multiplyLimbs_618 : decode cX4_multiplyLimbs 618 = .ok (.lload 25, 2) := by decide +kernel
theorem dX4_multiplyLimbs_620 : decode cX4_multiplyLimbs 620 = .ok (.lmul, 1) := by decide +kernel
theorem dX4_multiplyLimbs_621 : decode cX4_multiplyLimbs 621 = .ok (.ladd, 1) := by decide +kernel
theorem dX4_multiplyLimbs_622 : decode cX4_multiplyLimbs 622 = .ok (.lload 15, 2) := by decide +kernel
theorem dX4_multiplyLimbs_624 : decode cX4_multiplyLimbs 624 = .ok (.lload 23, 2) := by decide +kernel
theorem dX4_multiplyLimbs_626 : decode cX4_multiplyLimbs 626 = .ok (.lmul, 1) := by decide +kernel
theorem dX4_multiplyLimbs_627 : decode cX4_multiplyLimbs 627 = .ok (.ladd, 1) := by decide +kernel
theorem dX4_multiplyLimbs_628 : decode cX4_multiplyLimbs 628 = .ok (.lload 49, 2) := by decide +kernel
theorem dX4_multiplyLimbs_630 : decode cX4_multiplyLimbs 630 = .ok (.lload 69, 2) := by decide +kernel
theorem dX4_multiplyLimbs_632 : decode cX4_multiplyLimbs 632 = .ok (.lmul, 1) := by decide +kernel
theorem dX4_multiplyLimbs_633 : decode cX4_multiplyLimbs 633 = .ok (.ladd, 1) := by decide +kernel
theorem dX4_multiplyLimbs_634 : decode cX4_multiplyLimbs 634 = .ok (.lload 19, 2) := by decide +kernel
theorem dX4_multiplyLimbs_636 : decode cX4_multiplyLimbs 636 = .ok (.lload 67, 2) := by decide +kernel
theorem dX4_multiplyLimbs_638 : decode cX4_multiplyLimbs 638 = .ok (.lmul, 1) := by decide +kernel
theorem dX4_multiplyLimbs_639 : decode cX4_multiplyLimbs 639 = .ok (.ladd, 1) := by decide +kernel
theorem dX4_multiplyLimbs_640 : decode cX4_multiplyLimbs 640 = .ok (.lload 51, 2) := by decide +kernel
theorem dX4_multiplyLimbs_642 : decode cX4_multiplyLimbs 642 = .ok (.lload 65, 2) := by decide +kernel
theorem dX4_multiplyLimbs_644 : decode cX4_multiplyLimbs 644 = .ok (.lmul, 1) := by decide +kernel
theorem dX4_multiplyLimbs_645 : decode cX4_multiplyLimbs 645 = .ok (.ladd, 1) := by decide +kernel
theorem dX4_multiplyLimbs_646 : decode cX4_multiplyLimbs 646 = .ok (.lastore, 1) := by decide +kernel
theorem dX4_multiplyLimbs_647 : decode cX4_multiplyLimbs 647 = .ok (.aload_n 0, 1) := by decide +kernel
theorem dX4_multiplyLimbs_648 : decode cX4_multiplyLimbs 648 = .ok (.bipush 7, 2) := by decide +kernel
theorem dX4_multiplyLimbs_650 : decode cX4_multiplyLimbs 650 = .ok (.lload_n 3, 1) := by decide +kernel
theorem dX4_multiplyLimbs_651 : decode cX4_multiplyLimbs 651 = .ok (.lload 37, 2) := by decide +kernel
theorem dX4_multiplyLimbs_653 : decode cX4_multiplyLimbs 653 = .ok (.lmul, 1) := by decide +kernel
theorem dX4_multiplyLimbs_654 : decode cX4_multiplyLimbs 654 = .ok (.lload 5, 2) := by decide +kernel
theorem dX4_multiplyLimbs_656 : decode cX4_multiplyLimbs 656 = .ok (.lload 35, 2) := by decide +kernel
theorem dX4_multiplyLimbs_658 : decode cX4_multiplyLimbs 658 = .ok (.lmul, 1) := by decide +kernel
theorem dX4_multiplyLimbs_659 : decode cX4_multiplyLimbs 659 = .ok (.ladd, 1) := by decide +kernel
theorem dX4_multiplyLimbs_660 : decode cX4_multiplyLimbs 660 = .ok (.lload 7, 2) := by decide +kernel
theorem dX4_multiplyLimbs_662 : decode cX4_multiplyLimbs 662 = .ok (.lload 33, 2) := by decide +kernel
theorem dX4_multiplyLimbs_664 : decode cX4_multiplyLimbs 664 = .ok (.lmul, 1) := by decide +kernel
theorem dX4_multiplyLimbs_665 : decode cX4_multiplyLimbs 665 = .ok (.ladd, 1) := by decide +kernel
theorem dX4_multiplyLimbs_666 : decode cX4_multiplyLimbs 666 = .ok (.lload 9, 2) := by decide +kernel
theorem dX4_multiplyLimbs_668 : decode cX4_multiplyLimbs 668 = .ok (.lload 31, 2) := by decide +kernel
theorem dX4_multiplyLimbs_670 : decode cX4_multiplyLimbs 670 = .ok (.lmul, 1) := by decide +kernel
theorem dX4_multiplyLimbs_671 : decode cX4_multiplyLimbs 671 = .ok (.ladd, 1) := by decide +kernel
theorem dX4_multiplyLimbs_672 : decode cX4_multiplyLimbs 672 = .ok (.lload 11, 2) := by decide +kernel
theorem dX4_multiplyLimbs_674 : decode cX4_multiplyLimbs 674 = .ok (.lload 29, 2) := by decide +kernel
theorem dX4_multiplyLimbs_676 : decode cX4_multiplyLimbs 676 = .ok (.lmul, 1) := by decide +kernel
theorem dX4_multiplyLimbs_677 : decode cX4_multiplyLimbs 677 = .ok (.ladd, 1) := by decide +kernel
theorem dX4_multiplyLimbs_678 : decode cX4_multiplyLimbs 678 = .ok (.lload 13, 2) := by decide +kernel
theorem dX4_multiplyLimbs_680 : decode cX4_multiplyLimbs 680 = .ok (.lload 27, 2) := by decide +kernel
theorem dX4_multiplyLimbs_682 : decode cX4_multiplyLimbs 682 = .ok (.lmul, 1) := by decide +kernel
theorem dX4_multiplyLimbs_683 : decode cX4_multiplyLimbs 683 = .ok (.ladd, 1) := by decide +kernel
theorem dX4_multiplyLimbs_684 : decode cX4_multiplyLimbs 684 = .ok (.lload 15, 2) := by decide +kernel
theorem dX4_multiplyLimbs_686 : decode cX4_multiplyLimbs 686 = .ok (.lload 25, 2) := by decide +kernel
theorem dX4_multiplyLimbs_688 : decode cX4_multiplyLimbs 688 = .ok (.lmul, 1) := by decide +kernel
theorem dX4_multiplyLimbs_689 : decode cX4_multiplyLimbs 689 = .ok (.ladd, 1) := by decide +kernel
theorem dX4_multiplyLimbs_690 : decode cX4_multiplyLimbs 690 = .ok (.lload 17, 2) := by decide +kernel
theorem dX4_multiplyLimbs_692 : decode cX4_multiplyLimbs 692 = .ok (.lload 23, 2) := by decide +kernel
theorem dX4_multiplyLimbs_694 : decode cX4_multiplyLimbs 694 = .ok (.lmul, 1) := by decide +kernel
theorem dX4_multiplyLimbs_695 : decode cX4_multiplyLimbs 695 = .ok (.ladd, 1) := by decide +kernel
theorem dX4_multiplyLimbs_696 : decode cX4_multiplyLimbs 696 = .ok (.lload 19, 2) := by decide +kernel
theorem dX4_multiplyLimbs_698 : decode cX4_multiplyLimbs 698 = .ok (.lload 69, 2) := by decide +kernel
theorem dX4_multiplyLimbs_700 : decode cX4_multiplyLimbs 700 = .ok (.lmul, 1) := by decide +kernel
theorem dX4_multiplyLimbs_701 : decode cX4_multiplyLimbs 701 = .ok (.ladd, 1) := by decide +kernel
theorem dX4_multiplyLimbs_702 : decode cX4_multiplyLimbs 702 = .ok (.lload 21, 2) := by decide +kernel
theorem dX4_multiplyLimbs_704 : decode cX4_multiplyLimbs 704 = .ok (.lload 67, 2) := by decide +kernel
theorem dX4_multiplyLimbs_706 : decode cX4_multiplyLimbs 706 = .ok (.lmul, 1) := by decide +kernel
theorem dX4_multiplyLimbs_707 : decode cX4_multiplyLimbs 707 = .ok (.ladd, 1) := by decide +kernel
theorem dX4_multiplyLimbs_708 : decode cX4_multiplyLimbs 708 = .ok (.lastore, 1) := by decide +kernel
theorem dX4_multiplyLimbs_709 : decode cX4_multiplyLimbs 709 = .ok (.aload_n 0, 1) := by decide +kernel
theorem dX4_multiplyLimbs_710 : decode cX4_multiplyLimbs 710 = .ok (.bipush 8, 2) := by decide +kernel
theorem dX4_multiplyLimbs_712 : decode cX4_multiplyLimbs 712 = .ok (.lload_n 3, 1) := by decide +kernel
theorem dX4_multiplyLimbs_713 : decode cX4_multiplyLimbs 713 = .ok (.lload 39, 2) := by decide +kernel
theorem dX4_multiplyLimbs_715 : decode cX4_multiplyLimbs 715 = .ok (.lmul, 1) := by decide +kernel
theorem dX4_multiplyLimbs_716 : decode cX4_multiplyLimbs 716 = .ok (.lload 43, 2) := by decide +kernel
theorem dX4_multiplyLimbs_718 : decode cX4_multiplyLimbs 718 = .ok (.lload 37, 2) := by decide +kernel
theorem dX4_multiplyLimbs_720 : decode cX4_multiplyLimbs 720 = .ok (.lmul, 1) := by decide +kernel
theorem dX4_multiplyLimbs_721 : decode cX4_multiplyLimbs 721 = .ok (.ladd, 1) := by decide +kernel
theorem dX4_multiplyLimbs_722 : decode cX4_multiplyLimbs 722 = .ok (.lload 7, 2) := by decide +kernel
theorem dX4_multiplyLimbs_724 : decode cX4_multiplyLimbs 724 = .ok (.lload 35, 2) := by decide +kernel
theorem dX4_multiplyLimbs_726 : decode cX4_multiplyLimbs 726 = .ok (.lmul, 1) := by decide +kernel
theorem dX4_multiplyLimbs_727 : decode cX4_multiplyLimbs 727 = .ok (.ladd, 1) := by decide +kernel
theorem dX4_multiplyLimbs_728 : decode cX4_multiplyLimbs 728 = .ok (.lload 45, 2) := by decide +kernel
theorem dX4_multiplyLimbs_730 : decode cX4_multiplyLimbs 730 = .ok (.lload 33, 2) := by decide +kernel
theorem dX4_multiplyLimbs_732 : decode cX4_multiplyLimbs 732 = .ok (.lmul, 1) := by decide +kernel
theorem dX4_multiplyLimbs_733 : decode cX4_multiplyLimbs 733 = .ok (.ladd, 1) := by decide +kernel
theorem dX4_multiplyLimbs_734 : decode cX4_multiplyLimbs 734 = .ok (.lload 11, 2) := by decide +kernel
theorem dX4_multiplyLimbs_736 : decode cX4_multiplyLimbs 736 = .ok (.lload 31, 2) := by decide +kernel
theorem dX4_multiplyLimbs_738 : decode cX4_multiplyLimbs 738 = .ok (.lmul, 1) := by decide +kernel
theorem dX4_multiplyLimbs_739 : decode cX4_multiplyLimbs 739 = .ok (.ladd, 1) := by decide +kernel
theorem dX4_multiplyLimbs_740 : decode cX4_multiplyLimbs 740 = .ok (.lload 47, 2) := by decide +kernel
theorem dX4_multiplyLimbs_742 : decode cX4_multiplyLimbs 742 = .ok (.lload 29, 2) := by decide +kernel
theorem dX4_multiplyLimbs_744 : decode cX4_multiplyLimbs 744 = .ok (.lmul, 1) := by decide +kernel
theorem dX4_multiplyLimbs_745 : decode cX4_multiplyLimbs 745 = .ok (.ladd, 1) := by decide +kernel
theorem dX4_multiplyLimbs_746 : decode cX4_multiplyLimbs 746 = .ok (.lload 15, 2) := by decide +kernel
theorem dX4_multiplyLimbs_748 : decode cX4_multiplyLimbs 748 = .ok (.lload 27, 2) := by decide +kernel
theorem dX4_multiplyLimbs_750 : decode cX4_multiplyLimbs 750 = .ok (.lmul, 1) := by decide +kernel
theorem dX4_multiplyLimbs_751 : decode cX4_multiplyLimbs 751 = .ok (.ladd, 1) := by decide +kernel
theorem dX4_multiplyLimbs_752 : decode cX4_multiplyLimbs 752 = .ok (.lload 49, 2) := by decide +kernel
theorem dX4_multiplyLimbs_754 : decode cX4_multiplyLimbs 754 = .ok (.lload 25, 2) := by decide +kernel
theorem dX4_multiplyLimbs_756 : decode cX4_multiplyLimbs 756 = .ok (.lmul, 1) := by decide +kernel
theorem dX4_multiplyLimbs_757 : decode cX4_multiplyLimbs 757 = .ok (.ladd, 1) := by decide +kernel
theorem dX4_multiplyLimbs_758 : decode cX4_multiplyLimbs 758 = .ok (.lload 19, 2) := by decide +kernel
theorem dX4_multiplyLimbs_760 : decode cX4_multiplyLimbs 760 = .ok (.lload 23, 2) := by decide +kernel
theorem dX4_multiplyLimbs_762 : decode cX4_multiplyLimbs 762 = .ok (.lmul, 1) := by decide +kernel
theorem dX4_multiplyLimbs_763 : decode cX4_multiplyLimbs 763 = .ok (.ladd, 1) := by decide +kernel
theorem dX4_multiplyLimbs_764 : decode cX4_multiplyLimbs 764 = .ok (.lload 51, 2) := by decide +kernel
theorem dX4_multiplyLimbs_766 : decode cX4_multiplyLimbs 766 = .ok (.lload 69, 2) := by decide +kernel
theorem dX4_multiplyLimbs_768 : decode cX4_multiplyLimbs 768 = .ok (.lmul, 1) := by decide +kernel
theorem dX4_multiplyLimbs_769 : decode cX4_multiplyLimbs 769 = .ok (.ladd, 1) := by decide +kernel
theorem dX4_multiplyLimbs_770 : decode cX4_multiplyLimbs 770 = .ok (.lastore, 1) := by decide +kernel
theorem dX4_multiplyLimbs_771 : decode cX4_multiplyLimbs 771 = .ok (.aload_n 0, 1) := by decide +kernel
theorem dX4_multiplyLimbs_772 : decode cX4_multiplyLimbs 772 = .ok (.bipush 9, 2) := by decide +kernel
theorem dX4_multiplyLimbs_774 : decode cX4_multiplyLimbs 774 = .ok (.lload_n 3, 1) := by decide +kernel
theorem dX4_multiplyLimbs_775 : decode cX4_multiplyLimbs 775 = .ok (.lload 41, 2) := by decide +kernel
theorem dX4_multiplyLimbs_777 : decode cX4_multiplyLimbs 777 = .ok (.lmul, 1) := by decide +kernel
theorem dX4_multiplyLimbs_778 : decode cX4_multiplyLimbs 778 = .ok (.lload 5, 2) := by decide +kernel
theorem dX4_multiplyLimbs_780 : decode cX4_multiplyLimbs 780 = .ok (.lload 39, 2) := by decide +kernel
theorem dX4_multiplyLimbs_782 : decode cX4_multiplyLimbs 782 = .ok (.lmul, 1) := by decide +kernel
theorem dX4_multiplyLimbs_783 : decode cX4_multiplyLimbs 783 = .ok (.ladd, 1) := by decide +kernel
theorem dX4_multiplyLimbs_784 : decode cX4_multiplyLimbs 784 = .ok (.lload 7, 2) := by decide +kernel
theorem dX4_multiplyLimbs_786 : decode cX4_multiplyLimbs 786 = .ok (.lload 37, 2) := by decide +kernel
theorem dX4_multiplyLimbs_788 : decode cX4_multiplyLimbs 788 = .ok (.lmul, 1) := by decide +kernel
theorem dX4_multiplyLimbs_789 : decode cX4_multiplyLimbs 789 = .ok (.ladd, 1) := by decide +kernel
theorem dX4_multiplyLimbs_790 : decode cX4_multiplyLimbs 790 = .ok (.lload 9, 2) := by decide +kernel
theorem dX4_multiplyLimbs_792 : decode cX4_multiplyLimbs 792 = .ok (.lload 35, 2) := by decide +kernel
theorem dX4_multiplyLimbs_794 : decode cX4_multiplyLimbs 794 = .ok (.lmul, 1) := by decide +kernel
theorem dX4_multiplyLimbs_795 : decode cX4_multiplyLimbs 795 = .ok (.ladd, 1) := by decide +kernel
theorem dX4_multiplyLimbs_796 : decode cX4_multiplyLimbs 796 = .ok (.lload 11, 2) := by decide +kernel
theorem dX4_multiplyLimbs_798 : decode cX4_multiplyLimbs 798 = .ok (.lload 33, 2) := by decide +kernel
theorem dX4_multiplyLimbs_800 : decode cX4_multiplyLimbs 800 = .ok (.lmul, 1) := by decide +kernel
theorem dX4_multiplyLimbs_801 : decode cX4_multiplyLimbs 801 = .ok (.ladd, 1) := by decide +kernel
theorem dX4_multiplyLimbs_802 : decode cX4_multiplyLimbs 802 = .ok (.lload 13, 2) := by decide +kernel
theorem dX4_multiplyLimbs_804 : decode cX4_multiplyLimbs 804 = .ok (.lload 31, 2) := by decide +kernel
theorem dX4_multiplyLimbs_806 : decode cX4_multiplyLimbs 806 = .ok (.lmul, 1) := by decide +kernel
theorem dX4_multiplyLimbs_807 : decode cX4_multiplyLimbs 807 = .ok (.ladd, 1) := by decide +kernel
theorem dX4_multiplyLimbs_808 : decode cX4_multiplyLimbs 808 = .ok (.lload 15, 2) := by decide +kernel
theorem dX4_multiplyLimbs_810 : decode cX4_multiplyLimbs 810 = .ok (.lload 29, 2) := by decide +kernel
theorem dX4_multiplyLimbs_812 : decode cX4_multiplyLimbs 812 = .ok (.lmul, 1) := by decide +kernel
theorem dX4_multiplyLimbs_813 : decode cX4_multiplyLimbs 813 = .ok (.ladd, 1) := by decide +kernel
theorem dX4_multiplyLimbs_814 : decode cX4_multiplyLimbs 814 = .ok (.lload 17, 2) := by decide +kernel
theorem dX4_multiplyLimbs_816 : decode cX4_multiplyLimbs 816 = .ok (.lload 27, 2) := by decide +kernel
theorem dX4_multiplyLimbs_818 : decode cX4_multiplyLimbs 818 = .ok (.lmul, 1) := by decide +kernel
theorem dX4_multiplyLimbs_819 : decode cX4_multiplyLimbs 819 = .ok (.ladd, 1) := by decide +kernel
theorem dX4_multiplyLimbs_820 : decode cX4_multiplyLimbs 820 = .ok (.lload 19, 2) := by decide +kernel
theorem dX4_multiplyLimbs_822 : decode cX4_multiplyLimbs 822 = .ok (.lload 25, 2) := by decide +kernel
theorem dX4_multiplyLimbs_824 : decode cX4_multiplyLimbs 824 = .ok (.lmul, 1) := by decide +kernel
theorem dX4_multiplyLimbs_825 : decode cX4_multiplyLimbs 825 = .ok (.ladd, 1) := by decide +kernel
theorem dX4_multiplyLimbs_826 : decode cX4_multiplyLimbs 826 = .ok (.lload 21, 2) := by decide +kernel
theorem dX4_multiplyLimbs_828 : decode cX4_multiplyLimbs 828 = .ok (.lload 23, 2) := by decide +kernel
theorem dX4_multiplyLimbs_830 : decode cX4_multiplyLimbs 830 = .ok (.lmul, 1) := by decide +kernel
theorem dX4_multiplyLimbs_831 : decode cX4_multiplyLimbs 831 = .ok (.ladd, 1) := by decide +kernel
theorem dX4_multiplyLimbs_832 : decode cX4_multiplyLimbs 832 = .ok (.lastore, 1) := by decide +kernel
theorem dX4_multiplyLimbs_833 : decode cX4_multiplyLimbs 833 = .ok (.aload_n 0, 1) := by decide +kernel
theorem dX4_multiplyLimbs_834 : decode cX4_multiplyLimbs 834 = .ok (.invokestatic 112, 3) := by decide +kernel
theorem dX4_multiplyLimbs_837 : decode cX4_multiplyLimbs 837 = .ok (.return_, 1) := by decide +kernel
theorem dX4_carry_0 : decode cX4_carry 0 = .ok (.lconst 0, 1) := by decide +kernel
theorem dX4_carry_1 : decode cX4_carry 1 = .ok (.lstore_n 1, 1) := by decide +kernel
theorem dX4_carry_2 : decode cX4_carry 2 = .ok (.iconst 0, 1) := by decide +kernel
theorem dX4_carry_3 : decode cX4_carry 3 = .ok (.istore_n 3, 1) := by decide +kernel
theorem dX4_carry_4 : decode cX4_carry 4 = .ok (.iload_n 3, 1) := by decide +kernel
theorem dX4_carry_5 : decode cX4_carry 5 = .ok (.bipush 10, 2) := by decide +kernel
theorem dX4_carry_7 : decode cX4_carry 7 = .ok (.if_icmp .ge 67, 3) := by decide +kernel
theorem dX4_carry_10 : decode cX4_carry 10 = .ok (.aload_n 0, 1) := by decide +kernel
theorem dX4_carry_11 : decode cX4_carry 11 = .ok (.iload_n 3, 1) := by decide +kernel
theorem dX4_carry_12 : decode cX4_carry 12 = .ok (.laload, 1) := by decide +kernel
theorem dX4_carry_13 : decode cX4_carry 13 = .ok (.lload_n 1, 1) := by decide +kernel
theorem dX4_carry_14 : decode cX4_carry 14 = .ok (.ladd, 1) := by decide +kernel
theorem dX4_carry_15 : decode cX4_carry 15 = .ok (.lstore 4, 2) := by decide +kernel
theorem dX4_carry_17 : decode cX4_carry 17 = .ok (.lload 4, 2) := by decide +kernel
theorem dX4_carry_19 : decode cX4_carry 19 = .ok (.ldc2_w 119, 3) := by decide +kernel
theorem dX4_carry_22 : decode cX4_carry 22 = .ok (.ladd, 1) := by decide +kernel
theorem dX4_carry_23 : decode cX4_carry 23 = .ok (.bipush 26, 2) := by decide +kernel
theorem dX4_carry_25 : decode cX4_carry 25 = .ok (.lshr, 1) := by decide +kernel
theorem dX4_carry_26 : decode cX4_carry 26 = .ok (.lstore_n 1, 1) := by decide +kernel
theorem dX4_carry_27 : decode cX4_carry 27 = .ok (.aload_n 0, 1) := by decide +kernel
theorem dX4_carry_28 : decode cX4_carry 28 = .ok (.iload_n 3, 1) := by decide +kernel
theorem dX4_carry_29 : decode cX4_carry 29 = .ok (.lload 4, 2) := by decide +kernel
theorem dX4_carry_31 : decode cX4_carry 31 = .ok (.lload_n 1, 1) := by decide +kernel
theorem dX4_carry_32 : decode cX4_carry 32 = .ok (.bipush 26, 2) := by decide +kernel
theorem dX4_carry_34 : decode cX4_carry 34 = .ok (.lshl, 1) := by decide +kernel
theorem dX4_carry_35 : decode cX4_carry 35 = .ok (.lsub, 1) := by decide +kernel
theorem dX4_carry_36 : decode cX4_carry 36 = .ok (.lastore, 1) := by decide +kernel
theorem dX4_carry_37 : decode cX4_carry 37 = .ok (.aload_n 0, 1) := by decide +kernel
theorem dX4_carry_38 : decode cX4_carry 38 = .ok (.iload_n 3, 1) := by decide +kernel
theorem dX4_carry_39 : decode cX4_carry 39 = .ok (.iconst 1, 1) := by decide +kernel
theorem dX4_carry_40 : decode cX4_carry 40 = .ok (.iadd, 1) := by decide +kernel
theorem dX4_carry_41 : decode cX4_carry 41 = .ok (.laload, 1) := by decide +kernel
theorem dX4_carry_42 : decode cX4_carry 42 = .ok (.lload_n 1, 1) := by decide +kernel
theorem dX4_carry_43 : decode cX4_carry 43 = .ok (.ladd, 1) := by decide +kernel
theorem dX4_carry_44 : decode cX4_carry 44 = .ok (.lstore 6, 2) := by decide +kernel
theorem dX4_carry_46 : decode cX4_carry 46 = .ok (.lload 6, 2) := by decide +kernel
theorem dX4_carry_48 : decode cX4_carry 48 = .ok (.ldc2_w 121, 3) := by decide +kernel
theorem dX4_carry_51 : decode cX4_carry 51 = .ok (.ladd, 1) := by decide +kernel
theorem dX4_carry_52 : decode cX4_carry 52 = .ok (.bipush 25, 2) := by decide +kernel
theorem dX4_carry_54 : decode cX4_carry 54 = .ok (.lshr, 1) := by decide +kernel
theorem dX4_carry_55 : decode cX4_carry 55 = .ok (.lstore_n 1, 1) := by decide +kernel
theorem dX4_carry_56 : decode cX4_carry 56 = .ok (.aload_n 0, 1) := by decide +kernel
theorem dX4_carry_57 : decode cX4_carry 57 = .ok (.iload_n 3, 1) := by decide +kernel
theorem dX4_carry_58 : decode cX4_carry 58 = .ok (.iconst 1, 1) := by decide +kernel
theorem dX4_carry_59 : decode cX4_carry 59 = .ok (.iadd, 1) := by decide +kernel
theorem dX4_carry_60 : decode cX4_carry 60 = .ok (.lload 6, 2) := by decide +kernel
theorem dX4_carry_62 : decode cX4_carry 62 = .ok (.lload_n 1, 1) := by decide +kernel
theorem dX4_carry_63 : decode cX4_carry 63 = .ok (.bipush 25, 2) := by decide +kernel
theorem dX4_carry_65 : decode cX4_carry 65 = .ok (.lshl, 1) := by decide +kernel
theorem dX4_carry_66 : decode cX4_carry 66 = .ok (.lsub, 1) := by decide +kernel
theorem dX4_carry_67 : decode cX4_carry 67 = .ok (.lastore, 1) := by decide +kernel
theorem dX4_carry_68 : decode cX4_carry 68 = .ok (.iinc 3 2, 3) := by decide +kernel
theorem dX4_carry_71 : decode cX4_carry 71 = .ok (.goto (-67), 3) := by decide +kernel
theorem dX4_carry_74 : decode cX4_carry 74 = .ok (.aload_n 0, 1) := by decide +kernel
theorem dX4_carry_75 : decode cX4_carry 75 = .ok (.iconst 0, 1) := by decide +kernel
theorem dX4_carry_76 : decode cX4_carry 76 = .ok (.dup2, 1) := by decide +kernel
theorem dX4_carry_77 : decode cX4_carry 77 = .ok (.laload, 1) := by decide +kernel
theorem dX4_carry_78 : decode cX4_carry 78 = .ok (.ldc2_w 117, 3) := by decide +kernel
theorem dX4_carry_81 : decode cX4_carry 81 = .ok (.lload_n 1, 1) := by decide +kernel
theorem dX4_carry_82 : decode cX4_carry 82 = .ok (.lmul, 1) := by decide +kernel
theorem dX4_carry_83 : decode cX4_carry 83 = .ok (.ladd, 1) := by decide +kernel
theorem dX4_carry_84 : decode cX4_carry 84 = .ok (.lastore, 1) := by decide +kernel
theorem dX4_carry_85 : decode cX4_carry 85 = .ok (.aload_n 0, 1) := by decide +kernel
theorem dX4_carry_86 : decode cX4_carry 86 = .ok (.iconst 0, 1) := by decide +kernel
theorem dX4_carry_87 : decode cX4_carry 87 = .ok (.laload, 1) := by decide +kernel
theorem dX4_carry_88 : decode cX4_carry 88 = .ok (.ldc2_w 119, 3) := by decide +kernel
theorem dX4_carry_91 : decode cX4_carry 91 = .ok (.ladd, 1) := by decide +kernel
theorem dX4_carry_92 : decode cX4_carry 92 = .ok (.bipush 26, 2) := by decide +kernel
theorem dX4_carry_94 : decode cX4_carry 94 = .ok (.lshr, 1) := by decide +kernel
theorem dX4_carry_95 : decode cX4_carry 95 = .ok (.lstore_n 1, 1) := by decide +kernel
theorem dX4_carry_96 : decode cX4_carry 96 = .ok (.aload_n 0, 1) := by decide +kernel
theorem dX4_carry_97 : decode cX4_carry 97 = .ok (.iconst 0, 1) := by decide +kernel
theorem dX4_carry_98 : decode cX4_carry 98 = .ok (.dup2, 1) := by decide +kernel
theorem dX4_carry_99 : decode cX4_carry 99 = .ok (.laload, 1) := by decide +kernel
theorem dX4_carry_100 : decode cX4_carry 100 = .ok (.lload_n 1, 1) := by decide +kernel
theorem dX4_carry_101 : decode cX4_carry 101 = .ok (.bipush 26, 2) := by decide +kernel
theorem dX4_carry_103 : decode cX4_carry 103 = .ok (.lshl, 1) := by decide +kernel
theorem dX4_carry_104 : decode cX4_carry 104 = .ok (.lsub, 1) := by decide +kernel
theorem dX4_carry_105 : decode cX4_carry 105 = .ok (.lastore, 1) := by decide +kernel
theorem dX4_carry_106 : decode cX4_carry 106 = .ok (.aload_n 0, 1) := by decide +kernel
theorem dX4_carry_107 : decode cX4_carry 107 = .ok (.iconst 1, 1) := by decide +kernel
theorem dX4_carry_108 : decode cX4_carry 108 = .ok (.dup2, 1) := by decide +kernel
theorem dX4_carry_109 : decode cX4_carry 109 = .ok (.laload, 1) := by decide +kernel
theorem dX4_carry_110 : decode cX4_carry 110 = .ok (.lload_n 1, 1) := by decide +kernel
theorem dX4_carry_111 : decode cX4_carry 111 = .ok (.ladd, 1) := by decide +kernel
theorem dX4_carry_112 : decode cX4_carry 112 = .ok (.lastore, 1) := by decide +kernel
theorem dX4_carry_113 : decode cX4_carry 113 = .ok (.return_, 1) := by decide +kernel
theorem dX4_invert_0 : decode cX4_invert 0 = .ok (.aload_n 1, 1) := by decide +kernel
theorem dX4_invert_1 : decode cX4_invert 1 = .ok (.iconst 0, 1) := by decide +kernel
theorem dX4_invert_2 : decode cX4_invert 2 = .ok (.aload_n 0, 1) := by decide +kernel
theorem dX4_invert_3 : decode cX4_invert 3 = .ok (.iconst 0, 1) := by decide +kernel
theorem dX4_invert_4 : decode cX4_invert 4 = .ok (.bipush 10, 2) := by decide +kernel
theorem dX4_invert_6 : decode cX4_invert 6 = .ok (.invokestatic 69, 3) := by decide +kernel
theorem dX4_invert_9 : decode cX4_invert 9 = .ok (.sipush 253, 3) := by decide +kernel
theorem dX4_invert_12 : decode cX4_invert 12 = .ok (.istore_n 2, 1) := by decide +kernel
theorem dX4_invert_13 : decode cX4_invert 13 = .ok (.iload_n 2, 1) := by decide +kernel
theorem dX4_invert_14 : decode cX4_invert 14 = .ok (.ifCond .lt 31, 3) := by decide +kernel
theorem dX4_invert_17 : decode cX4_invert 17 = .ok (.aload_n 0, 1) := by decide +kernel
theorem dX4_invert_18 : decode cX4_invert 18 = .ok (.aload_n 0, 1) := by decide +kernel
theorem dX4_invert_19 : decode cX4_invert 19 = .ok (.aload_n 0, 1) := by decide +kernel
theorem dX4_invert_20 : decode cX4_invert 20 = .ok (.invokestatic 61, 3) := by decide +kernel
theorem dX4_invert_23 : decode cX4_invert 23 = .ok (.iload_n 2, 1) := by decide +kernel
theorem dX4_invert_24 : decode cX4_invert 24 = .ok (.iconst 2, 1) := by decide +kernel
theorem dX4_invert_25 : decode cX4_invert 25 = .ok (.if_icmp .eq 14, 3) := by decide +kernel
theorem dX4_invert_28 : decode cX4_invert 28 = .ok (.iload_n 2, 1) := by decide +kernel
theorem dX4_invert_29 : decode cX4_invert 29 = .ok (.iconst 4, 1) := by decide +kernel
theorem dX4_invert_30 : decode cX4_invert 30 = .ok (.if_icmp .eq 9, 3) := by decide +kernel
theorem dX4_invert_33 : decode cX4_invert 33 = .ok (.aload_n 0, 1) := by decide +kernel
theorem dX4_invert_34 : decode cX4_invert 34 = .ok (.aload_n 0, 1) := by decide +kernel
theorem dX4_invert_35 : decode cX4_invert 35 = .ok (.aload_n 1, 1) := by decide +kernel
theorem dX4_invert_36 : decode cX4_invert 36 = .ok (.invokestatic 61, 3) := by decide +kernel
theorem dX4_invert_39 : decode cX4_invert 39 = .ok (.iinc 2 (-1), 3) := by decide +kernel
theorem dX4_invert_42 : decode cX4_invert 42 = .ok (.goto (-29), 3) := by decide +kernel
theorem dX4_invert_45 : decode cX4_invert 45 = .ok (.return_, 1) := by decide +kernel
theorem dX4_encode_0 : decode cX4_encode 0 = .ok (.aload_n 1, 1) := by decide +kernel
theorem dX4_encode_1 : decode cX4_encode 1 = .ok (.invokestatic 123, 3) := by decide +kernel
theorem dX4_encode_4 : decode cX4_encode 4 = .ok (.iconst 0, 1) := by decide +kernel
theorem dX4_encode_5 : decode cX4_encode 5 = .ok (.istore_n 2, 1) := by decide +kernel
theorem dX4_encode_6 : decode cX4_encode 6 = .ok (.iload_n 2, 1) := by decide +kernel
theorem dX4_encode_7 : decode cX4_encode 7 = .ok (.bipush 32, 2) := by decide +kernel
theorem dX4_encode_9 : decode cX4_encode 9 = .ok (.if_icmp .ge 16, 3) := by decide +kernel
theorem dX4_encode_12 : decode cX4_encode 12 = .ok (.aload_n 0, 1) := by decide +kernel
theorem dX4_encode_13 : decode cX4_encode 13 = .ok (.getfield 15, 3) := by decide +kernel
theorem dX4_encode_16 : decode cX4_encode 16 = .ok (.iload_n 2, 1) := by decide +kernel
theorem dX4_encode_17 : decode cX4_encode 17 = .ok (.iconst 0, 1) := by decide +kernel
theorem dX4_encode_18 : decode cX4_encode 18 = .ok (.bastore, 1) := by decide +kernel
theorem dX4_encode_19 : decode cX4_encode 19 = .ok (.iinc 2 1, 3) := by decide +kernel
theorem dX4_encode_22 : decode cX4_encode 22 = .ok (.goto (-16), 3) := by decide +kernel
theorem dX4_encode_25 : decode cX4_encode 25 = .ok (.iconst 0, 1) := by decide +kernel
theorem dX4_encode_26 : decode cX4_encode 26 = .ok (.istore_n 2, 1) := by decide +kernel
theorem dX4_encode_27 : decode cX4_encode 27 = .ok (.iload_n 2, 1) := by decide +kernel
theorem dX4_encode_28 : decode cX4_encode 28 = .ok (.bipush 10, 2) := by decide +kernel
theorem dX4_encode_30 : decode cX4_encode 30 = .ok (.if_icmp .ge 51, 3) := by decide +kernel
theorem dX4_encode_33 : decode cX4_encode 33 = .ok (.getstatic 75, 3) := by decide +kernel
theorem dX4_encode_36 : decode cX4_encode 36 = .ok (.iload_n 2, 1) := by decide +kernel
theorem dX4_encode_37 : decode cX4_encode 37 = .ok (.iaload, 1) := by decide +kernel
theorem dX4_encode_38 : decode cX4_encode 38 = .ok (.iconst 3, 1) := by decide +kernel
theorem dX4_encode_39 : decode cX4_encode 39 = .ok (.ishr, 1) := by decide +kernel
theorem dX4_encode_40 : decode cX4_encode 40 = .ok (.istore_n 3, 1) := by decide +kernel
theorem dX4_encode_41 : decode cX4_encode 41 = .ok (.aload_n 0, 1) := by decide +kernel
theorem dX4_encode_42 : decode cX4_encode 42 = .ok (.getfield 15, 3) := by decide +kernel
theorem dX4_encode_45 : decode cX4_encode 45 = .ok (.iload_n 3, 1) := by decide +kernel
theorem dX4_encode_46 : decode cX4_encode 46 = .ok (.invokestatic 79, 3) := by decide +kernel
theorem dX4_encode_49 : decode cX4_encode 49 = .ok (.aload_n 1, 1) := by decide +kernel
theorem dX4_encode_50 : decode cX4_encode 50 = .ok (.iload_n 2, 1) := by decide +kernel
theorem dX4_encode_51 : decode cX4_encode 51 = .ok (.laload, 1) := by decide +kernel
theorem dX4_encode_52 : decode cX4_encode 52 = .ok (.l2i, 1) := by decide +kernel
theorem dX4_encode_53 : decode cX4_encode 53 = .ok (.getstatic 75, 3) := by decide +kernel
theorem dX4_encode_56 : decode cX4_encode 56 = .ok (.iload_n 2, 1) := by decide +kernel
theorem dX4_encode_57 : decode cX4_encode 57 = .ok (.iaload, 1) := by decide +kernel
theorem dX4_encode_58 : decode cX4_encode 58 = .ok (.bipush 7, 2) := by decide +kernel
theorem dX4_encode_60 : decode cX4_encode 60 = .ok (.iand, 1) := by decide +kernel
theorem dX4_encode_61 : decode cX4_encode 61 = .ok (.ishl, 1) := by decide +kernel
theorem dX4_encode_62 : decode cX4_encode 62 = .ok (.ior, 1) := by decide +kernel
theorem dX4_encode_63 : decode cX4_encode 63 = .ok (.istore 4, 2) := by decide +kernel
theorem dX4_encode_65 : decode cX4_encode 65 = .ok (.iload 4, 2) := by decide +kernel
theorem dX4_encode_67 : decode cX4_encode 67 = .ok (.aload_n 0, 1) := by decide +kernel
theorem dX4_encode_68 : decode cX4_encode 68 = .ok (.getfield 15, 3) := by decide +kernel
theorem dX4_encode_71 : decode cX4_encode 71 = .ok (.iload_n 3, 1) := by decide +kernel
theorem dX4_encode_72 : decode cX4_encode 72 = .ok (.invokestatic 126, 3) := by decide +kernel
theorem dX4_encode_75 : decode cX4_encode 75 = .ok (.iinc 2 1, 3) := by decide +kernel
theorem dX4_encode_78 : decode cX4_encode 78 = .ok (.goto (-51), 3) := by decide +kernel
theorem dX4_encode_81 : decode cX4_encode 81 = .ok (.return_, 1) := by decide +kernel
theorem dX4_reduce_0 : decode cX4_reduce 0 = .ok (.ldc2_w 117, 3) := by decide +kernel
theorem dX4_reduce_3 : decode cX4_reduce 3 = .ok (.aload_n 0, 1) := by decide +kernel
theorem dX4_reduce_4 : decode cX4_reduce 4 = .ok (.bipush 9, 2) := by decide +kernel
theorem dX4_reduce_6 : decode cX4_reduce 6 = .ok (.laload, 1) := by decide +kernel
theorem dX4_reduce_7 : decode cX4_reduce 7 = .ok (.lmul, 1) := by decide +kernel
theorem dX4_reduce_8 : decode cX4_reduce 8 = .ok (.ldc2_w 121, 3) := by decide +kernel
theorem dX4_reduce_11 : decode cX4_reduce 11 = .ok (.ladd, 1) := by decide +kernel
theorem dX4_reduce_12 : decode cX4_reduce 12 = .ok (.bipush 25, 2) := by decide +kernel
theorem dX4_reduce_14 : decode cX4_reduce 14 = .ok (.lshr, 1) := by decide +kernel
theorem dX4_reduce_15 : decode cX4_reduce 15 = .ok (.lstore_n 1, 1) := by decide +kernel
theorem dX4_reduce_16 : decode cX4_reduce 16 = .ok (.iconst 0, 1) := by decide +kernel
theorem dX4_reduce_17 : decode cX4_reduce 17 = .ok (.istore_n 3, 1) := by decide +kernel
theorem dX4_reduce_18 : decode cX4_reduce 18 = .ok (.iload_n 3, 1) := by decide +kernel
theorem dX4_reduce_19 : decode cX4_reduce 19 = .ok (.bipush 10, 2) := by decide +kernel
theorem dX4_reduce_21 : decode cX4_reduce 21 = .ok (.if_icmp .ge 20, 3) := by decide +kernel
theorem dX4_reduce_24 : decode cX4_reduce 24 = .ok (.aload_n 0, 1) := by decide +kernel
theorem dX4_reduce_25 : decode cX4_reduce 25 = .ok (.iload_n 3, 1) := by decide +kernel
theorem dX4_reduce_26 : decode cX4_reduce 26 = .ok (.laload, 1) := by decide +kernel
theorem dX4_reduce_27 : decode cX4_reduce 27 = .ok (.lload_n 1, 1) := by decide +kernel
theorem dX4_reduce_28 : decode cX4_reduce 28 = .ok (.ladd, 1) := by decide +kernel
theorem dX4_reduce_29 : decode cX4_reduce 29 = .ok (.iload_n 3, 1) := by decide +kernel
theorem dX4_reduce_30 : decode cX4_reduce 30 = .ok (.invokestatic 85, 3) := by decide +kernel
theorem dX4_reduce_33 : decode cX4_reduce 33 = .ok (.lshr, 1) := by decide +kernel
theorem dX4_reduce_34 : decode cX4_reduce 34 = .ok (.lstore_n 1, 1) := by decide +kernel
theorem dX4_reduce_35 : decode cX4_reduce 35 = .ok (.iinc 3 1, 3) := by decide +kernel
theorem dX4_reduce_38 : decode cX4_reduce 38 = .ok (.goto (-20), 3) := by decide +kernel
theorem dX4_reduce_41 : decode cX4_reduce 41 = .ok (.lload_n 1, 1) := by decide +kernel
theorem dX4_reduce_42 : decode cX4_reduce 42 = .ok (.ldc2_w 117, 3) := by decide +kernel
theorem dX4_reduce_45 : decode cX4_reduce 45 = .ok (.lmul, 1) := by decide +kernel
theorem dX4_reduce_46 : decode cX4_reduce 46 = .ok (.lstore_n 1, 1) := by decide +kernel
theorem dX4_reduce_47 : decode cX4_reduce 47 = .ok (.iconst 0, 1) := by decide +kernel
theorem dX4_reduce_48 : decode cX4_reduce 48 = .ok (.istore_n 3, 1) := by decide +kernel
theorem dX4_reduce_49 : decode cX4_reduce 49 = .ok (.iload_n 3, 1) := by decide +kernel
theorem dX4_reduce_50 : decode cX4_reduce 50 = .ok (.bipush 10, 2) := by decide +kernel
theorem dX4_reduce_52 : decode cX4_reduce 52 = .ok (.if_icmp .ge 36, 3) := by decide +kernel
theorem dX4_reduce_55 : decode cX4_reduce 55 = .ok (.aload_n 0, 1) := by decide +kernel
theorem dX4_reduce_56 : decode cX4_reduce 56 = .ok (.iload_n 3, 1) := by decide +kernel
theorem dX4_reduce_57 : decode cX4_reduce 57 = .ok (.laload, 1) := by decide +kernel
theorem dX4_reduce_58 : decode cX4_reduce 58 = .ok (.lload_n 1, 1) := by decide +kernel
theorem dX4_reduce_59 : decode cX4_reduce 59 = .ok (.ladd, 1) := by decide +kernel
theorem dX4_reduce_60 : decode cX4_reduce 60 = .ok (.lstore 4, 2) := by decide +kernel
theorem dX4_reduce_62 : decode cX4_reduce 62 = .ok (.lload 4, 2) := by decide +kernel
theorem dX4_reduce_64 : decode cX4_reduce 64 = .ok (.iload_n 3, 1) := by decide +kernel
theorem dX4_reduce_65 : decode cX4_reduce 65 = .ok (.invokestatic 85, 3) := by decide +kernel
theorem dX4_reduce_68 : decode cX4_reduce 68 = .ok (.lshr, 1) := by decide +kernel
theorem dX4_reduce_69 : decode cX4_reduce 69 = .ok (.lstore_n 1, 1) := by decide +kernel
theorem dX4_reduce_70 : decode cX4_reduce 70 = .ok (.aload_n 0, 1) := by decide +kernel
theorem dX4_reduce_71 : decode cX4_reduce 71 = .ok (.iload_n 3, 1) := by decide +kernel
theorem dX4_reduce_72 : decode cX4_reduce 72 = .ok (.lload 4, 2) := by decide +kernel
theorem dX4_reduce_74 : decode cX4_reduce 74 = .ok (.lload_n 1, 1) := by decide +kernel
theorem dX4_reduce_75 : decode cX4_reduce 75 = .ok (.iload_n 3, 1) := by decide +kernel
theorem dX4_reduce_76 : decode cX4_reduce 76 = .ok (.invokestatic 85, 3) := by decide +kernel
theorem dX4_reduce_79 : decode cX4_reduce 79 = .ok (.lshl, 1) := by decide +kernel
theorem dX4_reduce_80 : decode cX4_reduce 80 = .ok (.lsub, 1) := by decide +kernel
theorem dX4_reduce_81 : decode cX4_reduce 81 = .ok (.lastore, 1) := by decide +kernel
theorem dX4_reduce_82 : decode cX4_reduce 82 = .ok (.iinc 3 1, 3) := by decide +kernel
theorem dX4_reduce_85 : decode cX4_reduce 85 = .ok (.goto (-36), 3) := by decide +kernel
theorem dX4_reduce_88 : decode cX4_reduce 88 = .ok (.return_, 1) := by decide +kernel
theorem dX7_init_0 : decode cX7_init 0 = .ok (.aload_n 0, 1) := by decide +kernel
theorem dX7_init_1 : decode cX7_init 1 = .ok (.invokespecial 3, 3) := by decide +kernel
theorem dX7_init_4 : decode cX7_init 4 = .ok (.aload_n 0, 1) := by decide +kernel
theorem dX7_init_5 : decode cX7_init 5 = .ok (.bipush 32, 2) := by decide +kernel
theorem dX7_init_7 : decode cX7_init 7 = .ok (.newarray .byte, 2) := by decide +kernel
theorem dX7_init_9 : decode cX7_init 9 = .ok (.putfield 9, 3) := by decide +kernel
theorem dX7_init_12 : decode cX7_init 12 = .ok (.aload_n 0, 1) := by decide +kernel
theorem dX7_init_13 : decode cX7_init 13 = .ok (.bipush 32, 2) := by decide +kernel
theorem dX7_init_15 : decode cX7_init 15 = .ok (.newarray .byte, 2) := by decide +kernel
theorem dX7_init_17 : decode cX7_init 17 = .ok (.putfield 15, 3) := by decide +kernel
theorem dX7_init_20 : decode cX7_init 20 = .ok (.aload_n 0, 1) := by decide +kernel
theorem dX7_init_21 : decode cX7_init 21 = .ok (.bipush 32, 2) := by decide +kernel
theorem dX7_init_23 : decode cX7_init 23 = .ok (.newarray .byte, 2) := by decide +kernel
theorem dX7_init_25 : decode cX7_init 25 = .ok (.putfield 18, 3) := by decide +kernel
theorem dX7_init_28 : decode cX7_init 28 = .ok (.aload_n 0, 1) := by decide +kernel
theorem dX7_init_29 : decode cX7_init 29 = .ok (.bipush 32, 2) := by decide +kernel
theorem dX7_init_31 : decode cX7_init 31 = .ok (.newarray .byte, 2) := by decide +kernel
theorem dX7_init_33 : decode cX7_init 33 = .ok (.putfield 21, 3) := by decide +kernel
theorem dX7_init_36 : decode cX7_init 36 = .ok (.aload_n 0, 1) := by decide +kernel
theorem dX7_init_37 : decode cX7_init 37 = .ok (.iconst 0, 1) := by decide +kernel
theorem dX7_init_38 : decode cX7_init 38 = .ok (.putfield 24, 3) := by decide +kernel
theorem dX7_init_41 : decode cX7_init 41 = .ok (.aload_n 0, 1) := by decide +kernel
theorem dX7_init_42 : decode cX7_init 42 = .ok (.iconst (-1), 1) := by decide +kernel
theorem dX7_init_43 : decode cX7_init 43 = .ok (.putfield 28, 3) := by decide +kernel
theorem dX7_init_46 : decode cX7_init 46 = .ok (.aload_n 0, 1) := by decide +kernel
theorem dX7_init_47 : decode cX7_init 47 = .ok (.iconst 0, 1) := by decide +kernel
theorem dX7_init_48 : decode cX7_init 48 = .ok (.putfield 32, 3) := by decide +kernel
theorem dX7_init_51 : decode cX7_init 51 = .ok (.aload_n 0, 1) := by decide +kernel
theorem dX7_init_52 : decode cX7_init 52 = .ok (.aload_n 1, 1) := by decide +kernel
theorem dX7_init_53 : decode cX7_init 53 = .ok (.getfield 35, 3) := by decide +kernel
theorem dX7_init_56 : decode cX7_init 56 = .ok (.putfield 41, 3) := by decide +kernel
theorem dX7_init_59 : decode cX7_init 59 = .ok (.aload_n 0, 1) := by decide +kernel
theorem dX7_init_60 : decode cX7_init 60 = .ok (.new 42, 3) := by decide +kernel
theorem dX7_init_63 : decode cX7_init 63 = .ok (.dup, 1) := by decide +kernel
theorem dX7_init_64 : decode cX7_init 64 = .ok (.aload_n 1, 1) := by decide +kernel
theorem dX7_init_65 : decode cX7_init 65 = .ok (.invokespecial 44, 3) := by decide +kernel
theorem dX7_init_68 : decode cX7_init 68 = .ok (.putfield 47, 3) := by decide +kernel
theorem dX7_init_71 : decode cX7_init 71 = .ok (.aload_n 0, 1) := by decide +kernel
theorem dX7_init_72 : decode cX7_init 72 = .ok (.aload_n 2, 1) := by decide +kernel
theorem dX7_init_73 : decode cX7_init 73 = .ok (.putfield 51, 3) := by decide +kernel
theorem dX7_init_76 : decode cX7_init 76 = .ok (.aload_n 0, 1) := by decide +kernel
theorem dX7_init_77 : decode cX7_init 77 = .ok (.new 54, 3) := by decide +kernel
theorem dX7_init_80 : decode cX7_init 80 = .ok (.dup, 1) := by decide +kernel
theorem dX7_init_81 : decode cX7_init 81 = .ok (.aload_n 1, 1) := by decide +kernel
theorem dX7_init_82 : decode cX7_init 82 = .ok (.getfield 56, 3) := by decide +kernel
theorem dX7_init_85 : decode cX7_init 85 = .ok (.invokespecial 60, 3) := by decide +kernel
theorem dX7_init_88 : decode cX7_init 88 = .ok (.putfield 63, 3) := by decide +kernel
theorem dX7_init_91 : decode cX7_init 91 = .ok (.aload_n 0, 1) := by decide +kernel
theorem dX7_init_92 : decode cX7_init 92 = .ok (.new 54, 3) := by decide +kernel
theorem dX7_init_95 : decode cX7_init 95 = .ok (.dup, 1) := by decide +kernel
theorem dX7_init_96 : decode cX7_init 96 = .ok (.aload_n 1, 1) := by decide +kernel
theorem dX7_init_97 : decode cX7_init 97 = .ok (.getfield 56, 3) := by decide +kernel
theorem dX7_init_100 : decode cX7_init 100 = .ok (.invokespecial 60, 3) := by decide +kernel
theorem dX7_init_103 : decode cX7_init 103 = .ok (.putfield 67, 3) := by decide +kernel
theorem dX7_init_106 : decode cX7_init 106 = .ok (.return_, 1) := by decide +kernel
theorem dX7_begin_0 : decode cX7_begin 0 = .ok (.aload_n 0, 1) := by decide +kernel
theorem dX7_begin_1 : decode cX7_begin 1 = .ok (.iload_n 1, 1) := by decide +kernel
theorem dX7_begin_2 : decode cX7_begin 2 = .ok (.putfield 24, 3) := by decide +kernel
theorem dX7_begin_5 : decode cX7_begin 5 = .ok (.aload_n 0, 1) := by decide +kernel
theorem dX7_begin_6 : decode cX7_begin 6 = .ok (.iconst 0, 1) := by decide +kernel
theorem dX7_begin_7 : decode cX7_begin 7 = .ok (.putfield 28, 3) := by decide +kernel
theorem dX7_begin_10 : decode cX7_begin 10 = .ok (.aload_n 0, 1) := by decide +kernel
theorem dX7_begin_11 : decode cX7_begin 11 = .ok (.iconst 0, 1) := by decide +kernel
theorem dX7_begin_12 : decode cX7_begin 12 = .ok (.putfield 32, 3) := by decide +kernel
theorem dX7_begin_15 : decode cX7_begin 15 = .ok (.aload_n 2, 1) := by decide +kernel
theorem dX7_begin_16 : decode cX7_begin 16 = .ok (.iconst 0, 1) := by decide +kernel
theorem dX7_begin_17 : decode cX7_begin 17 = .ok (.aload_n 0, 1) := by decide +kernel
theorem dX7_begin_18 : decode cX7_begin 18 = .ok (.getfield 9, 3) := by decide +kernel
theorem dX7_begin_21 : decode cX7_begin 21 = .ok (.iconst 0, 1) := by decide +kernel
theorem dX7_begin_22 : decode cX7_begin 22 = .ok (.bipush 32, 2) := by decide +kernel
theorem dX7_begin_24 : decode cX7_begin 24 = .ok (.invokestatic 70, 3) := by decide +kernel
theorem dX7_begin_27 : decode cX7_begin 27 = .ok (.aload_n 3, 1) := by decide +kernel
theorem dX7_begin_28 : decode cX7_begin 28 = .ok (.iconst 0, 1) := by decide +kernel
theorem dX7_begin_29 : decode cX7_begin 29 = .ok (.aload_n 0, 1) := by decide +kernel
theorem dX7_begin_30 : decode cX7_begin 30 = .ok (.getfield 15, 3) := by decide +kernel
theorem dX7_begin_33 : decode cX7_begin 33 = .ok (.iconst 0, 1) := by decide +kernel
theorem dX7_begin_34 : decode cX7_begin 34 = .ok (.bipush 32, 2) := by decide +kernel
theorem dX7_begin_36 : decode cX7_begin 36 = .ok (.invokestatic 70, 3) := by decide +kernel
theorem dX7_begin_39 : decode cX7_begin 39 = .ok (.aload_n 0, 1) := by decide +kernel
theorem dX7_begin_40 : decode cX7_begin 40 = .ok (.getfield 63, 3) := by decide +kernel
theorem dX7_begin_43 : decode cX7_begin 43 = .ok (.invokevirtual 76, 3) := by decide +kernel
theorem dX7_begin_46 : decode cX7_begin 46 = .ok (.aload_n 0, 1) := by decide +kernel
theorem dX7_begin_47 : decode cX7_begin 47 = .ok (.getfield 67, 3) := by decide +kernel
theorem dX7_begin_50 : decode cX7_begin 50 = .ok (.invokevirtual 76, 3) := by decide +kernel
theorem dX7_begin_53 : decode cX7_begin 53 = .ok (.aload_n 0, 1) := by decide +kernel
theorem dX7_begin_54 : decode cX7_begin 54 = .ok (.getfield 47, 3) := by decide +kernel
theorem dX7_begin_57 : decode cX7_begin 57 = .ok (.invokevirtual 79, 3) := by decide +kernel
theorem dX7_begin_60 : decode cX7_begin 60 = .ok (.aload_n 0, 1) := by decide +kernel
theorem dX7_begin_61 : decode cX7_begin 61 = .ok (.getfield 47, 3) := by decide +kernel
theorem dX7_begin_64 : decode cX7_begin 64 = .ok (.aload 4, 2) := by decide +kernel
theorem dX7_begin_66 : decode cX7_begin 66 = .ok (.iconst 0, 1) := by decide +kernel
theorem dX7_begin_67 : decode cX7_begin 67 = .ok (.iload 5, 2) := by decide +kernel
theorem dX7_begin_69 : decode cX7_begin 69 = .ok (.invokevirtual 82, 3) := by decide +kernel
theorem dX7_begin_72 : decode cX7_begin 72 = .ok (.return_, 1) := by decide +kernel
theorem dX7_hasBegun_0 : decode cX7_hasBegun 0 = .ok (.aload_n 0, 1) := by decide +kernel
theorem dX7_hasBegun_1 : decode cX7_hasBegun 1 = .ok (.getfield 28, 3) := by decide +kernel
theorem dX7_hasBegun_4 : decode cX7_hasBegun 4 = .ok (.iconst (-1), 1) := by decide +kernel
theorem dX7_hasBegun_5 : decode cX7_hasBegun 5 = .ok (.if_icmp .eq 7, 3) := by decide +kernel
theorem dX7_hasBegun_8 : decode cX7_hasBegun 8 = .ok (.iconst 1, 1) := by decide +kernel
theorem dX7_hasBegun_9 : decode cX7_hasBegun 9 = .ok (.goto 4, 3) := by decide +kernel
theorem dX7_hasBegun_12 : decode cX7_hasBegun 12 = .ok (.iconst 0, 1) := by decide +kernel
theorem dX7_hasBegun_13 : decode cX7_hasBegun 13 = .ok (.ireturn, 1) := by decide +kernel
theorem dX7_isOver_0 : decode cX7_isOver 0 = .ok (.aload_n 0, 1) := by decide +kernel
theorem dX7_isOver_1 : decode cX7_isOver 1 = .ok (.getfield 28, 3) := by decide +kernel
theorem dX7_isOver_4 : decode cX7_isOver 4 = .ok (.iconst 3, 1) := by decide +kernel
theorem dX7_isOver_5 : decode cX7_isOver 5 = .ok (.if_icmp .ne 7, 3) := by decide +kernel
theorem dX7_isOver_8 : decode cX7_isOver 8 = .ok (.iconst 1, 1) := by decide +kernel
theorem dX7_isOver_9 : decode cX7_isOver 9 = .ok (.goto 4, 3) := by decide +kernel
theorem dX7_isOver_12 : decode cX7_isOver 12 = .ok (.iconst 0, 1) := by decide +kernel
theorem dX7_isOver_13 : decode cX7_isOver 13 = .ok (.ireturn, 1) := by decide +kernel
theorem dX7_writesNext_0 : decode cX7_writesNext 0 = .ok (.aload_n 0, 1) := by decide +kernel
theorem dX7_writesNext_1 : decode cX7_writesNext 1 = .ok (.getfield 28, 3) := by decide +kernel
theorem dX7_writesNext_4 : decode cX7_writesNext 4 = .ok (.iconst 3, 1) := by decide +kernel
theorem dX7_writesNext_5 : decode cX7_writesNext 5 = .ok (.if_icmp .ge 27, 3) := by decide +kernel
theorem dX7_writesNext_8 : decode cX7_writesNext 8 = .ok (.aload_n 0, 1) := by decide +kernel
theorem dX7_writesNext_9 : decode cX7_writesNext 9 = .ok (.getfield 24, 3) := by decide +kernel
theorem dX7_writesNext_12 : decode cX7_writesNext 12 = .ok (.aload_n 0, 1) := by decide +kernel
theorem dX7_writesNext_13 : decode cX7_writesNext 13 = .ok (.getfield 28, 3) := by decide +kernel
theorem dX7_writesNext_16 : decode cX7_writesNext 16 = .ok (.iconst 1, 1) := by decide +kernel
theorem dX7_writesNext_17 : decode cX7_writesNext 17 = .ok (.if_icmp .eq 7, 3) := by decide +kernel
theorem dX7_writesNext_20 : decode cX7_writesNext 20 = .ok (.iconst 1, 1) := by decide +kernel
theorem dX7_writesNext_21 : decode cX7_writesNext 21 = .ok (.goto 4, 3) := by decide +kernel
theorem dX7_writesNext_24 : decode cX7_writesNext 24 = .ok (.iconst 0, 1) := by decide +kernel
theorem dX7_writesNext_25 : decode cX7_writesNext 25 = .ok (.if_icmp .ne 7, 3) := by decide +kernel
theorem dX7_writesNext_28 : decode cX7_writesNext 28 = .ok (.iconst 1, 1) := by decide +kernel
theorem dX7_writesNext_29 : decode cX7_writesNext 29 = .ok (.goto 4, 3) := by decide +kernel
theorem dX7_writesNext_32 : decode cX7_writesNext 32 = .ok (.iconst 0, 1) := by decide +kernel
theorem dX7_writesNext_33 : decode cX7_writesNext 33 = .ok (.ireturn, 1) := by decide +kernel
theorem dX7_readsNext_0 : decode cX7_readsNext 0 = .ok (.aload_n 0, 1) := by decide +kernel
theorem dX7_readsNext_1 : decode cX7_readsNext 1 = .ok (.getfield 28, 3) := by decide +kernel
theorem dX7_readsNext_4 : decode cX7_readsNext 4 = .ok (.iconst 3, 1) := by decide +kernel
theorem dX7_readsNext_5 : decode cX7_readsNext 5 = .ok (.if_icmp .ge 27, 3) := by decide +kernel
theorem dX7_readsNext_8 : decode cX7_readsNext 8 = .ok (.aload_n 0, 1) := by decide +kernel
theorem dX7_readsNext_9 : decode cX7_readsNext 9 = .ok (.getfield 24, 3) := by decide +kernel
theorem dX7_readsNext_12 : decode cX7_readsNext 12 = .ok (.aload_n 0, 1) := by decide +kernel
theorem dX7_readsNext_13 : decode cX7_readsNext 13 = .ok (.getfield 28, 3) := by decide +kernel
theorem dX7_readsNext_16 : decode cX7_readsNext 16 = .ok (.iconst 1, 1) := by decide +kernel
theorem dX7_readsNext_17 : decode cX7_readsNext 17 = .ok (.if_icmp .ne 7, 3) := by decide +kernel
theorem dX7_readsNext_20 : decode cX7_readsNext 20 = .ok (.iconst 1, 1) := by decide +kernel
theorem dX7_readsNext_21 : decode cX7_readsNext 21 = .ok (.goto 4, 3) := by decide +kernel
theorem dX7_readsNext_24 : decode cX7_readsNext 24 = .ok (.iconst 0, 1) := by decide +kernel
theorem dX7_readsNext_25 : decode cX7_readsNext 25 = .ok (.if_icmp .ne 7, 3) := by decide +kernel
theorem dX7_readsNext_28 : decode cX7_readsNext 28 = .ok (.iconst 1, 1) := by decide +kernel
theorem dX7_readsNext_29 : decode cX7_readsNext 29 = .ok (.goto 4, 3) := by decide +kernel
theorem dX7_readsNext_32 : decode cX7_readsNext 32 = .ok (.iconst 0, 1) := by decide +kernel
theorem dX7_readsNext_33 : decode cX7_readsNext 33 = .ok (.ireturn, 1) := by decide +kernel
theorem dX7_writeMessage_0 : decode cX7_writeMessage 0 = .ok (.iconst 0, 1) := by decide +kernel
theorem dX7_writeMessage_1 : decode cX7_writeMessage 1 = .ok (.istore 4, 2) := by decide +kernel
theorem dX7_writeMessage_3 : decode cX7_writeMessage 3 = .ok (.aload_n 0, 1) := by decide +kernel
theorem dX7_writeMessage_4 : decode cX7_writeMessage 4 = .ok (.getfield 28, 3) := by decide +kernel
theorem dX7_writeMessage_7 : decode cX7_writeMessage 7 = .ok (.iconst 2, 1) := by decide +kernel
theorem dX7_writeMessage_8 : decode cX7_writeMessage 8 = .ok (.if_icmp .eq 37, 3) := by decide +kernel
theorem dX7_writeMessage_11 : decode cX7_writeMessage 11 = .ok (.aload_n 0, 1) := by decide +kernel
theorem dX7_writeMessage_12 : decode cX7_writeMessage 12 = .ok (.getfield 41, 3) := by decide +kernel
theorem dX7_writeMessage_15 : decode cX7_writeMessage 15 = .ok (.aload_n 0, 1) := by decide +kernel
theorem dX7_writeMessage_16 : decode cX7_writeMessage 16 = .ok (.getfield 15, 3) := by decide +kernel
theorem dX7_writeMessage_19 : decode cX7_writeMessage 19 = .ok (.invokevirtual 86, 3) := by decide +kernel
theorem dX7_writeMessage_22 : decode cX7_writeMessage 22 = .ok (.iconst 0, 1) := by decide +kernel
theorem dX7_writeMessage_23 : decode cX7_writeMessage 23 = .ok (.aload_n 3, 1) := by decide +kernel
theorem dX7_writeMessage_24 : decode cX7_writeMessage 24 = .ok (.iconst 0, 1) := by decide +kernel
theorem dX7_writeMessage_25 : decode cX7_writeMessage 25 = .ok (.bipush 32, 2) := by decide +kernel
theorem dX7_writeMessage_27 : decode cX7_writeMessage 27 = .ok (.invokestatic 70, 3) := by decide +kernel
theorem dX7_writeMessage_30 : decode cX7_writeMessage 30 = .ok (.aload_n 0, 1) := by decide +kernel
theorem dX7_writeMessage_31 : decode cX7_writeMessage 31 = .ok (.getfield 47, 3) := by decide +kernel
theorem dX7_writeMessage_34 : decode cX7_writeMessage 34 = .ok (.aload_n 3, 1) := by decide +kernel
theorem dX7_writeMessage_35 : decode cX7_writeMessage 35 = .ok (.iconst 0, 1) := by decide +kernel
theorem dX7_writeMessage_36 : decode cX7_writeMessage 36 = .ok (.bipush 32, 2) := by decide +kernel
theorem dX7_writeMessage_38 : decode cX7_writeMessage 38 = .ok (.invokevirtual 82, 3) := by decide +kernel
theorem dX7_writeMessage_41 : decode cX7_writeMessage 41 = .ok (.bipush 32, 2) := by decide +kernel
theorem dX7_writeMessage_43 : decode cX7_writeMessage 43 = .ok (.istore 4, 2) := by decide +kernel
theorem dX7_writeMessage_45 : decode cX7_writeMessage 45 = .ok (.aload_n 0, 1) := by decide +kernel
theorem dX7_writeMessage_46 : decode cX7_writeMessage 46 = .ok (.getfield 28, 3) := by decide +kernel
theorem dX7_writeMessage_49 : decode cX7_writeMessage 49 = .ok (.iconst 1, 1) := by decide +kernel
theorem dX7_writeMessage_50 : decode cX7_writeMessage 50 = .ok (.if_icmp .ne 25, 3) := by decide +kernel
theorem dX7_writeMessage_53 : decode cX7_writeMessage 53 = .ok (.aload_n 0, 1) := by decide +kernel
theorem dX7_writeMessage_54 : decode cX7_writeMessage 54 = .ok (.getfield 47, 3) := by decide +kernel
theorem dX7_writeMessage_57 : decode cX7_writeMessage 57 = .ok (.aload_n 0, 1) := by decide +kernel
theorem dX7_writeMessage_58 : decode cX7_writeMessage 58 = .ok (.getfield 41, 3) := by decide +kernel
theorem dX7_writeMessage_61 : decode cX7_writeMessage 61 = .ok (.aload_n 0, 1) := by decide +kernel
theorem dX7_writeMessage_62 : decode cX7_writeMessage 62 = .ok (.getfield 15, 3) := by decide +kernel
theorem dX7_writeMessage_65 : decode cX7_writeMessage 65 = .ok (.aload_n 0, 1) := by decide +kernel
theorem dX7_writeMessage_66 : decode cX7_writeMessage 66 = .ok (.getfield 21, 3) := by decide +kernel
theorem dX7_writeMessage_69 : decode cX7_writeMessage 69 = .ok (.invokevirtual 92, 3) := by decide +kernel
theorem dX7_writeMessage_72 : decode cX7_writeMessage 72 = .ok (.invokevirtual 96, 3) := by decide +kernel
theorem dX7_writeMessage_75 : decode cX7_writeMessage 75 = .ok (.aload_n 0, 1) := by decide +kernel
theorem dX7_writeMessage_76 : decode cX7_writeMessage 76 = .ok (.getfield 28, 3) := by decide +kernel
theorem dX7_writeMessage_79 : decode cX7_writeMessage 79 = .ok (.ifCond .eq 54, 3) := by decide +kernel
theorem dX7_writeMessage_82 : decode cX7_writeMessage 82 = .ok (.iload 4, 2) := by decide +kernel
theorem dX7_writeMessage_84 : decode cX7_writeMessage 84 = .ok (.aload_n 0, 1) := by decide +kernel
theorem dX7_writeMessage_85 : decode cX7_writeMessage 85 = .ok (.getfield 47, 3) := by decide +kernel
theorem dX7_writeMessage_88 : decode cX7_writeMessage 88 = .ok (.aload_n 0, 1) := by decide +kernel
theorem dX7_writeMessage_89 : decode cX7_writeMessage 89 = .ok (.getfield 41, 3) := by decide +kernel
theorem dX7_writeMessage_92 : decode cX7_writeMessage 92 = .ok (.aload_n 0, 1) := by decide +kernel
theorem dX7_writeMessage_93 : decode cX7_writeMessage 93 = .ok (.getfield 9, 3) := by decide +kernel
theorem dX7_writeMessage_96 : decode cX7_writeMessage 96 = .ok (.invokevirtual 86, 3) := by decide +kernel
theorem dX7_writeMessage_99 : decode cX7_writeMessage 99 = .ok (.iconst 0, 1) := by decide +kernel
theorem dX7_writeMessage_100 : decode cX7_writeMessage 100 = .ok (.bipush 32, 2) := by decide +kernel
theorem dX7_writeMessage_102 : decode cX7_writeMessage 102 = .ok (.aload_n 3, 1) := by decide +kernel
theorem dX7_writeMessage_103 : decode cX7_writeMessage 103 = .ok (.iload 4, 2) := by decide +kernel
theorem dX7_writeMessage_105 : decode cX7_writeMessage 105 = .ok (.invokevirtual 100, 3) := by decide +kernel
theorem dX7_writeMessage_108 : decode cX7_writeMessage 108 = .ok (.iadd, 1) := by decide +kernel
theorem dX7_writeMessage_109 : decode cX7_writeMessage 109 = .ok (.istore 4, 2) := by decide +kernel
theorem dX7_writeMessage_111 : decode cX7_writeMessage 111 = .ok (.aload_n 0, 1) := by decide +kernel
theorem dX7_writeMessage_112 : decode cX7_writeMessage 112 = .ok (.getfield 47, 3) := by decide +kernel
theorem dX7_writeMessage_115 : decode cX7_writeMessage 115 = .ok (.aload_n 0, 1) := by decide +kernel
theorem dX7_writeMessage_116 : decode cX7_writeMessage 116 = .ok (.getfield 41, 3) := by decide +kernel
theorem dX7_writeMessage_119 : decode cX7_writeMessage 119 = .ok (.aload_n 0, 1) := by decide +kernel
theorem dX7_writeMessage_120 : decode cX7_writeMessage 120 = .ok (.getfield 9, 3) := by decide +kernel
theorem dX7_writeMessage_123 : decode cX7_writeMessage 123 = .ok (.aload_n 0, 1) := by decide +kernel
theorem dX7_writeMessage_124 : decode cX7_writeMessage 124 = .ok (.getfield 21, 3) := by decide +kernel
theorem dX7_writeMessage_127 : decode cX7_writeMessage 127 = .ok (.invokevirtual 92, 3) := by decide +kernel
theorem dX7_writeMessage_130 : decode cX7_writeMessage 130 = .ok (.invokevirtual 96, 3) := by decide +kernel
theorem dX7_writeMessage_133 : decode cX7_writeMessage 133 = .ok (.iload 4, 2) := by decide +kernel
theorem dX7_writeMessage_135 : decode cX7_writeMessage 135 = .ok (.aload_n 0, 1) := by decide +kernel
theorem dX7_writeMessage_136 : decode cX7_writeMessage 136 = .ok (.getfield 47, 3) := by decide +kernel
theorem dX7_writeMessage_139 : decode cX7_writeMessage 139 = .ok (.aload_n 1, 1) := by decide +kernel
theorem dX7_writeMessage_140 : decode cX7_writeMessage 140 = .ok (.iconst 0, 1) := by decide +kernel
theorem dX7_writeMessage_141 : decode cX7_writeMessage 141 = .ok (.iload_n 2, 1) := by decide +kernel
theorem dX7_writeMessage_142 : decode cX7_writeMessage 142 = .ok (.aload_n 3, 1) := by decide +kernel
theorem dX7_writeMessage_143 : decode cX7_writeMessage 143 = .ok (.iload 4, 2) := by decide +kernel
theorem dX7_writeMessage_145 : decode cX7_writeMessage 145 = .ok (.invokevirtual 100, 3) := by decide +kernel
theorem dX7_writeMessage_148 : decode cX7_writeMessage 148 = .ok (.iadd, 1) := by decide +kernel
theorem dX7_writeMessage_149 : decode cX7_writeMessage 149 = .ok (.istore 4, 2) := by decide +kernel
theorem dX7_writeMessage_151 : decode cX7_writeMessage 151 = .ok (.aload_n 0, 1) := by decide +kernel
theorem dX7_writeMessage_152 : decode cX7_writeMessage 152 = .ok (.dup, 1) := by decide +kernel
theorem dX7_writeMessage_153 : decode cX7_writeMessage 153 = .ok (.getfield 28, 3) := by decide +kernel
theorem dX7_writeMessage_156 : decode cX7_writeMessage 156 = .ok (.iconst 1, 1) := by decide +kernel
theorem dX7_writeMessage_157 : decode cX7_writeMessage 157 = .ok (.iadd, 1) := by decide +kernel
theorem dX7_writeMessage_158 : decode cX7_writeMessage 158 = .ok (.putfield 28, 3) := by decide +kernel
theorem dX7_writeMessage_161 : decode cX7_writeMessage 161 = .ok (.aload_n 0, 1) := by decide +kernel
theorem dX7_writeMessage_162 : decode cX7_writeMessage 162 = .ok (.getfield 28, 3) := by decide +kernel
theorem dX7_writeMessage_165 : decode cX7_writeMessage 165 = .ok (.iconst 3, 1) := by decide +kernel
theorem dX7_writeMessage_166 : decode cX7_writeMessage 166 = .ok (.if_icmp .ne 18, 3) := by decide +kernel
theorem dX7_writeMessage_169 : decode cX7_writeMessage 169 = .ok (.aload_n 0, 1) := by decide +kernel
theorem dX7_writeMessage_170 : decode cX7_writeMessage 170 = .ok (.getfield 47, 3) := by decide +kernel
theorem dX7_writeMessage_173 : decode cX7_writeMessage 173 = .ok (.aload_n 0, 1) := by decide +kernel
theorem dX7_writeMessage_174 : decode cX7_writeMessage 174 = .ok (.getfield 63, 3) := by decide +kernel
theorem dX7_writeMessage_177 : decode cX7_writeMessage 177 = .ok (.aload_n 0, 1) := by decide +kernel
theorem dX7_writeMessage_178 : decode cX7_writeMessage 178 = .ok (.getfield 67, 3) := by decide +kernel
theorem dX7_writeMessage_181 : decode cX7_writeMessage 181 = .ok (.invokevirtual 104, 3) := by decide +kernel
theorem dX7_writeMessage_184 : decode cX7_writeMessage 184 = .ok (.iload 4, 2) := by decide +kernel
theorem dX7_writeMessage_186 : decode cX7_writeMessage 186 = .ok (.ireturn, 1) := by decide +kernel
theorem dX7_readMessage_0 : decode cX7_readMessage 0 = .ok (.aload_n 0, 1) := by decide +kernel
theorem dX7_readMessage_1 : decode cX7_readMessage 1 = .ok (.getfield 28, 3) := by decide +kernel
theorem dX7_readMessage_4 : decode cX7_readMessage 4 = .ok (.ifCond .lt 23, 3) := by decide +kernel
theorem dX7_readMessage_7 : decode cX7_readMessage 7 = .ok (.aload_n 0, 1) := by decide +kernel
theorem dX7_readMessage_8 : decode cX7_readMessage 8 = .ok (.getfield 28, 3) := by decide +kernel
theorem dX7_readMessage_11 : decode cX7_readMessage 11 = .ok (.iconst 3, 1) := by decide +kernel
theorem dX7_readMessage_12 : decode cX7_readMessage 12 = .ok (.if_icmp .ge 15, 3) := by decide +kernel
theorem dX7_readMessage_15 : decode cX7_readMessage 15 = .ok (.iload_n 2, 1) := by decide +kernel
theorem dX7_readMessage_16 : decode cX7_readMessage 16 = .ok (.getstatic 108, 3) := by decide +kernel
theorem dX7_readMessage_19 : decode cX7_readMessage 19 = .ok (.aload_n 0, 1) := by decide +kernel
theorem dX7_readMessage_20 : decode cX7_readMessage 20 = .ok (.getfield 28, 3) := by decide +kernel
theorem dX7_readMessage_23 : decode cX7_readMessage 23 = .ok (.iaload, 1) := by decide +kernel
theorem dX7_readMessage_24 : decode cX7_readMessage 24 = .ok (.if_icmp .ge 15, 3) := by decide +kernel
theorem dX7_readMessage_27 : decode cX7_readMessage 27 = .ok (.aload_n 0, 1) := by decide +kernel
theorem dX7_readMessage_28 : decode cX7_readMessage 28 = .ok (.dup, 1) := by decide +kernel
theorem dX7_readMessage_29 : decode cX7_readMessage 29 = .ok (.getfield 32, 3) := by decide +kernel
theorem dX7_readMessage_32 : decode cX7_readMessage 32 = .ok (.iconst 1, 1) := by decide +kernel
theorem dX7_readMessage_33 : decode cX7_readMessage 33 = .ok (.iadd, 1) := by decide +kernel
theorem dX7_readMessage_34 : decode cX7_readMessage 34 = .ok (.putfield 32, 3) := by decide +kernel
theorem dX7_readMessage_37 : decode cX7_readMessage 37 = .ok (.iconst (-1), 1) := by decide +kernel
theorem dX7_readMessage_38 : decode cX7_readMessage 38 = .ok (.ireturn, 1) := by decide +kernel
theorem dX7_readMessage_39 : decode cX7_readMessage 39 = .ok (.aload_n 0, 1) := by decide +kernel
theorem dX7_readMessage_40 : decode cX7_readMessage 40 = .ok (.getfield 51, 3) := by decide +kernel
theorem dX7_readMessage_43 : decode cX7_readMessage 43 = .ok (.aload_n 0, 1) := by decide +kernel
theorem dX7_readMessage_44 : decode cX7_readMessage 44 = .ok (.getfield 47, 3) := by decide +kernel
theorem dX7_readMessage_47 : decode cX7_readMessage 47 = .ok (.invokevirtual 112, 3) := by decide +kernel
theorem dX7_readMessage_50 : decode cX7_readMessage 50 = .ok (.iconst 0, 1) := by decide +kernel
theorem dX7_readMessage_51 : decode cX7_readMessage 51 = .ok (.istore 4, 2) := by decide +kernel
theorem dX7_readMessage_53 : decode cX7_readMessage 53 = .ok (.aload_n 0, 1) := by decide +kernel
theorem dX7_readMessage_54 : decode cX7_readMessage 54 = .ok (.getfield 28, 3) := by decide +kernel
theorem dX7_readMessage_57 : decode cX7_readMessage 57 = .ok (.iconst 2, 1) := by decide +kernel
theorem dX7_readMessage_58 : decode cX7_readMessage 58 = .ok (.if_icmp .eq 30, 3) := by decide +kernel
theorem dX7_readMessage_61 : decode cX7_readMessage 61 = .ok (.aload_n 1, 1) := by decide +kernel
theorem dX7_readMessage_62 : decode cX7_readMessage 62 = .ok (.iconst 0, 1) := by decide +kernel
theorem dX7_readMessage_63 : decode cX7_readMessage 63 = .ok (.aload_n 0, 1) := by decide +kernel
theorem dX7_readMessage_64 : decode cX7_readMessage 64 = .ok (.getfield 21, 3) := by decide +kernel
theorem dX7_readMessage_67 : decode cX7_readMessage 67 = .ok (.iconst 0, 1) := by decide +kernel
theorem dX7_readMessage_68 : decode cX7_readMessage 68 = .ok (.bipush 32, 2) := by decide +kernel
theorem dX7_readMessage_70 : decode cX7_readMessage 70 = .ok (.invokestatic 70, 3) := by decide +kernel
theorem dX7_readMessage_73 : decode cX7_readMessage 73 = .ok (.aload_n 0, 1) := by decide +kernel
theorem dX7_readMessage_74 : decode cX7_readMessage 74 = .ok (.getfield 47, 3) := by decide +kernel
theorem dX7_readMessage_77 : decode cX7_readMessage 77 = .ok (.aload_n 1, 1) := by decide +kernel
theorem dX7_readMessage_78 : decode cX7_readMessage 78 = .ok (.iconst 0, 1) := by decide +kernel
theorem dX7_readMessage_79 : decode cX7_readMessage 79 = .ok (.bipush 32, 2) := by decide +kernel
theorem dX7_readMessage_81 : decode cX7_readMessage 81 = .ok (.invokevirtual 82, 3) := by decide +kernel
theorem dX7_readMessage_84 : decode cX7_readMessage 84 = .ok (.bipush 32, 2) := by decide +kernel
theorem dX7_readMessage_86 : decode cX7_readMessage 86 = .ok (.istore 4, 2) := by decide +kernel
theorem dX7_readMessage_88 : decode cX7_readMessage 88 = .ok (.aload_n 0, 1) := by decide +kernel
theorem dX7_readMessage_89 : decode cX7_readMessage 89 = .ok (.getfield 28, 3) := by decide +kernel
theorem dX7_readMessage_92 : decode cX7_readMessage 92 = .ok (.iconst 1, 1) := by decide +kernel
theorem dX7_readMessage_93 : decode cX7_readMessage 93 = .ok (.if_icmp .ne 25, 3) := by decide +kernel
theorem dX7_readMessage_96 : decode cX7_readMessage 96 = .ok (.aload_n 0, 1) := by decide +kernel
theorem dX7_readMessage_97 : decode cX7_readMessage 97 = .ok (.getfield 47, 3) := by decide +kernel
theorem dX7_readMessage_100 : decode cX7_readMessage 100 = .ok (.aload_n 0, 1) := by decide +kernel
theorem dX7_readMessage_101 : decode cX7_readMessage 101 = .ok (.getfield 41, 3) := by decide +kernel
theorem dX7_readMessage_104 : decode cX7_readMessage 104 = .ok (.aload_n 0, 1) := by decide +kernel
theorem dX7_readMessage_105 : decode cX7_readMessage 105 = .ok (.getfield 15, 3) := by decide +kernel
theorem dX7_readMessage_108 : decode cX7_readMessage 108 = .ok (.aload_n 0, 1) := by decide +kernel
theorem dX7_readMessage_109 : decode cX7_readMessage 109 = .ok (.getfield 21, 3) := by decide +kernel
theorem dX7_readMessage_112 : decode cX7_readMessage 112 = .ok (.invokevirtual 92, 3) := by decide +kernel
theorem dX7_readMessage_115 : decode cX7_readMessage 115 = .ok (.invokevirtual 96, 3) := by decide +kernel
theorem dX7_readMessage_118 : decode cX7_readMessage 118 = .ok (.aload_n 0, 1) := by decide +kernel
theorem dX7_readMessage_119 : decode cX7_readMessage 119 = .ok (.getfield 28, 3) := by decide +kernel
theorem dX7_readMessage_122 : decode cX7_readMessage 122 = .ok (.ifCond .eq 54, 3) := by decide +kernel
theorem dX7_readMessage_125 : decode cX7_readMessage 125 = .ok (.aload_n 0, 1) := by decide +kernel
theorem dX7_readMessage_126 : decode cX7_readMessage 126 = .ok (.getfield 47, 3) := by decide +kernel
theorem dX7_readMessage_129 : decode cX7_readMessage 129 = .ok (.aload_n 1, 1) := by decide +kernel
theorem dX7_readMessage_130 : decode cX7_readMessage 130 = .ok (.iload 4, 2) := by decide +kernel
theorem dX7_readMessage_132 : decode cX7_readMessage 132 = .ok (.bipush 48, 2) := by decide +kernel
theorem dX7_readMessage_134 : decode cX7_readMessage 134 = .ok (.aload_n 0, 1) := by decide +kernel
theorem dX7_readMessage_135 : decode cX7_readMessage 135 = .ok (.getfield 18, 3) := by decide +kernel
theorem dX7_readMessage_138 : decode cX7_readMessage 138 = .ok (.iconst 0, 1) := by decide +kernel
theorem dX7_readMessage_139 : decode cX7_readMessage 139 = .ok (.invokevirtual 116, 3) := by decide +kernel
theorem dX7_readMessage_142 : decode cX7_readMessage 142 = .ok (.iconst (-1), 1) := by decide +kernel
theorem dX7_readMessage_143 : decode cX7_readMessage 143 = .ok (.if_icmp .ne 8, 3) := by decide +kernel
theorem dX7_readMessage_146 : decode cX7_readMessage 146 = .ok (.aload_n 0, 1) := by decide +kernel
theorem dX7_readMessage_147 : decode cX7_readMessage 147 = .ok (.invokevirtual 119, 3) := by decide +kernel
theorem dX7_readMessage_150 : decode cX7_readMessage 150 = .ok (.ireturn, 1) := by decide +kernel
theorem dX7_readMessage_151 : decode cX7_readMessage 151 = .ok (.aload_n 0, 1) := by decide +kernel
theorem dX7_readMessage_152 : decode cX7_readMessage 152 = .ok (.getfield 47, 3) := by decide +kernel
theorem dX7_readMessage_155 : decode cX7_readMessage 155 = .ok (.aload_n 0, 1) := by decide +kernel
theorem dX7_readMessage_156 : decode cX7_readMessage 156 = .ok (.getfield 41, 3) := by decide +kernel
theorem dX7_readMessage_159 : decode cX7_readMessage 159 = .ok (.aload_n 0, 1) := by decide +kernel
theorem dX7_readMessage_160 : decode cX7_readMessage 160 = .ok (.getfield 15, 3) := by decide +kernel
theorem dX7_readMessage_163 : decode cX7_readMessage 163 = .ok (.aload_n 0, 1) := by decide +kernel
theorem dX7_readMessage_164 : decode cX7_readMessage 164 = .ok (.getfield 18, 3) := by decide +kernel
theorem dX7_readMessage_167 : decode cX7_readMessage 167 = .ok (.invokevirtual 92, 3) := by decide +kernel
theorem dX7_readMessage_170 : decode cX7_readMessage 170 = .ok (.invokevirtual 96, 3) := by decide +kernel
theorem dX7_readMessage_173 : decode cX7_readMessage 173 = .ok (.iinc 4 48, 3) := by decide +kernel
theorem dX7_readMessage_176 : decode cX7_readMessage 176 = .ok (.aload_n 0, 1) := by decide +kernel
theorem dX7_readMessage_177 : decode cX7_readMessage 177 = .ok (.getfield 47, 3) := by decide +kernel
theorem dX7_readMessage_180 : decode cX7_readMessage 180 = .ok (.aload_n 1, 1) := by decide +kernel
theorem dX7_readMessage_181 : decode cX7_readMessage 181 = .ok (.iload 4, 2) := by decide +kernel
theorem dX7_readMessage_183 : decode cX7_readMessage 183 = .ok (.iload_n 2, 1) := by decide +kernel
theorem dX7_readMessage_184 : decode cX7_readMessage 184 = .ok (.iload 4, 2) := by decide +kernel
theorem dX7_readMessage_186 : decode cX7_readMessage 186 = .ok (.isub, 1) := by decide +kernel
theorem dX7_readMessage_187 : decode cX7_readMessage 187 = .ok (.aload_n 3, 1) := by decide +kernel
theorem dX7_readMessage_188 : decode cX7_readMessage 188 = .ok (.iconst 0, 1) := by decide +kernel
theorem dX7_readMessage_189 : decode cX7_readMessage 189 = .ok (.invokevirtual 116, 3) := by decide +kernel
theorem dX7_readMessage_192 : decode cX7_readMessage 192 = .ok (.istore 5, 2) := by decide +kernel
theorem dX7_readMessage_194 : decode cX7_readMessage 194 = .ok (.iload 5, 2) := by decide +kernel
theorem dX7_readMessage_196 : decode cX7_readMessage 196 = .ok (.iconst (-1), 1) := by decide +kernel
theorem dX7_readMessage_197 : decode cX7_readMessage 197 = .ok (.if_icmp .ne 8, 3) := by decide +kernel
theorem dX7_readMessage_200 : decode cX7_readMessage 200 = .ok (.aload_n 0, 1) := by decide +kernel
theorem dX7_readMessage_201 : decode cX7_readMessage 201 = .ok (.invokevirtual 119, 3) := by decide +kernel
theorem dX7_readMessage_204 : decode cX7_readMessage 204 = .ok (.ireturn, 1) := by decide +kernel
theorem dX7_readMessage_205 : decode cX7_readMessage 205 = .ok (.aload_n 0, 1) := by decide +kernel
theorem dX7_readMessage_206 : decode cX7_readMessage 206 = .ok (.dup, 1) := by decide +kernel
theorem dX7_readMessage_207 : decode cX7_readMessage 207 = .ok (.getfield 28, 3) := by decide +kernel
theorem dX7_readMessage_210 : decode cX7_readMessage 210 = .ok (.iconst 1, 1) := by decide +kernel
theorem dX7_readMessage_211 : decode cX7_readMessage 211 = .ok (.iadd, 1) := by decide +kernel
theorem dX7_readMessage_212 : decode cX7_readMessage 212 = .ok (.putfield 28, 3) := by decide +kernel
theorem dX7_readMessage_215 : decode cX7_readMessage 215 = .ok (.aload_n 0, 1) := by decide +kernel
theorem dX7_readMessage_216 : decode cX7_readMessage 216 = .ok (.getfield 28, 3) := by decide +kernel
theorem dX7_readMessage_219 : decode cX7_readMessage 219 = .ok (.iconst 3, 1) := by decide +kernel
theorem dX7_readMessage_220 : decode cX7_readMessage 220 = .ok (.if_icmp .ne 18, 3) := by decide +kernel
theorem dX7_readMessage_223 : decode cX7_readMessage 223 = .ok (.aload_n 0, 1) := by decide +kernel
theorem dX7_readMessage_224 : decode cX7_readMessage 224 = .ok (.getfield 47, 3) := by decide +kernel
theorem dX7_readMessage_227 : decode cX7_readMessage 227 = .ok (.aload_n 0, 1) := by decide +kernel
theorem dX7_readMessage_228 : decode cX7_readMessage 228 = .ok (.getfield 67, 3) := by decide +kernel
theorem dX7_readMessage_231 : decode cX7_readMessage 231 = .ok (.aload_n 0, 1) := by decide +kernel
theorem dX7_readMessage_232 : decode cX7_readMessage 232 = .ok (.getfield 63, 3) := by decide +kernel
theorem dX7_readMessage_235 : decode cX7_readMessage 235 = .ok (.invokevirtual 104, 3) := by decide +kernel
theorem dX7_readMessage_238 : decode cX7_readMessage 238 = .ok (.iload 5, 2) := by decide +kernel
theorem dX7_readMessage_240 : decode cX7_readMessage 240 = .ok (.ireturn, 1) := by decide +kernel
theorem dX7_refuse_0 : decode cX7_refuse 0 = .ok (.aload_n 0, 1) := by decide +kernel
theorem dX7_refuse_1 : decode cX7_refuse 1 = .ok (.getfield 47, 3) := by decide +kernel
theorem dX7_refuse_4 : decode cX7_refuse 4 = .ok (.aload_n 0, 1) := by decide +kernel
theorem dX7_refuse_5 : decode cX7_refuse 5 = .ok (.getfield 51, 3) := by decide +kernel
theorem dX7_refuse_8 : decode cX7_refuse 8 = .ok (.invokevirtual 112, 3) := by decide +kernel
theorem dX7_refuse_11 : decode cX7_refuse 11 = .ok (.aload_n 0, 1) := by decide +kernel
theorem dX7_refuse_12 : decode cX7_refuse 12 = .ok (.dup, 1) := by decide +kernel
theorem dX7_refuse_13 : decode cX7_refuse 13 = .ok (.getfield 32, 3) := by decide +kernel
theorem dX7_refuse_16 : decode cX7_refuse 16 = .ok (.iconst 1, 1) := by decide +kernel
theorem dX7_refuse_17 : decode cX7_refuse 17 = .ok (.iadd, 1) := by decide +kernel
theorem dX7_refuse_18 : decode cX7_refuse 18 = .ok (.putfield 32, 3) := by decide +kernel
theorem dX7_refuse_21 : decode cX7_refuse 21 = .ok (.iconst (-1), 1) := by decide +kernel
theorem dX7_refuse_22 : decode cX7_refuse 22 = .ok (.ireturn, 1) := by decide +kernel
theorem dX7_sendMessage_0 : decode cX7_sendMessage 0 = .ok (.aload_n 0, 1) := by decide +kernel
theorem dX7_sendMessage_1 : decode cX7_sendMessage 1 = .ok (.getfield 63, 3) := by decide +kernel
theorem dX7_sendMessage_4 : decode cX7_sendMessage 4 = .ok (.getstatic 123, 3) := by decide +kernel
theorem dX7_sendMessage_7 : decode cX7_sendMessage 7 = .ok (.aload_n 1, 1) := by decide +kernel
theorem dX7_sendMessage_8 : decode cX7_sendMessage 8 = .ok (.iconst 0, 1) := by decide +kernel
theorem dX7_sendMessage_9 : decode cX7_sendMessage 9 = .ok (.iload_n 2, 1) := by decide +kernel
theorem dX7_sendMessage_10 : decode cX7_sendMessage 10 = .ok (.aload_n 3, 1) := by decide +kernel
theorem dX7_sendMessage_11 : decode cX7_sendMessage 11 = .ok (.iconst 0, 1) := by decide +kernel
theorem dX7_sendMessage_12 : decode cX7_sendMessage 12 = .ok (.invokevirtual 126, 3) := by decide +kernel
theorem dX7_sendMessage_15 : decode cX7_sendMessage 15 = .ok (.ireturn, 1) := by decide +kernel
theorem dX7_receiveMessage_0 : decode cX7_receiveMessage 0 = .ok (.aload_n 0, 1) := by decide +kernel
theorem dX7_receiveMessage_1 : decode cX7_receiveMessage 1 = .ok (.getfield 67, 3) := by decide +kernel
theorem dX7_receiveMessage_4 : decode cX7_receiveMessage 4 = .ok (.getstatic 123, 3) := by decide +kernel
theorem dX7_receiveMessage_7 : decode cX7_receiveMessage 7 = .ok (.aload_n 1, 1) := by decide +kernel
theorem dX7_receiveMessage_8 : decode cX7_receiveMessage 8 = .ok (.iconst 0, 1) := by decide +kernel
theorem dX7_receiveMessage_9 : decode cX7_receiveMessage 9 = .ok (.iload_n 2, 1) := by decide +kernel
theorem dX7_receiveMessage_10 : decode cX7_receiveMessage 10 = .ok (.aload_n 3, 1) := by decide +kernel
theorem dX7_receiveMessage_11 : decode cX7_receiveMessage 11 = .ok (.iconst 0, 1) := by decide +kernel
theorem dX7_receiveMessage_12 : decode cX7_receiveMessage 12 = .ok (.invokevirtual 130, 3) := by decide +kernel
theorem dX7_receiveMessage_15 : decode cX7_receiveMessage 15 = .ok (.istore 4, 2) := by decide +kernel
theorem dX7_receiveMessage_17 : decode cX7_receiveMessage 17 = .ok (.iload 4, 2) := by decide +kernel
theorem dX7_receiveMessage_19 : decode cX7_receiveMessage 19 = .ok (.iconst (-1), 1) := by decide +kernel
theorem dX7_receiveMessage_20 : decode cX7_receiveMessage 20 = .ok (.if_icmp .ne 13, 3) := by decide +kernel
theorem dX7_receiveMessage_23 : decode cX7_receiveMessage 23 = .ok (.aload_n 0, 1) := by decide +kernel
theorem dX7_receiveMessage_24 : decode cX7_receiveMessage 24 = .ok (.dup, 1) := by decide +kernel
theorem dX7_receiveMessage_25 : decode cX7_receiveMessage 25 = .ok (.getfield 32, 3) := by decide +kernel
theorem dX7_receiveMessage_28 : decode cX7_receiveMessage 28 = .ok (.iconst 1, 1) := by decide +kernel
theorem dX7_receiveMessage_29 : decode cX7_receiveMessage 29 = .ok (.iadd, 1) := by decide +kernel
theorem dX7_receiveMessage_30 : decode cX7_receiveMessage 30 = .ok (.putfield 32, 3) := by decide +kernel
theorem dX7_receiveMessage_33 : decode cX7_receiveMessage 33 = .ok (.iload 4, 2) := by decide +kernel
theorem dX7_receiveMessage_35 : decode cX7_receiveMessage 35 = .ok (.ireturn, 1) := by decide +kernel
theorem dX7_renewKey_0 : decode cX7_renewKey 0 = .ok (.iload_n 1, 1) := by decide +kernel
theorem dX7_renewKey_1 : decode cX7_renewKey 1 = .ok (.ifCond .eq 13, 3) := by decide +kernel
theorem dX7_renewKey_4 : decode cX7_renewKey 4 = .ok (.aload_n 0, 1) := by decide +kernel
theorem dX7_renewKey_5 : decode cX7_renewKey 5 = .ok (.getfield 63, 3) := by decide +kernel
theorem dX7_renewKey_8 : decode cX7_renewKey 8 = .ok (.invokevirtual 133, 3) := by decide +kernel
theorem dX7_renewKey_11 : decode cX7_renewKey 11 = .ok (.goto 10, 3) := by decide +kernel
theorem dX7_renewKey_14 : decode cX7_renewKey 14 = .ok (.aload_n 0, 1) := by decide +kernel
theorem dX7_renewKey_15 : decode cX7_renewKey 15 = .ok (.getfield 67, 3) := by decide +kernel
theorem dX7_renewKey_18 : decode cX7_renewKey 18 = .ok (.invokevirtual 133, 3) := by decide +kernel
theorem dX7_renewKey_21 : decode cX7_renewKey 21 = .ok (.return_, 1) := by decide +kernel
theorem dX7_figure_0 : decode cX7_figure 0 = .ok (.iload_n 1, 1) := by decide +kernel
theorem dX7_figure_1 : decode cX7_figure 1 = .ok (.tableswitch 91 0 5 #[39, 44, 57, 70, 78, 86], 39) := by decide +kernel
theorem dX7_figure_40 : decode cX7_figure 40 = .ok (.aload_n 0, 1) := by decide +kernel
theorem dX7_figure_41 : decode cX7_figure 41 = .ok (.getfield 28, 3) := by decide +kernel
theorem dX7_figure_44 : decode cX7_figure 44 = .ok (.ireturn, 1) := by decide +kernel
theorem dX7_figure_45 : decode cX7_figure 45 = .ok (.aload_n 0, 1) := by decide +kernel
theorem dX7_figure_46 : decode cX7_figure 46 = .ok (.getfield 24, 3) := by decide +kernel
theorem dX7_figure_49 : decode cX7_figure 49 = .ok (.ifCond .eq 7, 3) := by decide +kernel
theorem dX7_figure_52 : decode cX7_figure 52 = .ok (.iconst 1, 1) := by decide +kernel
theorem dX7_figure_53 : decode cX7_figure 53 = .ok (.goto 4, 3) := by decide +kernel
theorem dX7_figure_56 : decode cX7_figure 56 = .ok (.iconst 0, 1) := by decide +kernel
theorem dX7_figure_57 : decode cX7_figure 57 = .ok (.ireturn, 1) := by decide +kernel
theorem dX7_figure_58 : decode cX7_figure 58 = .ok (.aload_n 0, 1) := by decide +kernel
theorem dX7_figure_59 : decode cX7_figure 59 = .ok (.invokevirtual 136, 3) := by decide +kernel
theorem dX7_figure_62 : decode cX7_figure 62 = .ok (.ifCond .eq 7, 3) := by decide +kernel
theorem dX7_figure_65 : decode cX7_figure 65 = .ok (.iconst 1, 1) := by decide +kernel
theorem dX7_figure_66 : decode cX7_figure 66 = .ok (.goto 4, 3) := by decide +kernel
theorem dX7_figure_69 : decode cX7_figure 69 = .ok (.iconst 0, 1) := by decide +kernel
theorem dX7_figure_70 : decode cX7_figure 70 = .ok (.ireturn, 1) := by decide +kernel
theorem dX7_figure_71 : decode cX7_figure 71 = .ok (.aload_n 0, 1) := by decide +kernel
theorem dX7_figure_72 : decode cX7_figure 72 = .ok (.getfield 63, 3) := by decide +kernel
theorem dX7_figure_75 : decode cX7_figure 75 = .ok (.invokevirtual 140, 3) := by decide +kernel
theorem dX7_figure_78 : decode cX7_figure 78 = .ok (.ireturn, 1) := by decide +kernel
theorem dX7_figure_79 : decode cX7_figure 79 = .ok (.aload_n 0, 1) := by decide +kernel
theorem dX7_figure_80 : decode cX7_figure 80 = .ok (.getfield 67, 3) := by decide +kernel
theorem dX7_figure_83 : decode cX7_figure 83 = .ok (.invokevirtual 140, 3) := by decide +kernel
theorem dX7_figure_86 : decode cX7_figure 86 = .ok (.ireturn, 1) := by decide +kernel
theorem dX7_figure_87 : decode cX7_figure 87 = .ok (.aload_n 0, 1) := by decide +kernel
theorem dX7_figure_88 : decode cX7_figure 88 = .ok (.getfield 32, 3) := by decide +kernel
theorem dX7_figure_91 : decode cX7_figure 91 = .ok (.ireturn, 1) := by decide +kernel
theorem dX7_figure_92 : decode cX7_figure 92 = .ok (.iconst (-1), 1) := by decide +kernel
theorem dX7_figure_93 : decode cX7_figure 93 = .ok (.ireturn, 1) := by decide +kernel
theorem dX7_knownByte_0 : decode cX7_knownByte 0 = .ok (.iload_n 1, 1) := by decide +kernel
theorem dX7_knownByte_1 : decode cX7_knownByte 1 = .ok (.ifCond .ne 17, 3) := by decide +kernel
theorem dX7_knownByte_4 : decode cX7_knownByte 4 = .ok (.aload_n 0, 1) := by decide +kernel
theorem dX7_knownByte_5 : decode cX7_knownByte 5 = .ok (.getfield 47, 3) := by decide +kernel
theorem dX7_knownByte_8 : decode cX7_knownByte 8 = .ok (.getfield 143, 3) := by decide +kernel
theorem dX7_knownByte_11 : decode cX7_knownByte 11 = .ok (.iload_n 2, 1) := by decide +kernel
theorem dX7_knownByte_12 : decode cX7_knownByte 12 = .ok (.baload, 1) := by decide +kernel
theorem dX7_knownByte_13 : decode cX7_knownByte 13 = .ok (.sipush 255, 3) := by decide +kernel
theorem dX7_knownByte_16 : decode cX7_knownByte 16 = .ok (.iand, 1) := by decide +kernel
theorem dX7_knownByte_17 : decode cX7_knownByte 17 = .ok (.ireturn, 1) := by decide +kernel
theorem dX7_knownByte_18 : decode cX7_knownByte 18 = .ok (.iload_n 1, 1) := by decide +kernel
theorem dX7_knownByte_19 : decode cX7_knownByte 19 = .ok (.iconst 1, 1) := by decide +kernel
theorem dX7_knownByte_20 : decode cX7_knownByte 20 = .ok (.if_icmp .ne 21, 3) := by decide +kernel
theorem dX7_knownByte_23 : decode cX7_knownByte 23 = .ok (.aload_n 0, 1) := by decide +kernel
theorem dX7_knownByte_24 : decode cX7_knownByte 24 = .ok (.invokevirtual 136, 3) := by decide +kernel
theorem dX7_knownByte_27 : decode cX7_knownByte 27 = .ok (.ifCond .eq 14, 3) := by decide +kernel
theorem dX7_knownByte_30 : decode cX7_knownByte 30 = .ok (.aload_n 0, 1) := by decide +kernel
theorem dX7_knownByte_31 : decode cX7_knownByte 31 = .ok (.getfield 18, 3) := by decide +kernel
theorem dX7_knownByte_34 : decode cX7_knownByte 34 = .ok (.iload_n 2, 1) := by decide +kernel
theorem dX7_knownByte_35 : decode cX7_knownByte 35 = .ok (.baload, 1) := by decide +kernel
theorem dX7_knownByte_36 : decode cX7_knownByte 36 = .ok (.sipush 255, 3) := by decide +kernel
theorem dX7_knownByte_39 : decode cX7_knownByte 39 = .ok (.iand, 1) := by decide +kernel
theorem dX7_knownByte_40 : decode cX7_knownByte 40 = .ok (.ireturn, 1) := by decide +kernel
theorem dX7_knownByte_41 : decode cX7_knownByte 41 = .ok (.iload_n 1, 1) := by decide +kernel
theorem dX7_knownByte_42 : decode cX7_knownByte 42 = .ok (.iconst 2, 1) := by decide +kernel
theorem dX7_knownByte_43 : decode cX7_knownByte 43 = .ok (.if_icmp .ne 21, 3) := by decide +kernel
theorem dX7_knownByte_46 : decode cX7_knownByte 46 = .ok (.aload_n 0, 1) := by decide +kernel
theorem dX7_knownByte_47 : decode cX7_knownByte 47 = .ok (.invokevirtual 146, 3) := by decide +kernel
theorem dX7_knownByte_50 : decode cX7_knownByte 50 = .ok (.ifCond .eq 14, 3) := by decide +kernel
theorem dX7_knownByte_53 : decode cX7_knownByte 53 = .ok (.aload_n 0, 1) := by decide +kernel
theorem dX7_knownByte_54 : decode cX7_knownByte 54 = .ok (.getfield 21, 3) := by decide +kernel
theorem dX7_knownByte_57 : decode cX7_knownByte 57 = .ok (.iload_n 2, 1) := by decide +kernel
theorem dX7_knownByte_58 : decode cX7_knownByte 58 = .ok (.baload, 1) := by decide +kernel
theorem dX7_knownByte_59 : decode cX7_knownByte 59 = .ok (.sipush 255, 3) := by decide +kernel
theorem dX7_knownByte_62 : decode cX7_knownByte 62 = .ok (.iand, 1) := by decide +kernel
theorem dX7_knownByte_63 : decode cX7_knownByte 63 = .ok (.ireturn, 1) := by decide +kernel
theorem dX7_knownByte_64 : decode cX7_knownByte 64 = .ok (.iconst (-1), 1) := by decide +kernel
theorem dX7_knownByte_65 : decode cX7_knownByte 65 = .ok (.ireturn, 1) := by decide +kernel
theorem dX7_knowsStatic_0 : decode cX7_knowsStatic 0 = .ok (.aload_n 0, 1) := by decide +kernel
theorem dX7_knowsStatic_1 : decode cX7_knowsStatic 1 = .ok (.getfield 28, 3) := by decide +kernel
theorem dX7_knowsStatic_4 : decode cX7_knowsStatic 4 = .ok (.aload_n 0, 1) := by decide +kernel
theorem dX7_knowsStatic_5 : decode cX7_knowsStatic 5 = .ok (.getfield 24, 3) := by decide +kernel
theorem dX7_knowsStatic_8 : decode cX7_knowsStatic 8 = .ok (.ifCond .eq 7, 3) := by decide +kernel
theorem dX7_knowsStatic_11 : decode cX7_knowsStatic 11 = .ok (.iconst 2, 1) := by decide +kernel
theorem dX7_knowsStatic_12 : decode cX7_knowsStatic 12 = .ok (.goto 4, 3) := by decide +kernel
theorem dX7_knowsStatic_15 : decode cX7_knowsStatic 15 = .ok (.iconst 3, 1) := by decide +kernel
theorem dX7_knowsStatic_16 : decode cX7_knowsStatic 16 = .ok (.if_icmp .lt 7, 3) := by decide +kernel
theorem dX7_knowsStatic_19 : decode cX7_knowsStatic 19 = .ok (.iconst 1, 1) := by decide +kernel
theorem dX7_knowsStatic_20 : decode cX7_knowsStatic 20 = .ok (.goto 4, 3) := by decide +kernel
theorem dX7_knowsStatic_23 : decode cX7_knowsStatic 23 = .ok (.iconst 0, 1) := by decide +kernel
theorem dX7_knowsStatic_24 : decode cX7_knowsStatic 24 = .ok (.ireturn, 1) := by decide +kernel
theorem dX7_knowsEphemeral_0 : decode cX7_knowsEphemeral 0 = .ok (.aload_n 0, 1) := by decide +kernel
theorem dX7_knowsEphemeral_1 : decode cX7_knowsEphemeral 1 = .ok (.getfield 28, 3) := by decide +kernel
theorem dX7_knowsEphemeral_4 : decode cX7_knowsEphemeral 4 = .ok (.aload_n 0, 1) := by decide +kernel
theorem dX7_knowsEphemeral_5 : decode cX7_knowsEphemeral 5 = .ok (.getfield 24, 3) := by decide +kernel
theorem dX7_knowsEphemeral_8 : decode cX7_knowsEphemeral 8 = .ok (.ifCond .eq 7, 3) := by decide +kernel
theorem dX7_knowsEphemeral_11 : decode cX7_knowsEphemeral 11 = .ok (.iconst 2, 1) := by decide +kernel
theorem dX7_knowsEphemeral_12 : decode cX7_knowsEphemeral 12 = .ok (.goto 4, 3) := by decide +kernel
theorem dX7_knowsEphemeral_15 : decode cX7_knowsEphemeral 15 = .ok (.iconst 1, 1) := by decide +kernel
theorem dX7_knowsEphemeral_16 : decode cX7_knowsEphemeral 16 = .ok (.if_icmp .lt 7, 3) := by decide +kernel
theorem dX7_knowsEphemeral_19 : decode cX7_knowsEphemeral 19 = .ok (.iconst 1, 1) := by decide +kernel
theorem dX7_knowsEphemeral_20 : decode cX7_knowsEphemeral 20 = .ok (.goto 4, 3) := by decide +kernel
theorem dX7_knowsEphemeral_23 : decode cX7_knowsEphemeral 23 = .ok (.iconst 0, 1) := by decide +kernel
theorem dX7_knowsEphemeral_24 : decode cX7_knowsEphemeral 24 = .ok (.ireturn, 1) := by decide +kernel
theorem dX8_init_0 : decode cX8_init 0 = .ok (.aload_n 0, 1) := by decide +kernel
theorem dX8_init_1 : decode cX8_init 1 = .ok (.invokespecial 1, 3) := by decide +kernel
theorem dX8_init_4 : decode cX8_init 4 = .ok (.aload_n 0, 1) := by decide +kernel
theorem dX8_init_5 : decode cX8_init 5 = .ok (.bipush 8, 2) := by decide +kernel
theorem dX8_init_7 : decode cX8_init 7 = .ok (.newarray .int, 2) := by decide +kernel
theorem dX8_init_9 : decode cX8_init 9 = .ok (.putfield 7, 3) := by decide +kernel
theorem dX8_init_12 : decode cX8_init 12 = .ok (.aload_n 0, 1) := by decide +kernel
theorem dX8_init_13 : decode cX8_init 13 = .ok (.bipush 64, 2) := by decide +kernel
theorem dX8_init_15 : decode cX8_init 15 = .ok (.newarray .int, 2) := by decide +kernel
theorem dX8_init_17 : decode cX8_init 17 = .ok (.putfield 13, 3) := by decide +kernel
theorem dX8_init_20 : decode cX8_init 20 = .ok (.aload_n 0, 1) := by decide +kernel
theorem dX8_init_21 : decode cX8_init 21 = .ok (.bipush 64, 2) := by decide +kernel
theorem dX8_init_23 : decode cX8_init 23 = .ok (.newarray .byte, 2) := by decide +kernel
theorem dX8_init_25 : decode cX8_init 25 = .ok (.putfield 16, 3) := by decide +kernel
theorem dX8_init_28 : decode cX8_init 28 = .ok (.aload_n 0, 1) := by decide +kernel
theorem dX8_init_29 : decode cX8_init 29 = .ok (.iconst 0, 1) := by decide +kernel
theorem dX8_init_30 : decode cX8_init 30 = .ok (.putfield 20, 3) := by decide +kernel
theorem dX8_init_33 : decode cX8_init 33 = .ok (.aload_n 0, 1) := by decide +kernel
theorem dX8_init_34 : decode cX8_init 34 = .ok (.lconst 0, 1) := by decide +kernel
theorem dX8_init_35 : decode cX8_init 35 = .ok (.putfield 24, 3) := by decide +kernel
theorem dX8_init_38 : decode cX8_init 38 = .ok (.return_, 1) := by decide +kernel
theorem dX8_reset_0 : decode cX8_reset 0 = .ok (.getstatic 28, 3) := by decide +kernel
theorem dX8_reset_3 : decode cX8_reset 3 = .ok (.iconst 0, 1) := by decide +kernel
theorem dX8_reset_4 : decode cX8_reset 4 = .ok (.aload_n 0, 1) := by decide +kernel
theorem dX8_reset_5 : decode cX8_reset 5 = .ok (.getfield 7, 3) := by decide +kernel
theorem dX8_reset_8 : decode cX8_reset 8 = .ok (.iconst 0, 1) := by decide +kernel
theorem dX8_reset_9 : decode cX8_reset 9 = .ok (.bipush 8, 2) := by decide +kernel
theorem dX8_reset_11 : decode cX8_reset 11 = .ok (.invokestatic 31, 3) := by decide +kernel
theorem dX8_reset_14 : decode cX8_reset 14 = .ok (.aload_n 0, 1) := by decide +kernel
theorem dX8_reset_15 : decode cX8_reset 15 = .ok (.iconst 0, 1) := by decide +kernel
theorem dX8_reset_16 : decode cX8_reset 16 = .ok (.putfield 20, 3) := by decide +kernel
theorem dX8_reset_19 : decode cX8_reset 19 = .ok (.aload_n 0, 1) := by decide +kernel
theorem dX8_reset_20 : decode cX8_reset 20 = .ok (.lconst 0, 1) := by decide +kernel
theorem dX8_reset_21 : decode cX8_reset 21 = .ok (.putfield 24, 3) := by decide +kernel
theorem dX8_reset_24 : decode cX8_reset 24 = .ok (.return_, 1) := by decide +kernel
theorem dX8_absorb_0 : decode cX8_absorb 0 = .ok (.iconst 0, 1) := by decide +kernel
theorem dX8_absorb_1 : decode cX8_absorb 1 = .ok (.istore 4, 2) := by decide +kernel
theorem dX8_absorb_3 : decode cX8_absorb 3 = .ok (.iload 4, 2) := by decide +kernel
theorem dX8_absorb_5 : decode cX8_absorb 5 = .ok (.iload_n 3, 1) := by decide +kernel
theorem dX8_absorb_6 : decode cX8_absorb 6 = .ok (.if_icmp .ge 56, 3) := by decide +kernel
theorem dX8_absorb_9 : decode cX8_absorb 9 = .ok (.aload_n 0, 1) := by decide +kernel
theorem dX8_absorb_10 : decode cX8_absorb 10 = .ok (.getfield 16, 3) := by decide +kernel
theorem dX8_absorb_13 : decode cX8_absorb 13 = .ok (.aload_n 0, 1) := by decide +kernel
theorem dX8_absorb_14 : decode cX8_absorb 14 = .ok (.getfield 20, 3) := by decide +kernel
theorem dX8_absorb_17 : decode cX8_absorb 17 = .ok (.aload_n 1, 1) := by decide +kernel
theorem dX8_absorb_18 : decode cX8_absorb 18 = .ok (.iload_n 2, 1) := by decide +kernel
theorem dX8_absorb_19 : decode cX8_absorb 19 = .ok (.iload 4, 2) := by decide +kernel
theorem dX8_absorb_21 : decode cX8_absorb 21 = .ok (.iadd, 1) := by decide +kernel
theorem dX8_absorb_22 : decode cX8_absorb 22 = .ok (.baload, 1) := by decide +kernel
theorem dX8_absorb_23 : decode cX8_absorb 23 = .ok (.bastore, 1) := by decide +kernel
theorem dX8_absorb_24 : decode cX8_absorb 24 = .ok (.aload_n 0, 1) := by decide +kernel
theorem dX8_absorb_25 : decode cX8_absorb 25 = .ok (.dup, 1) := by decide +kernel
theorem dX8_absorb_26 : decode cX8_absorb 26 = .ok (.getfield 20, 3) := by decide +kernel
theorem dX8_absorb_29 : decode cX8_absorb 29 = .ok (.iconst 1, 1) := by decide +kernel
theorem dX8_absorb_30 : decode cX8_absorb 30 = .ok (.iadd, 1) := by decide +kernel
theorem dX8_absorb_31 : decode cX8_absorb 31 = .ok (.putfield 20, 3) := by decide +kernel
theorem dX8_absorb_34 : decode cX8_absorb 34 = .ok (.aload_n 0, 1) := by decide +kernel
theorem dX8_absorb_35 : decode cX8_absorb 35 = .ok (.getfield 20, 3) := by decide +kernel
theorem dX8_absorb_38 : decode cX8_absorb 38 = .ok (.bipush 64, 2) := by decide +kernel
theorem dX8_absorb_40 : decode cX8_absorb 40 = .ok (.if_icmp .ne 16, 3) := by decide +kernel
theorem dX8_absorb_43 : decode cX8_absorb 43 = .ok (.aload_n 0, 1) := by decide +kernel
theorem dX8_absorb_44 : decode cX8_absorb 44 = .ok (.invokevirtual 37, 3) := by decide +kernel
theorem dX8_absorb_47 : decode cX8_absorb 47 = .ok (.aload_n 0, 1) := by decide +kernel
theorem dX8_absorb_48 : decode cX8_absorb 48 = .ok (.invokevirtual 40, 3) := by decide +kernel
theorem dX8_absorb_51 : decode cX8_absorb 51 = .ok (.aload_n 0, 1) := by decide +kernel
theorem dX8_absorb_52 : decode cX8_absorb 52 = .ok (.iconst 0, 1) := by decide +kernel
theorem dX8_absorb_53 : decode cX8_absorb 53 = .ok (.putfield 20, 3) := by decide +kernel
theorem dX8_absorb_56 : decode cX8_absorb 56 = .ok (.iinc 4 1, 3) := by decide +kernel
theorem dX8_absorb_59 : decode cX8_absorb 59 = .ok (.goto (-56), 3) := by decide +kernel
theorem dX8_absorb_62 : decode cX8_absorb 62 = .ok (.aload_n 0, 1) := by decide +kernel
theorem dX8_absorb_63 : decode cX8_absorb 63 = .ok (.dup, 1) := by decide +kernel
theorem dX8_absorb_64 : decode cX8_absorb 64 = .ok (.getfield 24, 3) := by decide +kernel
theorem dX8_absorb_67 : decode cX8_absorb 67 = .ok (.iload_n 3, 1) := by decide +kernel
theorem dX8_absorb_68 : decode cX8_absorb 68 = .ok (.i2l, 1) := by decide +kernel
theorem dX8_absorb_69 : decode cX8_absorb 69 = .ok (.ladd, 1) := by decide +kernel
theorem dX8_absorb_70 : decode cX8_absorb 70 = .ok (.putfield 24, 3) := by decide +kernel
theorem dX8_absorb_73 : decode cX8_absorb 73 = .ok (.return_, 1) := by decide +kernel
theorem dX8_finish_0 : decode cX8_finish 0 = .ok (.aload_n 0, 1) := by decide +kernel
theorem dX8_finish_1 : decode cX8_finish 1 = .ok (.getfield 16, 3) := by decide +kernel
theorem dX8_finish_4 : decode cX8_finish 4 = .ok (.aload_n 0, 1) := by decide +kernel
theorem dX8_finish_5 : decode cX8_finish 5 = .ok (.getfield 20, 3) := by decide +kernel
theorem dX8_finish_8 : decode cX8_finish 8 = .ok (.bipush (-128), 2) := by decide +kernel
theorem dX8_finish_10 : decode cX8_finish 10 = .ok (.bastore, 1) := by decide +kernel
theorem dX8_finish_11 : decode cX8_finish 11 = .ok (.aload_n 0, 1) := by decide +kernel
theorem dX8_finish_12 : decode cX8_finish 12 = .ok (.aload_n 0, 1) := by decide +kernel
theorem dX8_finish_13 : decode cX8_finish 13 = .ok (.getfield 20, 3) := by decide +kernel
theorem dX8_finish_16 : decode cX8_finish 16 = .ok (.iconst 1, 1) := by decide +kernel
theorem dX8_finish_17 : decode cX8_finish 17 = .ok (.iadd, 1) := by decide +kernel
theorem dX8_finish_18 : decode cX8_finish 18 = .ok (.invokevirtual 43, 3) := by decide +kernel
theorem dX8_finish_21 : decode cX8_finish 21 = .ok (.aload_n 0, 1) := by decide +kernel
theorem dX8_finish_22 : decode cX8_finish 22 = .ok (.getfield 20, 3) := by decide +kernel
theorem dX8_finish_25 : decode cX8_finish 25 = .ok (.bipush 56, 2) := by decide +kernel
theorem dX8_finish_27 : decode cX8_finish 27 = .ok (.if_icmp .lt 16, 3) := by decide +kernel
theorem dX8_finish_30 : decode cX8_finish 30 = .ok (.aload_n 0, 1) := by decide +kernel
theorem dX8_finish_31 : decode cX8_finish 31 = .ok (.invokevirtual 37, 3) := by decide +kernel
theorem dX8_finish_34 : decode cX8_finish 34 = .ok (.aload_n 0, 1) := by decide +kernel
theorem dX8_finish_35 : decode cX8_finish 35 = .ok (.invokevirtual 40, 3) := by decide +kernel
theorem dX8_finish_38 : decode cX8_finish 38 = .ok (.aload_n 0, 1) := by decide +kernel
theorem dX8_finish_39 : decode cX8_finish 39 = .ok (.iconst 0, 1) := by decide +kernel
theorem dX8_finish_40 : decode cX8_finish 40 = .ok (.invokevirtual 43, 3) := by decide +kernel
theorem dX8_finish_43 : decode cX8_finish 43 = .ok (.aload_n 0, 1) := by decide +kernel
theorem dX8_finish_44 : decode cX8_finish 44 = .ok (.getfield 24, 3) := by decide +kernel
theorem dX8_finish_47 : decode cX8_finish 47 = .ok (.ldc2_w 47, 3) := by decide +kernel
theorem dX8_finish_50 : decode cX8_finish 50 = .ok (.lmul, 1) := by decide +kernel
theorem dX8_finish_51 : decode cX8_finish 51 = .ok (.lstore_n 2, 1) := by decide +kernel
theorem dX8_finish_52 : decode cX8_finish 52 = .ok (.lload_n 2, 1) := by decide +kernel
theorem dX8_finish_53 : decode cX8_finish 53 = .ok (.bipush 32, 2) := by decide +kernel
theorem dX8_finish_55 : decode cX8_finish 55 = .ok (.lushr, 1) := by decide +kernel
theorem dX8_finish_56 : decode cX8_finish 56 = .ok (.l2i, 1) := by decide +kernel
theorem dX8_finish_57 : decode cX8_finish 57 = .ok (.aload_n 0, 1) := by decide +kernel
theorem dX8_finish_58 : decode cX8_finish 58 = .ok (.getfield 16, 3) := by decide +kernel
theorem dX8_finish_61 : decode cX8_finish 61 = .ok (.bipush 56, 2) := by decide +kernel
theorem dX8_finish_63 : decode cX8_finish 63 = .ok (.invokestatic 49, 3) := by decide +kernel
theorem dX8_finish_66 : decode cX8_finish 66 = .ok (.lload_n 2, 1) := by decide +kernel
theorem dX8_finish_67 : decode cX8_finish 67 = .ok (.l2i, 1) := by decide +kernel
theorem dX8_finish_68 : decode cX8_finish 68 = .ok (.aload_n 0, 1) := by decide +kernel
theorem dX8_finish_69 : decode cX8_finish 69 = .ok (.getfield 16, 3) := by decide +kernel
theorem dX8_finish_72 : decode cX8_finish 72 = .ok (.bipush 60, 2) := by decide +kernel
theorem dX8_finish_74 : decode cX8_finish 74 = .ok (.invokestatic 49, 3) := by decide +kernel
theorem dX8_finish_77 : decode cX8_finish 77 = .ok (.aload_n 0, 1) := by decide +kernel
theorem dX8_finish_78 : decode cX8_finish 78 = .ok (.invokevirtual 37, 3) := by decide +kernel
theorem dX8_finish_81 : decode cX8_finish 81 = .ok (.aload_n 0, 1) := by decide +kernel
theorem dX8_finish_82 : decode cX8_finish 82 = .ok (.invokevirtual 40, 3) := by decide +kernel
theorem dX8_finish_85 : decode cX8_finish 85 = .ok (.iconst 0, 1) := by decide +kernel
theorem dX8_finish_86 : decode cX8_finish 86 = .ok (.istore 4, 2) := by decide +kernel
theorem dX8_finish_88 : decode cX8_finish 88 = .ok (.iload 4, 2) := by decide +kernel
theorem dX8_finish_90 : decode cX8_finish 90 = .ok (.bipush 8, 2) := by decide +kernel
theorem dX8_finish_92 : decode cX8_finish 92 = .ok (.if_icmp .ge 24, 3) := by decide +kernel
theorem dX8_finish_95 : decode cX8_finish 95 = .ok (.aload_n 0, 1) := by decide +kernel
theorem dX8_finish_96 : decode cX8_finish 96 = .ok (.getfield 7, 3) := by decide +kernel
theorem dX8_finish_99 : decode cX8_finish 99 = .ok (.iload 4, 2) := by decide +kernel
theorem dX8_finish_101 : decode cX8_finish 101 = .ok (.iaload, 1) := by decide +kernel
theorem dX8_finish_102 : decode cX8_finish 102 = .ok (.aload_n 1, 1) := by decide +kernel
theorem dX8_finish_103 : decode cX8_finish 103 = .ok (.iconst 4, 1) := by decide +kernel
theorem dX8_finish_104 : decode cX8_finish 104 = .ok (.iload 4, 2) := by decide +kernel
theorem dX8_finish_106 : decode cX8_finish 106 = .ok (.imul, 1) := by decide +kernel
theorem dX8_finish_107 : decode cX8_finish 107 = .ok (.invokestatic 49, 3) := by decide +kernel
theorem dX8_finish_110 : decode cX8_finish 110 = .ok (.iinc 4 1, 3) := by decide +kernel
theorem dX8_finish_113 : decode cX8_finish 113 = .ok (.goto (-25), 3) := by decide +kernel
theorem dX8_finish_116 : decode cX8_finish 116 = .ok (.return_, 1) := by decide +kernel
theorem dX8_clearBlock_0 : decode cX8_clearBlock 0 = .ok (.iload_n 1, 1) := by decide +kernel
theorem dX8_clearBlock_1 : decode cX8_clearBlock 1 = .ok (.istore_n 2, 1) := by decide +kernel
theorem dX8_clearBlock_2 : decode cX8_clearBlock 2 = .ok (.iload_n 2, 1) := by decide +kernel
theorem dX8_clearBlock_3 : decode cX8_clearBlock 3 = .ok (.bipush 64, 2) := by decide +kernel
theorem dX8_clearBlock_5 : decode cX8_clearBlock 5 = .ok (.if_icmp .ge 16, 3) := by decide +kernel
theorem dX8_clearBlock_8 : decode cX8_clearBlock 8 = .ok (.aload_n 0, 1) := by decide +kernel
theorem dX8_clearBlock_9 : decode cX8_clearBlock 9 = .ok (.getfield 16, 3) := by decide +kernel
theorem dX8_clearBlock_12 : decode cX8_clearBlock 12 = .ok (.iload_n 2, 1) := by decide +kernel
theorem dX8_clearBlock_13 : decode cX8_clearBlock 13 = .ok (.iconst 0, 1) := by decide +kernel
theorem dX8_clearBlock_14 : decode cX8_clearBlock 14 = .ok (.bastore, 1) := by decide +kernel
theorem dX8_clearBlock_15 : decode cX8_clearBlock 15 = .ok (.iinc 2 1, 3) := by decide +kernel
theorem dX8_clearBlock_18 : decode cX8_clearBlock 18 = .ok (.goto (-16), 3) := by decide +kernel
theorem dX8_clearBlock_21 : decode cX8_clearBlock 21 = .ok (.return_, 1) := by decide +kernel
theorem dX8_fillSchedule_0 : decode cX8_fillSchedule 0 = .ok (.iconst 0, 1) := by decide +kernel
theorem dX8_fillSchedule_1 : decode cX8_fillSchedule 1 = .ok (.istore_n 1, 1) := by decide +kernel
theorem dX8_fillSchedule_2 : decode cX8_fillSchedule 2 = .ok (.iload_n 1, 1) := by decide +kernel
theorem dX8_fillSchedule_3 : decode cX8_fillSchedule 3 = .ok (.bipush 16, 2) := by decide +kernel
theorem dX8_fillSchedule_5 : decode cX8_fillSchedule 5 = .ok (.if_icmp .ge 25, 3) := by decide +kernel
theorem dX8_fillSchedule_8 : decode cX8_fillSchedule 8 = .ok (.aload_n 0, 1) := by decide +kernel
theorem dX8_fillSchedule_9 : decode cX8_fillSchedule 9 = .ok (.getfield 13, 3) := by decide +kernel
theorem dX8_fillSchedule_12 : decode cX8_fillSchedule 12 = .ok (.iload_n 1, 1) := by decide +kernel
theorem dX8_fillSchedule_13 : decode cX8_fillSchedule 13 = .ok (.aload_n 0, 1) := by decide +kernel
theorem dX8_fillSchedule_14 : decode cX8_fillSchedule 14 = .ok (.getfield 16, 3) := by decide +kernel
theorem dX8_fillSchedule_17 : decode cX8_fillSchedule 17 = .ok (.iconst 4, 1) := by decide +kernel
theorem dX8_fillSchedule_18 : decode cX8_fillSchedule 18 = .ok (.iload_n 1, 1) := by decide +kernel
theorem dX8_fillSchedule_19 : decode cX8_fillSchedule 19 = .ok (.imul, 1) := by decide +kernel
theorem dX8_fillSchedule_20 : decode cX8_fillSchedule 20 = .ok (.invokestatic 55, 3) := by decide +kernel
theorem dX8_fillSchedule_23 : decode cX8_fillSchedule 23 = .ok (.iastore, 1) := by decide +kernel
theorem dX8_fillSchedule_24 : decode cX8_fillSchedule 24 = .ok (.iinc 1 1, 3) := by decide +kernel
theorem dX8_fillSchedule_27 : decode cX8_fillSchedule 27 = .ok (.goto (-25), 3) := by decide +kernel
theorem dX8_fillSchedule_30 : decode cX8_fillSchedule 30 = .ok (.bipush 16, 2) := by decide +kernel
theorem dX8_fillSchedule_32 : decode cX8_fillSchedule 32 = .ok (.istore_n 1, 1) := by decide +kernel
theorem dX8_fillSchedule_33 : decode cX8_fillSchedule 33 = .ok (.iload_n 1, 1) := by decide +kernel
theorem dX8_fillSchedule_34 : decode cX8_fillSchedule 34 = .ok (.bipush 64, 2) := by decide +kernel
theorem dX8_fillSchedule_36 : decode cX8_fillSchedule 36 = .ok (.if_icmp .ge 98, 3) := by decide +kernel
theorem dX8_fillSchedule_39 : decode cX8_fillSchedule 39 = .ok (.aload_n 0, 1) := by decide +kernel
theorem dX8_fillSchedule_40 : decode cX8_fillSchedule 40 = .ok (.getfield 13, 3) := by decide +kernel
theorem dX8_fillSchedule_43 : decode cX8_fillSchedule 43 = .ok (.iload_n 1, 1) := by decide +kernel
theorem dX8_fillSchedule_44 : decode cX8_fillSchedule 44 = .ok (.bipush 15, 2) := by decide +kernel
theorem dX8_fillSchedule_46 : decode cX8_fillSchedule 46 = .ok (.isub, 1) := by decide +kernel
theorem dX8_fillSchedule_47 : decode cX8_fillSchedule 47 = .ok (.iaload, 1) := by decide +kernel
theorem dX8_fillSchedule_48 : decode cX8_fillSchedule 48 = .ok (.istore_n 2, 1) := by decide +kernel
theorem dX8_fillSchedule_49 : decode cX8_fillSchedule 49 = .ok (.aload_n 0, 1) := by decide +kernel
theorem dX8_fillSchedule_50 : decode cX8_fillSchedule 50 = .ok (.getfield 13, 3) := by decide +kernel
theorem dX8_fillSchedule_53 : decode cX8_fillSchedule 53 = .ok (.iload_n 1, 1) := by decide +kernel
theorem dX8_fillSchedule_54 : decode cX8_fillSchedule 54 = .ok (.iconst 2, 1) := by decide +kernel
theorem dX8_fillSchedule_55 : decode cX8_fillSchedule 55 = .ok (.isub, 1) := by decide +kernel
theorem dX8_fillSchedule_56 : decode cX8_fillSchedule 56 = .ok (.iaload, 1) := by decide +kernel
theorem dX8_fillSchedule_57 : decode cX8_fillSchedule 57 = .ok (.istore_n 3, 1) := by decide +kernel
theorem dX8_fillSchedule_58 : decode cX8_fillSchedule 58 = .ok (.iload_n 2, 1) := by decide +kernel
theorem dX8_fillSchedule_59 : decode cX8_fillSchedule 59 = .ok (.bipush 7, 2) := by decide +kernel
theorem dX8_fillSchedule_61 : decode cX8_fillSchedule 61 = .ok (.invokestatic 59, 3) := by decide +kernel
theorem dX8_fillSchedule_64 : decode cX8_fillSchedule 64 = .ok (.iload_n 2, 1) := by decide +kernel
theorem dX8_fillSchedule_65 : decode cX8_fillSchedule 65 = .ok (.bipush 18, 2) := by decide +kernel
theorem dX8_fillSchedule_67 : decode cX8_fillSchedule 67 = .ok (.invokestatic 59, 3) := by decide +kernel
theorem dX8_fillSchedule_70 : decode cX8_fillSchedule 70 = .ok (.ixor, 1) := by decide +kernel
theorem dX8_fillSchedule_71 : decode cX8_fillSchedule 71 = .ok (.iload_n 2, 1) := by decide +kernel
theorem dX8_fillSchedule_72 : decode cX8_fillSchedule 72 = .ok (.iconst 3, 1) := by decide +kernel
theorem dX8_fillSchedule_73 : decode cX8_fillSchedule 73 = .ok (.iushr, 1) := by decide +kernel
theorem dX8_fillSchedule_74 : decode cX8_fillSchedule 74 = .ok (.ixor, 1) := by decide +kernel
theorem dX8_fillSchedule_75 : decode cX8_fillSchedule 75 = .ok (.istore 4, 2) := by decide +kernel
theorem dX8_fillSchedule_77 : decode cX8_fillSchedule 77 = .ok (.iload_n 3, 1) := by decide +kernel
theorem dX8_fillSchedule_78 : decode cX8_fillSchedule 78 = .ok (.bipush 17, 2) := by decide +kernel
theorem dX8_fillSchedule_80 : decode cX8_fillSchedule 80 = .ok (.invokestatic 59, 3) := by decide +kernel
theorem dX8_fillSchedule_83 : decode cX8_fillSchedule 83 = .ok (.iload_n 3, 1) := by decide +kernel
theorem dX8_fillSchedule_84 : decode cX8_fillSchedule 84 = .ok (.bipush 19, 2) := by decide +kernel
theorem dX8_fillSchedule_86 : decode cX8_fillSchedule 86 = .ok (.invokestatic 59, 3) := by decide +kernel
theorem dX8_fillSchedule_89 : decode cX8_fillSchedule 89 = .ok (.ixor, 1) := by decide +kernel
theorem dX8_fillSchedule_90 : decode cX8_fillSchedule 90 = .ok (.iload_n 3, 1) := by decide +kernel
theorem dX8_fillSchedule_91 : decode cX8_fillSchedule 91 = .ok (.bipush 10, 2) := by decide +kernel
theorem dX8_fillSchedule_93 : decode cX8_fillSchedule 93 = .ok (.iushr, 1) := by decide +kernel
theorem dX8_fillSchedule_94 : decode cX8_fillSchedule 94 = .ok (.ixor, 1) := by decide +kernel
theorem dX8_fillSchedule_95 : decode cX8_fillSchedule 95 = .ok (.istore 5, 2) := by decide +kernel
theorem dX8_fillSchedule_97 : decode cX8_fillSchedule 97 = .ok (.aload_n 0, 1) := by decide +kernel
theorem dX8_fillSchedule_98 : decode cX8_fillSchedule 98 = .ok (.getfield 13, 3) := by decide +kernel
theorem dX8_fillSchedule_101 : decode cX8_fillSchedule 101 = .ok (.iload_n 1, 1) := by decide +kernel
theorem dX8_fillSchedule_102 : decode cX8_fillSchedule 102 = .ok (.aload_n 0, 1) := by decide +kernel
theorem dX8_fillSchedule_103 : decode cX8_fillSchedule 103 = .ok (.getfield 13, 3) := by decide +kernel
theorem dX8_fillSchedule_106 : decode cX8_fillSchedule 106 = .ok (.iload_n 1, 1) := by decide +kernel
theorem dX8_fillSchedule_107 : decode cX8_fillSchedule 107 = .ok (.bipush 16, 2) := by decide +kernel
theorem dX8_fillSchedule_109 : decode cX8_fillSchedule 109 = .ok (.isub, 1) := by decide +kernel
theorem dX8_fillSchedule_110 : decode cX8_fillSchedule 110 = .ok (.iaload, 1) := by decide +kernel
theorem dX8_fillSchedule_111 : decode cX8_fillSchedule 111 = .ok (.iload 4, 2) := by decide +kernel
theorem dX8_fillSchedule_113 : decode cX8_fillSchedule 113 = .ok (.iadd, 1) := by decide +kernel
theorem dX8_fillSchedule_114 : decode cX8_fillSchedule 114 = .ok (.aload_n 0, 1) := by decide +kernel
theorem dX8_fillSchedule_115 : decode cX8_fillSchedule 115 = .ok (.getfield 13, 3) := by decide +kernel
theorem dX8_fillSchedule_118 : decode cX8_fillSchedule 118 = .ok (.iload_n 1, 1) := by decide +kernel
theorem dX8_fillSchedule_119 : decode cX8_fillSchedule 119 = .ok (.bipush 7, 2) := by decide +kernel
theorem dX8_fillSchedule_121 : decode cX8_fillSchedule 121 = .ok (.isub, 1) := by decide +kernel
theorem dX8_fillSchedule_122 : decode cX8_fillSchedule 122 = .ok (.iaload, 1) := by decide +kernel
theorem dX8_fillSchedule_123 : decode cX8_fillSchedule 123 = .ok (.iadd, 1) := by decide +kernel
theorem dX8_fillSchedule_124 : decode cX8_fillSchedule 124 = .ok (.iload 5, 2) := by decide +kernel
theorem dX8_fillSchedule_126 : decode cX8_fillSchedule 126 = .ok (.iadd, 1) := by decide +kernel
theorem dX8_fillSchedule_127 : decode cX8_fillSchedule 127 = .ok (.iastore, 1) := by decide +kernel
theorem dX8_fillSchedule_128 : decode cX8_fillSchedule 128 = .ok (.iinc 1 1, 3) := by decide +kernel
theorem dX8_fillSchedule_131 : decode cX8_fillSchedule 131 = .ok (.goto (-98), 3) := by decide +kernel
theorem dX8_fillSchedule_134 : decode cX8_fillSchedule 134 = .ok (.return_, 1) := by decide +kernel
theorem dX8_compress_0 : decode cX8_compress 0 = .ok (.aload_n 0, 1) := by decide +kernel
theorem dX8_compress_1 : decode cX8_compress 1 = .ok (.getfield 7, 3) := by decide +kernel
theorem dX8_compress_4 : decode cX8_compress 4 = .ok (.iconst 0, 1) := by decide +kernel
theorem dX8_compress_5 : decode cX8_compress 5 = .ok (.iaload, 1) := by decide +kernel
theorem dX8_compress_6 : decode cX8_compress 6 = .ok (.istore_n 1, 1) := by decide +kernel
theorem dX8_compress_7 : decode cX8_compress 7 = .ok (.aload_n 0, 1) := by decide +kernel
theorem dX8_compress_8 : decode cX8_compress 8 = .ok (.getfield 7, 3) := by decide +kernel
theorem dX8_compress_11 : decode cX8_compress 11 = .ok (.iconst 1, 1) := by decide +kernel
theorem dX8_compress_12 : decode cX8_compress 12 = .ok (.iaload, 1) := by decide +kernel
theorem dX8_compress_13 : decode cX8_compress 13 = .ok (.istore_n 2, 1) := by decide +kernel
theorem dX8_compress_14 : decode cX8_compress 14 = .ok (.aload_n 0, 1) := by decide +kernel
theorem dX8_compress_15 : decode cX8_compress 15 = .ok (.getfield 7, 3) := by decide +kernel
theorem dX8_compress_18 : decode cX8_compress 18 = .ok (.iconst 2, 1) := by decide +kernel
theorem dX8_compress_19 : decode cX8_compress 19 = .ok (.iaload, 1) := by decide +kernel
theorem dX8_compress_20 : decode cX8_compress 20 = .ok (.istore_n 3, 1) := by decide +kernel
theorem dX8_compress_21 : decode cX8_compress 21 = .ok (.aload_n 0, 1) := by decide +kernel
theorem dX8_compress_22 : decode cX8_compress 22 = .ok (.getfield 7, 3) := by decide +kernel
theorem dX8_compress_25 : decode cX8_compress 25 = .ok (.iconst 3, 1) := by decide +kernel
theorem dX8_compress_26 : decode cX8_compress 26 = .ok (.iaload, 1) := by decide +kernel
theorem dX8_compress_27 : decode cX8_compress 27 = .ok (.istore 4, 2) := by decide +kernel
theorem dX8_compress_29 : decode cX8_compress 29 = .ok (.aload_n 0, 1) := by decide +kernel
theorem dX8_compress_30 : decode cX8_compress 30 = .ok (.getfield 7, 3) := by decide +kernel
theorem dX8_compress_33 : decode cX8_compress 33 = .ok (.iconst 4, 1) := by decide +kernel
theorem dX8_compress_34 : decode cX8_compress 34 = .ok (.iaload, 1) := by decide +kernel
theorem dX8_compress_35 : decode cX8_compress 35 = .ok (.istore 5, 2) := by decide +kernel
theorem dX8_compress_37 : decode cX8_compress 37 = .ok (.aload_n 0, 1) := by decide +kernel
theorem dX8_compress_38 : decode cX8_compress 38 = .ok (.getfield 7, 3) := by decide +kernel
theorem dX8_compress_41 : decode cX8_compress 41 = .ok (.iconst 5, 1) := by decide +kernel
theorem dX8_compress_42 : decode cX8_compress 42 = .ok (.iaload, 1) := by decide +kernel
theorem dX8_compress_43 : decode cX8_compress 43 = .ok (.istore 6, 2) := by decide +kernel
theorem dX8_compress_45 : decode cX8_compress 45 = .ok (.aload_n 0, 1) := by decide +kernel
theorem dX8_compress_46 : decode cX8_compress 46 = .ok (.getfield 7, 3) := by decide +kernel
theorem dX8_compress_49 : decode cX8_compress 49 = .ok (.bipush 6, 2) := by decide +kernel
theorem dX8_compress_51 : decode cX8_compress 51 = .ok (.iaload, 1) := by decide +kernel
theorem dX8_compress_52 : decode cX8_compress 52 = .ok (.istore 7, 2) := by decide +kernel
theorem dX8_compress_54 : decode cX8_compress 54 = .ok (.aload_n 0, 1) := by decide +kernel
theorem dX8_compress_55 : decode cX8_compress 55 = .ok (.getfield 7, 3) := by decide +kernel
theorem dX8_compress_58 : decode cX8_compress 58 = .ok (.bipush 7, 2) := by decide +kernel
theorem dX8_compress_60 : decode cX8_compress 60 = .ok (.iaload, 1) := by decide +kernel
theorem dX8_compress_61 : decode cX8_compress 61 = .ok (.istore 8, 2) := by decide +kernel
theorem dX8_compress_63 : decode cX8_compress 63 = .ok (.iconst 0, 1) := by decide +kernel
theorem dX8_compress_64 : decode cX8_compress 64 = .ok (.istore 9, 2) := by decide +kernel
theorem dX8_compress_66 : decode cX8_compress 66 = .ok (.iload 9, 2) := by decide +kernel
theorem dX8_compress_68 : decode cX8_compress 68 = .ok (.bipush 64, 2) := by decide +kernel
theorem dX8_compress_70 : decode cX8_compress 70 = .ok (.if_icmp .ge 143, 3) := by decide +kernel
theorem dX8_compress_73 : decode cX8_compress 73 = .ok (.iload 5, 2) := by decide +kernel
theorem dX8_compress_75 : decode cX8_compress 75 = .ok (.bipush 6, 2) := by decide +kernel
theorem dX8_compress_77 : decode cX8_compress 77 = .ok (.invokestatic 59, 3) := by decide +kernel
theorem dX8_compress_80 : decode cX8_compress 80 = .ok (.iload 5, 2) := by decide +kernel
theorem dX8_compress_82 : decode cX8_compress 82 = .ok (.bipush 11, 2) := by decide +kernel
theorem dX8_compress_84 : decode cX8_compress 84 = .ok (.invokestatic 59, 3) := by decide +kernel
theorem dX8_compress_87 : decode cX8_compress 87 = .ok (.ixor, 1) := by decide +kernel
theorem dX8_compress_88 : decode cX8_compress 88 = .ok (.iload 5, 2) := by decide +kernel
theorem dX8_compress_90 : decode cX8_compress 90 = .ok (.bipush 25, 2) := by decide +kernel
theorem dX8_compress_92 : decode cX8_compress 92 = .ok (.invokestatic 59, 3) := by decide +kernel
theorem dX8_compress_95 : decode cX8_compress 95 = .ok (.ixor, 1) := by decide +kernel
theorem dX8_compress_96 : decode cX8_compress 96 = .ok (.istore 10, 2) := by decide +kernel
theorem dX8_compress_98 : decode cX8_compress 98 = .ok (.iload 5, 2) := by decide +kernel
theorem dX8_compress_100 : decode cX8_compress 100 = .ok (.iload 6, 2) := by decide +kernel
theorem dX8_compress_102 : decode cX8_compress 102 = .ok (.iand, 1) := by decide +kernel
theorem dX8_compress_103 : decode cX8_compress 103 = .ok (.iload 5, 2) := by decide +kernel
theorem dX8_compress_105 : decode cX8_compress 105 = .ok (.iconst (-1), 1) := by decide +kernel
theorem dX8_compress_106 : decode cX8_compress 106 = .ok (.ixor, 1) := by decide +kernel
theorem dX8_compress_107 : decode cX8_compress 107 = .ok (.iload 7, 2) := by decide +kernel
theorem dX8_compress_109 : decode cX8_compress 109 = .ok (.iand, 1) := by decide +kernel
theorem dX8_compress_110 : decode cX8_compress 110 = .ok (.ixor, 1) := by decide +kernel
theorem dX8_compress_111 : decode cX8_compress 111 = .ok (.istore 11, 2) := by decide +kernel
theorem dX8_compress_113 : decode cX8_compress 113 = .ok (.iload 8, 2) := by decide +kernel
theorem dX8_compress_115 : decode cX8_compress 115 = .ok (.iload 10, 2) := by decide +kernel
theorem dX8_compress_117 : decode cX8_compress 117 = .ok (.iadd, 1) := by decide +kernel
theorem dX8_compress_118 : decode cX8_compress 118 = .ok (.iload 11, 2) := by decide +kernel
theorem dX8_compress_120 : decode cX8_compress 120 = .ok (.iadd, 1) := by decide +kernel
theorem dX8_compress_121 : decode cX8_compress 121 = .ok (.getstatic 65, 3) := by decide +kernel
theorem dX8_compress_124 : decode cX8_compress 124 = .ok (.iload 9, 2) := by decide +kernel
theorem dX8_compress_126 : decode cX8_compress 126 = .ok (.iaload, 1) := by decide +kernel
theorem dX8_compress_127 : decode cX8_compress 127 = .ok (.iadd, 1) := by decide +kernel
theorem dX8_compress_128 : decode cX8_compress 128 = .ok (.aload_n 0, 1) := by decide +kernel
theorem dX8_compress_129 : decode cX8_compress 129 = .ok (.getfield 13, 3) := by decide +kernel
theorem dX8_compress_132 : decode cX8_compress 132 = .ok (.iload 9, 2) := by decide +kernel
theorem dX8_compress_134 : decode cX8_compress 134 = .ok (.iaload, 1) := by decide +kernel
theorem dX8_compress_135 : decode cX8_compress 135 = .ok (.iadd, 1) := by decide +kernel
theorem dX8_compress_136 : decode cX8_compress 136 = .ok (.istore 12, 2) := by decide +kernel
theorem dX8_compress_138 : decode cX8_compress 138 = .ok (.iload_n 1, 1) := by decide +kernel
theorem dX8_compress_139 : decode cX8_compress 139 = .ok (.iconst 2, 1) := by decide +kernel
theorem dX8_compress_140 : decode cX8_compress 140 = .ok (.invokestatic 59, 3) := by decide +kernel
theorem dX8_compress_143 : decode cX8_compress 143 = .ok (.iload_n 1, 1) := by decide +kernel
theorem dX8_compress_144 : decode cX8_compress 144 = .ok (.bipush 13, 2) := by decide +kernel
theorem dX8_compress_146 : decode cX8_compress 146 = .ok (.invokestatic 59, 3) := by decide +kernel
theorem dX8_compress_149 : decode cX8_compress 149 = .ok (.ixor, 1) := by decide +kernel
theorem dX8_compress_150 : decode cX8_compress 150 = .ok (.iload_n 1, 1) := by decide +kernel
theorem dX8_compress_151 : decode cX8_compress 151 = .ok (.bipush 22, 2) := by decide +kernel
theorem dX8_compress_153 : decode cX8_compress 153 = .ok (.invokestatic 59, 3) := by decide +kernel
theorem dX8_compress_156 : decode cX8_compress 156 = .ok (.ixor, 1) := by decide +kernel
theorem dX8_compress_157 : decode cX8_compress 157 = .ok (.istore 13, 2) := by decide +kernel
theorem dX8_compress_159 : decode cX8_compress 159 = .ok (.iload_n 1, 1) := by decide +kernel
theorem dX8_compress_160 : decode cX8_compress 160 = .ok (.iload_n 2, 1) := by decide +kernel
theorem dX8_compress_161 : decode cX8_compress 161 = .ok (.iand, 1) := by decide +kernel
theorem dX8_compress_162 : decode cX8_compress 162 = .ok (.iload_n 1, 1) := by decide +kernel
theorem dX8_compress_163 : decode cX8_compress 163 = .ok (.iload_n 3, 1) := by decide +kernel
theorem dX8_compress_164 : decode cX8_compress 164 = .ok (.iand, 1) := by decide +kernel
theorem dX8_compress_165 : decode cX8_compress 165 = .ok (.ixor, 1) := by decide +kernel
theorem dX8_compress_166 : decode cX8_compress 166 = .ok (.iload_n 2, 1) := by decide +kernel
theorem dX8_compress_167 : decode cX8_compress 167 = .ok (.iload_n 3, 1) := by decide +kernel
theorem dX8_compress_168 : decode cX8_compress 168 = .ok (.iand, 1) := by decide +kernel
theorem dX8_compress_169 : decode cX8_compress 169 = .ok (.ixor, 1) := by decide +kernel
theorem dX8_compress_170 : decode cX8_compress 170 = .ok (.istore 14, 2) := by decide +kernel
theorem dX8_compress_172 : decode cX8_compress 172 = .ok (.iload 7, 2) := by decide +kernel
theorem dX8_compress_174 : decode cX8_compress 174 = .ok (.istore 8, 2) := by decide +kernel
theorem dX8_compress_176 : decode cX8_compress 176 = .ok (.iload 6, 2) := by decide +kernel
theorem dX8_compress_178 : decode cX8_compress 178 = .ok (.istore 7, 2) := by decide +kernel
theorem dX8_compress_180 : decode cX8_compress 180 = .ok (.iload 5, 2) := by decide +kernel
theorem dX8_compress_182 : decode cX8_compress 182 = .ok (.istore 6, 2) := by decide +kernel
theorem dX8_compress_184 : decode cX8_compress 184 = .ok (.iload 4, 2) := by decide +kernel
theorem dX8_compress_186 : decode cX8_compress 186 = .ok (.iload 12, 2) := by decide +kernel
theorem dX8_compress_188 : decode cX8_compress 188 = .ok (.iadd, 1) := by decide +kernel
theorem dX8_compress_189 : decode cX8_compress 189 = .ok (.istore 5, 2) := by decide +kernel
theorem dX8_compress_191 : decode cX8_compress 191 = .ok (.iload_n 3, 1) := by decide +kernel
theorem dX8_compress_192 : decode cX8_compress 192 = .ok (.istore 4, 2) := by decide +kernel
theorem dX8_compress_194 : decode cX8_compress 194 = .ok (.iload_n 2, 1) := by decide +kernel
theorem dX8_compress_195 : decode cX8_compress 195 = .ok (.istore_n 3, 1) := by decide +kernel
theorem dX8_compress_196 : decode cX8_compress 196 = .ok (.iload_n 1, 1) := by decide +kernel
theorem dX8_compress_197 : decode cX8_compress 197 = .ok (.istore_n 2, 1) := by decide +kernel
theorem dX8_compress_198 : decode cX8_compress 198 = .ok (.iload 12, 2) := by decide +kernel
theorem dX8_compress_200 : decode cX8_compress 200 = .ok (.iload 13, 2) := by decide +kernel
theorem dX8_compress_202 : decode cX8_compress 202 = .ok (.iadd, 1) := by decide +kernel
theorem dX8_compress_203 : decode cX8_compress 203 = .ok (.iload 14, 2) := by decide +kernel
theorem dX8_compress_205 : decode cX8_compress 205 = .ok (.iadd, 1) := by decide +kernel
theorem dX8_compress_206 : decode cX8_compress 206 = .ok (.istore_n 1, 1) := by decide +kernel
theorem dX8_compress_207 : decode cX8_compress 207 = .ok (.iinc 9 1, 3) := by decide +kernel
theorem dX8_compress_210 : decode cX8_compress 210 = .ok (.goto (-144), 3) := by decide +kernel
theorem dX8_compress_213 : decode cX8_compress 213 = .ok (.aload_n 0, 1) := by decide +kernel
theorem dX8_compress_214 : decode cX8_compress 214 = .ok (.getfield 7, 3) := by decide +kernel
theorem dX8_compress_217 : decode cX8_compress 217 = .ok (.iconst 0, 1) := by decide +kernel
theorem dX8_compress_218 : decode cX8_compress 218 = .ok (.dup2, 1) := by decide +kernel
theorem dX8_compress_219 : decode cX8_compress 219 = .ok (.iaload, 1) := by decide +kernel
theorem dX8_compress_220 : decode cX8_compress 220 = .ok (.iload_n 1, 1) := by decide +kernel
theorem dX8_compress_221 : decode cX8_compress 221 = .ok (.iadd, 1) := by decide +kernel
theorem dX8_compress_222 : decode cX8_compress 222 = .ok (.iastore, 1) := by decide +kernel
theorem dX8_compress_223 : decode cX8_compress 223 = .ok (.aload_n 0, 1) := by decide +kernel
theorem dX8_compress_224 : decode cX8_compress 224 = .ok (.getfield 7, 3) := by decide +kernel
theorem dX8_compress_227 : decode cX8_compress 227 = .ok (.iconst 1, 1) := by decide +kernel
theorem dX8_compress_228 : decode cX8_compress 228 = .ok (.dup2, 1) := by decide +kernel
theorem dX8_compress_229 : decode cX8_compress 229 = .ok (.iaload, 1) := by decide +kernel
theorem dX8_compress_230 : decode cX8_compress 230 = .ok (.iload_n 2, 1) := by decide +kernel
theorem dX8_compress_231 : decode cX8_compress 231 = .ok (.iadd, 1) := by decide +kernel
theorem dX8_compress_232 : decode cX8_compress 232 = .ok (.iastore, 1) := by decide +kernel
theorem dX8_compress_233 : decode cX8_compress 233 = .ok (.aload_n 0, 1) := by decide +kernel
theorem dX8_compress_234 : decode cX8_compress 234 = .ok (.getfield 7, 3) := by decide +kernel
theorem dX8_compress_237 : decode cX8_compress 237 = .ok (.iconst 2, 1) := by decide +kernel
theorem dX8_compress_238 : decode cX8_compress 238 = .ok (.dup2, 1) := by decide +kernel
theorem dX8_compress_239 : decode cX8_compress 239 = .ok (.iaload, 1) := by decide +kernel
theorem dX8_compress_240 : decode cX8_compress 240 = .ok (.iload_n 3, 1) := by decide +kernel
theorem dX8_compress_241 : decode cX8_compress 241 = .ok (.iadd, 1) := by decide +kernel
theorem dX8_compress_242 : decode cX8_compress 242 = .ok (.iastore, 1) := by decide +kernel
theorem dX8_compress_243 : decode cX8_compress 243 = .ok (.aload_n 0, 1) := by decide +kernel
theorem dX8_compress_244 : decode cX8_compress 244 = .ok (.getfield 7, 3) := by decide +kernel
theorem dX8_compress_247 : decode cX8_compress 247 = .ok (.iconst 3, 1) := by decide +kernel
theorem dX8_compress_248 : decode cX8_compress 248 = .ok (.dup2, 1) := by decide +kernel
theorem dX8_compress_249 : decode cX8_compress 249 = .ok (.iaload, 1) := by decide +kernel
theorem dX8_compress_250 : decode cX8_compress 250 = .ok (.iload 4, 2) := by decide +kernel
theorem dX8_compress_252 : decode cX8_compress 252 = .ok (.iadd, 1) := by decide +kernel
theorem dX8_compress_253 : decode cX8_compress 253 = .ok (.iastore, 1) := by decide +kernel
theorem dX8_compress_254 : decode cX8_compress 254 = .ok (.aload_n 0, 1) := by decide +kernel
theorem dX8_compress_255 : decode cX8_compress 255 = .ok (.getfield 7, 3) := by decide +kernel
theorem dX8_compress_258 : decode cX8_compress 258 = .ok (.iconst 4, 1) := by decide +kernel
theorem dX8_compress_259 : decode cX8_compress 259 = .ok (.dup2, 1) := by decide +kernel
theorem dX8_compress_260 : decode cX8_compress 260 = .ok (.iaload, 1) := by decide +kernel
theorem dX8_compress_261 : decode cX8_compress 261 = .ok (.iload 5, 2) := by decide +kernel
theorem dX8_compress_263 : decode cX8_compress 263 = .ok (.iadd, 1) := by decide +kernel
theorem dX8_compress_264 : decode cX8_compress 264 = .ok (.iastore, 1) := by decide +kernel
theorem dX8_compress_265 : decode cX8_compress 265 = .ok (.aload_n 0, 1) := by decide +kernel
theorem dX8_compress_266 : decode cX8_compress 266 = .ok (.getfield 7, 3) := by decide +kernel
theorem dX8_compress_269 : decode cX8_compress 269 = .ok (.iconst 5, 1) := by decide +kernel
theorem dX8_compress_270 : decode cX8_compress 270 = .ok (.dup2, 1) := by decide +kernel
theorem dX8_compress_271 : decode cX8_compress 271 = .ok (.iaload, 1) := by decide +kernel
theorem dX8_compress_272 : decode cX8_compress 272 = .ok (.iload 6, 2) := by decide +kernel
theorem dX8_compress_274 : decode cX8_compress 274 = .ok (.iadd, 1) := by decide +kernel
theorem dX8_compress_275 : decode cX8_compress 275 = .ok (.iastore, 1) := by decide +kernel
theorem dX8_compress_276 : decode cX8_compress 276 = .ok (.aload_n 0, 1) := by decide +kernel
theorem dX8_compress_277 : decode cX8_compress 277 = .ok (.getfield 7, 3) := by decide +kernel
theorem dX8_compress_280 : decode cX8_compress 280 = .ok (.bipush 6, 2) := by decide +kernel
theorem dX8_compress_282 : decode cX8_compress 282 = .ok (.dup2, 1) := by decide +kernel
theorem dX8_compress_283 : decode cX8_compress 283 = .ok (.iaload, 1) := by decide +kernel
theorem dX8_compress_284 : decode cX8_compress 284 = .ok (.iload 7, 2) := by decide +kernel
theorem dX8_compress_286 : decode cX8_compress 286 = .ok (.iadd, 1) := by decide +kernel
theorem dX8_compress_287 : decode cX8_compress 287 = .ok (.iastore, 1) := by decide +kernel
theorem dX8_compress_288 : decode cX8_compress 288 = .ok (.aload_n 0, 1) := by decide +kernel
theorem dX8_compress_289 : decode cX8_compress 289 = .ok (.getfield 7, 3) := by decide +kernel
theorem dX8_compress_292 : decode cX8_compress 292 = .ok (.bipush 7, 2) := by decide +kernel
theorem dX8_compress_294 : decode cX8_compress 294 = .ok (.dup2, 1) := by decide +kernel
theorem dX8_compress_295 : decode cX8_compress 295 = .ok (.iaload, 1) := by decide +kernel
theorem dX8_compress_296 : decode cX8_compress 296 = .ok (.iload 8, 2) := by decide +kernel
theorem dX8_compress_298 : decode cX8_compress 298 = .ok (.iadd, 1) := by decide +kernel
theorem dX8_compress_299 : decode cX8_compress 299 = .ok (.iastore, 1) := by decide +kernel
theorem dX8_compress_300 : decode cX8_compress 300 = .ok (.return_, 1) := by decide +kernel
theorem dX9_init_0 : decode cX9_init 0 = .ok (.aload_n 0, 1) := by decide +kernel
theorem dX9_init_1 : decode cX9_init 1 = .ok (.invokespecial 1, 3) := by decide +kernel
theorem dX9_init_4 : decode cX9_init 4 = .ok (.aload_n 0, 1) := by decide +kernel
theorem dX9_init_5 : decode cX9_init 5 = .ok (.new 7, 3) := by decide +kernel
theorem dX9_init_8 : decode cX9_init 8 = .ok (.dup, 1) := by decide +kernel
theorem dX9_init_9 : decode cX9_init 9 = .ok (.invokespecial 9, 3) := by decide +kernel
theorem dX9_init_12 : decode cX9_init 12 = .ok (.putfield 10, 3) := by decide +kernel
theorem dX9_init_15 : decode cX9_init 15 = .ok (.aload_n 0, 1) := by decide +kernel
theorem dX9_init_16 : decode cX9_init 16 = .ok (.new 16, 3) := by decide +kernel
theorem dX9_init_19 : decode cX9_init 19 = .ok (.dup, 1) := by decide +kernel
theorem dX9_init_20 : decode cX9_init 20 = .ok (.invokespecial 18, 3) := by decide +kernel
theorem dX9_init_23 : decode cX9_init 23 = .ok (.putfield 19, 3) := by decide +kernel
theorem dX9_init_26 : decode cX9_init 26 = .ok (.aload_n 0, 1) := by decide +kernel
theorem dX9_init_27 : decode cX9_init 27 = .ok (.new 23, 3) := by decide +kernel
theorem dX9_init_30 : decode cX9_init 30 = .ok (.dup, 1) := by decide +kernel
theorem dX9_init_31 : decode cX9_init 31 = .ok (.aload_n 0, 1) := by decide +kernel
theorem dX9_init_32 : decode cX9_init 32 = .ok (.getfield 19, 3) := by decide +kernel
theorem dX9_init_35 : decode cX9_init 35 = .ok (.invokespecial 25, 3) := by decide +kernel
theorem dX9_init_38 : decode cX9_init 38 = .ok (.putfield 28, 3) := by decide +kernel
theorem dX9_init_41 : decode cX9_init 41 = .ok (.aload_n 0, 1) := by decide +kernel
theorem dX9_init_42 : decode cX9_init 42 = .ok (.new 32, 3) := by decide +kernel
theorem dX9_init_45 : decode cX9_init 45 = .ok (.dup, 1) := by decide +kernel
theorem dX9_init_46 : decode cX9_init 46 = .ok (.invokespecial 34, 3) := by decide +kernel
theorem dX9_init_49 : decode cX9_init 49 = .ok (.putfield 35, 3) := by decide +kernel
theorem dX9_init_52 : decode cX9_init 52 = .ok (.return_, 1) := by decide +kernel
theorem dX10_init_0 : decode cX10_init 0 = .ok (.aload_n 0, 1) := by decide +kernel
theorem dX10_init_1 : decode cX10_init 1 = .ok (.invokespecial 3, 3) := by decide +kernel
theorem dX10_init_4 : decode cX10_init 4 = .ok (.aload_n 0, 1) := by decide +kernel
theorem dX10_init_5 : decode cX10_init 5 = .ok (.bipush 32, 2) := by decide +kernel
theorem dX10_init_7 : decode cX10_init 7 = .ok (.newarray .byte, 2) := by decide +kernel
theorem dX10_init_9 : decode cX10_init 9 = .ok (.putfield 9, 3) := by decide +kernel
theorem dX10_init_12 : decode cX10_init 12 = .ok (.aload_n 0, 1) := by decide +kernel
theorem dX10_init_13 : decode cX10_init 13 = .ok (.bipush 32, 2) := by decide +kernel
theorem dX10_init_15 : decode cX10_init 15 = .ok (.newarray .byte, 2) := by decide +kernel
theorem dX10_init_17 : decode cX10_init 17 = .ok (.putfield 15, 3) := by decide +kernel
theorem dX10_init_20 : decode cX10_init 20 = .ok (.aload_n 0, 1) := by decide +kernel
theorem dX10_init_21 : decode cX10_init 21 = .ok (.new 18, 3) := by decide +kernel
theorem dX10_init_24 : decode cX10_init 24 = .ok (.dup, 1) := by decide +kernel
theorem dX10_init_25 : decode cX10_init 25 = .ok (.aload_n 1, 1) := by decide +kernel
theorem dX10_init_26 : decode cX10_init 26 = .ok (.getfield 20, 3) := by decide +kernel
theorem dX10_init_29 : decode cX10_init 29 = .ok (.invokespecial 26, 3) := by decide +kernel
theorem dX10_init_32 : decode cX10_init 32 = .ok (.putfield 29, 3) := by decide +kernel
theorem dX10_init_35 : decode cX10_init 35 = .ok (.aload_n 0, 1) := by decide +kernel
theorem dX10_init_36 : decode cX10_init 36 = .ok (.aload_n 1, 1) := by decide +kernel
theorem dX10_init_37 : decode cX10_init 37 = .ok (.getfield 33, 3) := by decide +kernel
theorem dX10_init_40 : decode cX10_init 40 = .ok (.putfield 37, 3) := by decide +kernel
theorem dX10_init_43 : decode cX10_init 43 = .ok (.aload_n 0, 1) := by decide +kernel
theorem dX10_init_44 : decode cX10_init 44 = .ok (.aload_n 1, 1) := by decide +kernel
theorem dX10_init_45 : decode cX10_init 45 = .ok (.getfield 38, 3) := by decide +kernel
theorem dX10_init_48 : decode cX10_init 48 = .ok (.putfield 42, 3) := by decide +kernel
theorem dX10_init_51 : decode cX10_init 51 = .ok (.return_, 1) := by decide +kernel
theorem dX10_initialize_0 : decode cX10_initialize 0 = .ok (.iconst 0, 1) := by decide +kernel
theorem dX10_initialize_1 : decode cX10_initialize 1 = .ok (.istore_n 1, 1) := by decide +kernel
theorem dX10_initialize_2 : decode cX10_initialize 2 = .ok (.iload_n 1, 1) := by decide +kernel
theorem dX10_initialize_3 : decode cX10_initialize 3 = .ok (.bipush 32, 2) := by decide +kernel
theorem dX10_initialize_5 : decode cX10_initialize 5 = .ok (.if_icmp .ge 34, 3) := by decide +kernel
theorem dX10_initialize_8 : decode cX10_initialize 8 = .ok (.aload_n 0, 1) := by decide +kernel
theorem dX10_initialize_9 : decode cX10_initialize 9 = .ok (.getfield 9, 3) := by decide +kernel
theorem dX10_initialize_12 : decode cX10_initialize 12 = .ok (.iload_n 1, 1) := by decide +kernel
theorem dX10_initialize_13 : decode cX10_initialize 13 = .ok (.ldc 43, 2) := by decide +kernel
theorem dX10_initialize_15 : decode cX10_initialize 15 = .ok (.iload_n 1, 1) := by decide +kernel
theorem dX10_initialize_16 : decode cX10_initialize 16 = .ok (.invokevirtual 45, 3) := by decide +kernel
theorem dX10_initialize_19 : decode cX10_initialize 19 = .ok (.i2b, 1) := by decide +kernel
theorem dX10_initialize_20 : decode cX10_initialize 20 = .ok (.bastore, 1) := by decide +kernel
theorem dX10_initialize_21 : decode cX10_initialize 21 = .ok (.aload_n 0, 1) := by decide +kernel
theorem dX10_initialize_22 : decode cX10_initialize 22 = .ok (.getfield 15, 3) := by decide +kernel
theorem dX10_initialize_25 : decode cX10_initialize 25 = .ok (.iload_n 1, 1) := by decide +kernel
theorem dX10_initialize_26 : decode cX10_initialize 26 = .ok (.aload_n 0, 1) := by decide +kernel
theorem dX10_initialize_27 : decode cX10_initialize 27 = .ok (.getfield 9, 3) := by decide +kernel
theorem dX10_initialize_30 : decode cX10_initialize 30 = .ok (.iload_n 1, 1) := by decide +kernel
theorem dX10_initialize_31 : decode cX10_initialize 31 = .ok (.baload, 1) := by decide +kernel
theorem dX10_initialize_32 : decode cX10_initialize 32 = .ok (.bastore, 1) := by decide +kernel
theorem dX10_initialize_33 : decode cX10_initialize 33 = .ok (.iinc 1 1, 3) := by decide +kernel
theorem dX10_initialize_36 : decode cX10_initialize 36 = .ok (.goto (-34), 3) := by decide +kernel
theorem dX10_initialize_39 : decode cX10_initialize 39 = .ok (.aload_n 0, 1) := by decide +kernel
theorem dX10_initialize_40 : decode cX10_initialize 40 = .ok (.getfield 29, 3) := by decide +kernel
theorem dX10_initialize_43 : decode cX10_initialize 43 = .ok (.invokevirtual 51, 3) := by decide +kernel
theorem dX10_initialize_46 : decode cX10_initialize 46 = .ok (.return_, 1) := by decide +kernel
theorem dX10_copyFrom_0 : decode cX10_copyFrom 0 = .ok (.aload_n 1, 1) := by decide +kernel
theorem dX10_copyFrom_1 : decode cX10_copyFrom 1 = .ok (.getfield 9, 3) := by decide +kernel
theorem dX10_copyFrom_4 : decode cX10_copyFrom 4 = .ok (.iconst 0, 1) := by decide +kernel
theorem dX10_copyFrom_5 : decode cX10_copyFrom 5 = .ok (.aload_n 0, 1) := by decide +kernel
theorem dX10_copyFrom_6 : decode cX10_copyFrom 6 = .ok (.getfield 9, 3) := by decide +kernel
theorem dX10_copyFrom_9 : decode cX10_copyFrom 9 = .ok (.iconst 0, 1) := by decide +kernel
theorem dX10_copyFrom_10 : decode cX10_copyFrom 10 = .ok (.bipush 32, 2) := by decide +kernel
theorem dX10_copyFrom_12 : decode cX10_copyFrom 12 = .ok (.invokestatic 54, 3) := by decide +kernel
theorem dX10_copyFrom_15 : decode cX10_copyFrom 15 = .ok (.aload_n 1, 1) := by decide +kernel
theorem dX10_copyFrom_16 : decode cX10_copyFrom 16 = .ok (.getfield 15, 3) := by decide +kernel
theorem dX10_copyFrom_19 : decode cX10_copyFrom 19 = .ok (.iconst 0, 1) := by decide +kernel
theorem dX10_copyFrom_20 : decode cX10_copyFrom 20 = .ok (.aload_n 0, 1) := by decide +kernel
theorem dX10_copyFrom_21 : decode cX10_copyFrom 21 = .ok (.getfield 15, 3) := by decide +kernel
theorem dX10_copyFrom_24 : decode cX10_copyFrom 24 = .ok (.iconst 0, 1) := by decide +kernel
theorem dX10_copyFrom_25 : decode cX10_copyFrom 25 = .ok (.bipush 32, 2) := by decide +kernel
theorem dX10_copyFrom_27 : decode cX10_copyFrom 27 = .ok (.invokestatic 54, 3) := by decide +kernel
theorem dX10_copyFrom_30 : decode cX10_copyFrom 30 = .ok (.aload_n 0, 1) := by decide +kernel
theorem dX10_copyFrom_31 : decode cX10_copyFrom 31 = .ok (.getfield 29, 3) := by decide +kernel
theorem dX10_copyFrom_34 : decode cX10_copyFrom 34 = .ok (.aload_n 1, 1) := by decide +kernel
theorem dX10_copyFrom_35 : decode cX10_copyFrom 35 = .ok (.getfield 29, 3) := by decide +kernel
theorem dX10_copyFrom_38 : decode cX10_copyFrom 38 = .ok (.invokevirtual 60, 3) := by decide +kernel
theorem dX10_copyFrom_41 : decode cX10_copyFrom 41 = .ok (.return_, 1) := by decide +kernel
theorem dX10_mixKey_0 : decode cX10_mixKey 0 = .ok (.aload_n 0, 1) := by decide +kernel
theorem dX10_mixKey_1 : decode cX10_mixKey 1 = .ok (.getfield 42, 3) := by decide +kernel
theorem dX10_mixKey_4 : decode cX10_mixKey 4 = .ok (.aload_n 0, 1) := by decide +kernel
theorem dX10_mixKey_5 : decode cX10_mixKey 5 = .ok (.getfield 15, 3) := by decide +kernel
theorem dX10_mixKey_8 : decode cX10_mixKey 8 = .ok (.aload_n 1, 1) := by decide +kernel
theorem dX10_mixKey_9 : decode cX10_mixKey 9 = .ok (.bipush 32, 2) := by decide +kernel
theorem dX10_mixKey_11 : decode cX10_mixKey 11 = .ok (.aload_n 0, 1) := by decide +kernel
theorem dX10_mixKey_12 : decode cX10_mixKey 12 = .ok (.getfield 15, 3) := by decide +kernel
theorem dX10_mixKey_15 : decode cX10_mixKey 15 = .ok (.aload_n 0, 1) := by decide +kernel
theorem dX10_mixKey_16 : decode cX10_mixKey 16 = .ok (.getfield 29, 3) := by decide +kernel
theorem dX10_mixKey_19 : decode cX10_mixKey 19 = .ok (.getfield 64, 3) := by decide +kernel
theorem dX10_mixKey_22 : decode cX10_mixKey 22 = .ok (.invokevirtual 67, 3) := by decide +kernel
theorem dX10_mixKey_25 : decode cX10_mixKey 25 = .ok (.aload_n 0, 1) := by decide +kernel
theorem dX10_mixKey_26 : decode cX10_mixKey 26 = .ok (.getfield 29, 3) := by decide +kernel
theorem dX10_mixKey_29 : decode cX10_mixKey 29 = .ok (.invokevirtual 73, 3) := by decide +kernel
theorem dX10_mixKey_32 : decode cX10_mixKey 32 = .ok (.return_, 1) := by decide +kernel
theorem dX10_mixHash_0 : decode cX10_mixHash 0 = .ok (.aload_n 0, 1) := by decide +kernel
theorem dX10_mixHash_1 : decode cX10_mixHash 1 = .ok (.getfield 37, 3) := by decide +kernel
theorem dX10_mixHash_4 : decode cX10_mixHash 4 = .ok (.invokevirtual 76, 3) := by decide +kernel
theorem dX10_mixHash_7 : decode cX10_mixHash 7 = .ok (.aload_n 0, 1) := by decide +kernel
theorem dX10_mixHash_8 : decode cX10_mixHash 8 = .ok (.getfield 37, 3) := by decide +kernel
theorem dX10_mixHash_11 : decode cX10_mixHash 11 = .ok (.aload_n 0, 1) := by decide +kernel
theorem dX10_mixHash_12 : decode cX10_mixHash 12 = .ok (.getfield 9, 3) := by decide +kernel
theorem dX10_mixHash_15 : decode cX10_mixHash 15 = .ok (.iconst 0, 1) := by decide +kernel
theorem dX10_mixHash_16 : decode cX10_mixHash 16 = .ok (.bipush 32, 2) := by decide +kernel
theorem dX10_mixHash_18 : decode cX10_mixHash 18 = .ok (.invokevirtual 81, 3) := by decide +kernel
theorem dX10_mixHash_21 : decode cX10_mixHash 21 = .ok (.aload_n 0, 1) := by decide +kernel
theorem dX10_mixHash_22 : decode cX10_mixHash 22 = .ok (.getfield 37, 3) := by decide +kernel
theorem dX10_mixHash_25 : decode cX10_mixHash 25 = .ok (.aload_n 1, 1) := by decide +kernel
theorem dX10_mixHash_26 : decode cX10_mixHash 26 = .ok (.iload_n 2, 1) := by decide +kernel
theorem dX10_mixHash_27 : decode cX10_mixHash 27 = .ok (.iload_n 3, 1) := by decide +kernel
theorem dX10_mixHash_28 : decode cX10_mixHash 28 = .ok (.invokevirtual 81, 3) := by decide +kernel
theorem dX10_mixHash_31 : decode cX10_mixHash 31 = .ok (.aload_n 0, 1) := by decide +kernel
theorem dX10_mixHash_32 : decode cX10_mixHash 32 = .ok (.getfield 37, 3) := by decide +kernel
theorem dX10_mixHash_35 : decode cX10_mixHash 35 = .ok (.aload_n 0, 1) := by decide +kernel
theorem dX10_mixHash_36 : decode cX10_mixHash 36 = .ok (.getfield 9, 3) := by decide +kernel
theorem dX10_mixHash_39 : decode cX10_mixHash 39 = .ok (.invokevirtual 85, 3) := by decide +kernel
theorem dX10_mixHash_42 : decode cX10_mixHash 42 = .ok (.return_, 1) := by decide +kernel
theorem dX10_encryptAndHash_0 : decode cX10_encryptAndHash 0 = .ok (.aload_n 0, 1) := by decide +kernel
theorem dX10_encryptAndHash_1 : decode cX10_encryptAndHash 1 = .ok (.getfield 29, 3) := by decide +kernel
theorem dX10_encryptAndHash_4 : decode cX10_encryptAndHash 4 = .ok (.aload_n 0, 1) := by decide +kernel
theorem dX10_encryptAndHash_5 : decode cX10_encryptAndHash 5 = .ok (.getfield 9, 3) := by decide +kernel
theorem dX10_encryptAndHash_8 : decode cX10_encryptAndHash 8 = .ok (.aload_n 1, 1) := by decide +kernel
theorem dX10_encryptAndHash_9 : decode cX10_encryptAndHash 9 = .ok (.iload_n 2, 1) := by decide +kernel
theorem dX10_encryptAndHash_10 : decode cX10_encryptAndHash 10 = .ok (.iload_n 3, 1) := by decide +kernel
theorem dX10_encryptAndHash_11 : decode cX10_encryptAndHash 11 = .ok (.aload 4, 2) := by decide +kernel
theorem dX10_encryptAndHash_13 : decode cX10_encryptAndHash 13 = .ok (.iload 5, 2) := by decide +kernel
theorem dX10_encryptAndHash_15 : decode cX10_encryptAndHash 15 = .ok (.invokevirtual 89, 3) := by decide +kernel
theorem dX10_encryptAndHash_18 : decode cX10_encryptAndHash 18 = .ok (.istore 6, 2) := by decide +kernel
theorem dX10_encryptAndHash_20 : decode cX10_encryptAndHash 20 = .ok (.aload_n 0, 1) := by decide +kernel
theorem dX10_encryptAndHash_21 : decode cX10_encryptAndHash 21 = .ok (.aload 4, 2) := by decide +kernel
theorem dX10_encryptAndHash_23 : decode cX10_encryptAndHash 23 = .ok (.iload 5, 2) := by decide +kernel
theorem dX10_encryptAndHash_25 : decode cX10_encryptAndHash 25 = .ok (.iload 6, 2) := by decide +kernel
theorem dX10_encryptAndHash_27 : decode cX10_encryptAndHash 27 = .ok (.invokevirtual 93, 3) := by decide +kernel
theorem dX10_encryptAndHash_30 : decode cX10_encryptAndHash 30 = .ok (.iload 6, 2) := by decide +kernel
theorem dX10_encryptAndHash_32 : decode cX10_encryptAndHash 32 = .ok (.ireturn, 1) := by decide +kernel
theorem dX10_decryptAndHash_0 : decode cX10_decryptAndHash 0 = .ok (.aload_n 0, 1) := by decide +kernel
theorem dX10_decryptAndHash_1 : decode cX10_decryptAndHash 1 = .ok (.getfield 29, 3) := by decide +kernel
theorem dX10_decryptAndHash_4 : decode cX10_decryptAndHash 4 = .ok (.aload_n 0, 1) := by decide +kernel
theorem dX10_decryptAndHash_5 : decode cX10_decryptAndHash 5 = .ok (.getfield 9, 3) := by decide +kernel
theorem dX10_decryptAndHash_8 : decode cX10_decryptAndHash 8 = .ok (.aload_n 1, 1) := by decide +kernel
theorem dX10_decryptAndHash_9 : decode cX10_decryptAndHash 9 = .ok (.iload_n 2, 1) := by decide +kernel
theorem dX10_decryptAndHash_10 : decode cX10_decryptAndHash 10 = .ok (.iload_n 3, 1) := by decide +kernel
theorem dX10_decryptAndHash_11 : decode cX10_decryptAndHash 11 = .ok (.aload 4, 2) := by decide +kernel
theorem dX10_decryptAndHash_13 : decode cX10_decryptAndHash 13 = .ok (.iload 5, 2) := by decide +kernel
theorem dX10_decryptAndHash_15 : decode cX10_decryptAndHash 15 = .ok (.invokevirtual 96, 3) := by decide +kernel
theorem dX10_decryptAndHash_18 : decode cX10_decryptAndHash 18 = .ok (.istore 6, 2) := by decide +kernel
theorem dX10_decryptAndHash_20 : decode cX10_decryptAndHash 20 = .ok (.iload 6, 2) := by decide +kernel
theorem dX10_decryptAndHash_22 : decode cX10_decryptAndHash 22 = .ok (.iconst (-1), 1) := by decide +kernel
theorem dX10_decryptAndHash_23 : decode cX10_decryptAndHash 23 = .ok (.if_icmp .eq 10, 3) := by decide +kernel
theorem dX10_decryptAndHash_26 : decode cX10_decryptAndHash 26 = .ok (.aload_n 0, 1) := by decide +kernel
theorem dX10_decryptAndHash_27 : decode cX10_decryptAndHash 27 = .ok (.aload_n 1, 1) := by decide +kernel
theorem dX10_decryptAndHash_28 : decode cX10_decryptAndHash 28 = .ok (.iload_n 2, 1) := by decide +kernel
theorem dX10_decryptAndHash_29 : decode cX10_decryptAndHash 29 = .ok (.iload_n 3, 1) := by decide +kernel
theorem dX10_decryptAndHash_30 : decode cX10_decryptAndHash 30 = .ok (.invokevirtual 93, 3) := by decide +kernel
theorem dX10_decryptAndHash_33 : decode cX10_decryptAndHash 33 = .ok (.iload 6, 2) := by decide +kernel
theorem dX10_decryptAndHash_35 : decode cX10_decryptAndHash 35 = .ok (.ireturn, 1) := by decide +kernel
theorem dX10_split_0 : decode cX10_split 0 = .ok (.aload_n 0, 1) := by decide +kernel
theorem dX10_split_1 : decode cX10_split 1 = .ok (.getfield 42, 3) := by decide +kernel
theorem dX10_split_4 : decode cX10_split 4 = .ok (.aload_n 0, 1) := by decide +kernel
theorem dX10_split_5 : decode cX10_split 5 = .ok (.getfield 15, 3) := by decide +kernel
theorem dX10_split_8 : decode cX10_split 8 = .ok (.getstatic 99, 3) := by decide +kernel
theorem dX10_split_11 : decode cX10_split 11 = .ok (.iconst 0, 1) := by decide +kernel
theorem dX10_split_12 : decode cX10_split 12 = .ok (.aload_n 1, 1) := by decide +kernel
theorem dX10_split_13 : decode cX10_split 13 = .ok (.getfield 64, 3) := by decide +kernel
theorem dX10_split_16 : decode cX10_split 16 = .ok (.aload_n 2, 1) := by decide +kernel
theorem dX10_split_17 : decode cX10_split 17 = .ok (.getfield 64, 3) := by decide +kernel
theorem dX10_split_20 : decode cX10_split 20 = .ok (.invokevirtual 67, 3) := by decide +kernel
theorem dX10_split_23 : decode cX10_split 23 = .ok (.aload_n 1, 1) := by decide +kernel
theorem dX10_split_24 : decode cX10_split 24 = .ok (.invokevirtual 73, 3) := by decide +kernel
theorem dX10_split_27 : decode cX10_split 27 = .ok (.aload_n 2, 1) := by decide +kernel
theorem dX10_split_28 : decode cX10_split 28 = .ok (.invokevirtual 73, 3) := by decide +kernel
theorem dX10_split_31 : decode cX10_split 31 = .ok (.return_, 1) := by decide +kernel
theorem dX11_init_0 : decode cX11_init 0 = .ok (.aload_n 0, 1) := by decide +kernel
theorem dX11_init_1 : decode cX11_init 1 = .ok (.invokespecial 3, 3) := by decide +kernel
theorem dX11_init_4 : decode cX11_init 4 = .ok (.aload_n 0, 1) := by decide +kernel
theorem dX11_init_5 : decode cX11_init 5 = .ok (.sipush 1000, 3) := by decide +kernel
theorem dX11_init_8 : decode cX11_init 8 = .ok (.newarray .byte, 2) := by decide +kernel
theorem dX11_init_10 : decode cX11_init 10 = .ok (.putfield 9, 3) := by decide +kernel
theorem dX11_init_13 : decode cX11_init 13 = .ok (.aload_n 0, 1) := by decide +kernel
theorem dX11_init_14 : decode cX11_init 14 = .ok (.iconst 0, 1) := by decide +kernel
theorem dX11_init_15 : decode cX11_init 15 = .ok (.putfield 13, 3) := by decide +kernel
theorem dX11_init_18 : decode cX11_init 18 = .ok (.aload_n 0, 1) := by decide +kernel
theorem dX11_init_19 : decode cX11_init 19 = .ok (.sipush 1000, 3) := by decide +kernel
theorem dX11_init_22 : decode cX11_init 22 = .ok (.newarray .byte, 2) := by decide +kernel
theorem dX11_init_24 : decode cX11_init 24 = .ok (.putfield 17, 3) := by decide +kernel
theorem dX11_init_27 : decode cX11_init 27 = .ok (.aload_n 0, 1) := by decide +kernel
theorem dX11_init_28 : decode cX11_init 28 = .ok (.iconst 0, 1) := by decide +kernel
theorem dX11_init_29 : decode cX11_init 29 = .ok (.putfield 20, 3) := by decide +kernel
theorem dX11_init_32 : decode cX11_init 32 = .ok (.aload_n 0, 1) := by decide +kernel
theorem dX11_init_33 : decode cX11_init 33 = .ok (.bipush 8, 2) := by decide +kernel
theorem dX11_init_35 : decode cX11_init 35 = .ok (.bipush 32, 2) := by decide +kernel
theorem dX11_init_37 : decode cX11_init 37 = .ok (.multianewarray 23 2, 4) := by decide +kernel
theorem dX11_init_41 : decode cX11_init 41 = .ok (.putfield 25, 3) := by decide +kernel
theorem dX11_init_44 : decode cX11_init 44 = .ok (.aload_n 0, 1) := by decide +kernel
theorem dX11_init_45 : decode cX11_init 45 = .ok (.new 28, 3) := by decide +kernel
theorem dX11_init_48 : decode cX11_init 48 = .ok (.dup, 1) := by decide +kernel
theorem dX11_init_49 : decode cX11_init 49 = .ok (.invokespecial 30, 3) := by decide +kernel
theorem dX11_init_52 : decode cX11_init 52 = .ok (.putfield 31, 3) := by decide +kernel
theorem dX11_init_55 : decode cX11_init 55 = .ok (.aload_n 0, 1) := by decide +kernel
theorem dX11_init_56 : decode cX11_init 56 = .ok (.iconst 4, 1) := by decide +kernel
theorem dX11_init_57 : decode cX11_init 57 = .ok (.anewarray 35, 3) := by decide +kernel
theorem dX11_init_60 : decode cX11_init 60 = .ok (.putfield 37, 3) := by decide +kernel
theorem dX11_init_63 : decode cX11_init 63 = .ok (.new 41, 3) := by decide +kernel
theorem dX11_init_66 : decode cX11_init 66 = .ok (.dup, 1) := by decide +kernel
theorem dX11_init_67 : decode cX11_init 67 = .ok (.aload_n 0, 1) := by decide +kernel
theorem dX11_init_68 : decode cX11_init 68 = .ok (.getfield 31, 3) := by decide +kernel
theorem dX11_init_71 : decode cX11_init 71 = .ok (.invokespecial 43, 3) := by decide +kernel
theorem dX11_init_74 : decode cX11_init 74 = .ok (.astore_n 1, 1) := by decide +kernel
theorem dX11_init_75 : decode cX11_init 75 = .ok (.iconst 0, 1) := by decide +kernel
theorem dX11_init_76 : decode cX11_init 76 = .ok (.istore_n 2, 1) := by decide +kernel
theorem dX11_init_77 : decode cX11_init 77 = .ok (.iload_n 2, 1) := by decide +kernel
theorem dX11_init_78 : decode cX11_init 78 = .ok (.iconst 4, 1) := by decide +kernel
theorem dX11_init_79 : decode cX11_init 79 = .ok (.if_icmp .ge 27, 3) := by decide +kernel
theorem dX11_init_82 : decode cX11_init 82 = .ok (.aload_n 0, 1) := by decide +kernel
theorem dX11_init_83 : decode cX11_init 83 = .ok (.getfield 37, 3) := by decide +kernel
theorem dX11_init_86 : decode cX11_init 86 = .ok (.iload_n 2, 1) := by decide +kernel
theorem dX11_init_87 : decode cX11_init 87 = .ok (.new 35, 3) := by decide +kernel
theorem dX11_init_90 : decode cX11_init 90 = .ok (.dup, 1) := by decide +kernel
theorem dX11_init_91 : decode cX11_init 91 = .ok (.aload_n 0, 1) := by decide +kernel
theorem dX11_init_92 : decode cX11_init 92 = .ok (.getfield 31, 3) := by decide +kernel
theorem dX11_init_95 : decode cX11_init 95 = .ok (.aload_n 1, 1) := by decide +kernel
theorem dX11_init_96 : decode cX11_init 96 = .ok (.invokespecial 46, 3) := by decide +kernel
theorem dX11_init_99 : decode cX11_init 99 = .ok (.aastore, 1) := by decide +kernel
theorem dX11_init_100 : decode cX11_init 100 = .ok (.iinc 2 1, 3) := by decide +kernel
theorem dX11_init_103 : decode cX11_init 103 = .ok (.goto (-26), 3) := by decide +kernel
theorem dX11_init_106 : decode cX11_init 106 = .ok (.return_, 1) := by decide +kernel
theorem dX11_feed_0 : decode cX11_feed 0 = .ok (.aload_n 0, 1) := by decide +kernel
theorem dX11_feed_1 : decode cX11_feed 1 = .ok (.getfield 13, 3) := by decide +kernel
theorem dX11_feed_4 : decode cX11_feed 4 = .ok (.sipush 980, 3) := by decide +kernel
theorem dX11_feed_7 : decode cX11_feed 7 = .ok (.if_icmp .le 5, 3) := by decide +kernel
theorem dX11_feed_10 : decode cX11_feed 10 = .ok (.iconst (-1), 1) := by decide +kernel
theorem dX11_feed_11 : decode cX11_feed 11 = .ok (.ireturn, 1) := by decide +kernel
theorem dX11_feed_12 : decode cX11_feed 12 = .ok (.iload_n 1, 1) := by decide +kernel
theorem dX11_feed_13 : decode cX11_feed 13 = .ok (.aload_n 0, 1) := by decide +kernel
theorem dX11_feed_14 : decode cX11_feed 14 = .ok (.getfield 9, 3) := by decide +kernel
theorem dX11_feed_17 : decode cX11_feed 17 = .ok (.aload_n 0, 1) := by decide +kernel
theorem dX11_feed_18 : decode cX11_feed 18 = .ok (.getfield 13, 3) := by decide +kernel
theorem dX11_feed_21 : decode cX11_feed 21 = .ok (.invokestatic 49, 3) := by decide +kernel
theorem dX11_feed_24 : decode cX11_feed 24 = .ok (.iload_n 2, 1) := by decide +kernel
theorem dX11_feed_25 : decode cX11_feed 25 = .ok (.aload_n 0, 1) := by decide +kernel
theorem dX11_feed_26 : decode cX11_feed 26 = .ok (.getfield 9, 3) := by decide +kernel
theorem dX11_feed_29 : decode cX11_feed 29 = .ok (.aload_n 0, 1) := by decide +kernel
theorem dX11_feed_30 : decode cX11_feed 30 = .ok (.getfield 13, 3) := by decide +kernel
theorem dX11_feed_33 : decode cX11_feed 33 = .ok (.iconst 4, 1) := by decide +kernel
theorem dX11_feed_34 : decode cX11_feed 34 = .ok (.iadd, 1) := by decide +kernel
theorem dX11_feed_35 : decode cX11_feed 35 = .ok (.invokestatic 49, 3) := by decide +kernel
theorem dX11_feed_38 : decode cX11_feed 38 = .ok (.iload_n 3, 1) := by decide +kernel
theorem dX11_feed_39 : decode cX11_feed 39 = .ok (.aload_n 0, 1) := by decide +kernel
theorem dX11_feed_40 : decode cX11_feed 40 = .ok (.getfield 9, 3) := by decide +kernel
theorem dX11_feed_43 : decode cX11_feed 43 = .ok (.aload_n 0, 1) := by decide +kernel
theorem dX11_feed_44 : decode cX11_feed 44 = .ok (.getfield 13, 3) := by decide +kernel
theorem dX11_feed_47 : decode cX11_feed 47 = .ok (.bipush 8, 2) := by decide +kernel
theorem dX11_feed_49 : decode cX11_feed 49 = .ok (.iadd, 1) := by decide +kernel
theorem dX11_feed_50 : decode cX11_feed 50 = .ok (.invokestatic 49, 3) := by decide +kernel
theorem dX11_feed_53 : decode cX11_feed 53 = .ok (.iload 4, 2) := by decide +kernel
theorem dX11_feed_55 : decode cX11_feed 55 = .ok (.aload_n 0, 1) := by decide +kernel
theorem dX11_feed_56 : decode cX11_feed 56 = .ok (.getfield 9, 3) := by decide +kernel
theorem dX11_feed_59 : decode cX11_feed 59 = .ok (.aload_n 0, 1) := by decide +kernel
theorem dX11_feed_60 : decode cX11_feed 60 = .ok (.getfield 13, 3) := by decide +kernel
theorem dX11_feed_63 : decode cX11_feed 63 = .ok (.bipush 12, 2) := by decide +kernel
theorem dX11_feed_65 : decode cX11_feed 65 = .ok (.iadd, 1) := by decide +kernel
theorem dX11_feed_66 : decode cX11_feed 66 = .ok (.invokestatic 49, 3) := by decide +kernel
theorem dX11_feed_69 : decode cX11_feed 69 = .ok (.iload 5, 2) := by decide +kernel
theorem dX11_feed_71 : decode cX11_feed 71 = .ok (.aload_n 0, 1) := by decide +kernel
theorem dX11_feed_72 : decode cX11_feed 72 = .ok (.getfield 9, 3) := by decide +kernel
theorem dX11_feed_75 : decode cX11_feed 75 = .ok (.aload_n 0, 1) := by decide +kernel
theorem dX11_feed_76 : decode cX11_feed 76 = .ok (.getfield 13, 3) := by decide +kernel
theorem dX11_feed_79 : decode cX11_feed 79 = .ok (.bipush 16, 2) := by decide +kernel
theorem dX11_feed_81 : decode cX11_feed 81 = .ok (.iadd, 1) := by decide +kernel
theorem dX11_feed_82 : decode cX11_feed 82 = .ok (.invokestatic 49, 3) := by decide +kernel
theorem dX11_feed_85 : decode cX11_feed 85 = .ok (.aload_n 0, 1) := by decide +kernel
theorem dX11_feed_86 : decode cX11_feed 86 = .ok (.dup, 1) := by decide +kernel
theorem dX11_feed_87 : decode cX11_feed 87 = .ok (.getfield 13, 3) := by decide +kernel
theorem dX11_feed_90 : decode cX11_feed 90 = .ok (.bipush 20, 2) := by decide +kernel
theorem dX11_feed_92 : decode cX11_feed 92 = .ok (.iadd, 1) := by decide +kernel
theorem dX11_feed_93 : decode cX11_feed 93 = .ok (.putfield 13, 3) := by decide +kernel
theorem dX11_feed_96 : decode cX11_feed 96 = .ok (.aload_n 0, 1) := by decide +kernel
theorem dX11_feed_97 : decode cX11_feed 97 = .ok (.getfield 13, 3) := by decide +kernel
theorem dX11_feed_100 : decode cX11_feed 100 = .ok (.ireturn, 1) := by decide +kernel
theorem dX11_turn_0 : decode cX11_turn 0 = .ok (.aload_n 0, 1) := by decide +kernel
theorem dX11_turn_1 : decode cX11_turn 1 = .ok (.getfield 17, 3) := by decide +kernel
theorem dX11_turn_4 : decode cX11_turn 4 = .ok (.iconst 0, 1) := by decide +kernel
theorem dX11_turn_5 : decode cX11_turn 5 = .ok (.aload_n 0, 1) := by decide +kernel
theorem dX11_turn_6 : decode cX11_turn 6 = .ok (.getfield 9, 3) := by decide +kernel
theorem dX11_turn_9 : decode cX11_turn 9 = .ok (.iconst 0, 1) := by decide +kernel
theorem dX11_turn_10 : decode cX11_turn 10 = .ok (.aload_n 0, 1) := by decide +kernel
theorem dX11_turn_11 : decode cX11_turn 11 = .ok (.getfield 20, 3) := by decide +kernel
theorem dX11_turn_14 : decode cX11_turn 14 = .ok (.invokestatic 55, 3) := by decide +kernel
theorem dX11_turn_17 : decode cX11_turn 17 = .ok (.aload_n 0, 1) := by decide +kernel
theorem dX11_turn_18 : decode cX11_turn 18 = .ok (.aload_n 0, 1) := by decide +kernel
theorem dX11_turn_19 : decode cX11_turn 19 = .ok (.getfield 20, 3) := by decide +kernel
theorem dX11_turn_22 : decode cX11_turn 22 = .ok (.putfield 13, 3) := by decide +kernel
theorem dX11_turn_25 : decode cX11_turn 25 = .ok (.aload_n 0, 1) := by decide +kernel
theorem dX11_turn_26 : decode cX11_turn 26 = .ok (.getfield 13, 3) := by decide +kernel
theorem dX11_turn_29 : decode cX11_turn 29 = .ok (.ireturn, 1) := by decide +kernel
theorem dX11_patch_0 : decode cX11_patch 0 = .ok (.iload_n 1, 1) := by decide +kernel
theorem dX11_patch_1 : decode cX11_patch 1 = .ok (.ifCond .lt 11, 3) := by decide +kernel
theorem dX11_patch_4 : decode cX11_patch 4 = .ok (.iload_n 1, 1) := by decide +kernel
theorem dX11_patch_5 : decode cX11_patch 5 = .ok (.aload_n 0, 1) := by decide +kernel
theorem dX11_patch_6 : decode cX11_patch 6 = .ok (.getfield 13, 3) := by decide +kernel
theorem dX11_patch_9 : decode cX11_patch 9 = .ok (.if_icmp .lt 5, 3) := by decide +kernel
theorem dX11_patch_12 : decode cX11_patch 12 = .ok (.iconst 0, 1) := by decide +kernel
theorem dX11_patch_13 : decode cX11_patch 13 = .ok (.ireturn, 1) := by decide +kernel
theorem dX11_patch_14 : decode cX11_patch 14 = .ok (.aload_n 0, 1) := by decide +kernel
theorem dX11_patch_15 : decode cX11_patch 15 = .ok (.getfield 9, 3) := by decide +kernel
theorem dX11_patch_18 : decode cX11_patch 18 = .ok (.iload_n 1, 1) := by decide +kernel
theorem dX11_patch_19 : decode cX11_patch 19 = .ok (.iload_n 2, 1) := by decide +kernel
theorem dX11_patch_20 : decode cX11_patch 20 = .ok (.i2b, 1) := by decide +kernel
theorem dX11_patch_21 : decode cX11_patch 21 = .ok (.bastore, 1) := by decide +kernel
theorem dX11_patch_22 : decode cX11_patch 22 = .ok (.iconst 1, 1) := by decide +kernel
theorem dX11_patch_23 : decode cX11_patch 23 = .ok (.ireturn, 1) := by decide +kernel
theorem dX11_key_0 : decode cX11_key 0 = .ok (.iload_n 1, 1) := by decide +kernel
theorem dX11_key_1 : decode cX11_key 1 = .ok (.invokestatic 61, 3) := by decide +kernel
theorem dX11_key_4 : decode cX11_key 4 = .ok (.ifCond .eq 12, 3) := by decide +kernel
theorem dX11_key_7 : decode cX11_key 7 = .ok (.aload_n 0, 1) := by decide +kernel
theorem dX11_key_8 : decode cX11_key 8 = .ok (.bipush 32, 2) := by decide +kernel
theorem dX11_key_10 : decode cX11_key 10 = .ok (.invokevirtual 65, 3) := by decide +kernel
theorem dX11_key_13 : decode cX11_key 13 = .ok (.ifCond .ne 5, 3) := by decide +kernel
theorem dX11_key_16 : decode cX11_key 16 = .ok (.iconst 0, 1) := by decide +kernel
theorem dX11_key_17 : decode cX11_key 17 = .ok (.ireturn, 1) := by decide +kernel
theorem dX11_key_18 : decode cX11_key 18 = .ok (.aload_n 0, 1) := by decide +kernel
theorem dX11_key_19 : decode cX11_key 19 = .ok (.getfield 9, 3) := by decide +kernel
theorem dX11_key_22 : decode cX11_key 22 = .ok (.iconst 0, 1) := by decide +kernel
theorem dX11_key_23 : decode cX11_key 23 = .ok (.aload_n 0, 1) := by decide +kernel
theorem dX11_key_24 : decode cX11_key 24 = .ok (.getfield 25, 3) := by decide +kernel
theorem dX11_key_27 : decode cX11_key 27 = .ok (.iload_n 1, 1) := by decide +kernel
theorem dX11_key_28 : decode cX11_key 28 = .ok (.aaload, 1) := by decide +kernel
theorem dX11_key_29 : decode cX11_key 29 = .ok (.iconst 0, 1) := by decide +kernel
theorem dX11_key_30 : decode cX11_key 30 = .ok (.bipush 32, 2) := by decide +kernel
theorem dX11_key_32 : decode cX11_key 32 = .ok (.invokestatic 55, 3) := by decide +kernel
theorem dX11_key_35 : decode cX11_key 35 = .ok (.aload_n 0, 1) := by decide +kernel
theorem dX11_key_36 : decode cX11_key 36 = .ok (.invokevirtual 68, 3) := by decide +kernel
theorem dX11_key_39 : decode cX11_key 39 = .ok (.iconst 1, 1) := by decide +kernel
theorem dX11_key_40 : decode cX11_key 40 = .ok (.ireturn, 1) := by decide +kernel
theorem dX11_take_0 : decode cX11_take 0 = .ok (.iload_n 1, 1) := by decide +kernel
theorem dX11_take_1 : decode cX11_take 1 = .ok (.invokestatic 61, 3) := by decide +kernel
theorem dX11_take_4 : decode cX11_take 4 = .ok (.ifCond .eq 12, 3) := by decide +kernel
theorem dX11_take_7 : decode cX11_take 7 = .ok (.aload_n 0, 1) := by decide +kernel
theorem dX11_take_8 : decode cX11_take 8 = .ok (.getfield 20, 3) := by decide +kernel
theorem dX11_take_11 : decode cX11_take 11 = .ok (.bipush 32, 2) := by decide +kernel
theorem dX11_take_13 : decode cX11_take 13 = .ok (.if_icmp .ge 5, 3) := by decide +kernel
theorem dX11_take_16 : decode cX11_take 16 = .ok (.iconst 0, 1) := by decide +kernel
theorem dX11_take_17 : decode cX11_take 17 = .ok (.ireturn, 1) := by decide +kernel
theorem dX11_take_18 : decode cX11_take 18 = .ok (.aload_n 0, 1) := by decide +kernel
theorem dX11_take_19 : decode cX11_take 19 = .ok (.getfield 17, 3) := by decide +kernel
theorem dX11_take_22 : decode cX11_take 22 = .ok (.iconst 0, 1) := by decide +kernel
theorem dX11_take_23 : decode cX11_take 23 = .ok (.aload_n 0, 1) := by decide +kernel
theorem dX11_take_24 : decode cX11_take 24 = .ok (.getfield 25, 3) := by decide +kernel
theorem dX11_take_27 : decode cX11_take 27 = .ok (.iload_n 1, 1) := by decide +kernel
theorem dX11_take_28 : decode cX11_take 28 = .ok (.aaload, 1) := by decide +kernel
theorem dX11_take_29 : decode cX11_take 29 = .ok (.iconst 0, 1) := by decide +kernel
theorem dX11_take_30 : decode cX11_take 30 = .ok (.bipush 32, 2) := by decide +kernel
theorem dX11_take_32 : decode cX11_take 32 = .ok (.invokestatic 55, 3) := by decide +kernel
theorem dX11_take_35 : decode cX11_take 35 = .ok (.iconst 1, 1) := by decide +kernel
theorem dX11_take_36 : decode cX11_take 36 = .ok (.ireturn, 1) := by decide +kernel
theorem dX11_curve_0 : decode cX11_curve 0 = .ok (.iload_n 1, 1) := by decide +kernel
theorem dX11_curve_1 : decode cX11_curve 1 = .ok (.invokestatic 61, 3) := by decide +kernel
theorem dX11_curve_4 : decode cX11_curve 4 = .ok (.ifCond .ne 6, 3) := by decide +kernel
theorem dX11_curve_7 : decode cX11_curve 7 = .ok (.bipush (-2), 2) := by decide +kernel
theorem dX11_curve_9 : decode cX11_curve 9 = .ok (.ireturn, 1) := by decide +kernel
theorem dX11_curve_10 : decode cX11_curve 10 = .ok (.iload_n 2, 1) := by decide +kernel
theorem dX11_curve_11 : decode cX11_curve 11 = .ok (.ifCond .eq 24, 3) := by decide +kernel
theorem dX11_curve_14 : decode cX11_curve 14 = .ok (.aload_n 0, 1) := by decide +kernel
theorem dX11_curve_15 : decode cX11_curve 15 = .ok (.aload_n 0, 1) := by decide +kernel
theorem dX11_curve_16 : decode cX11_curve 16 = .ok (.getfield 31, 3) := by decide +kernel
theorem dX11_curve_19 : decode cX11_curve 19 = .ok (.getfield 71, 3) := by decide +kernel
theorem dX11_curve_22 : decode cX11_curve 22 = .ok (.aload_n 0, 1) := by decide +kernel
theorem dX11_curve_23 : decode cX11_curve 23 = .ok (.getfield 25, 3) := by decide +kernel
theorem dX11_curve_26 : decode cX11_curve 26 = .ok (.iload_n 1, 1) := by decide +kernel
theorem dX11_curve_27 : decode cX11_curve 27 = .ok (.aaload, 1) := by decide +kernel
theorem dX11_curve_28 : decode cX11_curve 28 = .ok (.invokevirtual 75, 3) := by decide +kernel
theorem dX11_curve_31 : decode cX11_curve 31 = .ok (.invokevirtual 81, 3) := by decide +kernel
theorem dX11_curve_34 : decode cX11_curve 34 = .ok (.ireturn, 1) := by decide +kernel
theorem dX11_curve_35 : decode cX11_curve 35 = .ok (.aload_n 0, 1) := by decide +kernel
theorem dX11_curve_36 : decode cX11_curve 36 = .ok (.bipush 32, 2) := by decide +kernel
theorem dX11_curve_38 : decode cX11_curve 38 = .ok (.invokevirtual 65, 3) := by decide +kernel
theorem dX11_curve_41 : decode cX11_curve 41 = .ok (.ifCond .ne 6, 3) := by decide +kernel
theorem dX11_curve_44 : decode cX11_curve 44 = .ok (.bipush (-2), 2) := by decide +kernel
theorem dX11_curve_46 : decode cX11_curve 46 = .ok (.ireturn, 1) := by decide +kernel
theorem dX11_curve_47 : decode cX11_curve 47 = .ok (.aload_n 0, 1) := by decide +kernel
theorem dX11_curve_48 : decode cX11_curve 48 = .ok (.invokevirtual 68, 3) := by decide +kernel
theorem dX11_curve_51 : decode cX11_curve 51 = .ok (.aload_n 0, 1) := by decide +kernel
theorem dX11_curve_52 : decode cX11_curve 52 = .ok (.aload_n 0, 1) := by decide +kernel
theorem dX11_curve_53 : decode cX11_curve 53 = .ok (.getfield 31, 3) := by decide +kernel
theorem dX11_curve_56 : decode cX11_curve 56 = .ok (.getfield 71, 3) := by decide +kernel
theorem dX11_curve_59 : decode cX11_curve 59 = .ok (.aload_n 0, 1) := by decide +kernel
theorem dX11_curve_60 : decode cX11_curve 60 = .ok (.getfield 25, 3) := by decide +kernel
theorem dX11_curve_63 : decode cX11_curve 63 = .ok (.iload_n 1, 1) := by decide +kernel
theorem dX11_curve_64 : decode cX11_curve 64 = .ok (.aaload, 1) := by decide +kernel
theorem dX11_curve_65 : decode cX11_curve 65 = .ok (.aload_n 0, 1) := by decide +kernel
theorem dX11_curve_66 : decode cX11_curve 66 = .ok (.getfield 9, 3) := by decide +kernel
theorem dX11_curve_69 : decode cX11_curve 69 = .ok (.invokevirtual 85, 3) := by decide +kernel
theorem dX11_curve_72 : decode cX11_curve 72 = .ok (.invokevirtual 81, 3) := by decide +kernel
theorem dX11_curve_75 : decode cX11_curve 75 = .ok (.ireturn, 1) := by decide +kernel
theorem dX11_hash_0 : decode cX11_hash 0 = .ok (.aload_n 0, 1) := by decide +kernel
theorem dX11_hash_1 : decode cX11_hash 1 = .ok (.iload_n 1, 1) := by decide +kernel
theorem dX11_hash_2 : decode cX11_hash 2 = .ok (.invokevirtual 65, 3) := by decide +kernel
theorem dX11_hash_5 : decode cX11_hash 5 = .ok (.ifCond .ne 6, 3) := by decide +kernel
theorem dX11_hash_8 : decode cX11_hash 8 = .ok (.bipush (-2), 2) := by decide +kernel
theorem dX11_hash_10 : decode cX11_hash 10 = .ok (.ireturn, 1) := by decide +kernel
theorem dX11_hash_11 : decode cX11_hash 11 = .ok (.aload_n 0, 1) := by decide +kernel
theorem dX11_hash_12 : decode cX11_hash 12 = .ok (.invokevirtual 68, 3) := by decide +kernel
theorem dX11_hash_15 : decode cX11_hash 15 = .ok (.aload_n 0, 1) := by decide +kernel
theorem dX11_hash_16 : decode cX11_hash 16 = .ok (.getfield 31, 3) := by decide +kernel
theorem dX11_hash_19 : decode cX11_hash 19 = .ok (.getfield 89, 3) := by decide +kernel
theorem dX11_hash_22 : decode cX11_hash 22 = .ok (.invokevirtual 93, 3) := by decide +kernel
theorem dX11_hash_25 : decode cX11_hash 25 = .ok (.aload_n 0, 1) := by decide +kernel
theorem dX11_hash_26 : decode cX11_hash 26 = .ok (.getfield 31, 3) := by decide +kernel
theorem dX11_hash_29 : decode cX11_hash 29 = .ok (.getfield 89, 3) := by decide +kernel
theorem dX11_hash_32 : decode cX11_hash 32 = .ok (.aload_n 0, 1) := by decide +kernel
theorem dX11_hash_33 : decode cX11_hash 33 = .ok (.getfield 9, 3) := by decide +kernel
theorem dX11_hash_36 : decode cX11_hash 36 = .ok (.iconst 0, 1) := by decide +kernel
theorem dX11_hash_37 : decode cX11_hash 37 = .ok (.iload_n 1, 1) := by decide +kernel
theorem dX11_hash_38 : decode cX11_hash 38 = .ok (.invokevirtual 98, 3) := by decide +kernel
theorem dX11_hash_41 : decode cX11_hash 41 = .ok (.aload_n 0, 1) := by decide +kernel
theorem dX11_hash_42 : decode cX11_hash 42 = .ok (.getfield 31, 3) := by decide +kernel
theorem dX11_hash_45 : decode cX11_hash 45 = .ok (.getfield 89, 3) := by decide +kernel
theorem dX11_hash_48 : decode cX11_hash 48 = .ok (.aload_n 0, 1) := by decide +kernel
theorem dX11_hash_49 : decode cX11_hash 49 = .ok (.getfield 17, 3) := by decide +kernel
theorem dX11_hash_52 : decode cX11_hash 52 = .ok (.invokevirtual 102, 3) := by decide +kernel
theorem dX11_hash_55 : decode cX11_hash 55 = .ok (.aload_n 0, 1) := by decide +kernel
theorem dX11_hash_56 : decode cX11_hash 56 = .ok (.bipush 32, 2) := by decide +kernel
theorem dX11_hash_58 : decode cX11_hash 58 = .ok (.invokevirtual 106, 3) := by decide +kernel
theorem dX11_hash_61 : decode cX11_hash 61 = .ok (.ireturn, 1) := by decide +kernel
theorem dX11_mac_0 : decode cX11_mac 0 = .ok (.iload_n 1, 1) := by decide +kernel
theorem dX11_mac_1 : decode cX11_mac 1 = .ok (.invokestatic 61, 3) := by decide +kernel
theorem dX11_mac_4 : decode cX11_mac 4 = .ok (.ifCond .eq 11, 3) := by decide +kernel
theorem dX11_mac_7 : decode cX11_mac 7 = .ok (.aload_n 0, 1) := by decide +kernel
theorem dX11_mac_8 : decode cX11_mac 8 = .ok (.iload_n 2, 1) := by decide +kernel
theorem dX11_mac_9 : decode cX11_mac 9 = .ok (.invokevirtual 65, 3) := by decide +kernel
theorem dX11_mac_12 : decode cX11_mac 12 = .ok (.ifCond .ne 6, 3) := by decide +kernel
theorem dX11_mac_15 : decode cX11_mac 15 = .ok (.bipush (-2), 2) := by decide +kernel
theorem dX11_mac_17 : decode cX11_mac 17 = .ok (.ireturn, 1) := by decide +kernel
theorem dX11_mac_18 : decode cX11_mac 18 = .ok (.aload_n 0, 1) := by decide +kernel
theorem dX11_mac_19 : decode cX11_mac 19 = .ok (.invokevirtual 68, 3) := by decide +kernel
theorem dX11_mac_22 : decode cX11_mac 22 = .ok (.aload_n 0, 1) := by decide +kernel
theorem dX11_mac_23 : decode cX11_mac 23 = .ok (.getfield 31, 3) := by decide +kernel
theorem dX11_mac_26 : decode cX11_mac 26 = .ok (.getfield 110, 3) := by decide +kernel
theorem dX11_mac_29 : decode cX11_mac 29 = .ok (.aload_n 0, 1) := by decide +kernel
theorem dX11_mac_30 : decode cX11_mac 30 = .ok (.getfield 25, 3) := by decide +kernel
theorem dX11_mac_33 : decode cX11_mac 33 = .ok (.iload_n 1, 1) := by decide +kernel
theorem dX11_mac_34 : decode cX11_mac 34 = .ok (.aaload, 1) := by decide +kernel
theorem dX11_mac_35 : decode cX11_mac 35 = .ok (.invokevirtual 114, 3) := by decide +kernel
theorem dX11_mac_38 : decode cX11_mac 38 = .ok (.aload_n 0, 1) := by decide +kernel
theorem dX11_mac_39 : decode cX11_mac 39 = .ok (.getfield 31, 3) := by decide +kernel
theorem dX11_mac_42 : decode cX11_mac 42 = .ok (.getfield 110, 3) := by decide +kernel
theorem dX11_mac_45 : decode cX11_mac 45 = .ok (.aload_n 0, 1) := by decide +kernel
theorem dX11_mac_46 : decode cX11_mac 46 = .ok (.getfield 9, 3) := by decide +kernel
theorem dX11_mac_49 : decode cX11_mac 49 = .ok (.iconst 0, 1) := by decide +kernel
theorem dX11_mac_50 : decode cX11_mac 50 = .ok (.iload_n 2, 1) := by decide +kernel
theorem dX11_mac_51 : decode cX11_mac 51 = .ok (.invokevirtual 119, 3) := by decide +kernel
theorem dX11_mac_54 : decode cX11_mac 54 = .ok (.aload_n 0, 1) := by decide +kernel
theorem dX11_mac_55 : decode cX11_mac 55 = .ok (.getfield 31, 3) := by decide +kernel
theorem dX11_mac_58 : decode cX11_mac 58 = .ok (.getfield 110, 3) := by decide +kernel
theorem dX11_mac_61 : decode cX11_mac 61 = .ok (.aload_n 0, 1) := by decide +kernel
theorem dX11_mac_62 : decode cX11_mac 62 = .ok (.getfield 17, 3) := by decide +kernel
theorem dX11_mac_65 : decode cX11_mac 65 = .ok (.invokevirtual 120, 3) := by decide +kernel
theorem dX11_mac_68 : decode cX11_mac 68 = .ok (.aload_n 0, 1) := by decide +kernel
theorem dX11_mac_69 : decode cX11_mac 69 = .ok (.bipush 32, 2) := by decide +kernel
theorem dX11_mac_71 : decode cX11_mac 71 = .ok (.invokevirtual 106, 3) := by decide +kernel
theorem dX11_mac_74 : decode cX11_mac 74 = .ok (.ireturn, 1) := by decide +kernel
theorem dX11_seal_0 : decode cX11_seal 0 = .ok (.iload_n 1, 1) := by decide +kernel
theorem dX11_seal_1 : decode cX11_seal 1 = .ok (.invokestatic 61, 3) := by decide +kernel
theorem dX11_seal_4 : decode cX11_seal 4 = .ok (.ifCond .eq 22, 3) := by decide +kernel
theorem dX11_seal_7 : decode cX11_seal 7 = .ok (.iload 5, 2) := by decide +kernel
theorem dX11_seal_9 : decode cX11_seal 9 = .ok (.sipush 984, 3) := by decide +kernel
theorem dX11_seal_12 : decode cX11_seal 12 = .ok (.if_icmp .gt 14, 3) := by decide +kernel
theorem dX11_seal_15 : decode cX11_seal 15 = .ok (.aload_n 0, 1) := by decide +kernel
theorem dX11_seal_16 : decode cX11_seal 16 = .ok (.iload 4, 2) := by decide +kernel
theorem dX11_seal_18 : decode cX11_seal 18 = .ok (.iload 5, 2) := by decide +kernel
theorem dX11_seal_20 : decode cX11_seal 20 = .ok (.invokevirtual 121, 3) := by decide +kernel
theorem dX11_seal_23 : decode cX11_seal 23 = .ok (.ifCond .ne 6, 3) := by decide +kernel
theorem dX11_seal_26 : decode cX11_seal 26 = .ok (.bipush (-2), 2) := by decide +kernel
theorem dX11_seal_28 : decode cX11_seal 28 = .ok (.ireturn, 1) := by decide +kernel
theorem dX11_seal_29 : decode cX11_seal 29 = .ok (.aload_n 0, 1) := by decide +kernel
theorem dX11_seal_30 : decode cX11_seal 30 = .ok (.invokevirtual 68, 3) := by decide +kernel
theorem dX11_seal_33 : decode cX11_seal 33 = .ok (.aload_n 0, 1) := by decide +kernel
theorem dX11_seal_34 : decode cX11_seal 34 = .ok (.getfield 31, 3) := by decide +kernel
theorem dX11_seal_37 : decode cX11_seal 37 = .ok (.getfield 125, 3) := by decide +kernel
theorem dX11_seal_40 : decode cX11_seal 40 = .ok (.aload_n 0, 1) := by decide +kernel
theorem dX11_seal_41 : decode cX11_seal 41 = .ok (.getfield 25, 3) := by decide +kernel
theorem dX11_seal_44 : decode cX11_seal 44 = .ok (.iload_n 1, 1) := by decide +kernel
theorem dX11_seal_45 : decode cX11_seal 45 = .ok (.aaload, 1) := by decide +kernel
theorem dX11_seal_46 : decode cX11_seal 46 = .ok (.lload_n 2, 1) := by decide +kernel
theorem dX11_seal_47 : decode cX11_seal 47 = .ok (.invokevirtual 129, 3) := by decide +kernel
theorem dX11_seal_50 : decode cX11_seal 50 = .ok (.aload_n 0, 1) := by decide +kernel
theorem dX11_seal_51 : decode cX11_seal 51 = .ok (.getfield 31, 3) := by decide +kernel
theorem dX11_seal_54 : decode cX11_seal 54 = .ok (.getfield 125, 3) := by decide +kernel
theorem dX11_seal_57 : decode cX11_seal 57 = .ok (.aload_n 0, 1) := by decide +kernel
theorem dX11_seal_58 : decode cX11_seal 58 = .ok (.getfield 9, 3) := by decide +kernel
theorem dX11_seal_61 : decode cX11_seal 61 = .ok (.iload 4, 2) := by decide +kernel
theorem dX11_seal_63 : decode cX11_seal 63 = .ok (.invokevirtual 134, 3) := by decide +kernel
theorem dX11_seal_66 : decode cX11_seal 66 = .ok (.aload_n 0, 1) := by decide +kernel
theorem dX11_seal_67 : decode cX11_seal 67 = .ok (.getfield 31, 3) := by decide +kernel
theorem dX11_seal_70 : decode cX11_seal 70 = .ok (.getfield 125, 3) := by decide +kernel
theorem dX11_seal_73 : decode cX11_seal 73 = .ok (.aload_n 0, 1) := by decide +kernel
theorem dX11_seal_74 : decode cX11_seal 74 = .ok (.getfield 9, 3) := by decide +kernel
theorem dX11_seal_77 : decode cX11_seal 77 = .ok (.iload 4, 2) := by decide +kernel
theorem dX11_seal_79 : decode cX11_seal 79 = .ok (.iload 5, 2) := by decide +kernel
theorem dX11_seal_81 : decode cX11_seal 81 = .ok (.aload_n 0, 1) := by decide +kernel
theorem dX11_seal_82 : decode cX11_seal 82 = .ok (.getfield 17, 3) := by decide +kernel
theorem dX11_seal_85 : decode cX11_seal 85 = .ok (.iconst 0, 1) := by decide +kernel
theorem dX11_seal_86 : decode cX11_seal 86 = .ok (.invokevirtual 138, 3) := by decide +kernel
theorem dX11_seal_89 : decode cX11_seal 89 = .ok (.aload_n 0, 1) := by decide +kernel
theorem dX11_seal_90 : decode cX11_seal 90 = .ok (.iload 5, 2) := by decide +kernel
theorem dX11_seal_92 : decode cX11_seal 92 = .ok (.bipush 16, 2) := by decide +kernel
theorem dX11_seal_94 : decode cX11_seal 94 = .ok (.iadd, 1) := by decide +kernel
theorem dX11_seal_95 : decode cX11_seal 95 = .ok (.invokevirtual 106, 3) := by decide +kernel
theorem dX11_seal_98 : decode cX11_seal 98 = .ok (.ireturn, 1) := by decide +kernel
theorem dX11_open_0 : decode cX11_open 0 = .ok (.iload_n 1, 1) := by decide +kernel
theorem dX11_open_1 : decode cX11_open 1 = .ok (.invokestatic 61, 3) := by decide +kernel
theorem dX11_open_4 : decode cX11_open 4 = .ok (.ifCond .eq 14, 3) := by decide +kernel
theorem dX11_open_7 : decode cX11_open 7 = .ok (.aload_n 0, 1) := by decide +kernel
theorem dX11_open_8 : decode cX11_open 8 = .ok (.iload 4, 2) := by decide +kernel
theorem dX11_open_10 : decode cX11_open 10 = .ok (.iload 5, 2) := by decide +kernel
theorem dX11_open_12 : decode cX11_open 12 = .ok (.invokevirtual 121, 3) := by decide +kernel
theorem dX11_open_15 : decode cX11_open 15 = .ok (.ifCond .ne 6, 3) := by decide +kernel
theorem dX11_open_18 : decode cX11_open 18 = .ok (.bipush (-2), 2) := by decide +kernel
theorem dX11_open_20 : decode cX11_open 20 = .ok (.ireturn, 1) := by decide +kernel
theorem dX11_open_21 : decode cX11_open 21 = .ok (.aload_n 0, 1) := by decide +kernel
theorem dX11_open_22 : decode cX11_open 22 = .ok (.invokevirtual 68, 3) := by decide +kernel
theorem dX11_open_25 : decode cX11_open 25 = .ok (.aload_n 0, 1) := by decide +kernel
theorem dX11_open_26 : decode cX11_open 26 = .ok (.getfield 31, 3) := by decide +kernel
theorem dX11_open_29 : decode cX11_open 29 = .ok (.getfield 125, 3) := by decide +kernel
theorem dX11_open_32 : decode cX11_open 32 = .ok (.aload_n 0, 1) := by decide +kernel
theorem dX11_open_33 : decode cX11_open 33 = .ok (.getfield 25, 3) := by decide +kernel
theorem dX11_open_36 : decode cX11_open 36 = .ok (.iload_n 1, 1) := by decide +kernel
theorem dX11_open_37 : decode cX11_open 37 = .ok (.aaload, 1) := by decide +kernel
theorem dX11_open_38 : decode cX11_open 38 = .ok (.lload_n 2, 1) := by decide +kernel
theorem dX11_open_39 : decode cX11_open 39 = .ok (.invokevirtual 129, 3) := by decide +kernel
theorem dX11_open_42 : decode cX11_open 42 = .ok (.aload_n 0, 1) := by decide +kernel
theorem dX11_open_43 : decode cX11_open 43 = .ok (.getfield 31, 3) := by decide +kernel
theorem dX11_open_46 : decode cX11_open 46 = .ok (.getfield 125, 3) := by decide +kernel
theorem dX11_open_49 : decode cX11_open 49 = .ok (.aload_n 0, 1) := by decide +kernel
theorem dX11_open_50 : decode cX11_open 50 = .ok (.getfield 9, 3) := by decide +kernel
theorem dX11_open_53 : decode cX11_open 53 = .ok (.iload 4, 2) := by decide +kernel
theorem dX11_open_55 : decode cX11_open 55 = .ok (.invokevirtual 134, 3) := by decide +kernel
theorem dX11_open_58 : decode cX11_open 58 = .ok (.aload_n 0, 1) := by decide +kernel
theorem dX11_open_59 : decode cX11_open 59 = .ok (.aload_n 0, 1) := by decide +kernel
theorem dX11_open_60 : decode cX11_open 60 = .ok (.getfield 31, 3) := by decide +kernel
theorem dX11_open_63 : decode cX11_open 63 = .ok (.getfield 125, 3) := by decide +kernel
theorem dX11_open_66 : decode cX11_open 66 = .ok (.aload_n 0, 1) := by decide +kernel
theorem dX11_open_67 : decode cX11_open 67 = .ok (.getfield 9, 3) := by decide +kernel
theorem dX11_open_70 : decode cX11_open 70 = .ok (.iload 4, 2) := by decide +kernel
theorem dX11_open_72 : decode cX11_open 72 = .ok (.iload 5, 2) := by decide +kernel
theorem dX11_open_74 : decode cX11_open 74 = .ok (.aload_n 0, 1) := by decide +kernel
theorem dX11_open_75 : decode cX11_open 75 = .ok (.getfield 17, 3) := by decide +kernel
theorem dX11_open_78 : decode cX11_open 78 = .ok (.iconst 0, 1) := by decide +kernel
theorem dX11_open_79 : decode cX11_open 79 = .ok (.invokevirtual 142, 3) := by decide +kernel
theorem dX11_open_82 : decode cX11_open 82 = .ok (.ifCond .eq 11, 3) := by decide +kernel
theorem dX11_open_85 : decode cX11_open 85 = .ok (.iload 5, 2) := by decide +kernel
theorem dX11_open_87 : decode cX11_open 87 = .ok (.bipush 16, 2) := by decide +kernel
theorem dX11_open_89 : decode cX11_open 89 = .ok (.isub, 1) := by decide +kernel
theorem dX11_open_90 : decode cX11_open 90 = .ok (.goto 4, 3) := by decide +kernel
theorem dX11_open_93 : decode cX11_open 93 = .ok (.iconst (-1), 1) := by decide +kernel
theorem dX11_open_94 : decode cX11_open 94 = .ok (.invokevirtual 106, 3) := by decide +kernel
theorem dX11_open_97 : decode cX11_open 97 = .ok (.ireturn, 1) := by decide +kernel
theorem dX11_start_0 : decode cX11_start 0 = .ok (.iload_n 1, 1) := by decide +kernel
theorem dX11_start_1 : decode cX11_start 1 = .ok (.invokestatic 146, 3) := by decide +kernel
theorem dX11_start_4 : decode cX11_start 4 = .ok (.ifCond .eq 27, 3) := by decide +kernel
theorem dX11_start_7 : decode cX11_start 7 = .ok (.iload_n 3, 1) := by decide +kernel
theorem dX11_start_8 : decode cX11_start 8 = .ok (.invokestatic 61, 3) := by decide +kernel
theorem dX11_start_11 : decode cX11_start 11 = .ok (.ifCond .eq 20, 3) := by decide +kernel
theorem dX11_start_14 : decode cX11_start 14 = .ok (.iload 4, 2) := by decide +kernel
theorem dX11_start_16 : decode cX11_start 16 = .ok (.invokestatic 61, 3) := by decide +kernel
theorem dX11_start_19 : decode cX11_start 19 = .ok (.ifCond .eq 12, 3) := by decide +kernel
theorem dX11_start_22 : decode cX11_start 22 = .ok (.aload_n 0, 1) := by decide +kernel
theorem dX11_start_23 : decode cX11_start 23 = .ok (.iload 5, 2) := by decide +kernel
theorem dX11_start_25 : decode cX11_start 25 = .ok (.invokevirtual 65, 3) := by decide +kernel
theorem dX11_start_28 : decode cX11_start 28 = .ok (.ifCond .ne 5, 3) := by decide +kernel
theorem dX11_start_31 : decode cX11_start 31 = .ok (.iconst 0, 1) := by decide +kernel
theorem dX11_start_32 : decode cX11_start 32 = .ok (.ireturn, 1) := by decide +kernel
theorem dX11_start_33 : decode cX11_start 33 = .ok (.aload_n 0, 1) := by decide +kernel
theorem dX11_start_34 : decode cX11_start 34 = .ok (.invokevirtual 68, 3) := by decide +kernel
theorem dX11_start_37 : decode cX11_start 37 = .ok (.aload_n 0, 1) := by decide +kernel
theorem dX11_start_38 : decode cX11_start 38 = .ok (.getfield 37, 3) := by decide +kernel
theorem dX11_start_41 : decode cX11_start 41 = .ok (.iload_n 1, 1) := by decide +kernel
theorem dX11_start_42 : decode cX11_start 42 = .ok (.aaload, 1) := by decide +kernel
theorem dX11_start_43 : decode cX11_start 43 = .ok (.iload_n 2, 1) := by decide +kernel
theorem dX11_start_44 : decode cX11_start 44 = .ok (.aload_n 0, 1) := by decide +kernel
theorem dX11_start_45 : decode cX11_start 45 = .ok (.getfield 25, 3) := by decide +kernel
theorem dX11_start_48 : decode cX11_start 48 = .ok (.iload_n 3, 1) := by decide +kernel
theorem dX11_start_49 : decode cX11_start 49 = .ok (.aaload, 1) := by decide +kernel
theorem dX11_start_50 : decode cX11_start 50 = .ok (.aload_n 0, 1) := by decide +kernel
theorem dX11_start_51 : decode cX11_start 51 = .ok (.getfield 25, 3) := by decide +kernel
theorem dX11_start_54 : decode cX11_start 54 = .ok (.iload 4, 2) := by decide +kernel
theorem dX11_start_56 : decode cX11_start 56 = .ok (.aaload, 1) := by decide +kernel
theorem dX11_start_57 : decode cX11_start 57 = .ok (.aload_n 0, 1) := by decide +kernel
theorem dX11_start_58 : decode cX11_start 58 = .ok (.getfield 9, 3) := by decide +kernel
theorem dX11_start_61 : decode cX11_start 61 = .ok (.iload 5, 2) := by decide +kernel
theorem dX11_start_63 : decode cX11_start 63 = .ok (.invokevirtual 149, 3) := by decide +kernel
theorem dX11_start_66 : decode cX11_start 66 = .ok (.iconst 1, 1) := by decide +kernel
theorem dX11_start_67 : decode cX11_start 67 = .ok (.ireturn, 1) := by decide +kernel
theorem dX11_write_0 : decode cX11_write 0 = .ok (.aload_n 0, 1) := by decide +kernel
theorem dX11_write_1 : decode cX11_write 1 = .ok (.iload_n 1, 1) := by decide +kernel
theorem dX11_write_2 : decode cX11_write 2 = .ok (.invokevirtual 152, 3) := by decide +kernel
theorem dX11_write_5 : decode cX11_write 5 = .ok (.ifCond .eq 18, 3) := by decide +kernel
theorem dX11_write_8 : decode cX11_write 8 = .ok (.iload_n 2, 1) := by decide +kernel
theorem dX11_write_9 : decode cX11_write 9 = .ok (.sipush 900, 3) := by decide +kernel
theorem dX11_write_12 : decode cX11_write 12 = .ok (.if_icmp .gt 11, 3) := by decide +kernel
theorem dX11_write_15 : decode cX11_write 15 = .ok (.aload_n 0, 1) := by decide +kernel
theorem dX11_write_16 : decode cX11_write 16 = .ok (.iload_n 2, 1) := by decide +kernel
theorem dX11_write_17 : decode cX11_write 17 = .ok (.invokevirtual 65, 3) := by decide +kernel
theorem dX11_write_20 : decode cX11_write 20 = .ok (.ifCond .ne 6, 3) := by decide +kernel
theorem dX11_write_23 : decode cX11_write 23 = .ok (.bipush (-2), 2) := by decide +kernel
theorem dX11_write_25 : decode cX11_write 25 = .ok (.ireturn, 1) := by decide +kernel
theorem dX11_write_26 : decode cX11_write 26 = .ok (.aload_n 0, 1) := by decide +kernel
theorem dX11_write_27 : decode cX11_write 27 = .ok (.invokevirtual 68, 3) := by decide +kernel
theorem dX11_write_30 : decode cX11_write 30 = .ok (.aload_n 0, 1) := by decide +kernel
theorem dX11_write_31 : decode cX11_write 31 = .ok (.getfield 37, 3) := by decide +kernel
theorem dX11_write_34 : decode cX11_write 34 = .ok (.iload_n 1, 1) := by decide +kernel
theorem dX11_write_35 : decode cX11_write 35 = .ok (.aaload, 1) := by decide +kernel
theorem dX11_write_36 : decode cX11_write 36 = .ok (.invokevirtual 155, 3) := by decide +kernel
theorem dX11_write_39 : decode cX11_write 39 = .ok (.ifCond .ne 5, 3) := by decide +kernel
theorem dX11_write_42 : decode cX11_write 42 = .ok (.iconst (-1), 1) := by decide +kernel
theorem dX11_write_43 : decode cX11_write 43 = .ok (.ireturn, 1) := by decide +kernel
theorem dX11_write_44 : decode cX11_write 44 = .ok (.aload_n 0, 1) := by decide +kernel
theorem dX11_write_45 : decode cX11_write 45 = .ok (.aload_n 0, 1) := by decide +kernel
theorem dX11_write_46 : decode cX11_write 46 = .ok (.getfield 37, 3) := by decide +kernel
theorem dX11_write_49 : decode cX11_write 49 = .ok (.iload_n 1, 1) := by decide +kernel
theorem dX11_write_50 : decode cX11_write 50 = .ok (.aaload, 1) := by decide +kernel
theorem dX11_write_51 : decode cX11_write 51 = .ok (.aload_n 0, 1) := by decide +kernel
theorem dX11_write_52 : decode cX11_write 52 = .ok (.getfield 9, 3) := by decide +kernel
theorem dX11_write_55 : decode cX11_write 55 = .ok (.iload_n 2, 1) := by decide +kernel
theorem dX11_write_56 : decode cX11_write 56 = .ok (.aload_n 0, 1) := by decide +kernel
theorem dX11_write_57 : decode cX11_write 57 = .ok (.getfield 17, 3) := by decide +kernel
theorem dX11_write_60 : decode cX11_write 60 = .ok (.invokevirtual 159, 3) := by decide +kernel
theorem dX11_write_63 : decode cX11_write 63 = .ok (.invokevirtual 106, 3) := by decide +kernel
theorem dX11_write_66 : decode cX11_write 66 = .ok (.ireturn, 1) := by decide +kernel
theorem dX11_read_0 : decode cX11_read 0 = .ok (.aload_n 0, 1) := by decide +kernel
theorem dX11_read_1 : decode cX11_read 1 = .ok (.iload_n 1, 1) := by decide +kernel
theorem dX11_read_2 : decode cX11_read 2 = .ok (.invokevirtual 152, 3) := by decide +kernel
theorem dX11_read_5 : decode cX11_read 5 = .ok (.ifCond .eq 11, 3) := by decide +kernel
theorem dX11_read_8 : decode cX11_read 8 = .ok (.aload_n 0, 1) := by decide +kernel
theorem dX11_read_9 : decode cX11_read 9 = .ok (.iload_n 2, 1) := by decide +kernel
theorem dX11_read_10 : decode cX11_read 10 = .ok (.invokevirtual 65, 3) := by decide +kernel
theorem dX11_read_13 : decode cX11_read 13 = .ok (.ifCond .ne 6, 3) := by decide +kernel
theorem dX11_read_16 : decode cX11_read 16 = .ok (.bipush (-2), 2) := by decide +kernel
theorem dX11_read_18 : decode cX11_read 18 = .ok (.ireturn, 1) := by decide +kernel
theorem dX11_read_19 : decode cX11_read 19 = .ok (.aload_n 0, 1) := by decide +kernel
theorem dX11_read_20 : decode cX11_read 20 = .ok (.invokevirtual 68, 3) := by decide +kernel
theorem dX11_read_23 : decode cX11_read 23 = .ok (.aload_n 0, 1) := by decide +kernel
theorem dX11_read_24 : decode cX11_read 24 = .ok (.getfield 37, 3) := by decide +kernel
theorem dX11_read_27 : decode cX11_read 27 = .ok (.iload_n 1, 1) := by decide +kernel
theorem dX11_read_28 : decode cX11_read 28 = .ok (.aaload, 1) := by decide +kernel
theorem dX11_read_29 : decode cX11_read 29 = .ok (.invokevirtual 163, 3) := by decide +kernel
theorem dX11_read_32 : decode cX11_read 32 = .ok (.ifCond .ne 5, 3) := by decide +kernel
theorem dX11_read_35 : decode cX11_read 35 = .ok (.iconst (-1), 1) := by decide +kernel
theorem dX11_read_36 : decode cX11_read 36 = .ok (.ireturn, 1) := by decide +kernel
theorem dX11_read_37 : decode cX11_read 37 = .ok (.aload_n 0, 1) := by decide +kernel
theorem dX11_read_38 : decode cX11_read 38 = .ok (.aload_n 0, 1) := by decide +kernel
theorem dX11_read_39 : decode cX11_read 39 = .ok (.getfield 37, 3) := by decide +kernel
theorem dX11_read_42 : decode cX11_read 42 = .ok (.iload_n 1, 1) := by decide +kernel
theorem dX11_read_43 : decode cX11_read 43 = .ok (.aaload, 1) := by decide +kernel
theorem dX11_read_44 : decode cX11_read 44 = .ok (.aload_n 0, 1) := by decide +kernel
theorem dX11_read_45 : decode cX11_read 45 = .ok (.getfield 9, 3) := by decide +kernel
theorem dX11_read_48 : decode cX11_read 48 = .ok (.iload_n 2, 1) := by decide +kernel
theorem dX11_read_49 : decode cX11_read 49 = .ok (.aload_n 0, 1) := by decide +kernel
theorem dX11_read_50 : decode cX11_read 50 = .ok (.getfield 17, 3) := by decide +kernel
theorem dX11_read_53 : decode cX11_read 53 = .ok (.invokevirtual 166, 3) := by decide +kernel
theorem dX11_read_56 : decode cX11_read 56 = .ok (.invokevirtual 106, 3) := by decide +kernel
theorem dX11_read_59 : decode cX11_read 59 = .ok (.ireturn, 1) := by decide +kernel
theorem dX11_send_0 : decode cX11_send 0 = .ok (.aload_n 0, 1) := by decide +kernel
theorem dX11_send_1 : decode cX11_send 1 = .ok (.iload_n 1, 1) := by decide +kernel
theorem dX11_send_2 : decode cX11_send 2 = .ok (.invokevirtual 152, 3) := by decide +kernel
theorem dX11_send_5 : decode cX11_send 5 = .ok (.ifCond .eq 18, 3) := by decide +kernel
theorem dX11_send_8 : decode cX11_send 8 = .ok (.iload_n 2, 1) := by decide +kernel
theorem dX11_send_9 : decode cX11_send 9 = .ok (.sipush 900, 3) := by decide +kernel
theorem dX11_send_12 : decode cX11_send 12 = .ok (.if_icmp .gt 11, 3) := by decide +kernel
theorem dX11_send_15 : decode cX11_send 15 = .ok (.aload_n 0, 1) := by decide +kernel
theorem dX11_send_16 : decode cX11_send 16 = .ok (.iload_n 2, 1) := by decide +kernel
theorem dX11_send_17 : decode cX11_send 17 = .ok (.invokevirtual 65, 3) := by decide +kernel
theorem dX11_send_20 : decode cX11_send 20 = .ok (.ifCond .ne 6, 3) := by decide +kernel
theorem dX11_send_23 : decode cX11_send 23 = .ok (.bipush (-2), 2) := by decide +kernel
theorem dX11_send_25 : decode cX11_send 25 = .ok (.ireturn, 1) := by decide +kernel
theorem dX11_send_26 : decode cX11_send 26 = .ok (.aload_n 0, 1) := by decide +kernel
theorem dX11_send_27 : decode cX11_send 27 = .ok (.invokevirtual 68, 3) := by decide +kernel
theorem dX11_send_30 : decode cX11_send 30 = .ok (.aload_n 0, 1) := by decide +kernel
theorem dX11_send_31 : decode cX11_send 31 = .ok (.getfield 37, 3) := by decide +kernel
theorem dX11_send_34 : decode cX11_send 34 = .ok (.iload_n 1, 1) := by decide +kernel
theorem dX11_send_35 : decode cX11_send 35 = .ok (.aaload, 1) := by decide +kernel
theorem dX11_send_36 : decode cX11_send 36 = .ok (.invokevirtual 169, 3) := by decide +kernel
theorem dX11_send_39 : decode cX11_send 39 = .ok (.ifCond .ne 5, 3) := by decide +kernel
theorem dX11_send_42 : decode cX11_send 42 = .ok (.iconst (-1), 1) := by decide +kernel
theorem dX11_send_43 : decode cX11_send 43 = .ok (.ireturn, 1) := by decide +kernel
theorem dX11_send_44 : decode cX11_send 44 = .ok (.aload_n 0, 1) := by decide +kernel
theorem dX11_send_45 : decode cX11_send 45 = .ok (.aload_n 0, 1) := by decide +kernel
theorem dX11_send_46 : decode cX11_send 46 = .ok (.getfield 37, 3) := by decide +kernel
theorem dX11_send_49 : decode cX11_send 49 = .ok (.iload_n 1, 1) := by decide +kernel
theorem dX11_send_50 : decode cX11_send 50 = .ok (.aaload, 1) := by decide +kernel
theorem dX11_send_51 : decode cX11_send 51 = .ok (.aload_n 0, 1) := by decide +kernel
theorem dX11_send_52 : decode cX11_send 52 = .ok (.getfield 9, 3) := by decide +kernel
theorem dX11_send_55 : decode cX11_send 55 = .ok (.iload_n 2, 1) := by decide +kernel
theorem dX11_send_56 : decode cX11_send 56 = .ok (.aload_n 0, 1) := by decide +kernel
theorem dX11_send_57 : decode cX11_send 57 = .ok (.getfield 17, 3) := by decide +kernel
theorem dX11_send_60 : decode cX11_send 60 = .ok (.invokevirtual 172, 3) := by decide +kernel
theorem dX11_send_63 : decode cX11_send 63 = .ok (.invokevirtual 106, 3) := by decide +kernel
theorem dX11_send_66 : decode cX11_send 66 = .ok (.ireturn, 1) := by decide +kernel
theorem dX11_receive_0 : decode cX11_receive 0 = .ok (.aload_n 0, 1) := by decide +kernel
theorem dX11_receive_1 : decode cX11_receive 1 = .ok (.iload_n 1, 1) := by decide +kernel
theorem dX11_receive_2 : decode cX11_receive 2 = .ok (.invokevirtual 152, 3) := by decide +kernel
theorem dX11_receive_5 : decode cX11_receive 5 = .ok (.ifCond .eq 11, 3) := by decide +kernel
theorem dX11_receive_8 : decode cX11_receive 8 = .ok (.aload_n 0, 1) := by decide +kernel
theorem dX11_receive_9 : decode cX11_receive 9 = .ok (.iload_n 2, 1) := by decide +kernel
theorem dX11_receive_10 : decode cX11_receive 10 = .ok (.invokevirtual 65, 3) := by decide +kernel
theorem dX11_receive_13 : decode cX11_receive 13 = .ok (.ifCond .ne 6, 3) := by decide +kernel
theorem dX11_receive_16 : decode cX11_receive 16 = .ok (.bipush (-2), 2) := by decide +kernel
theorem dX11_receive_18 : decode cX11_receive 18 = .ok (.ireturn, 1) := by decide +kernel
theorem dX11_receive_19 : decode cX11_receive 19 = .ok (.aload_n 0, 1) := by decide +kernel
theorem dX11_receive_20 : decode cX11_receive 20 = .ok (.invokevirtual 68, 3) := by decide +kernel
theorem dX11_receive_23 : decode cX11_receive 23 = .ok (.aload_n 0, 1) := by decide +kernel
theorem dX11_receive_24 : decode cX11_receive 24 = .ok (.getfield 37, 3) := by decide +kernel
theorem dX11_receive_27 : decode cX11_receive 27 = .ok (.iload_n 1, 1) := by decide +kernel
theorem dX11_receive_28 : decode cX11_receive 28 = .ok (.aaload, 1) := by decide +kernel
theorem dX11_receive_29 : decode cX11_receive 29 = .ok (.invokevirtual 169, 3) := by decide +kernel
theorem dX11_receive_32 : decode cX11_receive 32 = .ok (.ifCond .ne 5, 3) := by decide +kernel
theorem dX11_receive_35 : decode cX11_receive 35 = .ok (.iconst (-1), 1) := by decide +kernel
theorem dX11_receive_36 : decode cX11_receive 36 = .ok (.ireturn, 1) := by decide +kernel
theorem dX11_receive_37 : decode cX11_receive 37 = .ok (.aload_n 0, 1) := by decide +kernel
theorem dX11_receive_38 : decode cX11_receive 38 = .ok (.aload_n 0, 1) := by decide +kernel
theorem dX11_receive_39 : decode cX11_receive 39 = .ok (.getfield 37, 3) := by decide +kernel
theorem dX11_receive_42 : decode cX11_receive 42 = .ok (.iload_n 1, 1) := by decide +kernel
theorem dX11_receive_43 : decode cX11_receive 43 = .ok (.aaload, 1) := by decide +kernel
theorem dX11_receive_44 : decode cX11_receive 44 = .ok (.aload_n 0, 1) := by decide +kernel
theorem dX11_receive_45 : decode cX11_receive 45 = .ok (.getfield 9, 3) := by decide +kernel
theorem dX11_receive_48 : decode cX11_receive 48 = .ok (.iload_n 2, 1) := by decide +kernel
theorem dX11_receive_49 : decode cX11_receive 49 = .ok (.aload_n 0, 1) := by decide +kernel
theorem dX11_receive_50 : decode cX11_receive 50 = .ok (.getfield 17, 3) := by decide +kernel
theorem dX11_receive_53 : decode cX11_receive 53 = .ok (.invokevirtual 175, 3) := by decide +kernel
theorem dX11_receive_56 : decode cX11_receive 56 = .ok (.invokevirtual 106, 3) := by decide +kernel
theorem dX11_receive_59 : decode cX11_receive 59 = .ok (.ireturn, 1) := by decide +kernel
theorem dX11_rekey_0 : decode cX11_rekey 0 = .ok (.aload_n 0, 1) := by decide +kernel
theorem dX11_rekey_1 : decode cX11_rekey 1 = .ok (.iload_n 1, 1) := by decide +kernel
theorem dX11_rekey_2 : decode cX11_rekey 2 = .ok (.invokevirtual 152, 3) := by decide +kernel
theorem dX11_rekey_5 : decode cX11_rekey 5 = .ok (.ifCond .eq 15, 3) := by decide +kernel
theorem dX11_rekey_8 : decode cX11_rekey 8 = .ok (.aload_n 0, 1) := by decide +kernel
theorem dX11_rekey_9 : decode cX11_rekey 9 = .ok (.getfield 37, 3) := by decide +kernel
theorem dX11_rekey_12 : decode cX11_rekey 12 = .ok (.iload_n 1, 1) := by decide +kernel
theorem dX11_rekey_13 : decode cX11_rekey 13 = .ok (.aaload, 1) := by decide +kernel
theorem dX11_rekey_14 : decode cX11_rekey 14 = .ok (.invokevirtual 169, 3) := by decide +kernel
theorem dX11_rekey_17 : decode cX11_rekey 17 = .ok (.ifCond .ne 5, 3) := by decide +kernel
theorem dX11_rekey_20 : decode cX11_rekey 20 = .ok (.iconst 0, 1) := by decide +kernel
theorem dX11_rekey_21 : decode cX11_rekey 21 = .ok (.ireturn, 1) := by decide +kernel
theorem dX11_rekey_22 : decode cX11_rekey 22 = .ok (.aload_n 0, 1) := by decide +kernel
theorem dX11_rekey_23 : decode cX11_rekey 23 = .ok (.getfield 37, 3) := by decide +kernel
theorem dX11_rekey_26 : decode cX11_rekey 26 = .ok (.iload_n 1, 1) := by decide +kernel
theorem dX11_rekey_27 : decode cX11_rekey 27 = .ok (.aaload, 1) := by decide +kernel
theorem dX11_rekey_28 : decode cX11_rekey 28 = .ok (.iload_n 2, 1) := by decide +kernel
theorem dX11_rekey_29 : decode cX11_rekey 29 = .ok (.invokevirtual 178, 3) := by decide +kernel
theorem dX11_rekey_32 : decode cX11_rekey 32 = .ok (.iconst 1, 1) := by decide +kernel
theorem dX11_rekey_33 : decode cX11_rekey 33 = .ok (.ireturn, 1) := by decide +kernel
theorem dX11_state_0 : decode cX11_state 0 = .ok (.aload_n 0, 1) := by decide +kernel
theorem dX11_state_1 : decode cX11_state 1 = .ok (.iload_n 1, 1) := by decide +kernel
theorem dX11_state_2 : decode cX11_state 2 = .ok (.invokevirtual 152, 3) := by decide +kernel
theorem dX11_state_5 : decode cX11_state 5 = .ok (.ifCond .eq 16, 3) := by decide +kernel
theorem dX11_state_8 : decode cX11_state 8 = .ok (.aload_n 0, 1) := by decide +kernel
theorem dX11_state_9 : decode cX11_state 9 = .ok (.getfield 37, 3) := by decide +kernel
theorem dX11_state_12 : decode cX11_state 12 = .ok (.iload_n 1, 1) := by decide +kernel
theorem dX11_state_13 : decode cX11_state 13 = .ok (.aaload, 1) := by decide +kernel
theorem dX11_state_14 : decode cX11_state 14 = .ok (.iload_n 2, 1) := by decide +kernel
theorem dX11_state_15 : decode cX11_state 15 = .ok (.invokevirtual 182, 3) := by decide +kernel
theorem dX11_state_18 : decode cX11_state 18 = .ok (.goto 4, 3) := by decide +kernel
theorem dX11_state_21 : decode cX11_state 21 = .ok (.iconst (-1), 1) := by decide +kernel
theorem dX11_state_22 : decode cX11_state 22 = .ok (.ireturn, 1) := by decide +kernel
theorem dX11_told_0 : decode cX11_told 0 = .ok (.aload_n 0, 1) := by decide +kernel
theorem dX11_told_1 : decode cX11_told 1 = .ok (.iload_n 1, 1) := by decide +kernel
theorem dX11_told_2 : decode cX11_told 2 = .ok (.invokevirtual 152, 3) := by decide +kernel
theorem dX11_told_5 : decode cX11_told 5 = .ok (.ifCond .eq 13, 3) := by decide +kernel
theorem dX11_told_8 : decode cX11_told 8 = .ok (.iload_n 3, 1) := by decide +kernel
theorem dX11_told_9 : decode cX11_told 9 = .ok (.ifCond .lt 9, 3) := by decide +kernel
theorem dX11_told_12 : decode cX11_told 12 = .ok (.iload_n 3, 1) := by decide +kernel
theorem dX11_told_13 : decode cX11_told 13 = .ok (.bipush 32, 2) := by decide +kernel
theorem dX11_told_15 : decode cX11_told 15 = .ok (.if_icmp .lt 5, 3) := by decide +kernel
theorem dX11_told_18 : decode cX11_told 18 = .ok (.iconst (-1), 1) := by decide +kernel
theorem dX11_told_19 : decode cX11_told 19 = .ok (.ireturn, 1) := by decide +kernel
theorem dX11_told_20 : decode cX11_told 20 = .ok (.aload_n 0, 1) := by decide +kernel
theorem dX11_told_21 : decode cX11_told 21 = .ok (.getfield 37, 3) := by decide +kernel
theorem dX11_told_24 : decode cX11_told 24 = .ok (.iload_n 1, 1) := by decide +kernel
theorem dX11_told_25 : decode cX11_told 25 = .ok (.aaload, 1) := by decide +kernel
theorem dX11_told_26 : decode cX11_told 26 = .ok (.iload_n 2, 1) := by decide +kernel
theorem dX11_told_27 : decode cX11_told 27 = .ok (.iload_n 3, 1) := by decide +kernel
theorem dX11_told_28 : decode cX11_told 28 = .ok (.invokevirtual 185, 3) := by decide +kernel
theorem dX11_told_31 : decode cX11_told 31 = .ok (.ireturn, 1) := by decide +kernel
theorem dX11_out_0 : decode cX11_out 0 = .ok (.iload_n 1, 1) := by decide +kernel
theorem dX11_out_1 : decode cX11_out 1 = .ok (.ifCond .lt 24, 3) := by decide +kernel
theorem dX11_out_4 : decode cX11_out 4 = .ok (.iload_n 1, 1) := by decide +kernel
theorem dX11_out_5 : decode cX11_out 5 = .ok (.aload_n 0, 1) := by decide +kernel
theorem dX11_out_6 : decode cX11_out 6 = .ok (.getfield 20, 3) := by decide +kernel
theorem dX11_out_9 : decode cX11_out 9 = .ok (.if_icmp .ge 16, 3) := by decide +kernel
theorem dX11_out_12 : decode cX11_out 12 = .ok (.aload_n 0, 1) := by decide +kernel
theorem dX11_out_13 : decode cX11_out 13 = .ok (.getfield 17, 3) := by decide +kernel
theorem dX11_out_16 : decode cX11_out 16 = .ok (.iload_n 1, 1) := by decide +kernel
theorem dX11_out_17 : decode cX11_out 17 = .ok (.baload, 1) := by decide +kernel
theorem dX11_out_18 : decode cX11_out 18 = .ok (.sipush 255, 3) := by decide +kernel
theorem dX11_out_21 : decode cX11_out 21 = .ok (.iand, 1) := by decide +kernel
theorem dX11_out_22 : decode cX11_out 22 = .ok (.goto 4, 3) := by decide +kernel
theorem dX11_out_25 : decode cX11_out 25 = .ok (.iconst (-1), 1) := by decide +kernel
theorem dX11_out_26 : decode cX11_out 26 = .ok (.ireturn, 1) := by decide +kernel
theorem dX11_count_0 : decode cX11_count 0 = .ok (.iload_n 1, 1) := by decide +kernel
theorem dX11_count_1 : decode cX11_count 1 = .ok (.lookupswitch 37 #[(0, 27), (1, 32)], 27) := by decide +kernel
theorem dX11_count_28 : decode cX11_count 28 = .ok (.aload_n 0, 1) := by decide +kernel
theorem dX11_count_29 : decode cX11_count 29 = .ok (.getfield 13, 3) := by decide +kernel
theorem dX11_count_32 : decode cX11_count 32 = .ok (.ireturn, 1) := by decide +kernel
theorem dX11_count_33 : decode cX11_count 33 = .ok (.aload_n 0, 1) := by decide +kernel
theorem dX11_count_34 : decode cX11_count 34 = .ok (.getfield 20, 3) := by decide +kernel
theorem dX11_count_37 : decode cX11_count 37 = .ok (.ireturn, 1) := by decide +kernel
theorem dX11_count_38 : decode cX11_count 38 = .ok (.iconst (-1), 1) := by decide +kernel
theorem dX11_count_39 : decode cX11_count 39 = .ok (.ireturn, 1) := by decide +kernel
theorem dX11_isKey_0 : decode cX11_isKey 0 = .ok (.iload_n 0, 1) := by decide +kernel
theorem dX11_isKey_1 : decode cX11_isKey 1 = .ok (.ifCond .lt 13, 3) := by decide +kernel
theorem dX11_isKey_4 : decode cX11_isKey 4 = .ok (.iload_n 0, 1) := by decide +kernel
theorem dX11_isKey_5 : decode cX11_isKey 5 = .ok (.bipush 8, 2) := by decide +kernel
theorem dX11_isKey_7 : decode cX11_isKey 7 = .ok (.if_icmp .ge 7, 3) := by decide +kernel
theorem dX11_isKey_10 : decode cX11_isKey 10 = .ok (.iconst 1, 1) := by decide +kernel
theorem dX11_isKey_11 : decode cX11_isKey 11 = .ok (.goto 4, 3) := by decide +kernel
theorem dX11_isKey_14 : decode cX11_isKey 14 = .ok (.iconst 0, 1) := by decide +kernel
theorem dX11_isKey_15 : decode cX11_isKey 15 = .ok (.ireturn, 1) := by decide +kernel
theorem dX11_isSession_0 : decode cX11_isSession 0 = .ok (.iload_n 0, 1) := by decide +kernel
theorem dX11_isSession_1 : decode cX11_isSession 1 = .ok (.ifCond .lt 12, 3) := by decide +kernel
theorem dX11_isSession_4 : decode cX11_isSession 4 = .ok (.iload_n 0, 1) := by decide +kernel
theorem dX11_isSession_5 : decode cX11_isSession 5 = .ok (.iconst 4, 1) := by decide +kernel
theorem dX11_isSession_6 : decode cX11_isSession 6 = .ok (.if_icmp .ge 7, 3) := by decide +kernel
theorem dX11_isSession_9 : decode cX11_isSession 9 = .ok (.iconst 1, 1) := by decide +kernel
theorem dX11_isSession_10 : decode cX11_isSession 10 = .ok (.goto 4, 3) := by decide +kernel
theorem dX11_isSession_13 : decode cX11_isSession 13 = .ok (.iconst 0, 1) := by decide +kernel
theorem dX11_isSession_14 : decode cX11_isSession 14 = .ok (.ireturn, 1) := by decide +kernel
theorem dX11_hasBegun_0 : decode cX11_hasBegun 0 = .ok (.iload_n 1, 1) := by decide +kernel
theorem dX11_hasBegun_1 : decode cX11_hasBegun 1 = .ok (.invokestatic 146, 3) := by decide +kernel
theorem dX11_hasBegun_4 : decode cX11_hasBegun 4 = .ok (.ifCond .eq 19, 3) := by decide +kernel
theorem dX11_hasBegun_7 : decode cX11_hasBegun 7 = .ok (.aload_n 0, 1) := by decide +kernel
theorem dX11_hasBegun_8 : decode cX11_hasBegun 8 = .ok (.getfield 37, 3) := by decide +kernel
theorem dX11_hasBegun_11 : decode cX11_hasBegun 11 = .ok (.iload_n 1, 1) := by decide +kernel
theorem dX11_hasBegun_12 : decode cX11_hasBegun 12 = .ok (.aaload, 1) := by decide +kernel
theorem dX11_hasBegun_13 : decode cX11_hasBegun 13 = .ok (.invokevirtual 189, 3) := by decide +kernel
theorem dX11_hasBegun_16 : decode cX11_hasBegun 16 = .ok (.ifCond .eq 7, 3) := by decide +kernel
theorem dX11_hasBegun_19 : decode cX11_hasBegun 19 = .ok (.iconst 1, 1) := by decide +kernel
theorem dX11_hasBegun_20 : decode cX11_hasBegun 20 = .ok (.goto 4, 3) := by decide +kernel
theorem dX11_hasBegun_23 : decode cX11_hasBegun 23 = .ok (.iconst 0, 1) := by decide +kernel
theorem dX11_hasBegun_24 : decode cX11_hasBegun 24 = .ok (.ireturn, 1) := by decide +kernel
theorem dX11_isOnTape_0 : decode cX11_isOnTape 0 = .ok (.iload_n 1, 1) := by decide +kernel
theorem dX11_isOnTape_1 : decode cX11_isOnTape 1 = .ok (.ifCond .lt 15, 3) := by decide +kernel
theorem dX11_isOnTape_4 : decode cX11_isOnTape 4 = .ok (.iload_n 1, 1) := by decide +kernel
theorem dX11_isOnTape_5 : decode cX11_isOnTape 5 = .ok (.aload_n 0, 1) := by decide +kernel
theorem dX11_isOnTape_6 : decode cX11_isOnTape 6 = .ok (.getfield 13, 3) := by decide +kernel
theorem dX11_isOnTape_9 : decode cX11_isOnTape 9 = .ok (.if_icmp .gt 7, 3) := by decide +kernel
theorem dX11_isOnTape_12 : decode cX11_isOnTape 12 = .ok (.iconst 1, 1) := by decide +kernel
theorem dX11_isOnTape_13 : decode cX11_isOnTape 13 = .ok (.goto 4, 3) := by decide +kernel
theorem dX11_isOnTape_16 : decode cX11_isOnTape 16 = .ok (.iconst 0, 1) := by decide +kernel
theorem dX11_isOnTape_17 : decode cX11_isOnTape 17 = .ok (.ireturn, 1) := by decide +kernel
theorem dX11_areOnTape_0 : decode cX11_areOnTape 0 = .ok (.aload_n 0, 1) := by decide +kernel
theorem dX11_areOnTape_1 : decode cX11_areOnTape 1 = .ok (.iload_n 1, 1) := by decide +kernel
theorem dX11_areOnTape_2 : decode cX11_areOnTape 2 = .ok (.invokevirtual 65, 3) := by decide +kernel
theorem dX11_areOnTape_5 : decode cX11_areOnTape 5 = .ok (.ifCond .eq 21, 3) := by decide +kernel
theorem dX11_areOnTape_8 : decode cX11_areOnTape 8 = .ok (.iload_n 2, 1) := by decide +kernel
theorem dX11_areOnTape_9 : decode cX11_areOnTape 9 = .ok (.ifCond .lt 17, 3) := by decide +kernel
theorem dX11_areOnTape_12 : decode cX11_areOnTape 12 = .ok (.iload_n 2, 1) := by decide +kernel
theorem dX11_areOnTape_13 : decode cX11_areOnTape 13 = .ok (.aload_n 0, 1) := by decide +kernel
theorem dX11_areOnTape_14 : decode cX11_areOnTape 14 = .ok (.getfield 13, 3) := by decide +kernel
theorem dX11_areOnTape_17 : decode cX11_areOnTape 17 = .ok (.iload_n 1, 1) := by decide +kernel
theorem dX11_areOnTape_18 : decode cX11_areOnTape 18 = .ok (.isub, 1) := by decide +kernel
theorem dX11_areOnTape_19 : decode cX11_areOnTape 19 = .ok (.if_icmp .gt 7, 3) := by decide +kernel
theorem dX11_areOnTape_22 : decode cX11_areOnTape 22 = .ok (.iconst 1, 1) := by decide +kernel
theorem dX11_areOnTape_23 : decode cX11_areOnTape 23 = .ok (.goto 4, 3) := by decide +kernel
theorem dX11_areOnTape_26 : decode cX11_areOnTape 26 = .ok (.iconst 0, 1) := by decide +kernel
theorem dX11_areOnTape_27 : decode cX11_areOnTape 27 = .ok (.ireturn, 1) := by decide +kernel
theorem dX11_emptyTape_0 : decode cX11_emptyTape 0 = .ok (.aload_n 0, 1) := by decide +kernel
theorem dX11_emptyTape_1 : decode cX11_emptyTape 1 = .ok (.iconst 0, 1) := by decide +kernel
theorem dX11_emptyTape_2 : decode cX11_emptyTape 2 = .ok (.putfield 13, 3) := by decide +kernel
theorem dX11_emptyTape_5 : decode cX11_emptyTape 5 = .ok (.return_, 1) := by decide +kernel
theorem dX11_tell_0 : decode cX11_tell 0 = .ok (.iload_n 1, 1) := by decide +kernel
theorem dX11_tell_1 : decode cX11_tell 1 = .ok (.iconst (-1), 1) := by decide +kernel
theorem dX11_tell_2 : decode cX11_tell 2 = .ok (.if_icmp .eq 8, 3) := by decide +kernel
theorem dX11_tell_5 : decode cX11_tell 5 = .ok (.aload_n 0, 1) := by decide +kernel
theorem dX11_tell_6 : decode cX11_tell 6 = .ok (.iload_n 1, 1) := by decide +kernel
theorem dX11_tell_7 : decode cX11_tell 7 = .ok (.putfield 20, 3) := by decide +kernel
theorem dX11_tell_10 : decode cX11_tell 10 = .ok (.iload_n 1, 1) := by decide +kernel
theorem dX11_tell_11 : decode cX11_tell 11 = .ok (.ireturn, 1) := by decide +kernel
theorem dX11_tellRow_0 : decode cX11_tellRow 0 = .ok (.aload_n 1, 1) := by decide +kernel
theorem dX11_tellRow_1 : decode cX11_tellRow 1 = .ok (.iconst 0, 1) := by decide +kernel
theorem dX11_tellRow_2 : decode cX11_tellRow 2 = .ok (.aload_n 0, 1) := by decide +kernel
theorem dX11_tellRow_3 : decode cX11_tellRow 3 = .ok (.getfield 17, 3) := by decide +kernel
theorem dX11_tellRow_6 : decode cX11_tellRow 6 = .ok (.iconst 0, 1) := by decide +kernel
theorem dX11_tellRow_7 : decode cX11_tellRow 7 = .ok (.bipush 32, 2) := by decide +kernel
theorem dX11_tellRow_9 : decode cX11_tellRow 9 = .ok (.invokestatic 55, 3) := by decide +kernel
theorem dX11_tellRow_12 : decode cX11_tellRow 12 = .ok (.aload_n 0, 1) := by decide +kernel
theorem dX11_tellRow_13 : decode cX11_tellRow 13 = .ok (.bipush 32, 2) := by decide +kernel
theorem dX11_tellRow_15 : decode cX11_tellRow 15 = .ok (.invokevirtual 106, 3) := by decide +kernel
theorem dX11_tellRow_18 : decode cX11_tellRow 18 = .ok (.ireturn, 1) := by decide +kernel
