theorem dJ0_charAt_5068e_0 : decode cJ0_charAt_5068e 0 = .ok (.aload_n 0, 1) := by decide +kernel
theorem dJ0_charAt_5068e_1 : decode cJ0_charAt_5068e 1 = .ok (.invokevirtual 492, 3) := by decide +kernel
theorem dJ0_charAt_5068e_4 : decode cJ0_charAt_5068e 4 = .ok (.ifCond .eq 12, 3) := by decide +kernel
theorem dJ0_charAt_5068e_7 : decode cJ0_charAt_5068e 7 = .ok (.aload_n 0, 1) := by decide +kernel
theorem dJ0_charAt_5068e_8 : decode cJ0_charAt_5068e 8 = .ok (.getfield 9, 3) := by decide +kernel
theorem dJ0_charAt_5068e_11 : decode cJ0_charAt_5068e 11 = .ok (.iload_n 1, 1) := by decide +kernel
theorem dJ0_charAt_5068e_12 : decode cJ0_charAt_5068e 12 = .ok (.invokestatic 495, 3) := by decide +kernel
theorem dJ0_charAt_5068e_15 : decode cJ0_charAt_5068e 15 = .ok (.ireturn, 1) := by decide +kernel
theorem dJ0_charAt_5068e_16 : decode cJ0_charAt_5068e 16 = .ok (.aload_n 0, 1) := by decide +kernel
theorem dJ0_charAt_5068e_17 : decode cJ0_charAt_5068e 17 = .ok (.getfield 9, 3) := by decide +kernel
theorem dJ0_charAt_5068e_20 : decode cJ0_charAt_5068e 20 = .ok (.iload_n 1, 1) := by decide +kernel
theorem dJ0_charAt_5068e_21 : decode cJ0_charAt_5068e 21 = .ok (.invokestatic 498, 3) := by decide +kernel
theorem dJ0_charAt_5068e_24 : decode cJ0_charAt_5068e 24 = .ok (.ireturn, 1) := by decide +kernel
theorem dJ0_isLatin1_aae02_0 : decode cJ0_isLatin1_aae02 0 = .ok (.getstatic 38, 3) := by decide +kernel
theorem dJ0_isLatin1_aae02_3 : decode cJ0_isLatin1_aae02 3 = .ok (.ifCond .eq 14, 3) := by decide +kernel
theorem dJ0_isLatin1_aae02_6 : decode cJ0_isLatin1_aae02 6 = .ok (.aload_n 0, 1) := by decide +kernel
theorem dJ0_isLatin1_aae02_7 : decode cJ0_isLatin1_aae02 7 = .ok (.getfield 15, 3) := by decide +kernel
theorem dJ0_isLatin1_aae02_10 : decode cJ0_isLatin1_aae02 10 = .ok (.ifCond .ne 7, 3) := by decide +kernel
theorem dJ0_isLatin1_aae02_13 : decode cJ0_isLatin1_aae02 13 = .ok (.iconst 1, 1) := by decide +kernel
theorem dJ0_isLatin1_aae02_14 : decode cJ0_isLatin1_aae02 14 = .ok (.goto 4, 3) := by decide +kernel
theorem dJ0_isLatin1_aae02_17 : decode cJ0_isLatin1_aae02 17 = .ok (.iconst 0, 1) := by decide +kernel
theorem dJ0_isLatin1_aae02_18 : decode cJ0_isLatin1_aae02 18 = .ok (.ireturn, 1) := by decide +kernel
theorem dJ0_checkIndex_df160_0 : decode cJ0_checkIndex_df160 0 = .ok (.iload_n 0, 1) := by decide +kernel
theorem dJ0_checkIndex_df160_1 : decode cJ0_checkIndex_df160 1 = .ok (.iload_n 1, 1) := by decide +kernel
theorem dJ0_checkIndex_df160_2 : decode cJ0_checkIndex_df160 2 = .ok (.getstatic 1053, 3) := by decide +kernel
theorem dJ0_checkIndex_df160_5 : decode cJ0_checkIndex_df160 5 = .ok (.invokestatic 1059, 3) := by decide +kernel
theorem dJ0_checkIndex_df160_8 : decode cJ0_checkIndex_df160 8 = .ok (.pop, 1) := by decide +kernel
theorem dJ0_checkIndex_df160_9 : decode cJ0_checkIndex_df160 9 = .ok (.return_, 1) := by decide +kernel
theorem dJ1_charAt_3b067_0 : decode cJ1_charAt_3b067 0 = .ok (.iload_n 1, 1) := by decide +kernel
theorem dJ1_charAt_3b067_1 : decode cJ1_charAt_3b067 1 = .ok (.aload_n 0, 1) := by decide +kernel
theorem dJ1_charAt_3b067_2 : decode cJ1_charAt_3b067 2 = .ok (.arraylength, 1) := by decide +kernel
theorem dJ1_charAt_3b067_3 : decode cJ1_charAt_3b067 3 = .ok (.invokestatic 9, 3) := by decide +kernel
theorem dJ1_charAt_3b067_6 : decode cJ1_charAt_3b067 6 = .ok (.aload_n 0, 1) := by decide +kernel
theorem dJ1_charAt_3b067_7 : decode cJ1_charAt_3b067 7 = .ok (.iload_n 1, 1) := by decide +kernel
theorem dJ1_charAt_3b067_8 : decode cJ1_charAt_3b067 8 = .ok (.baload, 1) := by decide +kernel
theorem dJ1_charAt_3b067_9 : decode cJ1_charAt_3b067 9 = .ok (.sipush 255, 3) := by decide +kernel
theorem dJ1_charAt_3b067_12 : decode cJ1_charAt_3b067 12 = .ok (.iand, 1) := by decide +kernel
theorem dJ1_charAt_3b067_13 : decode cJ1_charAt_3b067 13 = .ok (.i2c, 1) := by decide +kernel
theorem dJ1_charAt_3b067_14 : decode cJ1_charAt_3b067 14 = .ok (.ireturn, 1) := by decide +kernel
theorem dJ2_getChar_3b067_0 : decode cJ2_getChar_3b067 0 = .ok (.getstatic 44, 3) := by decide +kernel
theorem dJ2_getChar_3b067_3 : decode cJ2_getChar_3b067 3 = .ok (.ifCond .ne 25, 3) := by decide +kernel
theorem dJ2_getChar_3b067_6 : decode cJ2_getChar_3b067 6 = .ok (.iload_n 1, 1) := by decide +kernel
theorem dJ2_getChar_3b067_7 : decode cJ2_getChar_3b067 7 = .ok (.ifCond .lt 11, 3) := by decide +kernel
theorem dJ2_getChar_3b067_10 : decode cJ2_getChar_3b067 10 = .ok (.iload_n 1, 1) := by decide +kernel
theorem dJ2_getChar_3b067_11 : decode cJ2_getChar_3b067 11 = .ok (.aload_n 0, 1) := by decide +kernel
theorem dJ2_getChar_3b067_12 : decode cJ2_getChar_3b067 12 = .ok (.invokestatic 48, 3) := by decide +kernel
theorem dJ2_getChar_3b067_15 : decode cJ2_getChar_3b067 15 = .ok (.if_icmp .lt 13, 3) := by decide +kernel
theorem dJ2_getChar_3b067_18 : decode cJ2_getChar_3b067 18 = .ok (.new 52, 3) := by decide +kernel
theorem dJ2_getChar_3b067_21 : decode cJ2_getChar_3b067 21 = .ok (.dup, 1) := by decide +kernel
theorem dJ2_getChar_3b067_22 : decode cJ2_getChar_3b067 22 = .ok (.ldc 54, 2) := by decide +kernel
theorem dJ2_getChar_3b067_24 : decode cJ2_getChar_3b067 24 = .ok (.invokespecial 56, 3) := by decide +kernel
theorem dJ2_getChar_3b067_27 : decode cJ2_getChar_3b067 27 = .ok (.athrow, 1) := by decide +kernel
theorem dJ2_getChar_3b067_28 : decode cJ2_getChar_3b067 28 = .ok (.iload_n 1, 1) := by decide +kernel
theorem dJ2_getChar_3b067_29 : decode cJ2_getChar_3b067 29 = .ok (.iconst 1, 1) := by decide +kernel
theorem dJ2_getChar_3b067_30 : decode cJ2_getChar_3b067 30 = .ok (.ishl, 1) := by decide +kernel
theorem dJ2_getChar_3b067_31 : decode cJ2_getChar_3b067 31 = .ok (.istore_n 1, 1) := by decide +kernel
theorem dJ2_getChar_3b067_32 : decode cJ2_getChar_3b067 32 = .ok (.aload_n 0, 1) := by decide +kernel
theorem dJ2_getChar_3b067_33 : decode cJ2_getChar_3b067 33 = .ok (.iload_n 1, 1) := by decide +kernel
theorem dJ2_getChar_3b067_34 : decode cJ2_getChar_3b067 34 = .ok (.iinc 1 1, 3) := by decide +kernel
theorem dJ2_getChar_3b067_37 : decode cJ2_getChar_3b067 37 = .ok (.baload, 1) := by decide +kernel
theorem dJ2_getChar_3b067_38 : decode cJ2_getChar_3b067 38 = .ok (.sipush 255, 3) := by decide +kernel
theorem dJ2_getChar_3b067_41 : decode cJ2_getChar_3b067 41 = .ok (.iand, 1) := by decide +kernel
theorem dJ2_getChar_3b067_42 : decode cJ2_getChar_3b067 42 = .ok (.getstatic 59, 3) := by decide +kernel
theorem dJ2_getChar_3b067_45 : decode cJ2_getChar_3b067 45 = .ok (.ishl, 1) := by decide +kernel
theorem dJ2_getChar_3b067_46 : decode cJ2_getChar_3b067 46 = .ok (.aload_n 0, 1) := by decide +kernel
theorem dJ2_getChar_3b067_47 : decode cJ2_getChar_3b067 47 = .ok (.iload_n 1, 1) := by decide +kernel
theorem dJ2_getChar_3b067_48 : decode cJ2_getChar_3b067 48 = .ok (.baload, 1) := by decide +kernel
theorem dJ2_getChar_3b067_49 : decode cJ2_getChar_3b067 49 = .ok (.sipush 255, 3) := by decide +kernel
theorem dJ2_getChar_3b067_52 : decode cJ2_getChar_3b067 52 = .ok (.iand, 1) := by decide +kernel
theorem dJ2_getChar_3b067_53 : decode cJ2_getChar_3b067 53 = .ok (.getstatic 63, 3) := by decide +kernel
theorem dJ2_getChar_3b067_56 : decode cJ2_getChar_3b067 56 = .ok (.ishl, 1) := by decide +kernel
theorem dJ2_getChar_3b067_57 : decode cJ2_getChar_3b067 57 = .ok (.ior, 1) := by decide +kernel
theorem dJ2_getChar_3b067_58 : decode cJ2_getChar_3b067 58 = .ok (.i2c, 1) := by decide +kernel
theorem dJ2_getChar_3b067_59 : decode cJ2_getChar_3b067 59 = .ok (.ireturn, 1) := by decide +kernel
theorem dJ2_length_9d52b_0 : decode cJ2_length_9d52b 0 = .ok (.aload_n 0, 1) := by decide +kernel
theorem dJ2_length_9d52b_1 : decode cJ2_length_9d52b 1 = .ok (.arraylength, 1) := by decide +kernel
theorem dJ2_length_9d52b_2 : decode cJ2_length_9d52b 2 = .ok (.iconst 1, 1) := by decide +kernel
theorem dJ2_length_9d52b_3 : decode cJ2_length_9d52b 3 = .ok (.ishr, 1) := by decide +kernel
theorem dJ2_length_9d52b_4 : decode cJ2_length_9d52b 4 = .ok (.ireturn, 1) := by decide +kernel
theorem dJ2_charAt_3b067_0 : decode cJ2_charAt_3b067 0 = .ok (.iload_n 1, 1) := by decide +kernel
theorem dJ2_charAt_3b067_1 : decode cJ2_charAt_3b067 1 = .ok (.aload_n 0, 1) := by decide +kernel
theorem dJ2_charAt_3b067_2 : decode cJ2_charAt_3b067 2 = .ok (.invokestatic 67, 3) := by decide +kernel
theorem dJ2_charAt_3b067_5 : decode cJ2_charAt_3b067 5 = .ok (.aload_n 0, 1) := by decide +kernel
theorem dJ2_charAt_3b067_6 : decode cJ2_charAt_3b067 6 = .ok (.iload_n 1, 1) := by decide +kernel
theorem dJ2_charAt_3b067_7 : decode cJ2_charAt_3b067 7 = .ok (.invokestatic 71, 3) := by decide +kernel
theorem dJ2_charAt_3b067_10 : decode cJ2_charAt_3b067 10 = .ok (.ireturn, 1) := by decide +kernel
theorem dJ2_checkIndex_2214a_0 : decode cJ2_checkIndex_2214a 0 = .ok (.iload_n 0, 1) := by decide +kernel
theorem dJ2_checkIndex_2214a_1 : decode cJ2_checkIndex_2214a 1 = .ok (.aload_n 1, 1) := by decide +kernel
theorem dJ2_checkIndex_2214a_2 : decode cJ2_checkIndex_2214a 2 = .ok (.invokestatic 48, 3) := by decide +kernel
theorem dJ2_checkIndex_2214a_5 : decode cJ2_checkIndex_2214a 5 = .ok (.invokestatic 414, 3) := by decide +kernel
theorem dJ2_checkIndex_2214a_8 : decode cJ2_checkIndex_2214a 8 = .ok (.return_, 1) := by decide +kernel
theorem dJ3_checkIndex_8e157_0 : decode cJ3_checkIndex_8e157 0 = .ok (.iload_n 0, 1) := by decide +kernel
theorem dJ3_checkIndex_8e157_1 : decode cJ3_checkIndex_8e157 1 = .ok (.ifCond .lt 8, 3) := by decide +kernel
theorem dJ3_checkIndex_8e157_4 : decode cJ3_checkIndex_8e157 4 = .ok (.iload_n 0, 1) := by decide +kernel
theorem dJ3_checkIndex_8e157_5 : decode cJ3_checkIndex_8e157 5 = .ok (.iload_n 1, 1) := by decide +kernel
theorem dJ3_checkIndex_8e157_6 : decode cJ3_checkIndex_8e157 6 = .ok (.if_icmp .lt 10, 3) := by decide +kernel
theorem dJ3_checkIndex_8e157_9 : decode cJ3_checkIndex_8e157 9 = .ok (.aload_n 2, 1) := by decide +kernel
theorem dJ3_checkIndex_8e157_10 : decode cJ3_checkIndex_8e157 10 = .ok (.iload_n 0, 1) := by decide +kernel
theorem dJ3_checkIndex_8e157_11 : decode cJ3_checkIndex_8e157 11 = .ok (.iload_n 1, 1) := by decide +kernel
theorem dJ3_checkIndex_8e157_12 : decode cJ3_checkIndex_8e157 12 = .ok (.invokestatic 95, 3) := by decide +kernel
theorem dJ3_checkIndex_8e157_15 : decode cJ3_checkIndex_8e157 15 = .ok (.athrow, 1) := by decide +kernel
theorem dJ3_checkIndex_8e157_16 : decode cJ3_checkIndex_8e157 16 = .ok (.iload_n 0, 1) := by decide +kernel
theorem dJ3_checkIndex_8e157_17 : decode cJ3_checkIndex_8e157 17 = .ok (.ireturn, 1) := by decide +kernel
theorem dJ6_rotateRight_7cf53_0 : decode cJ6_rotateRight_7cf53 0 = .ok (.iload_n 0, 1) := by decide +kernel
theorem dJ6_rotateRight_7cf53_1 : decode cJ6_rotateRight_7cf53 1 = .ok (.iload_n 1, 1) := by decide +kernel
theorem dJ6_rotateRight_7cf53_2 : decode cJ6_rotateRight_7cf53 2 = .ok (.iushr, 1) := by decide +kernel
theorem dJ6_rotateRight_7cf53_3 : decode cJ6_rotateRight_7cf53 3 = .ok (.iload_n 0, 1) := by decide +kernel
theorem dJ6_rotateRight_7cf53_4 : decode cJ6_rotateRight_7cf53 4 = .ok (.iload_n 1, 1) := by decide +kernel
theorem dJ6_rotateRight_7cf53_5 : decode cJ6_rotateRight_7cf53 5 = .ok (.ineg, 1) := by decide +kernel
theorem dJ6_rotateRight_7cf53_6 : decode cJ6_rotateRight_7cf53 6 = .ok (.ishl, 1) := by decide +kernel
theorem dJ6_rotateRight_7cf53_7 : decode cJ6_rotateRight_7cf53 7 = .ok (.ior, 1) := by decide +kernel
theorem dJ6_rotateRight_7cf53_8 : decode cJ6_rotateRight_7cf53 8 = .ok (.ireturn, 1) := by decide +kernel
theorem dX0_init_0 : decode cX0_init 0 = .ok (.aload_n 0, 1) := by decide +kernel
theorem dX0_init_1 : decode cX0_init 1 = .ok (.invokespecial 3, 3) := by decide +kernel
theorem dX0_init_4 : decode cX0_init 4 = .ok (.aload_n 0, 1) := by decide +kernel
theorem dX0_init_5 : decode cX0_init 5 = .ok (.new 9, 3) := by decide +kernel
theorem dX0_init_8 : decode cX0_init 8 = .ok (.dup, 1) := by decide +kernel
theorem dX0_init_9 : decode cX0_init 9 = .ok (.invokespecial 11, 3) := by decide +kernel
theorem dX0_init_12 : decode cX0_init 12 = .ok (.putfield 12, 3) := by decide +kernel
theorem dX0_init_15 : decode cX0_init 15 = .ok (.aload_n 0, 1) := by decide +kernel
theorem dX0_init_16 : decode cX0_init 16 = .ok (.new 18, 3) := by decide +kernel
theorem dX0_init_19 : decode cX0_init 19 = .ok (.dup, 1) := by decide +kernel
theorem dX0_init_20 : decode cX0_init 20 = .ok (.invokespecial 20, 3) := by decide +kernel
theorem dX0_init_23 : decode cX0_init 23 = .ok (.putfield 21, 3) := by decide +kernel
theorem dX0_init_26 : decode cX0_init 26 = .ok (.aload_n 0, 1) := by decide +kernel
theorem dX0_init_27 : decode cX0_init 27 = .ok (.bipush 16, 2) := by decide +kernel
theorem dX0_init_29 : decode cX0_init 29 = .ok (.newarray .byte, 2) := by decide +kernel
theorem dX0_init_31 : decode cX0_init 31 = .ok (.putfield 25, 3) := by decide +kernel
theorem dX0_init_34 : decode cX0_init 34 = .ok (.aload_n 0, 1) := by decide +kernel
theorem dX0_init_35 : decode cX0_init 35 = .ok (.iconst 0, 1) := by decide +kernel
theorem dX0_init_36 : decode cX0_init 36 = .ok (.putfield 29, 3) := by decide +kernel
theorem dX0_init_39 : decode cX0_init 39 = .ok (.return_, 1) := by decide +kernel
theorem dX0_begin_0 : decode cX0_begin 0 = .ok (.aload_n 0, 1) := by decide +kernel
theorem dX0_begin_1 : decode cX0_begin 1 = .ok (.getfield 12, 3) := by decide +kernel
theorem dX0_begin_4 : decode cX0_begin 4 = .ok (.aload_n 1, 1) := by decide +kernel
theorem dX0_begin_5 : decode cX0_begin 5 = .ok (.lload_n 2, 1) := by decide +kernel
theorem dX0_begin_6 : decode cX0_begin 6 = .ok (.invokevirtual 33, 3) := by decide +kernel
theorem dX0_begin_9 : decode cX0_begin 9 = .ok (.aload_n 0, 1) := by decide +kernel
theorem dX0_begin_10 : decode cX0_begin 10 = .ok (.getfield 12, 3) := by decide +kernel
theorem dX0_begin_13 : decode cX0_begin 13 = .ok (.invokevirtual 37, 3) := by decide +kernel
theorem dX0_begin_16 : decode cX0_begin 16 = .ok (.aload_n 0, 1) := by decide +kernel
theorem dX0_begin_17 : decode cX0_begin 17 = .ok (.getfield 21, 3) := by decide +kernel
theorem dX0_begin_20 : decode cX0_begin 20 = .ok (.aload_n 0, 1) := by decide +kernel
theorem dX0_begin_21 : decode cX0_begin 21 = .ok (.getfield 12, 3) := by decide +kernel
theorem dX0_begin_24 : decode cX0_begin 24 = .ok (.getfield 40, 3) := by decide +kernel
theorem dX0_begin_27 : decode cX0_begin 27 = .ok (.invokevirtual 43, 3) := by decide +kernel
theorem dX0_begin_30 : decode cX0_begin 30 = .ok (.return_, 1) := by decide +kernel
theorem dX0_associate_0 : decode cX0_associate 0 = .ok (.aload_n 0, 1) := by decide +kernel
theorem dX0_associate_1 : decode cX0_associate 1 = .ok (.getfield 21, 3) := by decide +kernel
theorem dX0_associate_4 : decode cX0_associate 4 = .ok (.aload_n 1, 1) := by decide +kernel
theorem dX0_associate_5 : decode cX0_associate 5 = .ok (.iconst 0, 1) := by decide +kernel
theorem dX0_associate_6 : decode cX0_associate 6 = .ok (.iload_n 2, 1) := by decide +kernel
theorem dX0_associate_7 : decode cX0_associate 7 = .ok (.invokevirtual 46, 3) := by decide +kernel
theorem dX0_associate_10 : decode cX0_associate 10 = .ok (.aload_n 0, 1) := by decide +kernel
theorem dX0_associate_11 : decode cX0_associate 11 = .ok (.iload_n 2, 1) := by decide +kernel
theorem dX0_associate_12 : decode cX0_associate 12 = .ok (.putfield 29, 3) := by decide +kernel
theorem dX0_associate_15 : decode cX0_associate 15 = .ok (.return_, 1) := by decide +kernel
theorem dX0_encrypt_0 : decode cX0_encrypt 0 = .ok (.aload_n 0, 1) := by decide +kernel
theorem dX0_encrypt_1 : decode cX0_encrypt 1 = .ok (.aload_n 1, 1) := by decide +kernel
theorem dX0_encrypt_2 : decode cX0_encrypt 2 = .ok (.iload_n 2, 1) := by decide +kernel
theorem dX0_encrypt_3 : decode cX0_encrypt 3 = .ok (.iload_n 3, 1) := by decide +kernel
theorem dX0_encrypt_4 : decode cX0_encrypt 4 = .ok (.aload 4, 2) := by decide +kernel
theorem dX0_encrypt_6 : decode cX0_encrypt 6 = .ok (.iload 5, 2) := by decide +kernel
theorem dX0_encrypt_8 : decode cX0_encrypt 8 = .ok (.invokevirtual 50, 3) := by decide +kernel
theorem dX0_encrypt_11 : decode cX0_encrypt 11 = .ok (.aload_n 0, 1) := by decide +kernel
theorem dX0_encrypt_12 : decode cX0_encrypt 12 = .ok (.getfield 21, 3) := by decide +kernel
theorem dX0_encrypt_15 : decode cX0_encrypt 15 = .ok (.aload 4, 2) := by decide +kernel
theorem dX0_encrypt_17 : decode cX0_encrypt 17 = .ok (.iload 5, 2) := by decide +kernel
theorem dX0_encrypt_19 : decode cX0_encrypt 19 = .ok (.iload_n 3, 1) := by decide +kernel
theorem dX0_encrypt_20 : decode cX0_encrypt 20 = .ok (.invokevirtual 46, 3) := by decide +kernel
theorem dX0_encrypt_23 : decode cX0_encrypt 23 = .ok (.aload_n 0, 1) := by decide +kernel
theorem dX0_encrypt_24 : decode cX0_encrypt 24 = .ok (.getfield 21, 3) := by decide +kernel
theorem dX0_encrypt_27 : decode cX0_encrypt 27 = .ok (.aload_n 0, 1) := by decide +kernel
theorem dX0_encrypt_28 : decode cX0_encrypt 28 = .ok (.getfield 29, 3) := by decide +kernel
theorem dX0_encrypt_31 : decode cX0_encrypt 31 = .ok (.iload_n 3, 1) := by decide +kernel
theorem dX0_encrypt_32 : decode cX0_encrypt 32 = .ok (.aload_n 0, 1) := by decide +kernel
theorem dX0_encrypt_33 : decode cX0_encrypt 33 = .ok (.getfield 25, 3) := by decide +kernel
theorem dX0_encrypt_36 : decode cX0_encrypt 36 = .ok (.invokevirtual 54, 3) := by decide +kernel
theorem dX0_encrypt_39 : decode cX0_encrypt 39 = .ok (.aload_n 0, 1) := by decide +kernel
theorem dX0_encrypt_40 : decode cX0_encrypt 40 = .ok (.getfield 25, 3) := by decide +kernel
theorem dX0_encrypt_43 : decode cX0_encrypt 43 = .ok (.iconst 0, 1) := by decide +kernel
theorem dX0_encrypt_44 : decode cX0_encrypt 44 = .ok (.aload 4, 2) := by decide +kernel
theorem dX0_encrypt_46 : decode cX0_encrypt 46 = .ok (.iload 5, 2) := by decide +kernel
theorem dX0_encrypt_48 : decode cX0_encrypt 48 = .ok (.iload_n 3, 1) := by decide +kernel
theorem dX0_encrypt_49 : decode cX0_encrypt 49 = .ok (.iadd, 1) := by decide +kernel
theorem dX0_encrypt_50 : decode cX0_encrypt 50 = .ok (.bipush 16, 2) := by decide +kernel
theorem dX0_encrypt_52 : decode cX0_encrypt 52 = .ok (.invokestatic 58, 3) := by decide +kernel
theorem dX0_encrypt_55 : decode cX0_encrypt 55 = .ok (.return_, 1) := by decide +kernel
theorem dX0_decrypt_0 : decode cX0_decrypt 0 = .ok (.iload_n 3, 1) := by decide +kernel
theorem dX0_decrypt_1 : decode cX0_decrypt 1 = .ok (.bipush 16, 2) := by decide +kernel
theorem dX0_decrypt_3 : decode cX0_decrypt 3 = .ok (.isub, 1) := by decide +kernel
theorem dX0_decrypt_4 : decode cX0_decrypt 4 = .ok (.istore 6, 2) := by decide +kernel
theorem dX0_decrypt_6 : decode cX0_decrypt 6 = .ok (.iload 6, 2) := by decide +kernel
theorem dX0_decrypt_8 : decode cX0_decrypt 8 = .ok (.ifCond .ge 5, 3) := by decide +kernel
theorem dX0_decrypt_11 : decode cX0_decrypt 11 = .ok (.iconst 0, 1) := by decide +kernel
theorem dX0_decrypt_12 : decode cX0_decrypt 12 = .ok (.ireturn, 1) := by decide +kernel
theorem dX0_decrypt_13 : decode cX0_decrypt 13 = .ok (.aload_n 0, 1) := by decide +kernel
theorem dX0_decrypt_14 : decode cX0_decrypt 14 = .ok (.getfield 21, 3) := by decide +kernel
theorem dX0_decrypt_17 : decode cX0_decrypt 17 = .ok (.aload_n 1, 1) := by decide +kernel
theorem dX0_decrypt_18 : decode cX0_decrypt 18 = .ok (.iload_n 2, 1) := by decide +kernel
theorem dX0_decrypt_19 : decode cX0_decrypt 19 = .ok (.iload 6, 2) := by decide +kernel
theorem dX0_decrypt_21 : decode cX0_decrypt 21 = .ok (.invokevirtual 46, 3) := by decide +kernel
theorem dX0_decrypt_24 : decode cX0_decrypt 24 = .ok (.aload_n 0, 1) := by decide +kernel
theorem dX0_decrypt_25 : decode cX0_decrypt 25 = .ok (.getfield 21, 3) := by decide +kernel
theorem dX0_decrypt_28 : decode cX0_decrypt 28 = .ok (.aload_n 0, 1) := by decide +kernel
theorem dX0_decrypt_29 : decode cX0_decrypt 29 = .ok (.getfield 29, 3) := by decide +kernel
theorem dX0_decrypt_32 : decode cX0_decrypt 32 = .ok (.iload 6, 2) := by decide +kernel
theorem dX0_decrypt_34 : decode cX0_decrypt 34 = .ok (.aload_n 0, 1) := by decide +kernel
theorem dX0_decrypt_35 : decode cX0_decrypt 35 = .ok (.getfield 25, 3) := by decide +kernel
theorem dX0_decrypt_38 : decode cX0_decrypt 38 = .ok (.invokevirtual 54, 3) := by decide +kernel
theorem dX0_decrypt_41 : decode cX0_decrypt 41 = .ok (.iconst 0, 1) := by decide +kernel
theorem dX0_decrypt_42 : decode cX0_decrypt 42 = .ok (.istore 7, 2) := by decide +kernel
theorem dX0_decrypt_44 : decode cX0_decrypt 44 = .ok (.iconst 0, 1) := by decide +kernel
theorem dX0_decrypt_45 : decode cX0_decrypt 45 = .ok (.istore 8, 2) := by decide +kernel
theorem dX0_decrypt_47 : decode cX0_decrypt 47 = .ok (.iload 8, 2) := by decide +kernel
theorem dX0_decrypt_49 : decode cX0_decrypt 49 = .ok (.bipush 16, 2) := by decide +kernel
theorem dX0_decrypt_51 : decode cX0_decrypt 51 = .ok (.if_icmp .ge 31, 3) := by decide +kernel
theorem dX0_decrypt_54 : decode cX0_decrypt 54 = .ok (.iload 7, 2) := by decide +kernel
theorem dX0_decrypt_56 : decode cX0_decrypt 56 = .ok (.aload_n 0, 1) := by decide +kernel
theorem dX0_decrypt_57 : decode cX0_decrypt 57 = .ok (.getfield 25, 3) := by decide +kernel
theorem dX0_decrypt_60 : decode cX0_decrypt 60 = .ok (.iload 8, 2) := by decide +kernel
theorem dX0_decrypt_62 : decode cX0_decrypt 62 = .ok (.baload, 1) := by decide +kernel
theorem dX0_decrypt_63 : decode cX0_decrypt 63 = .ok (.aload_n 1, 1) := by decide +kernel
theorem dX0_decrypt_64 : decode cX0_decrypt 64 = .ok (.iload_n 2, 1) := by decide +kernel
theorem dX0_decrypt_65 : decode cX0_decrypt 65 = .ok (.iload 6, 2) := by decide +kernel
theorem dX0_decrypt_67 : decode cX0_decrypt 67 = .ok (.iadd, 1) := by decide +kernel
theorem dX0_decrypt_68 : decode cX0_decrypt 68 = .ok (.iload 8, 2) := by decide +kernel
theorem dX0_decrypt_70 : decode cX0_decrypt 70 = .ok (.iadd, 1) := by decide +kernel
theorem dX0_decrypt_71 : decode cX0_decrypt 71 = .ok (.baload, 1) := by decide +kernel
theorem dX0_decrypt_72 : decode cX0_decrypt 72 = .ok (.ixor, 1) := by decide +kernel
theorem dX0_decrypt_73 : decode cX0_decrypt 73 = .ok (.ior, 1) := by decide +kernel
theorem dX0_decrypt_74 : decode cX0_decrypt 74 = .ok (.istore 7, 2) := by decide +kernel
theorem dX0_decrypt_76 : decode cX0_decrypt 76 = .ok (.iinc 8 1, 3) := by decide +kernel
theorem dX0_decrypt_79 : decode cX0_decrypt 79 = .ok (.goto (-32), 3) := by decide +kernel
theorem dX0_decrypt_82 : decode cX0_decrypt 82 = .ok (.iload 7, 2) := by decide +kernel
theorem dX0_decrypt_84 : decode cX0_decrypt 84 = .ok (.ifCond .eq 5, 3) := by decide +kernel
theorem dX0_decrypt_87 : decode cX0_decrypt 87 = .ok (.iconst 0, 1) := by decide +kernel
theorem dX0_decrypt_88 : decode cX0_decrypt 88 = .ok (.ireturn, 1) := by decide +kernel
theorem dX0_decrypt_89 : decode cX0_decrypt 89 = .ok (.aload_n 0, 1) := by decide +kernel
theorem dX0_decrypt_90 : decode cX0_decrypt 90 = .ok (.aload_n 1, 1) := by decide +kernel
theorem dX0_decrypt_91 : decode cX0_decrypt 91 = .ok (.iload_n 2, 1) := by decide +kernel
theorem dX0_decrypt_92 : decode cX0_decrypt 92 = .ok (.iload 6, 2) := by decide +kernel
theorem dX0_decrypt_94 : decode cX0_decrypt 94 = .ok (.aload 4, 2) := by decide +kernel
theorem dX0_decrypt_96 : decode cX0_decrypt 96 = .ok (.iload 5, 2) := by decide +kernel
theorem dX0_decrypt_98 : decode cX0_decrypt 98 = .ok (.invokevirtual 50, 3) := by decide +kernel
theorem dX0_decrypt_101 : decode cX0_decrypt 101 = .ok (.iconst 1, 1) := by decide +kernel
theorem dX0_decrypt_102 : decode cX0_decrypt 102 = .ok (.ireturn, 1) := by decide +kernel
theorem dX0_applyStream_0 : decode cX0_applyStream 0 = .ok (.iconst 0, 1) := by decide +kernel
theorem dX0_applyStream_1 : decode cX0_applyStream 1 = .ok (.istore 6, 2) := by decide +kernel
theorem dX0_applyStream_3 : decode cX0_applyStream 3 = .ok (.iload 6, 2) := by decide +kernel
theorem dX0_applyStream_5 : decode cX0_applyStream 5 = .ok (.iload_n 3, 1) := by decide +kernel
theorem dX0_applyStream_6 : decode cX0_applyStream 6 = .ok (.if_icmp .ge 54, 3) := by decide +kernel
theorem dX0_applyStream_9 : decode cX0_applyStream 9 = .ok (.iload 6, 2) := by decide +kernel
theorem dX0_applyStream_11 : decode cX0_applyStream 11 = .ok (.bipush 63, 2) := by decide +kernel
theorem dX0_applyStream_13 : decode cX0_applyStream 13 = .ok (.iand, 1) := by decide +kernel
theorem dX0_applyStream_14 : decode cX0_applyStream 14 = .ok (.istore 7, 2) := by decide +kernel
theorem dX0_applyStream_16 : decode cX0_applyStream 16 = .ok (.iload 7, 2) := by decide +kernel
theorem dX0_applyStream_18 : decode cX0_applyStream 18 = .ok (.ifCond .ne 10, 3) := by decide +kernel
theorem dX0_applyStream_21 : decode cX0_applyStream 21 = .ok (.aload_n 0, 1) := by decide +kernel
theorem dX0_applyStream_22 : decode cX0_applyStream 22 = .ok (.getfield 12, 3) := by decide +kernel
theorem dX0_applyStream_25 : decode cX0_applyStream 25 = .ok (.invokevirtual 37, 3) := by decide +kernel
theorem dX0_applyStream_28 : decode cX0_applyStream 28 = .ok (.aload 4, 2) := by decide +kernel
theorem dX0_applyStream_30 : decode cX0_applyStream 30 = .ok (.iload 5, 2) := by decide +kernel
theorem dX0_applyStream_32 : decode cX0_applyStream 32 = .ok (.iload 6, 2) := by decide +kernel
theorem dX0_applyStream_34 : decode cX0_applyStream 34 = .ok (.iadd, 1) := by decide +kernel
theorem dX0_applyStream_35 : decode cX0_applyStream 35 = .ok (.aload_n 1, 1) := by decide +kernel
theorem dX0_applyStream_36 : decode cX0_applyStream 36 = .ok (.iload_n 2, 1) := by decide +kernel
theorem dX0_applyStream_37 : decode cX0_applyStream 37 = .ok (.iload 6, 2) := by decide +kernel
theorem dX0_applyStream_39 : decode cX0_applyStream 39 = .ok (.iadd, 1) := by decide +kernel
theorem dX0_applyStream_40 : decode cX0_applyStream 40 = .ok (.baload, 1) := by decide +kernel
theorem dX0_applyStream_41 : decode cX0_applyStream 41 = .ok (.aload_n 0, 1) := by decide +kernel
theorem dX0_applyStream_42 : decode cX0_applyStream 42 = .ok (.getfield 12, 3) := by decide +kernel
theorem dX0_applyStream_45 : decode cX0_applyStream 45 = .ok (.getfield 40, 3) := by decide +kernel
theorem dX0_applyStream_48 : decode cX0_applyStream 48 = .ok (.iload 7, 2) := by decide +kernel
theorem dX0_applyStream_50 : decode cX0_applyStream 50 = .ok (.baload, 1) := by decide +kernel
theorem dX0_applyStream_51 : decode cX0_applyStream 51 = .ok (.ixor, 1) := by decide +kernel
theorem dX0_applyStream_52 : decode cX0_applyStream 52 = .ok (.i2b, 1) := by decide +kernel
theorem dX0_applyStream_53 : decode cX0_applyStream 53 = .ok (.bastore, 1) := by decide +kernel
theorem dX0_applyStream_54 : decode cX0_applyStream 54 = .ok (.iinc 6 1, 3) := by decide +kernel
theorem dX0_applyStream_57 : decode cX0_applyStream 57 = .ok (.goto (-54), 3) := by decide +kernel
theorem dX0_applyStream_60 : decode cX0_applyStream 60 = .ok (.return_, 1) := by decide +kernel
theorem dX1_loadBig_0 : decode cX1_loadBig 0 = .ok (.aload_n 0, 1) := by decide +kernel
theorem dX1_loadBig_1 : decode cX1_loadBig 1 = .ok (.iload_n 1, 1) := by decide +kernel
theorem dX1_loadBig_2 : decode cX1_loadBig 2 = .ok (.baload, 1) := by decide +kernel
theorem dX1_loadBig_3 : decode cX1_loadBig 3 = .ok (.sipush 255, 3) := by decide +kernel
theorem dX1_loadBig_6 : decode cX1_loadBig 6 = .ok (.iand, 1) := by decide +kernel
theorem dX1_loadBig_7 : decode cX1_loadBig 7 = .ok (.bipush 24, 2) := by decide +kernel
theorem dX1_loadBig_9 : decode cX1_loadBig 9 = .ok (.ishl, 1) := by decide +kernel
theorem dX1_loadBig_10 : decode cX1_loadBig 10 = .ok (.aload_n 0, 1) := by decide +kernel
theorem dX1_loadBig_11 : decode cX1_loadBig 11 = .ok (.iload_n 1, 1) := by decide +kernel
theorem dX1_loadBig_12 : decode cX1_loadBig 12 = .ok (.iconst 1, 1) := by decide +kernel
theorem dX1_loadBig_13 : decode cX1_loadBig 13 = .ok (.iadd, 1) := by decide +kernel
theorem dX1_loadBig_14 : decode cX1_loadBig 14 = .ok (.baload, 1) := by decide +kernel
theorem dX1_loadBig_15 : decode cX1_loadBig 15 = .ok (.sipush 255, 3) := by decide +kernel
theorem dX1_loadBig_18 : decode cX1_loadBig 18 = .ok (.iand, 1) := by decide +kernel
theorem dX1_loadBig_19 : decode cX1_loadBig 19 = .ok (.bipush 16, 2) := by decide +kernel
theorem dX1_loadBig_21 : decode cX1_loadBig 21 = .ok (.ishl, 1) := by decide +kernel
theorem dX1_loadBig_22 : decode cX1_loadBig 22 = .ok (.ior, 1) := by decide +kernel
theorem dX1_loadBig_23 : decode cX1_loadBig 23 = .ok (.aload_n 0, 1) := by decide +kernel
theorem dX1_loadBig_24 : decode cX1_loadBig 24 = .ok (.iload_n 1, 1) := by decide +kernel
theorem dX1_loadBig_25 : decode cX1_loadBig 25 = .ok (.iconst 2, 1) := by decide +kernel
theorem dX1_loadBig_26 : decode cX1_loadBig 26 = .ok (.iadd, 1) := by decide +kernel
theorem dX1_loadBig_27 : decode cX1_loadBig 27 = .ok (.baload, 1) := by decide +kernel
theorem dX1_loadBig_28 : decode cX1_loadBig 28 = .ok (.sipush 255, 3) := by decide +kernel
theorem dX1_loadBig_31 : decode cX1_loadBig 31 = .ok (.iand, 1) := by decide +kernel
theorem dX1_loadBig_32 : decode cX1_loadBig 32 = .ok (.bipush 8, 2) := by decide +kernel
theorem dX1_loadBig_34 : decode cX1_loadBig 34 = .ok (.ishl, 1) := by decide +kernel
theorem dX1_loadBig_35 : decode cX1_loadBig 35 = .ok (.ior, 1) := by decide +kernel
theorem dX1_loadBig_36 : decode cX1_loadBig 36 = .ok (.aload_n 0, 1) := by decide +kernel
theorem dX1_loadBig_37 : decode cX1_loadBig 37 = .ok (.iload_n 1, 1) := by decide +kernel
theorem dX1_loadBig_38 : decode cX1_loadBig 38 = .ok (.iconst 3, 1) := by decide +kernel
theorem dX1_loadBig_39 : decode cX1_loadBig 39 = .ok (.iadd, 1) := by decide +kernel
theorem dX1_loadBig_40 : decode cX1_loadBig 40 = .ok (.baload, 1) := by decide +kernel
theorem dX1_loadBig_41 : decode cX1_loadBig 41 = .ok (.sipush 255, 3) := by decide +kernel
theorem dX1_loadBig_44 : decode cX1_loadBig 44 = .ok (.iand, 1) := by decide +kernel
theorem dX1_loadBig_45 : decode cX1_loadBig 45 = .ok (.ior, 1) := by decide +kernel
theorem dX1_loadBig_46 : decode cX1_loadBig 46 = .ok (.ireturn, 1) := by decide +kernel
theorem dX1_storeBig_0 : decode cX1_storeBig 0 = .ok (.aload_n 1, 1) := by decide +kernel
theorem dX1_storeBig_1 : decode cX1_storeBig 1 = .ok (.iload_n 2, 1) := by decide +kernel
theorem dX1_storeBig_2 : decode cX1_storeBig 2 = .ok (.iload_n 0, 1) := by decide +kernel
theorem dX1_storeBig_3 : decode cX1_storeBig 3 = .ok (.bipush 24, 2) := by decide +kernel
theorem dX1_storeBig_5 : decode cX1_storeBig 5 = .ok (.iushr, 1) := by decide +kernel
theorem dX1_storeBig_6 : decode cX1_storeBig 6 = .ok (.i2b, 1) := by decide +kernel
theorem dX1_storeBig_7 : decode cX1_storeBig 7 = .ok (.bastore, 1) := by decide +kernel
theorem dX1_storeBig_8 : decode cX1_storeBig 8 = .ok (.aload_n 1, 1) := by decide +kernel
theorem dX1_storeBig_9 : decode cX1_storeBig 9 = .ok (.iload_n 2, 1) := by decide +kernel
theorem dX1_storeBig_10 : decode cX1_storeBig 10 = .ok (.iconst 1, 1) := by decide +kernel
theorem dX1_storeBig_11 : decode cX1_storeBig 11 = .ok (.iadd, 1) := by decide +kernel
theorem dX1_storeBig_12 : decode cX1_storeBig 12 = .ok (.iload_n 0, 1) := by decide +kernel
theorem dX1_storeBig_13 : decode cX1_storeBig 13 = .ok (.bipush 16, 2) := by decide +kernel
theorem dX1_storeBig_15 : decode cX1_storeBig 15 = .ok (.iushr, 1) := by decide +kernel
theorem dX1_storeBig_16 : decode cX1_storeBig 16 = .ok (.i2b, 1) := by decide +kernel
theorem dX1_storeBig_17 : decode cX1_storeBig 17 = .ok (.bastore, 1) := by decide +kernel
theorem dX1_storeBig_18 : decode cX1_storeBig 18 = .ok (.aload_n 1, 1) := by decide +kernel
theorem dX1_storeBig_19 : decode cX1_storeBig 19 = .ok (.iload_n 2, 1) := by decide +kernel
theorem dX1_storeBig_20 : decode cX1_storeBig 20 = .ok (.iconst 2, 1) := by decide +kernel
theorem dX1_storeBig_21 : decode cX1_storeBig 21 = .ok (.iadd, 1) := by decide +kernel
theorem dX1_storeBig_22 : decode cX1_storeBig 22 = .ok (.iload_n 0, 1) := by decide +kernel
theorem dX1_storeBig_23 : decode cX1_storeBig 23 = .ok (.bipush 8, 2) := by decide +kernel
theorem dX1_storeBig_25 : decode cX1_storeBig 25 = .ok (.iushr, 1) := by decide +kernel
theorem dX1_storeBig_26 : decode cX1_storeBig 26 = .ok (.i2b, 1) := by decide +kernel
theorem dX1_storeBig_27 : decode cX1_storeBig 27 = .ok (.bastore, 1) := by decide +kernel
theorem dX1_storeBig_28 : decode cX1_storeBig 28 = .ok (.aload_n 1, 1) := by decide +kernel
theorem dX1_storeBig_29 : decode cX1_storeBig 29 = .ok (.iload_n 2, 1) := by decide +kernel
theorem dX1_storeBig_30 : decode cX1_storeBig 30 = .ok (.iconst 3, 1) := by decide +kernel
theorem dX1_storeBig_31 : decode cX1_storeBig 31 = .ok (.iadd, 1) := by decide +kernel
theorem dX1_storeBig_32 : decode cX1_storeBig 32 = .ok (.iload_n 0, 1) := by decide +kernel
theorem dX1_storeBig_33 : decode cX1_storeBig 33 = .ok (.i2b, 1) := by decide +kernel
theorem dX1_storeBig_34 : decode cX1_storeBig 34 = .ok (.bastore, 1) := by decide +kernel
theorem dX1_storeBig_35 : decode cX1_storeBig 35 = .ok (.return_, 1) := by decide +kernel
theorem dX1_loadLittle_0 : decode cX1_loadLittle 0 = .ok (.aload_n 0, 1) := by decide +kernel
theorem dX1_loadLittle_1 : decode cX1_loadLittle 1 = .ok (.iload_n 1, 1) := by decide +kernel
theorem dX1_loadLittle_2 : decode cX1_loadLittle 2 = .ok (.baload, 1) := by decide +kernel
theorem dX1_loadLittle_3 : decode cX1_loadLittle 3 = .ok (.sipush 255, 3) := by decide +kernel
theorem dX1_loadLittle_6 : decode cX1_loadLittle 6 = .ok (.iand, 1) := by decide +kernel
theorem dX1_loadLittle_7 : decode cX1_loadLittle 7 = .ok (.aload_n 0, 1) := by decide +kernel
theorem dX1_loadLittle_8 : decode cX1_loadLittle 8 = .ok (.iload_n 1, 1) := by decide +kernel
theorem dX1_loadLittle_9 : decode cX1_loadLittle 9 = .ok (.iconst 1, 1) := by decide +kernel
theorem dX1_loadLittle_10 : decode cX1_loadLittle 10 = .ok (.iadd, 1) := by decide +kernel
theorem dX1_loadLittle_11 : decode cX1_loadLittle 11 = .ok (.baload, 1) := by decide +kernel
theorem dX1_loadLittle_12 : decode cX1_loadLittle 12 = .ok (.sipush 255, 3) := by decide +kernel
theorem dX1_loadLittle_15 : decode cX1_loadLittle 15 = .ok (.iand, 1) := by decide +kernel
theorem dX1_loadLittle_16 : decode cX1_loadLittle 16 = .ok (.bipush 8, 2) := by decide +kernel
theorem dX1_loadLittle_18 : decode cX1_loadLittle 18 = .ok (.ishl, 1) := by decide +kernel
theorem dX1_loadLittle_19 : decode cX1_loadLittle 19 = .ok (.ior, 1) := by decide +kernel
theorem dX1_loadLittle_20 : decode cX1_loadLittle 20 = .ok (.aload_n 0, 1) := by decide +kernel
theorem dX1_loadLittle_21 : decode cX1_loadLittle 21 = .ok (.iload_n 1, 1) := by decide +kernel
theorem dX1_loadLittle_22 : decode cX1_loadLittle 22 = .ok (.iconst 2, 1) := by decide +kernel
theorem dX1_loadLittle_23 : decode cX1_loadLittle 23 = .ok (.iadd, 1) := by decide +kernel
theorem dX1_loadLittle_24 : decode cX1_loadLittle 24 = .ok (.baload, 1) := by decide +kernel
theorem dX1_loadLittle_25 : decode cX1_loadLittle 25 = .ok (.sipush 255, 3) := by decide +kernel
theorem dX1_loadLittle_28 : decode cX1_loadLittle 28 = .ok (.iand, 1) := by decide +kernel
theorem dX1_loadLittle_29 : decode cX1_loadLittle 29 = .ok (.bipush 16, 2) := by decide +kernel
theorem dX1_loadLittle_31 : decode cX1_loadLittle 31 = .ok (.ishl, 1) := by decide +kernel
theorem dX1_loadLittle_32 : decode cX1_loadLittle 32 = .ok (.ior, 1) := by decide +kernel
theorem dX1_loadLittle_33 : decode cX1_loadLittle 33 = .ok (.aload_n 0, 1) := by decide +kernel
theorem dX1_loadLittle_34 : decode cX1_loadLittle 34 = .ok (.iload_n 1, 1) := by decide +kernel
theorem dX1_loadLittle_35 : decode cX1_loadLittle 35 = .ok (.iconst 3, 1) := by decide +kernel
theorem dX1_loadLittle_36 : decode cX1_loadLittle 36 = .ok (.iadd, 1) := by decide +kernel
theorem dX1_loadLittle_37 : decode cX1_loadLittle 37 = .ok (.baload, 1) := by decide +kernel
theorem dX1_loadLittle_38 : decode cX1_loadLittle 38 = .ok (.sipush 255, 3) := by decide +kernel
theorem dX1_loadLittle_41 : decode cX1_loadLittle 41 = .ok (.iand, 1) := by decide +kernel
theorem dX1_loadLittle_42 : decode cX1_loadLittle 42 = .ok (.bipush 24, 2) := by decide +kernel
theorem dX1_loadLittle_44 : decode cX1_loadLittle 44 = .ok (.ishl, 1) := by decide +kernel
theorem dX1_loadLittle_45 : decode cX1_loadLittle 45 = .ok (.ior, 1) := by decide +kernel
theorem dX1_loadLittle_46 : decode cX1_loadLittle 46 = .ok (.ireturn, 1) := by decide +kernel
theorem dX1_storeLittle_0 : decode cX1_storeLittle 0 = .ok (.aload_n 1, 1) := by decide +kernel
theorem dX1_storeLittle_1 : decode cX1_storeLittle 1 = .ok (.iload_n 2, 1) := by decide +kernel
theorem dX1_storeLittle_2 : decode cX1_storeLittle 2 = .ok (.iload_n 0, 1) := by decide +kernel
theorem dX1_storeLittle_3 : decode cX1_storeLittle 3 = .ok (.i2b, 1) := by decide +kernel
theorem dX1_storeLittle_4 : decode cX1_storeLittle 4 = .ok (.bastore, 1) := by decide +kernel
theorem dX1_storeLittle_5 : decode cX1_storeLittle 5 = .ok (.aload_n 1, 1) := by decide +kernel
theorem dX1_storeLittle_6 : decode cX1_storeLittle 6 = .ok (.iload_n 2, 1) := by decide +kernel
theorem dX1_storeLittle_7 : decode cX1_storeLittle 7 = .ok (.iconst 1, 1) := by decide +kernel
theorem dX1_storeLittle_8 : decode cX1_storeLittle 8 = .ok (.iadd, 1) := by decide +kernel
theorem dX1_storeLittle_9 : decode cX1_storeLittle 9 = .ok (.iload_n 0, 1) := by decide +kernel
theorem dX1_storeLittle_10 : decode cX1_storeLittle 10 = .ok (.bipush 8, 2) := by decide +kernel
theorem dX1_storeLittle_12 : decode cX1_storeLittle 12 = .ok (.iushr, 1) := by decide +kernel
theorem dX1_storeLittle_13 : decode cX1_storeLittle 13 = .ok (.i2b, 1) := by decide +kernel
theorem dX1_storeLittle_14 : decode cX1_storeLittle 14 = .ok (.bastore, 1) := by decide +kernel
theorem dX1_storeLittle_15 : decode cX1_storeLittle 15 = .ok (.aload_n 1, 1) := by decide +kernel
theorem dX1_storeLittle_16 : decode cX1_storeLittle 16 = .ok (.iload_n 2, 1) := by decide +kernel
theorem dX1_storeLittle_17 : decode cX1_storeLittle 17 = .ok (.iconst 2, 1) := by decide +kernel
theorem dX1_storeLittle_18 : decode cX1_storeLittle 18 = .ok (.iadd, 1) := by decide +kernel
theorem dX1_storeLittle_19 : decode cX1_storeLittle 19 = .ok (.iload_n 0, 1) := by decide +kernel
theorem dX1_storeLittle_20 : decode cX1_storeLittle 20 = .ok (.bipush 16, 2) := by decide +kernel
theorem dX1_storeLittle_22 : decode cX1_storeLittle 22 = .ok (.iushr, 1) := by decide +kernel
theorem dX1_storeLittle_23 : decode cX1_storeLittle 23 = .ok (.i2b, 1) := by decide +kernel
theorem dX1_storeLittle_24 : decode cX1_storeLittle 24 = .ok (.bastore, 1) := by decide +kernel
theorem dX1_storeLittle_25 : decode cX1_storeLittle 25 = .ok (.aload_n 1, 1) := by decide +kernel
theorem dX1_storeLittle_26 : decode cX1_storeLittle 26 = .ok (.iload_n 2, 1) := by decide +kernel
theorem dX1_storeLittle_27 : decode cX1_storeLittle 27 = .ok (.iconst 3, 1) := by decide +kernel
theorem dX1_storeLittle_28 : decode cX1_storeLittle 28 = .ok (.iadd, 1) := by decide +kernel
theorem dX1_storeLittle_29 : decode cX1_storeLittle 29 = .ok (.iload_n 0, 1) := by decide +kernel
theorem dX1_storeLittle_30 : decode cX1_storeLittle 30 = .ok (.bipush 24, 2) := by decide +kernel
theorem dX1_storeLittle_32 : decode cX1_storeLittle 32 = .ok (.iushr, 1) := by decide +kernel
theorem dX1_storeLittle_33 : decode cX1_storeLittle 33 = .ok (.i2b, 1) := by decide +kernel
theorem dX1_storeLittle_34 : decode cX1_storeLittle 34 = .ok (.bastore, 1) := by decide +kernel
theorem dX1_storeLittle_35 : decode cX1_storeLittle 35 = .ok (.return_, 1) := by decide +kernel
theorem dX2_init_0 : decode cX2_init 0 = .ok (.aload_n 0, 1) := by decide +kernel
theorem dX2_init_1 : decode cX2_init 1 = .ok (.invokespecial 1, 3) := by decide +kernel
theorem dX2_init_4 : decode cX2_init 4 = .ok (.aload_n 0, 1) := by decide +kernel
theorem dX2_init_5 : decode cX2_init 5 = .ok (.bipush 64, 2) := by decide +kernel
theorem dX2_init_7 : decode cX2_init 7 = .ok (.newarray .byte, 2) := by decide +kernel
theorem dX2_init_9 : decode cX2_init 9 = .ok (.putfield 9, 3) := by decide +kernel
theorem dX2_init_12 : decode cX2_init 12 = .ok (.aload_n 0, 1) := by decide +kernel
theorem dX2_init_13 : decode cX2_init 13 = .ok (.bipush 16, 2) := by decide +kernel
theorem dX2_init_15 : decode cX2_init 15 = .ok (.newarray .int, 2) := by decide +kernel
theorem dX2_init_17 : decode cX2_init 17 = .ok (.putfield 13, 3) := by decide +kernel
theorem dX2_init_20 : decode cX2_init 20 = .ok (.aload_n 0, 1) := by decide +kernel
theorem dX2_init_21 : decode cX2_init 21 = .ok (.bipush 16, 2) := by decide +kernel
theorem dX2_init_23 : decode cX2_init 23 = .ok (.newarray .int, 2) := by decide +kernel
theorem dX2_init_25 : decode cX2_init 25 = .ok (.putfield 17, 3) := by decide +kernel
theorem dX2_init_28 : decode cX2_init 28 = .ok (.return_, 1) := by decide +kernel
theorem dX2_begin_0 : decode cX2_begin 0 = .ok (.aload_n 0, 1) := by decide +kernel
theorem dX2_begin_1 : decode cX2_begin 1 = .ok (.getfield 13, 3) := by decide +kernel
theorem dX2_begin_4 : decode cX2_begin 4 = .ok (.iconst 0, 1) := by decide +kernel
theorem dX2_begin_5 : decode cX2_begin 5 = .ok (.ldc 20, 2) := by decide +kernel
theorem dX2_begin_7 : decode cX2_begin 7 = .ok (.iastore, 1) := by decide +kernel
theorem dX2_begin_8 : decode cX2_begin 8 = .ok (.aload_n 0, 1) := by decide +kernel
theorem dX2_begin_9 : decode cX2_begin 9 = .ok (.getfield 13, 3) := by decide +kernel
theorem dX2_begin_12 : decode cX2_begin 12 = .ok (.iconst 1, 1) := by decide +kernel
theorem dX2_begin_13 : decode cX2_begin 13 = .ok (.ldc 21, 2) := by decide +kernel
theorem dX2_begin_15 : decode cX2_begin 15 = .ok (.iastore, 1) := by decide +kernel
theorem dX2_begin_16 : decode cX2_begin 16 = .ok (.aload_n 0, 1) := by decide +kernel
theorem dX2_begin_17 : decode cX2_begin 17 = .ok (.getfield 13, 3) := by decide +kernel
theorem dX2_begin_20 : decode cX2_begin 20 = .ok (.iconst 2, 1) := by decide +kernel
theorem dX2_begin_21 : decode cX2_begin 21 = .ok (.ldc 22, 2) := by decide +kernel
theorem dX2_begin_23 : decode cX2_begin 23 = .ok (.iastore, 1) := by decide +kernel
theorem dX2_begin_24 : decode cX2_begin 24 = .ok (.aload_n 0, 1) := by decide +kernel
theorem dX2_begin_25 : decode cX2_begin 25 = .ok (.getfield 13, 3) := by decide +kernel
theorem dX2_begin_28 : decode cX2_begin 28 = .ok (.iconst 3, 1) := by decide +kernel
theorem dX2_begin_29 : decode cX2_begin 29 = .ok (.ldc 23, 2) := by decide +kernel
theorem dX2_begin_31 : decode cX2_begin 31 = .ok (.iastore, 1) := by decide +kernel
theorem dX2_begin_32 : decode cX2_begin 32 = .ok (.iconst 0, 1) := by decide +kernel
theorem dX2_begin_33 : decode cX2_begin 33 = .ok (.istore 4, 2) := by decide +kernel
theorem dX2_begin_35 : decode cX2_begin 35 = .ok (.iload 4, 2) := by decide +kernel
theorem dX2_begin_37 : decode cX2_begin 37 = .ok (.bipush 8, 2) := by decide +kernel
theorem dX2_begin_39 : decode cX2_begin 39 = .ok (.if_icmp .ge 26, 3) := by decide +kernel
theorem dX2_begin_42 : decode cX2_begin 42 = .ok (.aload_n 0, 1) := by decide +kernel
theorem dX2_begin_43 : decode cX2_begin 43 = .ok (.getfield 13, 3) := by decide +kernel
theorem dX2_begin_46 : decode cX2_begin 46 = .ok (.iconst 4, 1) := by decide +kernel
theorem dX2_begin_47 : decode cX2_begin 47 = .ok (.iload 4, 2) := by decide +kernel
theorem dX2_begin_49 : decode cX2_begin 49 = .ok (.iadd, 1) := by decide +kernel
theorem dX2_begin_50 : decode cX2_begin 50 = .ok (.aload_n 1, 1) := by decide +kernel
theorem dX2_begin_51 : decode cX2_begin 51 = .ok (.iconst 4, 1) := by decide +kernel
theorem dX2_begin_52 : decode cX2_begin 52 = .ok (.iload 4, 2) := by decide +kernel
theorem dX2_begin_54 : decode cX2_begin 54 = .ok (.imul, 1) := by decide +kernel
theorem dX2_begin_55 : decode cX2_begin 55 = .ok (.invokestatic 24, 3) := by decide +kernel
theorem dX2_begin_58 : decode cX2_begin 58 = .ok (.iastore, 1) := by decide +kernel
theorem dX2_begin_59 : decode cX2_begin 59 = .ok (.iinc 4 1, 3) := by decide +kernel
theorem dX2_begin_62 : decode cX2_begin 62 = .ok (.goto (-27), 3) := by decide +kernel
theorem dX2_begin_65 : decode cX2_begin 65 = .ok (.aload_n 0, 1) := by decide +kernel
theorem dX2_begin_66 : decode cX2_begin 66 = .ok (.getfield 13, 3) := by decide +kernel
theorem dX2_begin_69 : decode cX2_begin 69 = .ok (.bipush 12, 2) := by decide +kernel
theorem dX2_begin_71 : decode cX2_begin 71 = .ok (.iconst 0, 1) := by decide +kernel
theorem dX2_begin_72 : decode cX2_begin 72 = .ok (.iastore, 1) := by decide +kernel
theorem dX2_begin_73 : decode cX2_begin 73 = .ok (.aload_n 0, 1) := by decide +kernel
theorem dX2_begin_74 : decode cX2_begin 74 = .ok (.getfield 13, 3) := by decide +kernel
theorem dX2_begin_77 : decode cX2_begin 77 = .ok (.bipush 13, 2) := by decide +kernel
theorem dX2_begin_79 : decode cX2_begin 79 = .ok (.iconst 0, 1) := by decide +kernel
theorem dX2_begin_80 : decode cX2_begin 80 = .ok (.iastore, 1) := by decide +kernel
theorem dX2_begin_81 : decode cX2_begin 81 = .ok (.aload_n 0, 1) := by decide +kernel
theorem dX2_begin_82 : decode cX2_begin 82 = .ok (.getfield 13, 3) := by decide +kernel
theorem dX2_begin_85 : decode cX2_begin 85 = .ok (.bipush 14, 2) := by decide +kernel
theorem dX2_begin_87 : decode cX2_begin 87 = .ok (.lload_n 2, 1) := by decide +kernel
theorem dX2_begin_88 : decode cX2_begin 88 = .ok (.l2i, 1) := by decide +kernel
theorem dX2_begin_89 : decode cX2_begin 89 = .ok (.iastore, 1) := by decide +kernel
theorem dX2_begin_90 : decode cX2_begin 90 = .ok (.aload_n 0, 1) := by decide +kernel
theorem dX2_begin_91 : decode cX2_begin 91 = .ok (.getfield 13, 3) := by decide +kernel
theorem dX2_begin_94 : decode cX2_begin 94 = .ok (.bipush 15, 2) := by decide +kernel
theorem dX2_begin_96 : decode cX2_begin 96 = .ok (.lload_n 2, 1) := by decide +kernel
theorem dX2_begin_97 : decode cX2_begin 97 = .ok (.bipush 32, 2) := by decide +kernel
theorem dX2_begin_99 : decode cX2_begin 99 = .ok (.lushr, 1) := by decide +kernel
theorem dX2_begin_100 : decode cX2_begin 100 = .ok (.l2i, 1) := by decide +kernel
theorem dX2_begin_101 : decode cX2_begin 101 = .ok (.iastore, 1) := by decide +kernel
theorem dX2_begin_102 : decode cX2_begin 102 = .ok (.return_, 1) := by decide +kernel
theorem dX2_nextBlock_0 : decode cX2_nextBlock 0 = .ok (.aload_n 0, 1) := by decide +kernel
theorem dX2_nextBlock_1 : decode cX2_nextBlock 1 = .ok (.getfield 13, 3) := by decide +kernel
theorem dX2_nextBlock_4 : decode cX2_nextBlock 4 = .ok (.iconst 0, 1) := by decide +kernel
theorem dX2_nextBlock_5 : decode cX2_nextBlock 5 = .ok (.aload_n 0, 1) := by decide +kernel
theorem dX2_nextBlock_6 : decode cX2_nextBlock 6 = .ok (.getfield 17, 3) := by decide +kernel
theorem dX2_nextBlock_9 : decode cX2_nextBlock 9 = .ok (.iconst 0, 1) := by decide +kernel
theorem dX2_nextBlock_10 : decode cX2_nextBlock 10 = .ok (.bipush 16, 2) := by decide +kernel
theorem dX2_nextBlock_12 : decode cX2_nextBlock 12 = .ok (.invokestatic 30, 3) := by decide +kernel
theorem dX2_nextBlock_15 : decode cX2_nextBlock 15 = .ok (.iconst 0, 1) := by decide +kernel
theorem dX2_nextBlock_16 : decode cX2_nextBlock 16 = .ok (.istore_n 1, 1) := by decide +kernel
theorem dX2_nextBlock_17 : decode cX2_nextBlock 17 = .ok (.iload_n 1, 1) := by decide +kernel
theorem dX2_nextBlock_18 : decode cX2_nextBlock 18 = .ok (.bipush 20, 2) := by decide +kernel
theorem dX2_nextBlock_20 : decode cX2_nextBlock 20 = .ok (.if_icmp .ge 16, 3) := by decide +kernel
theorem dX2_nextBlock_23 : decode cX2_nextBlock 23 = .ok (.aload_n 0, 1) := by decide +kernel
theorem dX2_nextBlock_24 : decode cX2_nextBlock 24 = .ok (.iload_n 1, 1) := by decide +kernel
theorem dX2_nextBlock_25 : decode cX2_nextBlock 25 = .ok (.iconst 1, 1) := by decide +kernel
theorem dX2_nextBlock_26 : decode cX2_nextBlock 26 = .ok (.iand, 1) := by decide +kernel
theorem dX2_nextBlock_27 : decode cX2_nextBlock 27 = .ok (.invokevirtual 36, 3) := by decide +kernel
theorem dX2_nextBlock_30 : decode cX2_nextBlock 30 = .ok (.iinc 1 1, 3) := by decide +kernel
theorem dX2_nextBlock_33 : decode cX2_nextBlock 33 = .ok (.goto (-16), 3) := by decide +kernel
theorem dX2_nextBlock_36 : decode cX2_nextBlock 36 = .ok (.iconst 0, 1) := by decide +kernel
theorem dX2_nextBlock_37 : decode cX2_nextBlock 37 = .ok (.istore_n 1, 1) := by decide +kernel
theorem dX2_nextBlock_38 : decode cX2_nextBlock 38 = .ok (.iload_n 1, 1) := by decide +kernel
theorem dX2_nextBlock_39 : decode cX2_nextBlock 39 = .ok (.bipush 16, 2) := by decide +kernel
theorem dX2_nextBlock_41 : decode cX2_nextBlock 41 = .ok (.if_icmp .ge 32, 3) := by decide +kernel
theorem dX2_nextBlock_44 : decode cX2_nextBlock 44 = .ok (.aload_n 0, 1) := by decide +kernel
theorem dX2_nextBlock_45 : decode cX2_nextBlock 45 = .ok (.getfield 17, 3) := by decide +kernel
theorem dX2_nextBlock_48 : decode cX2_nextBlock 48 = .ok (.iload_n 1, 1) := by decide +kernel
theorem dX2_nextBlock_49 : decode cX2_nextBlock 49 = .ok (.iaload, 1) := by decide +kernel
theorem dX2_nextBlock_50 : decode cX2_nextBlock 50 = .ok (.aload_n 0, 1) := by decide +kernel
theorem dX2_nextBlock_51 : decode cX2_nextBlock 51 = .ok (.getfield 13, 3) := by decide +kernel
theorem dX2_nextBlock_54 : decode cX2_nextBlock 54 = .ok (.iload_n 1, 1) := by decide +kernel
theorem dX2_nextBlock_55 : decode cX2_nextBlock 55 = .ok (.iaload, 1) := by decide +kernel
theorem dX2_nextBlock_56 : decode cX2_nextBlock 56 = .ok (.iadd, 1) := by decide +kernel
theorem dX2_nextBlock_57 : decode cX2_nextBlock 57 = .ok (.aload_n 0, 1) := by decide +kernel
theorem dX2_nextBlock_58 : decode cX2_nextBlock 58 = .ok (.getfield 9, 3) := by decide +kernel
theorem dX2_nextBlock_61 : decode cX2_nextBlock 61 = .ok (.iconst 4, 1) := by decide +kernel
theorem dX2_nextBlock_62 : decode cX2_nextBlock 62 = .ok (.iload_n 1, 1) := by decide +kernel
theorem dX2_nextBlock_63 : decode cX2_nextBlock 63 = .ok (.imul, 1) := by decide +kernel
theorem dX2_nextBlock_64 : decode cX2_nextBlock 64 = .ok (.invokestatic 40, 3) := by decide +kernel
theorem dX2_nextBlock_67 : decode cX2_nextBlock 67 = .ok (.iinc 1 1, 3) := by decide +kernel
theorem dX2_nextBlock_70 : decode cX2_nextBlock 70 = .ok (.goto (-32), 3) := by decide +kernel
theorem dX2_nextBlock_73 : decode cX2_nextBlock 73 = .ok (.aload_n 0, 1) := by decide +kernel
theorem dX2_nextBlock_74 : decode cX2_nextBlock 74 = .ok (.getfield 13, 3) := by decide +kernel
theorem dX2_nextBlock_77 : decode cX2_nextBlock 77 = .ok (.bipush 12, 2) := by decide +kernel
theorem dX2_nextBlock_79 : decode cX2_nextBlock 79 = .ok (.dup2, 1) := by decide +kernel
theorem dX2_nextBlock_80 : decode cX2_nextBlock 80 = .ok (.iaload, 1) := by decide +kernel
theorem dX2_nextBlock_81 : decode cX2_nextBlock 81 = .ok (.iconst 1, 1) := by decide +kernel
theorem dX2_nextBlock_82 : decode cX2_nextBlock 82 = .ok (.iadd, 1) := by decide +kernel
theorem dX2_nextBlock_83 : decode cX2_nextBlock 83 = .ok (.iastore, 1) := by decide +kernel
theorem dX2_nextBlock_84 : decode cX2_nextBlock 84 = .ok (.return_, 1) := by decide +kernel
theorem dX2_quarterRounds_0 : decode cX2_quarterRounds 0 = .ok (.iconst 0, 1) := by decide +kernel
theorem dX2_quarterRounds_1 : decode cX2_quarterRounds 1 = .ok (.istore_n 2, 1) := by decide +kernel
theorem dX2_quarterRounds_2 : decode cX2_quarterRounds 2 = .ok (.iload_n 2, 1) := by decide +kernel
theorem dX2_quarterRounds_3 : decode cX2_quarterRounds 3 = .ok (.iconst 4, 1) := by decide +kernel
theorem dX2_quarterRounds_4 : decode cX2_quarterRounds 4 = .ok (.if_icmp .ge 205, 3) := by decide +kernel
theorem dX2_quarterRounds_7 : decode cX2_quarterRounds 7 = .ok (.iconst 4, 1) := by decide +kernel
theorem dX2_quarterRounds_8 : decode cX2_quarterRounds 8 = .ok (.iload_n 2, 1) := by decide +kernel
theorem dX2_quarterRounds_9 : decode cX2_quarterRounds 9 = .ok (.iload_n 1, 1) := by decide +kernel
theorem dX2_quarterRounds_10 : decode cX2_quarterRounds 10 = .ok (.iadd, 1) := by decide +kernel
theorem dX2_quarterRounds_11 : decode cX2_quarterRounds 11 = .ok (.iconst 3, 1) := by decide +kernel
theorem dX2_quarterRounds_12 : decode cX2_quarterRounds 12 = .ok (.iand, 1) := by decide +kernel
theorem dX2_quarterRounds_13 : decode cX2_quarterRounds 13 = .ok (.iadd, 1) := by decide +kernel
theorem dX2_quarterRounds_14 : decode cX2_quarterRounds 14 = .ok (.istore_n 3, 1) := by decide +kernel
theorem dX2_quarterRounds_15 : decode cX2_quarterRounds 15 = .ok (.bipush 8, 2) := by decide +kernel
theorem dX2_quarterRounds_17 : decode cX2_quarterRounds 17 = .ok (.iload_n 2, 1) := by decide +kernel
theorem dX2_quarterRounds_18 : decode cX2_quarterRounds 18 = .ok (.iconst 2, 1) := by decide +kernel
theorem dX2_quarterRounds_19 : decode cX2_quarterRounds 19 = .ok (.iload_n 1, 1) := by decide +kernel
theorem dX2_quarterRounds_20 : decode cX2_quarterRounds 20 = .ok (.imul, 1) := by decide +kernel
theorem dX2_quarterRounds_21 : decode cX2_quarterRounds 21 = .ok (.iadd, 1) := by decide +kernel
theorem dX2_quarterRounds_22 : decode cX2_quarterRounds 22 = .ok (.iconst 3, 1) := by decide +kernel
theorem dX2_quarterRounds_23 : decode cX2_quarterRounds 23 = .ok (.iand, 1) := by decide +kernel
theorem dX2_quarterRounds_24 : decode cX2_quarterRounds 24 = .ok (.iadd, 1) := by decide +kernel
theorem dX2_quarterRounds_25 : decode cX2_quarterRounds 25 = .ok (.istore 4, 2) := by decide +kernel
theorem dX2_quarterRounds_27 : decode cX2_quarterRounds 27 = .ok (.bipush 12, 2) := by decide +kernel
theorem dX2_quarterRounds_29 : decode cX2_quarterRounds 29 = .ok (.iload_n 2, 1) := by decide +kernel
theorem dX2_quarterRounds_30 : decode cX2_quarterRounds 30 = .ok (.iconst 3, 1) := by decide +kernel
theorem dX2_quarterRounds_31 : decode cX2_quarterRounds 31 = .ok (.iload_n 1, 1) := by decide +kernel
theorem dX2_quarterRounds_32 : decode cX2_quarterRounds 32 = .ok (.imul, 1) := by decide +kernel
theorem dX2_quarterRounds_33 : decode cX2_quarterRounds 33 = .ok (.iadd, 1) := by decide +kernel
theorem dX2_quarterRounds_34 : decode cX2_quarterRounds 34 = .ok (.iconst 3, 1) := by decide +kernel
theorem dX2_quarterRounds_35 : decode cX2_quarterRounds 35 = .ok (.iand, 1) := by decide +kernel
theorem dX2_quarterRounds_36 : decode cX2_quarterRounds 36 = .ok (.iadd, 1) := by decide +kernel
theorem dX2_quarterRounds_37 : decode cX2_quarterRounds 37 = .ok (.istore 5, 2) := by decide +kernel
theorem dX2_quarterRounds_39 : decode cX2_quarterRounds 39 = .ok (.aload_n 0, 1) := by decide +kernel
theorem dX2_quarterRounds_40 : decode cX2_quarterRounds 40 = .ok (.getfield 17, 3) := by decide +kernel
theorem dX2_quarterRounds_43 : decode cX2_quarterRounds 43 = .ok (.iload_n 2, 1) := by decide +kernel
theorem dX2_quarterRounds_44 : decode cX2_quarterRounds 44 = .ok (.iaload, 1) := by decide +kernel
theorem dX2_quarterRounds_45 : decode cX2_quarterRounds 45 = .ok (.aload_n 0, 1) := by decide +kernel
theorem dX2_quarterRounds_46 : decode cX2_quarterRounds 46 = .ok (.getfield 17, 3) := by decide +kernel
theorem dX2_quarterRounds_49 : decode cX2_quarterRounds 49 = .ok (.iload_n 3, 1) := by decide +kernel
theorem dX2_quarterRounds_50 : decode cX2_quarterRounds 50 = .ok (.iaload, 1) := by decide +kernel
theorem dX2_quarterRounds_51 : decode cX2_quarterRounds 51 = .ok (.iadd, 1) := by decide +kernel
theorem dX2_quarterRounds_52 : decode cX2_quarterRounds 52 = .ok (.istore 6, 2) := by decide +kernel
theorem dX2_quarterRounds_54 : decode cX2_quarterRounds 54 = .ok (.aload_n 0, 1) := by decide +kernel
theorem dX2_quarterRounds_55 : decode cX2_quarterRounds 55 = .ok (.getfield 17, 3) := by decide +kernel
theorem dX2_quarterRounds_58 : decode cX2_quarterRounds 58 = .ok (.iload 5, 2) := by decide +kernel
theorem dX2_quarterRounds_60 : decode cX2_quarterRounds 60 = .ok (.iaload, 1) := by decide +kernel
theorem dX2_quarterRounds_61 : decode cX2_quarterRounds 61 = .ok (.iload 6, 2) := by decide +kernel
theorem dX2_quarterRounds_63 : decode cX2_quarterRounds 63 = .ok (.ixor, 1) := by decide +kernel
theorem dX2_quarterRounds_64 : decode cX2_quarterRounds 64 = .ok (.istore 7, 2) := by decide +kernel
theorem dX2_quarterRounds_66 : decode cX2_quarterRounds 66 = .ok (.iload 7, 2) := by decide +kernel
theorem dX2_quarterRounds_68 : decode cX2_quarterRounds 68 = .ok (.bipush 16, 2) := by decide +kernel
theorem dX2_quarterRounds_70 : decode cX2_quarterRounds 70 = .ok (.ishl, 1) := by decide +kernel
theorem dX2_quarterRounds_71 : decode cX2_quarterRounds 71 = .ok (.iload 7, 2) := by decide +kernel
theorem dX2_quarterRounds_73 : decode cX2_quarterRounds 73 = .ok (.bipush 16, 2) := by decide +kernel
theorem dX2_quarterRounds_75 : decode cX2_quarterRounds 75 = .ok (.iushr, 1) := by decide +kernel
theorem dX2_quarterRounds_76 : decode cX2_quarterRounds 76 = .ok (.ior, 1) := by decide +kernel
theorem dX2_quarterRounds_77 : decode cX2_quarterRounds 77 = .ok (.istore 7, 2) := by decide +kernel
theorem dX2_quarterRounds_79 : decode cX2_quarterRounds 79 = .ok (.aload_n 0, 1) := by decide +kernel
theorem dX2_quarterRounds_80 : decode cX2_quarterRounds 80 = .ok (.getfield 17, 3) := by decide +kernel
theorem dX2_quarterRounds_83 : decode cX2_quarterRounds 83 = .ok (.iload 4, 2) := by decide +kernel
theorem dX2_quarterRounds_85 : decode cX2_quarterRounds 85 = .ok (.iaload, 1) := by decide +kernel
theorem dX2_quarterRounds_86 : decode cX2_quarterRounds 86 = .ok (.iload 7, 2) := by decide +kernel
theorem dX2_quarterRounds_88 : decode cX2_quarterRounds 88 = .ok (.iadd, 1) := by decide +kernel
theorem dX2_quarterRounds_89 : decode cX2_quarterRounds 89 = .ok (.istore 8, 2) := by decide +kernel
theorem dX2_quarterRounds_91 : decode cX2_quarterRounds 91 = .ok (.aload_n 0, 1) := by decide +kernel
theorem dX2_quarterRounds_92 : decode cX2_quarterRounds 92 = .ok (.getfield 17, 3) := by decide +kernel
theorem dX2_quarterRounds_95 : decode cX2_quarterRounds 95 = .ok (.iload_n 3, 1) := by decide +kernel
theorem dX2_quarterRounds_96 : decode cX2_quarterRounds 96 = .ok (.iaload, 1) := by decide +kernel
theorem dX2_quarterRounds_97 : decode cX2_quarterRounds 97 = .ok (.iload 8, 2) := by decide +kernel
theorem dX2_quarterRounds_99 : decode cX2_quarterRounds 99 = .ok (.ixor, 1) := by decide +kernel
theorem dX2_quarterRounds_100 : decode cX2_quarterRounds 100 = .ok (.istore 9, 2) := by decide +kernel
theorem dX2_quarterRounds_102 : decode cX2_quarterRounds 102 = .ok (.iload 9, 2) := by decide +kernel
theorem dX2_quarterRounds_104 : decode cX2_quarterRounds 104 = .ok (.bipush 12, 2) := by decide +kernel
theorem dX2_quarterRounds_106 : decode cX2_quarterRounds 106 = .ok (.ishl, 1) := by decide +kernel
theorem dX2_quarterRounds_107 : decode cX2_quarterRounds 107 = .ok (.iload 9, 2) := by decide +kernel
theorem dX2_quarterRounds_109 : decode cX2_quarterRounds 109 = .ok (.bipush 20, 2) := by decide +kernel
theorem dX2_quarterRounds_111 : decode cX2_quarterRounds 111 = .ok (.iushr, 1) := by decide +kernel
theorem dX2_quarterRounds_112 : decode cX2_quarterRounds 112 = .ok (.ior, 1) := by decide +kernel
theorem dX2_quarterRounds_113 : decode cX2_quarterRounds 113 = .ok (.istore 9, 2) := by decide +kernel
theorem dX2_quarterRounds_115 : decode cX2_quarterRounds 115 = .ok (.iload 6, 2) := by decide +kernel
theorem dX2_quarterRounds_117 : decode cX2_quarterRounds 117 = .ok (.iload 9, 2) := by decide +kernel
theorem dX2_quarterRounds_119 : decode cX2_quarterRounds 119 = .ok (.iadd, 1) := by decide +kernel
theorem dX2_quarterRounds_120 : decode cX2_quarterRounds 120 = .ok (.istore 6, 2) := by decide +kernel
theorem dX2_quarterRounds_122 : decode cX2_quarterRounds 122 = .ok (.iload 7, 2) := by decide +kernel
theorem dX2_quarterRounds_124 : decode cX2_quarterRounds 124 = .ok (.iload 6, 2) := by decide +kernel
theorem dX2_quarterRounds_126 : decode cX2_quarterRounds 126 = .ok (.ixor, 1) := by decide +kernel
theorem dX2_quarterRounds_127 : decode cX2_quarterRounds 127 = .ok (.istore 7, 2) := by decide +kernel
theorem dX2_quarterRounds_129 : decode cX2_quarterRounds 129 = .ok (.iload 7, 2) := by decide +kernel
theorem dX2_quarterRounds_131 : decode cX2_quarterRounds 131 = .ok (.bipush 8, 2) := by decide +kernel
theorem dX2_quarterRounds_133 : decode cX2_quarterRounds 133 = .ok (.ishl, 1) := by decide +kernel
theorem dX2_quarterRounds_134 : decode cX2_quarterRounds 134 = .ok (.iload 7, 2) := by decide +kernel
theorem dX2_quarterRounds_136 : decode cX2_quarterRounds 136 = .ok (.bipush 24, 2) := by decide +kernel
theorem dX2_quarterRounds_138 : decode cX2_quarterRounds 138 = .ok (.iushr, 1) := by decide +kernel
theorem dX2_quarterRounds_139 : decode cX2_quarterRounds 139 = .ok (.ior, 1) := by decide +kernel
theorem dX2_quarterRounds_140 : decode cX2_quarterRounds 140 = .ok (.istore 7, 2) := by decide +kernel
theorem dX2_quarterRounds_142 : decode cX2_quarterRounds 142 = .ok (.iload 8, 2) := by decide +kernel
theorem dX2_quarterRounds_144 : decode cX2_quarterRounds 144 = .ok (.iload 7, 2) := by decide +kernel
theorem dX2_quarterRounds_146 : decode cX2_quarterRounds 146 = .ok (.iadd, 1) := by decide +kernel
theorem dX2_quarterRounds_147 : decode cX2_quarterRounds 147 = .ok (.istore 8, 2) := by decide +kernel
theorem dX2_quarterRounds_149 : decode cX2_quarterRounds 149 = .ok (.iload 9, 2) := by decide +kernel
theorem dX2_quarterRounds_151 : decode cX2_quarterRounds 151 = .ok (.iload 8, 2) := by decide +kernel
theorem dX2_quarterRounds_153 : decode cX2_quarterRounds 153 = .ok (.ixor, 1) := by decide +kernel
theorem dX2_quarterRounds_154 : decode cX2_quarterRounds 154 = .ok (.istore 9, 2) := by decide +kernel
theorem dX2_quarterRounds_156 : decode cX2_quarterRounds 156 = .ok (.iload 9, 2) := by decide +kernel
theorem dX2_quarterRounds_158 : decode cX2_quarterRounds 158 = .ok (.bipush 7, 2) := by decide +kernel
theorem dX2_quarterRounds_160 : decode cX2_quarterRounds 160 = .ok (.ishl, 1) := by decide +kernel
theorem dX2_quarterRounds_161 : decode cX2_quarterRounds 161 = .ok (.iload 9, 2) := by decide +kernel
theorem dX2_quarterRounds_163 : decode cX2_quarterRounds 163 = .ok (.bipush 25, 2) := by decide +kernel
theorem dX2_quarterRounds_165 : decode cX2_quarterRounds 165 = .ok (.iushr, 1) := by decide +kernel
theorem dX2_quarterRounds_166 : decode cX2_quarterRounds 166 = .ok (.ior, 1) := by decide +kernel
theorem dX2_quarterRounds_167 : decode cX2_quarterRounds 167 = .ok (.istore 9, 2) := by decide +kernel
theorem dX2_quarterRounds_169 : decode cX2_quarterRounds 169 = .ok (.aload_n 0, 1) := by decide +kernel
theorem dX2_quarterRounds_170 : decode cX2_quarterRounds 170 = .ok (.getfield 17, 3) := by decide +kernel
theorem dX2_quarterRounds_173 : decode cX2_quarterRounds 173 = .ok (.iload_n 2, 1) := by decide +kernel
theorem dX2_quarterRounds_174 : decode cX2_quarterRounds 174 = .ok (.iload 6, 2) := by decide +kernel
theorem dX2_quarterRounds_176 : decode cX2_quarterRounds 176 = .ok (.iastore, 1) := by decide +kernel
theorem dX2_quarterRounds_177 : decode cX2_quarterRounds 177 = .ok (.aload_n 0, 1) := by decide +kernel
theorem dX2_quarterRounds_178 : decode cX2_quarterRounds 178 = .ok (.getfield 17, 3) := by decide +kernel
theorem dX2_quarterRounds_181 : decode cX2_quarterRounds 181 = .ok (.iload_n 3, 1) := by decide +kernel
theorem dX2_quarterRounds_182 : decode cX2_quarterRounds 182 = .ok (.iload 9, 2) := by decide +kernel
theorem dX2_quarterRounds_184 : decode cX2_quarterRounds 184 = .ok (.iastore, 1) := by decide +kernel
theorem dX2_quarterRounds_185 : decode cX2_quarterRounds 185 = .ok (.aload_n 0, 1) := by decide +kernel
theorem dX2_quarterRounds_186 : decode cX2_quarterRounds 186 = .ok (.getfield 17, 3) := by decide +kernel
theorem dX2_quarterRounds_189 : decode cX2_quarterRounds 189 = .ok (.iload 4, 2) := by decide +kernel
theorem dX2_quarterRounds_191 : decode cX2_quarterRounds 191 = .ok (.iload 8, 2) := by decide +kernel
theorem dX2_quarterRounds_193 : decode cX2_quarterRounds 193 = .ok (.iastore, 1) := by decide +kernel
theorem dX2_quarterRounds_194 : decode cX2_quarterRounds 194 = .ok (.aload_n 0, 1) := by decide +kernel
theorem dX2_quarterRounds_195 : decode cX2_quarterRounds 195 = .ok (.getfield 17, 3) := by decide +kernel
theorem dX2_quarterRounds_198 : decode cX2_quarterRounds 198 = .ok (.iload 5, 2) := by decide +kernel
theorem dX2_quarterRounds_200 : decode cX2_quarterRounds 200 = .ok (.iload 7, 2) := by decide +kernel
theorem dX2_quarterRounds_202 : decode cX2_quarterRounds 202 = .ok (.iastore, 1) := by decide +kernel
theorem dX2_quarterRounds_203 : decode cX2_quarterRounds 203 = .ok (.iinc 2 1, 3) := by decide +kernel
theorem dX2_quarterRounds_206 : decode cX2_quarterRounds 206 = .ok (.goto (-204), 3) := by decide +kernel
theorem dX2_quarterRounds_209 : decode cX2_quarterRounds 209 = .ok (.return_, 1) := by decide +kernel
theorem dX3_init_0 : decode cX3_init 0 = .ok (.aload_n 0, 1) := by decide +kernel
theorem dX3_init_1 : decode cX3_init 1 = .ok (.invokespecial 3, 3) := by decide +kernel
theorem dX3_init_4 : decode cX3_init 4 = .ok (.aload_n 0, 1) := by decide +kernel
theorem dX3_init_5 : decode cX3_init 5 = .ok (.bipush 32, 2) := by decide +kernel
theorem dX3_init_7 : decode cX3_init 7 = .ok (.newarray .byte, 2) := by decide +kernel
theorem dX3_init_9 : decode cX3_init 9 = .ok (.putfield 9, 3) := by decide +kernel
theorem dX3_init_12 : decode cX3_init 12 = .ok (.aload_n 0, 1) := by decide +kernel
theorem dX3_init_13 : decode cX3_init 13 = .ok (.bipush 48, 2) := by decide +kernel
theorem dX3_init_15 : decode cX3_init 15 = .ok (.newarray .byte, 2) := by decide +kernel
theorem dX3_init_17 : decode cX3_init 17 = .ok (.putfield 15, 3) := by decide +kernel
theorem dX3_init_20 : decode cX3_init 20 = .ok (.aload_n 0, 1) := by decide +kernel
theorem dX3_init_21 : decode cX3_init 21 = .ok (.iconst 0, 1) := by decide +kernel
theorem dX3_init_22 : decode cX3_init 22 = .ok (.putfield 18, 3) := by decide +kernel
theorem dX3_init_25 : decode cX3_init 25 = .ok (.aload_n 0, 1) := by decide +kernel
theorem dX3_init_26 : decode cX3_init 26 = .ok (.lconst 0, 1) := by decide +kernel
theorem dX3_init_27 : decode cX3_init 27 = .ok (.putfield 22, 3) := by decide +kernel
theorem dX3_init_30 : decode cX3_init 30 = .ok (.aload_n 0, 1) := by decide +kernel
theorem dX3_init_31 : decode cX3_init 31 = .ok (.aload_n 1, 1) := by decide +kernel
theorem dX3_init_32 : decode cX3_init 32 = .ok (.putfield 26, 3) := by decide +kernel
theorem dX3_init_35 : decode cX3_init 35 = .ok (.return_, 1) := by decide +kernel
theorem dX3_forgetKey_0 : decode cX3_forgetKey 0 = .ok (.aload_n 0, 1) := by decide +kernel
theorem dX3_forgetKey_1 : decode cX3_forgetKey 1 = .ok (.iconst 0, 1) := by decide +kernel
theorem dX3_forgetKey_2 : decode cX3_forgetKey 2 = .ok (.putfield 18, 3) := by decide +kernel
theorem dX3_forgetKey_5 : decode cX3_forgetKey 5 = .ok (.aload_n 0, 1) := by decide +kernel
theorem dX3_forgetKey_6 : decode cX3_forgetKey 6 = .ok (.lconst 0, 1) := by decide +kernel
theorem dX3_forgetKey_7 : decode cX3_forgetKey 7 = .ok (.putfield 22, 3) := by decide +kernel
theorem dX3_forgetKey_10 : decode cX3_forgetKey 10 = .ok (.return_, 1) := by decide +kernel
theorem dX3_useNewKey_0 : decode cX3_useNewKey 0 = .ok (.aload_n 0, 1) := by decide +kernel
theorem dX3_useNewKey_1 : decode cX3_useNewKey 1 = .ok (.iconst 1, 1) := by decide +kernel
theorem dX3_useNewKey_2 : decode cX3_useNewKey 2 = .ok (.putfield 18, 3) := by decide +kernel
theorem dX3_useNewKey_5 : decode cX3_useNewKey 5 = .ok (.aload_n 0, 1) := by decide +kernel
theorem dX3_useNewKey_6 : decode cX3_useNewKey 6 = .ok (.lconst 0, 1) := by decide +kernel
theorem dX3_useNewKey_7 : decode cX3_useNewKey 7 = .ok (.putfield 22, 3) := by decide +kernel
theorem dX3_useNewKey_10 : decode cX3_useNewKey 10 = .ok (.return_, 1) := by decide +kernel
theorem dX3_copyFrom_0 : decode cX3_copyFrom 0 = .ok (.aload_n 1, 1) := by decide +kernel
theorem dX3_copyFrom_1 : decode cX3_copyFrom 1 = .ok (.getfield 9, 3) := by decide +kernel
theorem dX3_copyFrom_4 : decode cX3_copyFrom 4 = .ok (.iconst 0, 1) := by decide +kernel
theorem dX3_copyFrom_5 : decode cX3_copyFrom 5 = .ok (.aload_n 0, 1) := by decide +kernel
theorem dX3_copyFrom_6 : decode cX3_copyFrom 6 = .ok (.getfield 9, 3) := by decide +kernel
theorem dX3_copyFrom_9 : decode cX3_copyFrom 9 = .ok (.iconst 0, 1) := by decide +kernel
theorem dX3_copyFrom_10 : decode cX3_copyFrom 10 = .ok (.bipush 32, 2) := by decide +kernel
theorem dX3_copyFrom_12 : decode cX3_copyFrom 12 = .ok (.invokestatic 30, 3) := by decide +kernel
theorem dX3_copyFrom_15 : decode cX3_copyFrom 15 = .ok (.aload_n 0, 1) := by decide +kernel
theorem dX3_copyFrom_16 : decode cX3_copyFrom 16 = .ok (.aload_n 1, 1) := by decide +kernel
theorem dX3_copyFrom_17 : decode cX3_copyFrom 17 = .ok (.getfield 18, 3) := by decide +kernel
theorem dX3_copyFrom_20 : decode cX3_copyFrom 20 = .ok (.putfield 18, 3) := by decide +kernel
theorem dX3_copyFrom_23 : decode cX3_copyFrom 23 = .ok (.aload_n 0, 1) := by decide +kernel
theorem dX3_copyFrom_24 : decode cX3_copyFrom 24 = .ok (.aload_n 1, 1) := by decide +kernel
theorem dX3_copyFrom_25 : decode cX3_copyFrom 25 = .ok (.getfield 22, 3) := by decide +kernel
theorem dX3_copyFrom_28 : decode cX3_copyFrom 28 = .ok (.putfield 22, 3) := by decide +kernel
theorem dX3_copyFrom_31 : decode cX3_copyFrom 31 = .ok (.return_, 1) := by decide +kernel
theorem dX3_nonce_0 : decode cX3_nonce 0 = .ok (.aload_n 0, 1) := by decide +kernel
theorem dX3_nonce_1 : decode cX3_nonce 1 = .ok (.getfield 22, 3) := by decide +kernel
theorem dX3_nonce_4 : decode cX3_nonce 4 = .ok (.l2i, 1) := by decide +kernel
theorem dX3_nonce_5 : decode cX3_nonce 5 = .ok (.ireturn, 1) := by decide +kernel
theorem dX3_encryptWithAd_0 : decode cX3_encryptWithAd 0 = .ok (.aload_n 0, 1) := by decide +kernel
theorem dX3_encryptWithAd_1 : decode cX3_encryptWithAd 1 = .ok (.getfield 18, 3) := by decide +kernel
theorem dX3_encryptWithAd_4 : decode cX3_encryptWithAd 4 = .ok (.ifCond .ne 17, 3) := by decide +kernel
theorem dX3_encryptWithAd_7 : decode cX3_encryptWithAd 7 = .ok (.aload_n 2, 1) := by decide +kernel
theorem dX3_encryptWithAd_8 : decode cX3_encryptWithAd 8 = .ok (.iload_n 3, 1) := by decide +kernel
theorem dX3_encryptWithAd_9 : decode cX3_encryptWithAd 9 = .ok (.aload 5, 2) := by decide +kernel
theorem dX3_encryptWithAd_11 : decode cX3_encryptWithAd 11 = .ok (.iload 6, 2) := by decide +kernel
theorem dX3_encryptWithAd_13 : decode cX3_encryptWithAd 13 = .ok (.iload 4, 2) := by decide +kernel
theorem dX3_encryptWithAd_15 : decode cX3_encryptWithAd 15 = .ok (.invokestatic 30, 3) := by decide +kernel
theorem dX3_encryptWithAd_18 : decode cX3_encryptWithAd 18 = .ok (.iload 4, 2) := by decide +kernel
theorem dX3_encryptWithAd_20 : decode cX3_encryptWithAd 20 = .ok (.ireturn, 1) := by decide +kernel
theorem dX3_encryptWithAd_21 : decode cX3_encryptWithAd 21 = .ok (.aload_n 0, 1) := by decide +kernel
theorem dX3_encryptWithAd_22 : decode cX3_encryptWithAd 22 = .ok (.getfield 26, 3) := by decide +kernel
theorem dX3_encryptWithAd_25 : decode cX3_encryptWithAd 25 = .ok (.aload_n 0, 1) := by decide +kernel
theorem dX3_encryptWithAd_26 : decode cX3_encryptWithAd 26 = .ok (.getfield 9, 3) := by decide +kernel
theorem dX3_encryptWithAd_29 : decode cX3_encryptWithAd 29 = .ok (.aload_n 0, 1) := by decide +kernel
theorem dX3_encryptWithAd_30 : decode cX3_encryptWithAd 30 = .ok (.getfield 22, 3) := by decide +kernel
theorem dX3_encryptWithAd_33 : decode cX3_encryptWithAd 33 = .ok (.invokevirtual 36, 3) := by decide +kernel
theorem dX3_encryptWithAd_36 : decode cX3_encryptWithAd 36 = .ok (.aload_n 0, 1) := by decide +kernel
theorem dX3_encryptWithAd_37 : decode cX3_encryptWithAd 37 = .ok (.getfield 26, 3) := by decide +kernel
theorem dX3_encryptWithAd_40 : decode cX3_encryptWithAd 40 = .ok (.aload_n 1, 1) := by decide +kernel
theorem dX3_encryptWithAd_41 : decode cX3_encryptWithAd 41 = .ok (.aload_n 1, 1) := by decide +kernel
theorem dX3_encryptWithAd_42 : decode cX3_encryptWithAd 42 = .ok (.arraylength, 1) := by decide +kernel
theorem dX3_encryptWithAd_43 : decode cX3_encryptWithAd 43 = .ok (.invokevirtual 42, 3) := by decide +kernel
theorem dX3_encryptWithAd_46 : decode cX3_encryptWithAd 46 = .ok (.aload_n 0, 1) := by decide +kernel
theorem dX3_encryptWithAd_47 : decode cX3_encryptWithAd 47 = .ok (.getfield 26, 3) := by decide +kernel
theorem dX3_encryptWithAd_50 : decode cX3_encryptWithAd 50 = .ok (.aload_n 2, 1) := by decide +kernel
theorem dX3_encryptWithAd_51 : decode cX3_encryptWithAd 51 = .ok (.iload_n 3, 1) := by decide +kernel
theorem dX3_encryptWithAd_52 : decode cX3_encryptWithAd 52 = .ok (.iload 4, 2) := by decide +kernel
theorem dX3_encryptWithAd_54 : decode cX3_encryptWithAd 54 = .ok (.aload 5, 2) := by decide +kernel
theorem dX3_encryptWithAd_56 : decode cX3_encryptWithAd 56 = .ok (.iload 6, 2) := by decide +kernel
theorem dX3_encryptWithAd_58 : decode cX3_encryptWithAd 58 = .ok (.invokevirtual 46, 3) := by decide +kernel
theorem dX3_encryptWithAd_61 : decode cX3_encryptWithAd 61 = .ok (.aload_n 0, 1) := by decide +kernel
theorem dX3_encryptWithAd_62 : decode cX3_encryptWithAd 62 = .ok (.dup, 1) := by decide +kernel
theorem dX3_encryptWithAd_63 : decode cX3_encryptWithAd 63 = .ok (.getfield 22, 3) := by decide +kernel
theorem dX3_encryptWithAd_66 : decode cX3_encryptWithAd 66 = .ok (.lconst 1, 1) := by decide +kernel
theorem dX3_encryptWithAd_67 : decode cX3_encryptWithAd 67 = .ok (.ladd, 1) := by decide +kernel
theorem dX3_encryptWithAd_68 : decode cX3_encryptWithAd 68 = .ok (.putfield 22, 3) := by decide +kernel
theorem dX3_encryptWithAd_71 : decode cX3_encryptWithAd 71 = .ok (.iload 4, 2) := by decide +kernel
theorem dX3_encryptWithAd_73 : decode cX3_encryptWithAd 73 = .ok (.bipush 16, 2) := by decide +kernel
theorem dX3_encryptWithAd_75 : decode cX3_encryptWithAd 75 = .ok (.iadd, 1) := by decide +kernel
theorem dX3_encryptWithAd_76 : decode cX3_encryptWithAd 76 = .ok (.ireturn, 1) := by decide +kernel
theorem dX3_decryptWithAd_0 : decode cX3_decryptWithAd 0 = .ok (.aload_n 0, 1) := by decide +kernel
theorem dX3_decryptWithAd_1 : decode cX3_decryptWithAd 1 = .ok (.getfield 18, 3) := by decide +kernel
theorem dX3_decryptWithAd_4 : decode cX3_decryptWithAd 4 = .ok (.ifCond .ne 17, 3) := by decide +kernel
theorem dX3_decryptWithAd_7 : decode cX3_decryptWithAd 7 = .ok (.aload_n 2, 1) := by decide +kernel
theorem dX3_decryptWithAd_8 : decode cX3_decryptWithAd 8 = .ok (.iload_n 3, 1) := by decide +kernel
theorem dX3_decryptWithAd_9 : decode cX3_decryptWithAd 9 = .ok (.aload 5, 2) := by decide +kernel
theorem dX3_decryptWithAd_11 : decode cX3_decryptWithAd 11 = .ok (.iload 6, 2) := by decide +kernel
theorem dX3_decryptWithAd_13 : decode cX3_decryptWithAd 13 = .ok (.iload 4, 2) := by decide +kernel
theorem dX3_decryptWithAd_15 : decode cX3_decryptWithAd 15 = .ok (.invokestatic 30, 3) := by decide +kernel
theorem dX3_decryptWithAd_18 : decode cX3_decryptWithAd 18 = .ok (.iload 4, 2) := by decide +kernel
theorem dX3_decryptWithAd_20 : decode cX3_decryptWithAd 20 = .ok (.ireturn, 1) := by decide +kernel
theorem dX3_decryptWithAd_21 : decode cX3_decryptWithAd 21 = .ok (.aload_n 0, 1) := by decide +kernel
theorem dX3_decryptWithAd_22 : decode cX3_decryptWithAd 22 = .ok (.getfield 26, 3) := by decide +kernel
theorem dX3_decryptWithAd_25 : decode cX3_decryptWithAd 25 = .ok (.aload_n 0, 1) := by decide +kernel
theorem dX3_decryptWithAd_26 : decode cX3_decryptWithAd 26 = .ok (.getfield 9, 3) := by decide +kernel
theorem dX3_decryptWithAd_29 : decode cX3_decryptWithAd 29 = .ok (.aload_n 0, 1) := by decide +kernel
theorem dX3_decryptWithAd_30 : decode cX3_decryptWithAd 30 = .ok (.getfield 22, 3) := by decide +kernel
theorem dX3_decryptWithAd_33 : decode cX3_decryptWithAd 33 = .ok (.invokevirtual 36, 3) := by decide +kernel
theorem dX3_decryptWithAd_36 : decode cX3_decryptWithAd 36 = .ok (.aload_n 0, 1) := by decide +kernel
theorem dX3_decryptWithAd_37 : decode cX3_decryptWithAd 37 = .ok (.getfield 26, 3) := by decide +kernel
theorem dX3_decryptWithAd_40 : decode cX3_decryptWithAd 40 = .ok (.aload_n 1, 1) := by decide +kernel
theorem dX3_decryptWithAd_41 : decode cX3_decryptWithAd 41 = .ok (.aload_n 1, 1) := by decide +kernel
theorem dX3_decryptWithAd_42 : decode cX3_decryptWithAd 42 = .ok (.arraylength, 1) := by decide +kernel
theorem dX3_decryptWithAd_43 : decode cX3_decryptWithAd 43 = .ok (.invokevirtual 42, 3) := by decide +kernel
theorem dX3_decryptWithAd_46 : decode cX3_decryptWithAd 46 = .ok (.aload_n 0, 1) := by decide +kernel
theorem dX3_decryptWithAd_47 : decode cX3_decryptWithAd 47 = .ok (.getfield 26, 3) := by decide +kernel
theorem dX3_decryptWithAd_50 : decode cX3_decryptWithAd 50 = .ok (.aload_n 2, 1) := by decide +kernel
theorem dX3_decryptWithAd_51 : decode cX3_decryptWithAd 51 = .ok (.iload_n 3, 1) := by decide +kernel
theorem dX3_decryptWithAd_52 : decode cX3_decryptWithAd 52 = .ok (.iload 4, 2) := by decide +kernel
theorem dX3_decryptWithAd_54 : decode cX3_decryptWithAd 54 = .ok (.aload 5, 2) := by decide +kernel
theorem dX3_decryptWithAd_56 : decode cX3_decryptWithAd 56 = .ok (.iload 6, 2) := by decide +kernel
theorem dX3_decryptWithAd_58 : decode cX3_decryptWithAd 58 = .ok (.invokevirtual 50, 3) := by decide +kernel
theorem dX3_decryptWithAd_61 : decode cX3_decryptWithAd 61 = .ok (.ifCond .ne 5, 3) := by decide +kernel
theorem dX3_decryptWithAd_64 : decode cX3_decryptWithAd 64 = .ok (.iconst (-1), 1) := by decide +kernel
theorem dX3_decryptWithAd_65 : decode cX3_decryptWithAd 65 = .ok (.ireturn, 1) := by decide +kernel
theorem dX3_decryptWithAd_66 : decode cX3_decryptWithAd 66 = .ok (.aload_n 0, 1) := by decide +kernel
theorem dX3_decryptWithAd_67 : decode cX3_decryptWithAd 67 = .ok (.dup, 1) := by decide +kernel
theorem dX3_decryptWithAd_68 : decode cX3_decryptWithAd 68 = .ok (.getfield 22, 3) := by decide +kernel
theorem dX3_decryptWithAd_71 : decode cX3_decryptWithAd 71 = .ok (.lconst 1, 1) := by decide +kernel
theorem dX3_decryptWithAd_72 : decode cX3_decryptWithAd 72 = .ok (.ladd, 1) := by decide +kernel
theorem dX3_decryptWithAd_73 : decode cX3_decryptWithAd 73 = .ok (.putfield 22, 3) := by decide +kernel
theorem dX3_decryptWithAd_76 : decode cX3_decryptWithAd 76 = .ok (.iload 4, 2) := by decide +kernel
theorem dX3_decryptWithAd_78 : decode cX3_decryptWithAd 78 = .ok (.bipush 16, 2) := by decide +kernel
theorem dX3_decryptWithAd_80 : decode cX3_decryptWithAd 80 = .ok (.isub, 1) := by decide +kernel
theorem dX3_decryptWithAd_81 : decode cX3_decryptWithAd 81 = .ok (.ireturn, 1) := by decide +kernel
theorem dX3_renewKey_0 : decode cX3_renewKey 0 = .ok (.aload_n 0, 1) := by decide +kernel
theorem dX3_renewKey_1 : decode cX3_renewKey 1 = .ok (.getfield 26, 3) := by decide +kernel
theorem dX3_renewKey_4 : decode cX3_renewKey 4 = .ok (.aload_n 0, 1) := by decide +kernel
theorem dX3_renewKey_5 : decode cX3_renewKey 5 = .ok (.getfield 9, 3) := by decide +kernel
theorem dX3_renewKey_8 : decode cX3_renewKey 8 = .ok (.ldc2_w 54, 3) := by decide +kernel
theorem dX3_renewKey_11 : decode cX3_renewKey 11 = .ok (.invokevirtual 36, 3) := by decide +kernel
theorem dX3_renewKey_14 : decode cX3_renewKey 14 = .ok (.aload_n 0, 1) := by decide +kernel
theorem dX3_renewKey_15 : decode cX3_renewKey 15 = .ok (.getfield 26, 3) := by decide +kernel
theorem dX3_renewKey_18 : decode cX3_renewKey 18 = .ok (.getstatic 56, 3) := by decide +kernel
theorem dX3_renewKey_21 : decode cX3_renewKey 21 = .ok (.iconst 0, 1) := by decide +kernel
theorem dX3_renewKey_22 : decode cX3_renewKey 22 = .ok (.invokevirtual 42, 3) := by decide +kernel
theorem dX3_renewKey_25 : decode cX3_renewKey 25 = .ok (.aload_n 0, 1) := by decide +kernel
theorem dX3_renewKey_26 : decode cX3_renewKey 26 = .ok (.getfield 26, 3) := by decide +kernel
theorem dX3_renewKey_29 : decode cX3_renewKey 29 = .ok (.getstatic 59, 3) := by decide +kernel
theorem dX3_renewKey_32 : decode cX3_renewKey 32 = .ok (.iconst 0, 1) := by decide +kernel
theorem dX3_renewKey_33 : decode cX3_renewKey 33 = .ok (.bipush 32, 2) := by decide +kernel
theorem dX3_renewKey_35 : decode cX3_renewKey 35 = .ok (.aload_n 0, 1) := by decide +kernel
theorem dX3_renewKey_36 : decode cX3_renewKey 36 = .ok (.getfield 15, 3) := by decide +kernel
theorem dX3_renewKey_39 : decode cX3_renewKey 39 = .ok (.iconst 0, 1) := by decide +kernel
theorem dX3_renewKey_40 : decode cX3_renewKey 40 = .ok (.invokevirtual 46, 3) := by decide +kernel
theorem dX3_renewKey_43 : decode cX3_renewKey 43 = .ok (.aload_n 0, 1) := by decide +kernel
theorem dX3_renewKey_44 : decode cX3_renewKey 44 = .ok (.getfield 15, 3) := by decide +kernel
theorem dX3_renewKey_47 : decode cX3_renewKey 47 = .ok (.iconst 0, 1) := by decide +kernel
theorem dX3_renewKey_48 : decode cX3_renewKey 48 = .ok (.aload_n 0, 1) := by decide +kernel
theorem dX3_renewKey_49 : decode cX3_renewKey 49 = .ok (.getfield 9, 3) := by decide +kernel
theorem dX3_renewKey_52 : decode cX3_renewKey 52 = .ok (.iconst 0, 1) := by decide +kernel
theorem dX3_renewKey_53 : decode cX3_renewKey 53 = .ok (.bipush 32, 2) := by decide +kernel
theorem dX3_renewKey_55 : decode cX3_renewKey 55 = .ok (.invokestatic 30, 3) := by decide +kernel
theorem dX3_renewKey_58 : decode cX3_renewKey 58 = .ok (.return_, 1) := by decide +kernel
theorem dX5_init_0 : decode cX5_init 0 = .ok (.aload_n 0, 1) := by decide +kernel
theorem dX5_init_1 : decode cX5_init 1 = .ok (.invokespecial 3, 3) := by decide +kernel
theorem dX5_init_4 : decode cX5_init 4 = .ok (.aload_n 0, 1) := by decide +kernel
theorem dX5_init_5 : decode cX5_init 5 = .ok (.bipush 64, 2) := by decide +kernel
theorem dX5_init_7 : decode cX5_init 7 = .ok (.newarray .byte, 2) := by decide +kernel
theorem dX5_init_9 : decode cX5_init 9 = .ok (.putfield 11, 3) := by decide +kernel
theorem dX5_init_12 : decode cX5_init 12 = .ok (.aload_n 0, 1) := by decide +kernel
theorem dX5_init_13 : decode cX5_init 13 = .ok (.bipush 32, 2) := by decide +kernel
theorem dX5_init_15 : decode cX5_init 15 = .ok (.newarray .byte, 2) := by decide +kernel
theorem dX5_init_17 : decode cX5_init 17 = .ok (.putfield 15, 3) := by decide +kernel
theorem dX5_init_20 : decode cX5_init 20 = .ok (.aload_n 0, 1) := by decide +kernel
theorem dX5_init_21 : decode cX5_init 21 = .ok (.bipush 32, 2) := by decide +kernel
theorem dX5_init_23 : decode cX5_init 23 = .ok (.newarray .byte, 2) := by decide +kernel
theorem dX5_init_25 : decode cX5_init 25 = .ok (.putfield 18, 3) := by decide +kernel
theorem dX5_init_28 : decode cX5_init 28 = .ok (.aload_n 0, 1) := by decide +kernel
theorem dX5_init_29 : decode cX5_init 29 = .ok (.aload_n 1, 1) := by decide +kernel
theorem dX5_init_30 : decode cX5_init 30 = .ok (.putfield 21, 3) := by decide +kernel
theorem dX5_init_33 : decode cX5_init 33 = .ok (.return_, 1) := by decide +kernel
theorem dX5_begin_0 : decode cX5_begin 0 = .ok (.iconst 0, 1) := by decide +kernel
theorem dX5_begin_1 : decode cX5_begin 1 = .ok (.istore_n 2, 1) := by decide +kernel
theorem dX5_begin_2 : decode cX5_begin 2 = .ok (.iload_n 2, 1) := by decide +kernel
theorem dX5_begin_3 : decode cX5_begin 3 = .ok (.bipush 64, 2) := by decide +kernel
theorem dX5_begin_5 : decode cX5_begin 5 = .ok (.if_icmp .ge 33, 3) := by decide +kernel
theorem dX5_begin_8 : decode cX5_begin 8 = .ok (.aload_n 0, 1) := by decide +kernel
theorem dX5_begin_9 : decode cX5_begin 9 = .ok (.getfield 11, 3) := by decide +kernel
theorem dX5_begin_12 : decode cX5_begin 12 = .ok (.iload_n 2, 1) := by decide +kernel
theorem dX5_begin_13 : decode cX5_begin 13 = .ok (.iload_n 2, 1) := by decide +kernel
theorem dX5_begin_14 : decode cX5_begin 14 = .ok (.bipush 32, 2) := by decide +kernel
theorem dX5_begin_16 : decode cX5_begin 16 = .ok (.if_icmp .ge 12, 3) := by decide +kernel
theorem dX5_begin_19 : decode cX5_begin 19 = .ok (.aload_n 1, 1) := by decide +kernel
theorem dX5_begin_20 : decode cX5_begin 20 = .ok (.iload_n 2, 1) := by decide +kernel
theorem dX5_begin_21 : decode cX5_begin 21 = .ok (.baload, 1) := by decide +kernel
theorem dX5_begin_22 : decode cX5_begin 22 = .ok (.bipush 54, 2) := by decide +kernel
theorem dX5_begin_24 : decode cX5_begin 24 = .ok (.ixor, 1) := by decide +kernel
theorem dX5_begin_25 : decode cX5_begin 25 = .ok (.goto 5, 3) := by decide +kernel
theorem dX5_begin_28 : decode cX5_begin 28 = .ok (.bipush 54, 2) := by decide +kernel
theorem dX5_begin_30 : decode cX5_begin 30 = .ok (.i2b, 1) := by decide +kernel
theorem dX5_begin_31 : decode cX5_begin 31 = .ok (.bastore, 1) := by decide +kernel
theorem dX5_begin_32 : decode cX5_begin 32 = .ok (.iinc 2 1, 3) := by decide +kernel
theorem dX5_begin_35 : decode cX5_begin 35 = .ok (.goto (-33), 3) := by decide +kernel
theorem dX5_begin_38 : decode cX5_begin 38 = .ok (.aload_n 0, 1) := by decide +kernel
theorem dX5_begin_39 : decode cX5_begin 39 = .ok (.getfield 21, 3) := by decide +kernel
theorem dX5_begin_42 : decode cX5_begin 42 = .ok (.invokevirtual 25, 3) := by decide +kernel
theorem dX5_begin_45 : decode cX5_begin 45 = .ok (.aload_n 0, 1) := by decide +kernel
theorem dX5_begin_46 : decode cX5_begin 46 = .ok (.getfield 21, 3) := by decide +kernel
theorem dX5_begin_49 : decode cX5_begin 49 = .ok (.aload_n 0, 1) := by decide +kernel
theorem dX5_begin_50 : decode cX5_begin 50 = .ok (.getfield 11, 3) := by decide +kernel
theorem dX5_begin_53 : decode cX5_begin 53 = .ok (.iconst 0, 1) := by decide +kernel
theorem dX5_begin_54 : decode cX5_begin 54 = .ok (.bipush 64, 2) := by decide +kernel
theorem dX5_begin_56 : decode cX5_begin 56 = .ok (.invokevirtual 30, 3) := by decide +kernel
theorem dX5_begin_59 : decode cX5_begin 59 = .ok (.return_, 1) := by decide +kernel
theorem dX5_absorb_0 : decode cX5_absorb 0 = .ok (.aload_n 0, 1) := by decide +kernel
theorem dX5_absorb_1 : decode cX5_absorb 1 = .ok (.getfield 21, 3) := by decide +kernel
theorem dX5_absorb_4 : decode cX5_absorb 4 = .ok (.aload_n 1, 1) := by decide +kernel
theorem dX5_absorb_5 : decode cX5_absorb 5 = .ok (.iload_n 2, 1) := by decide +kernel
theorem dX5_absorb_6 : decode cX5_absorb 6 = .ok (.iload_n 3, 1) := by decide +kernel
theorem dX5_absorb_7 : decode cX5_absorb 7 = .ok (.invokevirtual 30, 3) := by decide +kernel
theorem dX5_absorb_10 : decode cX5_absorb 10 = .ok (.return_, 1) := by decide +kernel
theorem dX5_finish_0 : decode cX5_finish 0 = .ok (.aload_n 0, 1) := by decide +kernel
theorem dX5_finish_1 : decode cX5_finish 1 = .ok (.getfield 21, 3) := by decide +kernel
theorem dX5_finish_4 : decode cX5_finish 4 = .ok (.aload_n 0, 1) := by decide +kernel
theorem dX5_finish_5 : decode cX5_finish 5 = .ok (.getfield 15, 3) := by decide +kernel
theorem dX5_finish_8 : decode cX5_finish 8 = .ok (.invokevirtual 34, 3) := by decide +kernel
theorem dX5_finish_11 : decode cX5_finish 11 = .ok (.iconst 0, 1) := by decide +kernel
theorem dX5_finish_12 : decode cX5_finish 12 = .ok (.istore_n 2, 1) := by decide +kernel
theorem dX5_finish_13 : decode cX5_finish 13 = .ok (.iload_n 2, 1) := by decide +kernel
theorem dX5_finish_14 : decode cX5_finish 14 = .ok (.bipush 64, 2) := by decide +kernel
theorem dX5_finish_16 : decode cX5_finish 16 = .ok (.if_icmp .ge 21, 3) := by decide +kernel
theorem dX5_finish_19 : decode cX5_finish 19 = .ok (.aload_n 0, 1) := by decide +kernel
theorem dX5_finish_20 : decode cX5_finish 20 = .ok (.getfield 11, 3) := by decide +kernel
theorem dX5_finish_23 : decode cX5_finish 23 = .ok (.iload_n 2, 1) := by decide +kernel
theorem dX5_finish_24 : decode cX5_finish 24 = .ok (.dup2, 1) := by decide +kernel
theorem dX5_finish_25 : decode cX5_finish 25 = .ok (.baload, 1) := by decide +kernel
theorem dX5_finish_26 : decode cX5_finish 26 = .ok (.bipush 106, 2) := by decide +kernel
theorem dX5_finish_28 : decode cX5_finish 28 = .ok (.ixor, 1) := by decide +kernel
theorem dX5_finish_29 : decode cX5_finish 29 = .ok (.i2b, 1) := by decide +kernel
theorem dX5_finish_30 : decode cX5_finish 30 = .ok (.bastore, 1) := by decide +kernel
theorem dX5_finish_31 : decode cX5_finish 31 = .ok (.iinc 2 1, 3) := by decide +kernel
theorem dX5_finish_34 : decode cX5_finish 34 = .ok (.goto (-21), 3) := by decide +kernel
theorem dX5_finish_37 : decode cX5_finish 37 = .ok (.aload_n 0, 1) := by decide +kernel
theorem dX5_finish_38 : decode cX5_finish 38 = .ok (.getfield 21, 3) := by decide +kernel
theorem dX5_finish_41 : decode cX5_finish 41 = .ok (.invokevirtual 25, 3) := by decide +kernel
theorem dX5_finish_44 : decode cX5_finish 44 = .ok (.aload_n 0, 1) := by decide +kernel
theorem dX5_finish_45 : decode cX5_finish 45 = .ok (.getfield 21, 3) := by decide +kernel
theorem dX5_finish_48 : decode cX5_finish 48 = .ok (.aload_n 0, 1) := by decide +kernel
theorem dX5_finish_49 : decode cX5_finish 49 = .ok (.getfield 11, 3) := by decide +kernel
theorem dX5_finish_52 : decode cX5_finish 52 = .ok (.iconst 0, 1) := by decide +kernel
theorem dX5_finish_53 : decode cX5_finish 53 = .ok (.bipush 64, 2) := by decide +kernel
theorem dX5_finish_55 : decode cX5_finish 55 = .ok (.invokevirtual 30, 3) := by decide +kernel
theorem dX5_finish_58 : decode cX5_finish 58 = .ok (.aload_n 0, 1) := by decide +kernel
theorem dX5_finish_59 : decode cX5_finish 59 = .ok (.getfield 21, 3) := by decide +kernel
theorem dX5_finish_62 : decode cX5_finish 62 = .ok (.aload_n 0, 1) := by decide +kernel
theorem dX5_finish_63 : decode cX5_finish 63 = .ok (.getfield 15, 3) := by decide +kernel
theorem dX5_finish_66 : decode cX5_finish 66 = .ok (.iconst 0, 1) := by decide +kernel
theorem dX5_finish_67 : decode cX5_finish 67 = .ok (.bipush 32, 2) := by decide +kernel
theorem dX5_finish_69 : decode cX5_finish 69 = .ok (.invokevirtual 30, 3) := by decide +kernel
theorem dX5_finish_72 : decode cX5_finish 72 = .ok (.aload_n 0, 1) := by decide +kernel
theorem dX5_finish_73 : decode cX5_finish 73 = .ok (.getfield 21, 3) := by decide +kernel
theorem dX5_finish_76 : decode cX5_finish 76 = .ok (.aload_n 1, 1) := by decide +kernel
theorem dX5_finish_77 : decode cX5_finish 77 = .ok (.invokevirtual 34, 3) := by decide +kernel
theorem dX5_finish_80 : decode cX5_finish 80 = .ok (.return_, 1) := by decide +kernel
theorem dX5_hkdf_0 : decode cX5_hkdf 0 = .ok (.aload_n 0, 1) := by decide +kernel
theorem dX5_hkdf_1 : decode cX5_hkdf 1 = .ok (.aload_n 1, 1) := by decide +kernel
theorem dX5_hkdf_2 : decode cX5_hkdf 2 = .ok (.invokevirtual 38, 3) := by decide +kernel
theorem dX5_hkdf_5 : decode cX5_hkdf 5 = .ok (.aload_n 0, 1) := by decide +kernel
theorem dX5_hkdf_6 : decode cX5_hkdf 6 = .ok (.aload_n 2, 1) := by decide +kernel
theorem dX5_hkdf_7 : decode cX5_hkdf 7 = .ok (.iconst 0, 1) := by decide +kernel
theorem dX5_hkdf_8 : decode cX5_hkdf 8 = .ok (.iload_n 3, 1) := by decide +kernel
theorem dX5_hkdf_9 : decode cX5_hkdf 9 = .ok (.invokevirtual 41, 3) := by decide +kernel
theorem dX5_hkdf_12 : decode cX5_hkdf 12 = .ok (.aload_n 0, 1) := by decide +kernel
theorem dX5_hkdf_13 : decode cX5_hkdf 13 = .ok (.aload_n 0, 1) := by decide +kernel
theorem dX5_hkdf_14 : decode cX5_hkdf 14 = .ok (.getfield 18, 3) := by decide +kernel
theorem dX5_hkdf_17 : decode cX5_hkdf 17 = .ok (.invokevirtual 42, 3) := by decide +kernel
theorem dX5_hkdf_20 : decode cX5_hkdf 20 = .ok (.aload_n 0, 1) := by decide +kernel
theorem dX5_hkdf_21 : decode cX5_hkdf 21 = .ok (.aload_n 0, 1) := by decide +kernel
theorem dX5_hkdf_22 : decode cX5_hkdf 22 = .ok (.getfield 18, 3) := by decide +kernel
theorem dX5_hkdf_25 : decode cX5_hkdf 25 = .ok (.invokevirtual 38, 3) := by decide +kernel
theorem dX5_hkdf_28 : decode cX5_hkdf 28 = .ok (.aload_n 0, 1) := by decide +kernel
theorem dX5_hkdf_29 : decode cX5_hkdf 29 = .ok (.getstatic 43, 3) := by decide +kernel
theorem dX5_hkdf_32 : decode cX5_hkdf 32 = .ok (.iconst 0, 1) := by decide +kernel
theorem dX5_hkdf_33 : decode cX5_hkdf 33 = .ok (.iconst 1, 1) := by decide +kernel
theorem dX5_hkdf_34 : decode cX5_hkdf 34 = .ok (.invokevirtual 41, 3) := by decide +kernel
theorem dX5_hkdf_37 : decode cX5_hkdf 37 = .ok (.aload_n 0, 1) := by decide +kernel
theorem dX5_hkdf_38 : decode cX5_hkdf 38 = .ok (.aload 4, 2) := by decide +kernel
theorem dX5_hkdf_40 : decode cX5_hkdf 40 = .ok (.invokevirtual 42, 3) := by decide +kernel
theorem dX5_hkdf_43 : decode cX5_hkdf 43 = .ok (.aload_n 0, 1) := by decide +kernel
theorem dX5_hkdf_44 : decode cX5_hkdf 44 = .ok (.aload_n 0, 1) := by decide +kernel
theorem dX5_hkdf_45 : decode cX5_hkdf 45 = .ok (.getfield 18, 3) := by decide +kernel
theorem dX5_hkdf_48 : decode cX5_hkdf 48 = .ok (.invokevirtual 38, 3) := by decide +kernel
theorem dX5_hkdf_51 : decode cX5_hkdf 51 = .ok (.aload_n 0, 1) := by decide +kernel
theorem dX5_hkdf_52 : decode cX5_hkdf 52 = .ok (.aload 4, 2) := by decide +kernel
theorem dX5_hkdf_54 : decode cX5_hkdf 54 = .ok (.iconst 0, 1) := by decide +kernel
theorem dX5_hkdf_55 : decode cX5_hkdf 55 = .ok (.bipush 32, 2) := by decide +kernel
theorem dX5_hkdf_57 : decode cX5_hkdf 57 = .ok (.invokevirtual 41, 3) := by decide +kernel
theorem dX5_hkdf_60 : decode cX5_hkdf 60 = .ok (.aload_n 0, 1) := by decide +kernel
theorem dX5_hkdf_61 : decode cX5_hkdf 61 = .ok (.getstatic 43, 3) := by decide +kernel
theorem dX5_hkdf_64 : decode cX5_hkdf 64 = .ok (.iconst 1, 1) := by decide +kernel
theorem dX5_hkdf_65 : decode cX5_hkdf 65 = .ok (.iconst 1, 1) := by decide +kernel
theorem dX5_hkdf_66 : decode cX5_hkdf 66 = .ok (.invokevirtual 41, 3) := by decide +kernel
theorem dX5_hkdf_69 : decode cX5_hkdf 69 = .ok (.aload_n 0, 1) := by decide +kernel
theorem dX5_hkdf_70 : decode cX5_hkdf 70 = .ok (.aload 5, 2) := by decide +kernel
theorem dX5_hkdf_72 : decode cX5_hkdf 72 = .ok (.invokevirtual 42, 3) := by decide +kernel
theorem dX5_hkdf_75 : decode cX5_hkdf 75 = .ok (.return_, 1) := by decide +kernel
theorem dX6_init_0 : decode cX6_init 0 = .ok (.aload_n 0, 1) := by decide +kernel
theorem dX6_init_1 : decode cX6_init 1 = .ok (.invokespecial 1, 3) := by decide +kernel
theorem dX6_init_4 : decode cX6_init 4 = .ok (.aload_n 0, 1) := by decide +kernel
theorem dX6_init_5 : decode cX6_init 5 = .ok (.iconst 5, 1) := by decide +kernel
theorem dX6_init_6 : decode cX6_init 6 = .ok (.newarray .long, 2) := by decide +kernel
theorem dX6_init_8 : decode cX6_init 8 = .ok (.putfield 7, 3) := by decide +kernel
theorem dX6_init_11 : decode cX6_init 11 = .ok (.aload_n 0, 1) := by decide +kernel
theorem dX6_init_12 : decode cX6_init 12 = .ok (.iconst 5, 1) := by decide +kernel
theorem dX6_init_13 : decode cX6_init 13 = .ok (.newarray .long, 2) := by decide +kernel
theorem dX6_init_15 : decode cX6_init 15 = .ok (.putfield 13, 3) := by decide +kernel
theorem dX6_init_18 : decode cX6_init 18 = .ok (.aload_n 0, 1) := by decide +kernel
theorem dX6_init_19 : decode cX6_init 19 = .ok (.bipush 16, 2) := by decide +kernel
theorem dX6_init_21 : decode cX6_init 21 = .ok (.newarray .byte, 2) := by decide +kernel
theorem dX6_init_23 : decode cX6_init 23 = .ok (.putfield 16, 3) := by decide +kernel
theorem dX6_init_26 : decode cX6_init 26 = .ok (.aload_n 0, 1) := by decide +kernel
theorem dX6_init_27 : decode cX6_init 27 = .ok (.iconst 4, 1) := by decide +kernel
theorem dX6_init_28 : decode cX6_init 28 = .ok (.newarray .int, 2) := by decide +kernel
theorem dX6_init_30 : decode cX6_init 30 = .ok (.putfield 20, 3) := by decide +kernel
theorem dX6_init_33 : decode cX6_init 33 = .ok (.return_, 1) := by decide +kernel
theorem dX6_begin_0 : decode cX6_begin 0 = .ok (.aload_n 0, 1) := by decide +kernel
theorem dX6_begin_1 : decode cX6_begin 1 = .ok (.getfield 7, 3) := by decide +kernel
theorem dX6_begin_4 : decode cX6_begin 4 = .ok (.iconst 0, 1) := by decide +kernel
theorem dX6_begin_5 : decode cX6_begin 5 = .ok (.aload_n 1, 1) := by decide +kernel
theorem dX6_begin_6 : decode cX6_begin 6 = .ok (.iconst 0, 1) := by decide +kernel
theorem dX6_begin_7 : decode cX6_begin 7 = .ok (.invokestatic 24, 3) := by decide +kernel
theorem dX6_begin_10 : decode cX6_begin 10 = .ok (.ldc 30, 2) := by decide +kernel
theorem dX6_begin_12 : decode cX6_begin 12 = .ok (.iand, 1) := by decide +kernel
theorem dX6_begin_13 : decode cX6_begin 13 = .ok (.i2l, 1) := by decide +kernel
theorem dX6_begin_14 : decode cX6_begin 14 = .ok (.lastore, 1) := by decide +kernel
theorem dX6_begin_15 : decode cX6_begin 15 = .ok (.aload_n 0, 1) := by decide +kernel
theorem dX6_begin_16 : decode cX6_begin 16 = .ok (.getfield 7, 3) := by decide +kernel
theorem dX6_begin_19 : decode cX6_begin 19 = .ok (.iconst 1, 1) := by decide +kernel
theorem dX6_begin_20 : decode cX6_begin 20 = .ok (.aload_n 1, 1) := by decide +kernel
theorem dX6_begin_21 : decode cX6_begin 21 = .ok (.iconst 3, 1) := by decide +kernel
theorem dX6_begin_22 : decode cX6_begin 22 = .ok (.invokestatic 24, 3) := by decide +kernel
theorem dX6_begin_25 : decode cX6_begin 25 = .ok (.iconst 2, 1) := by decide +kernel
theorem dX6_begin_26 : decode cX6_begin 26 = .ok (.iushr, 1) := by decide +kernel
theorem dX6_begin_27 : decode cX6_begin 27 = .ok (.ldc 31, 2) := by decide +kernel
theorem dX6_begin_29 : decode cX6_begin 29 = .ok (.iand, 1) := by decide +kernel
theorem dX6_begin_30 : decode cX6_begin 30 = .ok (.i2l, 1) := by decide +kernel
theorem dX6_begin_31 : decode cX6_begin 31 = .ok (.lastore, 1) := by decide +kernel
theorem dX6_begin_32 : decode cX6_begin 32 = .ok (.aload_n 0, 1) := by decide +kernel
theorem dX6_begin_33 : decode cX6_begin 33 = .ok (.getfield 7, 3) := by decide +kernel
theorem dX6_begin_36 : decode cX6_begin 36 = .ok (.iconst 2, 1) := by decide +kernel
theorem dX6_begin_37 : decode cX6_begin 37 = .ok (.aload_n 1, 1) := by decide +kernel
theorem dX6_begin_38 : decode cX6_begin 38 = .ok (.bipush 6, 2) := by decide +kernel
theorem dX6_begin_40 : decode cX6_begin 40 = .ok (.invokestatic 24, 3) := by decide +kernel
theorem dX6_begin_43 : decode cX6_begin 43 = .ok (.iconst 4, 1) := by decide +kernel
theorem dX6_begin_44 : decode cX6_begin 44 = .ok (.iushr, 1) := by decide +kernel
theorem dX6_begin_45 : decode cX6_begin 45 = .ok (.ldc 32, 2) := by decide +kernel
theorem dX6_begin_47 : decode cX6_begin 47 = .ok (.iand, 1) := by decide +kernel
theorem dX6_begin_48 : decode cX6_begin 48 = .ok (.i2l, 1) := by decide +kernel
theorem dX6_begin_49 : decode cX6_begin 49 = .ok (.lastore, 1) := by decide +kernel
theorem dX6_begin_50 : decode cX6_begin 50 = .ok (.aload_n 0, 1) := by decide +kernel
theorem dX6_begin_51 : decode cX6_begin 51 = .ok (.getfield 7, 3) := by decide +kernel
theorem dX6_begin_54 : decode cX6_begin 54 = .ok (.iconst 3, 1) := by decide +kernel
theorem dX6_begin_55 : decode cX6_begin 55 = .ok (.aload_n 1, 1) := by decide +kernel
theorem dX6_begin_56 : decode cX6_begin 56 = .ok (.bipush 9, 2) := by decide +kernel
theorem dX6_begin_58 : decode cX6_begin 58 = .ok (.invokestatic 24, 3) := by decide +kernel
theorem dX6_begin_61 : decode cX6_begin 61 = .ok (.bipush 6, 2) := by decide +kernel
theorem dX6_begin_63 : decode cX6_begin 63 = .ok (.iushr, 1) := by decide +kernel
theorem dX6_begin_64 : decode cX6_begin 64 = .ok (.ldc 33, 2) := by decide +kernel
theorem dX6_begin_66 : decode cX6_begin 66 = .ok (.iand, 1) := by decide +kernel
theorem dX6_begin_67 : decode cX6_begin 67 = .ok (.i2l, 1) := by decide +kernel
theorem dX6_begin_68 : decode cX6_begin 68 = .ok (.lastore, 1) := by decide +kernel
theorem dX6_begin_69 : decode cX6_begin 69 = .ok (.aload_n 0, 1) := by decide +kernel
theorem dX6_begin_70 : decode cX6_begin 70 = .ok (.getfield 7, 3) := by decide +kernel
theorem dX6_begin_73 : decode cX6_begin 73 = .ok (.iconst 4, 1) := by decide +kernel
theorem dX6_begin_74 : decode cX6_begin 74 = .ok (.aload_n 1, 1) := by decide +kernel
theorem dX6_begin_75 : decode cX6_begin 75 = .ok (.bipush 12, 2) := by decide +kernel
theorem dX6_begin_77 : decode cX6_begin 77 = .ok (.invokestatic 24, 3) := by decide +kernel
theorem dX6_begin_80 : decode cX6_begin 80 = .ok (.bipush 8, 2) := by decide +kernel
theorem dX6_begin_82 : decode cX6_begin 82 = .ok (.iushr, 1) := by decide +kernel
theorem dX6_begin_83 : decode cX6_begin 83 = .ok (.ldc 34, 2) := by decide +kernel
theorem dX6_begin_85 : decode cX6_begin 85 = .ok (.iand, 1) := by decide +kernel
theorem dX6_begin_86 : decode cX6_begin 86 = .ok (.i2l, 1) := by decide +kernel
theorem dX6_begin_87 : decode cX6_begin 87 = .ok (.lastore, 1) := by decide +kernel
theorem dX6_begin_88 : decode cX6_begin 88 = .ok (.iconst 0, 1) := by decide +kernel
theorem dX6_begin_89 : decode cX6_begin 89 = .ok (.istore_n 2, 1) := by decide +kernel
theorem dX6_begin_90 : decode cX6_begin 90 = .ok (.iload_n 2, 1) := by decide +kernel
theorem dX6_begin_91 : decode cX6_begin 91 = .ok (.iconst 5, 1) := by decide +kernel
theorem dX6_begin_92 : decode cX6_begin 92 = .ok (.if_icmp .ge 16, 3) := by decide +kernel
theorem dX6_begin_95 : decode cX6_begin 95 = .ok (.aload_n 0, 1) := by decide +kernel
theorem dX6_begin_96 : decode cX6_begin 96 = .ok (.getfield 13, 3) := by decide +kernel
theorem dX6_begin_99 : decode cX6_begin 99 = .ok (.iload_n 2, 1) := by decide +kernel
theorem dX6_begin_100 : decode cX6_begin 100 = .ok (.lconst 0, 1) := by decide +kernel
theorem dX6_begin_101 : decode cX6_begin 101 = .ok (.lastore, 1) := by decide +kernel
theorem dX6_begin_102 : decode cX6_begin 102 = .ok (.iinc 2 1, 3) := by decide +kernel
theorem dX6_begin_105 : decode cX6_begin 105 = .ok (.goto (-15), 3) := by decide +kernel
theorem dX6_begin_108 : decode cX6_begin 108 = .ok (.iconst 0, 1) := by decide +kernel
theorem dX6_begin_109 : decode cX6_begin 109 = .ok (.istore_n 2, 1) := by decide +kernel
theorem dX6_begin_110 : decode cX6_begin 110 = .ok (.iload_n 2, 1) := by decide +kernel
theorem dX6_begin_111 : decode cX6_begin 111 = .ok (.iconst 4, 1) := by decide +kernel
theorem dX6_begin_112 : decode cX6_begin 112 = .ok (.if_icmp .ge 25, 3) := by decide +kernel
theorem dX6_begin_115 : decode cX6_begin 115 = .ok (.aload_n 0, 1) := by decide +kernel
theorem dX6_begin_116 : decode cX6_begin 116 = .ok (.getfield 20, 3) := by decide +kernel
theorem dX6_begin_119 : decode cX6_begin 119 = .ok (.iload_n 2, 1) := by decide +kernel
theorem dX6_begin_120 : decode cX6_begin 120 = .ok (.aload_n 1, 1) := by decide +kernel
theorem dX6_begin_121 : decode cX6_begin 121 = .ok (.bipush 16, 2) := by decide +kernel
theorem dX6_begin_123 : decode cX6_begin 123 = .ok (.iconst 4, 1) := by decide +kernel
theorem dX6_begin_124 : decode cX6_begin 124 = .ok (.iload_n 2, 1) := by decide +kernel
theorem dX6_begin_125 : decode cX6_begin 125 = .ok (.imul, 1) := by decide +kernel
theorem dX6_begin_126 : decode cX6_begin 126 = .ok (.iadd, 1) := by decide +kernel
theorem dX6_begin_127 : decode cX6_begin 127 = .ok (.invokestatic 24, 3) := by decide +kernel
theorem dX6_begin_130 : decode cX6_begin 130 = .ok (.iastore, 1) := by decide +kernel
theorem dX6_begin_131 : decode cX6_begin 131 = .ok (.iinc 2 1, 3) := by decide +kernel
theorem dX6_begin_134 : decode cX6_begin 134 = .ok (.goto (-24), 3) := by decide +kernel
theorem dX6_begin_137 : decode cX6_begin 137 = .ok (.return_, 1) := by decide +kernel
theorem dX6_absorb_0 : decode cX6_absorb 0 = .ok (.iconst 0, 1) := by decide +kernel
theorem dX6_absorb_1 : decode cX6_absorb 1 = .ok (.istore 4, 2) := by decide +kernel
theorem dX6_absorb_3 : decode cX6_absorb 3 = .ok (.iload 4, 2) := by decide +kernel
theorem dX6_absorb_5 : decode cX6_absorb 5 = .ok (.iload_n 3, 1) := by decide +kernel
theorem dX6_absorb_6 : decode cX6_absorb 6 = .ok (.if_icmp .ge 58, 3) := by decide +kernel
theorem dX6_absorb_9 : decode cX6_absorb 9 = .ok (.iconst 0, 1) := by decide +kernel
theorem dX6_absorb_10 : decode cX6_absorb 10 = .ok (.istore 5, 2) := by decide +kernel
theorem dX6_absorb_12 : decode cX6_absorb 12 = .ok (.iload 5, 2) := by decide +kernel
theorem dX6_absorb_14 : decode cX6_absorb 14 = .ok (.bipush 16, 2) := by decide +kernel
theorem dX6_absorb_16 : decode cX6_absorb 16 = .ok (.if_icmp .ge 38, 3) := by decide +kernel
theorem dX6_absorb_19 : decode cX6_absorb 19 = .ok (.aload_n 0, 1) := by decide +kernel
theorem dX6_absorb_20 : decode cX6_absorb 20 = .ok (.getfield 16, 3) := by decide +kernel
theorem dX6_absorb_23 : decode cX6_absorb 23 = .ok (.iload 5, 2) := by decide +kernel
theorem dX6_absorb_25 : decode cX6_absorb 25 = .ok (.iload 4, 2) := by decide +kernel
theorem dX6_absorb_27 : decode cX6_absorb 27 = .ok (.iload 5, 2) := by decide +kernel
theorem dX6_absorb_29 : decode cX6_absorb 29 = .ok (.iadd, 1) := by decide +kernel
theorem dX6_absorb_30 : decode cX6_absorb 30 = .ok (.iload_n 3, 1) := by decide +kernel
theorem dX6_absorb_31 : decode cX6_absorb 31 = .ok (.if_icmp .ge 15, 3) := by decide +kernel
theorem dX6_absorb_34 : decode cX6_absorb 34 = .ok (.aload_n 1, 1) := by decide +kernel
theorem dX6_absorb_35 : decode cX6_absorb 35 = .ok (.iload_n 2, 1) := by decide +kernel
theorem dX6_absorb_36 : decode cX6_absorb 36 = .ok (.iload 4, 2) := by decide +kernel
theorem dX6_absorb_38 : decode cX6_absorb 38 = .ok (.iadd, 1) := by decide +kernel
theorem dX6_absorb_39 : decode cX6_absorb 39 = .ok (.iload 5, 2) := by decide +kernel
theorem dX6_absorb_41 : decode cX6_absorb 41 = .ok (.iadd, 1) := by decide +kernel
theorem dX6_absorb_42 : decode cX6_absorb 42 = .ok (.baload, 1) := by decide +kernel
theorem dX6_absorb_43 : decode cX6_absorb 43 = .ok (.goto 4, 3) := by decide +kernel
theorem dX6_absorb_46 : decode cX6_absorb 46 = .ok (.iconst 0, 1) := by decide +kernel
theorem dX6_absorb_47 : decode cX6_absorb 47 = .ok (.bastore, 1) := by decide +kernel
theorem dX6_absorb_48 : decode cX6_absorb 48 = .ok (.iinc 5 1, 3) := by decide +kernel
theorem dX6_absorb_51 : decode cX6_absorb 51 = .ok (.goto (-39), 3) := by decide +kernel
theorem dX6_absorb_54 : decode cX6_absorb 54 = .ok (.aload_n 0, 1) := by decide +kernel
theorem dX6_absorb_55 : decode cX6_absorb 55 = .ok (.invokevirtual 35, 3) := by decide +kernel
theorem dX6_absorb_58 : decode cX6_absorb 58 = .ok (.iinc 4 16, 3) := by decide +kernel
theorem dX6_absorb_61 : decode cX6_absorb 61 = .ok (.goto (-58), 3) := by decide +kernel
theorem dX6_absorb_64 : decode cX6_absorb 64 = .ok (.return_, 1) := by decide +kernel
theorem dX6_finish_0 : decode cX6_finish 0 = .ok (.iload_n 1, 1) := by decide +kernel
theorem dX6_finish_1 : decode cX6_finish 1 = .ok (.aload_n 0, 1) := by decide +kernel
theorem dX6_finish_2 : decode cX6_finish 2 = .ok (.getfield 16, 3) := by decide +kernel
theorem dX6_finish_5 : decode cX6_finish 5 = .ok (.iconst 0, 1) := by decide +kernel
theorem dX6_finish_6 : decode cX6_finish 6 = .ok (.invokestatic 38, 3) := by decide +kernel
theorem dX6_finish_9 : decode cX6_finish 9 = .ok (.iconst 0, 1) := by decide +kernel
theorem dX6_finish_10 : decode cX6_finish 10 = .ok (.aload_n 0, 1) := by decide +kernel
theorem dX6_finish_11 : decode cX6_finish 11 = .ok (.getfield 16, 3) := by decide +kernel
theorem dX6_finish_14 : decode cX6_finish 14 = .ok (.iconst 4, 1) := by decide +kernel
theorem dX6_finish_15 : decode cX6_finish 15 = .ok (.invokestatic 38, 3) := by decide +kernel
theorem dX6_finish_18 : decode cX6_finish 18 = .ok (.iload_n 2, 1) := by decide +kernel
theorem dX6_finish_19 : decode cX6_finish 19 = .ok (.aload_n 0, 1) := by decide +kernel
theorem dX6_finish_20 : decode cX6_finish 20 = .ok (.getfield 16, 3) := by decide +kernel
theorem dX6_finish_23 : decode cX6_finish 23 = .ok (.bipush 8, 2) := by decide +kernel
theorem dX6_finish_25 : decode cX6_finish 25 = .ok (.invokestatic 38, 3) := by decide +kernel
theorem dX6_finish_28 : decode cX6_finish 28 = .ok (.iconst 0, 1) := by decide +kernel
theorem dX6_finish_29 : decode cX6_finish 29 = .ok (.aload_n 0, 1) := by decide +kernel
theorem dX6_finish_30 : decode cX6_finish 30 = .ok (.getfield 16, 3) := by decide +kernel
theorem dX6_finish_33 : decode cX6_finish 33 = .ok (.bipush 12, 2) := by decide +kernel
theorem dX6_finish_35 : decode cX6_finish 35 = .ok (.invokestatic 38, 3) := by decide +kernel
theorem dX6_finish_38 : decode cX6_finish 38 = .ok (.aload_n 0, 1) := by decide +kernel
theorem dX6_finish_39 : decode cX6_finish 39 = .ok (.invokevirtual 35, 3) := by decide +kernel
theorem dX6_finish_42 : decode cX6_finish 42 = .ok (.aload_n 0, 1) := by decide +kernel
theorem dX6_finish_43 : decode cX6_finish 43 = .ok (.invokevirtual 42, 3) := by decide +kernel
theorem dX6_finish_46 : decode cX6_finish 46 = .ok (.aload_n 0, 1) := by decide +kernel
theorem dX6_finish_47 : decode cX6_finish 47 = .ok (.getfield 13, 3) := by decide +kernel
theorem dX6_finish_50 : decode cX6_finish 50 = .ok (.iconst 0, 1) := by decide +kernel
theorem dX6_finish_51 : decode cX6_finish 51 = .ok (.laload, 1) := by decide +kernel
theorem dX6_finish_52 : decode cX6_finish 52 = .ok (.aload_n 0, 1) := by decide +kernel
theorem dX6_finish_53 : decode cX6_finish 53 = .ok (.getfield 13, 3) := by decide +kernel
theorem dX6_finish_56 : decode cX6_finish 56 = .ok (.iconst 1, 1) := by decide +kernel
theorem dX6_finish_57 : decode cX6_finish 57 = .ok (.laload, 1) := by decide +kernel
theorem dX6_finish_58 : decode cX6_finish 58 = .ok (.bipush 26, 2) := by decide +kernel
theorem dX6_finish_60 : decode cX6_finish 60 = .ok (.lshl, 1) := by decide +kernel
theorem dX6_finish_61 : decode cX6_finish 61 = .ok (.lor, 1) := by decide +kernel
theorem dX6_finish_62 : decode cX6_finish 62 = .ok (.ldc2_w 45, 3) := by decide +kernel
theorem dX6_finish_65 : decode cX6_finish 65 = .ok (.land, 1) := by decide +kernel
theorem dX6_finish_66 : decode cX6_finish 66 = .ok (.lstore 4, 2) := by decide +kernel
theorem dX6_finish_68 : decode cX6_finish 68 = .ok (.lload 4, 2) := by decide +kernel
theorem dX6_finish_70 : decode cX6_finish 70 = .ok (.aload_n 0, 1) := by decide +kernel
theorem dX6_finish_71 : decode cX6_finish 71 = .ok (.getfield 20, 3) := by decide +kernel
theorem dX6_finish_74 : decode cX6_finish 74 = .ok (.iconst 0, 1) := by decide +kernel
theorem dX6_finish_75 : decode cX6_finish 75 = .ok (.iaload, 1) := by decide +kernel
theorem dX6_finish_76 : decode cX6_finish 76 = .ok (.i2l, 1) := by decide +kernel
theorem dX6_finish_77 : decode cX6_finish 77 = .ok (.ldc2_w 45, 3) := by decide +kernel
theorem dX6_finish_80 : decode cX6_finish 80 = .ok (.land, 1) := by decide +kernel
theorem dX6_finish_81 : decode cX6_finish 81 = .ok (.ladd, 1) := by decide +kernel
theorem dX6_finish_82 : decode cX6_finish 82 = .ok (.lstore 4, 2) := by decide +kernel
theorem dX6_finish_84 : decode cX6_finish 84 = .ok (.lload 4, 2) := by decide +kernel
theorem dX6_finish_86 : decode cX6_finish 86 = .ok (.l2i, 1) := by decide +kernel
theorem dX6_finish_87 : decode cX6_finish 87 = .ok (.aload_n 3, 1) := by decide +kernel
theorem dX6_finish_88 : decode cX6_finish 88 = .ok (.iconst 0, 1) := by decide +kernel
theorem dX6_finish_89 : decode cX6_finish 89 = .ok (.invokestatic 38, 3) := by decide +kernel
theorem dX6_finish_92 : decode cX6_finish 92 = .ok (.lload 4, 2) := by decide +kernel
theorem dX6_finish_94 : decode cX6_finish 94 = .ok (.bipush 32, 2) := by decide +kernel
theorem dX6_finish_96 : decode cX6_finish 96 = .ok (.lushr, 1) := by decide +kernel
theorem dX6_finish_97 : decode cX6_finish 97 = .ok (.aload_n 0, 1) := by decide +kernel
theorem dX6_finish_98 : decode cX6_finish 98 = .ok (.getfield 13, 3) := by decide +kernel
theorem dX6_finish_101 : decode cX6_finish 101 = .ok (.iconst 1, 1) := by decide +kernel
theorem dX6_finish_102 : decode cX6_finish 102 = .ok (.laload, 1) := by decide +kernel
theorem dX6_finish_103 : decode cX6_finish 103 = .ok (.bipush 6, 2) := by decide +kernel
theorem dX6_finish_105 : decode cX6_finish 105 = .ok (.lushr, 1) := by decide +kernel
theorem dX6_finish_106 : decode cX6_finish 106 = .ok (.aload_n 0, 1) := by decide +kernel
theorem dX6_finish_107 : decode cX6_finish 107 = .ok (.getfield 13, 3) := by decide +kernel
theorem dX6_finish_110 : decode cX6_finish 110 = .ok (.iconst 2, 1) := by decide +kernel
theorem dX6_finish_111 : decode cX6_finish 111 = .ok (.laload, 1) := by decide +kernel
theorem dX6_finish_112 : decode cX6_finish 112 = .ok (.bipush 20, 2) := by decide +kernel
theorem dX6_finish_114 : decode cX6_finish 114 = .ok (.lshl, 1) := by decide +kernel
theorem dX6_finish_115 : decode cX6_finish 115 = .ok (.lor, 1) := by decide +kernel
theorem dX6_finish_116 : decode cX6_finish 116 = .ok (.ldc2_w 45, 3) := by decide +kernel
theorem dX6_finish_119 : decode cX6_finish 119 = .ok (.land, 1) := by decide +kernel
theorem dX6_finish_120 : decode cX6_finish 120 = .ok (.ladd, 1) := by decide +kernel
theorem dX6_finish_121 : decode cX6_finish 121 = .ok (.aload_n 0, 1) := by decide +kernel
theorem dX6_finish_122 : decode cX6_finish 122 = .ok (.getfield 20, 3) := by decide +kernel
theorem dX6_finish_125 : decode cX6_finish 125 = .ok (.iconst 1, 1) := by decide +kernel
theorem dX6_finish_126 : decode cX6_finish 126 = .ok (.iaload, 1) := by decide +kernel
theorem dX6_finish_127 : decode cX6_finish 127 = .ok (.i2l, 1) := by decide +kernel
theorem dX6_finish_128 : decode cX6_finish 128 = .ok (.ldc2_w 45, 3) := by decide +kernel
theorem dX6_finish_131 : decode cX6_finish 131 = .ok (.land, 1) := by decide +kernel
theorem dX6_finish_132 : decode cX6_finish 132 = .ok (.ladd, 1) := by decide +kernel
theorem dX6_finish_133 : decode cX6_finish 133 = .ok (.lstore 4, 2) := by decide +kernel
theorem dX6_finish_135 : decode cX6_finish 135 = .ok (.lload 4, 2) := by decide +kernel
theorem dX6_finish_137 : decode cX6_finish 137 = .ok (.l2i, 1) := by decide +kernel
theorem dX6_finish_138 : decode cX6_finish 138 = .ok (.aload_n 3, 1) := by decide +kernel
theorem dX6_finish_139 : decode cX6_finish 139 = .ok (.iconst 4, 1) := by decide +kernel
theorem dX6_finish_140 : decode cX6_finish 140 = .ok (.invokestatic 38, 3) := by decide +kernel
theorem dX6_finish_143 : decode cX6_finish 143 = .ok (.lload 4, 2) := by decide +kernel
theorem dX6_finish_145 : decode cX6_finish 145 = .ok (.bipush 32, 2) := by decide +kernel
theorem dX6_finish_147 : decode cX6_finish 147 = .ok (.lushr, 1) := by decide +kernel
theorem dX6_finish_148 : decode cX6_finish 148 = .ok (.aload_n 0, 1) := by decide +kernel
theorem dX6_finish_149 : decode cX6_finish 149 = .ok (.getfield 13, 3) := by decide +kernel
theorem dX6_finish_152 : decode cX6_finish 152 = .ok (.iconst 2, 1) := by decide +kernel
theorem dX6_finish_153 : decode cX6_finish 153 = .ok (.laload, 1) := by decide +kernel
theorem dX6_finish_154 : decode cX6_finish 154 = .ok (.bipush 12, 2) := by decide +kernel
theorem dX6_finish_156 : decode cX6_finish 156 = .ok (.lushr, 1) := by decide +kernel
theorem dX6_finish_157 : decode cX6_finish 157 = .ok (.aload_n 0, 1) := by decide +kernel
theorem dX6_finish_158 : decode cX6_finish 158 = .ok (.getfield 13, 3) := by decide +kernel
theorem dX6_finish_161 : decode cX6_finish 161 = .ok (.iconst 3, 1) := by decide +kernel
theorem dX6_finish_162 : decode cX6_finish 162 = .ok (.laload, 1) := by decide +kernel
theorem dX6_finish_163 : decode cX6_finish 163 = .ok (.bipush 14, 2) := by decide +kernel
theorem dX6_finish_165 : decode cX6_finish 165 = .ok (.lshl, 1) := by decide +kernel
theorem dX6_finish_166 : decode cX6_finish 166 = .ok (.lor, 1) := by decide +kernel
theorem dX6_finish_167 : decode cX6_finish 167 = .ok (.ldc2_w 45, 3) := by decide +kernel
theorem dX6_finish_170 : decode cX6_finish 170 = .ok (.land, 1) := by decide +kernel
theorem dX6_finish_171 : decode cX6_finish 171 = .ok (.ladd, 1) := by decide +kernel
theorem dX6_finish_172 : decode cX6_finish 172 = .ok (.aload_n 0, 1) := by decide +kernel
theorem dX6_finish_173 : decode cX6_finish 173 = .ok (.getfield 20, 3) := by decide +kernel
theorem dX6_finish_176 : decode cX6_finish 176 = .ok (.iconst 2, 1) := by decide +kernel
theorem dX6_finish_177 : decode cX6_finish 177 = .ok (.iaload, 1) := by decide +kernel
theorem dX6_finish_178 : decode cX6_finish 178 = .ok (.i2l, 1) := by decide +kernel
theorem dX6_finish_179 : decode cX6_finish 179 = .ok (.ldc2_w 45, 3) := by decide +kernel
theorem dX6_finish_182 : decode cX6_finish 182 = .ok (.land, 1) := by decide +kernel
theorem dX6_finish_183 : decode cX6_finish 183 = .ok (.ladd, 1) := by decide +kernel
theorem dX6_finish_184 : decode cX6_finish 184 = .ok (.lstore 4, 2) := by decide +kernel
theorem dX6_finish_186 : decode cX6_finish 186 = .ok (.lload 4, 2) := by decide +kernel
theorem dX6_finish_188 : decode cX6_finish 188 = .ok (.l2i, 1) := by decide +kernel
theorem dX6_finish_189 : decode cX6_finish 189 = .ok (.aload_n 3, 1) := by decide +kernel
theorem dX6_finish_190 : decode cX6_finish 190 = .ok (.bipush 8, 2) := by decide +kernel
theorem dX6_finish_192 : decode cX6_finish 192 = .ok (.invokestatic 38, 3) := by decide +kernel
theorem dX6_finish_195 : decode cX6_finish 195 = .ok (.lload 4, 2) := by decide +kernel
theorem dX6_finish_197 : decode cX6_finish 197 = .ok (.bipush 32, 2) := by decide +kernel
theorem dX6_finish_199 : decode cX6_finish 199 = .ok (.lushr, 1) := by decide +kernel
theorem dX6_finish_200 : decode cX6_finish 200 = .ok (.aload_n 0, 1) := by decide +kernel
theorem dX6_finish_201 : decode cX6_finish 201 = .ok (.getfield 13, 3) := by decide +kernel
theorem dX6_finish_204 : decode cX6_finish 204 = .ok (.iconst 3, 1) := by decide +kernel
theorem dX6_finish_205 : decode cX6_finish 205 = .ok (.laload, 1) := by decide +kernel
theorem dX6_finish_206 : decode cX6_finish 206 = .ok (.bipush 18, 2) := by decide +kernel
theorem dX6_finish_208 : decode cX6_finish 208 = .ok (.lushr, 1) := by decide +kernel
theorem dX6_finish_209 : decode cX6_finish 209 = .ok (.aload_n 0, 1) := by decide +kernel
theorem dX6_finish_210 : decode cX6_finish 210 = .ok (.getfield 13, 3) := by decide +kernel
theorem dX6_finish_213 : decode cX6_finish 213 = .ok (.iconst 4, 1) := by decide +kernel
theorem dX6_finish_214 : decode cX6_finish 214 = .ok (.laload, 1) := by decide +kernel
theorem dX6_finish_215 : decode cX6_finish 215 = .ok (.bipush 8, 2) := by decide +kernel
theorem dX6_finish_217 : decode cX6_finish 217 = .ok (.lshl, 1) := by decide +kernel
theorem dX6_finish_218 : decode cX6_finish 218 = .ok (.lor, 1) := by decide +kernel
theorem dX6_finish_219 : decode cX6_finish 219 = .ok (.ldc2_w 45, 3) := by decide +kernel
theorem dX6_finish_222 : decode cX6_finish 222 = .ok (.land, 1) := by decide +kernel
theorem dX6_finish_223 : decode cX6_finish 223 = .ok (.ladd, 1) := by decide +kernel
theorem dX6_finish_224 : decode cX6_finish 224 = .ok (.aload_n 0, 1) := by decide +kernel
theorem dX6_finish_225 : decode cX6_finish 225 = .ok (.getfield 20, 3) := by decide +kernel
theorem dX6_finish_228 : decode cX6_finish 228 = .ok (.iconst 3, 1) := by decide +kernel
theorem dX6_finish_229 : decode cX6_finish 229 = .ok (.iaload, 1) := by decide +kernel
theorem dX6_finish_230 : decode cX6_finish 230 = .ok (.i2l, 1) := by decide +kernel
theorem dX6_finish_231 : decode cX6_finish 231 = .ok (.ldc2_w 45, 3) := by decide +kernel
theorem dX6_finish_234 : decode cX6_finish 234 = .ok (.land, 1) := by decide +kernel
theorem dX6_finish_235 : decode cX6_finish 235 = .ok (.ladd, 1) := by decide +kernel
theorem dX6_finish_236 : decode cX6_finish 236 = .ok (.lstore 4, 2) := by decide +kernel
theorem dX6_finish_238 : decode cX6_finish 238 = .ok (.lload 4, 2) := by decide +kernel
theorem dX6_finish_240 : decode cX6_finish 240 = .ok (.l2i, 1) := by decide +kernel
theorem dX6_finish_241 : decode cX6_finish 241 = .ok (.aload_n 3, 1) := by decide +kernel
theorem dX6_finish_242 : decode cX6_finish 242 = .ok (.bipush 12, 2) := by decide +kernel
theorem dX6_finish_244 : decode cX6_finish 244 = .ok (.invokestatic 38, 3) := by decide +kernel
theorem dX6_finish_247 : decode cX6_finish 247 = .ok (.return_, 1) := by decide +kernel
theorem dX6_addBlock_0 : decode cX6_addBlock 0 = .ok (.aload_n 0, 1) := by decide +kernel
theorem dX6_addBlock_1 : decode cX6_addBlock 1 = .ok (.getfield 13, 3) := by decide +kernel
theorem dX6_addBlock_4 : decode cX6_addBlock 4 = .ok (.iconst 0, 1) := by decide +kernel
theorem dX6_addBlock_5 : decode cX6_addBlock 5 = .ok (.laload, 1) := by decide +kernel
theorem dX6_addBlock_6 : decode cX6_addBlock 6 = .ok (.aload_n 0, 1) := by decide +kernel
theorem dX6_addBlock_7 : decode cX6_addBlock 7 = .ok (.getfield 16, 3) := by decide +kernel
theorem dX6_addBlock_10 : decode cX6_addBlock 10 = .ok (.iconst 0, 1) := by decide +kernel
theorem dX6_addBlock_11 : decode cX6_addBlock 11 = .ok (.invokestatic 24, 3) := by decide +kernel
theorem dX6_addBlock_14 : decode cX6_addBlock 14 = .ok (.ldc 30, 2) := by decide +kernel
theorem dX6_addBlock_16 : decode cX6_addBlock 16 = .ok (.iand, 1) := by decide +kernel
theorem dX6_addBlock_17 : decode cX6_addBlock 17 = .ok (.i2l, 1) := by decide +kernel
theorem dX6_addBlock_18 : decode cX6_addBlock 18 = .ok (.ladd, 1) := by decide +kernel
theorem dX6_addBlock_19 : decode cX6_addBlock 19 = .ok (.lstore_n 1, 1) := by decide +kernel
theorem dX6_addBlock_20 : decode cX6_addBlock 20 = .ok (.aload_n 0, 1) := by decide +kernel
theorem dX6_addBlock_21 : decode cX6_addBlock 21 = .ok (.getfield 13, 3) := by decide +kernel
theorem dX6_addBlock_24 : decode cX6_addBlock 24 = .ok (.iconst 1, 1) := by decide +kernel
theorem dX6_addBlock_25 : decode cX6_addBlock 25 = .ok (.laload, 1) := by decide +kernel
theorem dX6_addBlock_26 : decode cX6_addBlock 26 = .ok (.aload_n 0, 1) := by decide +kernel
theorem dX6_addBlock_27 : decode cX6_addBlock 27 = .ok (.getfield 16, 3) := by decide +kernel
theorem dX6_addBlock_30 : decode cX6_addBlock 30 = .ok (.iconst 3, 1) := by decide +kernel
theorem dX6_addBlock_31 : decode cX6_addBlock 31 = .ok (.invokestatic 24, 3) := by decide +kernel
theorem dX6_addBlock_34 : decode cX6_addBlock 34 = .ok (.iconst 2, 1) := by decide +kernel
theorem dX6_addBlock_35 : decode cX6_addBlock 35 = .ok (.iushr, 1) := by decide +kernel
theorem dX6_addBlock_36 : decode cX6_addBlock 36 = .ok (.ldc 30, 2) := by decide +kernel
theorem dX6_addBlock_38 : decode cX6_addBlock 38 = .ok (.iand, 1) := by decide +kernel
theorem dX6_addBlock_39 : decode cX6_addBlock 39 = .ok (.i2l, 1) := by decide +kernel
theorem dX6_addBlock_40 : decode cX6_addBlock 40 = .ok (.ladd, 1) := by decide +kernel
theorem dX6_addBlock_41 : decode cX6_addBlock 41 = .ok (.lstore_n 3, 1) := by decide +kernel
theorem dX6_addBlock_42 : decode cX6_addBlock 42 = .ok (.aload_n 0, 1) := by decide +kernel
theorem dX6_addBlock_43 : decode cX6_addBlock 43 = .ok (.getfield 13, 3) := by decide +kernel
theorem dX6_addBlock_46 : decode cX6_addBlock 46 = .ok (.iconst 2, 1) := by decide +kernel
theorem dX6_addBlock_47 : decode cX6_addBlock 47 = .ok (.laload, 1) := by decide +kernel
theorem dX6_addBlock_48 : decode cX6_addBlock 48 = .ok (.aload_n 0, 1) := by decide +kernel
theorem dX6_addBlock_49 : decode cX6_addBlock 49 = .ok (.getfield 16, 3) := by decide +kernel
theorem dX6_addBlock_52 : decode cX6_addBlock 52 = .ok (.bipush 6, 2) := by decide +kernel
theorem dX6_addBlock_54 : decode cX6_addBlock 54 = .ok (.invokestatic 24, 3) := by decide +kernel
theorem dX6_addBlock_57 : decode cX6_addBlock 57 = .ok (.iconst 4, 1) := by decide +kernel
theorem dX6_addBlock_58 : decode cX6_addBlock 58 = .ok (.iushr, 1) := by decide +kernel
theorem dX6_addBlock_59 : decode cX6_addBlock 59 = .ok (.ldc 30, 2) := by decide +kernel
theorem dX6_addBlock_61 : decode cX6_addBlock 61 = .ok (.iand, 1) := by decide +kernel
theorem dX6_addBlock_62 : decode cX6_addBlock 62 = .ok (.i2l, 1) := by decide +kernel
theorem dX6_addBlock_63 : decode cX6_addBlock 63 = .ok (.ladd, 1) := by decide +kernel
theorem dX6_addBlock_64 : decode cX6_addBlock 64 = .ok (.lstore 5, 2) := by decide +kernel
theorem dX6_addBlock_66 : decode cX6_addBlock 66 = .ok (.aload_n 0, 1) := by decide +kernel
theorem dX6_addBlock_67 : decode cX6_addBlock 67 = .ok (.getfield 13, 3) := by decide +kernel
theorem dX6_addBlock_70 : decode cX6_addBlock 70 = .ok (.iconst 3, 1) := by decide +kernel
theorem dX6_addBlock_71 : decode cX6_addBlock 71 = .ok (.laload, 1) := by decide +kernel
theorem dX6_addBlock_72 : decode cX6_addBlock 72 = .ok (.aload_n 0, 1) := by decide +kernel
theorem dX6_addBlock_73 : decode cX6_addBlock 73 = .ok (.getfield 16, 3) := by decide +kernel
theorem dX6_addBlock_76 : decode cX6_addBlock 76 = .ok (.bipush 9, 2) := by decide +kernel
theorem dX6_addBlock_78 : decode cX6_addBlock 78 = .ok (.invokestatic 24, 3) := by decide +kernel
theorem dX6_addBlock_81 : decode cX6_addBlock 81 = .ok (.bipush 6, 2) := by decide +kernel
theorem dX6_addBlock_83 : decode cX6_addBlock 83 = .ok (.iushr, 1) := by decide +kernel
theorem dX6_addBlock_84 : decode cX6_addBlock 84 = .ok (.ldc 30, 2) := by decide +kernel
theorem dX6_addBlock_86 : decode cX6_addBlock 86 = .ok (.iand, 1) := by decide +kernel
theorem dX6_addBlock_87 : decode cX6_addBlock 87 = .ok (.i2l, 1) := by decide +kernel
theorem dX6_addBlock_88 : decode cX6_addBlock 88 = .ok (.ladd, 1) := by decide +kernel
theorem dX6_addBlock_89 : decode cX6_addBlock 89 = .ok (.lstore 7, 2) := by decide +kernel
theorem dX6_addBlock_91 : decode cX6_addBlock 91 = .ok (.aload_n 0, 1) := by decide +kernel
theorem dX6_addBlock_92 : decode cX6_addBlock 92 = .ok (.getfield 13, 3) := by decide +kernel
theorem dX6_addBlock_95 : decode cX6_addBlock 95 = .ok (.iconst 4, 1) := by decide +kernel
theorem dX6_addBlock_96 : decode cX6_addBlock 96 = .ok (.laload, 1) := by decide +kernel
theorem dX6_addBlock_97 : decode cX6_addBlock 97 = .ok (.aload_n 0, 1) := by decide +kernel
theorem dX6_addBlock_98 : decode cX6_addBlock 98 = .ok (.getfield 16, 3) := by decide +kernel
theorem dX6_addBlock_101 : decode cX6_addBlock 101 = .ok (.bipush 12, 2) := by decide +kernel
theorem dX6_addBlock_103 : decode cX6_addBlock 103 = .ok (.invokestatic 24, 3) := by decide +kernel
theorem dX6_addBlock_106 : decode cX6_addBlock 106 = .ok (.bipush 8, 2) := by decide +kernel
theorem dX6_addBlock_108 : decode cX6_addBlock 108 = .ok (.iushr, 1) := by decide +kernel
theorem dX6_addBlock_109 : decode cX6_addBlock 109 = .ok (.ldc 47, 2) := by decide +kernel
theorem dX6_addBlock_111 : decode cX6_addBlock 111 = .ok (.ior, 1) := by decide +kernel
theorem dX6_addBlock_112 : decode cX6_addBlock 112 = .ok (.i2l, 1) := by decide +kernel
theorem dX6_addBlock_113 : decode cX6_addBlock 113 = .ok (.ladd, 1) := by decide +kernel
theorem dX6_addBlock_114 : decode cX6_addBlock 114 = .ok (.lstore 9, 2) := by decide +kernel
theorem dX6_addBlock_116 : decode cX6_addBlock 116 = .ok (.aload_n 0, 1) := by decide +kernel
theorem dX6_addBlock_117 : decode cX6_addBlock 117 = .ok (.getfield 7, 3) := by decide +kernel
theorem dX6_addBlock_120 : decode cX6_addBlock 120 = .ok (.iconst 0, 1) := by decide +kernel
theorem dX6_addBlock_121 : decode cX6_addBlock 121 = .ok (.laload, 1) := by decide +kernel
theorem dX6_addBlock_122 : decode cX6_addBlock 122 = .ok (.lstore 11, 2) := by decide +kernel
theorem dX6_addBlock_124 : decode cX6_addBlock 124 = .ok (.aload_n 0, 1) := by decide +kernel
theorem dX6_addBlock_125 : decode cX6_addBlock 125 = .ok (.getfield 7, 3) := by decide +kernel
theorem dX6_addBlock_128 : decode cX6_addBlock 128 = .ok (.iconst 1, 1) := by decide +kernel
theorem dX6_addBlock_129 : decode cX6_addBlock 129 = .ok (.laload, 1) := by decide +kernel
theorem dX6_addBlock_130 : decode cX6_addBlock 130 = .ok (.lstore 13, 2) := by decide +kernel
theorem dX6_addBlock_132 : decode cX6_addBlock 132 = .ok (.aload_n 0, 1) := by decide +kernel
theorem dX6_addBlock_133 : decode cX6_addBlock 133 = .ok (.getfield 7, 3) := by decide +kernel
theorem dX6_addBlock_136 : decode cX6_addBlock 136 = .ok (.iconst 2, 1) := by decide +kernel
theorem dX6_addBlock_137 : decode cX6_addBlock 137 = .ok (.laload, 1) := by decide +kernel
theorem dX6_addBlock_138 : decode cX6_addBlock 138 = .ok (.lstore 15, 2) := by decide +kernel
theorem dX6_addBlock_140 : decode cX6_addBlock 140 = .ok (.aload_n 0, 1) := by decide +kernel
theorem dX6_addBlock_141 : decode cX6_addBlock 141 = .ok (.getfield 7, 3) := by decide +kernel
theorem dX6_addBlock_144 : decode cX6_addBlock 144 = .ok (.iconst 3, 1) := by decide +kernel
theorem dX6_addBlock_145 : decode cX6_addBlock 145 = .ok (.laload, 1) := by decide +kernel
theorem dX6_addBlock_146 : decode cX6_addBlock 146 = .ok (.lstore 17, 2) := by decide +kernel
theorem dX6_addBlock_148 : decode cX6_addBlock 148 = .ok (.aload_n 0, 1) := by decide +kernel
theorem dX6_addBlock_149 : decode cX6_addBlock 149 = .ok (.getfield 7, 3) := by decide +kernel
theorem dX6_addBlock_152 : decode cX6_addBlock 152 = .ok (.iconst 4, 1) := by decide +kernel
theorem dX6_addBlock_153 : decode cX6_addBlock 153 = .ok (.laload, 1) := by decide +kernel
theorem dX6_addBlock_154 : decode cX6_addBlock 154 = .ok (.lstore 19, 2) := by decide +kernel
theorem dX6_addBlock_156 : decode cX6_addBlock 156 = .ok (.ldc2_w 48, 3) := by decide +kernel
theorem dX6_addBlock_159 : decode cX6_addBlock 159 = .ok (.lload 13, 2) := by decide +kernel
theorem dX6_addBlock_161 : decode cX6_addBlock 161 = .ok (.lmul, 1) := by decide +kernel
theorem dX6_addBlock_162 : decode cX6_addBlock 162 = .ok (.lstore 21, 2) := by decide +kernel
theorem dX6_addBlock_164 : decode cX6_addBlock 164 = .ok (.ldc2_w 48, 3) := by decide +kernel
theorem dX6_addBlock_167 : decode cX6_addBlock 167 = .ok (.lload 15, 2) := by decide +kernel
theorem dX6_addBlock_169 : decode cX6_addBlock 169 = .ok (.lmul, 1) := by decide +kernel
theorem dX6_addBlock_170 : decode cX6_addBlock 170 = .ok (.lstore 23, 2) := by decide +kernel
theorem dX6_addBlock_172 : decode cX6_addBlock 172 = .ok (.ldc2_w 48, 3) := by decide +kernel
theorem dX6_addBlock_175 : decode cX6_addBlock 175 = .ok (.lload 17, 2) := by decide +kernel
theorem dX6_addBlock_177 : decode cX6_addBlock 177 = .ok (.lmul, 1) := by decide +kernel
theorem dX6_addBlock_178 : decode cX6_addBlock 178 = .ok (.lstore 25, 2) := by decide +kernel
theorem dX6_addBlock_180 : decode cX6_addBlock 180 = .ok (.ldc2_w 48, 3) := by decide +kernel
theorem dX6_addBlock_183 : decode cX6_addBlock 183 = .ok (.lload 19, 2) := by decide +kernel
theorem dX6_addBlock_185 : decode cX6_addBlock 185 = .ok (.lmul, 1) := by decide +kernel
theorem dX6_addBlock_186 : decode cX6_addBlock 186 = .ok (.lstore 27, 2) := by decide +kernel
theorem dX6_addBlock_188 : decode cX6_addBlock 188 = .ok (.aload_n 0, 1) := by decide +kernel
theorem dX6_addBlock_189 : decode cX6_addBlock 189 = .ok (.getfield 13, 3) := by decide +kernel
theorem dX6_addBlock_192 : decode cX6_addBlock 192 = .ok (.iconst 0, 1) := by decide +kernel
theorem dX6_addBlock_193 : decode cX6_addBlock 193 = .ok (.lload_n 1, 1) := by decide +kernel
theorem dX6_addBlock_194 : decode cX6_addBlock 194 = .ok (.lload 11, 2) := by decide +kernel
theorem dX6_addBlock_196 : decode cX6_addBlock 196 = .ok (.lmul, 1) := by decide +kernel
theorem dX6_addBlock_197 : decode cX6_addBlock 197 = .ok (.lload_n 3, 1) := by decide +kernel
theorem dX6_addBlock_198 : decode cX6_addBlock 198 = .ok (.lload 27, 2) := by decide +kernel
theorem dX6_addBlock_200 : decode cX6_addBlock 200 = .ok (.lmul, 1) := by decide +kernel
theorem dX6_addBlock_201 : decode cX6_addBlock 201 = .ok (.ladd, 1) := by decide +kernel
theorem dX6_addBlock_202 : decode cX6_addBlock 202 = .ok (.lload 5, 2) := by decide +kernel
theorem dX6_addBlock_204 : decode cX6_addBlock 204 = .ok (.lload 25, 2) := by decide +kernel
theorem dX6_addBlock_206 : decode cX6_addBlock 206 = .ok (.lmul, 1) := by decide +kernel
theorem dX6_addBlock_207 : decode cX6_addBlock 207 = .ok (.ladd, 1) := by decide +kernel
theorem dX6_addBlock_208 : decode cX6_addBlock 208 = .ok (.lload 7, 2) := by decide +kernel
theorem dX6_addBlock_210 : decode cX6_addBlock 210 = .ok (.lload 23, 2) := by decide +kernel
theorem dX6_addBlock_212 : decode cX6_addBlock 212 = .ok (.lmul, 1) := by decide +kernel
theorem dX6_addBlock_213 : decode cX6_addBlock 213 = .ok (.ladd, 1) := by decide +kernel
theorem dX6_addBlock_214 : decode cX6_addBlock 214 = .ok (.lload 9, 2) := by decide +kernel
theorem dX6_addBlock_216 : decode cX6_addBlock 216 = .ok (.lload 21, 2) := by decide +kernel
theorem dX6_addBlock_218 : decode cX6_addBlock 218 = .ok (.lmul, 1) := by decide +kernel
theorem dX6_addBlock_219 : decode cX6_addBlock 219 = .ok (.ladd, 1) := by decide +kernel
theorem dX6_addBlock_220 : decode cX6_addBlock 220 = .ok (.lastore, 1) := by decide +kernel
theorem dX6_addBlock_221 : decode cX6_addBlock 221 = .ok (.aload_n 0, 1) := by decide +kernel
theorem dX6_addBlock_222 : decode cX6_addBlock 222 = .ok (.getfield 13, 3) := by decide +kernel
theorem dX6_addBlock_225 : decode cX6_addBlock 225 = .ok (.iconst 1, 1) := by decide +kernel
theorem dX6_addBlock_226 : decode cX6_addBlock 226 = .ok (.lload_n 1, 1) := by decide +kernel
theorem dX6_addBlock_227 : decode cX6_addBlock 227 = .ok (.lload 13, 2) := by decide +kernel
theorem dX6_addBlock_229 : decode cX6_addBlock 229 = .ok (.lmul, 1) := by decide +kernel
theorem dX6_addBlock_230 : decode cX6_addBlock 230 = .ok (.lload_n 3, 1) := by decide +kernel
theorem dX6_addBlock_231 : decode cX6_addBlock 231 = .ok (.lload 11, 2) := by decide +kernel
theorem dX6_addBlock_233 : decode cX6_addBlock 233 = .ok (.lmul, 1) := by decide +kernel
theorem dX6_addBlock_234 : decode cX6_addBlock 234 = .ok (.ladd, 1) := by decide +kernel
theorem dX6_addBlock_235 : decode cX6_addBlock 235 = .ok (.lload 5, 2) := by decide +kernel
theorem dX6_addBlock_237 : decode cX6_addBlock 237 = .ok (.lload 27, 2) := by decide +kernel
theorem dX6_addBlock_239 : decode cX6_addBlock 239 = .ok (.lmul, 1) := by decide +kernel
theorem dX6_addBlock_240 : decode cX6_addBlock 240 = .ok (.ladd, 1) := by decide +kernel
theorem dX6_addBlock_241 : decode cX6_addBlock 241 = .ok (.lload 7, 2) := by decide +kernel
theorem dX6_addBlock_243 : decode cX6_addBlock 243 = .ok (.lload 25, 2) := by decide +kernel
theorem dX6_addBlock_245 : decode cX6_addBlock 245 = .ok (.lmul, 1) := by decide +kernel
theorem dX6_addBlock_246 : decode cX6_addBlock 246 = .ok (.ladd, 1) := by decide +kernel
theorem dX6_addBlock_247 : decode cX6_addBlock 247 = .ok (.lload 9, 2) := by decide +kernel
theorem dX6_addBlock_249 : decode cX6_addBlock 249 = .ok (.lload 23, 2) := by decide +kernel
theorem dX6_addBlock_251 : decode cX6_addBlock 251 = .ok (.lmul, 1) := by decide +kernel
theorem dX6_addBlock_252 : decode cX6_addBlock 252 = .ok (.ladd, 1) := by decide +kernel
theorem dX6_addBlock_253 : decode cX6_addBlock 253 = .ok (.lastore, 1) := by decide +kernel
theorem dX6_addBlock_254 : decode cX6_addBlock 254 = .ok (.aload_n 0, 1) := by decide +kernel
theorem dX6_addBlock_255 : decode cX6_addBlock 255 = .ok (.getfield 13, 3) := by decide +kernel
theorem dX6_addBlock_258 : decode cX6_addBlock 258 = .ok (.iconst 2, 1) := by decide +kernel
theorem dX6_addBlock_259 : decode cX6_addBlock 259 = .ok (.lload_n 1, 1) := by decide +kernel
theorem dX6_addBlock_260 : decode cX6_addBlock 260 = .ok (.lload 15, 2) := by decide +kernel
theorem dX6_addBlock_262 : decode cX6_addBlock 262 = .ok (.lmul, 1) := by decide +kernel
theorem dX6_addBlock_263 : decode cX6_addBlock 263 = .ok (.lload_n 3, 1) := by decide +kernel
theorem dX6_addBlock_264 : decode cX6_addBlock 264 = .ok (.lload 13, 2) := by decide +kernel
theorem dX6_addBlock_266 : decode cX6_addBlock 266 = .ok (.lmul, 1) := by decide +kernel
theorem dX6_addBlock_267 : decode cX6_addBlock 267 = .ok (.ladd, 1) := by decide +kernel
theorem dX6_addBlock_268 : decode cX6_addBlock 268 = .ok (.lload 5, 2) := by decide +kernel
theorem dX6_addBlock_270 : decode cX6_addBlock 270 = .ok (.lload 11, 2) := by decide +kernel
theorem dX6_addBlock_272 : decode cX6_addBlock 272 = .ok (.lmul, 1) := by decide +kernel
theorem dX6_addBlock_273 : decode cX6_addBlock 273 = .ok (.ladd, 1) := by decide +kernel
theorem dX6_addBlock_274 : decode cX6_addBlock 274 = .ok (.lload 7, 2) := by decide +kernel
theorem dX6_addBlock_276 : decode cX6_addBlock 276 = .ok (.lload 27, 2) := by decide +kernel
theorem dX6_addBlock_278 : decode cX6_addBlock 278 = .ok (.lmul, 1) := by decide +kernel
theorem dX6_addBlock_279 : decode cX6_addBlock 279 = .ok (.ladd, 1) := by decide +kernel
theorem dX6_addBlock_280 : decode cX6_addBlock 280 = .ok (.lload 9, 2) := by decide +kernel
theorem dX6_addBlock_282 : decode cX6_addBlock 282 = .ok (.lload 25, 2) := by decide +kernel
theorem dX6_addBlock_284 : decode cX6_addBlock 284 = .ok (.lmul, 1) := by decide +kernel
theorem dX6_addBlock_285 : decode cX6_addBlock 285 = .ok (.ladd, 1) := by decide +kernel
theorem dX6_addBlock_286 : decode cX6_addBlock 286 = .ok (.lastore, 1) := by decide +kernel
theorem dX6_addBlock_287 : decode cX6_addBlock 287 = .ok (.aload_n 0, 1) := by decide +kernel
theorem dX6_addBlock_288 : decode cX6_addBlock 288 = .ok (.getfield 13, 3) := by decide +kernel
theorem dX6_addBlock_291 : decode cX6_addBlock 291 = .ok (.iconst 3, 1) := by decide +kernel
theorem dX6_addBlock_292 : decode cX6_addBlock 292 = .ok (.lload_n 1, 1) := by decide +kernel
theorem dX6_addBlock_293 : decode cX6_addBlock 293 = .ok (.lload 17, 2) := by decide +kernel
theorem dX6_addBlock_295 : decode cX6_addBlock 295 = .ok (.lmul, 1) := by decide +kernel
theorem dX6_addBlock_296 : decode cX6_addBlock 296 = .ok (.lload_n 3, 1) := by decide +kernel
theorem dX6_addBlock_297 : decode cX6_addBlock 297 = .ok (.lload 15, 2) := by decide +kernel
theorem dX6_addBlock_299 : decode cX6_addBlock 299 = .ok (.lmul, 1) := by decide +kernel
theorem dX6_addBlock_300 : decode cX6_addBlock 300 = .ok (.ladd, 1) := by decide +kernel
theorem dX6_addBlock_301 : decode cX6_addBlock 301 = .ok (.lload 5, 2) := by decide +kernel
theorem dX6_addBlock_303 : decode cX6_addBlock 303 = .ok (.lload 13, 2) := by decide +kernel
theorem dX6_addBlock_305 : decode cX6_addBlock 305 = .ok (.lmul, 1) := by decide +kernel
theorem dX6_addBlock_306 : decode cX6_addBlock 306 = .ok (.ladd, 1) := by decide +kernel
theorem dX6_addBlock_307 : decode cX6_addBlock 307 = .ok (.lload 7, 2) := by decide +kernel
theorem dX6_addBlock_309 : decode cX6_addBlock 309 = .ok (.lload 11, 2) := by decide +kernel
theorem dX6_addBlock_311 : decode cX6_addBlock 311 = .ok (.lmul, 1) := by decide +kernel
theorem dX6_addBlock_312 : decode cX6_addBlock 312 = .ok (.ladd, 1) := by decide +kernel
theorem dX6_addBlock_313 : decode cX6_addBlock 313 = .ok (.lload 9, 2) := by decide +kernel
theorem dX6_addBlock_315 : decode cX6_addBlock 315 = .ok (.lload 27, 2) := by decide +kernel
theorem dX6_addBlock_317 : decode cX6_addBlock 317 = .ok (.lmul, 1) := by decide +kernel
theorem dX6_addBlock_318 : decode cX6_addBlock 318 = .ok (.ladd, 1) := by decide +kernel
theorem dX6_addBlock_319 : decode cX6_addBlock 319 = .ok (.lastore, 1) := by decide +kernel
theorem dX6_addBlock_320 : decode cX6_addBlock 320 = .ok (.aload_n 0, 1) := by decide +kernel
theorem dX6_addBlock_321 : decode cX6_addBlock 321 = .ok (.getfield 13, 3) := by decide +kernel
theorem dX6_addBlock_324 : decode cX6_addBlock 324 = .ok (.iconst 4, 1) := by decide +kernel
theorem dX6_addBlock_325 : decode cX6_addBlock 325 = .ok (.lload_n 1, 1) := by decide +kernel
theorem dX6_addBlock_326 : decode cX6_addBlock 326 = .ok (.lload 19, 2) := by decide +kernel
theorem dX6_addBlock_328 : decode cX6_addBlock 328 = .ok (.lmul, 1) := by decide +kernel
theorem dX6_addBlock_329 : decode cX6_addBlock 329 = .ok (.lload_n 3, 1) := by decide +kernel
theorem dX6_addBlock_330 : decode cX6_addBlock 330 = .ok (.lload 17, 2) := by decide +kernel
theorem dX6_addBlock_332 : decode cX6_addBlock 332 = .ok (.lmul, 1) := by decide +kernel
theorem dX6_addBlock_333 : decode cX6_addBlock 333 = .ok (.ladd, 1) := by decide +kernel
theorem dX6_addBlock_334 : decode cX6_addBlock 334 = .ok (.lload 5, 2) := by decide +kernel
theorem dX6_addBlock_336 : decode cX6_addBlock 336 = .ok (.lload 15, 2) := by decide +kernel
theorem dX6_addBlock_338 : decode cX6_addBlock 338 = .ok (.lmul, 1) := by decide +kernel
theorem dX6_addBlock_339 : decode cX6_addBlock 339 = .ok (.ladd, 1) := by decide +kernel
theorem dX6_addBlock_340 : decode cX6_addBlock 340 = .ok (.lload 7, 2) := by decide +kernel
theorem dX6_addBlock_342 : decode cX6_addBlock 342 = .ok (.lload 13, 2) := by decide +kernel
theorem dX6_addBlock_344 : decode cX6_addBlock 344 = .ok (.lmul, 1) := by decide +kernel
theorem dX6_addBlock_345 : decode cX6_addBlock 345 = .ok (.ladd, 1) := by decide +kernel
theorem dX6_addBlock_346 : decode cX6_addBlock 346 = .ok (.lload 9, 2) := by decide +kernel
theorem dX6_addBlock_348 : decode cX6_addBlock 348 = .ok (.lload 11, 2) := by decide +kernel
theorem dX6_addBlock_350 : decode cX6_addBlock 350 = .ok (.lmul, 1) := by decide +kernel
theorem dX6_addBlock_351 : decode cX6_addBlock 351 = .ok (.ladd, 1) := by decide +kernel
theorem dX6_addBlock_352 : decode cX6_addBlock 352 = .ok (.lastore, 1) := by decide +kernel
theorem dX6_addBlock_353 : decode cX6_addBlock 353 = .ok (.aload_n 0, 1) := by decide +kernel
theorem dX6_addBlock_354 : decode cX6_addBlock 354 = .ok (.invokevirtual 50, 3) := by decide +kernel
theorem dX6_addBlock_357 : decode cX6_addBlock 357 = .ok (.return_, 1) := by decide +kernel
theorem dX6_carry_0 : decode cX6_carry 0 = .ok (.lconst 0, 1) := by decide +kernel
theorem dX6_carry_1 : decode cX6_carry 1 = .ok (.lstore_n 1, 1) := by decide +kernel
theorem dX6_carry_2 : decode cX6_carry 2 = .ok (.iconst 0, 1) := by decide +kernel
theorem dX6_carry_3 : decode cX6_carry 3 = .ok (.istore_n 3, 1) := by decide +kernel
theorem dX6_carry_4 : decode cX6_carry 4 = .ok (.iload_n 3, 1) := by decide +kernel
theorem dX6_carry_5 : decode cX6_carry 5 = .ok (.iconst 5, 1) := by decide +kernel
theorem dX6_carry_6 : decode cX6_carry 6 = .ok (.if_icmp .ge 37, 3) := by decide +kernel
theorem dX6_carry_9 : decode cX6_carry 9 = .ok (.aload_n 0, 1) := by decide +kernel
theorem dX6_carry_10 : decode cX6_carry 10 = .ok (.getfield 13, 3) := by decide +kernel
theorem dX6_carry_13 : decode cX6_carry 13 = .ok (.iload_n 3, 1) := by decide +kernel
theorem dX6_carry_14 : decode cX6_carry 14 = .ok (.laload, 1) := by decide +kernel
theorem dX6_carry_15 : decode cX6_carry 15 = .ok (.lload_n 1, 1) := by decide +kernel
theorem dX6_carry_16 : decode cX6_carry 16 = .ok (.ladd, 1) := by decide +kernel
theorem dX6_carry_17 : decode cX6_carry 17 = .ok (.lstore 4, 2) := by decide +kernel
theorem dX6_carry_19 : decode cX6_carry 19 = .ok (.lload 4, 2) := by decide +kernel
theorem dX6_carry_21 : decode cX6_carry 21 = .ok (.bipush 26, 2) := by decide +kernel
theorem dX6_carry_23 : decode cX6_carry 23 = .ok (.lushr, 1) := by decide +kernel
theorem dX6_carry_24 : decode cX6_carry 24 = .ok (.lstore_n 1, 1) := by decide +kernel
theorem dX6_carry_25 : decode cX6_carry 25 = .ok (.aload_n 0, 1) := by decide +kernel
theorem dX6_carry_26 : decode cX6_carry 26 = .ok (.getfield 13, 3) := by decide +kernel
theorem dX6_carry_29 : decode cX6_carry 29 = .ok (.iload_n 3, 1) := by decide +kernel
theorem dX6_carry_30 : decode cX6_carry 30 = .ok (.lload 4, 2) := by decide +kernel
theorem dX6_carry_32 : decode cX6_carry 32 = .ok (.ldc2_w 53, 3) := by decide +kernel
theorem dX6_carry_35 : decode cX6_carry 35 = .ok (.land, 1) := by decide +kernel
theorem dX6_carry_36 : decode cX6_carry 36 = .ok (.lastore, 1) := by decide +kernel
theorem dX6_carry_37 : decode cX6_carry 37 = .ok (.iinc 3 1, 3) := by decide +kernel
theorem dX6_carry_40 : decode cX6_carry 40 = .ok (.goto (-36), 3) := by decide +kernel
theorem dX6_carry_43 : decode cX6_carry 43 = .ok (.aload_n 0, 1) := by decide +kernel
theorem dX6_carry_44 : decode cX6_carry 44 = .ok (.getfield 13, 3) := by decide +kernel
theorem dX6_carry_47 : decode cX6_carry 47 = .ok (.iconst 0, 1) := by decide +kernel
theorem dX6_carry_48 : decode cX6_carry 48 = .ok (.dup2, 1) := by decide +kernel
theorem dX6_carry_49 : decode cX6_carry 49 = .ok (.laload, 1) := by decide +kernel
theorem dX6_carry_50 : decode cX6_carry 50 = .ok (.ldc2_w 48, 3) := by decide +kernel
theorem dX6_carry_53 : decode cX6_carry 53 = .ok (.lload_n 1, 1) := by decide +kernel
theorem dX6_carry_54 : decode cX6_carry 54 = .ok (.lmul, 1) := by decide +kernel
theorem dX6_carry_55 : decode cX6_carry 55 = .ok (.ladd, 1) := by decide +kernel
theorem dX6_carry_56 : decode cX6_carry 56 = .ok (.lastore, 1) := by decide +kernel
theorem dX6_carry_57 : decode cX6_carry 57 = .ok (.return_, 1) := by decide +kernel
theorem dX6_reduce_0 : decode cX6_reduce 0 = .ok (.ldc2_w 48, 3) := by decide +kernel
theorem dX6_reduce_3 : decode cX6_reduce 3 = .ok (.lstore_n 1, 1) := by decide +kernel
theorem dX6_reduce_4 : decode cX6_reduce 4 = .ok (.iconst 0, 1) := by decide +kernel
theorem dX6_reduce_5 : decode cX6_reduce 5 = .ok (.istore_n 3, 1) := by decide +kernel
theorem dX6_reduce_6 : decode cX6_reduce 6 = .ok (.iload_n 3, 1) := by decide +kernel
theorem dX6_reduce_7 : decode cX6_reduce 7 = .ok (.iconst 5, 1) := by decide +kernel
theorem dX6_reduce_8 : decode cX6_reduce 8 = .ok (.if_icmp .ge 21, 3) := by decide +kernel
theorem dX6_reduce_11 : decode cX6_reduce 11 = .ok (.aload_n 0, 1) := by decide +kernel
theorem dX6_reduce_12 : decode cX6_reduce 12 = .ok (.getfield 13, 3) := by decide +kernel
theorem dX6_reduce_15 : decode cX6_reduce 15 = .ok (.iload_n 3, 1) := by decide +kernel
theorem dX6_reduce_16 : decode cX6_reduce 16 = .ok (.laload, 1) := by decide +kernel
theorem dX6_reduce_17 : decode cX6_reduce 17 = .ok (.lload_n 1, 1) := by decide +kernel
theorem dX6_reduce_18 : decode cX6_reduce 18 = .ok (.ladd, 1) := by decide +kernel
theorem dX6_reduce_19 : decode cX6_reduce 19 = .ok (.bipush 26, 2) := by decide +kernel
theorem dX6_reduce_21 : decode cX6_reduce 21 = .ok (.lushr, 1) := by decide +kernel
theorem dX6_reduce_22 : decode cX6_reduce 22 = .ok (.lstore_n 1, 1) := by decide +kernel
theorem dX6_reduce_23 : decode cX6_reduce 23 = .ok (.iinc 3 1, 3) := by decide +kernel
theorem dX6_reduce_26 : decode cX6_reduce 26 = .ok (.goto (-20), 3) := by decide +kernel
theorem dX6_reduce_29 : decode cX6_reduce 29 = .ok (.aload_n 0, 1) := by decide +kernel
theorem dX6_reduce_30 : decode cX6_reduce 30 = .ok (.getfield 13, 3) := by decide +kernel
theorem dX6_reduce_33 : decode cX6_reduce 33 = .ok (.iconst 0, 1) := by decide +kernel
theorem dX6_reduce_34 : decode cX6_reduce 34 = .ok (.dup2, 1) := by decide +kernel
theorem dX6_reduce_35 : decode cX6_reduce 35 = .ok (.laload, 1) := by decide +kernel
theorem dX6_reduce_36 : decode cX6_reduce 36 = .ok (.ldc2_w 48, 3) := by decide +kernel
theorem dX6_reduce_39 : decode cX6_reduce 39 = .ok (.lload_n 1, 1) := by decide +kernel
theorem dX6_reduce_40 : decode cX6_reduce 40 = .ok (.lmul, 1) := by decide +kernel
theorem dX6_reduce_41 : decode cX6_reduce 41 = .ok (.ladd, 1) := by decide +kernel
theorem dX6_reduce_42 : decode cX6_reduce 42 = .ok (.lastore, 1) := by decide +kernel
theorem dX6_reduce_43 : decode cX6_reduce 43 = .ok (.iconst 0, 1) := by decide +kernel
theorem dX6_reduce_44 : decode cX6_reduce 44 = .ok (.istore_n 3, 1) := by decide +kernel
theorem dX6_reduce_45 : decode cX6_reduce 45 = .ok (.iload_n 3, 1) := by decide +kernel
theorem dX6_reduce_46 : decode cX6_reduce 46 = .ok (.iconst 4, 1) := by decide +kernel
theorem dX6_reduce_47 : decode cX6_reduce 47 = .ok (.if_icmp .ge 41, 3) := by decide +kernel
theorem dX6_reduce_50 : decode cX6_reduce 50 = .ok (.aload_n 0, 1) := by decide +kernel
theorem dX6_reduce_51 : decode cX6_reduce 51 = .ok (.getfield 13, 3) := by decide +kernel
theorem dX6_reduce_54 : decode cX6_reduce 54 = .ok (.iload_n 3, 1) := by decide +kernel
theorem dX6_reduce_55 : decode cX6_reduce 55 = .ok (.iconst 1, 1) := by decide +kernel
theorem dX6_reduce_56 : decode cX6_reduce 56 = .ok (.iadd, 1) := by decide +kernel
theorem dX6_reduce_57 : decode cX6_reduce 57 = .ok (.dup2, 1) := by decide +kernel
theorem dX6_reduce_58 : decode cX6_reduce 58 = .ok (.laload, 1) := by decide +kernel
theorem dX6_reduce_59 : decode cX6_reduce 59 = .ok (.aload_n 0, 1) := by decide +kernel
theorem dX6_reduce_60 : decode cX6_reduce 60 = .ok (.getfield 13, 3) := by decide +kernel
theorem dX6_reduce_63 : decode cX6_reduce 63 = .ok (.iload_n 3, 1) := by decide +kernel
theorem dX6_reduce_64 : decode cX6_reduce 64 = .ok (.laload, 1) := by decide +kernel
theorem dX6_reduce_65 : decode cX6_reduce 65 = .ok (.bipush 26, 2) := by decide +kernel
theorem dX6_reduce_67 : decode cX6_reduce 67 = .ok (.lushr, 1) := by decide +kernel
theorem dX6_reduce_68 : decode cX6_reduce 68 = .ok (.ladd, 1) := by decide +kernel
theorem dX6_reduce_69 : decode cX6_reduce 69 = .ok (.lastore, 1) := by decide +kernel
theorem dX6_reduce_70 : decode cX6_reduce 70 = .ok (.aload_n 0, 1) := by decide +kernel
theorem dX6_reduce_71 : decode cX6_reduce 71 = .ok (.getfield 13, 3) := by decide +kernel
theorem dX6_reduce_74 : decode cX6_reduce 74 = .ok (.iload_n 3, 1) := by decide +kernel
theorem dX6_reduce_75 : decode cX6_reduce 75 = .ok (.dup2, 1) := by decide +kernel
theorem dX6_reduce_76 : decode cX6_reduce 76 = .ok (.laload, 1) := by decide +kernel
theorem dX6_reduce_77 : decode cX6_reduce 77 = .ok (.ldc2_w 53, 3) := by decide +kernel
theorem dX6_reduce_80 : decode cX6_reduce 80 = .ok (.land, 1) := by decide +kernel
theorem dX6_reduce_81 : decode cX6_reduce 81 = .ok (.lastore, 1) := by decide +kernel
theorem dX6_reduce_82 : decode cX6_reduce 82 = .ok (.iinc 3 1, 3) := by decide +kernel
theorem dX6_reduce_85 : decode cX6_reduce 85 = .ok (.goto (-40), 3) := by decide +kernel
theorem dX6_reduce_88 : decode cX6_reduce 88 = .ok (.aload_n 0, 1) := by decide +kernel
theorem dX6_reduce_89 : decode cX6_reduce 89 = .ok (.getfield 13, 3) := by decide +kernel
theorem dX6_reduce_92 : decode cX6_reduce 92 = .ok (.iconst 4, 1) := by decide +kernel
theorem dX6_reduce_93 : decode cX6_reduce 93 = .ok (.dup2, 1) := by decide +kernel
theorem dX6_reduce_94 : decode cX6_reduce 94 = .ok (.laload, 1) := by decide +kernel
theorem dX6_reduce_95 : decode cX6_reduce 95 = .ok (.ldc2_w 53, 3) := by decide +kernel
theorem dX6_reduce_98 : decode cX6_reduce 98 = .ok (.land, 1) := by decide +kernel
theorem dX6_reduce_99 : decode cX6_reduce 99 = .ok (.lastore, 1) := by decide +kernel
theorem dX6_reduce_100 : decode cX6_reduce 100 = .ok (.return_, 1) := by decide +kernel
