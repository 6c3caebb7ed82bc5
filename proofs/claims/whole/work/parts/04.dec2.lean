theorem dX1_init_19 : decode cX1_init 19 = .ok (.return_, 1) := by decide +kernel
theorem dX1_clear_0 : decode cX1_clear 0 = .ok (.aload_n 0, 1) := by decide +kernel
theorem dX1_clear_1 : decode cX1_clear 1 = .ok (.iconst 0, 1) := by decide +kernel
theorem dX1_clear_2 : decode cX1_clear 2 = .ok (.putfield 15, 3) := by decide +kernel
theorem dX1_clear_5 : decode cX1_clear 5 = .ok (.return_, 1) := by decide +kernel
theorem dX1_append_0 : decode cX1_append 0 = .ok (.aload_n 0, 1) := by decide +kernel
theorem dX1_append_1 : decode cX1_append 1 = .ok (.getfield 15, 3) := by decide +kernel
theorem dX1_append_4 : decode cX1_append 4 = .ok (.ifCond .lt 36, 3) := by decide +kernel
theorem dX1_append_7 : decode cX1_append 7 = .ok (.aload_n 0, 1) := by decide +kernel
theorem dX1_append_8 : decode cX1_append 8 = .ok (.getfield 15, 3) := by decide +kernel
theorem dX1_append_11 : decode cX1_append 11 = .ok (.aload_n 0, 1) := by decide +kernel
theorem dX1_append_12 : decode cX1_append 12 = .ok (.getfield 9, 3) := by decide +kernel
theorem dX1_append_15 : decode cX1_append 15 = .ok (.arraylength, 1) := by decide +kernel
theorem dX1_append_16 : decode cX1_append 16 = .ok (.if_icmp .ge 24, 3) := by decide +kernel
theorem dX1_append_19 : decode cX1_append 19 = .ok (.aload_n 0, 1) := by decide +kernel
theorem dX1_append_20 : decode cX1_append 20 = .ok (.getfield 9, 3) := by decide +kernel
theorem dX1_append_23 : decode cX1_append 23 = .ok (.aload_n 0, 1) := by decide +kernel
theorem dX1_append_24 : decode cX1_append 24 = .ok (.getfield 15, 3) := by decide +kernel
theorem dX1_append_27 : decode cX1_append 27 = .ok (.iload_n 1, 1) := by decide +kernel
theorem dX1_append_28 : decode cX1_append 28 = .ok (.i2b, 1) := by decide +kernel
theorem dX1_append_29 : decode cX1_append 29 = .ok (.bastore, 1) := by decide +kernel
theorem dX1_append_30 : decode cX1_append 30 = .ok (.aload_n 0, 1) := by decide +kernel
theorem dX1_append_31 : decode cX1_append 31 = .ok (.dup, 1) := by decide +kernel
theorem dX1_append_32 : decode cX1_append 32 = .ok (.getfield 15, 3) := by decide +kernel
theorem dX1_append_35 : decode cX1_append 35 = .ok (.iconst 1, 1) := by decide +kernel
theorem dX1_append_36 : decode cX1_append 36 = .ok (.iadd, 1) := by decide +kernel
theorem dX1_append_37 : decode cX1_append 37 = .ok (.putfield 15, 3) := by decide +kernel
theorem dX1_append_40 : decode cX1_append 40 = .ok (.return_, 1) := by decide +kernel
theorem dX1_appendUpTo_0 : decode cX1_appendUpTo 0 = .ok (.iconst 0, 1) := by decide +kernel
theorem dX1_appendUpTo_1 : decode cX1_appendUpTo 1 = .ok (.istore_n 3, 1) := by decide +kernel
theorem dX1_appendUpTo_2 : decode cX1_appendUpTo 2 = .ok (.iload_n 3, 1) := by decide +kernel
theorem dX1_appendUpTo_3 : decode cX1_appendUpTo 3 = .ok (.aload_n 2, 1) := by decide +kernel
theorem dX1_appendUpTo_4 : decode cX1_appendUpTo 4 = .ok (.getfield 15, 3) := by decide +kernel
theorem dX1_appendUpTo_7 : decode cX1_appendUpTo 7 = .ok (.if_icmp .ge 26, 3) := by decide +kernel
theorem dX1_appendUpTo_10 : decode cX1_appendUpTo 10 = .ok (.aload_n 0, 1) := by decide +kernel
theorem dX1_appendUpTo_11 : decode cX1_appendUpTo 11 = .ok (.getfield 15, 3) := by decide +kernel
theorem dX1_appendUpTo_14 : decode cX1_appendUpTo 14 = .ok (.iload_n 1, 1) := by decide +kernel
theorem dX1_appendUpTo_15 : decode cX1_appendUpTo 15 = .ok (.if_icmp .ge 18, 3) := by decide +kernel
theorem dX1_appendUpTo_18 : decode cX1_appendUpTo 18 = .ok (.aload_n 0, 1) := by decide +kernel
theorem dX1_appendUpTo_19 : decode cX1_appendUpTo 19 = .ok (.aload_n 2, 1) := by decide +kernel
theorem dX1_appendUpTo_20 : decode cX1_appendUpTo 20 = .ok (.iload_n 3, 1) := by decide +kernel
theorem dX1_appendUpTo_21 : decode cX1_appendUpTo 21 = .ok (.invokevirtual 19, 3) := by decide +kernel
theorem dX1_appendUpTo_24 : decode cX1_appendUpTo 24 = .ok (.invokevirtual 23, 3) := by decide +kernel
theorem dX1_appendUpTo_27 : decode cX1_appendUpTo 27 = .ok (.iinc 3 1, 3) := by decide +kernel
theorem dX1_appendUpTo_30 : decode cX1_appendUpTo 30 = .ok (.goto (-28), 3) := by decide +kernel
theorem dX1_appendUpTo_33 : decode cX1_appendUpTo 33 = .ok (.return_, 1) := by decide +kernel
theorem dX1_become_0 : decode cX1_become 0 = .ok (.aload_n 0, 1) := by decide +kernel
theorem dX1_become_1 : decode cX1_become 1 = .ok (.invokevirtual 27, 3) := by decide +kernel
theorem dX1_become_4 : decode cX1_become 4 = .ok (.aload_n 0, 1) := by decide +kernel
theorem dX1_become_5 : decode cX1_become 5 = .ok (.aload_n 0, 1) := by decide +kernel
theorem dX1_become_6 : decode cX1_become 6 = .ok (.getfield 9, 3) := by decide +kernel
theorem dX1_become_9 : decode cX1_become 9 = .ok (.arraylength, 1) := by decide +kernel
theorem dX1_become_10 : decode cX1_become 10 = .ok (.aload_n 1, 1) := by decide +kernel
theorem dX1_become_11 : decode cX1_become 11 = .ok (.invokevirtual 30, 3) := by decide +kernel
theorem dX1_become_14 : decode cX1_become 14 = .ok (.return_, 1) := by decide +kernel
theorem dX1_xorWith_0 : decode cX1_xorWith 0 = .ok (.iconst 0, 1) := by decide +kernel
theorem dX1_xorWith_1 : decode cX1_xorWith 1 = .ok (.istore_n 2, 1) := by decide +kernel
theorem dX1_xorWith_2 : decode cX1_xorWith 2 = .ok (.iload_n 2, 1) := by decide +kernel
theorem dX1_xorWith_3 : decode cX1_xorWith 3 = .ok (.aload_n 0, 1) := by decide +kernel
theorem dX1_xorWith_4 : decode cX1_xorWith 4 = .ok (.getfield 15, 3) := by decide +kernel
theorem dX1_xorWith_7 : decode cX1_xorWith 7 = .ok (.if_icmp .ge 34, 3) := by decide +kernel
theorem dX1_xorWith_10 : decode cX1_xorWith 10 = .ok (.iload_n 2, 1) := by decide +kernel
theorem dX1_xorWith_11 : decode cX1_xorWith 11 = .ok (.aload_n 0, 1) := by decide +kernel
theorem dX1_xorWith_12 : decode cX1_xorWith 12 = .ok (.getfield 9, 3) := by decide +kernel
theorem dX1_xorWith_15 : decode cX1_xorWith 15 = .ok (.arraylength, 1) := by decide +kernel
theorem dX1_xorWith_16 : decode cX1_xorWith 16 = .ok (.if_icmp .ge 25, 3) := by decide +kernel
theorem dX1_xorWith_19 : decode cX1_xorWith 19 = .ok (.aload_n 0, 1) := by decide +kernel
theorem dX1_xorWith_20 : decode cX1_xorWith 20 = .ok (.getfield 9, 3) := by decide +kernel
theorem dX1_xorWith_23 : decode cX1_xorWith 23 = .ok (.iload_n 2, 1) := by decide +kernel
theorem dX1_xorWith_24 : decode cX1_xorWith 24 = .ok (.dup2, 1) := by decide +kernel
theorem dX1_xorWith_25 : decode cX1_xorWith 25 = .ok (.baload, 1) := by decide +kernel
theorem dX1_xorWith_26 : decode cX1_xorWith 26 = .ok (.aload_n 1, 1) := by decide +kernel
theorem dX1_xorWith_27 : decode cX1_xorWith 27 = .ok (.iload_n 2, 1) := by decide +kernel
theorem dX1_xorWith_28 : decode cX1_xorWith 28 = .ok (.invokevirtual 19, 3) := by decide +kernel
theorem dX1_xorWith_31 : decode cX1_xorWith 31 = .ok (.i2b, 1) := by decide +kernel
theorem dX1_xorWith_32 : decode cX1_xorWith 32 = .ok (.ixor, 1) := by decide +kernel
theorem dX1_xorWith_33 : decode cX1_xorWith 33 = .ok (.i2b, 1) := by decide +kernel
theorem dX1_xorWith_34 : decode cX1_xorWith 34 = .ok (.bastore, 1) := by decide +kernel
theorem dX1_xorWith_35 : decode cX1_xorWith 35 = .ok (.iinc 2 1, 3) := by decide +kernel
theorem dX1_xorWith_38 : decode cX1_xorWith 38 = .ok (.goto (-36), 3) := by decide +kernel
theorem dX1_xorWith_41 : decode cX1_xorWith 41 = .ok (.return_, 1) := by decide +kernel
theorem dX1_at_0 : decode cX1_at 0 = .ok (.iload_n 1, 1) := by decide +kernel
theorem dX1_at_1 : decode cX1_at 1 = .ok (.ifCond .lt 33, 3) := by decide +kernel
theorem dX1_at_4 : decode cX1_at 4 = .ok (.iload_n 1, 1) := by decide +kernel
theorem dX1_at_5 : decode cX1_at 5 = .ok (.aload_n 0, 1) := by decide +kernel
theorem dX1_at_6 : decode cX1_at 6 = .ok (.getfield 15, 3) := by decide +kernel
theorem dX1_at_9 : decode cX1_at 9 = .ok (.if_icmp .ge 25, 3) := by decide +kernel
theorem dX1_at_12 : decode cX1_at 12 = .ok (.iload_n 1, 1) := by decide +kernel
theorem dX1_at_13 : decode cX1_at 13 = .ok (.aload_n 0, 1) := by decide +kernel
theorem dX1_at_14 : decode cX1_at 14 = .ok (.getfield 9, 3) := by decide +kernel
theorem dX1_at_17 : decode cX1_at 17 = .ok (.arraylength, 1) := by decide +kernel
theorem dX1_at_18 : decode cX1_at 18 = .ok (.if_icmp .ge 16, 3) := by decide +kernel
theorem dX1_at_21 : decode cX1_at 21 = .ok (.aload_n 0, 1) := by decide +kernel
theorem dX1_at_22 : decode cX1_at 22 = .ok (.getfield 9, 3) := by decide +kernel
theorem dX1_at_25 : decode cX1_at 25 = .ok (.iload_n 1, 1) := by decide +kernel
theorem dX1_at_26 : decode cX1_at 26 = .ok (.baload, 1) := by decide +kernel
theorem dX1_at_27 : decode cX1_at 27 = .ok (.sipush 255, 3) := by decide +kernel
theorem dX1_at_30 : decode cX1_at 30 = .ok (.iand, 1) := by decide +kernel
theorem dX1_at_31 : decode cX1_at 31 = .ok (.goto 4, 3) := by decide +kernel
theorem dX1_at_34 : decode cX1_at 34 = .ok (.iconst (-1), 1) := by decide +kernel
theorem dX1_at_35 : decode cX1_at 35 = .ok (.ireturn, 1) := by decide +kernel
theorem dX1_atOrZero_0 : decode cX1_atOrZero 0 = .ok (.aload_n 0, 1) := by decide +kernel
theorem dX1_atOrZero_1 : decode cX1_atOrZero 1 = .ok (.iload_n 1, 1) := by decide +kernel
theorem dX1_atOrZero_2 : decode cX1_atOrZero 2 = .ok (.invokevirtual 34, 3) := by decide +kernel
theorem dX1_atOrZero_5 : decode cX1_atOrZero 5 = .ok (.iconst 0, 1) := by decide +kernel
theorem dX1_atOrZero_6 : decode cX1_atOrZero 6 = .ok (.invokestatic 37, 3) := by decide +kernel
theorem dX1_atOrZero_9 : decode cX1_atOrZero 9 = .ok (.ireturn, 1) := by decide +kernel
theorem dX1_sameAs_0 : decode cX1_sameAs 0 = .ok (.aload_n 0, 1) := by decide +kernel
theorem dX1_sameAs_1 : decode cX1_sameAs 1 = .ok (.getfield 15, 3) := by decide +kernel
theorem dX1_sameAs_4 : decode cX1_sameAs 4 = .ok (.aload_n 1, 1) := by decide +kernel
theorem dX1_sameAs_5 : decode cX1_sameAs 5 = .ok (.getfield 15, 3) := by decide +kernel
theorem dX1_sameAs_8 : decode cX1_sameAs 8 = .ok (.if_icmp .eq 5, 3) := by decide +kernel
theorem dX1_sameAs_11 : decode cX1_sameAs 11 = .ok (.iconst 0, 1) := by decide +kernel
theorem dX1_sameAs_12 : decode cX1_sameAs 12 = .ok (.ireturn, 1) := by decide +kernel
theorem dX1_sameAs_13 : decode cX1_sameAs 13 = .ok (.iconst 0, 1) := by decide +kernel
theorem dX1_sameAs_14 : decode cX1_sameAs 14 = .ok (.istore_n 2, 1) := by decide +kernel
theorem dX1_sameAs_15 : decode cX1_sameAs 15 = .ok (.iload_n 2, 1) := by decide +kernel
theorem dX1_sameAs_16 : decode cX1_sameAs 16 = .ok (.aload_n 0, 1) := by decide +kernel
theorem dX1_sameAs_17 : decode cX1_sameAs 17 = .ok (.getfield 15, 3) := by decide +kernel
theorem dX1_sameAs_20 : decode cX1_sameAs 20 = .ok (.if_icmp .ge 24, 3) := by decide +kernel
theorem dX1_sameAs_23 : decode cX1_sameAs 23 = .ok (.aload_n 0, 1) := by decide +kernel
theorem dX1_sameAs_24 : decode cX1_sameAs 24 = .ok (.iload_n 2, 1) := by decide +kernel
theorem dX1_sameAs_25 : decode cX1_sameAs 25 = .ok (.invokevirtual 34, 3) := by decide +kernel
theorem dX1_sameAs_28 : decode cX1_sameAs 28 = .ok (.aload_n 1, 1) := by decide +kernel
theorem dX1_sameAs_29 : decode cX1_sameAs 29 = .ok (.iload_n 2, 1) := by decide +kernel
theorem dX1_sameAs_30 : decode cX1_sameAs 30 = .ok (.invokevirtual 34, 3) := by decide +kernel
theorem dX1_sameAs_33 : decode cX1_sameAs 33 = .ok (.if_icmp .eq 5, 3) := by decide +kernel
theorem dX1_sameAs_36 : decode cX1_sameAs 36 = .ok (.iconst 0, 1) := by decide +kernel
theorem dX1_sameAs_37 : decode cX1_sameAs 37 = .ok (.ireturn, 1) := by decide +kernel
theorem dX1_sameAs_38 : decode cX1_sameAs 38 = .ok (.iinc 2 1, 3) := by decide +kernel
theorem dX1_sameAs_41 : decode cX1_sameAs 41 = .ok (.goto (-26), 3) := by decide +kernel
theorem dX1_sameAs_44 : decode cX1_sameAs 44 = .ok (.iconst 1, 1) := by decide +kernel
theorem dX1_sameAs_45 : decode cX1_sameAs 45 = .ok (.ireturn, 1) := by decide +kernel
theorem dX2_init_0 : decode cX2_init 0 = .ok (.aload_n 0, 1) := by decide +kernel
theorem dX2_init_1 : decode cX2_init 1 = .ok (.invokespecial 3, 3) := by decide +kernel
theorem dX2_init_4 : decode cX2_init 4 = .ok (.aload_n 0, 1) := by decide +kernel
theorem dX2_init_5 : decode cX2_init 5 = .ok (.new 9, 3) := by decide +kernel
theorem dX2_init_8 : decode cX2_init 8 = .ok (.dup, 1) := by decide +kernel
theorem dX2_init_9 : decode cX2_init 9 = .ok (.invokespecial 11, 3) := by decide +kernel
theorem dX2_init_12 : decode cX2_init 12 = .ok (.putfield 12, 3) := by decide +kernel
theorem dX2_init_15 : decode cX2_init 15 = .ok (.aload_n 0, 1) := by decide +kernel
theorem dX2_init_16 : decode cX2_init 16 = .ok (.new 18, 3) := by decide +kernel
theorem dX2_init_19 : decode cX2_init 19 = .ok (.dup, 1) := by decide +kernel
theorem dX2_init_20 : decode cX2_init 20 = .ok (.sipush 128, 3) := by decide +kernel
theorem dX2_init_23 : decode cX2_init 23 = .ok (.invokespecial 20, 3) := by decide +kernel
theorem dX2_init_26 : decode cX2_init 26 = .ok (.putfield 23, 3) := by decide +kernel
theorem dX2_init_29 : decode cX2_init 29 = .ok (.aload_n 0, 1) := by decide +kernel
theorem dX2_init_30 : decode cX2_init 30 = .ok (.bipush 8, 2) := by decide +kernel
theorem dX2_init_32 : decode cX2_init 32 = .ok (.newarray .long, 2) := by decide +kernel
theorem dX2_init_34 : decode cX2_init 34 = .ok (.putfield 27, 3) := by decide +kernel
theorem dX2_init_37 : decode cX2_init 37 = .ok (.aload_n 0, 1) := by decide +kernel
theorem dX2_init_38 : decode cX2_init 38 = .ok (.bipush 8, 2) := by decide +kernel
theorem dX2_init_40 : decode cX2_init 40 = .ok (.newarray .long, 2) := by decide +kernel
theorem dX2_init_42 : decode cX2_init 42 = .ok (.putfield 31, 3) := by decide +kernel
theorem dX2_init_45 : decode cX2_init 45 = .ok (.aload_n 0, 1) := by decide +kernel
theorem dX2_init_46 : decode cX2_init 46 = .ok (.iconst (-1), 1) := by decide +kernel
theorem dX2_init_47 : decode cX2_init 47 = .ok (.putfield 34, 3) := by decide +kernel
theorem dX2_init_50 : decode cX2_init 50 = .ok (.return_, 1) := by decide +kernel
theorem dX2_startDigest_0 : decode cX2_startDigest 0 = .ok (.aload_n 0, 1) := by decide +kernel
theorem dX2_startDigest_1 : decode cX2_startDigest 1 = .ok (.iload_n 1, 1) := by decide +kernel
theorem dX2_startDigest_2 : decode cX2_startDigest 2 = .ok (.putfield 34, 3) := by decide +kernel
theorem dX2_startDigest_5 : decode cX2_startDigest 5 = .ok (.aload_n 0, 1) := by decide +kernel
theorem dX2_startDigest_6 : decode cX2_startDigest 6 = .ok (.iconst 0, 1) := by decide +kernel
theorem dX2_startDigest_7 : decode cX2_startDigest 7 = .ok (.putfield 38, 3) := by decide +kernel
theorem dX2_startDigest_10 : decode cX2_startDigest 10 = .ok (.aload_n 0, 1) := by decide +kernel
theorem dX2_startDigest_11 : decode cX2_startDigest 11 = .ok (.iconst 0, 1) := by decide +kernel
theorem dX2_startDigest_12 : decode cX2_startDigest 12 = .ok (.putfield 42, 3) := by decide +kernel
theorem dX2_startDigest_15 : decode cX2_startDigest 15 = .ok (.aload_n 0, 1) := by decide +kernel
theorem dX2_startDigest_16 : decode cX2_startDigest 16 = .ok (.lconst 0, 1) := by decide +kernel
theorem dX2_startDigest_17 : decode cX2_startDigest 17 = .ok (.putfield 45, 3) := by decide +kernel
theorem dX2_startDigest_20 : decode cX2_startDigest 20 = .ok (.aload_n 0, 1) := by decide +kernel
theorem dX2_startDigest_21 : decode cX2_startDigest 21 = .ok (.getfield 12, 3) := by decide +kernel
theorem dX2_startDigest_24 : decode cX2_startDigest 24 = .ok (.iload_n 1, 1) := by decide +kernel
theorem dX2_startDigest_25 : decode cX2_startDigest 25 = .ok (.invokevirtual 49, 3) := by decide +kernel
theorem dX2_startDigest_28 : decode cX2_startDigest 28 = .ok (.return_, 1) := by decide +kernel
theorem dX2_startCode_0 : decode cX2_startCode 0 = .ok (.aload_n 0, 1) := by decide +kernel
theorem dX2_startCode_1 : decode cX2_startCode 1 = .ok (.iload_n 1, 1) := by decide +kernel
theorem dX2_startCode_2 : decode cX2_startCode 2 = .ok (.invokevirtual 52, 3) := by decide +kernel
theorem dX2_startCode_5 : decode cX2_startCode 5 = .ok (.aload_n 0, 1) := by decide +kernel
theorem dX2_startCode_6 : decode cX2_startCode 6 = .ok (.iconst 1, 1) := by decide +kernel
theorem dX2_startCode_7 : decode cX2_startCode 7 = .ok (.putfield 38, 3) := by decide +kernel
theorem dX2_startCode_10 : decode cX2_startCode 10 = .ok (.aload_n 2, 1) := by decide +kernel
theorem dX2_startCode_11 : decode cX2_startCode 11 = .ok (.getfield 55, 3) := by decide +kernel
theorem dX2_startCode_14 : decode cX2_startCode 14 = .ok (.iload_n 1, 1) := by decide +kernel
theorem dX2_startCode_15 : decode cX2_startCode 15 = .ok (.invokestatic 58, 3) := by decide +kernel
theorem dX2_startCode_18 : decode cX2_startCode 18 = .ok (.if_icmp .le 32, 3) := by decide +kernel
theorem dX2_startCode_21 : decode cX2_startCode 21 = .ok (.aload_n 0, 1) := by decide +kernel
theorem dX2_startCode_22 : decode cX2_startCode 22 = .ok (.getfield 12, 3) := by decide +kernel
theorem dX2_startCode_25 : decode cX2_startCode 25 = .ok (.aload_n 2, 1) := by decide +kernel
theorem dX2_startCode_26 : decode cX2_startCode 26 = .ok (.invokevirtual 62, 3) := by decide +kernel
theorem dX2_startCode_29 : decode cX2_startCode 29 = .ok (.aload_n 0, 1) := by decide +kernel
theorem dX2_startCode_30 : decode cX2_startCode 30 = .ok (.getfield 12, 3) := by decide +kernel
theorem dX2_startCode_33 : decode cX2_startCode 33 = .ok (.invokevirtual 66, 3) := by decide +kernel
theorem dX2_startCode_36 : decode cX2_startCode 36 = .ok (.aload_n 0, 1) := by decide +kernel
theorem dX2_startCode_37 : decode cX2_startCode 37 = .ok (.getfield 12, 3) := by decide +kernel
theorem dX2_startCode_40 : decode cX2_startCode 40 = .ok (.aload_n 0, 1) := by decide +kernel
theorem dX2_startCode_41 : decode cX2_startCode 41 = .ok (.getfield 23, 3) := by decide +kernel
theorem dX2_startCode_44 : decode cX2_startCode 44 = .ok (.invokevirtual 69, 3) := by decide +kernel
theorem dX2_startCode_47 : decode cX2_startCode 47 = .ok (.goto 11, 3) := by decide +kernel
theorem dX2_startCode_50 : decode cX2_startCode 50 = .ok (.aload_n 0, 1) := by decide +kernel
theorem dX2_startCode_51 : decode cX2_startCode 51 = .ok (.getfield 23, 3) := by decide +kernel
theorem dX2_startCode_54 : decode cX2_startCode 54 = .ok (.aload_n 2, 1) := by decide +kernel
theorem dX2_startCode_55 : decode cX2_startCode 55 = .ok (.invokevirtual 72, 3) := by decide +kernel
theorem dX2_startCode_58 : decode cX2_startCode 58 = .ok (.aload_n 0, 1) := by decide +kernel
theorem dX2_startCode_59 : decode cX2_startCode 59 = .ok (.bipush 54, 2) := by decide +kernel
theorem dX2_startCode_61 : decode cX2_startCode 61 = .ok (.aload_n 0, 1) := by decide +kernel
theorem dX2_startCode_62 : decode cX2_startCode 62 = .ok (.getfield 27, 3) := by decide +kernel
theorem dX2_startCode_65 : decode cX2_startCode 65 = .ok (.invokevirtual 75, 3) := by decide +kernel
theorem dX2_startCode_68 : decode cX2_startCode 68 = .ok (.aload_n 0, 1) := by decide +kernel
theorem dX2_startCode_69 : decode cX2_startCode 69 = .ok (.bipush 92, 2) := by decide +kernel
theorem dX2_startCode_71 : decode cX2_startCode 71 = .ok (.aload_n 0, 1) := by decide +kernel
theorem dX2_startCode_72 : decode cX2_startCode 72 = .ok (.getfield 31, 3) := by decide +kernel
theorem dX2_startCode_75 : decode cX2_startCode 75 = .ok (.invokevirtual 75, 3) := by decide +kernel
theorem dX2_startCode_78 : decode cX2_startCode 78 = .ok (.aload_n 0, 1) := by decide +kernel
theorem dX2_startCode_79 : decode cX2_startCode 79 = .ok (.invokevirtual 79, 3) := by decide +kernel
theorem dX2_startCode_82 : decode cX2_startCode 82 = .ok (.return_, 1) := by decide +kernel
theorem dX2_startFromKey_0 : decode cX2_startFromKey 0 = .ok (.aload_n 0, 1) := by decide +kernel
theorem dX2_startFromKey_1 : decode cX2_startFromKey 1 = .ok (.getfield 12, 3) := by decide +kernel
theorem dX2_startFromKey_4 : decode cX2_startFromKey 4 = .ok (.aload_n 0, 1) := by decide +kernel
theorem dX2_startFromKey_5 : decode cX2_startFromKey 5 = .ok (.getfield 34, 3) := by decide +kernel
theorem dX2_startFromKey_8 : decode cX2_startFromKey 8 = .ok (.invokevirtual 49, 3) := by decide +kernel
theorem dX2_startFromKey_11 : decode cX2_startFromKey 11 = .ok (.iconst 0, 1) := by decide +kernel
theorem dX2_startFromKey_12 : decode cX2_startFromKey 12 = .ok (.istore_n 3, 1) := by decide +kernel
theorem dX2_startFromKey_13 : decode cX2_startFromKey 13 = .ok (.iload_n 3, 1) := by decide +kernel
theorem dX2_startFromKey_14 : decode cX2_startFromKey 14 = .ok (.aload_n 0, 1) := by decide +kernel
theorem dX2_startFromKey_15 : decode cX2_startFromKey 15 = .ok (.getfield 34, 3) := by decide +kernel
theorem dX2_startFromKey_18 : decode cX2_startFromKey 18 = .ok (.invokestatic 58, 3) := by decide +kernel
theorem dX2_startFromKey_21 : decode cX2_startFromKey 21 = .ok (.if_icmp .ge 26, 3) := by decide +kernel
theorem dX2_startFromKey_24 : decode cX2_startFromKey 24 = .ok (.aload_n 0, 1) := by decide +kernel
theorem dX2_startFromKey_25 : decode cX2_startFromKey 25 = .ok (.getfield 12, 3) := by decide +kernel
theorem dX2_startFromKey_28 : decode cX2_startFromKey 28 = .ok (.aload_n 0, 1) := by decide +kernel
theorem dX2_startFromKey_29 : decode cX2_startFromKey 29 = .ok (.getfield 23, 3) := by decide +kernel
theorem dX2_startFromKey_32 : decode cX2_startFromKey 32 = .ok (.iload_n 3, 1) := by decide +kernel
theorem dX2_startFromKey_33 : decode cX2_startFromKey 33 = .ok (.invokevirtual 82, 3) := by decide +kernel
theorem dX2_startFromKey_36 : decode cX2_startFromKey 36 = .ok (.iload_n 1, 1) := by decide +kernel
theorem dX2_startFromKey_37 : decode cX2_startFromKey 37 = .ok (.ixor, 1) := by decide +kernel
theorem dX2_startFromKey_38 : decode cX2_startFromKey 38 = .ok (.invokevirtual 85, 3) := by decide +kernel
theorem dX2_startFromKey_41 : decode cX2_startFromKey 41 = .ok (.iinc 3 1, 3) := by decide +kernel
theorem dX2_startFromKey_44 : decode cX2_startFromKey 44 = .ok (.goto (-31), 3) := by decide +kernel
theorem dX2_startFromKey_47 : decode cX2_startFromKey 47 = .ok (.aload_n 0, 1) := by decide +kernel
theorem dX2_startFromKey_48 : decode cX2_startFromKey 48 = .ok (.getfield 12, 3) := by decide +kernel
theorem dX2_startFromKey_51 : decode cX2_startFromKey 51 = .ok (.aload_n 2, 1) := by decide +kernel
theorem dX2_startFromKey_52 : decode cX2_startFromKey 52 = .ok (.invokevirtual 88, 3) := by decide +kernel
theorem dX2_startFromKey_55 : decode cX2_startFromKey 55 = .ok (.return_, 1) := by decide +kernel
theorem dX2_restartCode_0 : decode cX2_restartCode 0 = .ok (.aload_n 0, 1) := by decide +kernel
theorem dX2_restartCode_1 : decode cX2_restartCode 1 = .ok (.iconst 0, 1) := by decide +kernel
theorem dX2_restartCode_2 : decode cX2_restartCode 2 = .ok (.putfield 42, 3) := by decide +kernel
theorem dX2_restartCode_5 : decode cX2_restartCode 5 = .ok (.aload_n 0, 1) := by decide +kernel
theorem dX2_restartCode_6 : decode cX2_restartCode 6 = .ok (.lconst 0, 1) := by decide +kernel
theorem dX2_restartCode_7 : decode cX2_restartCode 7 = .ok (.putfield 45, 3) := by decide +kernel
theorem dX2_restartCode_10 : decode cX2_restartCode 10 = .ok (.aload_n 0, 1) := by decide +kernel
theorem dX2_restartCode_11 : decode cX2_restartCode 11 = .ok (.getfield 12, 3) := by decide +kernel
theorem dX2_restartCode_14 : decode cX2_restartCode 14 = .ok (.aload_n 0, 1) := by decide +kernel
theorem dX2_restartCode_15 : decode cX2_restartCode 15 = .ok (.getfield 34, 3) := by decide +kernel
theorem dX2_restartCode_18 : decode cX2_restartCode 18 = .ok (.aload_n 0, 1) := by decide +kernel
theorem dX2_restartCode_19 : decode cX2_restartCode 19 = .ok (.getfield 27, 3) := by decide +kernel
theorem dX2_restartCode_22 : decode cX2_restartCode 22 = .ok (.invokevirtual 92, 3) := by decide +kernel
theorem dX2_restartCode_25 : decode cX2_restartCode 25 = .ok (.return_, 1) := by decide +kernel
theorem dX2_addOctet_0 : decode cX2_addOctet 0 = .ok (.aload_n 0, 1) := by decide +kernel
theorem dX2_addOctet_1 : decode cX2_addOctet 1 = .ok (.getfield 12, 3) := by decide +kernel
theorem dX2_addOctet_4 : decode cX2_addOctet 4 = .ok (.iload_n 1, 1) := by decide +kernel
theorem dX2_addOctet_5 : decode cX2_addOctet 5 = .ok (.invokevirtual 85, 3) := by decide +kernel
theorem dX2_addOctet_8 : decode cX2_addOctet 8 = .ok (.aload_n 0, 1) := by decide +kernel
theorem dX2_addOctet_9 : decode cX2_addOctet 9 = .ok (.dup, 1) := by decide +kernel
theorem dX2_addOctet_10 : decode cX2_addOctet 10 = .ok (.getfield 45, 3) := by decide +kernel
theorem dX2_addOctet_13 : decode cX2_addOctet 13 = .ok (.lconst 1, 1) := by decide +kernel
theorem dX2_addOctet_14 : decode cX2_addOctet 14 = .ok (.ladd, 1) := by decide +kernel
theorem dX2_addOctet_15 : decode cX2_addOctet 15 = .ok (.putfield 45, 3) := by decide +kernel
theorem dX2_addOctet_18 : decode cX2_addOctet 18 = .ok (.return_, 1) := by decide +kernel
theorem dX2_addRow_0 : decode cX2_addRow 0 = .ok (.aload_n 0, 1) := by decide +kernel
theorem dX2_addRow_1 : decode cX2_addRow 1 = .ok (.getfield 12, 3) := by decide +kernel
theorem dX2_addRow_4 : decode cX2_addRow 4 = .ok (.aload_n 1, 1) := by decide +kernel
theorem dX2_addRow_5 : decode cX2_addRow 5 = .ok (.invokevirtual 62, 3) := by decide +kernel
theorem dX2_addRow_8 : decode cX2_addRow 8 = .ok (.aload_n 0, 1) := by decide +kernel
theorem dX2_addRow_9 : decode cX2_addRow 9 = .ok (.dup, 1) := by decide +kernel
theorem dX2_addRow_10 : decode cX2_addRow 10 = .ok (.getfield 45, 3) := by decide +kernel
theorem dX2_addRow_13 : decode cX2_addRow 13 = .ok (.aload_n 1, 1) := by decide +kernel
theorem dX2_addRow_14 : decode cX2_addRow 14 = .ok (.getfield 55, 3) := by decide +kernel
theorem dX2_addRow_17 : decode cX2_addRow 17 = .ok (.i2l, 1) := by decide +kernel
theorem dX2_addRow_18 : decode cX2_addRow 18 = .ok (.ladd, 1) := by decide +kernel
theorem dX2_addRow_19 : decode cX2_addRow 19 = .ok (.putfield 45, 3) := by decide +kernel
theorem dX2_addRow_22 : decode cX2_addRow 22 = .ok (.return_, 1) := by decide +kernel
theorem dX2_closeInto_0 : decode cX2_closeInto 0 = .ok (.aload_n 0, 1) := by decide +kernel
theorem dX2_closeInto_1 : decode cX2_closeInto 1 = .ok (.iconst 1, 1) := by decide +kernel
theorem dX2_closeInto_2 : decode cX2_closeInto 2 = .ok (.putfield 42, 3) := by decide +kernel
theorem dX2_closeInto_5 : decode cX2_closeInto 5 = .ok (.aload_n 0, 1) := by decide +kernel
theorem dX2_closeInto_6 : decode cX2_closeInto 6 = .ok (.getfield 12, 3) := by decide +kernel
theorem dX2_closeInto_9 : decode cX2_closeInto 9 = .ok (.invokevirtual 66, 3) := by decide +kernel
theorem dX2_closeInto_12 : decode cX2_closeInto 12 = .ok (.aload_n 0, 1) := by decide +kernel
theorem dX2_closeInto_13 : decode cX2_closeInto 13 = .ok (.getfield 38, 3) := by decide +kernel
theorem dX2_closeInto_16 : decode cX2_closeInto 16 = .ok (.ifCond .eq 47, 3) := by decide +kernel
theorem dX2_closeInto_19 : decode cX2_closeInto 19 = .ok (.aload_n 0, 1) := by decide +kernel
theorem dX2_closeInto_20 : decode cX2_closeInto 20 = .ok (.getfield 12, 3) := by decide +kernel
theorem dX2_closeInto_23 : decode cX2_closeInto 23 = .ok (.aload_n 0, 1) := by decide +kernel
theorem dX2_closeInto_24 : decode cX2_closeInto 24 = .ok (.getfield 23, 3) := by decide +kernel
theorem dX2_closeInto_27 : decode cX2_closeInto 27 = .ok (.invokevirtual 69, 3) := by decide +kernel
theorem dX2_closeInto_30 : decode cX2_closeInto 30 = .ok (.aload_n 0, 1) := by decide +kernel
theorem dX2_closeInto_31 : decode cX2_closeInto 31 = .ok (.getfield 12, 3) := by decide +kernel
theorem dX2_closeInto_34 : decode cX2_closeInto 34 = .ok (.aload_n 0, 1) := by decide +kernel
theorem dX2_closeInto_35 : decode cX2_closeInto 35 = .ok (.getfield 34, 3) := by decide +kernel
theorem dX2_closeInto_38 : decode cX2_closeInto 38 = .ok (.aload_n 0, 1) := by decide +kernel
theorem dX2_closeInto_39 : decode cX2_closeInto 39 = .ok (.getfield 31, 3) := by decide +kernel
theorem dX2_closeInto_42 : decode cX2_closeInto 42 = .ok (.invokevirtual 92, 3) := by decide +kernel
theorem dX2_closeInto_45 : decode cX2_closeInto 45 = .ok (.aload_n 0, 1) := by decide +kernel
theorem dX2_closeInto_46 : decode cX2_closeInto 46 = .ok (.getfield 12, 3) := by decide +kernel
theorem dX2_closeInto_49 : decode cX2_closeInto 49 = .ok (.aload_n 0, 1) := by decide +kernel
theorem dX2_closeInto_50 : decode cX2_closeInto 50 = .ok (.getfield 23, 3) := by decide +kernel
theorem dX2_closeInto_53 : decode cX2_closeInto 53 = .ok (.invokevirtual 62, 3) := by decide +kernel
theorem dX2_closeInto_56 : decode cX2_closeInto 56 = .ok (.aload_n 0, 1) := by decide +kernel
theorem dX2_closeInto_57 : decode cX2_closeInto 57 = .ok (.getfield 12, 3) := by decide +kernel
theorem dX2_closeInto_60 : decode cX2_closeInto 60 = .ok (.invokevirtual 66, 3) := by decide +kernel
theorem dX2_closeInto_63 : decode cX2_closeInto 63 = .ok (.aload_n 0, 1) := by decide +kernel
theorem dX2_closeInto_64 : decode cX2_closeInto 64 = .ok (.getfield 12, 3) := by decide +kernel
theorem dX2_closeInto_67 : decode cX2_closeInto 67 = .ok (.aload_n 1, 1) := by decide +kernel
theorem dX2_closeInto_68 : decode cX2_closeInto 68 = .ok (.invokevirtual 69, 3) := by decide +kernel
theorem dX2_closeInto_71 : decode cX2_closeInto 71 = .ok (.return_, 1) := by decide +kernel
theorem dX2_loose_0 : decode cX2_loose 0 = .ok (.aload_n 0, 1) := by decide +kernel
theorem dX2_loose_1 : decode cX2_loose 1 = .ok (.getfield 45, 3) := by decide +kernel
theorem dX2_loose_4 : decode cX2_loose 4 = .ok (.aload_n 0, 1) := by decide +kernel
theorem dX2_loose_5 : decode cX2_loose 5 = .ok (.getfield 34, 3) := by decide +kernel
theorem dX2_loose_8 : decode cX2_loose 8 = .ok (.invokestatic 58, 3) := by decide +kernel
theorem dX2_loose_11 : decode cX2_loose 11 = .ok (.iconst 1, 1) := by decide +kernel
theorem dX2_loose_12 : decode cX2_loose 12 = .ok (.isub, 1) := by decide +kernel
theorem dX2_loose_13 : decode cX2_loose 13 = .ok (.i2l, 1) := by decide +kernel
theorem dX2_loose_14 : decode cX2_loose 14 = .ok (.land, 1) := by decide +kernel
theorem dX2_loose_15 : decode cX2_loose 15 = .ok (.l2i, 1) := by decide +kernel
theorem dX2_loose_16 : decode cX2_loose 16 = .ok (.ireturn, 1) := by decide +kernel
theorem dX2_become_0 : decode cX2_become 0 = .ok (.aload_n 0, 1) := by decide +kernel
theorem dX2_become_1 : decode cX2_become 1 = .ok (.aload_n 1, 1) := by decide +kernel
theorem dX2_become_2 : decode cX2_become 2 = .ok (.getfield 34, 3) := by decide +kernel
theorem dX2_become_5 : decode cX2_become 5 = .ok (.putfield 34, 3) := by decide +kernel
theorem dX2_become_8 : decode cX2_become 8 = .ok (.aload_n 0, 1) := by decide +kernel
theorem dX2_become_9 : decode cX2_become 9 = .ok (.aload_n 1, 1) := by decide +kernel
theorem dX2_become_10 : decode cX2_become 10 = .ok (.getfield 38, 3) := by decide +kernel
theorem dX2_become_13 : decode cX2_become 13 = .ok (.putfield 38, 3) := by decide +kernel
theorem dX2_become_16 : decode cX2_become 16 = .ok (.aload_n 0, 1) := by decide +kernel
theorem dX2_become_17 : decode cX2_become 17 = .ok (.aload_n 1, 1) := by decide +kernel
theorem dX2_become_18 : decode cX2_become 18 = .ok (.getfield 42, 3) := by decide +kernel
theorem dX2_become_21 : decode cX2_become 21 = .ok (.putfield 42, 3) := by decide +kernel
theorem dX2_become_24 : decode cX2_become 24 = .ok (.aload_n 0, 1) := by decide +kernel
theorem dX2_become_25 : decode cX2_become 25 = .ok (.aload_n 1, 1) := by decide +kernel
theorem dX2_become_26 : decode cX2_become 26 = .ok (.getfield 45, 3) := by decide +kernel
theorem dX2_become_29 : decode cX2_become 29 = .ok (.putfield 45, 3) := by decide +kernel
theorem dX2_become_32 : decode cX2_become 32 = .ok (.aload_n 0, 1) := by decide +kernel
theorem dX2_become_33 : decode cX2_become 33 = .ok (.getfield 12, 3) := by decide +kernel
theorem dX2_become_36 : decode cX2_become 36 = .ok (.aload_n 1, 1) := by decide +kernel
theorem dX2_become_37 : decode cX2_become 37 = .ok (.getfield 12, 3) := by decide +kernel
theorem dX2_become_40 : decode cX2_become 40 = .ok (.invokevirtual 95, 3) := by decide +kernel
theorem dX2_become_43 : decode cX2_become 43 = .ok (.aload_n 1, 1) := by decide +kernel
theorem dX2_become_44 : decode cX2_become 44 = .ok (.getfield 27, 3) := by decide +kernel
theorem dX2_become_47 : decode cX2_become 47 = .ok (.iconst 0, 1) := by decide +kernel
theorem dX2_become_48 : decode cX2_become 48 = .ok (.aload_n 0, 1) := by decide +kernel
theorem dX2_become_49 : decode cX2_become 49 = .ok (.getfield 27, 3) := by decide +kernel
theorem dX2_become_52 : decode cX2_become 52 = .ok (.iconst 0, 1) := by decide +kernel
theorem dX2_become_53 : decode cX2_become 53 = .ok (.bipush 8, 2) := by decide +kernel
theorem dX2_become_55 : decode cX2_become 55 = .ok (.invokestatic 98, 3) := by decide +kernel
theorem dX2_become_58 : decode cX2_become 58 = .ok (.aload_n 1, 1) := by decide +kernel
theorem dX2_become_59 : decode cX2_become 59 = .ok (.getfield 31, 3) := by decide +kernel
theorem dX2_become_62 : decode cX2_become 62 = .ok (.iconst 0, 1) := by decide +kernel
theorem dX2_become_63 : decode cX2_become 63 = .ok (.aload_n 0, 1) := by decide +kernel
theorem dX2_become_64 : decode cX2_become 64 = .ok (.getfield 31, 3) := by decide +kernel
theorem dX2_become_67 : decode cX2_become 67 = .ok (.iconst 0, 1) := by decide +kernel
theorem dX2_become_68 : decode cX2_become 68 = .ok (.bipush 8, 2) := by decide +kernel
theorem dX2_become_70 : decode cX2_become 70 = .ok (.invokestatic 98, 3) := by decide +kernel
theorem dX2_become_73 : decode cX2_become 73 = .ok (.return_, 1) := by decide +kernel
theorem dX3_init_0 : decode cX3_init 0 = .ok (.aload_n 0, 1) := by decide +kernel
theorem dX3_init_1 : decode cX3_init 1 = .ok (.invokespecial 1, 3) := by decide +kernel
theorem dX3_init_4 : decode cX3_init 4 = .ok (.aload_n 0, 1) := by decide +kernel
theorem dX3_init_5 : decode cX3_init 5 = .ok (.new 7, 3) := by decide +kernel
theorem dX3_init_8 : decode cX3_init 8 = .ok (.dup, 1) := by decide +kernel
theorem dX3_init_9 : decode cX3_init 9 = .ok (.sipush 600, 3) := by decide +kernel
theorem dX3_init_12 : decode cX3_init 12 = .ok (.invokespecial 11, 3) := by decide +kernel
theorem dX3_init_15 : decode cX3_init 15 = .ok (.putfield 14, 3) := by decide +kernel
theorem dX3_init_18 : decode cX3_init 18 = .ok (.aload_n 0, 1) := by decide +kernel
theorem dX3_init_19 : decode cX3_init 19 = .ok (.new 7, 3) := by decide +kernel
theorem dX3_init_22 : decode cX3_init 22 = .ok (.dup, 1) := by decide +kernel
theorem dX3_init_23 : decode cX3_init 23 = .ok (.sipush 16320, 3) := by decide +kernel
theorem dX3_init_26 : decode cX3_init 26 = .ok (.invokespecial 11, 3) := by decide +kernel
theorem dX3_init_29 : decode cX3_init 29 = .ok (.putfield 18, 3) := by decide +kernel
theorem dX3_init_32 : decode cX3_init 32 = .ok (.aload_n 0, 1) := by decide +kernel
theorem dX3_init_33 : decode cX3_init 33 = .ok (.iconst 3, 1) := by decide +kernel
theorem dX3_init_34 : decode cX3_init 34 = .ok (.anewarray 7, 3) := by decide +kernel
theorem dX3_init_37 : decode cX3_init 37 = .ok (.putfield 21, 3) := by decide +kernel
theorem dX3_init_40 : decode cX3_init 40 = .ok (.aload_n 0, 1) := by decide +kernel
theorem dX3_init_41 : decode cX3_init 41 = .ok (.iconst 4, 1) := by decide +kernel
theorem dX3_init_42 : decode cX3_init 42 = .ok (.anewarray 25, 3) := by decide +kernel
theorem dX3_init_45 : decode cX3_init 45 = .ok (.putfield 27, 3) := by decide +kernel
theorem dX3_init_48 : decode cX3_init 48 = .ok (.aload_n 0, 1) := by decide +kernel
theorem dX3_init_49 : decode cX3_init 49 = .ok (.new 25, 3) := by decide +kernel
theorem dX3_init_52 : decode cX3_init 52 = .ok (.dup, 1) := by decide +kernel
theorem dX3_init_53 : decode cX3_init 53 = .ok (.invokespecial 31, 3) := by decide +kernel
theorem dX3_init_56 : decode cX3_init 56 = .ok (.putfield 32, 3) := by decide +kernel
theorem dX3_init_59 : decode cX3_init 59 = .ok (.aload_n 0, 1) := by decide +kernel
theorem dX3_init_60 : decode cX3_init 60 = .ok (.new 7, 3) := by decide +kernel
theorem dX3_init_63 : decode cX3_init 63 = .ok (.dup, 1) := by decide +kernel
theorem dX3_init_64 : decode cX3_init 64 = .ok (.bipush 64, 2) := by decide +kernel
theorem dX3_init_66 : decode cX3_init 66 = .ok (.invokespecial 11, 3) := by decide +kernel
theorem dX3_init_69 : decode cX3_init 69 = .ok (.putfield 36, 3) := by decide +kernel
theorem dX3_init_72 : decode cX3_init 72 = .ok (.aload_n 0, 1) := by decide +kernel
theorem dX3_init_73 : decode cX3_init 73 = .ok (.new 7, 3) := by decide +kernel
theorem dX3_init_76 : decode cX3_init 76 = .ok (.dup, 1) := by decide +kernel
theorem dX3_init_77 : decode cX3_init 77 = .ok (.bipush 64, 2) := by decide +kernel
theorem dX3_init_79 : decode cX3_init 79 = .ok (.invokespecial 11, 3) := by decide +kernel
theorem dX3_init_82 : decode cX3_init 82 = .ok (.putfield 39, 3) := by decide +kernel
theorem dX3_init_85 : decode cX3_init 85 = .ok (.iconst 0, 1) := by decide +kernel
theorem dX3_init_86 : decode cX3_init 86 = .ok (.istore_n 1, 1) := by decide +kernel
theorem dX3_init_87 : decode cX3_init 87 = .ok (.iload_n 1, 1) := by decide +kernel
theorem dX3_init_88 : decode cX3_init 88 = .ok (.iconst 3, 1) := by decide +kernel
theorem dX3_init_89 : decode cX3_init 89 = .ok (.if_icmp .ge 25, 3) := by decide +kernel
theorem dX3_init_92 : decode cX3_init 92 = .ok (.aload_n 0, 1) := by decide +kernel
theorem dX3_init_93 : decode cX3_init 93 = .ok (.getfield 21, 3) := by decide +kernel
theorem dX3_init_96 : decode cX3_init 96 = .ok (.iload_n 1, 1) := by decide +kernel
theorem dX3_init_97 : decode cX3_init 97 = .ok (.new 7, 3) := by decide +kernel
theorem dX3_init_100 : decode cX3_init 100 = .ok (.dup, 1) := by decide +kernel
theorem dX3_init_101 : decode cX3_init 101 = .ok (.sipush 600, 3) := by decide +kernel
theorem dX3_init_104 : decode cX3_init 104 = .ok (.invokespecial 11, 3) := by decide +kernel
theorem dX3_init_107 : decode cX3_init 107 = .ok (.aastore, 1) := by decide +kernel
theorem dX3_init_108 : decode cX3_init 108 = .ok (.iinc 1 1, 3) := by decide +kernel
theorem dX3_init_111 : decode cX3_init 111 = .ok (.goto (-24), 3) := by decide +kernel
theorem dX3_init_114 : decode cX3_init 114 = .ok (.iconst 0, 1) := by decide +kernel
theorem dX3_init_115 : decode cX3_init 115 = .ok (.istore_n 1, 1) := by decide +kernel
theorem dX3_init_116 : decode cX3_init 116 = .ok (.iload_n 1, 1) := by decide +kernel
theorem dX3_init_117 : decode cX3_init 117 = .ok (.iconst 4, 1) := by decide +kernel
theorem dX3_init_118 : decode cX3_init 118 = .ok (.if_icmp .ge 22, 3) := by decide +kernel
theorem dX3_init_121 : decode cX3_init 121 = .ok (.aload_n 0, 1) := by decide +kernel
theorem dX3_init_122 : decode cX3_init 122 = .ok (.getfield 27, 3) := by decide +kernel
theorem dX3_init_125 : decode cX3_init 125 = .ok (.iload_n 1, 1) := by decide +kernel
theorem dX3_init_126 : decode cX3_init 126 = .ok (.new 25, 3) := by decide +kernel
theorem dX3_init_129 : decode cX3_init 129 = .ok (.dup, 1) := by decide +kernel
theorem dX3_init_130 : decode cX3_init 130 = .ok (.invokespecial 31, 3) := by decide +kernel
theorem dX3_init_133 : decode cX3_init 133 = .ok (.aastore, 1) := by decide +kernel
theorem dX3_init_134 : decode cX3_init 134 = .ok (.iinc 1 1, 3) := by decide +kernel
theorem dX3_init_137 : decode cX3_init 137 = .ok (.goto (-21), 3) := by decide +kernel
theorem dX3_init_140 : decode cX3_init 140 = .ok (.return_, 1) := by decide +kernel
theorem dX3_feed_0 : decode cX3_feed 0 = .ok (.iload_n 1, 1) := by decide +kernel
theorem dX3_feed_1 : decode cX3_feed 1 = .ok (.iconst 1, 1) := by decide +kernel
theorem dX3_feed_2 : decode cX3_feed 2 = .ok (.if_icmp .lt 9, 3) := by decide +kernel
theorem dX3_feed_5 : decode cX3_feed 5 = .ok (.iload_n 1, 1) := by decide +kernel
theorem dX3_feed_6 : decode cX3_feed 6 = .ok (.bipush 8, 2) := by decide +kernel
theorem dX3_feed_8 : decode cX3_feed 8 = .ok (.if_icmp .le 13, 3) := by decide +kernel
theorem dX3_feed_11 : decode cX3_feed 11 = .ok (.new 42, 3) := by decide +kernel
theorem dX3_feed_14 : decode cX3_feed 14 = .ok (.dup, 1) := by decide +kernel
theorem dX3_feed_15 : decode cX3_feed 15 = .ok (.ldc 44, 2) := by decide +kernel
theorem dX3_feed_17 : decode cX3_feed 17 = .ok (.invokespecial 46, 3) := by decide +kernel
theorem dX3_feed_20 : decode cX3_feed 20 = .ok (.athrow, 1) := by decide +kernel
theorem dX3_feed_21 : decode cX3_feed 21 = .ok (.aload_n 0, 1) := by decide +kernel
theorem dX3_feed_22 : decode cX3_feed 22 = .ok (.getfield 14, 3) := by decide +kernel
theorem dX3_feed_25 : decode cX3_feed 25 = .ok (.getfield 49, 3) := by decide +kernel
theorem dX3_feed_28 : decode cX3_feed 28 = .ok (.iload_n 1, 1) := by decide +kernel
theorem dX3_feed_29 : decode cX3_feed 29 = .ok (.iadd, 1) := by decide +kernel
theorem dX3_feed_30 : decode cX3_feed 30 = .ok (.sipush 600, 3) := by decide +kernel
theorem dX3_feed_33 : decode cX3_feed 33 = .ok (.if_icmp .le 13, 3) := by decide +kernel
theorem dX3_feed_36 : decode cX3_feed 36 = .ok (.new 42, 3) := by decide +kernel
theorem dX3_feed_39 : decode cX3_feed 39 = .ok (.dup, 1) := by decide +kernel
theorem dX3_feed_40 : decode cX3_feed 40 = .ok (.ldc 53, 2) := by decide +kernel
theorem dX3_feed_42 : decode cX3_feed 42 = .ok (.invokespecial 46, 3) := by decide +kernel
theorem dX3_feed_45 : decode cX3_feed 45 = .ok (.athrow, 1) := by decide +kernel
theorem dX3_feed_46 : decode cX3_feed 46 = .ok (.iconst 0, 1) := by decide +kernel
theorem dX3_feed_47 : decode cX3_feed 47 = .ok (.istore 4, 2) := by decide +kernel
theorem dX3_feed_49 : decode cX3_feed 49 = .ok (.iload 4, 2) := by decide +kernel
theorem dX3_feed_51 : decode cX3_feed 51 = .ok (.iload_n 1, 1) := by decide +kernel
theorem dX3_feed_52 : decode cX3_feed 52 = .ok (.if_icmp .ge 24, 3) := by decide +kernel
theorem dX3_feed_55 : decode cX3_feed 55 = .ok (.aload_n 0, 1) := by decide +kernel
theorem dX3_feed_56 : decode cX3_feed 56 = .ok (.getfield 14, 3) := by decide +kernel
theorem dX3_feed_59 : decode cX3_feed 59 = .ok (.lload_n 2, 1) := by decide +kernel
theorem dX3_feed_60 : decode cX3_feed 60 = .ok (.bipush 8, 2) := by decide +kernel
theorem dX3_feed_62 : decode cX3_feed 62 = .ok (.iload 4, 2) := by decide +kernel
theorem dX3_feed_64 : decode cX3_feed 64 = .ok (.imul, 1) := by decide +kernel
theorem dX3_feed_65 : decode cX3_feed 65 = .ok (.lushr, 1) := by decide +kernel
theorem dX3_feed_66 : decode cX3_feed 66 = .ok (.l2i, 1) := by decide +kernel
theorem dX3_feed_67 : decode cX3_feed 67 = .ok (.invokevirtual 55, 3) := by decide +kernel
theorem dX3_feed_70 : decode cX3_feed 70 = .ok (.iinc 4 1, 3) := by decide +kernel
theorem dX3_feed_73 : decode cX3_feed 73 = .ok (.goto (-24), 3) := by decide +kernel
theorem dX3_feed_76 : decode cX3_feed 76 = .ok (.aload_n 0, 1) := by decide +kernel
theorem dX3_feed_77 : decode cX3_feed 77 = .ok (.getfield 14, 3) := by decide +kernel
theorem dX3_feed_80 : decode cX3_feed 80 = .ok (.getfield 49, 3) := by decide +kernel
theorem dX3_feed_83 : decode cX3_feed 83 = .ok (.ireturn, 1) := by decide +kernel
theorem dX3_begin_0 : decode cX3_begin 0 = .ok (.aload_n 0, 1) := by decide +kernel
theorem dX3_begin_1 : decode cX3_begin 1 = .ok (.iload_n 1, 1) := by decide +kernel
theorem dX3_begin_2 : decode cX3_begin 2 = .ok (.invokevirtual 58, 3) := by decide +kernel
theorem dX3_begin_5 : decode cX3_begin 5 = .ok (.astore_n 3, 1) := by decide +kernel
theorem dX3_begin_6 : decode cX3_begin 6 = .ok (.iload_n 2, 1) := by decide +kernel
theorem dX3_begin_7 : decode cX3_begin 7 = .ok (.invokestatic 62, 3) := by decide +kernel
theorem dX3_begin_10 : decode cX3_begin 10 = .ok (.aload_n 3, 1) := by decide +kernel
theorem dX3_begin_11 : decode cX3_begin 11 = .ok (.iload_n 2, 1) := by decide +kernel
theorem dX3_begin_12 : decode cX3_begin 12 = .ok (.invokevirtual 65, 3) := by decide +kernel
theorem dX3_begin_15 : decode cX3_begin 15 = .ok (.return_, 1) := by decide +kernel
theorem dX3_code_0 : decode cX3_code 0 = .ok (.aload_n 0, 1) := by decide +kernel
theorem dX3_code_1 : decode cX3_code 1 = .ok (.iload_n 1, 1) := by decide +kernel
theorem dX3_code_2 : decode cX3_code 2 = .ok (.invokevirtual 58, 3) := by decide +kernel
theorem dX3_code_5 : decode cX3_code 5 = .ok (.astore_n 3, 1) := by decide +kernel
theorem dX3_code_6 : decode cX3_code 6 = .ok (.iload_n 2, 1) := by decide +kernel
theorem dX3_code_7 : decode cX3_code 7 = .ok (.invokestatic 62, 3) := by decide +kernel
theorem dX3_code_10 : decode cX3_code 10 = .ok (.aload_n 0, 1) := by decide +kernel
theorem dX3_code_11 : decode cX3_code 11 = .ok (.getfield 14, 3) := by decide +kernel
theorem dX3_code_14 : decode cX3_code 14 = .ok (.getfield 49, 3) := by decide +kernel
theorem dX3_code_17 : decode cX3_code 17 = .ok (.istore 4, 2) := by decide +kernel
theorem dX3_code_19 : decode cX3_code 19 = .ok (.aload_n 3, 1) := by decide +kernel
theorem dX3_code_20 : decode cX3_code 20 = .ok (.iload_n 2, 1) := by decide +kernel
theorem dX3_code_21 : decode cX3_code 21 = .ok (.aload_n 0, 1) := by decide +kernel
theorem dX3_code_22 : decode cX3_code 22 = .ok (.getfield 14, 3) := by decide +kernel
theorem dX3_code_25 : decode cX3_code 25 = .ok (.invokevirtual 68, 3) := by decide +kernel
theorem dX3_code_28 : decode cX3_code 28 = .ok (.aload_n 0, 1) := by decide +kernel
theorem dX3_code_29 : decode cX3_code 29 = .ok (.getfield 14, 3) := by decide +kernel
theorem dX3_code_32 : decode cX3_code 32 = .ok (.invokevirtual 72, 3) := by decide +kernel
theorem dX3_code_35 : decode cX3_code 35 = .ok (.iload 4, 2) := by decide +kernel
theorem dX3_code_37 : decode cX3_code 37 = .ok (.ireturn, 1) := by decide +kernel
theorem dX3_update_0 : decode cX3_update 0 = .ok (.aload_n 0, 1) := by decide +kernel
theorem dX3_update_1 : decode cX3_update 1 = .ok (.iload_n 1, 1) := by decide +kernel
theorem dX3_update_2 : decode cX3_update 2 = .ok (.invokevirtual 75, 3) := by decide +kernel
theorem dX3_update_5 : decode cX3_update 5 = .ok (.astore_n 2, 1) := by decide +kernel
theorem dX3_update_6 : decode cX3_update 6 = .ok (.aload_n 2, 1) := by decide +kernel
theorem dX3_update_7 : decode cX3_update 7 = .ok (.aload_n 0, 1) := by decide +kernel
theorem dX3_update_8 : decode cX3_update 8 = .ok (.getfield 14, 3) := by decide +kernel
theorem dX3_update_11 : decode cX3_update 11 = .ok (.invokevirtual 78, 3) := by decide +kernel
theorem dX3_update_14 : decode cX3_update 14 = .ok (.aload_n 0, 1) := by decide +kernel
theorem dX3_update_15 : decode cX3_update 15 = .ok (.getfield 14, 3) := by decide +kernel
theorem dX3_update_18 : decode cX3_update 18 = .ok (.invokevirtual 72, 3) := by decide +kernel
theorem dX3_update_21 : decode cX3_update 21 = .ok (.aload_n 2, 1) := by decide +kernel
theorem dX3_update_22 : decode cX3_update 22 = .ok (.getfield 82, 3) := by decide +kernel
theorem dX3_update_25 : decode cX3_update 25 = .ok (.lreturn, 1) := by decide +kernel
theorem dX3_repeat_0 : decode cX3_repeat 0 = .ok (.aload_n 0, 1) := by decide +kernel
theorem dX3_repeat_1 : decode cX3_repeat 1 = .ok (.iload_n 1, 1) := by decide +kernel
theorem dX3_repeat_2 : decode cX3_repeat 2 = .ok (.invokevirtual 75, 3) := by decide +kernel
theorem dX3_repeat_5 : decode cX3_repeat 5 = .ok (.astore 4, 2) := by decide +kernel
theorem dX3_repeat_7 : decode cX3_repeat 7 = .ok (.iload_n 3, 1) := by decide +kernel
theorem dX3_repeat_8 : decode cX3_repeat 8 = .ok (.ifCond .lt 10, 3) := by decide +kernel
theorem dX3_repeat_11 : decode cX3_repeat 11 = .ok (.iload_n 3, 1) := by decide +kernel
theorem dX3_repeat_12 : decode cX3_repeat 12 = .ok (.sipush 20000, 3) := by decide +kernel
theorem dX3_repeat_15 : decode cX3_repeat 15 = .ok (.if_icmp .le 13, 3) := by decide +kernel
theorem dX3_repeat_18 : decode cX3_repeat 18 = .ok (.new 42, 3) := by decide +kernel
theorem dX3_repeat_21 : decode cX3_repeat 21 = .ok (.dup, 1) := by decide +kernel
theorem dX3_repeat_22 : decode cX3_repeat 22 = .ok (.ldc 86, 2) := by decide +kernel
theorem dX3_repeat_24 : decode cX3_repeat 24 = .ok (.invokespecial 46, 3) := by decide +kernel
theorem dX3_repeat_27 : decode cX3_repeat 27 = .ok (.athrow, 1) := by decide +kernel
theorem dX3_repeat_28 : decode cX3_repeat 28 = .ok (.iconst 0, 1) := by decide +kernel
theorem dX3_repeat_29 : decode cX3_repeat 29 = .ok (.istore 5, 2) := by decide +kernel
theorem dX3_repeat_31 : decode cX3_repeat 31 = .ok (.iload 5, 2) := by decide +kernel
theorem dX3_repeat_33 : decode cX3_repeat 33 = .ok (.iload_n 3, 1) := by decide +kernel
theorem dX3_repeat_34 : decode cX3_repeat 34 = .ok (.if_icmp .ge 15, 3) := by decide +kernel
theorem dX3_repeat_37 : decode cX3_repeat 37 = .ok (.aload 4, 2) := by decide +kernel
theorem dX3_repeat_39 : decode cX3_repeat 39 = .ok (.iload_n 2, 1) := by decide +kernel
theorem dX3_repeat_40 : decode cX3_repeat 40 = .ok (.invokevirtual 88, 3) := by decide +kernel
theorem dX3_repeat_43 : decode cX3_repeat 43 = .ok (.iinc 5 1, 3) := by decide +kernel
theorem dX3_repeat_46 : decode cX3_repeat 46 = .ok (.goto (-15), 3) := by decide +kernel
theorem dX3_repeat_49 : decode cX3_repeat 49 = .ok (.aload 4, 2) := by decide +kernel
theorem dX3_repeat_51 : decode cX3_repeat 51 = .ok (.getfield 82, 3) := by decide +kernel
theorem dX3_repeat_54 : decode cX3_repeat 54 = .ok (.lreturn, 1) := by decide +kernel
theorem dX3_finish_0 : decode cX3_finish 0 = .ok (.aload_n 0, 1) := by decide +kernel
theorem dX3_finish_1 : decode cX3_finish 1 = .ok (.iload_n 1, 1) := by decide +kernel
theorem dX3_finish_2 : decode cX3_finish 2 = .ok (.invokevirtual 75, 3) := by decide +kernel
theorem dX3_finish_5 : decode cX3_finish 5 = .ok (.astore_n 2, 1) := by decide +kernel
theorem dX3_finish_6 : decode cX3_finish 6 = .ok (.aload_n 2, 1) := by decide +kernel
theorem dX3_finish_7 : decode cX3_finish 7 = .ok (.aload_n 0, 1) := by decide +kernel
theorem dX3_finish_8 : decode cX3_finish 8 = .ok (.getfield 18, 3) := by decide +kernel
theorem dX3_finish_11 : decode cX3_finish 11 = .ok (.invokevirtual 91, 3) := by decide +kernel
theorem dX3_finish_14 : decode cX3_finish 14 = .ok (.aload_n 0, 1) := by decide +kernel
theorem dX3_finish_15 : decode cX3_finish 15 = .ok (.getfield 18, 3) := by decide +kernel
theorem dX3_finish_18 : decode cX3_finish 18 = .ok (.getfield 49, 3) := by decide +kernel
theorem dX3_finish_21 : decode cX3_finish 21 = .ok (.ireturn, 1) := by decide +kernel
theorem dX3_copy_0 : decode cX3_copy 0 = .ok (.aload_n 0, 1) := by decide +kernel
theorem dX3_copy_1 : decode cX3_copy 1 = .ok (.iload_n 1, 1) := by decide +kernel
theorem dX3_copy_2 : decode cX3_copy 2 = .ok (.invokevirtual 58, 3) := by decide +kernel
theorem dX3_copy_5 : decode cX3_copy 5 = .ok (.astore_n 3, 1) := by decide +kernel
theorem dX3_copy_6 : decode cX3_copy 6 = .ok (.aload_n 0, 1) := by decide +kernel
theorem dX3_copy_7 : decode cX3_copy 7 = .ok (.iload_n 2, 1) := by decide +kernel
theorem dX3_copy_8 : decode cX3_copy 8 = .ok (.invokevirtual 58, 3) := by decide +kernel
theorem dX3_copy_11 : decode cX3_copy 11 = .ok (.astore 4, 2) := by decide +kernel
theorem dX3_copy_13 : decode cX3_copy 13 = .ok (.aload 4, 2) := by decide +kernel
theorem dX3_copy_15 : decode cX3_copy 15 = .ok (.getfield 94, 3) := by decide +kernel
theorem dX3_copy_18 : decode cX3_copy 18 = .ok (.iconst (-1), 1) := by decide +kernel
theorem dX3_copy_19 : decode cX3_copy 19 = .ok (.if_icmp .ne 13, 3) := by decide +kernel
theorem dX3_copy_22 : decode cX3_copy 22 = .ok (.new 97, 3) := by decide +kernel
theorem dX3_copy_25 : decode cX3_copy 25 = .ok (.dup, 1) := by decide +kernel
theorem dX3_copy_26 : decode cX3_copy 26 = .ok (.ldc 99, 2) := by decide +kernel
theorem dX3_copy_28 : decode cX3_copy 28 = .ok (.invokespecial 101, 3) := by decide +kernel
theorem dX3_copy_31 : decode cX3_copy 31 = .ok (.athrow, 1) := by decide +kernel
theorem dX3_copy_32 : decode cX3_copy 32 = .ok (.aload_n 3, 1) := by decide +kernel
theorem dX3_copy_33 : decode cX3_copy 33 = .ok (.aload 4, 2) := by decide +kernel
theorem dX3_copy_35 : decode cX3_copy 35 = .ok (.invokevirtual 102, 3) := by decide +kernel
theorem dX3_copy_38 : decode cX3_copy 38 = .ok (.return_, 1) := by decide +kernel
theorem dX3_about_0 : decode cX3_about 0 = .ok (.aload_n 0, 1) := by decide +kernel
theorem dX3_about_1 : decode cX3_about 1 = .ok (.iload_n 1, 1) := by decide +kernel
theorem dX3_about_2 : decode cX3_about 2 = .ok (.invokevirtual 58, 3) := by decide +kernel
theorem dX3_about_5 : decode cX3_about 5 = .ok (.astore_n 3, 1) := by decide +kernel
theorem dX3_about_6 : decode cX3_about 6 = .ok (.iload_n 2, 1) := by decide +kernel
theorem dX3_about_7 : decode cX3_about 7 = .ok (.tableswitch 65 0 3 #[29, 34, 47, 60], 29) := by decide +kernel
theorem dX3_about_36 : decode cX3_about 36 = .ok (.aload_n 3, 1) := by decide +kernel
theorem dX3_about_37 : decode cX3_about 37 = .ok (.getfield 94, 3) := by decide +kernel
theorem dX3_about_40 : decode cX3_about 40 = .ok (.ireturn, 1) := by decide +kernel
theorem dX3_about_41 : decode cX3_about 41 = .ok (.aload_n 3, 1) := by decide +kernel
theorem dX3_about_42 : decode cX3_about 42 = .ok (.getfield 106, 3) := by decide +kernel
theorem dX3_about_45 : decode cX3_about 45 = .ok (.ifCond .eq 7, 3) := by decide +kernel
theorem dX3_about_48 : decode cX3_about 48 = .ok (.iconst 1, 1) := by decide +kernel
theorem dX3_about_49 : decode cX3_about 49 = .ok (.goto 4, 3) := by decide +kernel
theorem dX3_about_52 : decode cX3_about 52 = .ok (.iconst 0, 1) := by decide +kernel
theorem dX3_about_53 : decode cX3_about 53 = .ok (.ireturn, 1) := by decide +kernel
theorem dX3_about_54 : decode cX3_about 54 = .ok (.aload_n 3, 1) := by decide +kernel
theorem dX3_about_55 : decode cX3_about 55 = .ok (.getfield 110, 3) := by decide +kernel
theorem dX3_about_58 : decode cX3_about 58 = .ok (.ifCond .eq 7, 3) := by decide +kernel
theorem dX3_about_61 : decode cX3_about 61 = .ok (.iconst 1, 1) := by decide +kernel
theorem dX3_about_62 : decode cX3_about 62 = .ok (.goto 4, 3) := by decide +kernel
theorem dX3_about_65 : decode cX3_about 65 = .ok (.iconst 0, 1) := by decide +kernel
theorem dX3_about_66 : decode cX3_about 66 = .ok (.ireturn, 1) := by decide +kernel
theorem dX3_about_67 : decode cX3_about 67 = .ok (.aload_n 3, 1) := by decide +kernel
theorem dX3_about_68 : decode cX3_about 68 = .ok (.invokevirtual 113, 3) := by decide +kernel
theorem dX3_about_71 : decode cX3_about 71 = .ok (.ireturn, 1) := by decide +kernel
theorem dX3_about_72 : decode cX3_about 72 = .ok (.new 117, 3) := by decide +kernel
theorem dX3_about_75 : decode cX3_about 75 = .ok (.dup, 1) := by decide +kernel
theorem dX3_about_76 : decode cX3_about 76 = .ok (.ldc 119, 2) := by decide +kernel
theorem dX3_about_78 : decode cX3_about 78 = .ok (.invokespecial 121, 3) := by decide +kernel
theorem dX3_about_81 : decode cX3_about 81 = .ok (.athrow, 1) := by decide +kernel
theorem dX3_hold_0 : decode cX3_hold 0 = .ok (.aload_n 0, 1) := by decide +kernel
theorem dX3_hold_1 : decode cX3_hold 1 = .ok (.iload_n 1, 1) := by decide +kernel
theorem dX3_hold_2 : decode cX3_hold 2 = .ok (.invokevirtual 122, 3) := by decide +kernel
theorem dX3_hold_5 : decode cX3_hold 5 = .ok (.astore_n 2, 1) := by decide +kernel
theorem dX3_hold_6 : decode cX3_hold 6 = .ok (.aload_n 2, 1) := by decide +kernel
theorem dX3_hold_7 : decode cX3_hold 7 = .ok (.aload_n 0, 1) := by decide +kernel
theorem dX3_hold_8 : decode cX3_hold 8 = .ok (.getfield 14, 3) := by decide +kernel
theorem dX3_hold_11 : decode cX3_hold 11 = .ok (.invokevirtual 126, 3) := by decide +kernel
theorem dX3_hold_14 : decode cX3_hold 14 = .ok (.aload_n 0, 1) := by decide +kernel
theorem dX3_hold_15 : decode cX3_hold 15 = .ok (.getfield 14, 3) := by decide +kernel
theorem dX3_hold_18 : decode cX3_hold 18 = .ok (.invokevirtual 72, 3) := by decide +kernel
theorem dX3_hold_21 : decode cX3_hold 21 = .ok (.aload_n 2, 1) := by decide +kernel
theorem dX3_hold_22 : decode cX3_hold 22 = .ok (.getfield 49, 3) := by decide +kernel
theorem dX3_hold_25 : decode cX3_hold 25 = .ok (.ireturn, 1) := by decide +kernel
theorem dX3_keep_0 : decode cX3_keep 0 = .ok (.aload_n 0, 1) := by decide +kernel
theorem dX3_keep_1 : decode cX3_keep 1 = .ok (.iload_n 1, 1) := by decide +kernel
theorem dX3_keep_2 : decode cX3_keep 2 = .ok (.invokevirtual 122, 3) := by decide +kernel
theorem dX3_keep_5 : decode cX3_keep 5 = .ok (.astore_n 2, 1) := by decide +kernel
theorem dX3_keep_6 : decode cX3_keep 6 = .ok (.aload_n 0, 1) := by decide +kernel
theorem dX3_keep_7 : decode cX3_keep 7 = .ok (.getfield 18, 3) := by decide +kernel
theorem dX3_keep_10 : decode cX3_keep 10 = .ok (.getfield 49, 3) := by decide +kernel
theorem dX3_keep_13 : decode cX3_keep 13 = .ok (.sipush 600, 3) := by decide +kernel
theorem dX3_keep_16 : decode cX3_keep 16 = .ok (.if_icmp .le 5, 3) := by decide +kernel
theorem dX3_keep_19 : decode cX3_keep 19 = .ok (.iconst (-1), 1) := by decide +kernel
theorem dX3_keep_20 : decode cX3_keep 20 = .ok (.ireturn, 1) := by decide +kernel
theorem dX3_keep_21 : decode cX3_keep 21 = .ok (.aload_n 2, 1) := by decide +kernel
theorem dX3_keep_22 : decode cX3_keep 22 = .ok (.aload_n 0, 1) := by decide +kernel
theorem dX3_keep_23 : decode cX3_keep 23 = .ok (.getfield 18, 3) := by decide +kernel
theorem dX3_keep_26 : decode cX3_keep 26 = .ok (.invokevirtual 126, 3) := by decide +kernel
theorem dX3_keep_29 : decode cX3_keep 29 = .ok (.aload_n 2, 1) := by decide +kernel
theorem dX3_keep_30 : decode cX3_keep 30 = .ok (.getfield 49, 3) := by decide +kernel
theorem dX3_keep_33 : decode cX3_keep 33 = .ok (.ireturn, 1) := by decide +kernel
theorem dX3_draw_0 : decode cX3_draw 0 = .ok (.iload_n 1, 1) := by decide +kernel
theorem dX3_draw_1 : decode cX3_draw 1 = .ok (.invokestatic 62, 3) := by decide +kernel
theorem dX3_draw_4 : decode cX3_draw 4 = .ok (.aload_n 0, 1) := by decide +kernel
theorem dX3_draw_5 : decode cX3_draw 5 = .ok (.getfield 32, 3) := by decide +kernel
theorem dX3_draw_8 : decode cX3_draw 8 = .ok (.iload_n 1, 1) := by decide +kernel
theorem dX3_draw_9 : decode cX3_draw 9 = .ok (.aload_n 0, 1) := by decide +kernel
theorem dX3_draw_10 : decode cX3_draw 10 = .ok (.getfield 21, 3) := by decide +kernel
theorem dX3_draw_13 : decode cX3_draw 13 = .ok (.iconst 1, 1) := by decide +kernel
theorem dX3_draw_14 : decode cX3_draw 14 = .ok (.aaload, 1) := by decide +kernel
theorem dX3_draw_15 : decode cX3_draw 15 = .ok (.invokevirtual 68, 3) := by decide +kernel
theorem dX3_draw_18 : decode cX3_draw 18 = .ok (.aload_n 0, 1) := by decide +kernel
theorem dX3_draw_19 : decode cX3_draw 19 = .ok (.getfield 32, 3) := by decide +kernel
theorem dX3_draw_22 : decode cX3_draw 22 = .ok (.aload_n 0, 1) := by decide +kernel
theorem dX3_draw_23 : decode cX3_draw 23 = .ok (.getfield 21, 3) := by decide +kernel
theorem dX3_draw_26 : decode cX3_draw 26 = .ok (.iconst 0, 1) := by decide +kernel
theorem dX3_draw_27 : decode cX3_draw 27 = .ok (.aaload, 1) := by decide +kernel
theorem dX3_draw_28 : decode cX3_draw 28 = .ok (.invokevirtual 78, 3) := by decide +kernel
theorem dX3_draw_31 : decode cX3_draw 31 = .ok (.aload_n 0, 1) := by decide +kernel
theorem dX3_draw_32 : decode cX3_draw 32 = .ok (.getfield 32, 3) := by decide +kernel
theorem dX3_draw_35 : decode cX3_draw 35 = .ok (.aload_n 0, 1) := by decide +kernel
theorem dX3_draw_36 : decode cX3_draw 36 = .ok (.getfield 18, 3) := by decide +kernel
theorem dX3_draw_39 : decode cX3_draw 39 = .ok (.invokevirtual 91, 3) := by decide +kernel
theorem dX3_draw_42 : decode cX3_draw 42 = .ok (.aload_n 0, 1) := by decide +kernel
theorem dX3_draw_43 : decode cX3_draw 43 = .ok (.getfield 18, 3) := by decide +kernel
theorem dX3_draw_46 : decode cX3_draw 46 = .ok (.getfield 49, 3) := by decide +kernel
theorem dX3_draw_49 : decode cX3_draw 49 = .ok (.ireturn, 1) := by decide +kernel
theorem dX3_spread_0 : decode cX3_spread 0 = .ok (.iload_n 1, 1) := by decide +kernel
theorem dX3_spread_1 : decode cX3_spread 1 = .ok (.invokestatic 62, 3) := by decide +kernel
theorem dX3_spread_4 : decode cX3_spread 4 = .ok (.iload_n 2, 1) := by decide +kernel
theorem dX3_spread_5 : decode cX3_spread 5 = .ok (.ifCond .lt 10, 3) := by decide +kernel
theorem dX3_spread_8 : decode cX3_spread 8 = .ok (.iload_n 2, 1) := by decide +kernel
theorem dX3_spread_9 : decode cX3_spread 9 = .ok (.sipush 16320, 3) := by decide +kernel
theorem dX3_spread_12 : decode cX3_spread 12 = .ok (.if_icmp .le 13, 3) := by decide +kernel
theorem dX3_spread_15 : decode cX3_spread 15 = .ok (.new 42, 3) := by decide +kernel
theorem dX3_spread_18 : decode cX3_spread 18 = .ok (.dup, 1) := by decide +kernel
theorem dX3_spread_19 : decode cX3_spread 19 = .ok (.ldc 128, 2) := by decide +kernel
theorem dX3_spread_21 : decode cX3_spread 21 = .ok (.invokespecial 46, 3) := by decide +kernel
theorem dX3_spread_24 : decode cX3_spread 24 = .ok (.athrow, 1) := by decide +kernel
theorem dX3_spread_25 : decode cX3_spread 25 = .ok (.iload_n 2, 1) := by decide +kernel
theorem dX3_spread_26 : decode cX3_spread 26 = .ok (.sipush 255, 3) := by decide +kernel
theorem dX3_spread_29 : decode cX3_spread 29 = .ok (.iload_n 1, 1) := by decide +kernel
theorem dX3_spread_30 : decode cX3_spread 30 = .ok (.invokestatic 130, 3) := by decide +kernel
theorem dX3_spread_33 : decode cX3_spread 33 = .ok (.imul, 1) := by decide +kernel
theorem dX3_spread_34 : decode cX3_spread 34 = .ok (.if_icmp .le 5, 3) := by decide +kernel
theorem dX3_spread_37 : decode cX3_spread 37 = .ok (.iconst (-1), 1) := by decide +kernel
theorem dX3_spread_38 : decode cX3_spread 38 = .ok (.ireturn, 1) := by decide +kernel
theorem dX3_spread_39 : decode cX3_spread 39 = .ok (.aload_n 0, 1) := by decide +kernel
theorem dX3_spread_40 : decode cX3_spread 40 = .ok (.getfield 32, 3) := by decide +kernel
theorem dX3_spread_43 : decode cX3_spread 43 = .ok (.iload_n 1, 1) := by decide +kernel
theorem dX3_spread_44 : decode cX3_spread 44 = .ok (.aload_n 0, 1) := by decide +kernel
theorem dX3_spread_45 : decode cX3_spread 45 = .ok (.getfield 21, 3) := by decide +kernel
theorem dX3_spread_48 : decode cX3_spread 48 = .ok (.iconst 0, 1) := by decide +kernel
theorem dX3_spread_49 : decode cX3_spread 49 = .ok (.aaload, 1) := by decide +kernel
theorem dX3_spread_50 : decode cX3_spread 50 = .ok (.invokevirtual 68, 3) := by decide +kernel
theorem dX3_spread_53 : decode cX3_spread 53 = .ok (.aload_n 0, 1) := by decide +kernel
theorem dX3_spread_54 : decode cX3_spread 54 = .ok (.getfield 18, 3) := by decide +kernel
theorem dX3_spread_57 : decode cX3_spread 57 = .ok (.invokevirtual 72, 3) := by decide +kernel
theorem dX3_spread_60 : decode cX3_spread 60 = .ok (.aload_n 0, 1) := by decide +kernel
theorem dX3_spread_61 : decode cX3_spread 61 = .ok (.getfield 36, 3) := by decide +kernel
theorem dX3_spread_64 : decode cX3_spread 64 = .ok (.invokevirtual 72, 3) := by decide +kernel
theorem dX3_spread_67 : decode cX3_spread 67 = .ok (.iconst 1, 1) := by decide +kernel
theorem dX3_spread_68 : decode cX3_spread 68 = .ok (.istore_n 3, 1) := by decide +kernel
theorem dX3_spread_69 : decode cX3_spread 69 = .ok (.iload_n 3, 1) := by decide +kernel
theorem dX3_spread_70 : decode cX3_spread 70 = .ok (.sipush 255, 3) := by decide +kernel
theorem dX3_spread_73 : decode cX3_spread 73 = .ok (.if_icmp .gt 37, 3) := by decide +kernel
theorem dX3_spread_76 : decode cX3_spread 76 = .ok (.aload_n 0, 1) := by decide +kernel
theorem dX3_spread_77 : decode cX3_spread 77 = .ok (.getfield 18, 3) := by decide +kernel
theorem dX3_spread_80 : decode cX3_spread 80 = .ok (.getfield 49, 3) := by decide +kernel
theorem dX3_spread_83 : decode cX3_spread 83 = .ok (.iload_n 2, 1) := by decide +kernel
theorem dX3_spread_84 : decode cX3_spread 84 = .ok (.if_icmp .ge 26, 3) := by decide +kernel
theorem dX3_spread_87 : decode cX3_spread 87 = .ok (.aload_n 0, 1) := by decide +kernel
theorem dX3_spread_88 : decode cX3_spread 88 = .ok (.iload_n 3, 1) := by decide +kernel
theorem dX3_spread_89 : decode cX3_spread 89 = .ok (.invokevirtual 134, 3) := by decide +kernel
theorem dX3_spread_92 : decode cX3_spread 92 = .ok (.aload_n 0, 1) := by decide +kernel
theorem dX3_spread_93 : decode cX3_spread 93 = .ok (.getfield 18, 3) := by decide +kernel
theorem dX3_spread_96 : decode cX3_spread 96 = .ok (.iload_n 2, 1) := by decide +kernel
theorem dX3_spread_97 : decode cX3_spread 97 = .ok (.aload_n 0, 1) := by decide +kernel
theorem dX3_spread_98 : decode cX3_spread 98 = .ok (.getfield 36, 3) := by decide +kernel
theorem dX3_spread_101 : decode cX3_spread 101 = .ok (.invokevirtual 137, 3) := by decide +kernel
theorem dX3_spread_104 : decode cX3_spread 104 = .ok (.iinc 3 1, 3) := by decide +kernel
theorem dX3_spread_107 : decode cX3_spread 107 = .ok (.goto (-38), 3) := by decide +kernel
theorem dX3_spread_110 : decode cX3_spread 110 = .ok (.iload_n 2, 1) := by decide +kernel
theorem dX3_spread_111 : decode cX3_spread 111 = .ok (.ireturn, 1) := by decide +kernel
theorem dX3_stretch_0 : decode cX3_stretch 0 = .ok (.iload_n 1, 1) := by decide +kernel
theorem dX3_stretch_1 : decode cX3_stretch 1 = .ok (.invokestatic 62, 3) := by decide +kernel
theorem dX3_stretch_4 : decode cX3_stretch 4 = .ok (.iload_n 2, 1) := by decide +kernel
theorem dX3_stretch_5 : decode cX3_stretch 5 = .ok (.iconst 1, 1) := by decide +kernel
theorem dX3_stretch_6 : decode cX3_stretch 6 = .ok (.if_icmp .lt 10, 3) := by decide +kernel
theorem dX3_stretch_9 : decode cX3_stretch 9 = .ok (.iload_n 2, 1) := by decide +kernel
theorem dX3_stretch_10 : decode cX3_stretch 10 = .ok (.sipush 500, 3) := by decide +kernel
theorem dX3_stretch_13 : decode cX3_stretch 13 = .ok (.if_icmp .le 13, 3) := by decide +kernel
theorem dX3_stretch_16 : decode cX3_stretch 16 = .ok (.new 42, 3) := by decide +kernel
theorem dX3_stretch_19 : decode cX3_stretch 19 = .ok (.dup, 1) := by decide +kernel
theorem dX3_stretch_20 : decode cX3_stretch 20 = .ok (.ldc 140, 2) := by decide +kernel
theorem dX3_stretch_22 : decode cX3_stretch 22 = .ok (.invokespecial 46, 3) := by decide +kernel
theorem dX3_stretch_25 : decode cX3_stretch 25 = .ok (.athrow, 1) := by decide +kernel
theorem dX3_stretch_26 : decode cX3_stretch 26 = .ok (.iload_n 3, 1) := by decide +kernel
theorem dX3_stretch_27 : decode cX3_stretch 27 = .ok (.ifCond .lt 10, 3) := by decide +kernel
theorem dX3_stretch_30 : decode cX3_stretch 30 = .ok (.iload_n 3, 1) := by decide +kernel
theorem dX3_stretch_31 : decode cX3_stretch 31 = .ok (.sipush 400, 3) := by decide +kernel
theorem dX3_stretch_34 : decode cX3_stretch 34 = .ok (.if_icmp .le 13, 3) := by decide +kernel
theorem dX3_stretch_37 : decode cX3_stretch 37 = .ok (.new 42, 3) := by decide +kernel
theorem dX3_stretch_40 : decode cX3_stretch 40 = .ok (.dup, 1) := by decide +kernel
theorem dX3_stretch_41 : decode cX3_stretch 41 = .ok (.ldc 142, 2) := by decide +kernel
theorem dX3_stretch_43 : decode cX3_stretch 43 = .ok (.invokespecial 46, 3) := by decide +kernel
theorem dX3_stretch_46 : decode cX3_stretch 46 = .ok (.athrow, 1) := by decide +kernel
theorem dX3_stretch_47 : decode cX3_stretch 47 = .ok (.aload_n 0, 1) := by decide +kernel
theorem dX3_stretch_48 : decode cX3_stretch 48 = .ok (.getfield 32, 3) := by decide +kernel
theorem dX3_stretch_51 : decode cX3_stretch 51 = .ok (.iload_n 1, 1) := by decide +kernel
theorem dX3_stretch_52 : decode cX3_stretch 52 = .ok (.aload_n 0, 1) := by decide +kernel
theorem dX3_stretch_53 : decode cX3_stretch 53 = .ok (.getfield 21, 3) := by decide +kernel
theorem dX3_stretch_56 : decode cX3_stretch 56 = .ok (.iconst 0, 1) := by decide +kernel
theorem dX3_stretch_57 : decode cX3_stretch 57 = .ok (.aaload, 1) := by decide +kernel
theorem dX3_stretch_58 : decode cX3_stretch 58 = .ok (.invokevirtual 68, 3) := by decide +kernel
theorem dX3_stretch_61 : decode cX3_stretch 61 = .ok (.aload_n 0, 1) := by decide +kernel
theorem dX3_stretch_62 : decode cX3_stretch 62 = .ok (.getfield 18, 3) := by decide +kernel
theorem dX3_stretch_65 : decode cX3_stretch 65 = .ok (.invokevirtual 72, 3) := by decide +kernel
theorem dX3_stretch_68 : decode cX3_stretch 68 = .ok (.iconst 1, 1) := by decide +kernel
theorem dX3_stretch_69 : decode cX3_stretch 69 = .ok (.istore 4, 2) := by decide +kernel
theorem dX3_stretch_71 : decode cX3_stretch 71 = .ok (.iload 4, 2) := by decide +kernel
theorem dX3_stretch_73 : decode cX3_stretch 73 = .ok (.sipush 400, 3) := by decide +kernel
theorem dX3_stretch_76 : decode cX3_stretch 76 = .ok (.if_icmp .gt 39, 3) := by decide +kernel
theorem dX3_stretch_79 : decode cX3_stretch 79 = .ok (.aload_n 0, 1) := by decide +kernel
theorem dX3_stretch_80 : decode cX3_stretch 80 = .ok (.getfield 18, 3) := by decide +kernel
theorem dX3_stretch_83 : decode cX3_stretch 83 = .ok (.getfield 49, 3) := by decide +kernel
theorem dX3_stretch_86 : decode cX3_stretch 86 = .ok (.iload_n 3, 1) := by decide +kernel
theorem dX3_stretch_87 : decode cX3_stretch 87 = .ok (.if_icmp .ge 28, 3) := by decide +kernel
theorem dX3_stretch_90 : decode cX3_stretch 90 = .ok (.aload_n 0, 1) := by decide +kernel
theorem dX3_stretch_91 : decode cX3_stretch 91 = .ok (.iload 4, 2) := by decide +kernel
theorem dX3_stretch_93 : decode cX3_stretch 93 = .ok (.iload_n 2, 1) := by decide +kernel
theorem dX3_stretch_94 : decode cX3_stretch 94 = .ok (.invokevirtual 144, 3) := by decide +kernel
theorem dX3_stretch_97 : decode cX3_stretch 97 = .ok (.aload_n 0, 1) := by decide +kernel
theorem dX3_stretch_98 : decode cX3_stretch 98 = .ok (.getfield 18, 3) := by decide +kernel
theorem dX3_stretch_101 : decode cX3_stretch 101 = .ok (.iload_n 3, 1) := by decide +kernel
theorem dX3_stretch_102 : decode cX3_stretch 102 = .ok (.aload_n 0, 1) := by decide +kernel
theorem dX3_stretch_103 : decode cX3_stretch 103 = .ok (.getfield 39, 3) := by decide +kernel
theorem dX3_stretch_106 : decode cX3_stretch 106 = .ok (.invokevirtual 137, 3) := by decide +kernel
theorem dX3_stretch_109 : decode cX3_stretch 109 = .ok (.iinc 4 1, 3) := by decide +kernel
theorem dX3_stretch_112 : decode cX3_stretch 112 = .ok (.goto (-41), 3) := by decide +kernel
theorem dX3_stretch_115 : decode cX3_stretch 115 = .ok (.iload_n 3, 1) := by decide +kernel
theorem dX3_stretch_116 : decode cX3_stretch 116 = .ok (.ireturn, 1) := by decide +kernel
theorem dX3_out_0 : decode cX3_out 0 = .ok (.aload_n 0, 1) := by decide +kernel
theorem dX3_out_1 : decode cX3_out 1 = .ok (.getfield 18, 3) := by decide +kernel
theorem dX3_out_4 : decode cX3_out 4 = .ok (.iload_n 1, 1) := by decide +kernel
theorem dX3_out_5 : decode cX3_out 5 = .ok (.invokevirtual 148, 3) := by decide +kernel
theorem dX3_out_8 : decode cX3_out 8 = .ok (.ireturn, 1) := by decide +kernel
theorem dX3_outs_0 : decode cX3_outs 0 = .ok (.lconst 0, 1) := by decide +kernel
theorem dX3_outs_1 : decode cX3_outs 1 = .ok (.lstore_n 2, 1) := by decide +kernel
theorem dX3_outs_2 : decode cX3_outs 2 = .ok (.iconst 0, 1) := by decide +kernel
theorem dX3_outs_3 : decode cX3_outs 3 = .ok (.istore 4, 2) := by decide +kernel
theorem dX3_outs_5 : decode cX3_outs 5 = .ok (.iload 4, 2) := by decide +kernel
theorem dX3_outs_7 : decode cX3_outs 7 = .ok (.bipush 8, 2) := by decide +kernel
theorem dX3_outs_9 : decode cX3_outs 9 = .ok (.if_icmp .ge 27, 3) := by decide +kernel
theorem dX3_outs_12 : decode cX3_outs 12 = .ok (.lload_n 2, 1) := by decide +kernel
theorem dX3_outs_13 : decode cX3_outs 13 = .ok (.bipush 8, 2) := by decide +kernel
theorem dX3_outs_15 : decode cX3_outs 15 = .ok (.lshl, 1) := by decide +kernel
theorem dX3_outs_16 : decode cX3_outs 16 = .ok (.aload_n 0, 1) := by decide +kernel
theorem dX3_outs_17 : decode cX3_outs 17 = .ok (.getfield 18, 3) := by decide +kernel
theorem dX3_outs_20 : decode cX3_outs 20 = .ok (.iload_n 1, 1) := by decide +kernel
theorem dX3_outs_21 : decode cX3_outs 21 = .ok (.iload 4, 2) := by decide +kernel
theorem dX3_outs_23 : decode cX3_outs 23 = .ok (.iadd, 1) := by decide +kernel
theorem dX3_outs_24 : decode cX3_outs 24 = .ok (.invokevirtual 151, 3) := by decide +kernel
theorem dX3_outs_27 : decode cX3_outs 27 = .ok (.i2l, 1) := by decide +kernel
theorem dX3_outs_28 : decode cX3_outs 28 = .ok (.lor, 1) := by decide +kernel
theorem dX3_outs_29 : decode cX3_outs 29 = .ok (.lstore_n 2, 1) := by decide +kernel
theorem dX3_outs_30 : decode cX3_outs 30 = .ok (.iinc 4 1, 3) := by decide +kernel
theorem dX3_outs_33 : decode cX3_outs 33 = .ok (.goto (-28), 3) := by decide +kernel
theorem dX3_outs_36 : decode cX3_outs 36 = .ok (.lload_n 2, 1) := by decide +kernel
theorem dX3_outs_37 : decode cX3_outs 37 = .ok (.lreturn, 1) := by decide +kernel
theorem dX3_isOut_0 : decode cX3_isOut 0 = .ok (.aload_n 0, 1) := by decide +kernel
theorem dX3_isOut_1 : decode cX3_isOut 1 = .ok (.getfield 18, 3) := by decide +kernel
theorem dX3_isOut_4 : decode cX3_isOut 4 = .ok (.aload_n 0, 1) := by decide +kernel
theorem dX3_isOut_5 : decode cX3_isOut 5 = .ok (.getfield 14, 3) := by decide +kernel
theorem dX3_isOut_8 : decode cX3_isOut 8 = .ok (.invokevirtual 154, 3) := by decide +kernel
theorem dX3_isOut_11 : decode cX3_isOut 11 = .ok (.istore_n 1, 1) := by decide +kernel
theorem dX3_isOut_12 : decode cX3_isOut 12 = .ok (.aload_n 0, 1) := by decide +kernel
theorem dX3_isOut_13 : decode cX3_isOut 13 = .ok (.getfield 14, 3) := by decide +kernel
theorem dX3_isOut_16 : decode cX3_isOut 16 = .ok (.invokevirtual 72, 3) := by decide +kernel
theorem dX3_isOut_19 : decode cX3_isOut 19 = .ok (.iload_n 1, 1) := by decide +kernel
theorem dX3_isOut_20 : decode cX3_isOut 20 = .ok (.ireturn, 1) := by decide +kernel
theorem dX3_constant_0 : decode cX3_constant 0 = .ok (.iload_n 1, 1) := by decide +kernel
theorem dX3_constant_1 : decode cX3_constant 1 = .ok (.ifCond .lt 17, 3) := by decide +kernel
theorem dX3_constant_4 : decode cX3_constant 4 = .ok (.iload_n 1, 1) := by decide +kernel
theorem dX3_constant_5 : decode cX3_constant 5 = .ok (.bipush 80, 2) := by decide +kernel
theorem dX3_constant_7 : decode cX3_constant 7 = .ok (.if_icmp .ge 11, 3) := by decide +kernel
theorem dX3_constant_10 : decode cX3_constant 10 = .ok (.getstatic 158, 3) := by decide +kernel
theorem dX3_constant_13 : decode cX3_constant 13 = .ok (.iload_n 1, 1) := by decide +kernel
theorem dX3_constant_14 : decode cX3_constant 14 = .ok (.laload, 1) := by decide +kernel
theorem dX3_constant_15 : decode cX3_constant 15 = .ok (.goto 4, 3) := by decide +kernel
theorem dX3_constant_18 : decode cX3_constant 18 = .ok (.lconst 0, 1) := by decide +kernel
theorem dX3_constant_19 : decode cX3_constant 19 = .ok (.lreturn, 1) := by decide +kernel
theorem dX3_streamAt_0 : decode cX3_streamAt 0 = .ok (.iload_n 1, 1) := by decide +kernel
theorem dX3_streamAt_1 : decode cX3_streamAt 1 = .ok (.ifCond .lt 8, 3) := by decide +kernel
theorem dX3_streamAt_4 : decode cX3_streamAt 4 = .ok (.iload_n 1, 1) := by decide +kernel
theorem dX3_streamAt_5 : decode cX3_streamAt 5 = .ok (.iconst 4, 1) := by decide +kernel
theorem dX3_streamAt_6 : decode cX3_streamAt 6 = .ok (.if_icmp .lt 13, 3) := by decide +kernel
theorem dX3_streamAt_9 : decode cX3_streamAt 9 = .ok (.new 117, 3) := by decide +kernel
theorem dX3_streamAt_12 : decode cX3_streamAt 12 = .ok (.dup, 1) := by decide +kernel
theorem dX3_streamAt_13 : decode cX3_streamAt 13 = .ok (.ldc 162, 2) := by decide +kernel
theorem dX3_streamAt_15 : decode cX3_streamAt 15 = .ok (.invokespecial 121, 3) := by decide +kernel
theorem dX3_streamAt_18 : decode cX3_streamAt 18 = .ok (.athrow, 1) := by decide +kernel
theorem dX3_streamAt_19 : decode cX3_streamAt 19 = .ok (.aload_n 0, 1) := by decide +kernel
theorem dX3_streamAt_20 : decode cX3_streamAt 20 = .ok (.getfield 27, 3) := by decide +kernel
theorem dX3_streamAt_23 : decode cX3_streamAt 23 = .ok (.iload_n 1, 1) := by decide +kernel
theorem dX3_streamAt_24 : decode cX3_streamAt 24 = .ok (.aaload, 1) := by decide +kernel
theorem dX3_streamAt_25 : decode cX3_streamAt 25 = .ok (.areturn, 1) := by decide +kernel
theorem dX3_openStreamAt_0 : decode cX3_openStreamAt 0 = .ok (.aload_n 0, 1) := by decide +kernel
theorem dX3_openStreamAt_1 : decode cX3_openStreamAt 1 = .ok (.iload_n 1, 1) := by decide +kernel
theorem dX3_openStreamAt_2 : decode cX3_openStreamAt 2 = .ok (.invokevirtual 58, 3) := by decide +kernel
theorem dX3_openStreamAt_5 : decode cX3_openStreamAt 5 = .ok (.astore_n 2, 1) := by decide +kernel
theorem dX3_openStreamAt_6 : decode cX3_openStreamAt 6 = .ok (.aload_n 2, 1) := by decide +kernel
theorem dX3_openStreamAt_7 : decode cX3_openStreamAt 7 = .ok (.getfield 94, 3) := by decide +kernel
theorem dX3_openStreamAt_10 : decode cX3_openStreamAt 10 = .ok (.iconst (-1), 1) := by decide +kernel
theorem dX3_openStreamAt_11 : decode cX3_openStreamAt 11 = .ok (.if_icmp .eq 10, 3) := by decide +kernel
theorem dX3_openStreamAt_14 : decode cX3_openStreamAt 14 = .ok (.aload_n 2, 1) := by decide +kernel
theorem dX3_openStreamAt_15 : decode cX3_openStreamAt 15 = .ok (.getfield 110, 3) := by decide +kernel
theorem dX3_openStreamAt_18 : decode cX3_openStreamAt 18 = .ok (.ifCond .eq 13, 3) := by decide +kernel
theorem dX3_openStreamAt_21 : decode cX3_openStreamAt 21 = .ok (.new 97, 3) := by decide +kernel
theorem dX3_openStreamAt_24 : decode cX3_openStreamAt 24 = .ok (.dup, 1) := by decide +kernel
theorem dX3_openStreamAt_25 : decode cX3_openStreamAt 25 = .ok (.ldc 164, 2) := by decide +kernel
theorem dX3_openStreamAt_27 : decode cX3_openStreamAt 27 = .ok (.invokespecial 101, 3) := by decide +kernel
theorem dX3_openStreamAt_30 : decode cX3_openStreamAt 30 = .ok (.athrow, 1) := by decide +kernel
theorem dX3_openStreamAt_31 : decode cX3_openStreamAt 31 = .ok (.aload_n 2, 1) := by decide +kernel
theorem dX3_openStreamAt_32 : decode cX3_openStreamAt 32 = .ok (.areturn, 1) := by decide +kernel
theorem dX3_registerAt_0 : decode cX3_registerAt 0 = .ok (.iload_n 1, 1) := by decide +kernel
theorem dX3_registerAt_1 : decode cX3_registerAt 1 = .ok (.ifCond .lt 8, 3) := by decide +kernel
theorem dX3_registerAt_4 : decode cX3_registerAt 4 = .ok (.iload_n 1, 1) := by decide +kernel
theorem dX3_registerAt_5 : decode cX3_registerAt 5 = .ok (.iconst 3, 1) := by decide +kernel
theorem dX3_registerAt_6 : decode cX3_registerAt 6 = .ok (.if_icmp .lt 13, 3) := by decide +kernel
theorem dX3_registerAt_9 : decode cX3_registerAt 9 = .ok (.new 117, 3) := by decide +kernel
theorem dX3_registerAt_12 : decode cX3_registerAt 12 = .ok (.dup, 1) := by decide +kernel
theorem dX3_registerAt_13 : decode cX3_registerAt 13 = .ok (.ldc 166, 2) := by decide +kernel
theorem dX3_registerAt_15 : decode cX3_registerAt 15 = .ok (.invokespecial 121, 3) := by decide +kernel
theorem dX3_registerAt_18 : decode cX3_registerAt 18 = .ok (.athrow, 1) := by decide +kernel
theorem dX3_registerAt_19 : decode cX3_registerAt 19 = .ok (.aload_n 0, 1) := by decide +kernel
theorem dX3_registerAt_20 : decode cX3_registerAt 20 = .ok (.getfield 21, 3) := by decide +kernel
theorem dX3_registerAt_23 : decode cX3_registerAt 23 = .ok (.iload_n 1, 1) := by decide +kernel
theorem dX3_registerAt_24 : decode cX3_registerAt 24 = .ok (.aaload, 1) := by decide +kernel
theorem dX3_registerAt_25 : decode cX3_registerAt 25 = .ok (.areturn, 1) := by decide +kernel
theorem dX3_checkKind_0 : decode cX3_checkKind 0 = .ok (.iload_n 0, 1) := by decide +kernel
theorem dX3_checkKind_1 : decode cX3_checkKind 1 = .ok (.ifCond .lt 8, 3) := by decide +kernel
theorem dX3_checkKind_4 : decode cX3_checkKind 4 = .ok (.iload_n 0, 1) := by decide +kernel
theorem dX3_checkKind_5 : decode cX3_checkKind 5 = .ok (.iconst 4, 1) := by decide +kernel
theorem dX3_checkKind_6 : decode cX3_checkKind 6 = .ok (.if_icmp .lt 13, 3) := by decide +kernel
theorem dX3_checkKind_9 : decode cX3_checkKind 9 = .ok (.new 42, 3) := by decide +kernel
theorem dX3_checkKind_12 : decode cX3_checkKind 12 = .ok (.dup, 1) := by decide +kernel
theorem dX3_checkKind_13 : decode cX3_checkKind 13 = .ok (.ldc 168, 2) := by decide +kernel
theorem dX3_checkKind_15 : decode cX3_checkKind 15 = .ok (.invokespecial 46, 3) := by decide +kernel
theorem dX3_checkKind_18 : decode cX3_checkKind 18 = .ok (.athrow, 1) := by decide +kernel
theorem dX3_checkKind_19 : decode cX3_checkKind 19 = .ok (.return_, 1) := by decide +kernel
theorem dX3_digestSize_0 : decode cX3_digestSize 0 = .ok (.iload_n 0, 1) := by decide +kernel
theorem dX3_digestSize_1 : decode cX3_digestSize 1 = .ok (.ifCond .lt 16, 3) := by decide +kernel
theorem dX3_digestSize_4 : decode cX3_digestSize 4 = .ok (.iload_n 0, 1) := by decide +kernel
theorem dX3_digestSize_5 : decode cX3_digestSize 5 = .ok (.iconst 4, 1) := by decide +kernel
theorem dX3_digestSize_6 : decode cX3_digestSize 6 = .ok (.if_icmp .ge 11, 3) := by decide +kernel
theorem dX3_digestSize_9 : decode cX3_digestSize 9 = .ok (.getstatic 170, 3) := by decide +kernel
theorem dX3_digestSize_12 : decode cX3_digestSize 12 = .ok (.iload_n 0, 1) := by decide +kernel
theorem dX3_digestSize_13 : decode cX3_digestSize 13 = .ok (.iaload, 1) := by decide +kernel
theorem dX3_digestSize_14 : decode cX3_digestSize 14 = .ok (.goto 4, 3) := by decide +kernel
theorem dX3_digestSize_17 : decode cX3_digestSize 17 = .ok (.iconst 0, 1) := by decide +kernel
theorem dX3_digestSize_18 : decode cX3_digestSize 18 = .ok (.ireturn, 1) := by decide +kernel
theorem dX3_isWide_0 : decode cX3_isWide 0 = .ok (.iload_n 0, 1) := by decide +kernel
theorem dX3_isWide_1 : decode cX3_isWide 1 = .ok (.iconst 2, 1) := by decide +kernel
theorem dX3_isWide_2 : decode cX3_isWide 2 = .ok (.if_icmp .lt 7, 3) := by decide +kernel
theorem dX3_isWide_5 : decode cX3_isWide 5 = .ok (.iconst 1, 1) := by decide +kernel
theorem dX3_isWide_6 : decode cX3_isWide 6 = .ok (.goto 4, 3) := by decide +kernel
theorem dX3_isWide_9 : decode cX3_isWide 9 = .ok (.iconst 0, 1) := by decide +kernel
theorem dX3_isWide_10 : decode cX3_isWide 10 = .ok (.ireturn, 1) := by decide +kernel
theorem dX3_blockSize_0 : decode cX3_blockSize 0 = .ok (.iload_n 0, 1) := by decide +kernel
theorem dX3_blockSize_1 : decode cX3_blockSize 1 = .ok (.invokestatic 174, 3) := by decide +kernel
theorem dX3_blockSize_4 : decode cX3_blockSize 4 = .ok (.ifCond .eq 9, 3) := by decide +kernel
theorem dX3_blockSize_7 : decode cX3_blockSize 7 = .ok (.sipush 128, 3) := by decide +kernel
theorem dX3_blockSize_10 : decode cX3_blockSize 10 = .ok (.goto 5, 3) := by decide +kernel
theorem dX3_blockSize_13 : decode cX3_blockSize 13 = .ok (.bipush 64, 2) := by decide +kernel
theorem dX3_blockSize_15 : decode cX3_blockSize 15 = .ok (.ireturn, 1) := by decide +kernel
theorem dX3_nextLink_0 : decode cX3_nextLink 0 = .ok (.aload_n 0, 1) := by decide +kernel
theorem dX3_nextLink_1 : decode cX3_nextLink 1 = .ok (.getfield 32, 3) := by decide +kernel
theorem dX3_nextLink_4 : decode cX3_nextLink 4 = .ok (.invokevirtual 178, 3) := by decide +kernel
theorem dX3_nextLink_7 : decode cX3_nextLink 7 = .ok (.aload_n 0, 1) := by decide +kernel
theorem dX3_nextLink_8 : decode cX3_nextLink 8 = .ok (.getfield 32, 3) := by decide +kernel
theorem dX3_nextLink_11 : decode cX3_nextLink 11 = .ok (.aload_n 0, 1) := by decide +kernel
theorem dX3_nextLink_12 : decode cX3_nextLink 12 = .ok (.getfield 36, 3) := by decide +kernel
theorem dX3_nextLink_15 : decode cX3_nextLink 15 = .ok (.invokevirtual 78, 3) := by decide +kernel
theorem dX3_nextLink_18 : decode cX3_nextLink 18 = .ok (.aload_n 0, 1) := by decide +kernel
theorem dX3_nextLink_19 : decode cX3_nextLink 19 = .ok (.getfield 32, 3) := by decide +kernel
theorem dX3_nextLink_22 : decode cX3_nextLink 22 = .ok (.aload_n 0, 1) := by decide +kernel
theorem dX3_nextLink_23 : decode cX3_nextLink 23 = .ok (.getfield 21, 3) := by decide +kernel
theorem dX3_nextLink_26 : decode cX3_nextLink 26 = .ok (.iconst 2, 1) := by decide +kernel
theorem dX3_nextLink_27 : decode cX3_nextLink 27 = .ok (.aaload, 1) := by decide +kernel
theorem dX3_nextLink_28 : decode cX3_nextLink 28 = .ok (.invokevirtual 78, 3) := by decide +kernel
theorem dX3_nextLink_31 : decode cX3_nextLink 31 = .ok (.aload_n 0, 1) := by decide +kernel
theorem dX3_nextLink_32 : decode cX3_nextLink 32 = .ok (.getfield 32, 3) := by decide +kernel
theorem dX3_nextLink_35 : decode cX3_nextLink 35 = .ok (.iload_n 1, 1) := by decide +kernel
theorem dX3_nextLink_36 : decode cX3_nextLink 36 = .ok (.invokevirtual 88, 3) := by decide +kernel
theorem dX3_nextLink_39 : decode cX3_nextLink 39 = .ok (.aload_n 0, 1) := by decide +kernel
theorem dX3_nextLink_40 : decode cX3_nextLink 40 = .ok (.getfield 32, 3) := by decide +kernel
theorem dX3_nextLink_43 : decode cX3_nextLink 43 = .ok (.aload_n 0, 1) := by decide +kernel
theorem dX3_nextLink_44 : decode cX3_nextLink 44 = .ok (.getfield 36, 3) := by decide +kernel
theorem dX3_nextLink_47 : decode cX3_nextLink 47 = .ok (.invokevirtual 91, 3) := by decide +kernel
theorem dX3_nextLink_50 : decode cX3_nextLink 50 = .ok (.return_, 1) := by decide +kernel
theorem dX3_sumTurns_0 : decode cX3_sumTurns 0 = .ok (.aload_n 0, 1) := by decide +kernel
theorem dX3_sumTurns_1 : decode cX3_sumTurns 1 = .ok (.getfield 32, 3) := by decide +kernel
theorem dX3_sumTurns_4 : decode cX3_sumTurns 4 = .ok (.invokevirtual 178, 3) := by decide +kernel
theorem dX3_sumTurns_7 : decode cX3_sumTurns 7 = .ok (.aload_n 0, 1) := by decide +kernel
theorem dX3_sumTurns_8 : decode cX3_sumTurns 8 = .ok (.getfield 32, 3) := by decide +kernel
theorem dX3_sumTurns_11 : decode cX3_sumTurns 11 = .ok (.aload_n 0, 1) := by decide +kernel
theorem dX3_sumTurns_12 : decode cX3_sumTurns 12 = .ok (.getfield 21, 3) := by decide +kernel
theorem dX3_sumTurns_15 : decode cX3_sumTurns 15 = .ok (.iconst 1, 1) := by decide +kernel
theorem dX3_sumTurns_16 : decode cX3_sumTurns 16 = .ok (.aaload, 1) := by decide +kernel
theorem dX3_sumTurns_17 : decode cX3_sumTurns 17 = .ok (.invokevirtual 78, 3) := by decide +kernel
theorem dX3_sumTurns_20 : decode cX3_sumTurns 20 = .ok (.bipush 24, 2) := by decide +kernel
theorem dX3_sumTurns_22 : decode cX3_sumTurns 22 = .ok (.istore_n 3, 1) := by decide +kernel
theorem dX3_sumTurns_23 : decode cX3_sumTurns 23 = .ok (.iload_n 3, 1) := by decide +kernel
theorem dX3_sumTurns_24 : decode cX3_sumTurns 24 = .ok (.ifCond .lt 19, 3) := by decide +kernel
theorem dX3_sumTurns_27 : decode cX3_sumTurns 27 = .ok (.aload_n 0, 1) := by decide +kernel
theorem dX3_sumTurns_28 : decode cX3_sumTurns 28 = .ok (.getfield 32, 3) := by decide +kernel
theorem dX3_sumTurns_31 : decode cX3_sumTurns 31 = .ok (.iload_n 1, 1) := by decide +kernel
theorem dX3_sumTurns_32 : decode cX3_sumTurns 32 = .ok (.iload_n 3, 1) := by decide +kernel
theorem dX3_sumTurns_33 : decode cX3_sumTurns 33 = .ok (.iushr, 1) := by decide +kernel
theorem dX3_sumTurns_34 : decode cX3_sumTurns 34 = .ok (.invokevirtual 88, 3) := by decide +kernel
theorem dX3_sumTurns_37 : decode cX3_sumTurns 37 = .ok (.iinc 3 (-8), 3) := by decide +kernel
theorem dX3_sumTurns_40 : decode cX3_sumTurns 40 = .ok (.goto (-17), 3) := by decide +kernel
theorem dX3_sumTurns_43 : decode cX3_sumTurns 43 = .ok (.aload_n 0, 1) := by decide +kernel
theorem dX3_sumTurns_44 : decode cX3_sumTurns 44 = .ok (.getfield 32, 3) := by decide +kernel
theorem dX3_sumTurns_47 : decode cX3_sumTurns 47 = .ok (.aload_n 0, 1) := by decide +kernel
theorem dX3_sumTurns_48 : decode cX3_sumTurns 48 = .ok (.getfield 36, 3) := by decide +kernel
theorem dX3_sumTurns_51 : decode cX3_sumTurns 51 = .ok (.invokevirtual 91, 3) := by decide +kernel
theorem dX3_sumTurns_54 : decode cX3_sumTurns 54 = .ok (.aload_n 0, 1) := by decide +kernel
theorem dX3_sumTurns_55 : decode cX3_sumTurns 55 = .ok (.getfield 39, 3) := by decide +kernel
theorem dX3_sumTurns_58 : decode cX3_sumTurns 58 = .ok (.aload_n 0, 1) := by decide +kernel
theorem dX3_sumTurns_59 : decode cX3_sumTurns 59 = .ok (.getfield 36, 3) := by decide +kernel
theorem dX3_sumTurns_62 : decode cX3_sumTurns 62 = .ok (.invokevirtual 126, 3) := by decide +kernel
theorem dX3_sumTurns_65 : decode cX3_sumTurns 65 = .ok (.iconst 2, 1) := by decide +kernel
theorem dX3_sumTurns_66 : decode cX3_sumTurns 66 = .ok (.istore_n 3, 1) := by decide +kernel
theorem dX3_sumTurns_67 : decode cX3_sumTurns 67 = .ok (.iload_n 3, 1) := by decide +kernel
theorem dX3_sumTurns_68 : decode cX3_sumTurns 68 = .ok (.iload_n 2, 1) := by decide +kernel
theorem dX3_sumTurns_69 : decode cX3_sumTurns 69 = .ok (.if_icmp .gt 49, 3) := by decide +kernel
theorem dX3_sumTurns_72 : decode cX3_sumTurns 72 = .ok (.aload_n 0, 1) := by decide +kernel
theorem dX3_sumTurns_73 : decode cX3_sumTurns 73 = .ok (.getfield 32, 3) := by decide +kernel
theorem dX3_sumTurns_76 : decode cX3_sumTurns 76 = .ok (.invokevirtual 178, 3) := by decide +kernel
theorem dX3_sumTurns_79 : decode cX3_sumTurns 79 = .ok (.aload_n 0, 1) := by decide +kernel
theorem dX3_sumTurns_80 : decode cX3_sumTurns 80 = .ok (.getfield 32, 3) := by decide +kernel
theorem dX3_sumTurns_83 : decode cX3_sumTurns 83 = .ok (.aload_n 0, 1) := by decide +kernel
theorem dX3_sumTurns_84 : decode cX3_sumTurns 84 = .ok (.getfield 36, 3) := by decide +kernel
theorem dX3_sumTurns_87 : decode cX3_sumTurns 87 = .ok (.invokevirtual 78, 3) := by decide +kernel
theorem dX3_sumTurns_90 : decode cX3_sumTurns 90 = .ok (.aload_n 0, 1) := by decide +kernel
theorem dX3_sumTurns_91 : decode cX3_sumTurns 91 = .ok (.getfield 32, 3) := by decide +kernel
theorem dX3_sumTurns_94 : decode cX3_sumTurns 94 = .ok (.aload_n 0, 1) := by decide +kernel
theorem dX3_sumTurns_95 : decode cX3_sumTurns 95 = .ok (.getfield 36, 3) := by decide +kernel
theorem dX3_sumTurns_98 : decode cX3_sumTurns 98 = .ok (.invokevirtual 91, 3) := by decide +kernel
theorem dX3_sumTurns_101 : decode cX3_sumTurns 101 = .ok (.aload_n 0, 1) := by decide +kernel
theorem dX3_sumTurns_102 : decode cX3_sumTurns 102 = .ok (.getfield 39, 3) := by decide +kernel
theorem dX3_sumTurns_105 : decode cX3_sumTurns 105 = .ok (.aload_n 0, 1) := by decide +kernel
theorem dX3_sumTurns_106 : decode cX3_sumTurns 106 = .ok (.getfield 36, 3) := by decide +kernel
theorem dX3_sumTurns_109 : decode cX3_sumTurns 109 = .ok (.invokevirtual 181, 3) := by decide +kernel
theorem dX3_sumTurns_112 : decode cX3_sumTurns 112 = .ok (.iinc 3 1, 3) := by decide +kernel
