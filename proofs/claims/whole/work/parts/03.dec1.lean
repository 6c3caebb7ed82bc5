theorem dX0_init_0 : decode cX0_init 0 = .ok (.aload_n 0, 1) := by decide +kernel
theorem dX0_init_1 : decode cX0_init 1 = .ok (.invokespecial 3, 3) := by decide +kernel
theorem dX0_init_4 : decode cX0_init 4 = .ok (.aload_n 0, 1) := by decide +kernel
theorem dX0_init_5 : decode cX0_init 5 = .ok (.bipush 8, 2) := by decide +kernel
theorem dX0_init_7 : decode cX0_init 7 = .ok (.newarray .long, 2) := by decide +kernel
theorem dX0_init_9 : decode cX0_init 9 = .ok (.putfield 9, 3) := by decide +kernel
theorem dX0_init_12 : decode cX0_init 12 = .ok (.aload_n 0, 1) := by decide +kernel
theorem dX0_init_13 : decode cX0_init 13 = .ok (.sipush 128, 3) := by decide +kernel
theorem dX0_init_16 : decode cX0_init 16 = .ok (.newarray .byte, 2) := by decide +kernel
theorem dX0_init_18 : decode cX0_init 18 = .ok (.putfield 15, 3) := by decide +kernel
theorem dX0_init_21 : decode cX0_init 21 = .ok (.aload_n 0, 1) := by decide +kernel
theorem dX0_init_22 : decode cX0_init 22 = .ok (.bipush 64, 2) := by decide +kernel
theorem dX0_init_24 : decode cX0_init 24 = .ok (.newarray .int, 2) := by decide +kernel
theorem dX0_init_26 : decode cX0_init 26 = .ok (.putfield 19, 3) := by decide +kernel
theorem dX0_init_29 : decode cX0_init 29 = .ok (.aload_n 0, 1) := by decide +kernel
theorem dX0_init_30 : decode cX0_init 30 = .ok (.bipush 80, 2) := by decide +kernel
theorem dX0_init_32 : decode cX0_init 32 = .ok (.newarray .long, 2) := by decide +kernel
theorem dX0_init_34 : decode cX0_init 34 = .ok (.putfield 23, 3) := by decide +kernel
theorem dX0_init_37 : decode cX0_init 37 = .ok (.return_, 1) := by decide +kernel
theorem dX0_start_0 : decode cX0_start 0 = .ok (.aload_n 0, 1) := by decide +kernel
theorem dX0_start_1 : decode cX0_start 1 = .ok (.iload_n 1, 1) := by decide +kernel
theorem dX0_start_2 : decode cX0_start 2 = .ok (.putfield 26, 3) := by decide +kernel
theorem dX0_start_5 : decode cX0_start 5 = .ok (.aload_n 0, 1) := by decide +kernel
theorem dX0_start_6 : decode cX0_start 6 = .ok (.iconst 0, 1) := by decide +kernel
theorem dX0_start_7 : decode cX0_start 7 = .ok (.putfield 30, 3) := by decide +kernel
theorem dX0_start_10 : decode cX0_start 10 = .ok (.aload_n 0, 1) := by decide +kernel
theorem dX0_start_11 : decode cX0_start 11 = .ok (.lconst 0, 1) := by decide +kernel
theorem dX0_start_12 : decode cX0_start 12 = .ok (.putfield 33, 3) := by decide +kernel
theorem dX0_start_15 : decode cX0_start 15 = .ok (.iconst 0, 1) := by decide +kernel
theorem dX0_start_16 : decode cX0_start 16 = .ok (.istore_n 2, 1) := by decide +kernel
theorem dX0_start_17 : decode cX0_start 17 = .ok (.iload_n 2, 1) := by decide +kernel
theorem dX0_start_18 : decode cX0_start 18 = .ok (.bipush 8, 2) := by decide +kernel
theorem dX0_start_20 : decode cX0_start 20 = .ok (.if_icmp .ge 20, 3) := by decide +kernel
theorem dX0_start_23 : decode cX0_start 23 = .ok (.aload_n 0, 1) := by decide +kernel
theorem dX0_start_24 : decode cX0_start 24 = .ok (.getfield 9, 3) := by decide +kernel
theorem dX0_start_27 : decode cX0_start 27 = .ok (.iload_n 2, 1) := by decide +kernel
theorem dX0_start_28 : decode cX0_start 28 = .ok (.iload_n 1, 1) := by decide +kernel
theorem dX0_start_29 : decode cX0_start 29 = .ok (.iload_n 2, 1) := by decide +kernel
theorem dX0_start_30 : decode cX0_start 30 = .ok (.invokestatic 37, 3) := by decide +kernel
theorem dX0_start_33 : decode cX0_start 33 = .ok (.lastore, 1) := by decide +kernel
theorem dX0_start_34 : decode cX0_start 34 = .ok (.iinc 2 1, 3) := by decide +kernel
theorem dX0_start_37 : decode cX0_start 37 = .ok (.goto (-20), 3) := by decide +kernel
theorem dX0_start_40 : decode cX0_start 40 = .ok (.return_, 1) := by decide +kernel
theorem dX0_firstWord_0 : decode cX0_firstWord 0 = .ok (.iload_n 1, 1) := by decide +kernel
theorem dX0_firstWord_1 : decode cX0_firstWord 1 = .ok (.ifCond .lt 9, 3) := by decide +kernel
theorem dX0_firstWord_4 : decode cX0_firstWord 4 = .ok (.iload_n 1, 1) := by decide +kernel
theorem dX0_firstWord_5 : decode cX0_firstWord 5 = .ok (.bipush 8, 2) := by decide +kernel
theorem dX0_firstWord_7 : decode cX0_firstWord 7 = .ok (.if_icmp .lt 5, 3) := by decide +kernel
theorem dX0_firstWord_10 : decode cX0_firstWord 10 = .ok (.lconst 0, 1) := by decide +kernel
theorem dX0_firstWord_11 : decode cX0_firstWord 11 = .ok (.lreturn, 1) := by decide +kernel
theorem dX0_firstWord_12 : decode cX0_firstWord 12 = .ok (.iload_n 0, 1) := by decide +kernel
theorem dX0_firstWord_13 : decode cX0_firstWord 13 = .ok (.tableswitch 52 0 2 #[27, 37, 46], 27) := by decide +kernel
theorem dX0_firstWord_40 : decode cX0_firstWord 40 = .ok (.getstatic 41, 3) := by decide +kernel
theorem dX0_firstWord_43 : decode cX0_firstWord 43 = .ok (.iload_n 1, 1) := by decide +kernel
theorem dX0_firstWord_44 : decode cX0_firstWord 44 = .ok (.laload, 1) := by decide +kernel
theorem dX0_firstWord_45 : decode cX0_firstWord 45 = .ok (.ldc2_w 44, 3) := by decide +kernel
theorem dX0_firstWord_48 : decode cX0_firstWord 48 = .ok (.land, 1) := by decide +kernel
theorem dX0_firstWord_49 : decode cX0_firstWord 49 = .ok (.lreturn, 1) := by decide +kernel
theorem dX0_firstWord_50 : decode cX0_firstWord 50 = .ok (.getstatic 46, 3) := by decide +kernel
theorem dX0_firstWord_53 : decode cX0_firstWord 53 = .ok (.iload_n 1, 1) := by decide +kernel
theorem dX0_firstWord_54 : decode cX0_firstWord 54 = .ok (.laload, 1) := by decide +kernel
theorem dX0_firstWord_55 : decode cX0_firstWord 55 = .ok (.bipush 32, 2) := by decide +kernel
theorem dX0_firstWord_57 : decode cX0_firstWord 57 = .ok (.lushr, 1) := by decide +kernel
theorem dX0_firstWord_58 : decode cX0_firstWord 58 = .ok (.lreturn, 1) := by decide +kernel
theorem dX0_firstWord_59 : decode cX0_firstWord 59 = .ok (.getstatic 41, 3) := by decide +kernel
theorem dX0_firstWord_62 : decode cX0_firstWord 62 = .ok (.iload_n 1, 1) := by decide +kernel
theorem dX0_firstWord_63 : decode cX0_firstWord 63 = .ok (.laload, 1) := by decide +kernel
theorem dX0_firstWord_64 : decode cX0_firstWord 64 = .ok (.lreturn, 1) := by decide +kernel
theorem dX0_firstWord_65 : decode cX0_firstWord 65 = .ok (.getstatic 46, 3) := by decide +kernel
theorem dX0_firstWord_68 : decode cX0_firstWord 68 = .ok (.iload_n 1, 1) := by decide +kernel
theorem dX0_firstWord_69 : decode cX0_firstWord 69 = .ok (.laload, 1) := by decide +kernel
theorem dX0_firstWord_70 : decode cX0_firstWord 70 = .ok (.lreturn, 1) := by decide +kernel
theorem dX0_startBehindBlock_0 : decode cX0_startBehindBlock 0 = .ok (.aload_n 0, 1) := by decide +kernel
theorem dX0_startBehindBlock_1 : decode cX0_startBehindBlock 1 = .ok (.iload_n 1, 1) := by decide +kernel
theorem dX0_startBehindBlock_2 : decode cX0_startBehindBlock 2 = .ok (.putfield 26, 3) := by decide +kernel
theorem dX0_startBehindBlock_5 : decode cX0_startBehindBlock 5 = .ok (.aload_n 0, 1) := by decide +kernel
theorem dX0_startBehindBlock_6 : decode cX0_startBehindBlock 6 = .ok (.iconst 0, 1) := by decide +kernel
theorem dX0_startBehindBlock_7 : decode cX0_startBehindBlock 7 = .ok (.putfield 30, 3) := by decide +kernel
theorem dX0_startBehindBlock_10 : decode cX0_startBehindBlock 10 = .ok (.aload_n 0, 1) := by decide +kernel
theorem dX0_startBehindBlock_11 : decode cX0_startBehindBlock 11 = .ok (.iload_n 1, 1) := by decide +kernel
theorem dX0_startBehindBlock_12 : decode cX0_startBehindBlock 12 = .ok (.invokestatic 49, 3) := by decide +kernel
theorem dX0_startBehindBlock_15 : decode cX0_startBehindBlock 15 = .ok (.i2l, 1) := by decide +kernel
theorem dX0_startBehindBlock_16 : decode cX0_startBehindBlock 16 = .ok (.putfield 33, 3) := by decide +kernel
theorem dX0_startBehindBlock_19 : decode cX0_startBehindBlock 19 = .ok (.iconst 0, 1) := by decide +kernel
theorem dX0_startBehindBlock_20 : decode cX0_startBehindBlock 20 = .ok (.istore_n 3, 1) := by decide +kernel
theorem dX0_startBehindBlock_21 : decode cX0_startBehindBlock 21 = .ok (.iload_n 3, 1) := by decide +kernel
theorem dX0_startBehindBlock_22 : decode cX0_startBehindBlock 22 = .ok (.bipush 8, 2) := by decide +kernel
theorem dX0_startBehindBlock_24 : decode cX0_startBehindBlock 24 = .ok (.if_icmp .ge 24, 3) := by decide +kernel
theorem dX0_startBehindBlock_27 : decode cX0_startBehindBlock 27 = .ok (.iload_n 3, 1) := by decide +kernel
theorem dX0_startBehindBlock_28 : decode cX0_startBehindBlock 28 = .ok (.aload_n 2, 1) := by decide +kernel
theorem dX0_startBehindBlock_29 : decode cX0_startBehindBlock 29 = .ok (.arraylength, 1) := by decide +kernel
theorem dX0_startBehindBlock_30 : decode cX0_startBehindBlock 30 = .ok (.if_icmp .ge 18, 3) := by decide +kernel
theorem dX0_startBehindBlock_33 : decode cX0_startBehindBlock 33 = .ok (.aload_n 0, 1) := by decide +kernel
theorem dX0_startBehindBlock_34 : decode cX0_startBehindBlock 34 = .ok (.getfield 9, 3) := by decide +kernel
theorem dX0_startBehindBlock_37 : decode cX0_startBehindBlock 37 = .ok (.iload_n 3, 1) := by decide +kernel
theorem dX0_startBehindBlock_38 : decode cX0_startBehindBlock 38 = .ok (.aload_n 2, 1) := by decide +kernel
theorem dX0_startBehindBlock_39 : decode cX0_startBehindBlock 39 = .ok (.iload_n 3, 1) := by decide +kernel
theorem dX0_startBehindBlock_40 : decode cX0_startBehindBlock 40 = .ok (.laload, 1) := by decide +kernel
theorem dX0_startBehindBlock_41 : decode cX0_startBehindBlock 41 = .ok (.lastore, 1) := by decide +kernel
theorem dX0_startBehindBlock_42 : decode cX0_startBehindBlock 42 = .ok (.iinc 3 1, 3) := by decide +kernel
theorem dX0_startBehindBlock_45 : decode cX0_startBehindBlock 45 = .ok (.goto (-24), 3) := by decide +kernel
theorem dX0_startBehindBlock_48 : decode cX0_startBehindBlock 48 = .ok (.return_, 1) := by decide +kernel
theorem dX0_saveWords_0 : decode cX0_saveWords 0 = .ok (.iconst 0, 1) := by decide +kernel
theorem dX0_saveWords_1 : decode cX0_saveWords 1 = .ok (.istore_n 2, 1) := by decide +kernel
theorem dX0_saveWords_2 : decode cX0_saveWords 2 = .ok (.iload_n 2, 1) := by decide +kernel
theorem dX0_saveWords_3 : decode cX0_saveWords 3 = .ok (.bipush 8, 2) := by decide +kernel
theorem dX0_saveWords_5 : decode cX0_saveWords 5 = .ok (.if_icmp .ge 24, 3) := by decide +kernel
theorem dX0_saveWords_8 : decode cX0_saveWords 8 = .ok (.iload_n 2, 1) := by decide +kernel
theorem dX0_saveWords_9 : decode cX0_saveWords 9 = .ok (.aload_n 1, 1) := by decide +kernel
theorem dX0_saveWords_10 : decode cX0_saveWords 10 = .ok (.arraylength, 1) := by decide +kernel
theorem dX0_saveWords_11 : decode cX0_saveWords 11 = .ok (.if_icmp .ge 18, 3) := by decide +kernel
theorem dX0_saveWords_14 : decode cX0_saveWords 14 = .ok (.aload_n 1, 1) := by decide +kernel
theorem dX0_saveWords_15 : decode cX0_saveWords 15 = .ok (.iload_n 2, 1) := by decide +kernel
theorem dX0_saveWords_16 : decode cX0_saveWords 16 = .ok (.aload_n 0, 1) := by decide +kernel
theorem dX0_saveWords_17 : decode cX0_saveWords 17 = .ok (.getfield 9, 3) := by decide +kernel
theorem dX0_saveWords_20 : decode cX0_saveWords 20 = .ok (.iload_n 2, 1) := by decide +kernel
theorem dX0_saveWords_21 : decode cX0_saveWords 21 = .ok (.laload, 1) := by decide +kernel
theorem dX0_saveWords_22 : decode cX0_saveWords 22 = .ok (.lastore, 1) := by decide +kernel
theorem dX0_saveWords_23 : decode cX0_saveWords 23 = .ok (.iinc 2 1, 3) := by decide +kernel
theorem dX0_saveWords_26 : decode cX0_saveWords 26 = .ok (.goto (-24), 3) := by decide +kernel
theorem dX0_saveWords_29 : decode cX0_saveWords 29 = .ok (.return_, 1) := by decide +kernel
theorem dX0_become_0 : decode cX0_become 0 = .ok (.aload_n 0, 1) := by decide +kernel
theorem dX0_become_1 : decode cX0_become 1 = .ok (.aload_n 1, 1) := by decide +kernel
theorem dX0_become_2 : decode cX0_become 2 = .ok (.getfield 26, 3) := by decide +kernel
theorem dX0_become_5 : decode cX0_become 5 = .ok (.putfield 26, 3) := by decide +kernel
theorem dX0_become_8 : decode cX0_become 8 = .ok (.aload_n 0, 1) := by decide +kernel
theorem dX0_become_9 : decode cX0_become 9 = .ok (.aload_n 1, 1) := by decide +kernel
theorem dX0_become_10 : decode cX0_become 10 = .ok (.getfield 30, 3) := by decide +kernel
theorem dX0_become_13 : decode cX0_become 13 = .ok (.putfield 30, 3) := by decide +kernel
theorem dX0_become_16 : decode cX0_become 16 = .ok (.aload_n 0, 1) := by decide +kernel
theorem dX0_become_17 : decode cX0_become 17 = .ok (.aload_n 1, 1) := by decide +kernel
theorem dX0_become_18 : decode cX0_become 18 = .ok (.getfield 33, 3) := by decide +kernel
theorem dX0_become_21 : decode cX0_become 21 = .ok (.putfield 33, 3) := by decide +kernel
theorem dX0_become_24 : decode cX0_become 24 = .ok (.aload_n 1, 1) := by decide +kernel
theorem dX0_become_25 : decode cX0_become 25 = .ok (.getfield 9, 3) := by decide +kernel
theorem dX0_become_28 : decode cX0_become 28 = .ok (.iconst 0, 1) := by decide +kernel
theorem dX0_become_29 : decode cX0_become 29 = .ok (.aload_n 0, 1) := by decide +kernel
theorem dX0_become_30 : decode cX0_become 30 = .ok (.getfield 9, 3) := by decide +kernel
theorem dX0_become_33 : decode cX0_become 33 = .ok (.iconst 0, 1) := by decide +kernel
theorem dX0_become_34 : decode cX0_become 34 = .ok (.bipush 8, 2) := by decide +kernel
theorem dX0_become_36 : decode cX0_become 36 = .ok (.invokestatic 53, 3) := by decide +kernel
theorem dX0_become_39 : decode cX0_become 39 = .ok (.aload_n 1, 1) := by decide +kernel
theorem dX0_become_40 : decode cX0_become 40 = .ok (.getfield 15, 3) := by decide +kernel
theorem dX0_become_43 : decode cX0_become 43 = .ok (.iconst 0, 1) := by decide +kernel
theorem dX0_become_44 : decode cX0_become 44 = .ok (.aload_n 0, 1) := by decide +kernel
theorem dX0_become_45 : decode cX0_become 45 = .ok (.getfield 15, 3) := by decide +kernel
theorem dX0_become_48 : decode cX0_become 48 = .ok (.iconst 0, 1) := by decide +kernel
theorem dX0_become_49 : decode cX0_become 49 = .ok (.sipush 128, 3) := by decide +kernel
theorem dX0_become_52 : decode cX0_become 52 = .ok (.invokestatic 53, 3) := by decide +kernel
theorem dX0_become_55 : decode cX0_become 55 = .ok (.return_, 1) := by decide +kernel
theorem dX0_add_0 : decode cX0_add 0 = .ok (.aload_n 0, 1) := by decide +kernel
theorem dX0_add_1 : decode cX0_add 1 = .ok (.dup, 1) := by decide +kernel
theorem dX0_add_2 : decode cX0_add 2 = .ok (.getfield 33, 3) := by decide +kernel
theorem dX0_add_5 : decode cX0_add 5 = .ok (.lconst 1, 1) := by decide +kernel
theorem dX0_add_6 : decode cX0_add 6 = .ok (.ladd, 1) := by decide +kernel
theorem dX0_add_7 : decode cX0_add 7 = .ok (.putfield 33, 3) := by decide +kernel
theorem dX0_add_10 : decode cX0_add 10 = .ok (.aload_n 0, 1) := by decide +kernel
theorem dX0_add_11 : decode cX0_add 11 = .ok (.iload_n 1, 1) := by decide +kernel
theorem dX0_add_12 : decode cX0_add 12 = .ok (.invokevirtual 59, 3) := by decide +kernel
theorem dX0_add_15 : decode cX0_add 15 = .ok (.return_, 1) := by decide +kernel
theorem dX0_addRow_0 : decode cX0_addRow 0 = .ok (.aload_n 0, 1) := by decide +kernel
theorem dX0_addRow_1 : decode cX0_addRow 1 = .ok (.dup, 1) := by decide +kernel
theorem dX0_addRow_2 : decode cX0_addRow 2 = .ok (.getfield 33, 3) := by decide +kernel
theorem dX0_addRow_5 : decode cX0_addRow 5 = .ok (.aload_n 1, 1) := by decide +kernel
theorem dX0_addRow_6 : decode cX0_addRow 6 = .ok (.getfield 63, 3) := by decide +kernel
theorem dX0_addRow_9 : decode cX0_addRow 9 = .ok (.i2l, 1) := by decide +kernel
theorem dX0_addRow_10 : decode cX0_addRow 10 = .ok (.ladd, 1) := by decide +kernel
theorem dX0_addRow_11 : decode cX0_addRow 11 = .ok (.putfield 33, 3) := by decide +kernel
theorem dX0_addRow_14 : decode cX0_addRow 14 = .ok (.iconst 0, 1) := by decide +kernel
theorem dX0_addRow_15 : decode cX0_addRow 15 = .ok (.istore_n 2, 1) := by decide +kernel
theorem dX0_addRow_16 : decode cX0_addRow 16 = .ok (.iload_n 2, 1) := by decide +kernel
theorem dX0_addRow_17 : decode cX0_addRow 17 = .ok (.aload_n 1, 1) := by decide +kernel
theorem dX0_addRow_18 : decode cX0_addRow 18 = .ok (.getfield 63, 3) := by decide +kernel
theorem dX0_addRow_21 : decode cX0_addRow 21 = .ok (.if_icmp .ge 18, 3) := by decide +kernel
theorem dX0_addRow_24 : decode cX0_addRow 24 = .ok (.aload_n 0, 1) := by decide +kernel
theorem dX0_addRow_25 : decode cX0_addRow 25 = .ok (.aload_n 1, 1) := by decide +kernel
theorem dX0_addRow_26 : decode cX0_addRow 26 = .ok (.iload_n 2, 1) := by decide +kernel
theorem dX0_addRow_27 : decode cX0_addRow 27 = .ok (.invokevirtual 68, 3) := by decide +kernel
theorem dX0_addRow_30 : decode cX0_addRow 30 = .ok (.invokevirtual 59, 3) := by decide +kernel
theorem dX0_addRow_33 : decode cX0_addRow 33 = .ok (.iinc 2 1, 3) := by decide +kernel
theorem dX0_addRow_36 : decode cX0_addRow 36 = .ok (.goto (-20), 3) := by decide +kernel
theorem dX0_addRow_39 : decode cX0_addRow 39 = .ok (.return_, 1) := by decide +kernel
theorem dX0_place_0 : decode cX0_place 0 = .ok (.aload_n 0, 1) := by decide +kernel
theorem dX0_place_1 : decode cX0_place 1 = .ok (.getfield 30, 3) := by decide +kernel
theorem dX0_place_4 : decode cX0_place 4 = .ok (.ifCond .lt 24, 3) := by decide +kernel
theorem dX0_place_7 : decode cX0_place 7 = .ok (.aload_n 0, 1) := by decide +kernel
theorem dX0_place_8 : decode cX0_place 8 = .ok (.getfield 30, 3) := by decide +kernel
theorem dX0_place_11 : decode cX0_place 11 = .ok (.sipush 128, 3) := by decide +kernel
theorem dX0_place_14 : decode cX0_place 14 = .ok (.if_icmp .ge 14, 3) := by decide +kernel
theorem dX0_place_17 : decode cX0_place 17 = .ok (.aload_n 0, 1) := by decide +kernel
theorem dX0_place_18 : decode cX0_place 18 = .ok (.getfield 15, 3) := by decide +kernel
theorem dX0_place_21 : decode cX0_place 21 = .ok (.aload_n 0, 1) := by decide +kernel
theorem dX0_place_22 : decode cX0_place 22 = .ok (.getfield 30, 3) := by decide +kernel
theorem dX0_place_25 : decode cX0_place 25 = .ok (.iload_n 1, 1) := by decide +kernel
theorem dX0_place_26 : decode cX0_place 26 = .ok (.i2b, 1) := by decide +kernel
theorem dX0_place_27 : decode cX0_place 27 = .ok (.bastore, 1) := by decide +kernel
theorem dX0_place_28 : decode cX0_place 28 = .ok (.aload_n 0, 1) := by decide +kernel
theorem dX0_place_29 : decode cX0_place 29 = .ok (.dup, 1) := by decide +kernel
theorem dX0_place_30 : decode cX0_place 30 = .ok (.getfield 30, 3) := by decide +kernel
theorem dX0_place_33 : decode cX0_place 33 = .ok (.iconst 1, 1) := by decide +kernel
theorem dX0_place_34 : decode cX0_place 34 = .ok (.iadd, 1) := by decide +kernel
theorem dX0_place_35 : decode cX0_place 35 = .ok (.putfield 30, 3) := by decide +kernel
theorem dX0_place_38 : decode cX0_place 38 = .ok (.aload_n 0, 1) := by decide +kernel
theorem dX0_place_39 : decode cX0_place 39 = .ok (.getfield 30, 3) := by decide +kernel
theorem dX0_place_42 : decode cX0_place 42 = .ok (.aload_n 0, 1) := by decide +kernel
theorem dX0_place_43 : decode cX0_place 43 = .ok (.getfield 26, 3) := by decide +kernel
theorem dX0_place_46 : decode cX0_place 46 = .ok (.invokestatic 49, 3) := by decide +kernel
theorem dX0_place_49 : decode cX0_place 49 = .ok (.if_icmp .ge 4, 3) := by decide +kernel
theorem dX0_place_52 : decode cX0_place 52 = .ok (.return_, 1) := by decide +kernel
theorem dX0_place_53 : decode cX0_place 53 = .ok (.aload_n 0, 1) := by decide +kernel
theorem dX0_place_54 : decode cX0_place 54 = .ok (.iconst 0, 1) := by decide +kernel
theorem dX0_place_55 : decode cX0_place 55 = .ok (.putfield 30, 3) := by decide +kernel
theorem dX0_place_58 : decode cX0_place 58 = .ok (.aload_n 0, 1) := by decide +kernel
theorem dX0_place_59 : decode cX0_place 59 = .ok (.getfield 26, 3) := by decide +kernel
theorem dX0_place_62 : decode cX0_place 62 = .ok (.invokestatic 71, 3) := by decide +kernel
theorem dX0_place_65 : decode cX0_place 65 = .ok (.ifCond .eq 14, 3) := by decide +kernel
theorem dX0_place_68 : decode cX0_place 68 = .ok (.aload_n 0, 1) := by decide +kernel
theorem dX0_place_69 : decode cX0_place 69 = .ok (.invokevirtual 75, 3) := by decide +kernel
theorem dX0_place_72 : decode cX0_place 72 = .ok (.aload_n 0, 1) := by decide +kernel
theorem dX0_place_73 : decode cX0_place 73 = .ok (.invokevirtual 78, 3) := by decide +kernel
theorem dX0_place_76 : decode cX0_place 76 = .ok (.goto 11, 3) := by decide +kernel
theorem dX0_place_79 : decode cX0_place 79 = .ok (.aload_n 0, 1) := by decide +kernel
theorem dX0_place_80 : decode cX0_place 80 = .ok (.invokevirtual 81, 3) := by decide +kernel
theorem dX0_place_83 : decode cX0_place 83 = .ok (.aload_n 0, 1) := by decide +kernel
theorem dX0_place_84 : decode cX0_place 84 = .ok (.invokevirtual 84, 3) := by decide +kernel
theorem dX0_place_87 : decode cX0_place 87 = .ok (.return_, 1) := by decide +kernel
theorem dX0_writeDigest_0 : decode cX0_writeDigest 0 = .ok (.aload_n 1, 1) := by decide +kernel
theorem dX0_writeDigest_1 : decode cX0_writeDigest 1 = .ok (.invokevirtual 87, 3) := by decide +kernel
theorem dX0_writeDigest_4 : decode cX0_writeDigest 4 = .ok (.iconst 0, 1) := by decide +kernel
theorem dX0_writeDigest_5 : decode cX0_writeDigest 5 = .ok (.istore_n 2, 1) := by decide +kernel
theorem dX0_writeDigest_6 : decode cX0_writeDigest 6 = .ok (.iload_n 2, 1) := by decide +kernel
theorem dX0_writeDigest_7 : decode cX0_writeDigest 7 = .ok (.aload_n 0, 1) := by decide +kernel
theorem dX0_writeDigest_8 : decode cX0_writeDigest 8 = .ok (.getfield 26, 3) := by decide +kernel
theorem dX0_writeDigest_11 : decode cX0_writeDigest 11 = .ok (.invokestatic 90, 3) := by decide +kernel
theorem dX0_writeDigest_14 : decode cX0_writeDigest 14 = .ok (.if_icmp .ge 18, 3) := by decide +kernel
theorem dX0_writeDigest_17 : decode cX0_writeDigest 17 = .ok (.aload_n 1, 1) := by decide +kernel
theorem dX0_writeDigest_18 : decode cX0_writeDigest 18 = .ok (.aload_n 0, 1) := by decide +kernel
theorem dX0_writeDigest_19 : decode cX0_writeDigest 19 = .ok (.iload_n 2, 1) := by decide +kernel
theorem dX0_writeDigest_20 : decode cX0_writeDigest 20 = .ok (.invokevirtual 93, 3) := by decide +kernel
theorem dX0_writeDigest_23 : decode cX0_writeDigest 23 = .ok (.invokevirtual 96, 3) := by decide +kernel
theorem dX0_writeDigest_26 : decode cX0_writeDigest 26 = .ok (.iinc 2 1, 3) := by decide +kernel
theorem dX0_writeDigest_29 : decode cX0_writeDigest 29 = .ok (.goto (-23), 3) := by decide +kernel
theorem dX0_writeDigest_32 : decode cX0_writeDigest 32 = .ok (.return_, 1) := by decide +kernel
theorem dX0_pad_0 : decode cX0_pad 0 = .ok (.aload_n 0, 1) := by decide +kernel
theorem dX0_pad_1 : decode cX0_pad 1 = .ok (.getfield 33, 3) := by decide +kernel
theorem dX0_pad_4 : decode cX0_pad 4 = .ok (.ldc2_w 99, 3) := by decide +kernel
theorem dX0_pad_7 : decode cX0_pad 7 = .ok (.lmul, 1) := by decide +kernel
theorem dX0_pad_8 : decode cX0_pad 8 = .ok (.lstore_n 1, 1) := by decide +kernel
theorem dX0_pad_9 : decode cX0_pad 9 = .ok (.aload_n 0, 1) := by decide +kernel
theorem dX0_pad_10 : decode cX0_pad 10 = .ok (.sipush 128, 3) := by decide +kernel
theorem dX0_pad_13 : decode cX0_pad 13 = .ok (.invokevirtual 59, 3) := by decide +kernel
theorem dX0_pad_16 : decode cX0_pad 16 = .ok (.aload_n 0, 1) := by decide +kernel
theorem dX0_pad_17 : decode cX0_pad 17 = .ok (.getfield 26, 3) := by decide +kernel
theorem dX0_pad_20 : decode cX0_pad 20 = .ok (.invokestatic 71, 3) := by decide +kernel
theorem dX0_pad_23 : decode cX0_pad 23 = .ok (.ifCond .eq 8, 3) := by decide +kernel
theorem dX0_pad_26 : decode cX0_pad 26 = .ok (.bipush 16, 2) := by decide +kernel
theorem dX0_pad_28 : decode cX0_pad 28 = .ok (.goto 5, 3) := by decide +kernel
theorem dX0_pad_31 : decode cX0_pad 31 = .ok (.bipush 8, 2) := by decide +kernel
theorem dX0_pad_33 : decode cX0_pad 33 = .ok (.istore_n 3, 1) := by decide +kernel
theorem dX0_pad_34 : decode cX0_pad 34 = .ok (.aload_n 0, 1) := by decide +kernel
theorem dX0_pad_35 : decode cX0_pad 35 = .ok (.getfield 26, 3) := by decide +kernel
theorem dX0_pad_38 : decode cX0_pad 38 = .ok (.invokestatic 49, 3) := by decide +kernel
theorem dX0_pad_41 : decode cX0_pad 41 = .ok (.iload_n 3, 1) := by decide +kernel
theorem dX0_pad_42 : decode cX0_pad 42 = .ok (.isub, 1) := by decide +kernel
theorem dX0_pad_43 : decode cX0_pad 43 = .ok (.aload_n 0, 1) := by decide +kernel
theorem dX0_pad_44 : decode cX0_pad 44 = .ok (.getfield 30, 3) := by decide +kernel
theorem dX0_pad_47 : decode cX0_pad 47 = .ok (.isub, 1) := by decide +kernel
theorem dX0_pad_48 : decode cX0_pad 48 = .ok (.aload_n 0, 1) := by decide +kernel
theorem dX0_pad_49 : decode cX0_pad 49 = .ok (.getfield 26, 3) := by decide +kernel
theorem dX0_pad_52 : decode cX0_pad 52 = .ok (.invokestatic 49, 3) := by decide +kernel
theorem dX0_pad_55 : decode cX0_pad 55 = .ok (.iconst 1, 1) := by decide +kernel
theorem dX0_pad_56 : decode cX0_pad 56 = .ok (.isub, 1) := by decide +kernel
theorem dX0_pad_57 : decode cX0_pad 57 = .ok (.iand, 1) := by decide +kernel
theorem dX0_pad_58 : decode cX0_pad 58 = .ok (.istore 4, 2) := by decide +kernel
theorem dX0_pad_60 : decode cX0_pad 60 = .ok (.iconst 0, 1) := by decide +kernel
theorem dX0_pad_61 : decode cX0_pad 61 = .ok (.istore 5, 2) := by decide +kernel
theorem dX0_pad_63 : decode cX0_pad 63 = .ok (.iload 5, 2) := by decide +kernel
theorem dX0_pad_65 : decode cX0_pad 65 = .ok (.iload 4, 2) := by decide +kernel
theorem dX0_pad_67 : decode cX0_pad 67 = .ok (.iload_n 3, 1) := by decide +kernel
theorem dX0_pad_68 : decode cX0_pad 68 = .ok (.iadd, 1) := by decide +kernel
theorem dX0_pad_69 : decode cX0_pad 69 = .ok (.bipush 8, 2) := by decide +kernel
theorem dX0_pad_71 : decode cX0_pad 71 = .ok (.isub, 1) := by decide +kernel
theorem dX0_pad_72 : decode cX0_pad 72 = .ok (.if_icmp .ge 14, 3) := by decide +kernel
theorem dX0_pad_75 : decode cX0_pad 75 = .ok (.aload_n 0, 1) := by decide +kernel
theorem dX0_pad_76 : decode cX0_pad 76 = .ok (.iconst 0, 1) := by decide +kernel
theorem dX0_pad_77 : decode cX0_pad 77 = .ok (.invokevirtual 59, 3) := by decide +kernel
theorem dX0_pad_80 : decode cX0_pad 80 = .ok (.iinc 5 1, 3) := by decide +kernel
theorem dX0_pad_83 : decode cX0_pad 83 = .ok (.goto (-20), 3) := by decide +kernel
theorem dX0_pad_86 : decode cX0_pad 86 = .ok (.bipush 56, 2) := by decide +kernel
theorem dX0_pad_88 : decode cX0_pad 88 = .ok (.istore 5, 2) := by decide +kernel
theorem dX0_pad_90 : decode cX0_pad 90 = .ok (.iload 5, 2) := by decide +kernel
theorem dX0_pad_92 : decode cX0_pad 92 = .ok (.ifCond .lt 18, 3) := by decide +kernel
theorem dX0_pad_95 : decode cX0_pad 95 = .ok (.aload_n 0, 1) := by decide +kernel
theorem dX0_pad_96 : decode cX0_pad 96 = .ok (.lload_n 1, 1) := by decide +kernel
theorem dX0_pad_97 : decode cX0_pad 97 = .ok (.iload 5, 2) := by decide +kernel
theorem dX0_pad_99 : decode cX0_pad 99 = .ok (.lushr, 1) := by decide +kernel
theorem dX0_pad_100 : decode cX0_pad 100 = .ok (.l2i, 1) := by decide +kernel
theorem dX0_pad_101 : decode cX0_pad 101 = .ok (.invokevirtual 59, 3) := by decide +kernel
theorem dX0_pad_104 : decode cX0_pad 104 = .ok (.iinc 5 (-8), 3) := by decide +kernel
theorem dX0_pad_107 : decode cX0_pad 107 = .ok (.goto (-17), 3) := by decide +kernel
theorem dX0_pad_110 : decode cX0_pad 110 = .ok (.return_, 1) := by decide +kernel
theorem dX0_octetOfWords_0 : decode cX0_octetOfWords 0 = .ok (.iload_n 1, 1) := by decide +kernel
theorem dX0_octetOfWords_1 : decode cX0_octetOfWords 1 = .ok (.ifCond .lt 14, 3) := by decide +kernel
theorem dX0_octetOfWords_4 : decode cX0_octetOfWords 4 = .ok (.iload_n 1, 1) := by decide +kernel
theorem dX0_octetOfWords_5 : decode cX0_octetOfWords 5 = .ok (.aload_n 0, 1) := by decide +kernel
theorem dX0_octetOfWords_6 : decode cX0_octetOfWords 6 = .ok (.getfield 26, 3) := by decide +kernel
theorem dX0_octetOfWords_9 : decode cX0_octetOfWords 9 = .ok (.invokestatic 90, 3) := by decide +kernel
theorem dX0_octetOfWords_12 : decode cX0_octetOfWords 12 = .ok (.if_icmp .lt 5, 3) := by decide +kernel
theorem dX0_octetOfWords_15 : decode cX0_octetOfWords 15 = .ok (.iconst 0, 1) := by decide +kernel
theorem dX0_octetOfWords_16 : decode cX0_octetOfWords 16 = .ok (.ireturn, 1) := by decide +kernel
theorem dX0_octetOfWords_17 : decode cX0_octetOfWords 17 = .ok (.aload_n 0, 1) := by decide +kernel
theorem dX0_octetOfWords_18 : decode cX0_octetOfWords 18 = .ok (.getfield 26, 3) := by decide +kernel
theorem dX0_octetOfWords_21 : decode cX0_octetOfWords 21 = .ok (.invokestatic 71, 3) := by decide +kernel
theorem dX0_octetOfWords_24 : decode cX0_octetOfWords 24 = .ok (.ifCond .eq 24, 3) := by decide +kernel
theorem dX0_octetOfWords_27 : decode cX0_octetOfWords 27 = .ok (.aload_n 0, 1) := by decide +kernel
theorem dX0_octetOfWords_28 : decode cX0_octetOfWords 28 = .ok (.getfield 9, 3) := by decide +kernel
theorem dX0_octetOfWords_31 : decode cX0_octetOfWords 31 = .ok (.iload_n 1, 1) := by decide +kernel
theorem dX0_octetOfWords_32 : decode cX0_octetOfWords 32 = .ok (.iconst 3, 1) := by decide +kernel
theorem dX0_octetOfWords_33 : decode cX0_octetOfWords 33 = .ok (.ishr, 1) := by decide +kernel
theorem dX0_octetOfWords_34 : decode cX0_octetOfWords 34 = .ok (.laload, 1) := by decide +kernel
theorem dX0_octetOfWords_35 : decode cX0_octetOfWords 35 = .ok (.bipush 56, 2) := by decide +kernel
theorem dX0_octetOfWords_37 : decode cX0_octetOfWords 37 = .ok (.bipush 8, 2) := by decide +kernel
theorem dX0_octetOfWords_39 : decode cX0_octetOfWords 39 = .ok (.iload_n 1, 1) := by decide +kernel
theorem dX0_octetOfWords_40 : decode cX0_octetOfWords 40 = .ok (.bipush 7, 2) := by decide +kernel
theorem dX0_octetOfWords_42 : decode cX0_octetOfWords 42 = .ok (.iand, 1) := by decide +kernel
theorem dX0_octetOfWords_43 : decode cX0_octetOfWords 43 = .ok (.imul, 1) := by decide +kernel
theorem dX0_octetOfWords_44 : decode cX0_octetOfWords 44 = .ok (.isub, 1) := by decide +kernel
theorem dX0_octetOfWords_45 : decode cX0_octetOfWords 45 = .ok (.lushr, 1) := by decide +kernel
theorem dX0_octetOfWords_46 : decode cX0_octetOfWords 46 = .ok (.l2i, 1) := by decide +kernel
theorem dX0_octetOfWords_47 : decode cX0_octetOfWords 47 = .ok (.ireturn, 1) := by decide +kernel
theorem dX0_octetOfWords_48 : decode cX0_octetOfWords 48 = .ok (.aload_n 0, 1) := by decide +kernel
theorem dX0_octetOfWords_49 : decode cX0_octetOfWords 49 = .ok (.getfield 9, 3) := by decide +kernel
theorem dX0_octetOfWords_52 : decode cX0_octetOfWords 52 = .ok (.iload_n 1, 1) := by decide +kernel
theorem dX0_octetOfWords_53 : decode cX0_octetOfWords 53 = .ok (.iconst 2, 1) := by decide +kernel
theorem dX0_octetOfWords_54 : decode cX0_octetOfWords 54 = .ok (.ishr, 1) := by decide +kernel
theorem dX0_octetOfWords_55 : decode cX0_octetOfWords 55 = .ok (.laload, 1) := by decide +kernel
theorem dX0_octetOfWords_56 : decode cX0_octetOfWords 56 = .ok (.bipush 24, 2) := by decide +kernel
theorem dX0_octetOfWords_58 : decode cX0_octetOfWords 58 = .ok (.bipush 8, 2) := by decide +kernel
theorem dX0_octetOfWords_60 : decode cX0_octetOfWords 60 = .ok (.iload_n 1, 1) := by decide +kernel
theorem dX0_octetOfWords_61 : decode cX0_octetOfWords 61 = .ok (.iconst 3, 1) := by decide +kernel
theorem dX0_octetOfWords_62 : decode cX0_octetOfWords 62 = .ok (.iand, 1) := by decide +kernel
theorem dX0_octetOfWords_63 : decode cX0_octetOfWords 63 = .ok (.imul, 1) := by decide +kernel
theorem dX0_octetOfWords_64 : decode cX0_octetOfWords 64 = .ok (.isub, 1) := by decide +kernel
theorem dX0_octetOfWords_65 : decode cX0_octetOfWords 65 = .ok (.lushr, 1) := by decide +kernel
theorem dX0_octetOfWords_66 : decode cX0_octetOfWords 66 = .ok (.l2i, 1) := by decide +kernel
theorem dX0_octetOfWords_67 : decode cX0_octetOfWords 67 = .ok (.ireturn, 1) := by decide +kernel
theorem dX0_layNarrow_0 : decode cX0_layNarrow 0 = .ok (.iconst 0, 1) := by decide +kernel
theorem dX0_layNarrow_1 : decode cX0_layNarrow 1 = .ok (.istore_n 1, 1) := by decide +kernel
theorem dX0_layNarrow_2 : decode cX0_layNarrow 2 = .ok (.iload_n 1, 1) := by decide +kernel
theorem dX0_layNarrow_3 : decode cX0_layNarrow 3 = .ok (.bipush 16, 2) := by decide +kernel
theorem dX0_layNarrow_5 : decode cX0_layNarrow 5 = .ok (.if_icmp .ge 51, 3) := by decide +kernel
theorem dX0_layNarrow_8 : decode cX0_layNarrow 8 = .ok (.iconst 0, 1) := by decide +kernel
theorem dX0_layNarrow_9 : decode cX0_layNarrow 9 = .ok (.istore_n 2, 1) := by decide +kernel
theorem dX0_layNarrow_10 : decode cX0_layNarrow 10 = .ok (.iconst 0, 1) := by decide +kernel
theorem dX0_layNarrow_11 : decode cX0_layNarrow 11 = .ok (.istore_n 3, 1) := by decide +kernel
theorem dX0_layNarrow_12 : decode cX0_layNarrow 12 = .ok (.iload_n 3, 1) := by decide +kernel
theorem dX0_layNarrow_13 : decode cX0_layNarrow 13 = .ok (.iconst 4, 1) := by decide +kernel
theorem dX0_layNarrow_14 : decode cX0_layNarrow 14 = .ok (.if_icmp .ge 29, 3) := by decide +kernel
theorem dX0_layNarrow_17 : decode cX0_layNarrow 17 = .ok (.iload_n 2, 1) := by decide +kernel
theorem dX0_layNarrow_18 : decode cX0_layNarrow 18 = .ok (.bipush 8, 2) := by decide +kernel
theorem dX0_layNarrow_20 : decode cX0_layNarrow 20 = .ok (.ishl, 1) := by decide +kernel
theorem dX0_layNarrow_21 : decode cX0_layNarrow 21 = .ok (.aload_n 0, 1) := by decide +kernel
theorem dX0_layNarrow_22 : decode cX0_layNarrow 22 = .ok (.getfield 15, 3) := by decide +kernel
theorem dX0_layNarrow_25 : decode cX0_layNarrow 25 = .ok (.iconst 4, 1) := by decide +kernel
theorem dX0_layNarrow_26 : decode cX0_layNarrow 26 = .ok (.iload_n 1, 1) := by decide +kernel
theorem dX0_layNarrow_27 : decode cX0_layNarrow 27 = .ok (.imul, 1) := by decide +kernel
theorem dX0_layNarrow_28 : decode cX0_layNarrow 28 = .ok (.iload_n 3, 1) := by decide +kernel
theorem dX0_layNarrow_29 : decode cX0_layNarrow 29 = .ok (.iadd, 1) := by decide +kernel
theorem dX0_layNarrow_30 : decode cX0_layNarrow 30 = .ok (.baload, 1) := by decide +kernel
theorem dX0_layNarrow_31 : decode cX0_layNarrow 31 = .ok (.sipush 255, 3) := by decide +kernel
theorem dX0_layNarrow_34 : decode cX0_layNarrow 34 = .ok (.iand, 1) := by decide +kernel
theorem dX0_layNarrow_35 : decode cX0_layNarrow 35 = .ok (.ior, 1) := by decide +kernel
theorem dX0_layNarrow_36 : decode cX0_layNarrow 36 = .ok (.istore_n 2, 1) := by decide +kernel
theorem dX0_layNarrow_37 : decode cX0_layNarrow 37 = .ok (.iinc 3 1, 3) := by decide +kernel
theorem dX0_layNarrow_40 : decode cX0_layNarrow 40 = .ok (.goto (-28), 3) := by decide +kernel
theorem dX0_layNarrow_43 : decode cX0_layNarrow 43 = .ok (.aload_n 0, 1) := by decide +kernel
theorem dX0_layNarrow_44 : decode cX0_layNarrow 44 = .ok (.getfield 19, 3) := by decide +kernel
theorem dX0_layNarrow_47 : decode cX0_layNarrow 47 = .ok (.iload_n 1, 1) := by decide +kernel
theorem dX0_layNarrow_48 : decode cX0_layNarrow 48 = .ok (.iload_n 2, 1) := by decide +kernel
theorem dX0_layNarrow_49 : decode cX0_layNarrow 49 = .ok (.iastore, 1) := by decide +kernel
theorem dX0_layNarrow_50 : decode cX0_layNarrow 50 = .ok (.iinc 1 1, 3) := by decide +kernel
theorem dX0_layNarrow_53 : decode cX0_layNarrow 53 = .ok (.goto (-51), 3) := by decide +kernel
theorem dX0_layNarrow_56 : decode cX0_layNarrow 56 = .ok (.bipush 16, 2) := by decide +kernel
theorem dX0_layNarrow_58 : decode cX0_layNarrow 58 = .ok (.istore_n 1, 1) := by decide +kernel
theorem dX0_layNarrow_59 : decode cX0_layNarrow 59 = .ok (.iload_n 1, 1) := by decide +kernel
theorem dX0_layNarrow_60 : decode cX0_layNarrow 60 = .ok (.bipush 64, 2) := by decide +kernel
theorem dX0_layNarrow_62 : decode cX0_layNarrow 62 = .ok (.if_icmp .ge 98, 3) := by decide +kernel
theorem dX0_layNarrow_65 : decode cX0_layNarrow 65 = .ok (.aload_n 0, 1) := by decide +kernel
theorem dX0_layNarrow_66 : decode cX0_layNarrow 66 = .ok (.getfield 19, 3) := by decide +kernel
theorem dX0_layNarrow_69 : decode cX0_layNarrow 69 = .ok (.iload_n 1, 1) := by decide +kernel
theorem dX0_layNarrow_70 : decode cX0_layNarrow 70 = .ok (.bipush 15, 2) := by decide +kernel
theorem dX0_layNarrow_72 : decode cX0_layNarrow 72 = .ok (.isub, 1) := by decide +kernel
theorem dX0_layNarrow_73 : decode cX0_layNarrow 73 = .ok (.iaload, 1) := by decide +kernel
theorem dX0_layNarrow_74 : decode cX0_layNarrow 74 = .ok (.istore_n 2, 1) := by decide +kernel
theorem dX0_layNarrow_75 : decode cX0_layNarrow 75 = .ok (.aload_n 0, 1) := by decide +kernel
theorem dX0_layNarrow_76 : decode cX0_layNarrow 76 = .ok (.getfield 19, 3) := by decide +kernel
theorem dX0_layNarrow_79 : decode cX0_layNarrow 79 = .ok (.iload_n 1, 1) := by decide +kernel
theorem dX0_layNarrow_80 : decode cX0_layNarrow 80 = .ok (.iconst 2, 1) := by decide +kernel
theorem dX0_layNarrow_81 : decode cX0_layNarrow 81 = .ok (.isub, 1) := by decide +kernel
theorem dX0_layNarrow_82 : decode cX0_layNarrow 82 = .ok (.iaload, 1) := by decide +kernel
theorem dX0_layNarrow_83 : decode cX0_layNarrow 83 = .ok (.istore_n 3, 1) := by decide +kernel
theorem dX0_layNarrow_84 : decode cX0_layNarrow 84 = .ok (.iload_n 2, 1) := by decide +kernel
theorem dX0_layNarrow_85 : decode cX0_layNarrow 85 = .ok (.bipush 7, 2) := by decide +kernel
theorem dX0_layNarrow_87 : decode cX0_layNarrow 87 = .ok (.invokestatic 101, 3) := by decide +kernel
theorem dX0_layNarrow_90 : decode cX0_layNarrow 90 = .ok (.iload_n 2, 1) := by decide +kernel
theorem dX0_layNarrow_91 : decode cX0_layNarrow 91 = .ok (.bipush 18, 2) := by decide +kernel
theorem dX0_layNarrow_93 : decode cX0_layNarrow 93 = .ok (.invokestatic 101, 3) := by decide +kernel
theorem dX0_layNarrow_96 : decode cX0_layNarrow 96 = .ok (.ixor, 1) := by decide +kernel
theorem dX0_layNarrow_97 : decode cX0_layNarrow 97 = .ok (.iload_n 2, 1) := by decide +kernel
theorem dX0_layNarrow_98 : decode cX0_layNarrow 98 = .ok (.iconst 3, 1) := by decide +kernel
theorem dX0_layNarrow_99 : decode cX0_layNarrow 99 = .ok (.iushr, 1) := by decide +kernel
theorem dX0_layNarrow_100 : decode cX0_layNarrow 100 = .ok (.ixor, 1) := by decide +kernel
theorem dX0_layNarrow_101 : decode cX0_layNarrow 101 = .ok (.istore 4, 2) := by decide +kernel
theorem dX0_layNarrow_103 : decode cX0_layNarrow 103 = .ok (.iload_n 3, 1) := by decide +kernel
theorem dX0_layNarrow_104 : decode cX0_layNarrow 104 = .ok (.bipush 17, 2) := by decide +kernel
theorem dX0_layNarrow_106 : decode cX0_layNarrow 106 = .ok (.invokestatic 101, 3) := by decide +kernel
theorem dX0_layNarrow_109 : decode cX0_layNarrow 109 = .ok (.iload_n 3, 1) := by decide +kernel
theorem dX0_layNarrow_110 : decode cX0_layNarrow 110 = .ok (.bipush 19, 2) := by decide +kernel
theorem dX0_layNarrow_112 : decode cX0_layNarrow 112 = .ok (.invokestatic 101, 3) := by decide +kernel
theorem dX0_layNarrow_115 : decode cX0_layNarrow 115 = .ok (.ixor, 1) := by decide +kernel
theorem dX0_layNarrow_116 : decode cX0_layNarrow 116 = .ok (.iload_n 3, 1) := by decide +kernel
theorem dX0_layNarrow_117 : decode cX0_layNarrow 117 = .ok (.bipush 10, 2) := by decide +kernel
theorem dX0_layNarrow_119 : decode cX0_layNarrow 119 = .ok (.iushr, 1) := by decide +kernel
theorem dX0_layNarrow_120 : decode cX0_layNarrow 120 = .ok (.ixor, 1) := by decide +kernel
theorem dX0_layNarrow_121 : decode cX0_layNarrow 121 = .ok (.istore 5, 2) := by decide +kernel
theorem dX0_layNarrow_123 : decode cX0_layNarrow 123 = .ok (.aload_n 0, 1) := by decide +kernel
theorem dX0_layNarrow_124 : decode cX0_layNarrow 124 = .ok (.getfield 19, 3) := by decide +kernel
theorem dX0_layNarrow_127 : decode cX0_layNarrow 127 = .ok (.iload_n 1, 1) := by decide +kernel
theorem dX0_layNarrow_128 : decode cX0_layNarrow 128 = .ok (.iload 5, 2) := by decide +kernel
theorem dX0_layNarrow_130 : decode cX0_layNarrow 130 = .ok (.aload_n 0, 1) := by decide +kernel
theorem dX0_layNarrow_131 : decode cX0_layNarrow 131 = .ok (.getfield 19, 3) := by decide +kernel
theorem dX0_layNarrow_134 : decode cX0_layNarrow 134 = .ok (.iload_n 1, 1) := by decide +kernel
theorem dX0_layNarrow_135 : decode cX0_layNarrow 135 = .ok (.bipush 7, 2) := by decide +kernel
theorem dX0_layNarrow_137 : decode cX0_layNarrow 137 = .ok (.isub, 1) := by decide +kernel
theorem dX0_layNarrow_138 : decode cX0_layNarrow 138 = .ok (.iaload, 1) := by decide +kernel
theorem dX0_layNarrow_139 : decode cX0_layNarrow 139 = .ok (.iadd, 1) := by decide +kernel
theorem dX0_layNarrow_140 : decode cX0_layNarrow 140 = .ok (.iload 4, 2) := by decide +kernel
theorem dX0_layNarrow_142 : decode cX0_layNarrow 142 = .ok (.iadd, 1) := by decide +kernel
theorem dX0_layNarrow_143 : decode cX0_layNarrow 143 = .ok (.aload_n 0, 1) := by decide +kernel
theorem dX0_layNarrow_144 : decode cX0_layNarrow 144 = .ok (.getfield 19, 3) := by decide +kernel
theorem dX0_layNarrow_147 : decode cX0_layNarrow 147 = .ok (.iload_n 1, 1) := by decide +kernel
theorem dX0_layNarrow_148 : decode cX0_layNarrow 148 = .ok (.bipush 16, 2) := by decide +kernel
theorem dX0_layNarrow_150 : decode cX0_layNarrow 150 = .ok (.isub, 1) := by decide +kernel
theorem dX0_layNarrow_151 : decode cX0_layNarrow 151 = .ok (.iaload, 1) := by decide +kernel
theorem dX0_layNarrow_152 : decode cX0_layNarrow 152 = .ok (.iadd, 1) := by decide +kernel
theorem dX0_layNarrow_153 : decode cX0_layNarrow 153 = .ok (.iastore, 1) := by decide +kernel
theorem dX0_layNarrow_154 : decode cX0_layNarrow 154 = .ok (.iinc 1 1, 3) := by decide +kernel
theorem dX0_layNarrow_157 : decode cX0_layNarrow 157 = .ok (.goto (-98), 3) := by decide +kernel
theorem dX0_layNarrow_160 : decode cX0_layNarrow 160 = .ok (.return_, 1) := by decide +kernel
theorem dX0_mixNarrow_0 : decode cX0_mixNarrow 0 = .ok (.aload_n 0, 1) := by decide +kernel
theorem dX0_mixNarrow_1 : decode cX0_mixNarrow 1 = .ok (.getfield 9, 3) := by decide +kernel
theorem dX0_mixNarrow_4 : decode cX0_mixNarrow 4 = .ok (.iconst 0, 1) := by decide +kernel
theorem dX0_mixNarrow_5 : decode cX0_mixNarrow 5 = .ok (.laload, 1) := by decide +kernel
theorem dX0_mixNarrow_6 : decode cX0_mixNarrow 6 = .ok (.l2i, 1) := by decide +kernel
theorem dX0_mixNarrow_7 : decode cX0_mixNarrow 7 = .ok (.istore_n 1, 1) := by decide +kernel
theorem dX0_mixNarrow_8 : decode cX0_mixNarrow 8 = .ok (.aload_n 0, 1) := by decide +kernel
theorem dX0_mixNarrow_9 : decode cX0_mixNarrow 9 = .ok (.getfield 9, 3) := by decide +kernel
theorem dX0_mixNarrow_12 : decode cX0_mixNarrow 12 = .ok (.iconst 1, 1) := by decide +kernel
theorem dX0_mixNarrow_13 : decode cX0_mixNarrow 13 = .ok (.laload, 1) := by decide +kernel
theorem dX0_mixNarrow_14 : decode cX0_mixNarrow 14 = .ok (.l2i, 1) := by decide +kernel
theorem dX0_mixNarrow_15 : decode cX0_mixNarrow 15 = .ok (.istore_n 2, 1) := by decide +kernel
theorem dX0_mixNarrow_16 : decode cX0_mixNarrow 16 = .ok (.aload_n 0, 1) := by decide +kernel
theorem dX0_mixNarrow_17 : decode cX0_mixNarrow 17 = .ok (.getfield 9, 3) := by decide +kernel
theorem dX0_mixNarrow_20 : decode cX0_mixNarrow 20 = .ok (.iconst 2, 1) := by decide +kernel
theorem dX0_mixNarrow_21 : decode cX0_mixNarrow 21 = .ok (.laload, 1) := by decide +kernel
theorem dX0_mixNarrow_22 : decode cX0_mixNarrow 22 = .ok (.l2i, 1) := by decide +kernel
theorem dX0_mixNarrow_23 : decode cX0_mixNarrow 23 = .ok (.istore_n 3, 1) := by decide +kernel
theorem dX0_mixNarrow_24 : decode cX0_mixNarrow 24 = .ok (.aload_n 0, 1) := by decide +kernel
theorem dX0_mixNarrow_25 : decode cX0_mixNarrow 25 = .ok (.getfield 9, 3) := by decide +kernel
theorem dX0_mixNarrow_28 : decode cX0_mixNarrow 28 = .ok (.iconst 3, 1) := by decide +kernel
theorem dX0_mixNarrow_29 : decode cX0_mixNarrow 29 = .ok (.laload, 1) := by decide +kernel
theorem dX0_mixNarrow_30 : decode cX0_mixNarrow 30 = .ok (.l2i, 1) := by decide +kernel
theorem dX0_mixNarrow_31 : decode cX0_mixNarrow 31 = .ok (.istore 4, 2) := by decide +kernel
theorem dX0_mixNarrow_33 : decode cX0_mixNarrow 33 = .ok (.aload_n 0, 1) := by decide +kernel
theorem dX0_mixNarrow_34 : decode cX0_mixNarrow 34 = .ok (.getfield 9, 3) := by decide +kernel
theorem dX0_mixNarrow_37 : decode cX0_mixNarrow 37 = .ok (.iconst 4, 1) := by decide +kernel
theorem dX0_mixNarrow_38 : decode cX0_mixNarrow 38 = .ok (.laload, 1) := by decide +kernel
theorem dX0_mixNarrow_39 : decode cX0_mixNarrow 39 = .ok (.l2i, 1) := by decide +kernel
theorem dX0_mixNarrow_40 : decode cX0_mixNarrow 40 = .ok (.istore 5, 2) := by decide +kernel
theorem dX0_mixNarrow_42 : decode cX0_mixNarrow 42 = .ok (.aload_n 0, 1) := by decide +kernel
theorem dX0_mixNarrow_43 : decode cX0_mixNarrow 43 = .ok (.getfield 9, 3) := by decide +kernel
theorem dX0_mixNarrow_46 : decode cX0_mixNarrow 46 = .ok (.iconst 5, 1) := by decide +kernel
theorem dX0_mixNarrow_47 : decode cX0_mixNarrow 47 = .ok (.laload, 1) := by decide +kernel
theorem dX0_mixNarrow_48 : decode cX0_mixNarrow 48 = .ok (.l2i, 1) := by decide +kernel
theorem dX0_mixNarrow_49 : decode cX0_mixNarrow 49 = .ok (.istore 6, 2) := by decide +kernel
theorem dX0_mixNarrow_51 : decode cX0_mixNarrow 51 = .ok (.aload_n 0, 1) := by decide +kernel
theorem dX0_mixNarrow_52 : decode cX0_mixNarrow 52 = .ok (.getfield 9, 3) := by decide +kernel
theorem dX0_mixNarrow_55 : decode cX0_mixNarrow 55 = .ok (.bipush 6, 2) := by decide +kernel
theorem dX0_mixNarrow_57 : decode cX0_mixNarrow 57 = .ok (.laload, 1) := by decide +kernel
theorem dX0_mixNarrow_58 : decode cX0_mixNarrow 58 = .ok (.l2i, 1) := by decide +kernel
theorem dX0_mixNarrow_59 : decode cX0_mixNarrow 59 = .ok (.istore 7, 2) := by decide +kernel
theorem dX0_mixNarrow_61 : decode cX0_mixNarrow 61 = .ok (.aload_n 0, 1) := by decide +kernel
theorem dX0_mixNarrow_62 : decode cX0_mixNarrow 62 = .ok (.getfield 9, 3) := by decide +kernel
theorem dX0_mixNarrow_65 : decode cX0_mixNarrow 65 = .ok (.bipush 7, 2) := by decide +kernel
theorem dX0_mixNarrow_67 : decode cX0_mixNarrow 67 = .ok (.laload, 1) := by decide +kernel
theorem dX0_mixNarrow_68 : decode cX0_mixNarrow 68 = .ok (.l2i, 1) := by decide +kernel
theorem dX0_mixNarrow_69 : decode cX0_mixNarrow 69 = .ok (.istore 8, 2) := by decide +kernel
theorem dX0_mixNarrow_71 : decode cX0_mixNarrow 71 = .ok (.iconst 0, 1) := by decide +kernel
theorem dX0_mixNarrow_72 : decode cX0_mixNarrow 72 = .ok (.istore 9, 2) := by decide +kernel
theorem dX0_mixNarrow_74 : decode cX0_mixNarrow 74 = .ok (.iload 9, 2) := by decide +kernel
theorem dX0_mixNarrow_76 : decode cX0_mixNarrow 76 = .ok (.bipush 64, 2) := by decide +kernel
theorem dX0_mixNarrow_78 : decode cX0_mixNarrow 78 = .ok (.if_icmp .ge 143, 3) := by decide +kernel
theorem dX0_mixNarrow_81 : decode cX0_mixNarrow 81 = .ok (.iload 5, 2) := by decide +kernel
theorem dX0_mixNarrow_83 : decode cX0_mixNarrow 83 = .ok (.bipush 6, 2) := by decide +kernel
theorem dX0_mixNarrow_85 : decode cX0_mixNarrow 85 = .ok (.invokestatic 101, 3) := by decide +kernel
theorem dX0_mixNarrow_88 : decode cX0_mixNarrow 88 = .ok (.iload 5, 2) := by decide +kernel
theorem dX0_mixNarrow_90 : decode cX0_mixNarrow 90 = .ok (.bipush 11, 2) := by decide +kernel
theorem dX0_mixNarrow_92 : decode cX0_mixNarrow 92 = .ok (.invokestatic 101, 3) := by decide +kernel
theorem dX0_mixNarrow_95 : decode cX0_mixNarrow 95 = .ok (.ixor, 1) := by decide +kernel
theorem dX0_mixNarrow_96 : decode cX0_mixNarrow 96 = .ok (.iload 5, 2) := by decide +kernel
theorem dX0_mixNarrow_98 : decode cX0_mixNarrow 98 = .ok (.bipush 25, 2) := by decide +kernel
theorem dX0_mixNarrow_100 : decode cX0_mixNarrow 100 = .ok (.invokestatic 101, 3) := by decide +kernel
theorem dX0_mixNarrow_103 : decode cX0_mixNarrow 103 = .ok (.ixor, 1) := by decide +kernel
theorem dX0_mixNarrow_104 : decode cX0_mixNarrow 104 = .ok (.istore 10, 2) := by decide +kernel
theorem dX0_mixNarrow_106 : decode cX0_mixNarrow 106 = .ok (.iload_n 1, 1) := by decide +kernel
theorem dX0_mixNarrow_107 : decode cX0_mixNarrow 107 = .ok (.iconst 2, 1) := by decide +kernel
theorem dX0_mixNarrow_108 : decode cX0_mixNarrow 108 = .ok (.invokestatic 101, 3) := by decide +kernel
theorem dX0_mixNarrow_111 : decode cX0_mixNarrow 111 = .ok (.iload_n 1, 1) := by decide +kernel
theorem dX0_mixNarrow_112 : decode cX0_mixNarrow 112 = .ok (.bipush 13, 2) := by decide +kernel
theorem dX0_mixNarrow_114 : decode cX0_mixNarrow 114 = .ok (.invokestatic 101, 3) := by decide +kernel
theorem dX0_mixNarrow_117 : decode cX0_mixNarrow 117 = .ok (.ixor, 1) := by decide +kernel
theorem dX0_mixNarrow_118 : decode cX0_mixNarrow 118 = .ok (.iload_n 1, 1) := by decide +kernel
theorem dX0_mixNarrow_119 : decode cX0_mixNarrow 119 = .ok (.bipush 22, 2) := by decide +kernel
theorem dX0_mixNarrow_121 : decode cX0_mixNarrow 121 = .ok (.invokestatic 101, 3) := by decide +kernel
theorem dX0_mixNarrow_124 : decode cX0_mixNarrow 124 = .ok (.ixor, 1) := by decide +kernel
theorem dX0_mixNarrow_125 : decode cX0_mixNarrow 125 = .ok (.istore 11, 2) := by decide +kernel
theorem dX0_mixNarrow_127 : decode cX0_mixNarrow 127 = .ok (.iload 8, 2) := by decide +kernel
theorem dX0_mixNarrow_129 : decode cX0_mixNarrow 129 = .ok (.iload 10, 2) := by decide +kernel
theorem dX0_mixNarrow_131 : decode cX0_mixNarrow 131 = .ok (.iadd, 1) := by decide +kernel
theorem dX0_mixNarrow_132 : decode cX0_mixNarrow 132 = .ok (.iload 5, 2) := by decide +kernel
theorem dX0_mixNarrow_134 : decode cX0_mixNarrow 134 = .ok (.iload 6, 2) := by decide +kernel
theorem dX0_mixNarrow_136 : decode cX0_mixNarrow 136 = .ok (.iand, 1) := by decide +kernel
theorem dX0_mixNarrow_137 : decode cX0_mixNarrow 137 = .ok (.iload 5, 2) := by decide +kernel
theorem dX0_mixNarrow_139 : decode cX0_mixNarrow 139 = .ok (.iconst (-1), 1) := by decide +kernel
theorem dX0_mixNarrow_140 : decode cX0_mixNarrow 140 = .ok (.ixor, 1) := by decide +kernel
theorem dX0_mixNarrow_141 : decode cX0_mixNarrow 141 = .ok (.iload 7, 2) := by decide +kernel
theorem dX0_mixNarrow_143 : decode cX0_mixNarrow 143 = .ok (.iand, 1) := by decide +kernel
theorem dX0_mixNarrow_144 : decode cX0_mixNarrow 144 = .ok (.ixor, 1) := by decide +kernel
theorem dX0_mixNarrow_145 : decode cX0_mixNarrow 145 = .ok (.iadd, 1) := by decide +kernel
theorem dX0_mixNarrow_146 : decode cX0_mixNarrow 146 = .ok (.getstatic 107, 3) := by decide +kernel
theorem dX0_mixNarrow_149 : decode cX0_mixNarrow 149 = .ok (.iload 9, 2) := by decide +kernel
theorem dX0_mixNarrow_151 : decode cX0_mixNarrow 151 = .ok (.laload, 1) := by decide +kernel
theorem dX0_mixNarrow_152 : decode cX0_mixNarrow 152 = .ok (.bipush 32, 2) := by decide +kernel
theorem dX0_mixNarrow_154 : decode cX0_mixNarrow 154 = .ok (.lushr, 1) := by decide +kernel
theorem dX0_mixNarrow_155 : decode cX0_mixNarrow 155 = .ok (.l2i, 1) := by decide +kernel
theorem dX0_mixNarrow_156 : decode cX0_mixNarrow 156 = .ok (.iadd, 1) := by decide +kernel
theorem dX0_mixNarrow_157 : decode cX0_mixNarrow 157 = .ok (.aload_n 0, 1) := by decide +kernel
theorem dX0_mixNarrow_158 : decode cX0_mixNarrow 158 = .ok (.getfield 19, 3) := by decide +kernel
theorem dX0_mixNarrow_161 : decode cX0_mixNarrow 161 = .ok (.iload 9, 2) := by decide +kernel
theorem dX0_mixNarrow_163 : decode cX0_mixNarrow 163 = .ok (.iaload, 1) := by decide +kernel
theorem dX0_mixNarrow_164 : decode cX0_mixNarrow 164 = .ok (.iadd, 1) := by decide +kernel
theorem dX0_mixNarrow_165 : decode cX0_mixNarrow 165 = .ok (.istore 12, 2) := by decide +kernel
theorem dX0_mixNarrow_167 : decode cX0_mixNarrow 167 = .ok (.iload 11, 2) := by decide +kernel
theorem dX0_mixNarrow_169 : decode cX0_mixNarrow 169 = .ok (.iload_n 1, 1) := by decide +kernel
theorem dX0_mixNarrow_170 : decode cX0_mixNarrow 170 = .ok (.iload_n 2, 1) := by decide +kernel
theorem dX0_mixNarrow_171 : decode cX0_mixNarrow 171 = .ok (.iand, 1) := by decide +kernel
theorem dX0_mixNarrow_172 : decode cX0_mixNarrow 172 = .ok (.iload_n 1, 1) := by decide +kernel
theorem dX0_mixNarrow_173 : decode cX0_mixNarrow 173 = .ok (.iload_n 3, 1) := by decide +kernel
theorem dX0_mixNarrow_174 : decode cX0_mixNarrow 174 = .ok (.iand, 1) := by decide +kernel
theorem dX0_mixNarrow_175 : decode cX0_mixNarrow 175 = .ok (.ixor, 1) := by decide +kernel
theorem dX0_mixNarrow_176 : decode cX0_mixNarrow 176 = .ok (.iload_n 2, 1) := by decide +kernel
theorem dX0_mixNarrow_177 : decode cX0_mixNarrow 177 = .ok (.iload_n 3, 1) := by decide +kernel
theorem dX0_mixNarrow_178 : decode cX0_mixNarrow 178 = .ok (.iand, 1) := by decide +kernel
theorem dX0_mixNarrow_179 : decode cX0_mixNarrow 179 = .ok (.ixor, 1) := by decide +kernel
theorem dX0_mixNarrow_180 : decode cX0_mixNarrow 180 = .ok (.iadd, 1) := by decide +kernel
theorem dX0_mixNarrow_181 : decode cX0_mixNarrow 181 = .ok (.istore 13, 2) := by decide +kernel
theorem dX0_mixNarrow_183 : decode cX0_mixNarrow 183 = .ok (.iload 7, 2) := by decide +kernel
theorem dX0_mixNarrow_185 : decode cX0_mixNarrow 185 = .ok (.istore 8, 2) := by decide +kernel
theorem dX0_mixNarrow_187 : decode cX0_mixNarrow 187 = .ok (.iload 6, 2) := by decide +kernel
theorem dX0_mixNarrow_189 : decode cX0_mixNarrow 189 = .ok (.istore 7, 2) := by decide +kernel
theorem dX0_mixNarrow_191 : decode cX0_mixNarrow 191 = .ok (.iload 5, 2) := by decide +kernel
theorem dX0_mixNarrow_193 : decode cX0_mixNarrow 193 = .ok (.istore 6, 2) := by decide +kernel
theorem dX0_mixNarrow_195 : decode cX0_mixNarrow 195 = .ok (.iload 4, 2) := by decide +kernel
theorem dX0_mixNarrow_197 : decode cX0_mixNarrow 197 = .ok (.iload 12, 2) := by decide +kernel
theorem dX0_mixNarrow_199 : decode cX0_mixNarrow 199 = .ok (.iadd, 1) := by decide +kernel
theorem dX0_mixNarrow_200 : decode cX0_mixNarrow 200 = .ok (.istore 5, 2) := by decide +kernel
theorem dX0_mixNarrow_202 : decode cX0_mixNarrow 202 = .ok (.iload_n 3, 1) := by decide +kernel
theorem dX0_mixNarrow_203 : decode cX0_mixNarrow 203 = .ok (.istore 4, 2) := by decide +kernel
theorem dX0_mixNarrow_205 : decode cX0_mixNarrow 205 = .ok (.iload_n 2, 1) := by decide +kernel
theorem dX0_mixNarrow_206 : decode cX0_mixNarrow 206 = .ok (.istore_n 3, 1) := by decide +kernel
theorem dX0_mixNarrow_207 : decode cX0_mixNarrow 207 = .ok (.iload_n 1, 1) := by decide +kernel
theorem dX0_mixNarrow_208 : decode cX0_mixNarrow 208 = .ok (.istore_n 2, 1) := by decide +kernel
theorem dX0_mixNarrow_209 : decode cX0_mixNarrow 209 = .ok (.iload 12, 2) := by decide +kernel
theorem dX0_mixNarrow_211 : decode cX0_mixNarrow 211 = .ok (.iload 13, 2) := by decide +kernel
theorem dX0_mixNarrow_213 : decode cX0_mixNarrow 213 = .ok (.iadd, 1) := by decide +kernel
theorem dX0_mixNarrow_214 : decode cX0_mixNarrow 214 = .ok (.istore_n 1, 1) := by decide +kernel
theorem dX0_mixNarrow_215 : decode cX0_mixNarrow 215 = .ok (.iinc 9 1, 3) := by decide +kernel
theorem dX0_mixNarrow_218 : decode cX0_mixNarrow 218 = .ok (.goto (-144), 3) := by decide +kernel
theorem dX0_mixNarrow_221 : decode cX0_mixNarrow 221 = .ok (.aload_n 0, 1) := by decide +kernel
theorem dX0_mixNarrow_222 : decode cX0_mixNarrow 222 = .ok (.getfield 9, 3) := by decide +kernel
theorem dX0_mixNarrow_225 : decode cX0_mixNarrow 225 = .ok (.iconst 0, 1) := by decide +kernel
theorem dX0_mixNarrow_226 : decode cX0_mixNarrow 226 = .ok (.aload_n 0, 1) := by decide +kernel
theorem dX0_mixNarrow_227 : decode cX0_mixNarrow 227 = .ok (.getfield 9, 3) := by decide +kernel
theorem dX0_mixNarrow_230 : decode cX0_mixNarrow 230 = .ok (.iconst 0, 1) := by decide +kernel
theorem dX0_mixNarrow_231 : decode cX0_mixNarrow 231 = .ok (.laload, 1) := by decide +kernel
theorem dX0_mixNarrow_232 : decode cX0_mixNarrow 232 = .ok (.iload_n 1, 1) := by decide +kernel
theorem dX0_mixNarrow_233 : decode cX0_mixNarrow 233 = .ok (.i2l, 1) := by decide +kernel
theorem dX0_mixNarrow_234 : decode cX0_mixNarrow 234 = .ok (.ladd, 1) := by decide +kernel
theorem dX0_mixNarrow_235 : decode cX0_mixNarrow 235 = .ok (.ldc2_w 44, 3) := by decide +kernel
theorem dX0_mixNarrow_238 : decode cX0_mixNarrow 238 = .ok (.land, 1) := by decide +kernel
theorem dX0_mixNarrow_239 : decode cX0_mixNarrow 239 = .ok (.lastore, 1) := by decide +kernel
theorem dX0_mixNarrow_240 : decode cX0_mixNarrow 240 = .ok (.aload_n 0, 1) := by decide +kernel
theorem dX0_mixNarrow_241 : decode cX0_mixNarrow 241 = .ok (.getfield 9, 3) := by decide +kernel
theorem dX0_mixNarrow_244 : decode cX0_mixNarrow 244 = .ok (.iconst 1, 1) := by decide +kernel
theorem dX0_mixNarrow_245 : decode cX0_mixNarrow 245 = .ok (.aload_n 0, 1) := by decide +kernel
theorem dX0_mixNarrow_246 : decode cX0_mixNarrow 246 = .ok (.getfield 9, 3) := by decide +kernel
theorem dX0_mixNarrow_249 : decode cX0_mixNarrow 249 = .ok (.iconst 1, 1) := by decide +kernel
theorem dX0_mixNarrow_250 : decode cX0_mixNarrow 250 = .ok (.laload, 1) := by decide +kernel
theorem dX0_mixNarrow_251 : decode cX0_mixNarrow 251 = .ok (.iload_n 2, 1) := by decide +kernel
theorem dX0_mixNarrow_252 : decode cX0_mixNarrow 252 = .ok (.i2l, 1) := by decide +kernel
theorem dX0_mixNarrow_253 : decode cX0_mixNarrow 253 = .ok (.ladd, 1) := by decide +kernel
theorem dX0_mixNarrow_254 : decode cX0_mixNarrow 254 = .ok (.ldc2_w 44, 3) := by decide +kernel
theorem dX0_mixNarrow_257 : decode cX0_mixNarrow 257 = .ok (.land, 1) := by decide +kernel
theorem dX0_mixNarrow_258 : decode cX0_mixNarrow 258 = .ok (.lastore, 1) := by decide +kernel
theorem dX0_mixNarrow_259 : decode cX0_mixNarrow 259 = .ok (.aload_n 0, 1) := by decide +kernel
theorem dX0_mixNarrow_260 : decode cX0_mixNarrow 260 = .ok (.getfield 9, 3) := by decide +kernel
theorem dX0_mixNarrow_263 : decode cX0_mixNarrow 263 = .ok (.iconst 2, 1) := by decide +kernel
theorem dX0_mixNarrow_264 : decode cX0_mixNarrow 264 = .ok (.aload_n 0, 1) := by decide +kernel
theorem dX0_mixNarrow_265 : decode cX0_mixNarrow 265 = .ok (.getfield 9, 3) := by decide +kernel
theorem dX0_mixNarrow_268 : decode cX0_mixNarrow 268 = .ok (.iconst 2, 1) := by decide +kernel
theorem dX0_mixNarrow_269 : decode cX0_mixNarrow 269 = .ok (.laload, 1) := by decide +kernel
theorem dX0_mixNarrow_270 : decode cX0_mixNarrow 270 = .ok (.iload_n 3, 1) := by decide +kernel
theorem dX0_mixNarrow_271 : decode cX0_mixNarrow 271 = .ok (.i2l, 1) := by decide +kernel
theorem dX0_mixNarrow_272 : decode cX0_mixNarrow 272 = .ok (.ladd, 1) := by decide +kernel
theorem dX0_mixNarrow_273 : decode cX0_mixNarrow 273 = .ok (.ldc2_w 44, 3) := by decide +kernel
theorem dX0_mixNarrow_276 : decode cX0_mixNarrow 276 = .ok (.land, 1) := by decide +kernel
theorem dX0_mixNarrow_277 : decode cX0_mixNarrow 277 = .ok (.lastore, 1) := by decide +kernel
theorem dX0_mixNarrow_278 : decode cX0_mixNarrow 278 = .ok (.aload_n 0, 1) := by decide +kernel
theorem dX0_mixNarrow_279 : decode cX0_mixNarrow 279 = .ok (.getfield 9, 3) := by decide +kernel
theorem dX0_mixNarrow_282 : decode cX0_mixNarrow 282 = .ok (.iconst 3, 1) := by decide +kernel
theorem dX0_mixNarrow_283 : decode cX0_mixNarrow 283 = .ok (.aload_n 0, 1) := by decide +kernel
theorem dX0_mixNarrow_284 : decode cX0_mixNarrow 284 = .ok (.getfield 9, 3) := by decide +kernel
theorem dX0_mixNarrow_287 : decode cX0_mixNarrow 287 = .ok (.iconst 3, 1) := by decide +kernel
theorem dX0_mixNarrow_288 : decode cX0_mixNarrow 288 = .ok (.laload, 1) := by decide +kernel
theorem dX0_mixNarrow_289 : decode cX0_mixNarrow 289 = .ok (.iload 4, 2) := by decide +kernel
theorem dX0_mixNarrow_291 : decode cX0_mixNarrow 291 = .ok (.i2l, 1) := by decide +kernel
theorem dX0_mixNarrow_292 : decode cX0_mixNarrow 292 = .ok (.ladd, 1) := by decide +kernel
theorem dX0_mixNarrow_293 : decode cX0_mixNarrow 293 = .ok (.ldc2_w 44, 3) := by decide +kernel
theorem dX0_mixNarrow_296 : decode cX0_mixNarrow 296 = .ok (.land, 1) := by decide +kernel
theorem dX0_mixNarrow_297 : decode cX0_mixNarrow 297 = .ok (.lastore, 1) := by decide +kernel
theorem dX0_mixNarrow_298 : decode cX0_mixNarrow 298 = .ok (.aload_n 0, 1) := by decide +kernel
theorem dX0_mixNarrow_299 : decode cX0_mixNarrow 299 = .ok (.getfield 9, 3) := by decide +kernel
theorem dX0_mixNarrow_302 : decode cX0_mixNarrow 302 = .ok (.iconst 4, 1) := by decide +kernel
theorem dX0_mixNarrow_303 : decode cX0_mixNarrow 303 = .ok (.aload_n 0, 1) := by decide +kernel
theorem dX0_mixNarrow_304 : decode cX0_mixNarrow 304 = .ok (.getfield 9, 3) := by decide +kernel
theorem dX0_mixNarrow_307 : decode cX0_mixNarrow 307 = .ok (.iconst 4, 1) := by decide +kernel
theorem dX0_mixNarrow_308 : decode cX0_mixNarrow 308 = .ok (.laload, 1) := by decide +kernel
theorem dX0_mixNarrow_309 : decode cX0_mixNarrow 309 = .ok (.iload 5, 2) := by decide +kernel
theorem dX0_mixNarrow_311 : decode cX0_mixNarrow 311 = .ok (.i2l, 1) := by decide +kernel
theorem dX0_mixNarrow_312 : decode cX0_mixNarrow 312 = .ok (.ladd, 1) := by decide +kernel
theorem dX0_mixNarrow_313 : decode cX0_mixNarrow 313 = .ok (.ldc2_w 44, 3) := by decide +kernel
theorem dX0_mixNarrow_316 : decode cX0_mixNarrow 316 = .ok (.land, 1) := by decide +kernel
theorem dX0_mixNarrow_317 : decode cX0_mixNarrow 317 = .ok (.lastore, 1) := by decide +kernel
theorem dX0_mixNarrow_318 : decode cX0_mixNarrow 318 = .ok (.aload_n 0, 1) := by decide +kernel
theorem dX0_mixNarrow_319 : decode cX0_mixNarrow 319 = .ok (.getfield 9, 3) := by decide +kernel
theorem dX0_mixNarrow_322 : decode cX0_mixNarrow 322 = .ok (.iconst 5, 1) := by decide +kernel
theorem dX0_mixNarrow_323 : decode cX0_mixNarrow 323 = .ok (.aload_n 0, 1) := by decide +kernel
theorem dX0_mixNarrow_324 : decode cX0_mixNarrow 324 = .ok (.getfield 9, 3) := by decide +kernel
theorem dX0_mixNarrow_327 : decode cX0_mixNarrow 327 = .ok (.iconst 5, 1) := by decide +kernel
theorem dX0_mixNarrow_328 : decode cX0_mixNarrow 328 = .ok (.laload, 1) := by decide +kernel
theorem dX0_mixNarrow_329 : decode cX0_mixNarrow 329 = .ok (.iload 6, 2) := by decide +kernel
theorem dX0_mixNarrow_331 : decode cX0_mixNarrow 331 = .ok (.i2l, 1) := by decide +kernel
theorem dX0_mixNarrow_332 : decode cX0_mixNarrow 332 = .ok (.ladd, 1) := by decide +kernel
theorem dX0_mixNarrow_333 : decode cX0_mixNarrow 333 = .ok (.ldc2_w 44, 3) := by decide +kernel
theorem dX0_mixNarrow_336 : decode cX0_mixNarrow 336 = .ok (.land, 1) := by decide +kernel
theorem dX0_mixNarrow_337 : decode cX0_mixNarrow 337 = .ok (.lastore, 1) := by decide +kernel
theorem dX0_mixNarrow_338 : decode cX0_mixNarrow 338 = .ok (.aload_n 0, 1) := by decide +kernel
theorem dX0_mixNarrow_339 : decode cX0_mixNarrow 339 = .ok (.getfield 9, 3) := by decide +kernel
theorem dX0_mixNarrow_342 : decode cX0_mixNarrow 342 = .ok (.bipush 6, 2) := by decide +kernel
theorem dX0_mixNarrow_344 : decode cX0_mixNarrow 344 = .ok (.aload_n 0, 1) := by decide +kernel
theorem dX0_mixNarrow_345 : decode cX0_mixNarrow 345 = .ok (.getfield 9, 3) := by decide +kernel
theorem dX0_mixNarrow_348 : decode cX0_mixNarrow 348 = .ok (.bipush 6, 2) := by decide +kernel
theorem dX0_mixNarrow_350 : decode cX0_mixNarrow 350 = .ok (.laload, 1) := by decide +kernel
theorem dX0_mixNarrow_351 : decode cX0_mixNarrow 351 = .ok (.iload 7, 2) := by decide +kernel
theorem dX0_mixNarrow_353 : decode cX0_mixNarrow 353 = .ok (.i2l, 1) := by decide +kernel
theorem dX0_mixNarrow_354 : decode cX0_mixNarrow 354 = .ok (.ladd, 1) := by decide +kernel
theorem dX0_mixNarrow_355 : decode cX0_mixNarrow 355 = .ok (.ldc2_w 44, 3) := by decide +kernel
theorem dX0_mixNarrow_358 : decode cX0_mixNarrow 358 = .ok (.land, 1) := by decide +kernel
theorem dX0_mixNarrow_359 : decode cX0_mixNarrow 359 = .ok (.lastore, 1) := by decide +kernel
theorem dX0_mixNarrow_360 : decode cX0_mixNarrow 360 = .ok (.aload_n 0, 1) := by decide +kernel
theorem dX0_mixNarrow_361 : decode cX0_mixNarrow 361 = .ok (.getfield 9, 3) := by decide +kernel
theorem dX0_mixNarrow_364 : decode cX0_mixNarrow 364 = .ok (.bipush 7, 2) := by decide +kernel
theorem dX0_mixNarrow_366 : decode cX0_mixNarrow 366 = .ok (.aload_n 0, 1) := by decide +kernel
theorem dX0_mixNarrow_367 : decode cX0_mixNarrow 367 = .ok (.getfield 9, 3) := by decide +kernel
theorem dX0_mixNarrow_370 : decode cX0_mixNarrow 370 = .ok (.bipush 7, 2) := by decide +kernel
theorem dX0_mixNarrow_372 : decode cX0_mixNarrow 372 = .ok (.laload, 1) := by decide +kernel
theorem dX0_mixNarrow_373 : decode cX0_mixNarrow 373 = .ok (.iload 8, 2) := by decide +kernel
theorem dX0_mixNarrow_375 : decode cX0_mixNarrow 375 = .ok (.i2l, 1) := by decide +kernel
theorem dX0_mixNarrow_376 : decode cX0_mixNarrow 376 = .ok (.ladd, 1) := by decide +kernel
theorem dX0_mixNarrow_377 : decode cX0_mixNarrow 377 = .ok (.ldc2_w 44, 3) := by decide +kernel
theorem dX0_mixNarrow_380 : decode cX0_mixNarrow 380 = .ok (.land, 1) := by decide +kernel
theorem dX0_mixNarrow_381 : decode cX0_mixNarrow 381 = .ok (.lastore, 1) := by decide +kernel
theorem dX0_mixNarrow_382 : decode cX0_mixNarrow 382 = .ok (.return_, 1) := by decide +kernel
theorem dX0_layWide_0 : decode cX0_layWide 0 = .ok (.iconst 0, 1) := by decide +kernel
theorem dX0_layWide_1 : decode cX0_layWide 1 = .ok (.istore_n 1, 1) := by decide +kernel
theorem dX0_layWide_2 : decode cX0_layWide 2 = .ok (.iload_n 1, 1) := by decide +kernel
theorem dX0_layWide_3 : decode cX0_layWide 3 = .ok (.bipush 16, 2) := by decide +kernel
theorem dX0_layWide_5 : decode cX0_layWide 5 = .ok (.if_icmp .ge 57, 3) := by decide +kernel
theorem dX0_layWide_8 : decode cX0_layWide 8 = .ok (.lconst 0, 1) := by decide +kernel
theorem dX0_layWide_9 : decode cX0_layWide 9 = .ok (.lstore_n 2, 1) := by decide +kernel
theorem dX0_layWide_10 : decode cX0_layWide 10 = .ok (.iconst 0, 1) := by decide +kernel
theorem dX0_layWide_11 : decode cX0_layWide 11 = .ok (.istore 4, 2) := by decide +kernel
theorem dX0_layWide_13 : decode cX0_layWide 13 = .ok (.iload 4, 2) := by decide +kernel
theorem dX0_layWide_15 : decode cX0_layWide 15 = .ok (.bipush 8, 2) := by decide +kernel
theorem dX0_layWide_17 : decode cX0_layWide 17 = .ok (.if_icmp .ge 32, 3) := by decide +kernel
theorem dX0_layWide_20 : decode cX0_layWide 20 = .ok (.lload_n 2, 1) := by decide +kernel
theorem dX0_layWide_21 : decode cX0_layWide 21 = .ok (.bipush 8, 2) := by decide +kernel
theorem dX0_layWide_23 : decode cX0_layWide 23 = .ok (.lshl, 1) := by decide +kernel
theorem dX0_layWide_24 : decode cX0_layWide 24 = .ok (.aload_n 0, 1) := by decide +kernel
theorem dX0_layWide_25 : decode cX0_layWide 25 = .ok (.getfield 15, 3) := by decide +kernel
theorem dX0_layWide_28 : decode cX0_layWide 28 = .ok (.bipush 8, 2) := by decide +kernel
theorem dX0_layWide_30 : decode cX0_layWide 30 = .ok (.iload_n 1, 1) := by decide +kernel
theorem dX0_layWide_31 : decode cX0_layWide 31 = .ok (.imul, 1) := by decide +kernel
theorem dX0_layWide_32 : decode cX0_layWide 32 = .ok (.iload 4, 2) := by decide +kernel
theorem dX0_layWide_34 : decode cX0_layWide 34 = .ok (.iadd, 1) := by decide +kernel
theorem dX0_layWide_35 : decode cX0_layWide 35 = .ok (.baload, 1) := by decide +kernel
theorem dX0_layWide_36 : decode cX0_layWide 36 = .ok (.sipush 255, 3) := by decide +kernel
theorem dX0_layWide_39 : decode cX0_layWide 39 = .ok (.iand, 1) := by decide +kernel
theorem dX0_layWide_40 : decode cX0_layWide 40 = .ok (.i2l, 1) := by decide +kernel
theorem dX0_layWide_41 : decode cX0_layWide 41 = .ok (.lor, 1) := by decide +kernel
theorem dX0_layWide_42 : decode cX0_layWide 42 = .ok (.lstore_n 2, 1) := by decide +kernel
theorem dX0_layWide_43 : decode cX0_layWide 43 = .ok (.iinc 4 1, 3) := by decide +kernel
theorem dX0_layWide_46 : decode cX0_layWide 46 = .ok (.goto (-33), 3) := by decide +kernel
theorem dX0_layWide_49 : decode cX0_layWide 49 = .ok (.aload_n 0, 1) := by decide +kernel
theorem dX0_layWide_50 : decode cX0_layWide 50 = .ok (.getfield 23, 3) := by decide +kernel
theorem dX0_layWide_53 : decode cX0_layWide 53 = .ok (.iload_n 1, 1) := by decide +kernel
theorem dX0_layWide_54 : decode cX0_layWide 54 = .ok (.lload_n 2, 1) := by decide +kernel
theorem dX0_layWide_55 : decode cX0_layWide 55 = .ok (.lastore, 1) := by decide +kernel
theorem dX0_layWide_56 : decode cX0_layWide 56 = .ok (.iinc 1 1, 3) := by decide +kernel
theorem dX0_layWide_59 : decode cX0_layWide 59 = .ok (.goto (-57), 3) := by decide +kernel
theorem dX0_layWide_62 : decode cX0_layWide 62 = .ok (.bipush 16, 2) := by decide +kernel
theorem dX0_layWide_64 : decode cX0_layWide 64 = .ok (.istore_n 1, 1) := by decide +kernel
theorem dX0_layWide_65 : decode cX0_layWide 65 = .ok (.iload_n 1, 1) := by decide +kernel
theorem dX0_layWide_66 : decode cX0_layWide 66 = .ok (.bipush 80, 2) := by decide +kernel
theorem dX0_layWide_68 : decode cX0_layWide 68 = .ok (.if_icmp .ge 102, 3) := by decide +kernel
theorem dX0_layWide_71 : decode cX0_layWide 71 = .ok (.aload_n 0, 1) := by decide +kernel
theorem dX0_layWide_72 : decode cX0_layWide 72 = .ok (.getfield 23, 3) := by decide +kernel
theorem dX0_layWide_75 : decode cX0_layWide 75 = .ok (.iload_n 1, 1) := by decide +kernel
theorem dX0_layWide_76 : decode cX0_layWide 76 = .ok (.bipush 15, 2) := by decide +kernel
theorem dX0_layWide_78 : decode cX0_layWide 78 = .ok (.isub, 1) := by decide +kernel
theorem dX0_layWide_79 : decode cX0_layWide 79 = .ok (.laload, 1) := by decide +kernel
theorem dX0_layWide_80 : decode cX0_layWide 80 = .ok (.lstore_n 2, 1) := by decide +kernel
theorem dX0_layWide_81 : decode cX0_layWide 81 = .ok (.aload_n 0, 1) := by decide +kernel
theorem dX0_layWide_82 : decode cX0_layWide 82 = .ok (.getfield 23, 3) := by decide +kernel
theorem dX0_layWide_85 : decode cX0_layWide 85 = .ok (.iload_n 1, 1) := by decide +kernel
theorem dX0_layWide_86 : decode cX0_layWide 86 = .ok (.iconst 2, 1) := by decide +kernel
theorem dX0_layWide_87 : decode cX0_layWide 87 = .ok (.isub, 1) := by decide +kernel
theorem dX0_layWide_88 : decode cX0_layWide 88 = .ok (.laload, 1) := by decide +kernel
theorem dX0_layWide_89 : decode cX0_layWide 89 = .ok (.lstore 4, 2) := by decide +kernel
theorem dX0_layWide_91 : decode cX0_layWide 91 = .ok (.lload_n 2, 1) := by decide +kernel
theorem dX0_layWide_92 : decode cX0_layWide 92 = .ok (.iconst 1, 1) := by decide +kernel
theorem dX0_layWide_93 : decode cX0_layWide 93 = .ok (.invokestatic 110, 3) := by decide +kernel
theorem dX0_layWide_96 : decode cX0_layWide 96 = .ok (.lload_n 2, 1) := by decide +kernel
theorem dX0_layWide_97 : decode cX0_layWide 97 = .ok (.bipush 8, 2) := by decide +kernel
theorem dX0_layWide_99 : decode cX0_layWide 99 = .ok (.invokestatic 110, 3) := by decide +kernel
theorem dX0_layWide_102 : decode cX0_layWide 102 = .ok (.lxor, 1) := by decide +kernel
theorem dX0_layWide_103 : decode cX0_layWide 103 = .ok (.lload_n 2, 1) := by decide +kernel
theorem dX0_layWide_104 : decode cX0_layWide 104 = .ok (.bipush 7, 2) := by decide +kernel
theorem dX0_layWide_106 : decode cX0_layWide 106 = .ok (.lushr, 1) := by decide +kernel
theorem dX0_layWide_107 : decode cX0_layWide 107 = .ok (.lxor, 1) := by decide +kernel
theorem dX0_layWide_108 : decode cX0_layWide 108 = .ok (.lstore 6, 2) := by decide +kernel
theorem dX0_layWide_110 : decode cX0_layWide 110 = .ok (.lload 4, 2) := by decide +kernel
theorem dX0_layWide_112 : decode cX0_layWide 112 = .ok (.bipush 19, 2) := by decide +kernel
theorem dX0_layWide_114 : decode cX0_layWide 114 = .ok (.invokestatic 110, 3) := by decide +kernel
theorem dX0_layWide_117 : decode cX0_layWide 117 = .ok (.lload 4, 2) := by decide +kernel
theorem dX0_layWide_119 : decode cX0_layWide 119 = .ok (.bipush 61, 2) := by decide +kernel
theorem dX0_layWide_121 : decode cX0_layWide 121 = .ok (.invokestatic 110, 3) := by decide +kernel
theorem dX0_layWide_124 : decode cX0_layWide 124 = .ok (.lxor, 1) := by decide +kernel
theorem dX0_layWide_125 : decode cX0_layWide 125 = .ok (.lload 4, 2) := by decide +kernel
theorem dX0_layWide_127 : decode cX0_layWide 127 = .ok (.bipush 6, 2) := by decide +kernel
theorem dX0_layWide_129 : decode cX0_layWide 129 = .ok (.lushr, 1) := by decide +kernel
theorem dX0_layWide_130 : decode cX0_layWide 130 = .ok (.lxor, 1) := by decide +kernel
theorem dX0_layWide_131 : decode cX0_layWide 131 = .ok (.lstore 8, 2) := by decide +kernel
theorem dX0_layWide_133 : decode cX0_layWide 133 = .ok (.aload_n 0, 1) := by decide +kernel
theorem dX0_layWide_134 : decode cX0_layWide 134 = .ok (.getfield 23, 3) := by decide +kernel
theorem dX0_layWide_137 : decode cX0_layWide 137 = .ok (.iload_n 1, 1) := by decide +kernel
theorem dX0_layWide_138 : decode cX0_layWide 138 = .ok (.lload 8, 2) := by decide +kernel
theorem dX0_layWide_140 : decode cX0_layWide 140 = .ok (.aload_n 0, 1) := by decide +kernel
theorem dX0_layWide_141 : decode cX0_layWide 141 = .ok (.getfield 23, 3) := by decide +kernel
theorem dX0_layWide_144 : decode cX0_layWide 144 = .ok (.iload_n 1, 1) := by decide +kernel
theorem dX0_layWide_145 : decode cX0_layWide 145 = .ok (.bipush 7, 2) := by decide +kernel
theorem dX0_layWide_147 : decode cX0_layWide 147 = .ok (.isub, 1) := by decide +kernel
theorem dX0_layWide_148 : decode cX0_layWide 148 = .ok (.laload, 1) := by decide +kernel
theorem dX0_layWide_149 : decode cX0_layWide 149 = .ok (.ladd, 1) := by decide +kernel
theorem dX0_layWide_150 : decode cX0_layWide 150 = .ok (.lload 6, 2) := by decide +kernel
theorem dX0_layWide_152 : decode cX0_layWide 152 = .ok (.ladd, 1) := by decide +kernel
theorem dX0_layWide_153 : decode cX0_layWide 153 = .ok (.aload_n 0, 1) := by decide +kernel
theorem dX0_layWide_154 : decode cX0_layWide 154 = .ok (.getfield 23, 3) := by decide +kernel
theorem dX0_layWide_157 : decode cX0_layWide 157 = .ok (.iload_n 1, 1) := by decide +kernel
theorem dX0_layWide_158 : decode cX0_layWide 158 = .ok (.bipush 16, 2) := by decide +kernel
theorem dX0_layWide_160 : decode cX0_layWide 160 = .ok (.isub, 1) := by decide +kernel
theorem dX0_layWide_161 : decode cX0_layWide 161 = .ok (.laload, 1) := by decide +kernel
theorem dX0_layWide_162 : decode cX0_layWide 162 = .ok (.ladd, 1) := by decide +kernel
theorem dX0_layWide_163 : decode cX0_layWide 163 = .ok (.lastore, 1) := by decide +kernel
theorem dX0_layWide_164 : decode cX0_layWide 164 = .ok (.iinc 1 1, 3) := by decide +kernel
theorem dX0_layWide_167 : decode cX0_layWide 167 = .ok (.goto (-102), 3) := by decide +kernel
theorem dX0_layWide_170 : decode cX0_layWide 170 = .ok (.return_, 1) := by decide +kernel
theorem dX0_mixWide_0 : decode cX0_mixWide 0 = .ok (.aload_n 0, 1) := by decide +kernel
theorem dX0_mixWide_1 : decode cX0_mixWide 1 = .ok (.getfield 9, 3) := by decide +kernel
theorem dX0_mixWide_4 : decode cX0_mixWide 4 = .ok (.iconst 0, 1) := by decide +kernel
theorem dX0_mixWide_5 : decode cX0_mixWide 5 = .ok (.laload, 1) := by decide +kernel
theorem dX0_mixWide_6 : decode cX0_mixWide 6 = .ok (.lstore_n 1, 1) := by decide +kernel
theorem dX0_mixWide_7 : decode cX0_mixWide 7 = .ok (.aload_n 0, 1) := by decide +kernel
theorem dX0_mixWide_8 : decode cX0_mixWide 8 = .ok (.getfield 9, 3) := by decide +kernel
theorem dX0_mixWide_11 : decode cX0_mixWide 11 = .ok (.iconst 1, 1) := by decide +kernel
theorem dX0_mixWide_12 : decode cX0_mixWide 12 = .ok (.laload, 1) := by decide +kernel
theorem dX0_mixWide_13 : decode cX0_mixWide 13 = .ok (.lstore_n 3, 1) := by decide +kernel
theorem dX0_mixWide_14 : decode cX0_mixWide 14 = .ok (.aload_n 0, 1) := by decide +kernel
theorem dX0_mixWide_15 : decode cX0_mixWide 15 = .ok (.getfield 9, 3) := by decide +kernel
theorem dX0_mixWide_18 : decode cX0_mixWide 18 = .ok (.iconst 2, 1) := by decide +kernel
theorem dX0_mixWide_19 : decode cX0_mixWide 19 = .ok (.laload, 1) := by decide +kernel
theorem dX0_mixWide_20 : decode cX0_mixWide 20 = .ok (.lstore 5, 2) := by decide +kernel
theorem dX0_mixWide_22 : decode cX0_mixWide 22 = .ok (.aload_n 0, 1) := by decide +kernel
theorem dX0_mixWide_23 : decode cX0_mixWide 23 = .ok (.getfield 9, 3) := by decide +kernel
theorem dX0_mixWide_26 : decode cX0_mixWide 26 = .ok (.iconst 3, 1) := by decide +kernel
theorem dX0_mixWide_27 : decode cX0_mixWide 27 = .ok (.laload, 1) := by decide +kernel
theorem dX0_mixWide_28 : decode cX0_mixWide 28 = .ok (.lstore 7, 2) := by decide +kernel
theorem dX0_mixWide_30 : decode cX0_mixWide 30 = .ok (.aload_n 0, 1) := by decide +kernel
theorem dX0_mixWide_31 : decode cX0_mixWide 31 = .ok (.getfield 9, 3) := by decide +kernel
theorem dX0_mixWide_34 : decode cX0_mixWide 34 = .ok (.iconst 4, 1) := by decide +kernel
theorem dX0_mixWide_35 : decode cX0_mixWide 35 = .ok (.laload, 1) := by decide +kernel
theorem dX0_mixWide_36 : decode cX0_mixWide 36 = .ok (.lstore 9, 2) := by decide +kernel
theorem dX0_mixWide_38 : decode cX0_mixWide 38 = .ok (.aload_n 0, 1) := by decide +kernel
theorem dX0_mixWide_39 : decode cX0_mixWide 39 = .ok (.getfield 9, 3) := by decide +kernel
theorem dX0_mixWide_42 : decode cX0_mixWide 42 = .ok (.iconst 5, 1) := by decide +kernel
theorem dX0_mixWide_43 : decode cX0_mixWide 43 = .ok (.laload, 1) := by decide +kernel
theorem dX0_mixWide_44 : decode cX0_mixWide 44 = .ok (.lstore 11, 2) := by decide +kernel
theorem dX0_mixWide_46 : decode cX0_mixWide 46 = .ok (.aload_n 0, 1) := by decide +kernel
theorem dX0_mixWide_47 : decode cX0_mixWide 47 = .ok (.getfield 9, 3) := by decide +kernel
theorem dX0_mixWide_50 : decode cX0_mixWide 50 = .ok (.bipush 6, 2) := by decide +kernel
theorem dX0_mixWide_52 : decode cX0_mixWide 52 = .ok (.laload, 1) := by decide +kernel
theorem dX0_mixWide_53 : decode cX0_mixWide 53 = .ok (.lstore 13, 2) := by decide +kernel
theorem dX0_mixWide_55 : decode cX0_mixWide 55 = .ok (.aload_n 0, 1) := by decide +kernel
theorem dX0_mixWide_56 : decode cX0_mixWide 56 = .ok (.getfield 9, 3) := by decide +kernel
theorem dX0_mixWide_59 : decode cX0_mixWide 59 = .ok (.bipush 7, 2) := by decide +kernel
theorem dX0_mixWide_61 : decode cX0_mixWide 61 = .ok (.laload, 1) := by decide +kernel
theorem dX0_mixWide_62 : decode cX0_mixWide 62 = .ok (.lstore 15, 2) := by decide +kernel
theorem dX0_mixWide_64 : decode cX0_mixWide 64 = .ok (.iconst 0, 1) := by decide +kernel
theorem dX0_mixWide_65 : decode cX0_mixWide 65 = .ok (.istore 17, 2) := by decide +kernel
theorem dX0_mixWide_67 : decode cX0_mixWide 67 = .ok (.iload 17, 2) := by decide +kernel
theorem dX0_mixWide_69 : decode cX0_mixWide 69 = .ok (.bipush 80, 2) := by decide +kernel
theorem dX0_mixWide_71 : decode cX0_mixWide 71 = .ok (.if_icmp .ge 146, 3) := by decide +kernel
theorem dX0_mixWide_74 : decode cX0_mixWide 74 = .ok (.lload 9, 2) := by decide +kernel
theorem dX0_mixWide_76 : decode cX0_mixWide 76 = .ok (.bipush 14, 2) := by decide +kernel
theorem dX0_mixWide_78 : decode cX0_mixWide 78 = .ok (.invokestatic 110, 3) := by decide +kernel
theorem dX0_mixWide_81 : decode cX0_mixWide 81 = .ok (.lload 9, 2) := by decide +kernel
theorem dX0_mixWide_83 : decode cX0_mixWide 83 = .ok (.bipush 18, 2) := by decide +kernel
theorem dX0_mixWide_85 : decode cX0_mixWide 85 = .ok (.invokestatic 110, 3) := by decide +kernel
theorem dX0_mixWide_88 : decode cX0_mixWide 88 = .ok (.lxor, 1) := by decide +kernel
theorem dX0_mixWide_89 : decode cX0_mixWide 89 = .ok (.lload 9, 2) := by decide +kernel
theorem dX0_mixWide_91 : decode cX0_mixWide 91 = .ok (.bipush 41, 2) := by decide +kernel
theorem dX0_mixWide_93 : decode cX0_mixWide 93 = .ok (.invokestatic 110, 3) := by decide +kernel
theorem dX0_mixWide_96 : decode cX0_mixWide 96 = .ok (.lxor, 1) := by decide +kernel
theorem dX0_mixWide_97 : decode cX0_mixWide 97 = .ok (.lstore 18, 2) := by decide +kernel
theorem dX0_mixWide_99 : decode cX0_mixWide 99 = .ok (.lload_n 1, 1) := by decide +kernel
theorem dX0_mixWide_100 : decode cX0_mixWide 100 = .ok (.bipush 28, 2) := by decide +kernel
theorem dX0_mixWide_102 : decode cX0_mixWide 102 = .ok (.invokestatic 110, 3) := by decide +kernel
theorem dX0_mixWide_105 : decode cX0_mixWide 105 = .ok (.lload_n 1, 1) := by decide +kernel
theorem dX0_mixWide_106 : decode cX0_mixWide 106 = .ok (.bipush 34, 2) := by decide +kernel
theorem dX0_mixWide_108 : decode cX0_mixWide 108 = .ok (.invokestatic 110, 3) := by decide +kernel
theorem dX0_mixWide_111 : decode cX0_mixWide 111 = .ok (.lxor, 1) := by decide +kernel
theorem dX0_mixWide_112 : decode cX0_mixWide 112 = .ok (.lload_n 1, 1) := by decide +kernel
theorem dX0_mixWide_113 : decode cX0_mixWide 113 = .ok (.bipush 39, 2) := by decide +kernel
theorem dX0_mixWide_115 : decode cX0_mixWide 115 = .ok (.invokestatic 110, 3) := by decide +kernel
theorem dX0_mixWide_118 : decode cX0_mixWide 118 = .ok (.lxor, 1) := by decide +kernel
theorem dX0_mixWide_119 : decode cX0_mixWide 119 = .ok (.lstore 20, 2) := by decide +kernel
theorem dX0_mixWide_121 : decode cX0_mixWide 121 = .ok (.lload 15, 2) := by decide +kernel
theorem dX0_mixWide_123 : decode cX0_mixWide 123 = .ok (.lload 18, 2) := by decide +kernel
theorem dX0_mixWide_125 : decode cX0_mixWide 125 = .ok (.ladd, 1) := by decide +kernel
theorem dX0_mixWide_126 : decode cX0_mixWide 126 = .ok (.lload 9, 2) := by decide +kernel
theorem dX0_mixWide_128 : decode cX0_mixWide 128 = .ok (.lload 11, 2) := by decide +kernel
theorem dX0_mixWide_130 : decode cX0_mixWide 130 = .ok (.land, 1) := by decide +kernel
theorem dX0_mixWide_131 : decode cX0_mixWide 131 = .ok (.lload 9, 2) := by decide +kernel
theorem dX0_mixWide_133 : decode cX0_mixWide 133 = .ok (.ldc2_w 115, 3) := by decide +kernel
theorem dX0_mixWide_136 : decode cX0_mixWide 136 = .ok (.lxor, 1) := by decide +kernel
theorem dX0_mixWide_137 : decode cX0_mixWide 137 = .ok (.lload 13, 2) := by decide +kernel
theorem dX0_mixWide_139 : decode cX0_mixWide 139 = .ok (.land, 1) := by decide +kernel
theorem dX0_mixWide_140 : decode cX0_mixWide 140 = .ok (.lxor, 1) := by decide +kernel
theorem dX0_mixWide_141 : decode cX0_mixWide 141 = .ok (.ladd, 1) := by decide +kernel
theorem dX0_mixWide_142 : decode cX0_mixWide 142 = .ok (.getstatic 107, 3) := by decide +kernel
theorem dX0_mixWide_145 : decode cX0_mixWide 145 = .ok (.iload 17, 2) := by decide +kernel
theorem dX0_mixWide_147 : decode cX0_mixWide 147 = .ok (.laload, 1) := by decide +kernel
theorem dX0_mixWide_148 : decode cX0_mixWide 148 = .ok (.ladd, 1) := by decide +kernel
theorem dX0_mixWide_149 : decode cX0_mixWide 149 = .ok (.aload_n 0, 1) := by decide +kernel
theorem dX0_mixWide_150 : decode cX0_mixWide 150 = .ok (.getfield 23, 3) := by decide +kernel
theorem dX0_mixWide_153 : decode cX0_mixWide 153 = .ok (.iload 17, 2) := by decide +kernel
theorem dX0_mixWide_155 : decode cX0_mixWide 155 = .ok (.laload, 1) := by decide +kernel
theorem dX0_mixWide_156 : decode cX0_mixWide 156 = .ok (.ladd, 1) := by decide +kernel
theorem dX0_mixWide_157 : decode cX0_mixWide 157 = .ok (.lstore 22, 2) := by decide +kernel
theorem dX0_mixWide_159 : decode cX0_mixWide 159 = .ok (.lload 20, 2) := by decide +kernel
theorem dX0_mixWide_161 : decode cX0_mixWide 161 = .ok (.lload_n 1, 1) := by decide +kernel
theorem dX0_mixWide_162 : decode cX0_mixWide 162 = .ok (.lload_n 3, 1) := by decide +kernel
theorem dX0_mixWide_163 : decode cX0_mixWide 163 = .ok (.land, 1) := by decide +kernel
theorem dX0_mixWide_164 : decode cX0_mixWide 164 = .ok (.lload_n 1, 1) := by decide +kernel
theorem dX0_mixWide_165 : decode cX0_mixWide 165 = .ok (.lload 5, 2) := by decide +kernel
theorem dX0_mixWide_167 : decode cX0_mixWide 167 = .ok (.land, 1) := by decide +kernel
theorem dX0_mixWide_168 : decode cX0_mixWide 168 = .ok (.lxor, 1) := by decide +kernel
theorem dX0_mixWide_169 : decode cX0_mixWide 169 = .ok (.lload_n 3, 1) := by decide +kernel
theorem dX0_mixWide_170 : decode cX0_mixWide 170 = .ok (.lload 5, 2) := by decide +kernel
theorem dX0_mixWide_172 : decode cX0_mixWide 172 = .ok (.land, 1) := by decide +kernel
theorem dX0_mixWide_173 : decode cX0_mixWide 173 = .ok (.lxor, 1) := by decide +kernel
theorem dX0_mixWide_174 : decode cX0_mixWide 174 = .ok (.ladd, 1) := by decide +kernel
theorem dX0_mixWide_175 : decode cX0_mixWide 175 = .ok (.lstore 24, 2) := by decide +kernel
theorem dX0_mixWide_177 : decode cX0_mixWide 177 = .ok (.lload 13, 2) := by decide +kernel
theorem dX0_mixWide_179 : decode cX0_mixWide 179 = .ok (.lstore 15, 2) := by decide +kernel
theorem dX0_mixWide_181 : decode cX0_mixWide 181 = .ok (.lload 11, 2) := by decide +kernel
theorem dX0_mixWide_183 : decode cX0_mixWide 183 = .ok (.lstore 13, 2) := by decide +kernel
theorem dX0_mixWide_185 : decode cX0_mixWide 185 = .ok (.lload 9, 2) := by decide +kernel
theorem dX0_mixWide_187 : decode cX0_mixWide 187 = .ok (.lstore 11, 2) := by decide +kernel
theorem dX0_mixWide_189 : decode cX0_mixWide 189 = .ok (.lload 7, 2) := by decide +kernel
theorem dX0_mixWide_191 : decode cX0_mixWide 191 = .ok (.lload 22, 2) := by decide +kernel
theorem dX0_mixWide_193 : decode cX0_mixWide 193 = .ok (.ladd, 1) := by decide +kernel
theorem dX0_mixWide_194 : decode cX0_mixWide 194 = .ok (.lstore 9, 2) := by decide +kernel
theorem dX0_mixWide_196 : decode cX0_mixWide 196 = .ok (.lload 5, 2) := by decide +kernel
theorem dX0_mixWide_198 : decode cX0_mixWide 198 = .ok (.lstore 7, 2) := by decide +kernel
theorem dX0_mixWide_200 : decode cX0_mixWide 200 = .ok (.lload_n 3, 1) := by decide +kernel
theorem dX0_mixWide_201 : decode cX0_mixWide 201 = .ok (.lstore 5, 2) := by decide +kernel
theorem dX0_mixWide_203 : decode cX0_mixWide 203 = .ok (.lload_n 1, 1) := by decide +kernel
theorem dX0_mixWide_204 : decode cX0_mixWide 204 = .ok (.lstore_n 3, 1) := by decide +kernel
theorem dX0_mixWide_205 : decode cX0_mixWide 205 = .ok (.lload 22, 2) := by decide +kernel
theorem dX0_mixWide_207 : decode cX0_mixWide 207 = .ok (.lload 24, 2) := by decide +kernel
theorem dX0_mixWide_209 : decode cX0_mixWide 209 = .ok (.ladd, 1) := by decide +kernel
theorem dX0_mixWide_210 : decode cX0_mixWide 210 = .ok (.lstore_n 1, 1) := by decide +kernel
theorem dX0_mixWide_211 : decode cX0_mixWide 211 = .ok (.iinc 17 1, 3) := by decide +kernel
theorem dX0_mixWide_214 : decode cX0_mixWide 214 = .ok (.goto (-147), 3) := by decide +kernel
theorem dX0_mixWide_217 : decode cX0_mixWide 217 = .ok (.aload_n 0, 1) := by decide +kernel
theorem dX0_mixWide_218 : decode cX0_mixWide 218 = .ok (.getfield 9, 3) := by decide +kernel
theorem dX0_mixWide_221 : decode cX0_mixWide 221 = .ok (.iconst 0, 1) := by decide +kernel
theorem dX0_mixWide_222 : decode cX0_mixWide 222 = .ok (.dup2, 1) := by decide +kernel
theorem dX0_mixWide_223 : decode cX0_mixWide 223 = .ok (.laload, 1) := by decide +kernel
theorem dX0_mixWide_224 : decode cX0_mixWide 224 = .ok (.lload_n 1, 1) := by decide +kernel
theorem dX0_mixWide_225 : decode cX0_mixWide 225 = .ok (.ladd, 1) := by decide +kernel
theorem dX0_mixWide_226 : decode cX0_mixWide 226 = .ok (.lastore, 1) := by decide +kernel
theorem dX0_mixWide_227 : decode cX0_mixWide 227 = .ok (.aload_n 0, 1) := by decide +kernel
theorem dX0_mixWide_228 : decode cX0_mixWide 228 = .ok (.getfield 9, 3) := by decide +kernel
theorem dX0_mixWide_231 : decode cX0_mixWide 231 = .ok (.iconst 1, 1) := by decide +kernel
theorem dX0_mixWide_232 : decode cX0_mixWide 232 = .ok (.dup2, 1) := by decide +kernel
theorem dX0_mixWide_233 : decode cX0_mixWide 233 = .ok (.laload, 1) := by decide +kernel
theorem dX0_mixWide_234 : decode cX0_mixWide 234 = .ok (.lload_n 3, 1) := by decide +kernel
theorem dX0_mixWide_235 : decode cX0_mixWide 235 = .ok (.ladd, 1) := by decide +kernel
theorem dX0_mixWide_236 : decode cX0_mixWide 236 = .ok (.lastore, 1) := by decide +kernel
theorem dX0_mixWide_237 : decode cX0_mixWide 237 = .ok (.aload_n 0, 1) := by decide +kernel
theorem dX0_mixWide_238 : decode cX0_mixWide 238 = .ok (.getfield 9, 3) := by decide +kernel
theorem dX0_mixWide_241 : decode cX0_mixWide 241 = .ok (.iconst 2, 1) := by decide +kernel
theorem dX0_mixWide_242 : decode cX0_mixWide 242 = .ok (.dup2, 1) := by decide +kernel
theorem dX0_mixWide_243 : decode cX0_mixWide 243 = .ok (.laload, 1) := by decide +kernel
theorem dX0_mixWide_244 : decode cX0_mixWide 244 = .ok (.lload 5, 2) := by decide +kernel
theorem dX0_mixWide_246 : decode cX0_mixWide 246 = .ok (.ladd, 1) := by decide +kernel
theorem dX0_mixWide_247 : decode cX0_mixWide 247 = .ok (.lastore, 1) := by decide +kernel
theorem dX0_mixWide_248 : decode cX0_mixWide 248 = .ok (.aload_n 0, 1) := by decide +kernel
theorem dX0_mixWide_249 : decode cX0_mixWide 249 = .ok (.getfield 9, 3) := by decide +kernel
theorem dX0_mixWide_252 : decode cX0_mixWide 252 = .ok (.iconst 3, 1) := by decide +kernel
theorem dX0_mixWide_253 : decode cX0_mixWide 253 = .ok (.dup2, 1) := by decide +kernel
theorem dX0_mixWide_254 : decode cX0_mixWide 254 = .ok (.laload, 1) := by decide +kernel
theorem dX0_mixWide_255 : decode cX0_mixWide 255 = .ok (.lload 7, 2) := by decide +kernel
theorem dX0_mixWide_257 : decode cX0_mixWide 257 = .ok (.ladd, 1) := by decide +kernel
theorem dX0_mixWide_258 : decode cX0_mixWide 258 = .ok (.lastore, 1) := by decide +kernel
theorem dX0_mixWide_259 : decode cX0_mixWide 259 = .ok (.aload_n 0, 1) := by decide +kernel
theorem dX0_mixWide_260 : decode cX0_mixWide 260 = .ok (.getfield 9, 3) := by decide +kernel
theorem dX0_mixWide_263 : decode cX0_mixWide 263 = .ok (.iconst 4, 1) := by decide +kernel
theorem dX0_mixWide_264 : decode cX0_mixWide 264 = .ok (.dup2, 1) := by decide +kernel
theorem dX0_mixWide_265 : decode cX0_mixWide 265 = .ok (.laload, 1) := by decide +kernel
theorem dX0_mixWide_266 : decode cX0_mixWide 266 = .ok (.lload 9, 2) := by decide +kernel
theorem dX0_mixWide_268 : decode cX0_mixWide 268 = .ok (.ladd, 1) := by decide +kernel
theorem dX0_mixWide_269 : decode cX0_mixWide 269 = .ok (.lastore, 1) := by decide +kernel
theorem dX0_mixWide_270 : decode cX0_mixWide 270 = .ok (.aload_n 0, 1) := by decide +kernel
theorem dX0_mixWide_271 : decode cX0_mixWide 271 = .ok (.getfield 9, 3) := by decide +kernel
theorem dX0_mixWide_274 : decode cX0_mixWide 274 = .ok (.iconst 5, 1) := by decide +kernel
theorem dX0_mixWide_275 : decode cX0_mixWide 275 = .ok (.dup2, 1) := by decide +kernel
theorem dX0_mixWide_276 : decode cX0_mixWide 276 = .ok (.laload, 1) := by decide +kernel
theorem dX0_mixWide_277 : decode cX0_mixWide 277 = .ok (.lload 11, 2) := by decide +kernel
theorem dX0_mixWide_279 : decode cX0_mixWide 279 = .ok (.ladd, 1) := by decide +kernel
theorem dX0_mixWide_280 : decode cX0_mixWide 280 = .ok (.lastore, 1) := by decide +kernel
theorem dX0_mixWide_281 : decode cX0_mixWide 281 = .ok (.aload_n 0, 1) := by decide +kernel
theorem dX0_mixWide_282 : decode cX0_mixWide 282 = .ok (.getfield 9, 3) := by decide +kernel
theorem dX0_mixWide_285 : decode cX0_mixWide 285 = .ok (.bipush 6, 2) := by decide +kernel
theorem dX0_mixWide_287 : decode cX0_mixWide 287 = .ok (.dup2, 1) := by decide +kernel
theorem dX0_mixWide_288 : decode cX0_mixWide 288 = .ok (.laload, 1) := by decide +kernel
theorem dX0_mixWide_289 : decode cX0_mixWide 289 = .ok (.lload 13, 2) := by decide +kernel
theorem dX0_mixWide_291 : decode cX0_mixWide 291 = .ok (.ladd, 1) := by decide +kernel
theorem dX0_mixWide_292 : decode cX0_mixWide 292 = .ok (.lastore, 1) := by decide +kernel
theorem dX0_mixWide_293 : decode cX0_mixWide 293 = .ok (.aload_n 0, 1) := by decide +kernel
theorem dX0_mixWide_294 : decode cX0_mixWide 294 = .ok (.getfield 9, 3) := by decide +kernel
theorem dX0_mixWide_297 : decode cX0_mixWide 297 = .ok (.bipush 7, 2) := by decide +kernel
theorem dX0_mixWide_299 : decode cX0_mixWide 299 = .ok (.dup2, 1) := by decide +kernel
theorem dX0_mixWide_300 : decode cX0_mixWide 300 = .ok (.laload, 1) := by decide +kernel
theorem dX0_mixWide_301 : decode cX0_mixWide 301 = .ok (.lload 15, 2) := by decide +kernel
theorem dX0_mixWide_303 : decode cX0_mixWide 303 = .ok (.ladd, 1) := by decide +kernel
theorem dX0_mixWide_304 : decode cX0_mixWide 304 = .ok (.lastore, 1) := by decide +kernel
theorem dX0_mixWide_305 : decode cX0_mixWide 305 = .ok (.return_, 1) := by decide +kernel
theorem dX1_init_0 : decode cX1_init 0 = .ok (.aload_n 0, 1) := by decide +kernel
theorem dX1_init_1 : decode cX1_init 1 = .ok (.invokespecial 3, 3) := by decide +kernel
theorem dX1_init_4 : decode cX1_init 4 = .ok (.aload_n 0, 1) := by decide +kernel
theorem dX1_init_5 : decode cX1_init 5 = .ok (.iload_n 1, 1) := by decide +kernel
theorem dX1_init_6 : decode cX1_init 6 = .ok (.ifCond .ge 7, 3) := by decide +kernel
theorem dX1_init_9 : decode cX1_init 9 = .ok (.iconst 0, 1) := by decide +kernel
theorem dX1_init_10 : decode cX1_init 10 = .ok (.goto 4, 3) := by decide +kernel
theorem dX1_init_13 : decode cX1_init 13 = .ok (.iload_n 1, 1) := by decide +kernel
theorem dX1_init_14 : decode cX1_init 14 = .ok (.newarray .byte, 2) := by decide +kernel
theorem dX1_init_16 : decode cX1_init 16 = .ok (.putfield 9, 3) := by decide +kernel
