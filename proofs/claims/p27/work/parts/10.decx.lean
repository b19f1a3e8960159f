theorem dX0_init_0 : decode cX0_init 0 = .ok (.aload_n 0, 1) := by decide +kernel
theorem dX0_init_1 : decode cX0_init 1 = .ok (.invokespecial 3, 3) := by decide +kernel
theorem dX0_init_4 : decode cX0_init 4 = .ok (.aload_n 0, 1) := by decide +kernel
theorem dX0_init_5 : decode cX0_init 5 = .ok (.bipush 12, 2) := by decide +kernel
theorem dX0_init_7 : decode cX0_init 7 = .ok (.anewarray 9, 3) := by decide +kernel
theorem dX0_init_10 : decode cX0_init 10 = .ok (.putfield 11, 3) := by decide +kernel
theorem dX0_init_13 : decode cX0_init 13 = .ok (.aload_n 0, 1) := by decide +kernel
theorem dX0_init_14 : decode cX0_init 14 = .ok (.bipush 10, 2) := by decide +kernel
theorem dX0_init_16 : decode cX0_init 16 = .ok (.newarray .int, 2) := by decide +kernel
theorem dX0_init_18 : decode cX0_init 18 = .ok (.putfield 17, 3) := by decide +kernel
theorem dX0_init_21 : decode cX0_init 21 = .ok (.aload_n 0, 1) := by decide +kernel
theorem dX0_init_22 : decode cX0_init 22 = .ok (.bipush 100, 2) := by decide +kernel
theorem dX0_init_24 : decode cX0_init 24 = .ok (.putfield 21, 3) := by decide +kernel
theorem dX0_init_27 : decode cX0_init 27 = .ok (.aload_n 0, 1) := by decide +kernel
theorem dX0_init_28 : decode cX0_init 28 = .ok (.new 9, 3) := by decide +kernel
theorem dX0_init_31 : decode cX0_init 31 = .ok (.dup, 1) := by decide +kernel
theorem dX0_init_32 : decode cX0_init 32 = .ok (.invokespecial 25, 3) := by decide +kernel
theorem dX0_init_35 : decode cX0_init 35 = .ok (.putfield 26, 3) := by decide +kernel
theorem dX0_init_38 : decode cX0_init 38 = .ok (.aload_n 0, 1) := by decide +kernel
theorem dX0_init_39 : decode cX0_init 39 = .ok (.bipush 12, 2) := by decide +kernel
theorem dX0_init_41 : decode cX0_init 41 = .ok (.newarray .int, 2) := by decide +kernel
theorem dX0_init_43 : decode cX0_init 43 = .ok (.putfield 30, 3) := by decide +kernel
theorem dX0_init_46 : decode cX0_init 46 = .ok (.iconst 0, 1) := by decide +kernel
theorem dX0_init_47 : decode cX0_init 47 = .ok (.istore_n 1, 1) := by decide +kernel
theorem dX0_init_48 : decode cX0_init 48 = .ok (.iload_n 1, 1) := by decide +kernel
theorem dX0_init_49 : decode cX0_init 49 = .ok (.bipush 12, 2) := by decide +kernel
theorem dX0_init_51 : decode cX0_init 51 = .ok (.if_icmp .ge 22, 3) := by decide +kernel
theorem dX0_init_54 : decode cX0_init 54 = .ok (.aload_n 0, 1) := by decide +kernel
theorem dX0_init_55 : decode cX0_init 55 = .ok (.getfield 11, 3) := by decide +kernel
theorem dX0_init_58 : decode cX0_init 58 = .ok (.iload_n 1, 1) := by decide +kernel
theorem dX0_init_59 : decode cX0_init 59 = .ok (.new 9, 3) := by decide +kernel
theorem dX0_init_62 : decode cX0_init 62 = .ok (.dup, 1) := by decide +kernel
theorem dX0_init_63 : decode cX0_init 63 = .ok (.invokespecial 25, 3) := by decide +kernel
theorem dX0_init_66 : decode cX0_init 66 = .ok (.aastore, 1) := by decide +kernel
theorem dX0_init_67 : decode cX0_init 67 = .ok (.iinc 1 1, 3) := by decide +kernel
theorem dX0_init_70 : decode cX0_init 70 = .ok (.goto (-22), 3) := by decide +kernel
theorem dX0_init_73 : decode cX0_init 73 = .ok (.return_, 1) := by decide +kernel
theorem dX0_copyFrom_0 : decode cX0_copyFrom 0 = .ok (.iconst 0, 1) := by decide +kernel
theorem dX0_copyFrom_1 : decode cX0_copyFrom 1 = .ok (.istore_n 2, 1) := by decide +kernel
theorem dX0_copyFrom_2 : decode cX0_copyFrom 2 = .ok (.iload_n 2, 1) := by decide +kernel
theorem dX0_copyFrom_3 : decode cX0_copyFrom 3 = .ok (.aload_n 1, 1) := by decide +kernel
theorem dX0_copyFrom_4 : decode cX0_copyFrom 4 = .ok (.getfield 33, 3) := by decide +kernel
theorem dX0_copyFrom_7 : decode cX0_copyFrom 7 = .ok (.if_icmp .ge 24, 3) := by decide +kernel
theorem dX0_copyFrom_10 : decode cX0_copyFrom 10 = .ok (.aload_n 0, 1) := by decide +kernel
theorem dX0_copyFrom_11 : decode cX0_copyFrom 11 = .ok (.getfield 11, 3) := by decide +kernel
theorem dX0_copyFrom_14 : decode cX0_copyFrom 14 = .ok (.iload_n 2, 1) := by decide +kernel
theorem dX0_copyFrom_15 : decode cX0_copyFrom 15 = .ok (.aaload, 1) := by decide +kernel
theorem dX0_copyFrom_16 : decode cX0_copyFrom 16 = .ok (.aload_n 1, 1) := by decide +kernel
theorem dX0_copyFrom_17 : decode cX0_copyFrom 17 = .ok (.getfield 11, 3) := by decide +kernel
theorem dX0_copyFrom_20 : decode cX0_copyFrom 20 = .ok (.iload_n 2, 1) := by decide +kernel
theorem dX0_copyFrom_21 : decode cX0_copyFrom 21 = .ok (.aaload, 1) := by decide +kernel
theorem dX0_copyFrom_22 : decode cX0_copyFrom 22 = .ok (.invokevirtual 36, 3) := by decide +kernel
theorem dX0_copyFrom_25 : decode cX0_copyFrom 25 = .ok (.iinc 2 1, 3) := by decide +kernel
theorem dX0_copyFrom_28 : decode cX0_copyFrom 28 = .ok (.goto (-26), 3) := by decide +kernel
theorem dX0_copyFrom_31 : decode cX0_copyFrom 31 = .ok (.aload_n 0, 1) := by decide +kernel
theorem dX0_copyFrom_32 : decode cX0_copyFrom 32 = .ok (.aload_n 1, 1) := by decide +kernel
theorem dX0_copyFrom_33 : decode cX0_copyFrom 33 = .ok (.getfield 33, 3) := by decide +kernel
theorem dX0_copyFrom_36 : decode cX0_copyFrom 36 = .ok (.putfield 33, 3) := by decide +kernel
theorem dX0_copyFrom_39 : decode cX0_copyFrom 39 = .ok (.aload_n 1, 1) := by decide +kernel
theorem dX0_copyFrom_40 : decode cX0_copyFrom 40 = .ok (.getfield 17, 3) := by decide +kernel
theorem dX0_copyFrom_43 : decode cX0_copyFrom 43 = .ok (.iconst 0, 1) := by decide +kernel
theorem dX0_copyFrom_44 : decode cX0_copyFrom 44 = .ok (.aload_n 0, 1) := by decide +kernel
theorem dX0_copyFrom_45 : decode cX0_copyFrom 45 = .ok (.getfield 17, 3) := by decide +kernel
theorem dX0_copyFrom_48 : decode cX0_copyFrom 48 = .ok (.iconst 0, 1) := by decide +kernel
theorem dX0_copyFrom_49 : decode cX0_copyFrom 49 = .ok (.bipush 10, 2) := by decide +kernel
theorem dX0_copyFrom_51 : decode cX0_copyFrom 51 = .ok (.invokestatic 40, 3) := by decide +kernel
theorem dX0_copyFrom_54 : decode cX0_copyFrom 54 = .ok (.aload_n 0, 1) := by decide +kernel
theorem dX0_copyFrom_55 : decode cX0_copyFrom 55 = .ok (.aload_n 1, 1) := by decide +kernel
theorem dX0_copyFrom_56 : decode cX0_copyFrom 56 = .ok (.getfield 46, 3) := by decide +kernel
theorem dX0_copyFrom_59 : decode cX0_copyFrom 59 = .ok (.putfield 46, 3) := by decide +kernel
theorem dX0_copyFrom_62 : decode cX0_copyFrom 62 = .ok (.aload_n 0, 1) := by decide +kernel
theorem dX0_copyFrom_63 : decode cX0_copyFrom 63 = .ok (.aload_n 1, 1) := by decide +kernel
theorem dX0_copyFrom_64 : decode cX0_copyFrom 64 = .ok (.getfield 21, 3) := by decide +kernel
theorem dX0_copyFrom_67 : decode cX0_copyFrom 67 = .ok (.putfield 21, 3) := by decide +kernel
theorem dX0_copyFrom_70 : decode cX0_copyFrom 70 = .ok (.return_, 1) := by decide +kernel
theorem dX0_hasWord_0 : decode cX0_hasWord 0 = .ok (.iload_n 1, 1) := by decide +kernel
theorem dX0_hasWord_1 : decode cX0_hasWord 1 = .ok (.ifCond .lt 15, 3) := by decide +kernel
theorem dX0_hasWord_4 : decode cX0_hasWord 4 = .ok (.iload_n 1, 1) := by decide +kernel
theorem dX0_hasWord_5 : decode cX0_hasWord 5 = .ok (.aload_n 0, 1) := by decide +kernel
theorem dX0_hasWord_6 : decode cX0_hasWord 6 = .ok (.getfield 33, 3) := by decide +kernel
theorem dX0_hasWord_9 : decode cX0_hasWord 9 = .ok (.if_icmp .ge 7, 3) := by decide +kernel
theorem dX0_hasWord_12 : decode cX0_hasWord 12 = .ok (.iconst 1, 1) := by decide +kernel
theorem dX0_hasWord_13 : decode cX0_hasWord 13 = .ok (.goto 4, 3) := by decide +kernel
theorem dX0_hasWord_16 : decode cX0_hasWord 16 = .ok (.iconst 0, 1) := by decide +kernel
theorem dX0_hasWord_17 : decode cX0_hasWord 17 = .ok (.ireturn, 1) := by decide +kernel
theorem dX0_hasRoomForWord_0 : decode cX0_hasRoomForWord 0 = .ok (.aload_n 0, 1) := by decide +kernel
theorem dX0_hasRoomForWord_1 : decode cX0_hasRoomForWord 1 = .ok (.getfield 33, 3) := by decide +kernel
theorem dX0_hasRoomForWord_4 : decode cX0_hasRoomForWord 4 = .ok (.bipush 12, 2) := by decide +kernel
theorem dX0_hasRoomForWord_6 : decode cX0_hasRoomForWord 6 = .ok (.if_icmp .ge 7, 3) := by decide +kernel
theorem dX0_hasRoomForWord_9 : decode cX0_hasRoomForWord 9 = .ok (.iconst 1, 1) := by decide +kernel
theorem dX0_hasRoomForWord_10 : decode cX0_hasRoomForWord 10 = .ok (.goto 4, 3) := by decide +kernel
theorem dX0_hasRoomForWord_13 : decode cX0_hasRoomForWord 13 = .ok (.iconst 0, 1) := by decide +kernel
theorem dX0_hasRoomForWord_14 : decode cX0_hasRoomForWord 14 = .ok (.ireturn, 1) := by decide +kernel
theorem dX0_hasRoomForShot_0 : decode cX0_hasRoomForShot 0 = .ok (.aload_n 0, 1) := by decide +kernel
theorem dX0_hasRoomForShot_1 : decode cX0_hasRoomForShot 1 = .ok (.getfield 46, 3) := by decide +kernel
theorem dX0_hasRoomForShot_4 : decode cX0_hasRoomForShot 4 = .ok (.bipush 10, 2) := by decide +kernel
theorem dX0_hasRoomForShot_6 : decode cX0_hasRoomForShot 6 = .ok (.if_icmp .ge 7, 3) := by decide +kernel
theorem dX0_hasRoomForShot_9 : decode cX0_hasRoomForShot 9 = .ok (.iconst 1, 1) := by decide +kernel
theorem dX0_hasRoomForShot_10 : decode cX0_hasRoomForShot 10 = .ok (.goto 4, 3) := by decide +kernel
theorem dX0_hasRoomForShot_13 : decode cX0_hasRoomForShot 13 = .ok (.iconst 0, 1) := by decide +kernel
theorem dX0_hasRoomForShot_14 : decode cX0_hasRoomForShot 14 = .ok (.ireturn, 1) := by decide +kernel
theorem dX0_appendWord_0 : decode cX0_appendWord 0 = .ok (.aload_n 0, 1) := by decide +kernel
theorem dX0_appendWord_1 : decode cX0_appendWord 1 = .ok (.getfield 11, 3) := by decide +kernel
theorem dX0_appendWord_4 : decode cX0_appendWord 4 = .ok (.aload_n 0, 1) := by decide +kernel
theorem dX0_appendWord_5 : decode cX0_appendWord 5 = .ok (.getfield 33, 3) := by decide +kernel
theorem dX0_appendWord_8 : decode cX0_appendWord 8 = .ok (.aaload, 1) := by decide +kernel
theorem dX0_appendWord_9 : decode cX0_appendWord 9 = .ok (.astore 6, 2) := by decide +kernel
theorem dX0_appendWord_11 : decode cX0_appendWord 11 = .ok (.iconst 0, 1) := by decide +kernel
theorem dX0_appendWord_12 : decode cX0_appendWord 12 = .ok (.istore 7, 2) := by decide +kernel
theorem dX0_appendWord_14 : decode cX0_appendWord 14 = .ok (.iload 7, 2) := by decide +kernel
theorem dX0_appendWord_16 : decode cX0_appendWord 16 = .ok (.iload_n 1, 1) := by decide +kernel
theorem dX0_appendWord_17 : decode cX0_appendWord 17 = .ok (.if_icmp .ge 22, 3) := by decide +kernel
theorem dX0_appendWord_20 : decode cX0_appendWord 20 = .ok (.aload 6, 2) := by decide +kernel
theorem dX0_appendWord_22 : decode cX0_appendWord 22 = .ok (.getfield 49, 3) := by decide +kernel
theorem dX0_appendWord_25 : decode cX0_appendWord 25 = .ok (.iload 7, 2) := by decide +kernel
theorem dX0_appendWord_27 : decode cX0_appendWord 27 = .ok (.bipush 97, 2) := by decide +kernel
theorem dX0_appendWord_29 : decode cX0_appendWord 29 = .ok (.iload 7, 2) := by decide +kernel
theorem dX0_appendWord_31 : decode cX0_appendWord 31 = .ok (.iadd, 1) := by decide +kernel
theorem dX0_appendWord_32 : decode cX0_appendWord 32 = .ok (.iastore, 1) := by decide +kernel
theorem dX0_appendWord_33 : decode cX0_appendWord 33 = .ok (.iinc 7 1, 3) := by decide +kernel
theorem dX0_appendWord_36 : decode cX0_appendWord 36 = .ok (.goto (-22), 3) := by decide +kernel
theorem dX0_appendWord_39 : decode cX0_appendWord 39 = .ok (.aload 6, 2) := by decide +kernel
theorem dX0_appendWord_41 : decode cX0_appendWord 41 = .ok (.iload_n 1, 1) := by decide +kernel
theorem dX0_appendWord_42 : decode cX0_appendWord 42 = .ok (.putfield 52, 3) := by decide +kernel
theorem dX0_appendWord_45 : decode cX0_appendWord 45 = .ok (.aload 6, 2) := by decide +kernel
theorem dX0_appendWord_47 : decode cX0_appendWord 47 = .ok (.iload_n 2, 1) := by decide +kernel
theorem dX0_appendWord_48 : decode cX0_appendWord 48 = .ok (.putfield 55, 3) := by decide +kernel
theorem dX0_appendWord_51 : decode cX0_appendWord 51 = .ok (.aload 6, 2) := by decide +kernel
theorem dX0_appendWord_53 : decode cX0_appendWord 53 = .ok (.iload_n 3, 1) := by decide +kernel
theorem dX0_appendWord_54 : decode cX0_appendWord 54 = .ok (.putfield 58, 3) := by decide +kernel
theorem dX0_appendWord_57 : decode cX0_appendWord 57 = .ok (.aload 6, 2) := by decide +kernel
theorem dX0_appendWord_59 : decode cX0_appendWord 59 = .ok (.iload 4, 2) := by decide +kernel
theorem dX0_appendWord_61 : decode cX0_appendWord 61 = .ok (.putfield 61, 3) := by decide +kernel
theorem dX0_appendWord_64 : decode cX0_appendWord 64 = .ok (.aload 6, 2) := by decide +kernel
theorem dX0_appendWord_66 : decode cX0_appendWord 66 = .ok (.iload 5, 2) := by decide +kernel
theorem dX0_appendWord_68 : decode cX0_appendWord 68 = .ok (.putfield 64, 3) := by decide +kernel
theorem dX0_appendWord_71 : decode cX0_appendWord 71 = .ok (.aload 6, 2) := by decide +kernel
theorem dX0_appendWord_73 : decode cX0_appendWord 73 = .ok (.iconst 0, 1) := by decide +kernel
theorem dX0_appendWord_74 : decode cX0_appendWord 74 = .ok (.putfield 67, 3) := by decide +kernel
theorem dX0_appendWord_77 : decode cX0_appendWord 77 = .ok (.aload_n 0, 1) := by decide +kernel
theorem dX0_appendWord_78 : decode cX0_appendWord 78 = .ok (.dup, 1) := by decide +kernel
theorem dX0_appendWord_79 : decode cX0_appendWord 79 = .ok (.getfield 33, 3) := by decide +kernel
theorem dX0_appendWord_82 : decode cX0_appendWord 82 = .ok (.iconst 1, 1) := by decide +kernel
theorem dX0_appendWord_83 : decode cX0_appendWord 83 = .ok (.iadd, 1) := by decide +kernel
theorem dX0_appendWord_84 : decode cX0_appendWord 84 = .ok (.putfield 33, 3) := by decide +kernel
theorem dX0_appendWord_87 : decode cX0_appendWord 87 = .ok (.aload 6, 2) := by decide +kernel
theorem dX0_appendWord_89 : decode cX0_appendWord 89 = .ok (.areturn, 1) := by decide +kernel
theorem dX0_deleteWord_0 : decode cX0_deleteWord 0 = .ok (.aload_n 0, 1) := by decide +kernel
theorem dX0_deleteWord_1 : decode cX0_deleteWord 1 = .ok (.getfield 11, 3) := by decide +kernel
theorem dX0_deleteWord_4 : decode cX0_deleteWord 4 = .ok (.iload_n 1, 1) := by decide +kernel
theorem dX0_deleteWord_5 : decode cX0_deleteWord 5 = .ok (.aaload, 1) := by decide +kernel
theorem dX0_deleteWord_6 : decode cX0_deleteWord 6 = .ok (.astore_n 2, 1) := by decide +kernel
theorem dX0_deleteWord_7 : decode cX0_deleteWord 7 = .ok (.iload_n 1, 1) := by decide +kernel
theorem dX0_deleteWord_8 : decode cX0_deleteWord 8 = .ok (.iconst 1, 1) := by decide +kernel
theorem dX0_deleteWord_9 : decode cX0_deleteWord 9 = .ok (.iadd, 1) := by decide +kernel
theorem dX0_deleteWord_10 : decode cX0_deleteWord 10 = .ok (.istore_n 3, 1) := by decide +kernel
theorem dX0_deleteWord_11 : decode cX0_deleteWord 11 = .ok (.iload_n 3, 1) := by decide +kernel
theorem dX0_deleteWord_12 : decode cX0_deleteWord 12 = .ok (.aload_n 0, 1) := by decide +kernel
theorem dX0_deleteWord_13 : decode cX0_deleteWord 13 = .ok (.getfield 33, 3) := by decide +kernel
theorem dX0_deleteWord_16 : decode cX0_deleteWord 16 = .ok (.if_icmp .ge 23, 3) := by decide +kernel
theorem dX0_deleteWord_19 : decode cX0_deleteWord 19 = .ok (.aload_n 0, 1) := by decide +kernel
theorem dX0_deleteWord_20 : decode cX0_deleteWord 20 = .ok (.getfield 11, 3) := by decide +kernel
theorem dX0_deleteWord_23 : decode cX0_deleteWord 23 = .ok (.iload_n 3, 1) := by decide +kernel
theorem dX0_deleteWord_24 : decode cX0_deleteWord 24 = .ok (.iconst 1, 1) := by decide +kernel
theorem dX0_deleteWord_25 : decode cX0_deleteWord 25 = .ok (.isub, 1) := by decide +kernel
theorem dX0_deleteWord_26 : decode cX0_deleteWord 26 = .ok (.aload_n 0, 1) := by decide +kernel
theorem dX0_deleteWord_27 : decode cX0_deleteWord 27 = .ok (.getfield 11, 3) := by decide +kernel
theorem dX0_deleteWord_30 : decode cX0_deleteWord 30 = .ok (.iload_n 3, 1) := by decide +kernel
theorem dX0_deleteWord_31 : decode cX0_deleteWord 31 = .ok (.aaload, 1) := by decide +kernel
theorem dX0_deleteWord_32 : decode cX0_deleteWord 32 = .ok (.aastore, 1) := by decide +kernel
theorem dX0_deleteWord_33 : decode cX0_deleteWord 33 = .ok (.iinc 3 1, 3) := by decide +kernel
theorem dX0_deleteWord_36 : decode cX0_deleteWord 36 = .ok (.goto (-25), 3) := by decide +kernel
theorem dX0_deleteWord_39 : decode cX0_deleteWord 39 = .ok (.aload_n 0, 1) := by decide +kernel
theorem dX0_deleteWord_40 : decode cX0_deleteWord 40 = .ok (.dup, 1) := by decide +kernel
theorem dX0_deleteWord_41 : decode cX0_deleteWord 41 = .ok (.getfield 33, 3) := by decide +kernel
theorem dX0_deleteWord_44 : decode cX0_deleteWord 44 = .ok (.iconst 1, 1) := by decide +kernel
theorem dX0_deleteWord_45 : decode cX0_deleteWord 45 = .ok (.isub, 1) := by decide +kernel
theorem dX0_deleteWord_46 : decode cX0_deleteWord 46 = .ok (.putfield 33, 3) := by decide +kernel
theorem dX0_deleteWord_49 : decode cX0_deleteWord 49 = .ok (.aload_n 0, 1) := by decide +kernel
theorem dX0_deleteWord_50 : decode cX0_deleteWord 50 = .ok (.getfield 11, 3) := by decide +kernel
theorem dX0_deleteWord_53 : decode cX0_deleteWord 53 = .ok (.aload_n 0, 1) := by decide +kernel
theorem dX0_deleteWord_54 : decode cX0_deleteWord 54 = .ok (.getfield 33, 3) := by decide +kernel
theorem dX0_deleteWord_57 : decode cX0_deleteWord 57 = .ok (.aload_n 2, 1) := by decide +kernel
theorem dX0_deleteWord_58 : decode cX0_deleteWord 58 = .ok (.aastore, 1) := by decide +kernel
theorem dX0_deleteWord_59 : decode cX0_deleteWord 59 = .ok (.return_, 1) := by decide +kernel
theorem dX0_hasShotIn_0 : decode cX0_hasShotIn 0 = .ok (.iconst 0, 1) := by decide +kernel
theorem dX0_hasShotIn_1 : decode cX0_hasShotIn 1 = .ok (.istore_n 2, 1) := by decide +kernel
theorem dX0_hasShotIn_2 : decode cX0_hasShotIn 2 = .ok (.iload_n 2, 1) := by decide +kernel
theorem dX0_hasShotIn_3 : decode cX0_hasShotIn 3 = .ok (.aload_n 0, 1) := by decide +kernel
theorem dX0_hasShotIn_4 : decode cX0_hasShotIn 4 = .ok (.getfield 46, 3) := by decide +kernel
theorem dX0_hasShotIn_7 : decode cX0_hasShotIn 7 = .ok (.if_icmp .ge 21, 3) := by decide +kernel
theorem dX0_hasShotIn_10 : decode cX0_hasShotIn 10 = .ok (.aload_n 0, 1) := by decide +kernel
theorem dX0_hasShotIn_11 : decode cX0_hasShotIn 11 = .ok (.getfield 17, 3) := by decide +kernel
theorem dX0_hasShotIn_14 : decode cX0_hasShotIn 14 = .ok (.iload_n 2, 1) := by decide +kernel
theorem dX0_hasShotIn_15 : decode cX0_hasShotIn 15 = .ok (.iaload, 1) := by decide +kernel
theorem dX0_hasShotIn_16 : decode cX0_hasShotIn 16 = .ok (.iload_n 1, 1) := by decide +kernel
theorem dX0_hasShotIn_17 : decode cX0_hasShotIn 17 = .ok (.if_icmp .ne 5, 3) := by decide +kernel
theorem dX0_hasShotIn_20 : decode cX0_hasShotIn 20 = .ok (.iconst 1, 1) := by decide +kernel
theorem dX0_hasShotIn_21 : decode cX0_hasShotIn 21 = .ok (.ireturn, 1) := by decide +kernel
theorem dX0_hasShotIn_22 : decode cX0_hasShotIn 22 = .ok (.iinc 2 1, 3) := by decide +kernel
theorem dX0_hasShotIn_25 : decode cX0_hasShotIn 25 = .ok (.goto (-23), 3) := by decide +kernel
theorem dX0_hasShotIn_28 : decode cX0_hasShotIn 28 = .ok (.iconst 0, 1) := by decide +kernel
theorem dX0_hasShotIn_29 : decode cX0_hasShotIn 29 = .ok (.ireturn, 1) := by decide +kernel
theorem dX0_insertShot_0 : decode cX0_insertShot 0 = .ok (.aload_n 0, 1) := by decide +kernel
theorem dX0_insertShot_1 : decode cX0_insertShot 1 = .ok (.getfield 46, 3) := by decide +kernel
theorem dX0_insertShot_4 : decode cX0_insertShot 4 = .ok (.istore_n 2, 1) := by decide +kernel
theorem dX0_insertShot_5 : decode cX0_insertShot 5 = .ok (.iload_n 2, 1) := by decide +kernel
theorem dX0_insertShot_6 : decode cX0_insertShot 6 = .ok (.ifCond .le 35, 3) := by decide +kernel
theorem dX0_insertShot_9 : decode cX0_insertShot 9 = .ok (.aload_n 0, 1) := by decide +kernel
theorem dX0_insertShot_10 : decode cX0_insertShot 10 = .ok (.getfield 17, 3) := by decide +kernel
theorem dX0_insertShot_13 : decode cX0_insertShot 13 = .ok (.iload_n 2, 1) := by decide +kernel
theorem dX0_insertShot_14 : decode cX0_insertShot 14 = .ok (.iconst 1, 1) := by decide +kernel
theorem dX0_insertShot_15 : decode cX0_insertShot 15 = .ok (.isub, 1) := by decide +kernel
theorem dX0_insertShot_16 : decode cX0_insertShot 16 = .ok (.iaload, 1) := by decide +kernel
theorem dX0_insertShot_17 : decode cX0_insertShot 17 = .ok (.iload_n 1, 1) := by decide +kernel
theorem dX0_insertShot_18 : decode cX0_insertShot 18 = .ok (.if_icmp .le 23, 3) := by decide +kernel
theorem dX0_insertShot_21 : decode cX0_insertShot 21 = .ok (.aload_n 0, 1) := by decide +kernel
theorem dX0_insertShot_22 : decode cX0_insertShot 22 = .ok (.getfield 17, 3) := by decide +kernel
theorem dX0_insertShot_25 : decode cX0_insertShot 25 = .ok (.iload_n 2, 1) := by decide +kernel
theorem dX0_insertShot_26 : decode cX0_insertShot 26 = .ok (.aload_n 0, 1) := by decide +kernel
theorem dX0_insertShot_27 : decode cX0_insertShot 27 = .ok (.getfield 17, 3) := by decide +kernel
theorem dX0_insertShot_30 : decode cX0_insertShot 30 = .ok (.iload_n 2, 1) := by decide +kernel
theorem dX0_insertShot_31 : decode cX0_insertShot 31 = .ok (.iconst 1, 1) := by decide +kernel
theorem dX0_insertShot_32 : decode cX0_insertShot 32 = .ok (.isub, 1) := by decide +kernel
theorem dX0_insertShot_33 : decode cX0_insertShot 33 = .ok (.iaload, 1) := by decide +kernel
theorem dX0_insertShot_34 : decode cX0_insertShot 34 = .ok (.iastore, 1) := by decide +kernel
theorem dX0_insertShot_35 : decode cX0_insertShot 35 = .ok (.iinc 2 (-1), 3) := by decide +kernel
theorem dX0_insertShot_38 : decode cX0_insertShot 38 = .ok (.goto (-33), 3) := by decide +kernel
theorem dX0_insertShot_41 : decode cX0_insertShot 41 = .ok (.aload_n 0, 1) := by decide +kernel
theorem dX0_insertShot_42 : decode cX0_insertShot 42 = .ok (.getfield 17, 3) := by decide +kernel
theorem dX0_insertShot_45 : decode cX0_insertShot 45 = .ok (.iload_n 2, 1) := by decide +kernel
theorem dX0_insertShot_46 : decode cX0_insertShot 46 = .ok (.iload_n 1, 1) := by decide +kernel
theorem dX0_insertShot_47 : decode cX0_insertShot 47 = .ok (.iastore, 1) := by decide +kernel
theorem dX0_insertShot_48 : decode cX0_insertShot 48 = .ok (.aload_n 0, 1) := by decide +kernel
theorem dX0_insertShot_49 : decode cX0_insertShot 49 = .ok (.dup, 1) := by decide +kernel
theorem dX0_insertShot_50 : decode cX0_insertShot 50 = .ok (.getfield 46, 3) := by decide +kernel
theorem dX0_insertShot_53 : decode cX0_insertShot 53 = .ok (.iconst 1, 1) := by decide +kernel
theorem dX0_insertShot_54 : decode cX0_insertShot 54 = .ok (.iadd, 1) := by decide +kernel
theorem dX0_insertShot_55 : decode cX0_insertShot 55 = .ok (.putfield 46, 3) := by decide +kernel
theorem dX0_insertShot_58 : decode cX0_insertShot 58 = .ok (.return_, 1) := by decide +kernel
theorem dX0_deleteShot_0 : decode cX0_deleteShot 0 = .ok (.iconst 0, 1) := by decide +kernel
theorem dX0_deleteShot_1 : decode cX0_deleteShot 1 = .ok (.istore_n 2, 1) := by decide +kernel
theorem dX0_deleteShot_2 : decode cX0_deleteShot 2 = .ok (.iconst 0, 1) := by decide +kernel
theorem dX0_deleteShot_3 : decode cX0_deleteShot 3 = .ok (.istore_n 3, 1) := by decide +kernel
theorem dX0_deleteShot_4 : decode cX0_deleteShot 4 = .ok (.iload_n 3, 1) := by decide +kernel
theorem dX0_deleteShot_5 : decode cX0_deleteShot 5 = .ok (.aload_n 0, 1) := by decide +kernel
theorem dX0_deleteShot_6 : decode cX0_deleteShot 6 = .ok (.getfield 46, 3) := by decide +kernel
theorem dX0_deleteShot_9 : decode cX0_deleteShot 9 = .ok (.if_icmp .ge 34, 3) := by decide +kernel
theorem dX0_deleteShot_12 : decode cX0_deleteShot 12 = .ok (.aload_n 0, 1) := by decide +kernel
theorem dX0_deleteShot_13 : decode cX0_deleteShot 13 = .ok (.getfield 17, 3) := by decide +kernel
theorem dX0_deleteShot_16 : decode cX0_deleteShot 16 = .ok (.iload_n 3, 1) := by decide +kernel
theorem dX0_deleteShot_17 : decode cX0_deleteShot 17 = .ok (.iaload, 1) := by decide +kernel
theorem dX0_deleteShot_18 : decode cX0_deleteShot 18 = .ok (.iload_n 1, 1) := by decide +kernel
theorem dX0_deleteShot_19 : decode cX0_deleteShot 19 = .ok (.if_icmp .eq 18, 3) := by decide +kernel
theorem dX0_deleteShot_22 : decode cX0_deleteShot 22 = .ok (.aload_n 0, 1) := by decide +kernel
theorem dX0_deleteShot_23 : decode cX0_deleteShot 23 = .ok (.getfield 17, 3) := by decide +kernel
theorem dX0_deleteShot_26 : decode cX0_deleteShot 26 = .ok (.iload_n 2, 1) := by decide +kernel
theorem dX0_deleteShot_27 : decode cX0_deleteShot 27 = .ok (.aload_n 0, 1) := by decide +kernel
theorem dX0_deleteShot_28 : decode cX0_deleteShot 28 = .ok (.getfield 17, 3) := by decide +kernel
theorem dX0_deleteShot_31 : decode cX0_deleteShot 31 = .ok (.iload_n 3, 1) := by decide +kernel
theorem dX0_deleteShot_32 : decode cX0_deleteShot 32 = .ok (.iaload, 1) := by decide +kernel
theorem dX0_deleteShot_33 : decode cX0_deleteShot 33 = .ok (.iastore, 1) := by decide +kernel
theorem dX0_deleteShot_34 : decode cX0_deleteShot 34 = .ok (.iinc 2 1, 3) := by decide +kernel
theorem dX0_deleteShot_37 : decode cX0_deleteShot 37 = .ok (.iinc 3 1, 3) := by decide +kernel
theorem dX0_deleteShot_40 : decode cX0_deleteShot 40 = .ok (.goto (-36), 3) := by decide +kernel
theorem dX0_deleteShot_43 : decode cX0_deleteShot 43 = .ok (.aload_n 0, 1) := by decide +kernel
theorem dX0_deleteShot_44 : decode cX0_deleteShot 44 = .ok (.iload_n 2, 1) := by decide +kernel
theorem dX0_deleteShot_45 : decode cX0_deleteShot 45 = .ok (.putfield 46, 3) := by decide +kernel
theorem dX0_deleteShot_48 : decode cX0_deleteShot 48 = .ok (.return_, 1) := by decide +kernel
theorem dX0_countPut_0 : decode cX0_countPut 0 = .ok (.iconst 0, 1) := by decide +kernel
theorem dX0_countPut_1 : decode cX0_countPut 1 = .ok (.istore_n 1, 1) := by decide +kernel
theorem dX0_countPut_2 : decode cX0_countPut 2 = .ok (.iconst 0, 1) := by decide +kernel
theorem dX0_countPut_3 : decode cX0_countPut 3 = .ok (.istore_n 2, 1) := by decide +kernel
theorem dX0_countPut_4 : decode cX0_countPut 4 = .ok (.iload_n 2, 1) := by decide +kernel
theorem dX0_countPut_5 : decode cX0_countPut 5 = .ok (.aload_n 0, 1) := by decide +kernel
theorem dX0_countPut_6 : decode cX0_countPut 6 = .ok (.getfield 33, 3) := by decide +kernel
theorem dX0_countPut_9 : decode cX0_countPut 9 = .ok (.if_icmp .ge 24, 3) := by decide +kernel
theorem dX0_countPut_12 : decode cX0_countPut 12 = .ok (.aload_n 0, 1) := by decide +kernel
theorem dX0_countPut_13 : decode cX0_countPut 13 = .ok (.getfield 11, 3) := by decide +kernel
theorem dX0_countPut_16 : decode cX0_countPut 16 = .ok (.iload_n 2, 1) := by decide +kernel
theorem dX0_countPut_17 : decode cX0_countPut 17 = .ok (.aaload, 1) := by decide +kernel
theorem dX0_countPut_18 : decode cX0_countPut 18 = .ok (.getfield 67, 3) := by decide +kernel
theorem dX0_countPut_21 : decode cX0_countPut 21 = .ok (.ifCond .eq 6, 3) := by decide +kernel
theorem dX0_countPut_24 : decode cX0_countPut 24 = .ok (.iinc 1 1, 3) := by decide +kernel
theorem dX0_countPut_27 : decode cX0_countPut 27 = .ok (.iinc 2 1, 3) := by decide +kernel
theorem dX0_countPut_30 : decode cX0_countPut 30 = .ok (.goto (-26), 3) := by decide +kernel
theorem dX0_countPut_33 : decode cX0_countPut 33 = .ok (.iload_n 1, 1) := by decide +kernel
theorem dX0_countPut_34 : decode cX0_countPut 34 = .ok (.ireturn, 1) := by decide +kernel
theorem dX0_countMeetingPairs_0 : decode cX0_countMeetingPairs 0 = .ok (.iconst 0, 1) := by decide +kernel
theorem dX0_countMeetingPairs_1 : decode cX0_countMeetingPairs 1 = .ok (.istore_n 1, 1) := by decide +kernel
theorem dX0_countMeetingPairs_2 : decode cX0_countMeetingPairs 2 = .ok (.iconst 0, 1) := by decide +kernel
theorem dX0_countMeetingPairs_3 : decode cX0_countMeetingPairs 3 = .ok (.istore_n 2, 1) := by decide +kernel
theorem dX0_countMeetingPairs_4 : decode cX0_countMeetingPairs 4 = .ok (.iload_n 2, 1) := by decide +kernel
theorem dX0_countMeetingPairs_5 : decode cX0_countMeetingPairs 5 = .ok (.aload_n 0, 1) := by decide +kernel
theorem dX0_countMeetingPairs_6 : decode cX0_countMeetingPairs 6 = .ok (.getfield 33, 3) := by decide +kernel
theorem dX0_countMeetingPairs_9 : decode cX0_countMeetingPairs 9 = .ok (.if_icmp .ge 51, 3) := by decide +kernel
theorem dX0_countMeetingPairs_12 : decode cX0_countMeetingPairs 12 = .ok (.iload_n 2, 1) := by decide +kernel
theorem dX0_countMeetingPairs_13 : decode cX0_countMeetingPairs 13 = .ok (.iconst 1, 1) := by decide +kernel
theorem dX0_countMeetingPairs_14 : decode cX0_countMeetingPairs 14 = .ok (.iadd, 1) := by decide +kernel
theorem dX0_countMeetingPairs_15 : decode cX0_countMeetingPairs 15 = .ok (.istore_n 3, 1) := by decide +kernel
theorem dX0_countMeetingPairs_16 : decode cX0_countMeetingPairs 16 = .ok (.iload_n 3, 1) := by decide +kernel
theorem dX0_countMeetingPairs_17 : decode cX0_countMeetingPairs 17 = .ok (.aload_n 0, 1) := by decide +kernel
theorem dX0_countMeetingPairs_18 : decode cX0_countMeetingPairs 18 = .ok (.getfield 33, 3) := by decide +kernel
theorem dX0_countMeetingPairs_21 : decode cX0_countMeetingPairs 21 = .ok (.if_icmp .ge 33, 3) := by decide +kernel
theorem dX0_countMeetingPairs_24 : decode cX0_countMeetingPairs 24 = .ok (.aload_n 0, 1) := by decide +kernel
theorem dX0_countMeetingPairs_25 : decode cX0_countMeetingPairs 25 = .ok (.aload_n 0, 1) := by decide +kernel
theorem dX0_countMeetingPairs_26 : decode cX0_countMeetingPairs 26 = .ok (.getfield 11, 3) := by decide +kernel
theorem dX0_countMeetingPairs_29 : decode cX0_countMeetingPairs 29 = .ok (.iload_n 2, 1) := by decide +kernel
theorem dX0_countMeetingPairs_30 : decode cX0_countMeetingPairs 30 = .ok (.aaload, 1) := by decide +kernel
theorem dX0_countMeetingPairs_31 : decode cX0_countMeetingPairs 31 = .ok (.aload_n 0, 1) := by decide +kernel
theorem dX0_countMeetingPairs_32 : decode cX0_countMeetingPairs 32 = .ok (.getfield 11, 3) := by decide +kernel
theorem dX0_countMeetingPairs_35 : decode cX0_countMeetingPairs 35 = .ok (.iload_n 3, 1) := by decide +kernel
theorem dX0_countMeetingPairs_36 : decode cX0_countMeetingPairs 36 = .ok (.aaload, 1) := by decide +kernel
theorem dX0_countMeetingPairs_37 : decode cX0_countMeetingPairs 37 = .ok (.invokevirtual 71, 3) := by decide +kernel
theorem dX0_countMeetingPairs_40 : decode cX0_countMeetingPairs 40 = .ok (.bipush (-19), 2) := by decide +kernel
theorem dX0_countMeetingPairs_42 : decode cX0_countMeetingPairs 42 = .ok (.if_icmp .eq 6, 3) := by decide +kernel
theorem dX0_countMeetingPairs_45 : decode cX0_countMeetingPairs 45 = .ok (.iinc 1 1, 3) := by decide +kernel
theorem dX0_countMeetingPairs_48 : decode cX0_countMeetingPairs 48 = .ok (.iinc 3 1, 3) := by decide +kernel
theorem dX0_countMeetingPairs_51 : decode cX0_countMeetingPairs 51 = .ok (.goto (-35), 3) := by decide +kernel
theorem dX0_countMeetingPairs_54 : decode cX0_countMeetingPairs 54 = .ok (.iinc 2 1, 3) := by decide +kernel
theorem dX0_countMeetingPairs_57 : decode cX0_countMeetingPairs 57 = .ok (.goto (-53), 3) := by decide +kernel
theorem dX0_countMeetingPairs_60 : decode cX0_countMeetingPairs 60 = .ok (.iload_n 1, 1) := by decide +kernel
theorem dX0_countMeetingPairs_61 : decode cX0_countMeetingPairs 61 = .ok (.ireturn, 1) := by decide +kernel
theorem dX0_cellsMoved_0 : decode cX0_cellsMoved 0 = .ok (.aload_n 0, 1) := by decide +kernel
theorem dX0_cellsMoved_1 : decode cX0_cellsMoved 1 = .ok (.getfield 21, 3) := by decide +kernel
theorem dX0_cellsMoved_4 : decode cX0_cellsMoved 4 = .ok (.i2f, 1) := by decide +kernel
theorem dX0_cellsMoved_5 : decode cX0_cellsMoved 5 = .ok (.ldc 75, 2) := by decide +kernel
theorem dX0_cellsMoved_7 : decode cX0_cellsMoved 7 = .ok (.fdiv, 1) := by decide +kernel
theorem dX0_cellsMoved_8 : decode cX0_cellsMoved 8 = .ok (.fstore_n 2, 1) := by decide +kernel
theorem dX0_cellsMoved_9 : decode cX0_cellsMoved 9 = .ok (.iload_n 1, 1) := by decide +kernel
theorem dX0_cellsMoved_10 : decode cX0_cellsMoved 10 = .ok (.iconst 1, 1) := by decide +kernel
theorem dX0_cellsMoved_11 : decode cX0_cellsMoved 11 = .ok (.if_icmp .ge 7, 3) := by decide +kernel
theorem dX0_cellsMoved_14 : decode cX0_cellsMoved 14 = .ok (.iconst 0, 1) := by decide +kernel
theorem dX0_cellsMoved_15 : decode cX0_cellsMoved 15 = .ok (.goto 8, 3) := by decide +kernel
theorem dX0_cellsMoved_18 : decode cX0_cellsMoved 18 = .ok (.iload_n 1, 1) := by decide +kernel
theorem dX0_cellsMoved_19 : decode cX0_cellsMoved 19 = .ok (.i2f, 1) := by decide +kernel
theorem dX0_cellsMoved_20 : decode cX0_cellsMoved 20 = .ok (.fload_n 2, 1) := by decide +kernel
theorem dX0_cellsMoved_21 : decode cX0_cellsMoved 21 = .ok (.fmul, 1) := by decide +kernel
theorem dX0_cellsMoved_22 : decode cX0_cellsMoved 22 = .ok (.f2i, 1) := by decide +kernel
theorem dX0_cellsMoved_23 : decode cX0_cellsMoved 23 = .ok (.ireturn, 1) := by decide +kernel
theorem dX0_rowOf_0 : decode cX0_rowOf 0 = .ok (.aload_n 1, 1) := by decide +kernel
theorem dX0_rowOf_1 : decode cX0_rowOf 1 = .ok (.getfield 64, 3) := by decide +kernel
theorem dX0_rowOf_4 : decode cX0_rowOf 4 = .ok (.lookupswitch 58 #[(3, 28), (4, 43)], 28) := by decide +kernel
theorem dX0_rowOf_32 : decode cX0_rowOf 32 = .ok (.aload_n 1, 1) := by decide +kernel
theorem dX0_rowOf_33 : decode cX0_rowOf 33 = .ok (.getfield 76, 3) := by decide +kernel
theorem dX0_rowOf_36 : decode cX0_rowOf 36 = .ok (.aload_n 0, 1) := by decide +kernel
theorem dX0_rowOf_37 : decode cX0_rowOf 37 = .ok (.aload_n 1, 1) := by decide +kernel
theorem dX0_rowOf_38 : decode cX0_rowOf 38 = .ok (.iload_n 2, 1) := by decide +kernel
theorem dX0_rowOf_39 : decode cX0_rowOf 39 = .ok (.invokevirtual 79, 3) := by decide +kernel
theorem dX0_rowOf_42 : decode cX0_rowOf 42 = .ok (.invokevirtual 83, 3) := by decide +kernel
theorem dX0_rowOf_45 : decode cX0_rowOf 45 = .ok (.isub, 1) := by decide +kernel
theorem dX0_rowOf_46 : decode cX0_rowOf 46 = .ok (.ireturn, 1) := by decide +kernel
theorem dX0_rowOf_47 : decode cX0_rowOf 47 = .ok (.aload_n 1, 1) := by decide +kernel
theorem dX0_rowOf_48 : decode cX0_rowOf 48 = .ok (.getfield 76, 3) := by decide +kernel
theorem dX0_rowOf_51 : decode cX0_rowOf 51 = .ok (.aload_n 0, 1) := by decide +kernel
theorem dX0_rowOf_52 : decode cX0_rowOf 52 = .ok (.aload_n 1, 1) := by decide +kernel
theorem dX0_rowOf_53 : decode cX0_rowOf 53 = .ok (.iload_n 2, 1) := by decide +kernel
theorem dX0_rowOf_54 : decode cX0_rowOf 54 = .ok (.invokevirtual 79, 3) := by decide +kernel
theorem dX0_rowOf_57 : decode cX0_rowOf 57 = .ok (.invokevirtual 83, 3) := by decide +kernel
theorem dX0_rowOf_60 : decode cX0_rowOf 60 = .ok (.iadd, 1) := by decide +kernel
theorem dX0_rowOf_61 : decode cX0_rowOf 61 = .ok (.ireturn, 1) := by decide +kernel
theorem dX0_rowOf_62 : decode cX0_rowOf 62 = .ok (.aload_n 1, 1) := by decide +kernel
theorem dX0_rowOf_63 : decode cX0_rowOf 63 = .ok (.getfield 76, 3) := by decide +kernel
theorem dX0_rowOf_66 : decode cX0_rowOf 66 = .ok (.ireturn, 1) := by decide +kernel
theorem dX0_columnOf_0 : decode cX0_columnOf 0 = .ok (.aload_n 1, 1) := by decide +kernel
theorem dX0_columnOf_1 : decode cX0_columnOf 1 = .ok (.getfield 64, 3) := by decide +kernel
theorem dX0_columnOf_4 : decode cX0_columnOf 4 = .ok (.lookupswitch 58 #[(1, 28), (2, 43)], 28) := by decide +kernel
theorem dX0_columnOf_32 : decode cX0_columnOf 32 = .ok (.aload_n 1, 1) := by decide +kernel
theorem dX0_columnOf_33 : decode cX0_columnOf 33 = .ok (.getfield 86, 3) := by decide +kernel
theorem dX0_columnOf_36 : decode cX0_columnOf 36 = .ok (.aload_n 0, 1) := by decide +kernel
theorem dX0_columnOf_37 : decode cX0_columnOf 37 = .ok (.aload_n 1, 1) := by decide +kernel
theorem dX0_columnOf_38 : decode cX0_columnOf 38 = .ok (.iload_n 2, 1) := by decide +kernel
theorem dX0_columnOf_39 : decode cX0_columnOf 39 = .ok (.invokevirtual 79, 3) := by decide +kernel
theorem dX0_columnOf_42 : decode cX0_columnOf 42 = .ok (.invokevirtual 83, 3) := by decide +kernel
theorem dX0_columnOf_45 : decode cX0_columnOf 45 = .ok (.isub, 1) := by decide +kernel
theorem dX0_columnOf_46 : decode cX0_columnOf 46 = .ok (.ireturn, 1) := by decide +kernel
theorem dX0_columnOf_47 : decode cX0_columnOf 47 = .ok (.aload_n 1, 1) := by decide +kernel
theorem dX0_columnOf_48 : decode cX0_columnOf 48 = .ok (.getfield 86, 3) := by decide +kernel
theorem dX0_columnOf_51 : decode cX0_columnOf 51 = .ok (.aload_n 0, 1) := by decide +kernel
theorem dX0_columnOf_52 : decode cX0_columnOf 52 = .ok (.aload_n 1, 1) := by decide +kernel
theorem dX0_columnOf_53 : decode cX0_columnOf 53 = .ok (.iload_n 2, 1) := by decide +kernel
theorem dX0_columnOf_54 : decode cX0_columnOf 54 = .ok (.invokevirtual 79, 3) := by decide +kernel
theorem dX0_columnOf_57 : decode cX0_columnOf 57 = .ok (.invokevirtual 83, 3) := by decide +kernel
theorem dX0_columnOf_60 : decode cX0_columnOf 60 = .ok (.iadd, 1) := by decide +kernel
theorem dX0_columnOf_61 : decode cX0_columnOf 61 = .ok (.ireturn, 1) := by decide +kernel
theorem dX0_columnOf_62 : decode cX0_columnOf 62 = .ok (.aload_n 1, 1) := by decide +kernel
theorem dX0_columnOf_63 : decode cX0_columnOf 63 = .ok (.getfield 86, 3) := by decide +kernel
theorem dX0_columnOf_66 : decode cX0_columnOf 66 = .ok (.ireturn, 1) := by decide +kernel
theorem dX0_goneFrom_0 : decode cX0_goneFrom 0 = .ok (.aload_n 1, 1) := by decide +kernel
theorem dX0_goneFrom_1 : decode cX0_goneFrom 1 = .ok (.invokevirtual 89, 3) := by decide +kernel
theorem dX0_goneFrom_4 : decode cX0_goneFrom 4 = .ok (.istore_n 2, 1) := by decide +kernel
theorem dX0_goneFrom_5 : decode cX0_goneFrom 5 = .ok (.aload_n 1, 1) := by decide +kernel
theorem dX0_goneFrom_6 : decode cX0_goneFrom 6 = .ok (.getfield 64, 3) := by decide +kernel
theorem dX0_goneFrom_9 : decode cX0_goneFrom 9 = .ok (.ifCond .eq 13, 3) := by decide +kernel
theorem dX0_goneFrom_12 : decode cX0_goneFrom 12 = .ok (.iload_n 2, 1) := by decide +kernel
theorem dX0_goneFrom_13 : decode cX0_goneFrom 13 = .ok (.aload_n 0, 1) := by decide +kernel
theorem dX0_goneFrom_14 : decode cX0_goneFrom 14 = .ok (.aload_n 1, 1) := by decide +kernel
theorem dX0_goneFrom_15 : decode cX0_goneFrom 15 = .ok (.invokevirtual 93, 3) := by decide +kernel
theorem dX0_goneFrom_18 : decode cX0_goneFrom 18 = .ok (.iconst 1, 1) := by decide +kernel
theorem dX0_goneFrom_19 : decode cX0_goneFrom 19 = .ok (.isub, 1) := by decide +kernel
theorem dX0_goneFrom_20 : decode cX0_goneFrom 20 = .ok (.iadd, 1) := by decide +kernel
theorem dX0_goneFrom_21 : decode cX0_goneFrom 21 = .ok (.istore_n 2, 1) := by decide +kernel
theorem dX0_goneFrom_22 : decode cX0_goneFrom 22 = .ok (.iconst 0, 1) := by decide +kernel
theorem dX0_goneFrom_23 : decode cX0_goneFrom 23 = .ok (.istore_n 3, 1) := by decide +kernel
theorem dX0_goneFrom_24 : decode cX0_goneFrom 24 = .ok (.iload_n 3, 1) := by decide +kernel
theorem dX0_goneFrom_25 : decode cX0_goneFrom 25 = .ok (.aload_n 0, 1) := by decide +kernel
theorem dX0_goneFrom_26 : decode cX0_goneFrom 26 = .ok (.getfield 46, 3) := by decide +kernel
theorem dX0_goneFrom_29 : decode cX0_goneFrom 29 = .ok (.if_icmp .ge 33, 3) := by decide +kernel
theorem dX0_goneFrom_32 : decode cX0_goneFrom 32 = .ok (.aload_n 0, 1) := by decide +kernel
theorem dX0_goneFrom_33 : decode cX0_goneFrom 33 = .ok (.getfield 17, 3) := by decide +kernel
theorem dX0_goneFrom_36 : decode cX0_goneFrom 36 = .ok (.iload_n 3, 1) := by decide +kernel
theorem dX0_goneFrom_37 : decode cX0_goneFrom 37 = .ok (.iaload, 1) := by decide +kernel
theorem dX0_goneFrom_38 : decode cX0_goneFrom 38 = .ok (.aload_n 1, 1) := by decide +kernel
theorem dX0_goneFrom_39 : decode cX0_goneFrom 39 = .ok (.getfield 55, 3) := by decide +kernel
theorem dX0_goneFrom_42 : decode cX0_goneFrom 42 = .ok (.if_icmp .le 14, 3) := by decide +kernel
theorem dX0_goneFrom_45 : decode cX0_goneFrom 45 = .ok (.iload_n 2, 1) := by decide +kernel
theorem dX0_goneFrom_46 : decode cX0_goneFrom 46 = .ok (.aload_n 0, 1) := by decide +kernel
theorem dX0_goneFrom_47 : decode cX0_goneFrom 47 = .ok (.getfield 17, 3) := by decide +kernel
theorem dX0_goneFrom_50 : decode cX0_goneFrom 50 = .ok (.iload_n 3, 1) := by decide +kernel
theorem dX0_goneFrom_51 : decode cX0_goneFrom 51 = .ok (.iaload, 1) := by decide +kernel
theorem dX0_goneFrom_52 : decode cX0_goneFrom 52 = .ok (.invokestatic 97, 3) := by decide +kernel
theorem dX0_goneFrom_55 : decode cX0_goneFrom 55 = .ok (.ireturn, 1) := by decide +kernel
theorem dX0_goneFrom_56 : decode cX0_goneFrom 56 = .ok (.iinc 3 1, 3) := by decide +kernel
theorem dX0_goneFrom_59 : decode cX0_goneFrom 59 = .ok (.goto (-35), 3) := by decide +kernel
theorem dX0_goneFrom_62 : decode cX0_goneFrom 62 = .ok (.iload_n 2, 1) := by decide +kernel
theorem dX0_goneFrom_63 : decode cX0_goneFrom 63 = .ok (.ireturn, 1) := by decide +kernel
theorem dX0_stepsToLeave_0 : decode cX0_stepsToLeave 0 = .ok (.aload_n 1, 1) := by decide +kernel
theorem dX0_stepsToLeave_1 : decode cX0_stepsToLeave 1 = .ok (.invokevirtual 103, 3) := by decide +kernel
theorem dX0_stepsToLeave_4 : decode cX0_stepsToLeave 4 = .ok (.istore_n 2, 1) := by decide +kernel
theorem dX0_stepsToLeave_5 : decode cX0_stepsToLeave 5 = .ok (.iconst 1, 1) := by decide +kernel
theorem dX0_stepsToLeave_6 : decode cX0_stepsToLeave 6 = .ok (.istore_n 3, 1) := by decide +kernel
theorem dX0_stepsToLeave_7 : decode cX0_stepsToLeave 7 = .ok (.iload_n 3, 1) := by decide +kernel
theorem dX0_stepsToLeave_8 : decode cX0_stepsToLeave 8 = .ok (.bipush 80, 2) := by decide +kernel
theorem dX0_stepsToLeave_10 : decode cX0_stepsToLeave 10 = .ok (.if_icmp .ge 20, 3) := by decide +kernel
theorem dX0_stepsToLeave_13 : decode cX0_stepsToLeave 13 = .ok (.aload_n 0, 1) := by decide +kernel
theorem dX0_stepsToLeave_14 : decode cX0_stepsToLeave 14 = .ok (.iload_n 3, 1) := by decide +kernel
theorem dX0_stepsToLeave_15 : decode cX0_stepsToLeave 15 = .ok (.invokevirtual 83, 3) := by decide +kernel
theorem dX0_stepsToLeave_18 : decode cX0_stepsToLeave 18 = .ok (.iload_n 2, 1) := by decide +kernel
theorem dX0_stepsToLeave_19 : decode cX0_stepsToLeave 19 = .ok (.if_icmp .lt 5, 3) := by decide +kernel
theorem dX0_stepsToLeave_22 : decode cX0_stepsToLeave 22 = .ok (.iload_n 3, 1) := by decide +kernel
theorem dX0_stepsToLeave_23 : decode cX0_stepsToLeave 23 = .ok (.ireturn, 1) := by decide +kernel
theorem dX0_stepsToLeave_24 : decode cX0_stepsToLeave 24 = .ok (.iinc 3 1, 3) := by decide +kernel
theorem dX0_stepsToLeave_27 : decode cX0_stepsToLeave 27 = .ok (.goto (-20), 3) := by decide +kernel
theorem dX0_stepsToLeave_30 : decode cX0_stepsToLeave 30 = .ok (.bipush 80, 2) := by decide +kernel
theorem dX0_stepsToLeave_32 : decode cX0_stepsToLeave 32 = .ok (.ireturn, 1) := by decide +kernel
theorem dX0_isVisible_0 : decode cX0_isVisible 0 = .ok (.aload_n 1, 1) := by decide +kernel
theorem dX0_isVisible_1 : decode cX0_isVisible 1 = .ok (.getfield 67, 3) := by decide +kernel
theorem dX0_isVisible_4 : decode cX0_isVisible 4 = .ok (.ifCond .eq 24, 3) := by decide +kernel
theorem dX0_isVisible_7 : decode cX0_isVisible 7 = .ok (.iload_n 2, 1) := by decide +kernel
theorem dX0_isVisible_8 : decode cX0_isVisible 8 = .ok (.aload_n 1, 1) := by decide +kernel
theorem dX0_isVisible_9 : decode cX0_isVisible 9 = .ok (.getfield 55, 3) := by decide +kernel
theorem dX0_isVisible_12 : decode cX0_isVisible 12 = .ok (.if_icmp .lt 16, 3) := by decide +kernel
theorem dX0_isVisible_15 : decode cX0_isVisible 15 = .ok (.iload_n 2, 1) := by decide +kernel
theorem dX0_isVisible_16 : decode cX0_isVisible 16 = .ok (.aload_n 0, 1) := by decide +kernel
theorem dX0_isVisible_17 : decode cX0_isVisible 17 = .ok (.aload_n 1, 1) := by decide +kernel
theorem dX0_isVisible_18 : decode cX0_isVisible 18 = .ok (.invokevirtual 106, 3) := by decide +kernel
theorem dX0_isVisible_21 : decode cX0_isVisible 21 = .ok (.if_icmp .ge 7, 3) := by decide +kernel
theorem dX0_isVisible_24 : decode cX0_isVisible 24 = .ok (.iconst 1, 1) := by decide +kernel
theorem dX0_isVisible_25 : decode cX0_isVisible 25 = .ok (.goto 4, 3) := by decide +kernel
theorem dX0_isVisible_28 : decode cX0_isVisible 28 = .ok (.iconst 0, 1) := by decide +kernel
theorem dX0_isVisible_29 : decode cX0_isVisible 29 = .ok (.ireturn, 1) := by decide +kernel
theorem dX0_visibleSet_0 : decode cX0_visibleSet 0 = .ok (.iconst 0, 1) := by decide +kernel
theorem dX0_visibleSet_1 : decode cX0_visibleSet 1 = .ok (.istore_n 2, 1) := by decide +kernel
theorem dX0_visibleSet_2 : decode cX0_visibleSet 2 = .ok (.iconst 0, 1) := by decide +kernel
theorem dX0_visibleSet_3 : decode cX0_visibleSet 3 = .ok (.istore_n 3, 1) := by decide +kernel
theorem dX0_visibleSet_4 : decode cX0_visibleSet 4 = .ok (.iload_n 3, 1) := by decide +kernel
theorem dX0_visibleSet_5 : decode cX0_visibleSet 5 = .ok (.aload_n 0, 1) := by decide +kernel
theorem dX0_visibleSet_6 : decode cX0_visibleSet 6 = .ok (.getfield 33, 3) := by decide +kernel
theorem dX0_visibleSet_9 : decode cX0_visibleSet 9 = .ok (.if_icmp .ge 29, 3) := by decide +kernel
theorem dX0_visibleSet_12 : decode cX0_visibleSet 12 = .ok (.aload_n 0, 1) := by decide +kernel
theorem dX0_visibleSet_13 : decode cX0_visibleSet 13 = .ok (.aload_n 0, 1) := by decide +kernel
theorem dX0_visibleSet_14 : decode cX0_visibleSet 14 = .ok (.getfield 11, 3) := by decide +kernel
theorem dX0_visibleSet_17 : decode cX0_visibleSet 17 = .ok (.iload_n 3, 1) := by decide +kernel
theorem dX0_visibleSet_18 : decode cX0_visibleSet 18 = .ok (.aaload, 1) := by decide +kernel
theorem dX0_visibleSet_19 : decode cX0_visibleSet 19 = .ok (.iload_n 1, 1) := by decide +kernel
theorem dX0_visibleSet_20 : decode cX0_visibleSet 20 = .ok (.invokevirtual 109, 3) := by decide +kernel
theorem dX0_visibleSet_23 : decode cX0_visibleSet 23 = .ok (.ifCond .eq 9, 3) := by decide +kernel
theorem dX0_visibleSet_26 : decode cX0_visibleSet 26 = .ok (.iload_n 2, 1) := by decide +kernel
theorem dX0_visibleSet_27 : decode cX0_visibleSet 27 = .ok (.iconst 1, 1) := by decide +kernel
theorem dX0_visibleSet_28 : decode cX0_visibleSet 28 = .ok (.iload_n 3, 1) := by decide +kernel
theorem dX0_visibleSet_29 : decode cX0_visibleSet 29 = .ok (.ishl, 1) := by decide +kernel
theorem dX0_visibleSet_30 : decode cX0_visibleSet 30 = .ok (.ior, 1) := by decide +kernel
theorem dX0_visibleSet_31 : decode cX0_visibleSet 31 = .ok (.istore_n 2, 1) := by decide +kernel
theorem dX0_visibleSet_32 : decode cX0_visibleSet 32 = .ok (.iinc 3 1, 3) := by decide +kernel
theorem dX0_visibleSet_35 : decode cX0_visibleSet 35 = .ok (.goto (-31), 3) := by decide +kernel
theorem dX0_visibleSet_38 : decode cX0_visibleSet 38 = .ok (.iload_n 2, 1) := by decide +kernel
theorem dX0_visibleSet_39 : decode cX0_visibleSet 39 = .ok (.ireturn, 1) := by decide +kernel
theorem dX0_cellsInRow_0 : decode cX0_cellsInRow 0 = .ok (.lconst 0, 1) := by decide +kernel
theorem dX0_cellsInRow_1 : decode cX0_cellsInRow 1 = .ok (.lstore_n 3, 1) := by decide +kernel
theorem dX0_cellsInRow_2 : decode cX0_cellsInRow 2 = .ok (.iconst 0, 1) := by decide +kernel
theorem dX0_cellsInRow_3 : decode cX0_cellsInRow 3 = .ok (.istore 5, 2) := by decide +kernel
theorem dX0_cellsInRow_5 : decode cX0_cellsInRow 5 = .ok (.iload 5, 2) := by decide +kernel
theorem dX0_cellsInRow_7 : decode cX0_cellsInRow 7 = .ok (.aload_n 0, 1) := by decide +kernel
theorem dX0_cellsInRow_8 : decode cX0_cellsInRow 8 = .ok (.getfield 33, 3) := by decide +kernel
theorem dX0_cellsInRow_11 : decode cX0_cellsInRow 11 = .ok (.if_icmp .ge 91, 3) := by decide +kernel
theorem dX0_cellsInRow_14 : decode cX0_cellsInRow 14 = .ok (.aload_n 0, 1) := by decide +kernel
theorem dX0_cellsInRow_15 : decode cX0_cellsInRow 15 = .ok (.getfield 11, 3) := by decide +kernel
theorem dX0_cellsInRow_18 : decode cX0_cellsInRow 18 = .ok (.iload 5, 2) := by decide +kernel
theorem dX0_cellsInRow_20 : decode cX0_cellsInRow 20 = .ok (.aaload, 1) := by decide +kernel
theorem dX0_cellsInRow_21 : decode cX0_cellsInRow 21 = .ok (.astore 6, 2) := by decide +kernel
theorem dX0_cellsInRow_23 : decode cX0_cellsInRow 23 = .ok (.aload_n 0, 1) := by decide +kernel
theorem dX0_cellsInRow_24 : decode cX0_cellsInRow 24 = .ok (.aload 6, 2) := by decide +kernel
theorem dX0_cellsInRow_26 : decode cX0_cellsInRow 26 = .ok (.iload_n 2, 1) := by decide +kernel
theorem dX0_cellsInRow_27 : decode cX0_cellsInRow 27 = .ok (.invokevirtual 109, 3) := by decide +kernel
theorem dX0_cellsInRow_30 : decode cX0_cellsInRow 30 = .ok (.ifCond .eq 66, 3) := by decide +kernel
theorem dX0_cellsInRow_33 : decode cX0_cellsInRow 33 = .ok (.aload_n 0, 1) := by decide +kernel
theorem dX0_cellsInRow_34 : decode cX0_cellsInRow 34 = .ok (.aload 6, 2) := by decide +kernel
theorem dX0_cellsInRow_36 : decode cX0_cellsInRow 36 = .ok (.iload_n 2, 1) := by decide +kernel
theorem dX0_cellsInRow_37 : decode cX0_cellsInRow 37 = .ok (.invokevirtual 113, 3) := by decide +kernel
theorem dX0_cellsInRow_40 : decode cX0_cellsInRow 40 = .ok (.iload_n 1, 1) := by decide +kernel
theorem dX0_cellsInRow_41 : decode cX0_cellsInRow 41 = .ok (.if_icmp .ne 55, 3) := by decide +kernel
theorem dX0_cellsInRow_44 : decode cX0_cellsInRow 44 = .ok (.aload_n 0, 1) := by decide +kernel
theorem dX0_cellsInRow_45 : decode cX0_cellsInRow 45 = .ok (.aload 6, 2) := by decide +kernel
theorem dX0_cellsInRow_47 : decode cX0_cellsInRow 47 = .ok (.iload_n 2, 1) := by decide +kernel
theorem dX0_cellsInRow_48 : decode cX0_cellsInRow 48 = .ok (.invokevirtual 117, 3) := by decide +kernel
theorem dX0_cellsInRow_51 : decode cX0_cellsInRow 51 = .ok (.istore 7, 2) := by decide +kernel
theorem dX0_cellsInRow_53 : decode cX0_cellsInRow 53 = .ok (.iload 7, 2) := by decide +kernel
theorem dX0_cellsInRow_55 : decode cX0_cellsInRow 55 = .ok (.aload 6, 2) := by decide +kernel
theorem dX0_cellsInRow_57 : decode cX0_cellsInRow 57 = .ok (.getfield 52, 3) := by decide +kernel
theorem dX0_cellsInRow_60 : decode cX0_cellsInRow 60 = .ok (.iadd, 1) := by decide +kernel
theorem dX0_cellsInRow_61 : decode cX0_cellsInRow 61 = .ok (.bipush 40, 2) := by decide +kernel
theorem dX0_cellsInRow_63 : decode cX0_cellsInRow 63 = .ok (.invokestatic 97, 3) := by decide +kernel
theorem dX0_cellsInRow_66 : decode cX0_cellsInRow 66 = .ok (.istore 8, 2) := by decide +kernel
theorem dX0_cellsInRow_68 : decode cX0_cellsInRow 68 = .ok (.iload 7, 2) := by decide +kernel
theorem dX0_cellsInRow_70 : decode cX0_cellsInRow 70 = .ok (.iconst 0, 1) := by decide +kernel
theorem dX0_cellsInRow_71 : decode cX0_cellsInRow 71 = .ok (.invokestatic 120, 3) := by decide +kernel
theorem dX0_cellsInRow_74 : decode cX0_cellsInRow 74 = .ok (.istore 9, 2) := by decide +kernel
theorem dX0_cellsInRow_76 : decode cX0_cellsInRow 76 = .ok (.iload 9, 2) := by decide +kernel
theorem dX0_cellsInRow_78 : decode cX0_cellsInRow 78 = .ok (.iload 8, 2) := by decide +kernel
theorem dX0_cellsInRow_80 : decode cX0_cellsInRow 80 = .ok (.if_icmp .ge 16, 3) := by decide +kernel
theorem dX0_cellsInRow_83 : decode cX0_cellsInRow 83 = .ok (.lload_n 3, 1) := by decide +kernel
theorem dX0_cellsInRow_84 : decode cX0_cellsInRow 84 = .ok (.lconst 1, 1) := by decide +kernel
theorem dX0_cellsInRow_85 : decode cX0_cellsInRow 85 = .ok (.iload 9, 2) := by decide +kernel
theorem dX0_cellsInRow_87 : decode cX0_cellsInRow 87 = .ok (.lshl, 1) := by decide +kernel
theorem dX0_cellsInRow_88 : decode cX0_cellsInRow 88 = .ok (.lor, 1) := by decide +kernel
theorem dX0_cellsInRow_89 : decode cX0_cellsInRow 89 = .ok (.lstore_n 3, 1) := by decide +kernel
theorem dX0_cellsInRow_90 : decode cX0_cellsInRow 90 = .ok (.iinc 9 1, 3) := by decide +kernel
theorem dX0_cellsInRow_93 : decode cX0_cellsInRow 93 = .ok (.goto (-17), 3) := by decide +kernel
theorem dX0_cellsInRow_96 : decode cX0_cellsInRow 96 = .ok (.iinc 5 1, 3) := by decide +kernel
theorem dX0_cellsInRow_99 : decode cX0_cellsInRow 99 = .ok (.goto (-94), 3) := by decide +kernel
theorem dX0_cellsInRow_102 : decode cX0_cellsInRow 102 = .ok (.lload_n 3, 1) := by decide +kernel
theorem dX0_cellsInRow_103 : decode cX0_cellsInRow 103 = .ok (.lreturn, 1) := by decide +kernel
theorem dX0_firstMeeting_0 : decode cX0_firstMeeting 0 = .ok (.aload_n 1, 1) := by decide +kernel
theorem dX0_firstMeeting_1 : decode cX0_firstMeeting 1 = .ok (.getfield 67, 3) := by decide +kernel
theorem dX0_firstMeeting_4 : decode cX0_firstMeeting 4 = .ok (.ifCond .eq 10, 3) := by decide +kernel
theorem dX0_firstMeeting_7 : decode cX0_firstMeeting 7 = .ok (.aload_n 2, 1) := by decide +kernel
theorem dX0_firstMeeting_8 : decode cX0_firstMeeting 8 = .ok (.getfield 67, 3) := by decide +kernel
theorem dX0_firstMeeting_11 : decode cX0_firstMeeting 11 = .ok (.ifCond .ne 6, 3) := by decide +kernel
theorem dX0_firstMeeting_14 : decode cX0_firstMeeting 14 = .ok (.bipush (-19), 2) := by decide +kernel
theorem dX0_firstMeeting_16 : decode cX0_firstMeeting 16 = .ok (.ireturn, 1) := by decide +kernel
theorem dX0_firstMeeting_17 : decode cX0_firstMeeting 17 = .ok (.aload_n 1, 1) := by decide +kernel
theorem dX0_firstMeeting_18 : decode cX0_firstMeeting 18 = .ok (.getfield 76, 3) := by decide +kernel
theorem dX0_firstMeeting_21 : decode cX0_firstMeeting 21 = .ok (.aload_n 2, 1) := by decide +kernel
theorem dX0_firstMeeting_22 : decode cX0_firstMeeting 22 = .ok (.getfield 76, 3) := by decide +kernel
theorem dX0_firstMeeting_25 : decode cX0_firstMeeting 25 = .ok (.if_icmp .eq 20, 3) := by decide +kernel
theorem dX0_firstMeeting_28 : decode cX0_firstMeeting 28 = .ok (.aload_n 1, 1) := by decide +kernel
theorem dX0_firstMeeting_29 : decode cX0_firstMeeting 29 = .ok (.invokevirtual 124, 3) := by decide +kernel
theorem dX0_firstMeeting_32 : decode cX0_firstMeeting 32 = .ok (.ifCond .eq 13, 3) := by decide +kernel
theorem dX0_firstMeeting_35 : decode cX0_firstMeeting 35 = .ok (.aload_n 2, 1) := by decide +kernel
theorem dX0_firstMeeting_36 : decode cX0_firstMeeting 36 = .ok (.invokevirtual 124, 3) := by decide +kernel
theorem dX0_firstMeeting_39 : decode cX0_firstMeeting 39 = .ok (.ifCond .eq 6, 3) := by decide +kernel
theorem dX0_firstMeeting_42 : decode cX0_firstMeeting 42 = .ok (.bipush (-19), 2) := by decide +kernel
theorem dX0_firstMeeting_44 : decode cX0_firstMeeting 44 = .ok (.ireturn, 1) := by decide +kernel
theorem dX0_firstMeeting_45 : decode cX0_firstMeeting 45 = .ok (.aload_n 1, 1) := by decide +kernel
theorem dX0_firstMeeting_46 : decode cX0_firstMeeting 46 = .ok (.getfield 55, 3) := by decide +kernel
theorem dX0_firstMeeting_49 : decode cX0_firstMeeting 49 = .ok (.aload_n 2, 1) := by decide +kernel
theorem dX0_firstMeeting_50 : decode cX0_firstMeeting 50 = .ok (.getfield 55, 3) := by decide +kernel
theorem dX0_firstMeeting_53 : decode cX0_firstMeeting 53 = .ok (.invokestatic 120, 3) := by decide +kernel
theorem dX0_firstMeeting_56 : decode cX0_firstMeeting 56 = .ok (.istore_n 3, 1) := by decide +kernel
theorem dX0_firstMeeting_57 : decode cX0_firstMeeting 57 = .ok (.aload_n 0, 1) := by decide +kernel
theorem dX0_firstMeeting_58 : decode cX0_firstMeeting 58 = .ok (.aload_n 1, 1) := by decide +kernel
theorem dX0_firstMeeting_59 : decode cX0_firstMeeting 59 = .ok (.invokevirtual 106, 3) := by decide +kernel
theorem dX0_firstMeeting_62 : decode cX0_firstMeeting 62 = .ok (.aload_n 0, 1) := by decide +kernel
theorem dX0_firstMeeting_63 : decode cX0_firstMeeting 63 = .ok (.aload_n 2, 1) := by decide +kernel
theorem dX0_firstMeeting_64 : decode cX0_firstMeeting 64 = .ok (.invokevirtual 106, 3) := by decide +kernel
theorem dX0_firstMeeting_67 : decode cX0_firstMeeting 67 = .ok (.invokestatic 97, 3) := by decide +kernel
theorem dX0_firstMeeting_70 : decode cX0_firstMeeting 70 = .ok (.istore 4, 2) := by decide +kernel
theorem dX0_firstMeeting_72 : decode cX0_firstMeeting 72 = .ok (.iload_n 3, 1) := by decide +kernel
theorem dX0_firstMeeting_73 : decode cX0_firstMeeting 73 = .ok (.iload 4, 2) := by decide +kernel
theorem dX0_firstMeeting_75 : decode cX0_firstMeeting 75 = .ok (.if_icmp .ge 15, 3) := by decide +kernel
theorem dX0_firstMeeting_78 : decode cX0_firstMeeting 78 = .ok (.aload_n 0, 1) := by decide +kernel
theorem dX0_firstMeeting_79 : decode cX0_firstMeeting 79 = .ok (.aload_n 1, 1) := by decide +kernel
theorem dX0_firstMeeting_80 : decode cX0_firstMeeting 80 = .ok (.aload_n 2, 1) := by decide +kernel
theorem dX0_firstMeeting_81 : decode cX0_firstMeeting 81 = .ok (.iload_n 3, 1) := by decide +kernel
theorem dX0_firstMeeting_82 : decode cX0_firstMeeting 82 = .ok (.invokevirtual 128, 3) := by decide +kernel
theorem dX0_firstMeeting_85 : decode cX0_firstMeeting 85 = .ok (.ifCond .eq 5, 3) := by decide +kernel
theorem dX0_firstMeeting_88 : decode cX0_firstMeeting 88 = .ok (.iload_n 3, 1) := by decide +kernel
theorem dX0_firstMeeting_89 : decode cX0_firstMeeting 89 = .ok (.ireturn, 1) := by decide +kernel
theorem dX0_firstMeeting_90 : decode cX0_firstMeeting 90 = .ok (.iload_n 3, 1) := by decide +kernel
theorem dX0_firstMeeting_91 : decode cX0_firstMeeting 91 = .ok (.iconst 1, 1) := by decide +kernel
theorem dX0_firstMeeting_92 : decode cX0_firstMeeting 92 = .ok (.iadd, 1) := by decide +kernel
theorem dX0_firstMeeting_93 : decode cX0_firstMeeting 93 = .ok (.aload_n 1, 1) := by decide +kernel
theorem dX0_firstMeeting_94 : decode cX0_firstMeeting 94 = .ok (.invokevirtual 89, 3) := by decide +kernel
theorem dX0_firstMeeting_97 : decode cX0_firstMeeting 97 = .ok (.aload_n 2, 1) := by decide +kernel
theorem dX0_firstMeeting_98 : decode cX0_firstMeeting 98 = .ok (.invokevirtual 89, 3) := by decide +kernel
theorem dX0_firstMeeting_101 : decode cX0_firstMeeting 101 = .ok (.invokestatic 97, 3) := by decide +kernel
theorem dX0_firstMeeting_104 : decode cX0_firstMeeting 104 = .ok (.invokestatic 120, 3) := by decide +kernel
theorem dX0_firstMeeting_107 : decode cX0_firstMeeting 107 = .ok (.istore 5, 2) := by decide +kernel
theorem dX0_firstMeeting_109 : decode cX0_firstMeeting 109 = .ok (.iload 5, 2) := by decide +kernel
theorem dX0_firstMeeting_111 : decode cX0_firstMeeting 111 = .ok (.istore 6, 2) := by decide +kernel
theorem dX0_firstMeeting_113 : decode cX0_firstMeeting 113 = .ok (.iload 6, 2) := by decide +kernel
theorem dX0_firstMeeting_115 : decode cX0_firstMeeting 115 = .ok (.iload 4, 2) := by decide +kernel
theorem dX0_firstMeeting_117 : decode cX0_firstMeeting 117 = .ok (.if_icmp .ge 23, 3) := by decide +kernel
theorem dX0_firstMeeting_120 : decode cX0_firstMeeting 120 = .ok (.aload_n 0, 1) := by decide +kernel
theorem dX0_firstMeeting_121 : decode cX0_firstMeeting 121 = .ok (.aload_n 1, 1) := by decide +kernel
theorem dX0_firstMeeting_122 : decode cX0_firstMeeting 122 = .ok (.aload_n 2, 1) := by decide +kernel
theorem dX0_firstMeeting_123 : decode cX0_firstMeeting 123 = .ok (.iload 6, 2) := by decide +kernel
theorem dX0_firstMeeting_125 : decode cX0_firstMeeting 125 = .ok (.invokevirtual 128, 3) := by decide +kernel
theorem dX0_firstMeeting_128 : decode cX0_firstMeeting 128 = .ok (.ifCond .eq 6, 3) := by decide +kernel
theorem dX0_firstMeeting_131 : decode cX0_firstMeeting 131 = .ok (.iload 6, 2) := by decide +kernel
theorem dX0_firstMeeting_133 : decode cX0_firstMeeting 133 = .ok (.ireturn, 1) := by decide +kernel
theorem dX0_firstMeeting_134 : decode cX0_firstMeeting 134 = .ok (.iinc 6 1, 3) := by decide +kernel
theorem dX0_firstMeeting_137 : decode cX0_firstMeeting 137 = .ok (.goto (-24), 3) := by decide +kernel
theorem dX0_firstMeeting_140 : decode cX0_firstMeeting 140 = .ok (.bipush (-19), 2) := by decide +kernel
theorem dX0_firstMeeting_142 : decode cX0_firstMeeting 142 = .ok (.ireturn, 1) := by decide +kernel
theorem dX0_shareCell_0 : decode cX0_shareCell 0 = .ok (.aload_n 0, 1) := by decide +kernel
theorem dX0_shareCell_1 : decode cX0_shareCell 1 = .ok (.aload_n 1, 1) := by decide +kernel
theorem dX0_shareCell_2 : decode cX0_shareCell 2 = .ok (.iload_n 3, 1) := by decide +kernel
theorem dX0_shareCell_3 : decode cX0_shareCell 3 = .ok (.invokevirtual 113, 3) := by decide +kernel
theorem dX0_shareCell_6 : decode cX0_shareCell 6 = .ok (.aload_n 0, 1) := by decide +kernel
theorem dX0_shareCell_7 : decode cX0_shareCell 7 = .ok (.aload_n 2, 1) := by decide +kernel
theorem dX0_shareCell_8 : decode cX0_shareCell 8 = .ok (.iload_n 3, 1) := by decide +kernel
theorem dX0_shareCell_9 : decode cX0_shareCell 9 = .ok (.invokevirtual 113, 3) := by decide +kernel
theorem dX0_shareCell_12 : decode cX0_shareCell 12 = .ok (.if_icmp .eq 5, 3) := by decide +kernel
theorem dX0_shareCell_15 : decode cX0_shareCell 15 = .ok (.iconst 0, 1) := by decide +kernel
theorem dX0_shareCell_16 : decode cX0_shareCell 16 = .ok (.ireturn, 1) := by decide +kernel
theorem dX0_shareCell_17 : decode cX0_shareCell 17 = .ok (.aload_n 0, 1) := by decide +kernel
theorem dX0_shareCell_18 : decode cX0_shareCell 18 = .ok (.aload_n 1, 1) := by decide +kernel
theorem dX0_shareCell_19 : decode cX0_shareCell 19 = .ok (.iload_n 3, 1) := by decide +kernel
theorem dX0_shareCell_20 : decode cX0_shareCell 20 = .ok (.invokevirtual 117, 3) := by decide +kernel
theorem dX0_shareCell_23 : decode cX0_shareCell 23 = .ok (.istore 4, 2) := by decide +kernel
theorem dX0_shareCell_25 : decode cX0_shareCell 25 = .ok (.aload_n 0, 1) := by decide +kernel
theorem dX0_shareCell_26 : decode cX0_shareCell 26 = .ok (.aload_n 2, 1) := by decide +kernel
theorem dX0_shareCell_27 : decode cX0_shareCell 27 = .ok (.iload_n 3, 1) := by decide +kernel
theorem dX0_shareCell_28 : decode cX0_shareCell 28 = .ok (.invokevirtual 117, 3) := by decide +kernel
theorem dX0_shareCell_31 : decode cX0_shareCell 31 = .ok (.istore 5, 2) := by decide +kernel
theorem dX0_shareCell_33 : decode cX0_shareCell 33 = .ok (.iconst 0, 1) := by decide +kernel
theorem dX0_shareCell_34 : decode cX0_shareCell 34 = .ok (.iload 4, 2) := by decide +kernel
theorem dX0_shareCell_36 : decode cX0_shareCell 36 = .ok (.iload 5, 2) := by decide +kernel
theorem dX0_shareCell_38 : decode cX0_shareCell 38 = .ok (.invokestatic 120, 3) := by decide +kernel
theorem dX0_shareCell_41 : decode cX0_shareCell 41 = .ok (.invokestatic 120, 3) := by decide +kernel
theorem dX0_shareCell_44 : decode cX0_shareCell 44 = .ok (.istore 6, 2) := by decide +kernel
theorem dX0_shareCell_46 : decode cX0_shareCell 46 = .ok (.bipush 40, 2) := by decide +kernel
theorem dX0_shareCell_48 : decode cX0_shareCell 48 = .ok (.iload 4, 2) := by decide +kernel
theorem dX0_shareCell_50 : decode cX0_shareCell 50 = .ok (.aload_n 1, 1) := by decide +kernel
theorem dX0_shareCell_51 : decode cX0_shareCell 51 = .ok (.getfield 52, 3) := by decide +kernel
theorem dX0_shareCell_54 : decode cX0_shareCell 54 = .ok (.iadd, 1) := by decide +kernel
theorem dX0_shareCell_55 : decode cX0_shareCell 55 = .ok (.iload 5, 2) := by decide +kernel
theorem dX0_shareCell_57 : decode cX0_shareCell 57 = .ok (.aload_n 2, 1) := by decide +kernel
theorem dX0_shareCell_58 : decode cX0_shareCell 58 = .ok (.getfield 52, 3) := by decide +kernel
theorem dX0_shareCell_61 : decode cX0_shareCell 61 = .ok (.iadd, 1) := by decide +kernel
theorem dX0_shareCell_62 : decode cX0_shareCell 62 = .ok (.invokestatic 97, 3) := by decide +kernel
theorem dX0_shareCell_65 : decode cX0_shareCell 65 = .ok (.invokestatic 97, 3) := by decide +kernel
theorem dX0_shareCell_68 : decode cX0_shareCell 68 = .ok (.istore 7, 2) := by decide +kernel
theorem dX0_shareCell_70 : decode cX0_shareCell 70 = .ok (.iload 6, 2) := by decide +kernel
theorem dX0_shareCell_72 : decode cX0_shareCell 72 = .ok (.iload 7, 2) := by decide +kernel
theorem dX0_shareCell_74 : decode cX0_shareCell 74 = .ok (.if_icmp .ge 7, 3) := by decide +kernel
theorem dX0_shareCell_77 : decode cX0_shareCell 77 = .ok (.iconst 1, 1) := by decide +kernel
theorem dX0_shareCell_78 : decode cX0_shareCell 78 = .ok (.goto 4, 3) := by decide +kernel
theorem dX0_shareCell_81 : decode cX0_shareCell 81 = .ok (.iconst 0, 1) := by decide +kernel
theorem dX0_shareCell_82 : decode cX0_shareCell 82 = .ok (.ireturn, 1) := by decide +kernel
theorem dX0_isFree_0 : decode cX0_isFree 0 = .ok (.aload_n 0, 1) := by decide +kernel
theorem dX0_isFree_1 : decode cX0_isFree 1 = .ok (.getfield 26, 3) := by decide +kernel
theorem dX0_isFree_4 : decode cX0_isFree 4 = .ok (.aload_n 0, 1) := by decide +kernel
theorem dX0_isFree_5 : decode cX0_isFree 5 = .ok (.getfield 11, 3) := by decide +kernel
theorem dX0_isFree_8 : decode cX0_isFree 8 = .ok (.iload_n 1, 1) := by decide +kernel
theorem dX0_isFree_9 : decode cX0_isFree 9 = .ok (.aaload, 1) := by decide +kernel
theorem dX0_isFree_10 : decode cX0_isFree 10 = .ok (.invokevirtual 36, 3) := by decide +kernel
theorem dX0_isFree_13 : decode cX0_isFree 13 = .ok (.aload_n 0, 1) := by decide +kernel
theorem dX0_isFree_14 : decode cX0_isFree 14 = .ok (.getfield 26, 3) := by decide +kernel
theorem dX0_isFree_17 : decode cX0_isFree 17 = .ok (.iload_n 2, 1) := by decide +kernel
theorem dX0_isFree_18 : decode cX0_isFree 18 = .ok (.putfield 55, 3) := by decide +kernel
theorem dX0_isFree_21 : decode cX0_isFree 21 = .ok (.aload_n 0, 1) := by decide +kernel
theorem dX0_isFree_22 : decode cX0_isFree 22 = .ok (.getfield 26, 3) := by decide +kernel
theorem dX0_isFree_25 : decode cX0_isFree 25 = .ok (.iload_n 3, 1) := by decide +kernel
theorem dX0_isFree_26 : decode cX0_isFree 26 = .ok (.iload 4, 2) := by decide +kernel
theorem dX0_isFree_28 : decode cX0_isFree 28 = .ok (.invokevirtual 132, 3) := by decide +kernel
theorem dX0_isFree_31 : decode cX0_isFree 31 = .ok (.iconst 0, 1) := by decide +kernel
theorem dX0_isFree_32 : decode cX0_isFree 32 = .ok (.istore 5, 2) := by decide +kernel
theorem dX0_isFree_34 : decode cX0_isFree 34 = .ok (.iload 5, 2) := by decide +kernel
theorem dX0_isFree_36 : decode cX0_isFree 36 = .ok (.aload_n 0, 1) := by decide +kernel
theorem dX0_isFree_37 : decode cX0_isFree 37 = .ok (.getfield 33, 3) := by decide +kernel
theorem dX0_isFree_40 : decode cX0_isFree 40 = .ok (.if_icmp .ge 37, 3) := by decide +kernel
theorem dX0_isFree_43 : decode cX0_isFree 43 = .ok (.iload 5, 2) := by decide +kernel
theorem dX0_isFree_45 : decode cX0_isFree 45 = .ok (.iload_n 1, 1) := by decide +kernel
theorem dX0_isFree_46 : decode cX0_isFree 46 = .ok (.if_icmp .eq 25, 3) := by decide +kernel
theorem dX0_isFree_49 : decode cX0_isFree 49 = .ok (.aload_n 0, 1) := by decide +kernel
theorem dX0_isFree_50 : decode cX0_isFree 50 = .ok (.aload_n 0, 1) := by decide +kernel
theorem dX0_isFree_51 : decode cX0_isFree 51 = .ok (.getfield 26, 3) := by decide +kernel
theorem dX0_isFree_54 : decode cX0_isFree 54 = .ok (.aload_n 0, 1) := by decide +kernel
theorem dX0_isFree_55 : decode cX0_isFree 55 = .ok (.getfield 11, 3) := by decide +kernel
theorem dX0_isFree_58 : decode cX0_isFree 58 = .ok (.iload 5, 2) := by decide +kernel
theorem dX0_isFree_60 : decode cX0_isFree 60 = .ok (.aaload, 1) := by decide +kernel
theorem dX0_isFree_61 : decode cX0_isFree 61 = .ok (.invokevirtual 71, 3) := by decide +kernel
theorem dX0_isFree_64 : decode cX0_isFree 64 = .ok (.bipush (-19), 2) := by decide +kernel
theorem dX0_isFree_66 : decode cX0_isFree 66 = .ok (.if_icmp .eq 5, 3) := by decide +kernel
theorem dX0_isFree_69 : decode cX0_isFree 69 = .ok (.iconst 0, 1) := by decide +kernel
theorem dX0_isFree_70 : decode cX0_isFree 70 = .ok (.ireturn, 1) := by decide +kernel
theorem dX0_isFree_71 : decode cX0_isFree 71 = .ok (.iinc 5 1, 3) := by decide +kernel
theorem dX0_isFree_74 : decode cX0_isFree 74 = .ok (.goto (-40), 3) := by decide +kernel
theorem dX0_isFree_77 : decode cX0_isFree 77 = .ok (.iconst 1, 1) := by decide +kernel
theorem dX0_isFree_78 : decode cX0_isFree 78 = .ok (.ireturn, 1) := by decide +kernel
theorem dX0_takeAllWords_0 : decode cX0_takeAllWords 0 = .ok (.iconst 0, 1) := by decide +kernel
theorem dX0_takeAllWords_1 : decode cX0_takeAllWords 1 = .ok (.istore_n 1, 1) := by decide +kernel
theorem dX0_takeAllWords_2 : decode cX0_takeAllWords 2 = .ok (.iload_n 1, 1) := by decide +kernel
theorem dX0_takeAllWords_3 : decode cX0_takeAllWords 3 = .ok (.aload_n 0, 1) := by decide +kernel
theorem dX0_takeAllWords_4 : decode cX0_takeAllWords 4 = .ok (.getfield 33, 3) := by decide +kernel
theorem dX0_takeAllWords_7 : decode cX0_takeAllWords 7 = .ok (.if_icmp .ge 19, 3) := by decide +kernel
theorem dX0_takeAllWords_10 : decode cX0_takeAllWords 10 = .ok (.aload_n 0, 1) := by decide +kernel
theorem dX0_takeAllWords_11 : decode cX0_takeAllWords 11 = .ok (.getfield 11, 3) := by decide +kernel
theorem dX0_takeAllWords_14 : decode cX0_takeAllWords 14 = .ok (.iload_n 1, 1) := by decide +kernel
theorem dX0_takeAllWords_15 : decode cX0_takeAllWords 15 = .ok (.aaload, 1) := by decide +kernel
theorem dX0_takeAllWords_16 : decode cX0_takeAllWords 16 = .ok (.iconst 0, 1) := by decide +kernel
theorem dX0_takeAllWords_17 : decode cX0_takeAllWords 17 = .ok (.putfield 67, 3) := by decide +kernel
theorem dX0_takeAllWords_20 : decode cX0_takeAllWords 20 = .ok (.iinc 1 1, 3) := by decide +kernel
theorem dX0_takeAllWords_23 : decode cX0_takeAllWords 23 = .ok (.goto (-21), 3) := by decide +kernel
theorem dX0_takeAllWords_26 : decode cX0_takeAllWords 26 = .ok (.return_, 1) := by decide +kernel
theorem dX0_sortForPutting_0 : decode cX0_sortForPutting 0 = .ok (.iconst 0, 1) := by decide +kernel
theorem dX0_sortForPutting_1 : decode cX0_sortForPutting 1 = .ok (.istore_n 1, 1) := by decide +kernel
theorem dX0_sortForPutting_2 : decode cX0_sortForPutting 2 = .ok (.iload_n 1, 1) := by decide +kernel
theorem dX0_sortForPutting_3 : decode cX0_sortForPutting 3 = .ok (.aload_n 0, 1) := by decide +kernel
theorem dX0_sortForPutting_4 : decode cX0_sortForPutting 4 = .ok (.getfield 33, 3) := by decide +kernel
theorem dX0_sortForPutting_7 : decode cX0_sortForPutting 7 = .ok (.if_icmp .ge 67, 3) := by decide +kernel
theorem dX0_sortForPutting_10 : decode cX0_sortForPutting 10 = .ok (.iload_n 1, 1) := by decide +kernel
theorem dX0_sortForPutting_11 : decode cX0_sortForPutting 11 = .ok (.istore_n 2, 1) := by decide +kernel
theorem dX0_sortForPutting_12 : decode cX0_sortForPutting 12 = .ok (.iload_n 2, 1) := by decide +kernel
theorem dX0_sortForPutting_13 : decode cX0_sortForPutting 13 = .ok (.ifCond .le 48, 3) := by decide +kernel
theorem dX0_sortForPutting_16 : decode cX0_sortForPutting 16 = .ok (.aload_n 0, 1) := by decide +kernel
theorem dX0_sortForPutting_17 : decode cX0_sortForPutting 17 = .ok (.getfield 11, 3) := by decide +kernel
theorem dX0_sortForPutting_20 : decode cX0_sortForPutting 20 = .ok (.iload_n 1, 1) := by decide +kernel
theorem dX0_sortForPutting_21 : decode cX0_sortForPutting 21 = .ok (.aaload, 1) := by decide +kernel
theorem dX0_sortForPutting_22 : decode cX0_sortForPutting 22 = .ok (.aload_n 0, 1) := by decide +kernel
theorem dX0_sortForPutting_23 : decode cX0_sortForPutting 23 = .ok (.getfield 11, 3) := by decide +kernel
theorem dX0_sortForPutting_26 : decode cX0_sortForPutting 26 = .ok (.aload_n 0, 1) := by decide +kernel
theorem dX0_sortForPutting_27 : decode cX0_sortForPutting 27 = .ok (.getfield 30, 3) := by decide +kernel
theorem dX0_sortForPutting_30 : decode cX0_sortForPutting 30 = .ok (.iload_n 2, 1) := by decide +kernel
theorem dX0_sortForPutting_31 : decode cX0_sortForPutting 31 = .ok (.iconst 1, 1) := by decide +kernel
theorem dX0_sortForPutting_32 : decode cX0_sortForPutting 32 = .ok (.isub, 1) := by decide +kernel
theorem dX0_sortForPutting_33 : decode cX0_sortForPutting 33 = .ok (.iaload, 1) := by decide +kernel
theorem dX0_sortForPutting_34 : decode cX0_sortForPutting 34 = .ok (.aaload, 1) := by decide +kernel
theorem dX0_sortForPutting_35 : decode cX0_sortForPutting 35 = .ok (.invokestatic 136, 3) := by decide +kernel
theorem dX0_sortForPutting_38 : decode cX0_sortForPutting 38 = .ok (.ifCond .eq 23, 3) := by decide +kernel
theorem dX0_sortForPutting_41 : decode cX0_sortForPutting 41 = .ok (.aload_n 0, 1) := by decide +kernel
theorem dX0_sortForPutting_42 : decode cX0_sortForPutting 42 = .ok (.getfield 30, 3) := by decide +kernel
theorem dX0_sortForPutting_45 : decode cX0_sortForPutting 45 = .ok (.iload_n 2, 1) := by decide +kernel
theorem dX0_sortForPutting_46 : decode cX0_sortForPutting 46 = .ok (.aload_n 0, 1) := by decide +kernel
theorem dX0_sortForPutting_47 : decode cX0_sortForPutting 47 = .ok (.getfield 30, 3) := by decide +kernel
theorem dX0_sortForPutting_50 : decode cX0_sortForPutting 50 = .ok (.iload_n 2, 1) := by decide +kernel
theorem dX0_sortForPutting_51 : decode cX0_sortForPutting 51 = .ok (.iconst 1, 1) := by decide +kernel
theorem dX0_sortForPutting_52 : decode cX0_sortForPutting 52 = .ok (.isub, 1) := by decide +kernel
theorem dX0_sortForPutting_53 : decode cX0_sortForPutting 53 = .ok (.iaload, 1) := by decide +kernel
theorem dX0_sortForPutting_54 : decode cX0_sortForPutting 54 = .ok (.iastore, 1) := by decide +kernel
theorem dX0_sortForPutting_55 : decode cX0_sortForPutting 55 = .ok (.iinc 2 (-1), 3) := by decide +kernel
theorem dX0_sortForPutting_58 : decode cX0_sortForPutting 58 = .ok (.goto (-46), 3) := by decide +kernel
theorem dX0_sortForPutting_61 : decode cX0_sortForPutting 61 = .ok (.aload_n 0, 1) := by decide +kernel
theorem dX0_sortForPutting_62 : decode cX0_sortForPutting 62 = .ok (.getfield 30, 3) := by decide +kernel
theorem dX0_sortForPutting_65 : decode cX0_sortForPutting 65 = .ok (.iload_n 2, 1) := by decide +kernel
theorem dX0_sortForPutting_66 : decode cX0_sortForPutting 66 = .ok (.iload_n 1, 1) := by decide +kernel
theorem dX0_sortForPutting_67 : decode cX0_sortForPutting 67 = .ok (.iastore, 1) := by decide +kernel
theorem dX0_sortForPutting_68 : decode cX0_sortForPutting 68 = .ok (.iinc 1 1, 3) := by decide +kernel
theorem dX0_sortForPutting_71 : decode cX0_sortForPutting 71 = .ok (.goto (-69), 3) := by decide +kernel
theorem dX0_sortForPutting_74 : decode cX0_sortForPutting 74 = .ok (.return_, 1) := by decide +kernel
theorem dX0_comesBefore_0 : decode cX0_comesBefore 0 = .ok (.aload_n 0, 1) := by decide +kernel
theorem dX0_comesBefore_1 : decode cX0_comesBefore 1 = .ok (.getfield 55, 3) := by decide +kernel
theorem dX0_comesBefore_4 : decode cX0_comesBefore 4 = .ok (.aload_n 1, 1) := by decide +kernel
theorem dX0_comesBefore_5 : decode cX0_comesBefore 5 = .ok (.getfield 55, 3) := by decide +kernel
theorem dX0_comesBefore_8 : decode cX0_comesBefore 8 = .ok (.if_icmp .lt 25, 3) := by decide +kernel
theorem dX0_comesBefore_11 : decode cX0_comesBefore 11 = .ok (.aload_n 0, 1) := by decide +kernel
theorem dX0_comesBefore_12 : decode cX0_comesBefore 12 = .ok (.getfield 55, 3) := by decide +kernel
theorem dX0_comesBefore_15 : decode cX0_comesBefore 15 = .ok (.aload_n 1, 1) := by decide +kernel
theorem dX0_comesBefore_16 : decode cX0_comesBefore 16 = .ok (.getfield 55, 3) := by decide +kernel
theorem dX0_comesBefore_19 : decode cX0_comesBefore 19 = .ok (.if_icmp .ne 18, 3) := by decide +kernel
theorem dX0_comesBefore_22 : decode cX0_comesBefore 22 = .ok (.aload_n 0, 1) := by decide +kernel
theorem dX0_comesBefore_23 : decode cX0_comesBefore 23 = .ok (.getfield 52, 3) := by decide +kernel
theorem dX0_comesBefore_26 : decode cX0_comesBefore 26 = .ok (.aload_n 1, 1) := by decide +kernel
theorem dX0_comesBefore_27 : decode cX0_comesBefore 27 = .ok (.getfield 52, 3) := by decide +kernel
theorem dX0_comesBefore_30 : decode cX0_comesBefore 30 = .ok (.if_icmp .le 7, 3) := by decide +kernel
theorem dX0_comesBefore_33 : decode cX0_comesBefore 33 = .ok (.iconst 1, 1) := by decide +kernel
theorem dX0_comesBefore_34 : decode cX0_comesBefore 34 = .ok (.goto 4, 3) := by decide +kernel
theorem dX0_comesBefore_37 : decode cX0_comesBefore 37 = .ok (.iconst 0, 1) := by decide +kernel
theorem dX0_comesBefore_38 : decode cX0_comesBefore 38 = .ok (.ireturn, 1) := by decide +kernel
theorem dX0_putAtFirstPlace_0 : decode cX0_putAtFirstPlace 0 = .ok (.aload_n 0, 1) := by decide +kernel
theorem dX0_putAtFirstPlace_1 : decode cX0_putAtFirstPlace 1 = .ok (.getfield 11, 3) := by decide +kernel
theorem dX0_putAtFirstPlace_4 : decode cX0_putAtFirstPlace 4 = .ok (.iload_n 1, 1) := by decide +kernel
theorem dX0_putAtFirstPlace_5 : decode cX0_putAtFirstPlace 5 = .ok (.aaload, 1) := by decide +kernel
theorem dX0_putAtFirstPlace_6 : decode cX0_putAtFirstPlace 6 = .ok (.astore_n 2, 1) := by decide +kernel
theorem dX0_putAtFirstPlace_7 : decode cX0_putAtFirstPlace 7 = .ok (.aload_n 2, 1) := by decide +kernel
theorem dX0_putAtFirstPlace_8 : decode cX0_putAtFirstPlace 8 = .ok (.invokevirtual 140, 3) := by decide +kernel
theorem dX0_putAtFirstPlace_11 : decode cX0_putAtFirstPlace 11 = .ok (.istore_n 3, 1) := by decide +kernel
theorem dX0_putAtFirstPlace_12 : decode cX0_putAtFirstPlace 12 = .ok (.iload_n 3, 1) := by decide +kernel
theorem dX0_putAtFirstPlace_13 : decode cX0_putAtFirstPlace 13 = .ok (.iconst 2, 1) := by decide +kernel
theorem dX0_putAtFirstPlace_14 : decode cX0_putAtFirstPlace 14 = .ok (.idiv, 1) := by decide +kernel
theorem dX0_putAtFirstPlace_15 : decode cX0_putAtFirstPlace 15 = .ok (.istore 4, 2) := by decide +kernel
theorem dX0_putAtFirstPlace_17 : decode cX0_putAtFirstPlace 17 = .ok (.iconst 0, 1) := by decide +kernel
theorem dX0_putAtFirstPlace_18 : decode cX0_putAtFirstPlace 18 = .ok (.istore 5, 2) := by decide +kernel
theorem dX0_putAtFirstPlace_20 : decode cX0_putAtFirstPlace 20 = .ok (.iload 5, 2) := by decide +kernel
theorem dX0_putAtFirstPlace_22 : decode cX0_putAtFirstPlace 22 = .ok (.getstatic 143, 3) := by decide +kernel
theorem dX0_putAtFirstPlace_25 : decode cX0_putAtFirstPlace 25 = .ok (.arraylength, 1) := by decide +kernel
theorem dX0_putAtFirstPlace_26 : decode cX0_putAtFirstPlace 26 = .ok (.if_icmp .ge 92, 3) := by decide +kernel
theorem dX0_putAtFirstPlace_29 : decode cX0_putAtFirstPlace 29 = .ok (.iconst 0, 1) := by decide +kernel
theorem dX0_putAtFirstPlace_30 : decode cX0_putAtFirstPlace 30 = .ok (.istore 6, 2) := by decide +kernel
theorem dX0_putAtFirstPlace_32 : decode cX0_putAtFirstPlace 32 = .ok (.iload 6, 2) := by decide +kernel
theorem dX0_putAtFirstPlace_34 : decode cX0_putAtFirstPlace 34 = .ok (.iload_n 3, 1) := by decide +kernel
theorem dX0_putAtFirstPlace_35 : decode cX0_putAtFirstPlace 35 = .ok (.iconst 1, 1) := by decide +kernel
theorem dX0_putAtFirstPlace_36 : decode cX0_putAtFirstPlace 36 = .ok (.iadd, 1) := by decide +kernel
theorem dX0_putAtFirstPlace_37 : decode cX0_putAtFirstPlace 37 = .ok (.if_icmp .gt 75, 3) := by decide +kernel
theorem dX0_putAtFirstPlace_40 : decode cX0_putAtFirstPlace 40 = .ok (.iload 6, 2) := by decide +kernel
theorem dX0_putAtFirstPlace_42 : decode cX0_putAtFirstPlace 42 = .ok (.iconst 2, 1) := by decide +kernel
theorem dX0_putAtFirstPlace_43 : decode cX0_putAtFirstPlace 43 = .ok (.irem, 1) := by decide +kernel
theorem dX0_putAtFirstPlace_44 : decode cX0_putAtFirstPlace 44 = .ok (.ifCond .ne 13, 3) := by decide +kernel
theorem dX0_putAtFirstPlace_47 : decode cX0_putAtFirstPlace 47 = .ok (.iload 4, 2) := by decide +kernel
theorem dX0_putAtFirstPlace_49 : decode cX0_putAtFirstPlace 49 = .ok (.iload 6, 2) := by decide +kernel
theorem dX0_putAtFirstPlace_51 : decode cX0_putAtFirstPlace 51 = .ok (.iconst 2, 1) := by decide +kernel
theorem dX0_putAtFirstPlace_52 : decode cX0_putAtFirstPlace 52 = .ok (.idiv, 1) := by decide +kernel
theorem dX0_putAtFirstPlace_53 : decode cX0_putAtFirstPlace 53 = .ok (.iadd, 1) := by decide +kernel
theorem dX0_putAtFirstPlace_54 : decode cX0_putAtFirstPlace 54 = .ok (.goto 12, 3) := by decide +kernel
theorem dX0_putAtFirstPlace_57 : decode cX0_putAtFirstPlace 57 = .ok (.iload 4, 2) := by decide +kernel
theorem dX0_putAtFirstPlace_59 : decode cX0_putAtFirstPlace 59 = .ok (.iload 6, 2) := by decide +kernel
theorem dX0_putAtFirstPlace_61 : decode cX0_putAtFirstPlace 61 = .ok (.iconst 1, 1) := by decide +kernel
theorem dX0_putAtFirstPlace_62 : decode cX0_putAtFirstPlace 62 = .ok (.iadd, 1) := by decide +kernel
theorem dX0_putAtFirstPlace_63 : decode cX0_putAtFirstPlace 63 = .ok (.iconst 2, 1) := by decide +kernel
theorem dX0_putAtFirstPlace_64 : decode cX0_putAtFirstPlace 64 = .ok (.idiv, 1) := by decide +kernel
theorem dX0_putAtFirstPlace_65 : decode cX0_putAtFirstPlace 65 = .ok (.isub, 1) := by decide +kernel
theorem dX0_putAtFirstPlace_66 : decode cX0_putAtFirstPlace 66 = .ok (.istore 7, 2) := by decide +kernel
theorem dX0_putAtFirstPlace_68 : decode cX0_putAtFirstPlace 68 = .ok (.iload 7, 2) := by decide +kernel
theorem dX0_putAtFirstPlace_70 : decode cX0_putAtFirstPlace 70 = .ok (.ifCond .lt 36, 3) := by decide +kernel
theorem dX0_putAtFirstPlace_73 : decode cX0_putAtFirstPlace 73 = .ok (.aload_n 0, 1) := by decide +kernel
theorem dX0_putAtFirstPlace_74 : decode cX0_putAtFirstPlace 74 = .ok (.iload_n 1, 1) := by decide +kernel
theorem dX0_putAtFirstPlace_75 : decode cX0_putAtFirstPlace 75 = .ok (.aload_n 2, 1) := by decide +kernel
theorem dX0_putAtFirstPlace_76 : decode cX0_putAtFirstPlace 76 = .ok (.getfield 55, 3) := by decide +kernel
theorem dX0_putAtFirstPlace_79 : decode cX0_putAtFirstPlace 79 = .ok (.getstatic 143, 3) := by decide +kernel
theorem dX0_putAtFirstPlace_82 : decode cX0_putAtFirstPlace 82 = .ok (.iload 5, 2) := by decide +kernel
theorem dX0_putAtFirstPlace_84 : decode cX0_putAtFirstPlace 84 = .ok (.iaload, 1) := by decide +kernel
theorem dX0_putAtFirstPlace_85 : decode cX0_putAtFirstPlace 85 = .ok (.iload 7, 2) := by decide +kernel
theorem dX0_putAtFirstPlace_87 : decode cX0_putAtFirstPlace 87 = .ok (.invokevirtual 146, 3) := by decide +kernel
theorem dX0_putAtFirstPlace_90 : decode cX0_putAtFirstPlace 90 = .ok (.ifCond .eq 16, 3) := by decide +kernel
theorem dX0_putAtFirstPlace_93 : decode cX0_putAtFirstPlace 93 = .ok (.aload_n 2, 1) := by decide +kernel
theorem dX0_putAtFirstPlace_94 : decode cX0_putAtFirstPlace 94 = .ok (.getstatic 143, 3) := by decide +kernel
theorem dX0_putAtFirstPlace_97 : decode cX0_putAtFirstPlace 97 = .ok (.iload 5, 2) := by decide +kernel
theorem dX0_putAtFirstPlace_99 : decode cX0_putAtFirstPlace 99 = .ok (.iaload, 1) := by decide +kernel
theorem dX0_putAtFirstPlace_100 : decode cX0_putAtFirstPlace 100 = .ok (.iload 7, 2) := by decide +kernel
theorem dX0_putAtFirstPlace_102 : decode cX0_putAtFirstPlace 102 = .ok (.invokevirtual 132, 3) := by decide +kernel
theorem dX0_putAtFirstPlace_105 : decode cX0_putAtFirstPlace 105 = .ok (.return_, 1) := by decide +kernel
theorem dX0_putAtFirstPlace_106 : decode cX0_putAtFirstPlace 106 = .ok (.iinc 6 1, 3) := by decide +kernel
theorem dX0_putAtFirstPlace_109 : decode cX0_putAtFirstPlace 109 = .ok (.goto (-77), 3) := by decide +kernel
theorem dX0_putAtFirstPlace_112 : decode cX0_putAtFirstPlace 112 = .ok (.iinc 5 1, 3) := by decide +kernel
theorem dX0_putAtFirstPlace_115 : decode cX0_putAtFirstPlace 115 = .ok (.goto (-95), 3) := by decide +kernel
theorem dX0_putAtFirstPlace_118 : decode cX0_putAtFirstPlace 118 = .ok (.return_, 1) := by decide +kernel
theorem dX1_init_0 : decode cX1_init 0 = .ok (.aload_n 0, 1) := by decide +kernel
theorem dX1_init_1 : decode cX1_init 1 = .ok (.invokespecial 3, 3) := by decide +kernel
theorem dX1_init_4 : decode cX1_init 4 = .ok (.aload_n 0, 1) := by decide +kernel
theorem dX1_init_5 : decode cX1_init 5 = .ok (.sipush 160, 3) := by decide +kernel
theorem dX1_init_8 : decode cX1_init 8 = .ok (.newarray .int, 2) := by decide +kernel
theorem dX1_init_10 : decode cX1_init 10 = .ok (.putfield 9, 3) := by decide +kernel
theorem dX1_init_13 : decode cX1_init 13 = .ok (.return_, 1) := by decide +kernel
theorem dX1_readInto_0 : decode cX1_readInto 0 = .ok (.aload_n 0, 1) := by decide +kernel
theorem dX1_readInto_1 : decode cX1_readInto 1 = .ok (.iconst 0, 1) := by decide +kernel
theorem dX1_readInto_2 : decode cX1_readInto 2 = .ok (.putfield 15, 3) := by decide +kernel
theorem dX1_readInto_5 : decode cX1_readInto 5 = .ok (.iconst 0, 1) := by decide +kernel
theorem dX1_readInto_6 : decode cX1_readInto 6 = .ok (.istore_n 2, 1) := by decide +kernel
theorem dX1_readInto_7 : decode cX1_readInto 7 = .ok (.iload_n 2, 1) := by decide +kernel
theorem dX1_readInto_8 : decode cX1_readInto 8 = .ok (.bipush 22, 2) := by decide +kernel
theorem dX1_readInto_10 : decode cX1_readInto 10 = .ok (.if_icmp .gt 39, 3) := by decide +kernel
theorem dX1_readInto_13 : decode cX1_readInto 13 = .ok (.aload_n 0, 1) := by decide +kernel
theorem dX1_readInto_14 : decode cX1_readInto 14 = .ok (.invokevirtual 19, 3) := by decide +kernel
theorem dX1_readInto_17 : decode cX1_readInto 17 = .ok (.aload_n 0, 1) := by decide +kernel
theorem dX1_readInto_18 : decode cX1_readInto 18 = .ok (.getfield 22, 3) := by decide +kernel
theorem dX1_readInto_21 : decode cX1_readInto 21 = .ok (.ifCond .ne 5, 3) := by decide +kernel
theorem dX1_readInto_24 : decode cX1_readInto 24 = .ok (.iload_n 2, 1) := by decide +kernel
theorem dX1_readInto_25 : decode cX1_readInto 25 = .ok (.ireturn, 1) := by decide +kernel
theorem dX1_readInto_26 : decode cX1_readInto 26 = .ok (.aload_n 0, 1) := by decide +kernel
theorem dX1_readInto_27 : decode cX1_readInto 27 = .ok (.aload_n 1, 1) := by decide +kernel
theorem dX1_readInto_28 : decode cX1_readInto 28 = .ok (.invokevirtual 25, 3) := by decide +kernel
theorem dX1_readInto_31 : decode cX1_readInto 31 = .ok (.ifCond .ne 12, 3) := by decide +kernel
theorem dX1_readInto_34 : decode cX1_readInto 34 = .ok (.sipush (-1000), 3) := by decide +kernel
theorem dX1_readInto_37 : decode cX1_readInto 37 = .ok (.aload_n 0, 1) := by decide +kernel
theorem dX1_readInto_38 : decode cX1_readInto 38 = .ok (.getfield 29, 3) := by decide +kernel
theorem dX1_readInto_41 : decode cX1_readInto 41 = .ok (.isub, 1) := by decide +kernel
theorem dX1_readInto_42 : decode cX1_readInto 42 = .ok (.ireturn, 1) := by decide +kernel
theorem dX1_readInto_43 : decode cX1_readInto 43 = .ok (.iinc 2 1, 3) := by decide +kernel
theorem dX1_readInto_46 : decode cX1_readInto 46 = .ok (.goto (-39), 3) := by decide +kernel
theorem dX1_readInto_49 : decode cX1_readInto 49 = .ok (.sipush (-1000), 3) := by decide +kernel
theorem dX1_readInto_52 : decode cX1_readInto 52 = .ok (.aload_n 0, 1) := by decide +kernel
theorem dX1_readInto_53 : decode cX1_readInto 53 = .ok (.getfield 29, 3) := by decide +kernel
theorem dX1_readInto_56 : decode cX1_readInto 56 = .ok (.isub, 1) := by decide +kernel
theorem dX1_readInto_57 : decode cX1_readInto 57 = .ok (.ireturn, 1) := by decide +kernel
theorem dX1_readItem_0 : decode cX1_readItem 0 = .ok (.aload_n 0, 1) := by decide +kernel
theorem dX1_readItem_1 : decode cX1_readItem 1 = .ok (.ldc 32, 2) := by decide +kernel
theorem dX1_readItem_3 : decode cX1_readItem 3 = .ok (.invokevirtual 34, 3) := by decide +kernel
theorem dX1_readItem_6 : decode cX1_readItem 6 = .ok (.ifCond .eq 16, 3) := by decide +kernel
theorem dX1_readItem_9 : decode cX1_readItem 9 = .ok (.aload_n 1, 1) := by decide +kernel
theorem dX1_readItem_10 : decode cX1_readItem 10 = .ok (.invokevirtual 38, 3) := by decide +kernel
theorem dX1_readItem_13 : decode cX1_readItem 13 = .ok (.ifCond .eq 9, 3) := by decide +kernel
theorem dX1_readItem_16 : decode cX1_readItem 16 = .ok (.aload_n 0, 1) := by decide +kernel
theorem dX1_readItem_17 : decode cX1_readItem 17 = .ok (.aload_n 1, 1) := by decide +kernel
theorem dX1_readItem_18 : decode cX1_readItem 18 = .ok (.invokevirtual 44, 3) := by decide +kernel
theorem dX1_readItem_21 : decode cX1_readItem 21 = .ok (.ireturn, 1) := by decide +kernel
theorem dX1_readItem_22 : decode cX1_readItem 22 = .ok (.aload_n 0, 1) := by decide +kernel
theorem dX1_readItem_23 : decode cX1_readItem 23 = .ok (.ldc 47, 2) := by decide +kernel
theorem dX1_readItem_25 : decode cX1_readItem 25 = .ok (.invokevirtual 34, 3) := by decide +kernel
theorem dX1_readItem_28 : decode cX1_readItem 28 = .ok (.ifCond .eq 16, 3) := by decide +kernel
theorem dX1_readItem_31 : decode cX1_readItem 31 = .ok (.aload_n 1, 1) := by decide +kernel
theorem dX1_readItem_32 : decode cX1_readItem 32 = .ok (.invokevirtual 49, 3) := by decide +kernel
theorem dX1_readItem_35 : decode cX1_readItem 35 = .ok (.ifCond .eq 9, 3) := by decide +kernel
theorem dX1_readItem_38 : decode cX1_readItem 38 = .ok (.aload_n 0, 1) := by decide +kernel
theorem dX1_readItem_39 : decode cX1_readItem 39 = .ok (.aload_n 1, 1) := by decide +kernel
theorem dX1_readItem_40 : decode cX1_readItem 40 = .ok (.invokevirtual 52, 3) := by decide +kernel
theorem dX1_readItem_43 : decode cX1_readItem 43 = .ok (.ireturn, 1) := by decide +kernel
theorem dX1_readItem_44 : decode cX1_readItem 44 = .ok (.iconst 0, 1) := by decide +kernel
theorem dX1_readItem_45 : decode cX1_readItem 45 = .ok (.ireturn, 1) := by decide +kernel
theorem dX1_readWord_0 : decode cX1_readWord 0 = .ok (.aload_n 0, 1) := by decide +kernel
theorem dX1_readWord_1 : decode cX1_readWord 1 = .ok (.invokevirtual 19, 3) := by decide +kernel
theorem dX1_readWord_4 : decode cX1_readWord 4 = .ok (.aload_n 0, 1) := by decide +kernel
theorem dX1_readWord_5 : decode cX1_readWord 5 = .ok (.getfield 29, 3) := by decide +kernel
theorem dX1_readWord_8 : decode cX1_readWord 8 = .ok (.istore_n 2, 1) := by decide +kernel
theorem dX1_readWord_9 : decode cX1_readWord 9 = .ok (.aload_n 0, 1) := by decide +kernel
theorem dX1_readWord_10 : decode cX1_readWord 10 = .ok (.getfield 15, 3) := by decide +kernel
theorem dX1_readWord_13 : decode cX1_readWord 13 = .ok (.aload_n 0, 1) := by decide +kernel
theorem dX1_readWord_14 : decode cX1_readWord 14 = .ok (.getfield 29, 3) := by decide +kernel
theorem dX1_readWord_17 : decode cX1_readWord 17 = .ok (.isub, 1) := by decide +kernel
theorem dX1_readWord_18 : decode cX1_readWord 18 = .ok (.istore_n 3, 1) := by decide +kernel
theorem dX1_readWord_19 : decode cX1_readWord 19 = .ok (.aload_n 0, 1) := by decide +kernel
theorem dX1_readWord_20 : decode cX1_readWord 20 = .ok (.getfield 22, 3) := by decide +kernel
theorem dX1_readWord_23 : decode cX1_readWord 23 = .ok (.iconst 1, 1) := by decide +kernel
theorem dX1_readWord_24 : decode cX1_readWord 24 = .ok (.if_icmp .ne 9, 3) := by decide +kernel
theorem dX1_readWord_27 : decode cX1_readWord 27 = .ok (.iload_n 3, 1) := by decide +kernel
theorem dX1_readWord_28 : decode cX1_readWord 28 = .ok (.bipush 12, 2) := by decide +kernel
theorem dX1_readWord_30 : decode cX1_readWord 30 = .ok (.if_icmp .le 5, 3) := by decide +kernel
theorem dX1_readWord_33 : decode cX1_readWord 33 = .ok (.iconst 0, 1) := by decide +kernel
theorem dX1_readWord_34 : decode cX1_readWord 34 = .ok (.ireturn, 1) := by decide +kernel
theorem dX1_readWord_35 : decode cX1_readWord 35 = .ok (.aload_n 0, 1) := by decide +kernel
theorem dX1_readWord_36 : decode cX1_readWord 36 = .ok (.invokevirtual 19, 3) := by decide +kernel
theorem dX1_readWord_39 : decode cX1_readWord 39 = .ok (.aload_n 0, 1) := by decide +kernel
theorem dX1_readWord_40 : decode cX1_readWord 40 = .ok (.invokevirtual 55, 3) := by decide +kernel
theorem dX1_readWord_43 : decode cX1_readWord 43 = .ok (.istore 4, 2) := by decide +kernel
theorem dX1_readWord_45 : decode cX1_readWord 45 = .ok (.iconst 0, 1) := by decide +kernel
theorem dX1_readWord_46 : decode cX1_readWord 46 = .ok (.iload 4, 2) := by decide +kernel
theorem dX1_readWord_48 : decode cX1_readWord 48 = .ok (.invokestatic 59, 3) := by decide +kernel
theorem dX1_readWord_51 : decode cX1_readWord 51 = .ok (.ifCond .ne 5, 3) := by decide +kernel
theorem dX1_readWord_54 : decode cX1_readWord 54 = .ok (.iconst 0, 1) := by decide +kernel
theorem dX1_readWord_55 : decode cX1_readWord 55 = .ok (.ireturn, 1) := by decide +kernel
theorem dX1_readWord_56 : decode cX1_readWord 56 = .ok (.aload_n 0, 1) := by decide +kernel
theorem dX1_readWord_57 : decode cX1_readWord 57 = .ok (.invokevirtual 19, 3) := by decide +kernel
theorem dX1_readWord_60 : decode cX1_readWord 60 = .ok (.aload_n 0, 1) := by decide +kernel
theorem dX1_readWord_61 : decode cX1_readWord 61 = .ok (.invokevirtual 55, 3) := by decide +kernel
theorem dX1_readWord_64 : decode cX1_readWord 64 = .ok (.istore 5, 2) := by decide +kernel
theorem dX1_readWord_66 : decode cX1_readWord 66 = .ok (.iconst 1, 1) := by decide +kernel
theorem dX1_readWord_67 : decode cX1_readWord 67 = .ok (.iload 5, 2) := by decide +kernel
theorem dX1_readWord_69 : decode cX1_readWord 69 = .ok (.invokestatic 59, 3) := by decide +kernel
theorem dX1_readWord_72 : decode cX1_readWord 72 = .ok (.ifCond .ne 5, 3) := by decide +kernel
theorem dX1_readWord_75 : decode cX1_readWord 75 = .ok (.iconst 0, 1) := by decide +kernel
theorem dX1_readWord_76 : decode cX1_readWord 76 = .ok (.ireturn, 1) := by decide +kernel
theorem dX1_readWord_77 : decode cX1_readWord 77 = .ok (.aload_n 0, 1) := by decide +kernel
theorem dX1_readWord_78 : decode cX1_readWord 78 = .ok (.invokevirtual 19, 3) := by decide +kernel
theorem dX1_readWord_81 : decode cX1_readWord 81 = .ok (.aload_n 0, 1) := by decide +kernel
theorem dX1_readWord_82 : decode cX1_readWord 82 = .ok (.invokevirtual 55, 3) := by decide +kernel
theorem dX1_readWord_85 : decode cX1_readWord 85 = .ok (.istore 6, 2) := by decide +kernel
theorem dX1_readWord_87 : decode cX1_readWord 87 = .ok (.iconst 2, 1) := by decide +kernel
theorem dX1_readWord_88 : decode cX1_readWord 88 = .ok (.iload 6, 2) := by decide +kernel
theorem dX1_readWord_90 : decode cX1_readWord 90 = .ok (.invokestatic 59, 3) := by decide +kernel
theorem dX1_readWord_93 : decode cX1_readWord 93 = .ok (.ifCond .ne 5, 3) := by decide +kernel
theorem dX1_readWord_96 : decode cX1_readWord 96 = .ok (.iconst 0, 1) := by decide +kernel
theorem dX1_readWord_97 : decode cX1_readWord 97 = .ok (.ireturn, 1) := by decide +kernel
theorem dX1_readWord_98 : decode cX1_readWord 98 = .ok (.aload_n 0, 1) := by decide +kernel
theorem dX1_readWord_99 : decode cX1_readWord 99 = .ok (.invokevirtual 19, 3) := by decide +kernel
theorem dX1_readWord_102 : decode cX1_readWord 102 = .ok (.aload_n 0, 1) := by decide +kernel
theorem dX1_readWord_103 : decode cX1_readWord 103 = .ok (.invokevirtual 63, 3) := by decide +kernel
theorem dX1_readWord_106 : decode cX1_readWord 106 = .ok (.istore 7, 2) := by decide +kernel
theorem dX1_readWord_108 : decode cX1_readWord 108 = .ok (.iload 7, 2) := by decide +kernel
theorem dX1_readWord_110 : decode cX1_readWord 110 = .ok (.ifCond .eq 7, 3) := by decide +kernel
theorem dX1_readWord_113 : decode cX1_readWord 113 = .ok (.aload_n 0, 1) := by decide +kernel
theorem dX1_readWord_114 : decode cX1_readWord 114 = .ok (.invokevirtual 19, 3) := by decide +kernel
theorem dX1_readWord_117 : decode cX1_readWord 117 = .ok (.aload_n 0, 1) := by decide +kernel
theorem dX1_readWord_118 : decode cX1_readWord 118 = .ok (.getfield 22, 3) := by decide +kernel
theorem dX1_readWord_121 : decode cX1_readWord 121 = .ok (.iconst 3, 1) := by decide +kernel
theorem dX1_readWord_122 : decode cX1_readWord 122 = .ok (.if_icmp .eq 5, 3) := by decide +kernel
theorem dX1_readWord_125 : decode cX1_readWord 125 = .ok (.iconst 0, 1) := by decide +kernel
theorem dX1_readWord_126 : decode cX1_readWord 126 = .ok (.ireturn, 1) := by decide +kernel
theorem dX1_readWord_127 : decode cX1_readWord 127 = .ok (.aload_n 1, 1) := by decide +kernel
theorem dX1_readWord_128 : decode cX1_readWord 128 = .ok (.iload_n 3, 1) := by decide +kernel
theorem dX1_readWord_129 : decode cX1_readWord 129 = .ok (.iload 4, 2) := by decide +kernel
theorem dX1_readWord_131 : decode cX1_readWord 131 = .ok (.iload 5, 2) := by decide +kernel
theorem dX1_readWord_133 : decode cX1_readWord 133 = .ok (.iload 6, 2) := by decide +kernel
theorem dX1_readWord_135 : decode cX1_readWord 135 = .ok (.iload 7, 2) := by decide +kernel
theorem dX1_readWord_137 : decode cX1_readWord 137 = .ok (.invokevirtual 66, 3) := by decide +kernel
theorem dX1_readWord_140 : decode cX1_readWord 140 = .ok (.astore 8, 2) := by decide +kernel
theorem dX1_readWord_142 : decode cX1_readWord 142 = .ok (.aload_n 0, 1) := by decide +kernel
theorem dX1_readWord_143 : decode cX1_readWord 143 = .ok (.getfield 9, 3) := by decide +kernel
theorem dX1_readWord_146 : decode cX1_readWord 146 = .ok (.iload_n 2, 1) := by decide +kernel
theorem dX1_readWord_147 : decode cX1_readWord 147 = .ok (.aload 8, 2) := by decide +kernel
theorem dX1_readWord_149 : decode cX1_readWord 149 = .ok (.getfield 70, 3) := by decide +kernel
theorem dX1_readWord_152 : decode cX1_readWord 152 = .ok (.iconst 0, 1) := by decide +kernel
theorem dX1_readWord_153 : decode cX1_readWord 153 = .ok (.iload_n 3, 1) := by decide +kernel
theorem dX1_readWord_154 : decode cX1_readWord 154 = .ok (.invokestatic 75, 3) := by decide +kernel
theorem dX1_readWord_157 : decode cX1_readWord 157 = .ok (.iconst 1, 1) := by decide +kernel
theorem dX1_readWord_158 : decode cX1_readWord 158 = .ok (.ireturn, 1) := by decide +kernel
theorem dX1_readShot_0 : decode cX1_readShot 0 = .ok (.aload_n 0, 1) := by decide +kernel
theorem dX1_readShot_1 : decode cX1_readShot 1 = .ok (.invokevirtual 19, 3) := by decide +kernel
theorem dX1_readShot_4 : decode cX1_readShot 4 = .ok (.aload_n 0, 1) := by decide +kernel
theorem dX1_readShot_5 : decode cX1_readShot 5 = .ok (.invokevirtual 55, 3) := by decide +kernel
theorem dX1_readShot_8 : decode cX1_readShot 8 = .ok (.istore_n 2, 1) := by decide +kernel
theorem dX1_readShot_9 : decode cX1_readShot 9 = .ok (.iload_n 2, 1) := by decide +kernel
theorem dX1_readShot_10 : decode cX1_readShot 10 = .ok (.iconst 1, 1) := by decide +kernel
theorem dX1_readShot_11 : decode cX1_readShot 11 = .ok (.sipush 3000, 3) := by decide +kernel
theorem dX1_readShot_14 : decode cX1_readShot 14 = .ok (.invokestatic 81, 3) := by decide +kernel
theorem dX1_readShot_17 : decode cX1_readShot 17 = .ok (.ifCond .eq 11, 3) := by decide +kernel
theorem dX1_readShot_20 : decode cX1_readShot 20 = .ok (.aload_n 1, 1) := by decide +kernel
theorem dX1_readShot_21 : decode cX1_readShot 21 = .ok (.iload_n 2, 1) := by decide +kernel
theorem dX1_readShot_22 : decode cX1_readShot 22 = .ok (.invokevirtual 85, 3) := by decide +kernel
theorem dX1_readShot_25 : decode cX1_readShot 25 = .ok (.ifCond .eq 5, 3) := by decide +kernel
theorem dX1_readShot_28 : decode cX1_readShot 28 = .ok (.iconst 0, 1) := by decide +kernel
theorem dX1_readShot_29 : decode cX1_readShot 29 = .ok (.ireturn, 1) := by decide +kernel
theorem dX1_readShot_30 : decode cX1_readShot 30 = .ok (.aload_n 0, 1) := by decide +kernel
theorem dX1_readShot_31 : decode cX1_readShot 31 = .ok (.invokevirtual 19, 3) := by decide +kernel
theorem dX1_readShot_34 : decode cX1_readShot 34 = .ok (.aload_n 0, 1) := by decide +kernel
theorem dX1_readShot_35 : decode cX1_readShot 35 = .ok (.getfield 22, 3) := by decide +kernel
theorem dX1_readShot_38 : decode cX1_readShot 38 = .ok (.iconst 3, 1) := by decide +kernel
theorem dX1_readShot_39 : decode cX1_readShot 39 = .ok (.if_icmp .eq 5, 3) := by decide +kernel
theorem dX1_readShot_42 : decode cX1_readShot 42 = .ok (.iconst 0, 1) := by decide +kernel
theorem dX1_readShot_43 : decode cX1_readShot 43 = .ok (.ireturn, 1) := by decide +kernel
theorem dX1_readShot_44 : decode cX1_readShot 44 = .ok (.aload_n 1, 1) := by decide +kernel
theorem dX1_readShot_45 : decode cX1_readShot 45 = .ok (.iload_n 2, 1) := by decide +kernel
theorem dX1_readShot_46 : decode cX1_readShot 46 = .ok (.invokevirtual 89, 3) := by decide +kernel
theorem dX1_readShot_49 : decode cX1_readShot 49 = .ok (.iconst 1, 1) := by decide +kernel
theorem dX1_readShot_50 : decode cX1_readShot 50 = .ok (.ireturn, 1) := by decide +kernel
theorem dX1_step_0 : decode cX1_step 0 = .ok (.aload_n 0, 1) := by decide +kernel
theorem dX1_step_1 : decode cX1_step 1 = .ok (.aload_n 0, 1) := by decide +kernel
theorem dX1_step_2 : decode cX1_step 2 = .ok (.getfield 15, 3) := by decide +kernel
theorem dX1_step_5 : decode cX1_step 5 = .ok (.putfield 29, 3) := by decide +kernel
theorem dX1_step_8 : decode cX1_step 8 = .ok (.aload_n 0, 1) := by decide +kernel
theorem dX1_step_9 : decode cX1_step 9 = .ok (.getfield 29, 3) := by decide +kernel
theorem dX1_step_12 : decode cX1_step 12 = .ok (.aload_n 0, 1) := by decide +kernel
theorem dX1_step_13 : decode cX1_step 13 = .ok (.getfield 93, 3) := by decide +kernel
theorem dX1_step_16 : decode cX1_step 16 = .ok (.if_icmp .ge 30, 3) := by decide +kernel
theorem dX1_step_19 : decode cX1_step 19 = .ok (.aload_n 0, 1) := by decide +kernel
theorem dX1_step_20 : decode cX1_step 20 = .ok (.getfield 9, 3) := by decide +kernel
theorem dX1_step_23 : decode cX1_step 23 = .ok (.aload_n 0, 1) := by decide +kernel
theorem dX1_step_24 : decode cX1_step 24 = .ok (.getfield 29, 3) := by decide +kernel
theorem dX1_step_27 : decode cX1_step 27 = .ok (.iaload, 1) := by decide +kernel
theorem dX1_step_28 : decode cX1_step 28 = .ok (.bipush 32, 2) := by decide +kernel
theorem dX1_step_30 : decode cX1_step 30 = .ok (.if_icmp .ne 16, 3) := by decide +kernel
theorem dX1_step_33 : decode cX1_step 33 = .ok (.aload_n 0, 1) := by decide +kernel
theorem dX1_step_34 : decode cX1_step 34 = .ok (.dup, 1) := by decide +kernel
theorem dX1_step_35 : decode cX1_step 35 = .ok (.getfield 29, 3) := by decide +kernel
theorem dX1_step_38 : decode cX1_step 38 = .ok (.iconst 1, 1) := by decide +kernel
theorem dX1_step_39 : decode cX1_step 39 = .ok (.iadd, 1) := by decide +kernel
theorem dX1_step_40 : decode cX1_step 40 = .ok (.putfield 29, 3) := by decide +kernel
theorem dX1_step_43 : decode cX1_step 43 = .ok (.goto (-35), 3) := by decide +kernel
theorem dX1_step_46 : decode cX1_step 46 = .ok (.aload_n 0, 1) := by decide +kernel
theorem dX1_step_47 : decode cX1_step 47 = .ok (.aload_n 0, 1) := by decide +kernel
theorem dX1_step_48 : decode cX1_step 48 = .ok (.getfield 29, 3) := by decide +kernel
theorem dX1_step_51 : decode cX1_step 51 = .ok (.putfield 15, 3) := by decide +kernel
theorem dX1_step_54 : decode cX1_step 54 = .ok (.aload_n 0, 1) := by decide +kernel
theorem dX1_step_55 : decode cX1_step 55 = .ok (.aload_n 0, 1) := by decide +kernel
theorem dX1_step_56 : decode cX1_step 56 = .ok (.aload_n 0, 1) := by decide +kernel
theorem dX1_step_57 : decode cX1_step 57 = .ok (.getfield 29, 3) := by decide +kernel
theorem dX1_step_60 : decode cX1_step 60 = .ok (.invokevirtual 96, 3) := by decide +kernel
theorem dX1_step_63 : decode cX1_step 63 = .ok (.putfield 22, 3) := by decide +kernel
theorem dX1_step_66 : decode cX1_step 66 = .ok (.aload_n 0, 1) := by decide +kernel
theorem dX1_step_67 : decode cX1_step 67 = .ok (.getfield 22, 3) := by decide +kernel
theorem dX1_step_70 : decode cX1_step 70 = .ok (.iconst 1, 1) := by decide +kernel
theorem dX1_step_71 : decode cX1_step 71 = .ok (.if_icmp .eq 11, 3) := by decide +kernel
theorem dX1_step_74 : decode cX1_step 74 = .ok (.aload_n 0, 1) := by decide +kernel
theorem dX1_step_75 : decode cX1_step 75 = .ok (.getfield 22, 3) := by decide +kernel
theorem dX1_step_78 : decode cX1_step 78 = .ok (.iconst 2, 1) := by decide +kernel
theorem dX1_step_79 : decode cX1_step 79 = .ok (.if_icmp .ne 42, 3) := by decide +kernel
theorem dX1_step_82 : decode cX1_step 82 = .ok (.aload_n 0, 1) := by decide +kernel
theorem dX1_step_83 : decode cX1_step 83 = .ok (.getfield 15, 3) := by decide +kernel
theorem dX1_step_86 : decode cX1_step 86 = .ok (.aload_n 0, 1) := by decide +kernel
theorem dX1_step_87 : decode cX1_step 87 = .ok (.getfield 93, 3) := by decide +kernel
theorem dX1_step_90 : decode cX1_step 90 = .ok (.if_icmp .ge 48, 3) := by decide +kernel
theorem dX1_step_93 : decode cX1_step 93 = .ok (.aload_n 0, 1) := by decide +kernel
theorem dX1_step_94 : decode cX1_step 94 = .ok (.aload_n 0, 1) := by decide +kernel
theorem dX1_step_95 : decode cX1_step 95 = .ok (.getfield 15, 3) := by decide +kernel
theorem dX1_step_98 : decode cX1_step 98 = .ok (.invokevirtual 96, 3) := by decide +kernel
theorem dX1_step_101 : decode cX1_step 101 = .ok (.aload_n 0, 1) := by decide +kernel
theorem dX1_step_102 : decode cX1_step 102 = .ok (.getfield 22, 3) := by decide +kernel
theorem dX1_step_105 : decode cX1_step 105 = .ok (.if_icmp .ne 33, 3) := by decide +kernel
theorem dX1_step_108 : decode cX1_step 108 = .ok (.aload_n 0, 1) := by decide +kernel
theorem dX1_step_109 : decode cX1_step 109 = .ok (.dup, 1) := by decide +kernel
theorem dX1_step_110 : decode cX1_step 110 = .ok (.getfield 15, 3) := by decide +kernel
theorem dX1_step_113 : decode cX1_step 113 = .ok (.iconst 1, 1) := by decide +kernel
theorem dX1_step_114 : decode cX1_step 114 = .ok (.iadd, 1) := by decide +kernel
theorem dX1_step_115 : decode cX1_step 115 = .ok (.putfield 15, 3) := by decide +kernel
theorem dX1_step_118 : decode cX1_step 118 = .ok (.goto (-36), 3) := by decide +kernel
theorem dX1_step_121 : decode cX1_step 121 = .ok (.aload_n 0, 1) := by decide +kernel
theorem dX1_step_122 : decode cX1_step 122 = .ok (.getfield 22, 3) := by decide +kernel
theorem dX1_step_125 : decode cX1_step 125 = .ok (.ifCond .eq 13, 3) := by decide +kernel
theorem dX1_step_128 : decode cX1_step 128 = .ok (.aload_n 0, 1) := by decide +kernel
theorem dX1_step_129 : decode cX1_step 129 = .ok (.dup, 1) := by decide +kernel
theorem dX1_step_130 : decode cX1_step 130 = .ok (.getfield 15, 3) := by decide +kernel
theorem dX1_step_133 : decode cX1_step 133 = .ok (.iconst 1, 1) := by decide +kernel
theorem dX1_step_134 : decode cX1_step 134 = .ok (.iadd, 1) := by decide +kernel
theorem dX1_step_135 : decode cX1_step 135 = .ok (.putfield 15, 3) := by decide +kernel
theorem dX1_step_138 : decode cX1_step 138 = .ok (.return_, 1) := by decide +kernel
theorem dX1_kindAt_0 : decode cX1_kindAt 0 = .ok (.iload_n 1, 1) := by decide +kernel
theorem dX1_kindAt_1 : decode cX1_kindAt 1 = .ok (.aload_n 0, 1) := by decide +kernel
theorem dX1_kindAt_2 : decode cX1_kindAt 2 = .ok (.getfield 93, 3) := by decide +kernel
theorem dX1_kindAt_5 : decode cX1_kindAt 5 = .ok (.if_icmp .lt 5, 3) := by decide +kernel
theorem dX1_kindAt_8 : decode cX1_kindAt 8 = .ok (.iconst 0, 1) := by decide +kernel
theorem dX1_kindAt_9 : decode cX1_kindAt 9 = .ok (.ireturn, 1) := by decide +kernel
theorem dX1_kindAt_10 : decode cX1_kindAt 10 = .ok (.aload_n 0, 1) := by decide +kernel
theorem dX1_kindAt_11 : decode cX1_kindAt 11 = .ok (.getfield 9, 3) := by decide +kernel
theorem dX1_kindAt_14 : decode cX1_kindAt 14 = .ok (.iload_n 1, 1) := by decide +kernel
theorem dX1_kindAt_15 : decode cX1_kindAt 15 = .ok (.iaload, 1) := by decide +kernel
theorem dX1_kindAt_16 : decode cX1_kindAt 16 = .ok (.istore_n 2, 1) := by decide +kernel
theorem dX1_kindAt_17 : decode cX1_kindAt 17 = .ok (.iload_n 2, 1) := by decide +kernel
theorem dX1_kindAt_18 : decode cX1_kindAt 18 = .ok (.bipush 97, 2) := by decide +kernel
theorem dX1_kindAt_20 : decode cX1_kindAt 20 = .ok (.if_icmp .lt 11, 3) := by decide +kernel
theorem dX1_kindAt_23 : decode cX1_kindAt 23 = .ok (.iload_n 2, 1) := by decide +kernel
theorem dX1_kindAt_24 : decode cX1_kindAt 24 = .ok (.bipush 122, 2) := by decide +kernel
theorem dX1_kindAt_26 : decode cX1_kindAt 26 = .ok (.if_icmp .gt 5, 3) := by decide +kernel
theorem dX1_kindAt_29 : decode cX1_kindAt 29 = .ok (.iconst 1, 1) := by decide +kernel
theorem dX1_kindAt_30 : decode cX1_kindAt 30 = .ok (.ireturn, 1) := by decide +kernel
theorem dX1_kindAt_31 : decode cX1_kindAt 31 = .ok (.iload_n 2, 1) := by decide +kernel
theorem dX1_kindAt_32 : decode cX1_kindAt 32 = .ok (.bipush 48, 2) := by decide +kernel
theorem dX1_kindAt_34 : decode cX1_kindAt 34 = .ok (.if_icmp .lt 11, 3) := by decide +kernel
theorem dX1_kindAt_37 : decode cX1_kindAt 37 = .ok (.iload_n 2, 1) := by decide +kernel
theorem dX1_kindAt_38 : decode cX1_kindAt 38 = .ok (.bipush 57, 2) := by decide +kernel
theorem dX1_kindAt_40 : decode cX1_kindAt 40 = .ok (.if_icmp .gt 5, 3) := by decide +kernel
theorem dX1_kindAt_43 : decode cX1_kindAt 43 = .ok (.iconst 2, 1) := by decide +kernel
theorem dX1_kindAt_44 : decode cX1_kindAt 44 = .ok (.ireturn, 1) := by decide +kernel
theorem dX1_kindAt_45 : decode cX1_kindAt 45 = .ok (.iload_n 2, 1) := by decide +kernel
theorem dX1_kindAt_46 : decode cX1_kindAt 46 = .ok (.bipush 59, 2) := by decide +kernel
theorem dX1_kindAt_48 : decode cX1_kindAt 48 = .ok (.if_icmp .ne 7, 3) := by decide +kernel
theorem dX1_kindAt_51 : decode cX1_kindAt 51 = .ok (.iconst 3, 1) := by decide +kernel
theorem dX1_kindAt_52 : decode cX1_kindAt 52 = .ok (.goto 4, 3) := by decide +kernel
theorem dX1_kindAt_55 : decode cX1_kindAt 55 = .ok (.iconst 4, 1) := by decide +kernel
theorem dX1_kindAt_56 : decode cX1_kindAt 56 = .ok (.ireturn, 1) := by decide +kernel
theorem dX1_isName_0 : decode cX1_isName 0 = .ok (.aload_n 0, 1) := by decide +kernel
theorem dX1_isName_1 : decode cX1_isName 1 = .ok (.getfield 22, 3) := by decide +kernel
theorem dX1_isName_4 : decode cX1_isName 4 = .ok (.iconst 1, 1) := by decide +kernel
theorem dX1_isName_5 : decode cX1_isName 5 = .ok (.if_icmp .ne 19, 3) := by decide +kernel
theorem dX1_isName_8 : decode cX1_isName 8 = .ok (.aload_n 0, 1) := by decide +kernel
theorem dX1_isName_9 : decode cX1_isName 9 = .ok (.getfield 15, 3) := by decide +kernel
theorem dX1_isName_12 : decode cX1_isName 12 = .ok (.aload_n 0, 1) := by decide +kernel
theorem dX1_isName_13 : decode cX1_isName 13 = .ok (.getfield 29, 3) := by decide +kernel
theorem dX1_isName_16 : decode cX1_isName 16 = .ok (.isub, 1) := by decide +kernel
theorem dX1_isName_17 : decode cX1_isName 17 = .ok (.aload_n 1, 1) := by decide +kernel
theorem dX1_isName_18 : decode cX1_isName 18 = .ok (.invokevirtual 100, 3) := by decide +kernel
theorem dX1_isName_21 : decode cX1_isName 21 = .ok (.if_icmp .eq 5, 3) := by decide +kernel
theorem dX1_isName_24 : decode cX1_isName 24 = .ok (.iconst 0, 1) := by decide +kernel
theorem dX1_isName_25 : decode cX1_isName 25 = .ok (.ireturn, 1) := by decide +kernel
theorem dX1_isName_26 : decode cX1_isName 26 = .ok (.iconst 0, 1) := by decide +kernel
theorem dX1_isName_27 : decode cX1_isName 27 = .ok (.istore_n 2, 1) := by decide +kernel
theorem dX1_isName_28 : decode cX1_isName 28 = .ok (.iload_n 2, 1) := by decide +kernel
theorem dX1_isName_29 : decode cX1_isName 29 = .ok (.aload_n 1, 1) := by decide +kernel
theorem dX1_isName_30 : decode cX1_isName 30 = .ok (.invokevirtual 100, 3) := by decide +kernel
theorem dX1_isName_33 : decode cX1_isName 33 = .ok (.if_icmp .ge 30, 3) := by decide +kernel
theorem dX1_isName_36 : decode cX1_isName 36 = .ok (.aload_n 0, 1) := by decide +kernel
theorem dX1_isName_37 : decode cX1_isName 37 = .ok (.getfield 9, 3) := by decide +kernel
theorem dX1_isName_40 : decode cX1_isName 40 = .ok (.aload_n 0, 1) := by decide +kernel
theorem dX1_isName_41 : decode cX1_isName 41 = .ok (.getfield 29, 3) := by decide +kernel
theorem dX1_isName_44 : decode cX1_isName 44 = .ok (.iload_n 2, 1) := by decide +kernel
theorem dX1_isName_45 : decode cX1_isName 45 = .ok (.iadd, 1) := by decide +kernel
theorem dX1_isName_46 : decode cX1_isName 46 = .ok (.iaload, 1) := by decide +kernel
theorem dX1_isName_47 : decode cX1_isName 47 = .ok (.aload_n 1, 1) := by decide +kernel
theorem dX1_isName_48 : decode cX1_isName 48 = .ok (.iload_n 2, 1) := by decide +kernel
theorem dX1_isName_49 : decode cX1_isName 49 = .ok (.invokevirtual 104, 3) := by decide +kernel
theorem dX1_isName_52 : decode cX1_isName 52 = .ok (.if_icmp .eq 5, 3) := by decide +kernel
theorem dX1_isName_55 : decode cX1_isName 55 = .ok (.iconst 0, 1) := by decide +kernel
theorem dX1_isName_56 : decode cX1_isName 56 = .ok (.ireturn, 1) := by decide +kernel
theorem dX1_isName_57 : decode cX1_isName 57 = .ok (.iinc 2 1, 3) := by decide +kernel
theorem dX1_isName_60 : decode cX1_isName 60 = .ok (.goto (-32), 3) := by decide +kernel
theorem dX1_isName_63 : decode cX1_isName 63 = .ok (.iconst 1, 1) := by decide +kernel
theorem dX1_isName_64 : decode cX1_isName 64 = .ok (.ireturn, 1) := by decide +kernel
theorem dX1_wayOf_0 : decode cX1_wayOf 0 = .ok (.aload_n 0, 1) := by decide +kernel
theorem dX1_wayOf_1 : decode cX1_wayOf 1 = .ok (.ldc 108, 2) := by decide +kernel
theorem dX1_wayOf_3 : decode cX1_wayOf 3 = .ok (.invokevirtual 34, 3) := by decide +kernel
theorem dX1_wayOf_6 : decode cX1_wayOf 6 = .ok (.ifCond .eq 5, 3) := by decide +kernel
theorem dX1_wayOf_9 : decode cX1_wayOf 9 = .ok (.iconst 1, 1) := by decide +kernel
theorem dX1_wayOf_10 : decode cX1_wayOf 10 = .ok (.ireturn, 1) := by decide +kernel
theorem dX1_wayOf_11 : decode cX1_wayOf 11 = .ok (.aload_n 0, 1) := by decide +kernel
theorem dX1_wayOf_12 : decode cX1_wayOf 12 = .ok (.ldc 110, 2) := by decide +kernel
theorem dX1_wayOf_14 : decode cX1_wayOf 14 = .ok (.invokevirtual 34, 3) := by decide +kernel
theorem dX1_wayOf_17 : decode cX1_wayOf 17 = .ok (.ifCond .eq 5, 3) := by decide +kernel
theorem dX1_wayOf_20 : decode cX1_wayOf 20 = .ok (.iconst 2, 1) := by decide +kernel
theorem dX1_wayOf_21 : decode cX1_wayOf 21 = .ok (.ireturn, 1) := by decide +kernel
theorem dX1_wayOf_22 : decode cX1_wayOf 22 = .ok (.aload_n 0, 1) := by decide +kernel
theorem dX1_wayOf_23 : decode cX1_wayOf 23 = .ok (.ldc 112, 2) := by decide +kernel
theorem dX1_wayOf_25 : decode cX1_wayOf 25 = .ok (.invokevirtual 34, 3) := by decide +kernel
theorem dX1_wayOf_28 : decode cX1_wayOf 28 = .ok (.ifCond .eq 5, 3) := by decide +kernel
theorem dX1_wayOf_31 : decode cX1_wayOf 31 = .ok (.iconst 3, 1) := by decide +kernel
theorem dX1_wayOf_32 : decode cX1_wayOf 32 = .ok (.ireturn, 1) := by decide +kernel
theorem dX1_wayOf_33 : decode cX1_wayOf 33 = .ok (.aload_n 0, 1) := by decide +kernel
theorem dX1_wayOf_34 : decode cX1_wayOf 34 = .ok (.ldc 114, 2) := by decide +kernel
theorem dX1_wayOf_36 : decode cX1_wayOf 36 = .ok (.invokevirtual 34, 3) := by decide +kernel
theorem dX1_wayOf_39 : decode cX1_wayOf 39 = .ok (.ifCond .eq 7, 3) := by decide +kernel
theorem dX1_wayOf_42 : decode cX1_wayOf 42 = .ok (.iconst 4, 1) := by decide +kernel
theorem dX1_wayOf_43 : decode cX1_wayOf 43 = .ok (.goto 4, 3) := by decide +kernel
theorem dX1_wayOf_46 : decode cX1_wayOf 46 = .ok (.iconst 0, 1) := by decide +kernel
theorem dX1_wayOf_47 : decode cX1_wayOf 47 = .ok (.ireturn, 1) := by decide +kernel
theorem dX1_numberOf_0 : decode cX1_numberOf 0 = .ok (.aload_n 0, 1) := by decide +kernel
theorem dX1_numberOf_1 : decode cX1_numberOf 1 = .ok (.getfield 22, 3) := by decide +kernel
theorem dX1_numberOf_4 : decode cX1_numberOf 4 = .ok (.iconst 2, 1) := by decide +kernel
theorem dX1_numberOf_5 : decode cX1_numberOf 5 = .ok (.if_icmp .ne 30, 3) := by decide +kernel
theorem dX1_numberOf_8 : decode cX1_numberOf 8 = .ok (.aload_n 0, 1) := by decide +kernel
theorem dX1_numberOf_9 : decode cX1_numberOf 9 = .ok (.getfield 9, 3) := by decide +kernel
theorem dX1_numberOf_12 : decode cX1_numberOf 12 = .ok (.aload_n 0, 1) := by decide +kernel
theorem dX1_numberOf_13 : decode cX1_numberOf 13 = .ok (.getfield 29, 3) := by decide +kernel
theorem dX1_numberOf_16 : decode cX1_numberOf 16 = .ok (.iaload, 1) := by decide +kernel
theorem dX1_numberOf_17 : decode cX1_numberOf 17 = .ok (.bipush 48, 2) := by decide +kernel
theorem dX1_numberOf_19 : decode cX1_numberOf 19 = .ok (.if_icmp .ne 18, 3) := by decide +kernel
theorem dX1_numberOf_22 : decode cX1_numberOf 22 = .ok (.aload_n 0, 1) := by decide +kernel
theorem dX1_numberOf_23 : decode cX1_numberOf 23 = .ok (.getfield 15, 3) := by decide +kernel
theorem dX1_numberOf_26 : decode cX1_numberOf 26 = .ok (.aload_n 0, 1) := by decide +kernel
theorem dX1_numberOf_27 : decode cX1_numberOf 27 = .ok (.getfield 29, 3) := by decide +kernel
theorem dX1_numberOf_30 : decode cX1_numberOf 30 = .ok (.isub, 1) := by decide +kernel
theorem dX1_numberOf_31 : decode cX1_numberOf 31 = .ok (.iconst 1, 1) := by decide +kernel
theorem dX1_numberOf_32 : decode cX1_numberOf 32 = .ok (.if_icmp .le 5, 3) := by decide +kernel
theorem dX1_numberOf_35 : decode cX1_numberOf 35 = .ok (.iconst (-1), 1) := by decide +kernel
theorem dX1_numberOf_36 : decode cX1_numberOf 36 = .ok (.ireturn, 1) := by decide +kernel
theorem dX1_numberOf_37 : decode cX1_numberOf 37 = .ok (.iconst 0, 1) := by decide +kernel
theorem dX1_numberOf_38 : decode cX1_numberOf 38 = .ok (.istore_n 1, 1) := by decide +kernel
theorem dX1_numberOf_39 : decode cX1_numberOf 39 = .ok (.aload_n 0, 1) := by decide +kernel
theorem dX1_numberOf_40 : decode cX1_numberOf 40 = .ok (.getfield 29, 3) := by decide +kernel
theorem dX1_numberOf_43 : decode cX1_numberOf 43 = .ok (.istore_n 2, 1) := by decide +kernel
theorem dX1_numberOf_44 : decode cX1_numberOf 44 = .ok (.iload_n 2, 1) := by decide +kernel
theorem dX1_numberOf_45 : decode cX1_numberOf 45 = .ok (.aload_n 0, 1) := by decide +kernel
theorem dX1_numberOf_46 : decode cX1_numberOf 46 = .ok (.getfield 15, 3) := by decide +kernel
theorem dX1_numberOf_49 : decode cX1_numberOf 49 = .ok (.if_icmp .ge 33, 3) := by decide +kernel
theorem dX1_numberOf_52 : decode cX1_numberOf 52 = .ok (.iload_n 1, 1) := by decide +kernel
theorem dX1_numberOf_53 : decode cX1_numberOf 53 = .ok (.bipush 10, 2) := by decide +kernel
theorem dX1_numberOf_55 : decode cX1_numberOf 55 = .ok (.imul, 1) := by decide +kernel
theorem dX1_numberOf_56 : decode cX1_numberOf 56 = .ok (.aload_n 0, 1) := by decide +kernel
theorem dX1_numberOf_57 : decode cX1_numberOf 57 = .ok (.getfield 9, 3) := by decide +kernel
theorem dX1_numberOf_60 : decode cX1_numberOf 60 = .ok (.iload_n 2, 1) := by decide +kernel
theorem dX1_numberOf_61 : decode cX1_numberOf 61 = .ok (.iaload, 1) := by decide +kernel
theorem dX1_numberOf_62 : decode cX1_numberOf 62 = .ok (.bipush 48, 2) := by decide +kernel
theorem dX1_numberOf_64 : decode cX1_numberOf 64 = .ok (.isub, 1) := by decide +kernel
theorem dX1_numberOf_65 : decode cX1_numberOf 65 = .ok (.iadd, 1) := by decide +kernel
theorem dX1_numberOf_66 : decode cX1_numberOf 66 = .ok (.istore_n 1, 1) := by decide +kernel
theorem dX1_numberOf_67 : decode cX1_numberOf 67 = .ok (.iload_n 1, 1) := by decide +kernel
theorem dX1_numberOf_68 : decode cX1_numberOf 68 = .ok (.sipush 4000, 3) := by decide +kernel
theorem dX1_numberOf_71 : decode cX1_numberOf 71 = .ok (.if_icmp .le 5, 3) := by decide +kernel
theorem dX1_numberOf_74 : decode cX1_numberOf 74 = .ok (.iconst (-1), 1) := by decide +kernel
theorem dX1_numberOf_75 : decode cX1_numberOf 75 = .ok (.ireturn, 1) := by decide +kernel
theorem dX1_numberOf_76 : decode cX1_numberOf 76 = .ok (.iinc 2 1, 3) := by decide +kernel
theorem dX1_numberOf_79 : decode cX1_numberOf 79 = .ok (.goto (-35), 3) := by decide +kernel
theorem dX1_numberOf_82 : decode cX1_numberOf 82 = .ok (.iload_n 1, 1) := by decide +kernel
theorem dX1_numberOf_83 : decode cX1_numberOf 83 = .ok (.ireturn, 1) := by decide +kernel
theorem dX2_init_0 : decode cX2_init 0 = .ok (.aload_n 0, 1) := by decide +kernel
theorem dX2_init_1 : decode cX2_init 1 = .ok (.invokespecial 3, 3) := by decide +kernel
theorem dX2_init_4 : decode cX2_init 4 = .ok (.aload_n 0, 1) := by decide +kernel
theorem dX2_init_5 : decode cX2_init 5 = .ok (.bipush 12, 2) := by decide +kernel
theorem dX2_init_7 : decode cX2_init 7 = .ok (.newarray .int, 2) := by decide +kernel
theorem dX2_init_9 : decode cX2_init 9 = .ok (.putfield 9, 3) := by decide +kernel
theorem dX2_init_12 : decode cX2_init 12 = .ok (.return_, 1) := by decide +kernel
theorem dX2_copyFrom_0 : decode cX2_copyFrom 0 = .ok (.aload_n 1, 1) := by decide +kernel
theorem dX2_copyFrom_1 : decode cX2_copyFrom 1 = .ok (.getfield 9, 3) := by decide +kernel
theorem dX2_copyFrom_4 : decode cX2_copyFrom 4 = .ok (.iconst 0, 1) := by decide +kernel
theorem dX2_copyFrom_5 : decode cX2_copyFrom 5 = .ok (.aload_n 0, 1) := by decide +kernel
theorem dX2_copyFrom_6 : decode cX2_copyFrom 6 = .ok (.getfield 9, 3) := by decide +kernel
theorem dX2_copyFrom_9 : decode cX2_copyFrom 9 = .ok (.iconst 0, 1) := by decide +kernel
theorem dX2_copyFrom_10 : decode cX2_copyFrom 10 = .ok (.bipush 12, 2) := by decide +kernel
theorem dX2_copyFrom_12 : decode cX2_copyFrom 12 = .ok (.invokestatic 15, 3) := by decide +kernel
theorem dX2_copyFrom_15 : decode cX2_copyFrom 15 = .ok (.aload_n 0, 1) := by decide +kernel
theorem dX2_copyFrom_16 : decode cX2_copyFrom 16 = .ok (.aload_n 1, 1) := by decide +kernel
theorem dX2_copyFrom_17 : decode cX2_copyFrom 17 = .ok (.getfield 21, 3) := by decide +kernel
theorem dX2_copyFrom_20 : decode cX2_copyFrom 20 = .ok (.putfield 21, 3) := by decide +kernel
theorem dX2_copyFrom_23 : decode cX2_copyFrom 23 = .ok (.aload_n 0, 1) := by decide +kernel
theorem dX2_copyFrom_24 : decode cX2_copyFrom 24 = .ok (.aload_n 1, 1) := by decide +kernel
theorem dX2_copyFrom_25 : decode cX2_copyFrom 25 = .ok (.getfield 25, 3) := by decide +kernel
theorem dX2_copyFrom_28 : decode cX2_copyFrom 28 = .ok (.putfield 25, 3) := by decide +kernel
theorem dX2_copyFrom_31 : decode cX2_copyFrom 31 = .ok (.aload_n 0, 1) := by decide +kernel
theorem dX2_copyFrom_32 : decode cX2_copyFrom 32 = .ok (.aload_n 1, 1) := by decide +kernel
theorem dX2_copyFrom_33 : decode cX2_copyFrom 33 = .ok (.getfield 28, 3) := by decide +kernel
theorem dX2_copyFrom_36 : decode cX2_copyFrom 36 = .ok (.putfield 28, 3) := by decide +kernel
theorem dX2_copyFrom_39 : decode cX2_copyFrom 39 = .ok (.aload_n 0, 1) := by decide +kernel
theorem dX2_copyFrom_40 : decode cX2_copyFrom 40 = .ok (.aload_n 1, 1) := by decide +kernel
theorem dX2_copyFrom_41 : decode cX2_copyFrom 41 = .ok (.getfield 31, 3) := by decide +kernel
theorem dX2_copyFrom_44 : decode cX2_copyFrom 44 = .ok (.putfield 31, 3) := by decide +kernel
theorem dX2_copyFrom_47 : decode cX2_copyFrom 47 = .ok (.aload_n 0, 1) := by decide +kernel
theorem dX2_copyFrom_48 : decode cX2_copyFrom 48 = .ok (.aload_n 1, 1) := by decide +kernel
theorem dX2_copyFrom_49 : decode cX2_copyFrom 49 = .ok (.getfield 34, 3) := by decide +kernel
theorem dX2_copyFrom_52 : decode cX2_copyFrom 52 = .ok (.putfield 34, 3) := by decide +kernel
theorem dX2_copyFrom_55 : decode cX2_copyFrom 55 = .ok (.aload_n 0, 1) := by decide +kernel
theorem dX2_copyFrom_56 : decode cX2_copyFrom 56 = .ok (.aload_n 1, 1) := by decide +kernel
theorem dX2_copyFrom_57 : decode cX2_copyFrom 57 = .ok (.getfield 37, 3) := by decide +kernel
theorem dX2_copyFrom_60 : decode cX2_copyFrom 60 = .ok (.putfield 37, 3) := by decide +kernel
theorem dX2_copyFrom_63 : decode cX2_copyFrom 63 = .ok (.aload_n 0, 1) := by decide +kernel
theorem dX2_copyFrom_64 : decode cX2_copyFrom 64 = .ok (.aload_n 1, 1) := by decide +kernel
theorem dX2_copyFrom_65 : decode cX2_copyFrom 65 = .ok (.getfield 41, 3) := by decide +kernel
theorem dX2_copyFrom_68 : decode cX2_copyFrom 68 = .ok (.putfield 41, 3) := by decide +kernel
theorem dX2_copyFrom_71 : decode cX2_copyFrom 71 = .ok (.aload_n 0, 1) := by decide +kernel
theorem dX2_copyFrom_72 : decode cX2_copyFrom 72 = .ok (.aload_n 1, 1) := by decide +kernel
theorem dX2_copyFrom_73 : decode cX2_copyFrom 73 = .ok (.getfield 44, 3) := by decide +kernel
theorem dX2_copyFrom_76 : decode cX2_copyFrom 76 = .ok (.putfield 44, 3) := by decide +kernel
theorem dX2_copyFrom_79 : decode cX2_copyFrom 79 = .ok (.return_, 1) := by decide +kernel
theorem dX2_property_0 : decode cX2_property 0 = .ok (.iload_n 1, 1) := by decide +kernel
theorem dX2_property_1 : decode cX2_property 1 = .ok (.tableswitch 42 0 2 #[27, 32, 37], 27) := by decide +kernel
theorem dX2_property_28 : decode cX2_property 28 = .ok (.aload_n 0, 1) := by decide +kernel
theorem dX2_property_29 : decode cX2_property 29 = .ok (.getfield 25, 3) := by decide +kernel
theorem dX2_property_32 : decode cX2_property 32 = .ok (.ireturn, 1) := by decide +kernel
theorem dX2_property_33 : decode cX2_property 33 = .ok (.aload_n 0, 1) := by decide +kernel
theorem dX2_property_34 : decode cX2_property 34 = .ok (.getfield 28, 3) := by decide +kernel
theorem dX2_property_37 : decode cX2_property 37 = .ok (.ireturn, 1) := by decide +kernel
theorem dX2_property_38 : decode cX2_property 38 = .ok (.aload_n 0, 1) := by decide +kernel
theorem dX2_property_39 : decode cX2_property 39 = .ok (.getfield 31, 3) := by decide +kernel
theorem dX2_property_42 : decode cX2_property 42 = .ok (.ireturn, 1) := by decide +kernel
theorem dX2_property_43 : decode cX2_property 43 = .ok (.aload_n 0, 1) := by decide +kernel
theorem dX2_property_44 : decode cX2_property 44 = .ok (.getfield 34, 3) := by decide +kernel
theorem dX2_property_47 : decode cX2_property 47 = .ok (.ireturn, 1) := by decide +kernel
theorem dX2_setProperty_0 : decode cX2_setProperty 0 = .ok (.iload_n 1, 1) := by decide +kernel
theorem dX2_setProperty_1 : decode cX2_setProperty 1 = .ok (.tableswitch 51 0 2 #[27, 35, 43], 27) := by decide +kernel
theorem dX2_setProperty_28 : decode cX2_setProperty 28 = .ok (.aload_n 0, 1) := by decide +kernel
theorem dX2_setProperty_29 : decode cX2_setProperty 29 = .ok (.iload_n 2, 1) := by decide +kernel
theorem dX2_setProperty_30 : decode cX2_setProperty 30 = .ok (.putfield 25, 3) := by decide +kernel
theorem dX2_setProperty_33 : decode cX2_setProperty 33 = .ok (.goto 24, 3) := by decide +kernel
theorem dX2_setProperty_36 : decode cX2_setProperty 36 = .ok (.aload_n 0, 1) := by decide +kernel
theorem dX2_setProperty_37 : decode cX2_setProperty 37 = .ok (.iload_n 2, 1) := by decide +kernel
theorem dX2_setProperty_38 : decode cX2_setProperty 38 = .ok (.putfield 28, 3) := by decide +kernel
theorem dX2_setProperty_41 : decode cX2_setProperty 41 = .ok (.goto 16, 3) := by decide +kernel
theorem dX2_setProperty_44 : decode cX2_setProperty 44 = .ok (.aload_n 0, 1) := by decide +kernel
theorem dX2_setProperty_45 : decode cX2_setProperty 45 = .ok (.iload_n 2, 1) := by decide +kernel
theorem dX2_setProperty_46 : decode cX2_setProperty 46 = .ok (.putfield 31, 3) := by decide +kernel
theorem dX2_setProperty_49 : decode cX2_setProperty 49 = .ok (.goto 8, 3) := by decide +kernel
theorem dX2_setProperty_52 : decode cX2_setProperty 52 = .ok (.aload_n 0, 1) := by decide +kernel
theorem dX2_setProperty_53 : decode cX2_setProperty 53 = .ok (.iload_n 2, 1) := by decide +kernel
theorem dX2_setProperty_54 : decode cX2_setProperty 54 = .ok (.putfield 34, 3) := by decide +kernel
theorem dX2_setProperty_57 : decode cX2_setProperty 57 = .ok (.return_, 1) := by decide +kernel
theorem dX2_putAt_0 : decode cX2_putAt 0 = .ok (.aload_n 0, 1) := by decide +kernel
theorem dX2_putAt_1 : decode cX2_putAt 1 = .ok (.iconst 1, 1) := by decide +kernel
theorem dX2_putAt_2 : decode cX2_putAt 2 = .ok (.putfield 37, 3) := by decide +kernel
theorem dX2_putAt_5 : decode cX2_putAt 5 = .ok (.aload_n 0, 1) := by decide +kernel
theorem dX2_putAt_6 : decode cX2_putAt 6 = .ok (.iload_n 1, 1) := by decide +kernel
theorem dX2_putAt_7 : decode cX2_putAt 7 = .ok (.putfield 41, 3) := by decide +kernel
theorem dX2_putAt_10 : decode cX2_putAt 10 = .ok (.aload_n 0, 1) := by decide +kernel
theorem dX2_putAt_11 : decode cX2_putAt 11 = .ok (.iload_n 2, 1) := by decide +kernel
theorem dX2_putAt_12 : decode cX2_putAt 12 = .ok (.putfield 44, 3) := by decide +kernel
theorem dX2_putAt_15 : decode cX2_putAt 15 = .ok (.return_, 1) := by decide +kernel
theorem dX2_leavesIn_0 : decode cX2_leavesIn 0 = .ok (.aload_n 0, 1) := by decide +kernel
theorem dX2_leavesIn_1 : decode cX2_leavesIn 1 = .ok (.getfield 25, 3) := by decide +kernel
theorem dX2_leavesIn_4 : decode cX2_leavesIn 4 = .ok (.aload_n 0, 1) := by decide +kernel
theorem dX2_leavesIn_5 : decode cX2_leavesIn 5 = .ok (.getfield 28, 3) := by decide +kernel
theorem dX2_leavesIn_8 : decode cX2_leavesIn 8 = .ok (.iadd, 1) := by decide +kernel
theorem dX2_leavesIn_9 : decode cX2_leavesIn 9 = .ok (.aload_n 0, 1) := by decide +kernel
theorem dX2_leavesIn_10 : decode cX2_leavesIn 10 = .ok (.getfield 31, 3) := by decide +kernel
theorem dX2_leavesIn_13 : decode cX2_leavesIn 13 = .ok (.iadd, 1) := by decide +kernel
theorem dX2_leavesIn_14 : decode cX2_leavesIn 14 = .ok (.ireturn, 1) := by decide +kernel
theorem dX2_stepsIn_0 : decode cX2_stepsIn 0 = .ok (.iload_n 1, 1) := by decide +kernel
theorem dX2_stepsIn_1 : decode cX2_stepsIn 1 = .ok (.iconst 1, 1) := by decide +kernel
theorem dX2_stepsIn_2 : decode cX2_stepsIn 2 = .ok (.iadd, 1) := by decide +kernel
theorem dX2_stepsIn_3 : decode cX2_stepsIn 3 = .ok (.aload_n 0, 1) := by decide +kernel
theorem dX2_stepsIn_4 : decode cX2_stepsIn 4 = .ok (.getfield 25, 3) := by decide +kernel
theorem dX2_stepsIn_7 : decode cX2_stepsIn 7 = .ok (.aload_n 0, 1) := by decide +kernel
theorem dX2_stepsIn_8 : decode cX2_stepsIn 8 = .ok (.getfield 28, 3) := by decide +kernel
theorem dX2_stepsIn_11 : decode cX2_stepsIn 11 = .ok (.iadd, 1) := by decide +kernel
theorem dX2_stepsIn_12 : decode cX2_stepsIn 12 = .ok (.aload_n 0, 1) := by decide +kernel
theorem dX2_stepsIn_13 : decode cX2_stepsIn 13 = .ok (.getfield 31, 3) := by decide +kernel
theorem dX2_stepsIn_16 : decode cX2_stepsIn 16 = .ok (.iadd, 1) := by decide +kernel
theorem dX2_stepsIn_17 : decode cX2_stepsIn 17 = .ok (.isub, 1) := by decide +kernel
theorem dX2_stepsIn_18 : decode cX2_stepsIn 18 = .ok (.ireturn, 1) := by decide +kernel
theorem dX2_keepsLane_0 : decode cX2_keepsLane 0 = .ok (.aload_n 0, 1) := by decide +kernel
theorem dX2_keepsLane_1 : decode cX2_keepsLane 1 = .ok (.getfield 34, 3) := by decide +kernel
theorem dX2_keepsLane_4 : decode cX2_keepsLane 4 = .ok (.iconst 3, 1) := by decide +kernel
theorem dX2_keepsLane_5 : decode cX2_keepsLane 5 = .ok (.if_icmp .eq 15, 3) := by decide +kernel
theorem dX2_keepsLane_8 : decode cX2_keepsLane 8 = .ok (.aload_n 0, 1) := by decide +kernel
theorem dX2_keepsLane_9 : decode cX2_keepsLane 9 = .ok (.getfield 34, 3) := by decide +kernel
theorem dX2_keepsLane_12 : decode cX2_keepsLane 12 = .ok (.iconst 4, 1) := by decide +kernel
theorem dX2_keepsLane_13 : decode cX2_keepsLane 13 = .ok (.if_icmp .eq 7, 3) := by decide +kernel
theorem dX2_keepsLane_16 : decode cX2_keepsLane 16 = .ok (.iconst 1, 1) := by decide +kernel
theorem dX2_keepsLane_17 : decode cX2_keepsLane 17 = .ok (.goto 4, 3) := by decide +kernel
theorem dX2_keepsLane_20 : decode cX2_keepsLane 20 = .ok (.iconst 0, 1) := by decide +kernel
theorem dX2_keepsLane_21 : decode cX2_keepsLane 21 = .ok (.ireturn, 1) := by decide +kernel
theorem dX2_lastColumn_0 : decode cX2_lastColumn 0 = .ok (.bipush 40, 2) := by decide +kernel
theorem dX2_lastColumn_2 : decode cX2_lastColumn 2 = .ok (.aload_n 0, 1) := by decide +kernel
theorem dX2_lastColumn_3 : decode cX2_lastColumn 3 = .ok (.getfield 21, 3) := by decide +kernel
theorem dX2_lastColumn_6 : decode cX2_lastColumn 6 = .ok (.isub, 1) := by decide +kernel
theorem dX2_lastColumn_7 : decode cX2_lastColumn 7 = .ok (.ireturn, 1) := by decide +kernel
theorem dX2_cellsToLeave_0 : decode cX2_cellsToLeave 0 = .ok (.aload_n 0, 1) := by decide +kernel
theorem dX2_cellsToLeave_1 : decode cX2_cellsToLeave 1 = .ok (.getfield 34, 3) := by decide +kernel
theorem dX2_cellsToLeave_4 : decode cX2_cellsToLeave 4 = .ok (.tableswitch 53 1 3 #[28, 38, 46], 28) := by decide +kernel
theorem dX2_cellsToLeave_32 : decode cX2_cellsToLeave 32 = .ok (.aload_n 0, 1) := by decide +kernel
theorem dX2_cellsToLeave_33 : decode cX2_cellsToLeave 33 = .ok (.getfield 44, 3) := by decide +kernel
theorem dX2_cellsToLeave_36 : decode cX2_cellsToLeave 36 = .ok (.aload_n 0, 1) := by decide +kernel
theorem dX2_cellsToLeave_37 : decode cX2_cellsToLeave 37 = .ok (.getfield 21, 3) := by decide +kernel
theorem dX2_cellsToLeave_40 : decode cX2_cellsToLeave 40 = .ok (.iadd, 1) := by decide +kernel
theorem dX2_cellsToLeave_41 : decode cX2_cellsToLeave 41 = .ok (.ireturn, 1) := by decide +kernel
theorem dX2_cellsToLeave_42 : decode cX2_cellsToLeave 42 = .ok (.bipush 40, 2) := by decide +kernel
theorem dX2_cellsToLeave_44 : decode cX2_cellsToLeave 44 = .ok (.aload_n 0, 1) := by decide +kernel
theorem dX2_cellsToLeave_45 : decode cX2_cellsToLeave 45 = .ok (.getfield 44, 3) := by decide +kernel
theorem dX2_cellsToLeave_48 : decode cX2_cellsToLeave 48 = .ok (.isub, 1) := by decide +kernel
theorem dX2_cellsToLeave_49 : decode cX2_cellsToLeave 49 = .ok (.ireturn, 1) := by decide +kernel
theorem dX2_cellsToLeave_50 : decode cX2_cellsToLeave 50 = .ok (.aload_n 0, 1) := by decide +kernel
theorem dX2_cellsToLeave_51 : decode cX2_cellsToLeave 51 = .ok (.getfield 41, 3) := by decide +kernel
theorem dX2_cellsToLeave_54 : decode cX2_cellsToLeave 54 = .ok (.iconst 1, 1) := by decide +kernel
theorem dX2_cellsToLeave_55 : decode cX2_cellsToLeave 55 = .ok (.iadd, 1) := by decide +kernel
theorem dX2_cellsToLeave_56 : decode cX2_cellsToLeave 56 = .ok (.ireturn, 1) := by decide +kernel
theorem dX2_cellsToLeave_57 : decode cX2_cellsToLeave 57 = .ok (.bipush 8, 2) := by decide +kernel
theorem dX2_cellsToLeave_59 : decode cX2_cellsToLeave 59 = .ok (.aload_n 0, 1) := by decide +kernel
theorem dX2_cellsToLeave_60 : decode cX2_cellsToLeave 60 = .ok (.getfield 41, 3) := by decide +kernel
theorem dX2_cellsToLeave_63 : decode cX2_cellsToLeave 63 = .ok (.isub, 1) := by decide +kernel
theorem dX2_cellsToLeave_64 : decode cX2_cellsToLeave 64 = .ok (.ireturn, 1) := by decide +kernel
theorem dX3_init_0 : decode cX3_init 0 = .ok (.aload_n 0, 1) := by decide +kernel
theorem dX3_init_1 : decode cX3_init 1 = .ok (.invokespecial 1, 3) := by decide +kernel
theorem dX3_init_4 : decode cX3_init 4 = .ok (.aload_n 0, 1) := by decide +kernel
theorem dX3_init_5 : decode cX3_init 5 = .ok (.new 7, 3) := by decide +kernel
theorem dX3_init_8 : decode cX3_init 8 = .ok (.dup, 1) := by decide +kernel
theorem dX3_init_9 : decode cX3_init 9 = .ok (.invokespecial 9, 3) := by decide +kernel
theorem dX3_init_12 : decode cX3_init 12 = .ok (.putfield 10, 3) := by decide +kernel
theorem dX3_init_15 : decode cX3_init 15 = .ok (.aload_n 0, 1) := by decide +kernel
theorem dX3_init_16 : decode cX3_init 16 = .ok (.new 7, 3) := by decide +kernel
theorem dX3_init_19 : decode cX3_init 19 = .ok (.dup, 1) := by decide +kernel
theorem dX3_init_20 : decode cX3_init 20 = .ok (.invokespecial 9, 3) := by decide +kernel
theorem dX3_init_23 : decode cX3_init 23 = .ok (.putfield 16, 3) := by decide +kernel
theorem dX3_init_26 : decode cX3_init 26 = .ok (.aload_n 0, 1) := by decide +kernel
theorem dX3_init_27 : decode cX3_init 27 = .ok (.iconst 5, 1) := by decide +kernel
theorem dX3_init_28 : decode cX3_init 28 = .ok (.anewarray 7, 3) := by decide +kernel
theorem dX3_init_31 : decode cX3_init 31 = .ok (.putfield 19, 3) := by decide +kernel
theorem dX3_init_34 : decode cX3_init 34 = .ok (.iconst 0, 1) := by decide +kernel
theorem dX3_init_35 : decode cX3_init 35 = .ok (.istore_n 1, 1) := by decide +kernel
theorem dX3_init_36 : decode cX3_init 36 = .ok (.iload_n 1, 1) := by decide +kernel
theorem dX3_init_37 : decode cX3_init 37 = .ok (.iconst 5, 1) := by decide +kernel
theorem dX3_init_38 : decode cX3_init 38 = .ok (.if_icmp .ge 22, 3) := by decide +kernel
theorem dX3_init_41 : decode cX3_init 41 = .ok (.aload_n 0, 1) := by decide +kernel
theorem dX3_init_42 : decode cX3_init 42 = .ok (.getfield 19, 3) := by decide +kernel
theorem dX3_init_45 : decode cX3_init 45 = .ok (.iload_n 1, 1) := by decide +kernel
theorem dX3_init_46 : decode cX3_init 46 = .ok (.new 7, 3) := by decide +kernel
theorem dX3_init_49 : decode cX3_init 49 = .ok (.dup, 1) := by decide +kernel
theorem dX3_init_50 : decode cX3_init 50 = .ok (.invokespecial 9, 3) := by decide +kernel
theorem dX3_init_53 : decode cX3_init 53 = .ok (.aastore, 1) := by decide +kernel
theorem dX3_init_54 : decode cX3_init 54 = .ok (.iinc 1 1, 3) := by decide +kernel
theorem dX3_init_57 : decode cX3_init 57 = .ok (.goto (-21), 3) := by decide +kernel
theorem dX3_init_60 : decode cX3_init 60 = .ok (.aload_n 0, 1) := by decide +kernel
theorem dX3_init_61 : decode cX3_init 61 = .ok (.iconst 0, 1) := by decide +kernel
theorem dX3_init_62 : decode cX3_init 62 = .ok (.putfield 23, 3) := by decide +kernel
theorem dX3_init_65 : decode cX3_init 65 = .ok (.aload_n 0, 1) := by decide +kernel
theorem dX3_init_66 : decode cX3_init 66 = .ok (.new 27, 3) := by decide +kernel
theorem dX3_init_69 : decode cX3_init 69 = .ok (.dup, 1) := by decide +kernel
theorem dX3_init_70 : decode cX3_init 70 = .ok (.invokespecial 29, 3) := by decide +kernel
theorem dX3_init_73 : decode cX3_init 73 = .ok (.putfield 30, 3) := by decide +kernel
theorem dX3_init_76 : decode cX3_init 76 = .ok (.return_, 1) := by decide +kernel
theorem dX3_addWord_0 : decode cX3_addWord 0 = .ok (.iload_n 1, 1) := by decide +kernel
theorem dX3_addWord_1 : decode cX3_addWord 1 = .ok (.iconst 1, 1) := by decide +kernel
theorem dX3_addWord_2 : decode cX3_addWord 2 = .ok (.bipush 12, 2) := by decide +kernel
theorem dX3_addWord_4 : decode cX3_addWord 4 = .ok (.invokestatic 34, 3) := by decide +kernel
theorem dX3_addWord_7 : decode cX3_addWord 7 = .ok (.ifCond .eq 37, 3) := by decide +kernel
theorem dX3_addWord_10 : decode cX3_addWord 10 = .ok (.iconst 0, 1) := by decide +kernel
theorem dX3_addWord_11 : decode cX3_addWord 11 = .ok (.iload_n 2, 1) := by decide +kernel
theorem dX3_addWord_12 : decode cX3_addWord 12 = .ok (.invokestatic 38, 3) := by decide +kernel
theorem dX3_addWord_15 : decode cX3_addWord 15 = .ok (.ifCond .eq 29, 3) := by decide +kernel
theorem dX3_addWord_18 : decode cX3_addWord 18 = .ok (.iconst 1, 1) := by decide +kernel
theorem dX3_addWord_19 : decode cX3_addWord 19 = .ok (.iload_n 3, 1) := by decide +kernel
theorem dX3_addWord_20 : decode cX3_addWord 20 = .ok (.invokestatic 38, 3) := by decide +kernel
theorem dX3_addWord_23 : decode cX3_addWord 23 = .ok (.ifCond .eq 21, 3) := by decide +kernel
theorem dX3_addWord_26 : decode cX3_addWord 26 = .ok (.iconst 2, 1) := by decide +kernel
theorem dX3_addWord_27 : decode cX3_addWord 27 = .ok (.iload 4, 2) := by decide +kernel
theorem dX3_addWord_29 : decode cX3_addWord 29 = .ok (.invokestatic 38, 3) := by decide +kernel
theorem dX3_addWord_32 : decode cX3_addWord 32 = .ok (.ifCond .eq 12, 3) := by decide +kernel
theorem dX3_addWord_35 : decode cX3_addWord 35 = .ok (.iconst 3, 1) := by decide +kernel
theorem dX3_addWord_36 : decode cX3_addWord 36 = .ok (.iload 5, 2) := by decide +kernel
theorem dX3_addWord_38 : decode cX3_addWord 38 = .ok (.invokestatic 38, 3) := by decide +kernel
theorem dX3_addWord_41 : decode cX3_addWord 41 = .ok (.ifCond .ne 6, 3) := by decide +kernel
theorem dX3_addWord_44 : decode cX3_addWord 44 = .ok (.bipush (-11), 2) := by decide +kernel
theorem dX3_addWord_46 : decode cX3_addWord 46 = .ok (.ireturn, 1) := by decide +kernel
theorem dX3_addWord_47 : decode cX3_addWord 47 = .ok (.aload_n 0, 1) := by decide +kernel
theorem dX3_addWord_48 : decode cX3_addWord 48 = .ok (.getfield 10, 3) := by decide +kernel
theorem dX3_addWord_51 : decode cX3_addWord 51 = .ok (.invokevirtual 42, 3) := by decide +kernel
theorem dX3_addWord_54 : decode cX3_addWord 54 = .ok (.ifCond .ne 6, 3) := by decide +kernel
theorem dX3_addWord_57 : decode cX3_addWord 57 = .ok (.bipush (-13), 2) := by decide +kernel
theorem dX3_addWord_59 : decode cX3_addWord 59 = .ok (.ireturn, 1) := by decide +kernel
theorem dX3_addWord_60 : decode cX3_addWord 60 = .ok (.aload_n 0, 1) := by decide +kernel
theorem dX3_addWord_61 : decode cX3_addWord 61 = .ok (.invokevirtual 46, 3) := by decide +kernel
theorem dX3_addWord_64 : decode cX3_addWord 64 = .ok (.aload_n 0, 1) := by decide +kernel
theorem dX3_addWord_65 : decode cX3_addWord 65 = .ok (.getfield 10, 3) := by decide +kernel
theorem dX3_addWord_68 : decode cX3_addWord 68 = .ok (.iload_n 1, 1) := by decide +kernel
theorem dX3_addWord_69 : decode cX3_addWord 69 = .ok (.iload_n 2, 1) := by decide +kernel
theorem dX3_addWord_70 : decode cX3_addWord 70 = .ok (.iload_n 3, 1) := by decide +kernel
theorem dX3_addWord_71 : decode cX3_addWord 71 = .ok (.iload 4, 2) := by decide +kernel
theorem dX3_addWord_73 : decode cX3_addWord 73 = .ok (.iload 5, 2) := by decide +kernel
theorem dX3_addWord_75 : decode cX3_addWord 75 = .ok (.invokevirtual 49, 3) := by decide +kernel
theorem dX3_addWord_78 : decode cX3_addWord 78 = .ok (.pop, 1) := by decide +kernel
theorem dX3_addWord_79 : decode cX3_addWord 79 = .ok (.aload_n 0, 1) := by decide +kernel
theorem dX3_addWord_80 : decode cX3_addWord 80 = .ok (.getfield 10, 3) := by decide +kernel
theorem dX3_addWord_83 : decode cX3_addWord 83 = .ok (.getfield 53, 3) := by decide +kernel
theorem dX3_addWord_86 : decode cX3_addWord 86 = .ok (.iconst 1, 1) := by decide +kernel
theorem dX3_addWord_87 : decode cX3_addWord 87 = .ok (.isub, 1) := by decide +kernel
theorem dX3_addWord_88 : decode cX3_addWord 88 = .ok (.ireturn, 1) := by decide +kernel
theorem dX3_removeWord_0 : decode cX3_removeWord 0 = .ok (.aload_n 0, 1) := by decide +kernel
theorem dX3_removeWord_1 : decode cX3_removeWord 1 = .ok (.getfield 10, 3) := by decide +kernel
theorem dX3_removeWord_4 : decode cX3_removeWord 4 = .ok (.iload_n 1, 1) := by decide +kernel
theorem dX3_removeWord_5 : decode cX3_removeWord 5 = .ok (.invokevirtual 56, 3) := by decide +kernel
theorem dX3_removeWord_8 : decode cX3_removeWord 8 = .ok (.ifCond .ne 6, 3) := by decide +kernel
theorem dX3_removeWord_11 : decode cX3_removeWord 11 = .ok (.bipush (-11), 2) := by decide +kernel
theorem dX3_removeWord_13 : decode cX3_removeWord 13 = .ok (.ireturn, 1) := by decide +kernel
theorem dX3_removeWord_14 : decode cX3_removeWord 14 = .ok (.aload_n 0, 1) := by decide +kernel
theorem dX3_removeWord_15 : decode cX3_removeWord 15 = .ok (.invokevirtual 46, 3) := by decide +kernel
theorem dX3_removeWord_18 : decode cX3_removeWord 18 = .ok (.aload_n 0, 1) := by decide +kernel
theorem dX3_removeWord_19 : decode cX3_removeWord 19 = .ok (.getfield 10, 3) := by decide +kernel
theorem dX3_removeWord_22 : decode cX3_removeWord 22 = .ok (.iload_n 1, 1) := by decide +kernel
theorem dX3_removeWord_23 : decode cX3_removeWord 23 = .ok (.invokevirtual 60, 3) := by decide +kernel
theorem dX3_removeWord_26 : decode cX3_removeWord 26 = .ok (.aload_n 0, 1) := by decide +kernel
theorem dX3_removeWord_27 : decode cX3_removeWord 27 = .ok (.getfield 10, 3) := by decide +kernel
theorem dX3_removeWord_30 : decode cX3_removeWord 30 = .ok (.getfield 53, 3) := by decide +kernel
theorem dX3_removeWord_33 : decode cX3_removeWord 33 = .ok (.ireturn, 1) := by decide +kernel
theorem dX3_setWord_0 : decode cX3_setWord 0 = .ok (.aload_n 0, 1) := by decide +kernel
theorem dX3_setWord_1 : decode cX3_setWord 1 = .ok (.getfield 10, 3) := by decide +kernel
theorem dX3_setWord_4 : decode cX3_setWord 4 = .ok (.iload_n 1, 1) := by decide +kernel
theorem dX3_setWord_5 : decode cX3_setWord 5 = .ok (.invokevirtual 56, 3) := by decide +kernel
theorem dX3_setWord_8 : decode cX3_setWord 8 = .ok (.ifCond .eq 11, 3) := by decide +kernel
theorem dX3_setWord_11 : decode cX3_setWord 11 = .ok (.iload_n 2, 1) := by decide +kernel
theorem dX3_setWord_12 : decode cX3_setWord 12 = .ok (.iload_n 3, 1) := by decide +kernel
theorem dX3_setWord_13 : decode cX3_setWord 13 = .ok (.invokestatic 38, 3) := by decide +kernel
theorem dX3_setWord_16 : decode cX3_setWord 16 = .ok (.ifCond .ne 6, 3) := by decide +kernel
theorem dX3_setWord_19 : decode cX3_setWord 19 = .ok (.bipush (-11), 2) := by decide +kernel
theorem dX3_setWord_21 : decode cX3_setWord 21 = .ok (.ireturn, 1) := by decide +kernel
theorem dX3_setWord_22 : decode cX3_setWord 22 = .ok (.aload_n 0, 1) := by decide +kernel
theorem dX3_setWord_23 : decode cX3_setWord 23 = .ok (.invokevirtual 46, 3) := by decide +kernel
theorem dX3_setWord_26 : decode cX3_setWord 26 = .ok (.aload_n 0, 1) := by decide +kernel
theorem dX3_setWord_27 : decode cX3_setWord 27 = .ok (.getfield 10, 3) := by decide +kernel
theorem dX3_setWord_30 : decode cX3_setWord 30 = .ok (.getfield 64, 3) := by decide +kernel
theorem dX3_setWord_33 : decode cX3_setWord 33 = .ok (.iload_n 1, 1) := by decide +kernel
theorem dX3_setWord_34 : decode cX3_setWord 34 = .ok (.aaload, 1) := by decide +kernel
theorem dX3_setWord_35 : decode cX3_setWord 35 = .ok (.astore 4, 2) := by decide +kernel
theorem dX3_setWord_37 : decode cX3_setWord 37 = .ok (.aload 4, 2) := by decide +kernel
theorem dX3_setWord_39 : decode cX3_setWord 39 = .ok (.iload_n 2, 1) := by decide +kernel
theorem dX3_setWord_40 : decode cX3_setWord 40 = .ok (.invokevirtual 68, 3) := by decide +kernel
theorem dX3_setWord_43 : decode cX3_setWord 43 = .ok (.istore 5, 2) := by decide +kernel
theorem dX3_setWord_45 : decode cX3_setWord 45 = .ok (.aload 4, 2) := by decide +kernel
theorem dX3_setWord_47 : decode cX3_setWord 47 = .ok (.iload_n 2, 1) := by decide +kernel
theorem dX3_setWord_48 : decode cX3_setWord 48 = .ok (.iload_n 3, 1) := by decide +kernel
theorem dX3_setWord_49 : decode cX3_setWord 49 = .ok (.invokevirtual 74, 3) := by decide +kernel
theorem dX3_setWord_52 : decode cX3_setWord 52 = .ok (.aload 4, 2) := by decide +kernel
theorem dX3_setWord_54 : decode cX3_setWord 54 = .ok (.iconst 0, 1) := by decide +kernel
theorem dX3_setWord_55 : decode cX3_setWord 55 = .ok (.putfield 78, 3) := by decide +kernel
theorem dX3_setWord_58 : decode cX3_setWord 58 = .ok (.iload 5, 2) := by decide +kernel
theorem dX3_setWord_60 : decode cX3_setWord 60 = .ok (.ireturn, 1) := by decide +kernel
theorem dX3_addShot_0 : decode cX3_addShot 0 = .ok (.iload_n 1, 1) := by decide +kernel
theorem dX3_addShot_1 : decode cX3_addShot 1 = .ok (.iconst 1, 1) := by decide +kernel
theorem dX3_addShot_2 : decode cX3_addShot 2 = .ok (.sipush 3000, 3) := by decide +kernel
theorem dX3_addShot_5 : decode cX3_addShot 5 = .ok (.invokestatic 34, 3) := by decide +kernel
theorem dX3_addShot_8 : decode cX3_addShot 8 = .ok (.ifCond .ne 6, 3) := by decide +kernel
theorem dX3_addShot_11 : decode cX3_addShot 11 = .ok (.bipush (-11), 2) := by decide +kernel
theorem dX3_addShot_13 : decode cX3_addShot 13 = .ok (.ireturn, 1) := by decide +kernel
theorem dX3_addShot_14 : decode cX3_addShot 14 = .ok (.aload_n 0, 1) := by decide +kernel
theorem dX3_addShot_15 : decode cX3_addShot 15 = .ok (.getfield 10, 3) := by decide +kernel
theorem dX3_addShot_18 : decode cX3_addShot 18 = .ok (.iload_n 1, 1) := by decide +kernel
theorem dX3_addShot_19 : decode cX3_addShot 19 = .ok (.invokevirtual 82, 3) := by decide +kernel
theorem dX3_addShot_22 : decode cX3_addShot 22 = .ok (.ifCond .eq 6, 3) := by decide +kernel
theorem dX3_addShot_25 : decode cX3_addShot 25 = .ok (.bipush (-12), 2) := by decide +kernel
theorem dX3_addShot_27 : decode cX3_addShot 27 = .ok (.ireturn, 1) := by decide +kernel
theorem dX3_addShot_28 : decode cX3_addShot 28 = .ok (.aload_n 0, 1) := by decide +kernel
theorem dX3_addShot_29 : decode cX3_addShot 29 = .ok (.getfield 10, 3) := by decide +kernel
theorem dX3_addShot_32 : decode cX3_addShot 32 = .ok (.invokevirtual 85, 3) := by decide +kernel
theorem dX3_addShot_35 : decode cX3_addShot 35 = .ok (.ifCond .ne 6, 3) := by decide +kernel
theorem dX3_addShot_38 : decode cX3_addShot 38 = .ok (.bipush (-13), 2) := by decide +kernel
theorem dX3_addShot_40 : decode cX3_addShot 40 = .ok (.ireturn, 1) := by decide +kernel
theorem dX3_addShot_41 : decode cX3_addShot 41 = .ok (.aload_n 0, 1) := by decide +kernel
theorem dX3_addShot_42 : decode cX3_addShot 42 = .ok (.invokevirtual 46, 3) := by decide +kernel
theorem dX3_addShot_45 : decode cX3_addShot 45 = .ok (.aload_n 0, 1) := by decide +kernel
theorem dX3_addShot_46 : decode cX3_addShot 46 = .ok (.getfield 10, 3) := by decide +kernel
theorem dX3_addShot_49 : decode cX3_addShot 49 = .ok (.iload_n 1, 1) := by decide +kernel
theorem dX3_addShot_50 : decode cX3_addShot 50 = .ok (.invokevirtual 88, 3) := by decide +kernel
theorem dX3_addShot_53 : decode cX3_addShot 53 = .ok (.aload_n 0, 1) := by decide +kernel
theorem dX3_addShot_54 : decode cX3_addShot 54 = .ok (.getfield 10, 3) := by decide +kernel
theorem dX3_addShot_57 : decode cX3_addShot 57 = .ok (.getfield 91, 3) := by decide +kernel
theorem dX3_addShot_60 : decode cX3_addShot 60 = .ok (.ireturn, 1) := by decide +kernel
theorem dX3_removeShot_0 : decode cX3_removeShot 0 = .ok (.iload_n 1, 1) := by decide +kernel
theorem dX3_removeShot_1 : decode cX3_removeShot 1 = .ok (.iconst 1, 1) := by decide +kernel
theorem dX3_removeShot_2 : decode cX3_removeShot 2 = .ok (.sipush 3000, 3) := by decide +kernel
theorem dX3_removeShot_5 : decode cX3_removeShot 5 = .ok (.invokestatic 34, 3) := by decide +kernel
theorem dX3_removeShot_8 : decode cX3_removeShot 8 = .ok (.ifCond .ne 6, 3) := by decide +kernel
theorem dX3_removeShot_11 : decode cX3_removeShot 11 = .ok (.bipush (-11), 2) := by decide +kernel
theorem dX3_removeShot_13 : decode cX3_removeShot 13 = .ok (.ireturn, 1) := by decide +kernel
theorem dX3_removeShot_14 : decode cX3_removeShot 14 = .ok (.aload_n 0, 1) := by decide +kernel
theorem dX3_removeShot_15 : decode cX3_removeShot 15 = .ok (.getfield 10, 3) := by decide +kernel
theorem dX3_removeShot_18 : decode cX3_removeShot 18 = .ok (.iload_n 1, 1) := by decide +kernel
theorem dX3_removeShot_19 : decode cX3_removeShot 19 = .ok (.invokevirtual 82, 3) := by decide +kernel
theorem dX3_removeShot_22 : decode cX3_removeShot 22 = .ok (.ifCond .ne 6, 3) := by decide +kernel
theorem dX3_removeShot_25 : decode cX3_removeShot 25 = .ok (.bipush (-12), 2) := by decide +kernel
theorem dX3_removeShot_27 : decode cX3_removeShot 27 = .ok (.ireturn, 1) := by decide +kernel
theorem dX3_removeShot_28 : decode cX3_removeShot 28 = .ok (.aload_n 0, 1) := by decide +kernel
theorem dX3_removeShot_29 : decode cX3_removeShot 29 = .ok (.invokevirtual 46, 3) := by decide +kernel
theorem dX3_removeShot_32 : decode cX3_removeShot 32 = .ok (.aload_n 0, 1) := by decide +kernel
theorem dX3_removeShot_33 : decode cX3_removeShot 33 = .ok (.getfield 10, 3) := by decide +kernel
theorem dX3_removeShot_36 : decode cX3_removeShot 36 = .ok (.iload_n 1, 1) := by decide +kernel
theorem dX3_removeShot_37 : decode cX3_removeShot 37 = .ok (.invokevirtual 94, 3) := by decide +kernel
theorem dX3_removeShot_40 : decode cX3_removeShot 40 = .ok (.aload_n 0, 1) := by decide +kernel
theorem dX3_removeShot_41 : decode cX3_removeShot 41 = .ok (.getfield 10, 3) := by decide +kernel
theorem dX3_removeShot_44 : decode cX3_removeShot 44 = .ok (.getfield 91, 3) := by decide +kernel
theorem dX3_removeShot_47 : decode cX3_removeShot 47 = .ok (.ireturn, 1) := by decide +kernel
theorem dX3_setSpeed_0 : decode cX3_setSpeed 0 = .ok (.iload_n 1, 1) := by decide +kernel
theorem dX3_setSpeed_1 : decode cX3_setSpeed 1 = .ok (.bipush 50, 2) := by decide +kernel
theorem dX3_setSpeed_3 : decode cX3_setSpeed 3 = .ok (.sipush 400, 3) := by decide +kernel
theorem dX3_setSpeed_6 : decode cX3_setSpeed 6 = .ok (.invokestatic 34, 3) := by decide +kernel
theorem dX3_setSpeed_9 : decode cX3_setSpeed 9 = .ok (.ifCond .ne 6, 3) := by decide +kernel
theorem dX3_setSpeed_12 : decode cX3_setSpeed 12 = .ok (.bipush (-11), 2) := by decide +kernel
theorem dX3_setSpeed_14 : decode cX3_setSpeed 14 = .ok (.ireturn, 1) := by decide +kernel
theorem dX3_setSpeed_15 : decode cX3_setSpeed 15 = .ok (.aload_n 0, 1) := by decide +kernel
theorem dX3_setSpeed_16 : decode cX3_setSpeed 16 = .ok (.invokevirtual 46, 3) := by decide +kernel
theorem dX3_setSpeed_19 : decode cX3_setSpeed 19 = .ok (.aload_n 0, 1) := by decide +kernel
theorem dX3_setSpeed_20 : decode cX3_setSpeed 20 = .ok (.getfield 10, 3) := by decide +kernel
theorem dX3_setSpeed_23 : decode cX3_setSpeed 23 = .ok (.getfield 97, 3) := by decide +kernel
theorem dX3_setSpeed_26 : decode cX3_setSpeed 26 = .ok (.istore_n 2, 1) := by decide +kernel
theorem dX3_setSpeed_27 : decode cX3_setSpeed 27 = .ok (.aload_n 0, 1) := by decide +kernel
theorem dX3_setSpeed_28 : decode cX3_setSpeed 28 = .ok (.getfield 10, 3) := by decide +kernel
theorem dX3_setSpeed_31 : decode cX3_setSpeed 31 = .ok (.iload_n 1, 1) := by decide +kernel
theorem dX3_setSpeed_32 : decode cX3_setSpeed 32 = .ok (.putfield 97, 3) := by decide +kernel
theorem dX3_setSpeed_35 : decode cX3_setSpeed 35 = .ok (.iload_n 2, 1) := by decide +kernel
theorem dX3_setSpeed_36 : decode cX3_setSpeed 36 = .ok (.ireturn, 1) := by decide +kernel
theorem dX3_append_0 : decode cX3_append 0 = .ok (.iload_n 1, 1) := by decide +kernel
theorem dX3_append_1 : decode cX3_append 1 = .ok (.iconst 1, 1) := by decide +kernel
theorem dX3_append_2 : decode cX3_append 2 = .ok (.sipush 255, 3) := by decide +kernel
theorem dX3_append_5 : decode cX3_append 5 = .ok (.invokestatic 34, 3) := by decide +kernel
theorem dX3_append_8 : decode cX3_append 8 = .ok (.ifCond .ne 6, 3) := by decide +kernel
theorem dX3_append_11 : decode cX3_append 11 = .ok (.bipush (-11), 2) := by decide +kernel
theorem dX3_append_13 : decode cX3_append 13 = .ok (.ireturn, 1) := by decide +kernel
theorem dX3_append_14 : decode cX3_append 14 = .ok (.aload_n 0, 1) := by decide +kernel
theorem dX3_append_15 : decode cX3_append 15 = .ok (.getfield 30, 3) := by decide +kernel
theorem dX3_append_18 : decode cX3_append 18 = .ok (.getfield 100, 3) := by decide +kernel
theorem dX3_append_21 : decode cX3_append 21 = .ok (.sipush 160, 3) := by decide +kernel
theorem dX3_append_24 : decode cX3_append 24 = .ok (.if_icmp .lt 6, 3) := by decide +kernel
theorem dX3_append_27 : decode cX3_append 27 = .ok (.bipush (-13), 2) := by decide +kernel
theorem dX3_append_29 : decode cX3_append 29 = .ok (.ireturn, 1) := by decide +kernel
theorem dX3_append_30 : decode cX3_append 30 = .ok (.aload_n 0, 1) := by decide +kernel
theorem dX3_append_31 : decode cX3_append 31 = .ok (.getfield 30, 3) := by decide +kernel
theorem dX3_append_34 : decode cX3_append 34 = .ok (.getfield 103, 3) := by decide +kernel
theorem dX3_append_37 : decode cX3_append 37 = .ok (.aload_n 0, 1) := by decide +kernel
theorem dX3_append_38 : decode cX3_append 38 = .ok (.getfield 30, 3) := by decide +kernel
theorem dX3_append_41 : decode cX3_append 41 = .ok (.getfield 100, 3) := by decide +kernel
theorem dX3_append_44 : decode cX3_append 44 = .ok (.iload_n 1, 1) := by decide +kernel
theorem dX3_append_45 : decode cX3_append 45 = .ok (.iastore, 1) := by decide +kernel
theorem dX3_append_46 : decode cX3_append 46 = .ok (.aload_n 0, 1) := by decide +kernel
theorem dX3_append_47 : decode cX3_append 47 = .ok (.getfield 30, 3) := by decide +kernel
theorem dX3_append_50 : decode cX3_append 50 = .ok (.dup, 1) := by decide +kernel
theorem dX3_append_51 : decode cX3_append 51 = .ok (.getfield 100, 3) := by decide +kernel
theorem dX3_append_54 : decode cX3_append 54 = .ok (.iconst 1, 1) := by decide +kernel
theorem dX3_append_55 : decode cX3_append 55 = .ok (.iadd, 1) := by decide +kernel
theorem dX3_append_56 : decode cX3_append 56 = .ok (.putfield 100, 3) := by decide +kernel
theorem dX3_append_59 : decode cX3_append 59 = .ok (.aload_n 0, 1) := by decide +kernel
theorem dX3_append_60 : decode cX3_append 60 = .ok (.getfield 30, 3) := by decide +kernel
theorem dX3_append_63 : decode cX3_append 63 = .ok (.getfield 100, 3) := by decide +kernel
theorem dX3_append_66 : decode cX3_append 66 = .ok (.ireturn, 1) := by decide +kernel
theorem dX3_load_0 : decode cX3_load 0 = .ok (.aload_n 0, 1) := by decide +kernel
theorem dX3_load_1 : decode cX3_load 1 = .ok (.getfield 16, 3) := by decide +kernel
theorem dX3_load_4 : decode cX3_load 4 = .ok (.aload_n 0, 1) := by decide +kernel
theorem dX3_load_5 : decode cX3_load 5 = .ok (.getfield 10, 3) := by decide +kernel
theorem dX3_load_8 : decode cX3_load 8 = .ok (.invokevirtual 107, 3) := by decide +kernel
theorem dX3_load_11 : decode cX3_load 11 = .ok (.aload_n 0, 1) := by decide +kernel
theorem dX3_load_12 : decode cX3_load 12 = .ok (.getfield 30, 3) := by decide +kernel
theorem dX3_load_15 : decode cX3_load 15 = .ok (.aload_n 0, 1) := by decide +kernel
theorem dX3_load_16 : decode cX3_load 16 = .ok (.getfield 16, 3) := by decide +kernel
theorem dX3_load_19 : decode cX3_load 19 = .ok (.invokevirtual 111, 3) := by decide +kernel
theorem dX3_load_22 : decode cX3_load 22 = .ok (.istore_n 1, 1) := by decide +kernel
theorem dX3_load_23 : decode cX3_load 23 = .ok (.iload_n 1, 1) := by decide +kernel
theorem dX3_load_24 : decode cX3_load 24 = .ok (.ifCond .ge 5, 3) := by decide +kernel
theorem dX3_load_27 : decode cX3_load 27 = .ok (.iload_n 1, 1) := by decide +kernel
theorem dX3_load_28 : decode cX3_load 28 = .ok (.ireturn, 1) := by decide +kernel
theorem dX3_load_29 : decode cX3_load 29 = .ok (.aload_n 0, 1) := by decide +kernel
theorem dX3_load_30 : decode cX3_load 30 = .ok (.invokevirtual 46, 3) := by decide +kernel
theorem dX3_load_33 : decode cX3_load 33 = .ok (.aload_n 0, 1) := by decide +kernel
theorem dX3_load_34 : decode cX3_load 34 = .ok (.getfield 10, 3) := by decide +kernel
theorem dX3_load_37 : decode cX3_load 37 = .ok (.aload_n 0, 1) := by decide +kernel
theorem dX3_load_38 : decode cX3_load 38 = .ok (.getfield 16, 3) := by decide +kernel
theorem dX3_load_41 : decode cX3_load 41 = .ok (.invokevirtual 107, 3) := by decide +kernel
theorem dX3_load_44 : decode cX3_load 44 = .ok (.aload_n 0, 1) := by decide +kernel
theorem dX3_load_45 : decode cX3_load 45 = .ok (.getfield 30, 3) := by decide +kernel
theorem dX3_load_48 : decode cX3_load 48 = .ok (.iconst 0, 1) := by decide +kernel
theorem dX3_load_49 : decode cX3_load 49 = .ok (.putfield 100, 3) := by decide +kernel
theorem dX3_load_52 : decode cX3_load 52 = .ok (.iload_n 1, 1) := by decide +kernel
theorem dX3_load_53 : decode cX3_load 53 = .ok (.ireturn, 1) := by decide +kernel
theorem dX3_put_0 : decode cX3_put 0 = .ok (.aload_n 0, 1) := by decide +kernel
theorem dX3_put_1 : decode cX3_put 1 = .ok (.iload_n 1, 1) := by decide +kernel
theorem dX3_put_2 : decode cX3_put 2 = .ok (.iload_n 2, 1) := by decide +kernel
theorem dX3_put_3 : decode cX3_put 3 = .ok (.iload_n 3, 1) := by decide +kernel
theorem dX3_put_4 : decode cX3_put 4 = .ok (.invokevirtual 115, 3) := by decide +kernel
theorem dX3_put_7 : decode cX3_put 7 = .ok (.ifCond .ne 6, 3) := by decide +kernel
theorem dX3_put_10 : decode cX3_put 10 = .ok (.bipush (-11), 2) := by decide +kernel
theorem dX3_put_12 : decode cX3_put 12 = .ok (.ireturn, 1) := by decide +kernel
theorem dX3_put_13 : decode cX3_put 13 = .ok (.aload_n 0, 1) := by decide +kernel
theorem dX3_put_14 : decode cX3_put 14 = .ok (.getfield 10, 3) := by decide +kernel
theorem dX3_put_17 : decode cX3_put 17 = .ok (.getfield 64, 3) := by decide +kernel
theorem dX3_put_20 : decode cX3_put 20 = .ok (.iload_n 1, 1) := by decide +kernel
theorem dX3_put_21 : decode cX3_put 21 = .ok (.aaload, 1) := by decide +kernel
theorem dX3_put_22 : decode cX3_put 22 = .ok (.astore 4, 2) := by decide +kernel
theorem dX3_put_24 : decode cX3_put 24 = .ok (.aload_n 0, 1) := by decide +kernel
theorem dX3_put_25 : decode cX3_put 25 = .ok (.getfield 10, 3) := by decide +kernel
theorem dX3_put_28 : decode cX3_put 28 = .ok (.iload_n 1, 1) := by decide +kernel
theorem dX3_put_29 : decode cX3_put 29 = .ok (.aload 4, 2) := by decide +kernel
theorem dX3_put_31 : decode cX3_put 31 = .ok (.getfield 118, 3) := by decide +kernel
theorem dX3_put_34 : decode cX3_put 34 = .ok (.iload_n 2, 1) := by decide +kernel
theorem dX3_put_35 : decode cX3_put 35 = .ok (.iload_n 3, 1) := by decide +kernel
theorem dX3_put_36 : decode cX3_put 36 = .ok (.invokevirtual 121, 3) := by decide +kernel
theorem dX3_put_39 : decode cX3_put 39 = .ok (.ifCond .ne 6, 3) := by decide +kernel
theorem dX3_put_42 : decode cX3_put 42 = .ok (.bipush (-12), 2) := by decide +kernel
theorem dX3_put_44 : decode cX3_put 44 = .ok (.ireturn, 1) := by decide +kernel
theorem dX3_put_45 : decode cX3_put 45 = .ok (.aload_n 0, 1) := by decide +kernel
theorem dX3_put_46 : decode cX3_put 46 = .ok (.invokevirtual 46, 3) := by decide +kernel
theorem dX3_put_49 : decode cX3_put 49 = .ok (.aload 4, 2) := by decide +kernel
theorem dX3_put_51 : decode cX3_put 51 = .ok (.iload_n 2, 1) := by decide +kernel
theorem dX3_put_52 : decode cX3_put 52 = .ok (.iload_n 3, 1) := by decide +kernel
theorem dX3_put_53 : decode cX3_put 53 = .ok (.invokevirtual 125, 3) := by decide +kernel
theorem dX3_put_56 : decode cX3_put 56 = .ok (.aload_n 0, 1) := by decide +kernel
theorem dX3_put_57 : decode cX3_put 57 = .ok (.getfield 10, 3) := by decide +kernel
theorem dX3_put_60 : decode cX3_put 60 = .ok (.invokevirtual 128, 3) := by decide +kernel
theorem dX3_put_63 : decode cX3_put 63 = .ok (.ireturn, 1) := by decide +kernel
theorem dX3_take_0 : decode cX3_take 0 = .ok (.aload_n 0, 1) := by decide +kernel
theorem dX3_take_1 : decode cX3_take 1 = .ok (.getfield 10, 3) := by decide +kernel
theorem dX3_take_4 : decode cX3_take 4 = .ok (.iload_n 1, 1) := by decide +kernel
theorem dX3_take_5 : decode cX3_take 5 = .ok (.invokevirtual 56, 3) := by decide +kernel
theorem dX3_take_8 : decode cX3_take 8 = .ok (.ifCond .ne 6, 3) := by decide +kernel
theorem dX3_take_11 : decode cX3_take 11 = .ok (.bipush (-11), 2) := by decide +kernel
theorem dX3_take_13 : decode cX3_take 13 = .ok (.ireturn, 1) := by decide +kernel
theorem dX3_take_14 : decode cX3_take 14 = .ok (.aload_n 0, 1) := by decide +kernel
theorem dX3_take_15 : decode cX3_take 15 = .ok (.getfield 10, 3) := by decide +kernel
theorem dX3_take_18 : decode cX3_take 18 = .ok (.getfield 64, 3) := by decide +kernel
theorem dX3_take_21 : decode cX3_take 21 = .ok (.iload_n 1, 1) := by decide +kernel
theorem dX3_take_22 : decode cX3_take 22 = .ok (.aaload, 1) := by decide +kernel
theorem dX3_take_23 : decode cX3_take 23 = .ok (.getfield 78, 3) := by decide +kernel
theorem dX3_take_26 : decode cX3_take 26 = .ok (.ifCond .ne 6, 3) := by decide +kernel
theorem dX3_take_29 : decode cX3_take 29 = .ok (.bipush (-12), 2) := by decide +kernel
theorem dX3_take_31 : decode cX3_take 31 = .ok (.ireturn, 1) := by decide +kernel
theorem dX3_take_32 : decode cX3_take 32 = .ok (.aload_n 0, 1) := by decide +kernel
theorem dX3_take_33 : decode cX3_take 33 = .ok (.invokevirtual 46, 3) := by decide +kernel
theorem dX3_take_36 : decode cX3_take 36 = .ok (.aload_n 0, 1) := by decide +kernel
theorem dX3_take_37 : decode cX3_take 37 = .ok (.getfield 10, 3) := by decide +kernel
theorem dX3_take_40 : decode cX3_take 40 = .ok (.getfield 64, 3) := by decide +kernel
theorem dX3_take_43 : decode cX3_take 43 = .ok (.iload_n 1, 1) := by decide +kernel
theorem dX3_take_44 : decode cX3_take 44 = .ok (.aaload, 1) := by decide +kernel
theorem dX3_take_45 : decode cX3_take 45 = .ok (.iconst 0, 1) := by decide +kernel
theorem dX3_take_46 : decode cX3_take 46 = .ok (.putfield 78, 3) := by decide +kernel
theorem dX3_take_49 : decode cX3_take 49 = .ok (.aload_n 0, 1) := by decide +kernel
theorem dX3_take_50 : decode cX3_take 50 = .ok (.getfield 10, 3) := by decide +kernel
theorem dX3_take_53 : decode cX3_take 53 = .ok (.invokevirtual 128, 3) := by decide +kernel
theorem dX3_take_56 : decode cX3_take 56 = .ok (.ireturn, 1) := by decide +kernel
theorem dX3_putAll_0 : decode cX3_putAll 0 = .ok (.aload_n 0, 1) := by decide +kernel
theorem dX3_putAll_1 : decode cX3_putAll 1 = .ok (.invokevirtual 46, 3) := by decide +kernel
theorem dX3_putAll_4 : decode cX3_putAll 4 = .ok (.aload_n 0, 1) := by decide +kernel
theorem dX3_putAll_5 : decode cX3_putAll 5 = .ok (.getfield 10, 3) := by decide +kernel
theorem dX3_putAll_8 : decode cX3_putAll 8 = .ok (.invokevirtual 132, 3) := by decide +kernel
theorem dX3_putAll_11 : decode cX3_putAll 11 = .ok (.aload_n 0, 1) := by decide +kernel
theorem dX3_putAll_12 : decode cX3_putAll 12 = .ok (.getfield 10, 3) := by decide +kernel
theorem dX3_putAll_15 : decode cX3_putAll 15 = .ok (.invokevirtual 135, 3) := by decide +kernel
theorem dX3_putAll_18 : decode cX3_putAll 18 = .ok (.iconst 0, 1) := by decide +kernel
theorem dX3_putAll_19 : decode cX3_putAll 19 = .ok (.istore_n 1, 1) := by decide +kernel
theorem dX3_putAll_20 : decode cX3_putAll 20 = .ok (.iload_n 1, 1) := by decide +kernel
theorem dX3_putAll_21 : decode cX3_putAll 21 = .ok (.aload_n 0, 1) := by decide +kernel
theorem dX3_putAll_22 : decode cX3_putAll 22 = .ok (.getfield 10, 3) := by decide +kernel
theorem dX3_putAll_25 : decode cX3_putAll 25 = .ok (.getfield 53, 3) := by decide +kernel
theorem dX3_putAll_28 : decode cX3_putAll 28 = .ok (.if_icmp .ge 25, 3) := by decide +kernel
theorem dX3_putAll_31 : decode cX3_putAll 31 = .ok (.aload_n 0, 1) := by decide +kernel
theorem dX3_putAll_32 : decode cX3_putAll 32 = .ok (.getfield 10, 3) := by decide +kernel
theorem dX3_putAll_35 : decode cX3_putAll 35 = .ok (.aload_n 0, 1) := by decide +kernel
theorem dX3_putAll_36 : decode cX3_putAll 36 = .ok (.getfield 10, 3) := by decide +kernel
theorem dX3_putAll_39 : decode cX3_putAll 39 = .ok (.getfield 138, 3) := by decide +kernel
theorem dX3_putAll_42 : decode cX3_putAll 42 = .ok (.iload_n 1, 1) := by decide +kernel
theorem dX3_putAll_43 : decode cX3_putAll 43 = .ok (.iaload, 1) := by decide +kernel
theorem dX3_putAll_44 : decode cX3_putAll 44 = .ok (.invokevirtual 141, 3) := by decide +kernel
theorem dX3_putAll_47 : decode cX3_putAll 47 = .ok (.iinc 1 1, 3) := by decide +kernel
theorem dX3_putAll_50 : decode cX3_putAll 50 = .ok (.goto (-30), 3) := by decide +kernel
theorem dX3_putAll_53 : decode cX3_putAll 53 = .ok (.aload_n 0, 1) := by decide +kernel
theorem dX3_putAll_54 : decode cX3_putAll 54 = .ok (.getfield 10, 3) := by decide +kernel
theorem dX3_putAll_57 : decode cX3_putAll 57 = .ok (.invokevirtual 128, 3) := by decide +kernel
theorem dX3_putAll_60 : decode cX3_putAll 60 = .ok (.ireturn, 1) := by decide +kernel
theorem dX3_undo_0 : decode cX3_undo 0 = .ok (.aload_n 0, 1) := by decide +kernel
theorem dX3_undo_1 : decode cX3_undo 1 = .ok (.getfield 23, 3) := by decide +kernel
theorem dX3_undo_4 : decode cX3_undo 4 = .ok (.iconst 1, 1) := by decide +kernel
theorem dX3_undo_5 : decode cX3_undo 5 = .ok (.if_icmp .ge 6, 3) := by decide +kernel
theorem dX3_undo_8 : decode cX3_undo 8 = .ok (.bipush (-12), 2) := by decide +kernel
theorem dX3_undo_10 : decode cX3_undo 10 = .ok (.ireturn, 1) := by decide +kernel
theorem dX3_undo_11 : decode cX3_undo 11 = .ok (.aload_n 0, 1) := by decide +kernel
theorem dX3_undo_12 : decode cX3_undo 12 = .ok (.dup, 1) := by decide +kernel
theorem dX3_undo_13 : decode cX3_undo 13 = .ok (.getfield 23, 3) := by decide +kernel
theorem dX3_undo_16 : decode cX3_undo 16 = .ok (.iconst 1, 1) := by decide +kernel
theorem dX3_undo_17 : decode cX3_undo 17 = .ok (.isub, 1) := by decide +kernel
theorem dX3_undo_18 : decode cX3_undo 18 = .ok (.putfield 23, 3) := by decide +kernel
theorem dX3_undo_21 : decode cX3_undo 21 = .ok (.aload_n 0, 1) := by decide +kernel
theorem dX3_undo_22 : decode cX3_undo 22 = .ok (.getfield 10, 3) := by decide +kernel
theorem dX3_undo_25 : decode cX3_undo 25 = .ok (.aload_n 0, 1) := by decide +kernel
theorem dX3_undo_26 : decode cX3_undo 26 = .ok (.getfield 19, 3) := by decide +kernel
theorem dX3_undo_29 : decode cX3_undo 29 = .ok (.aload_n 0, 1) := by decide +kernel
theorem dX3_undo_30 : decode cX3_undo 30 = .ok (.getfield 23, 3) := by decide +kernel
theorem dX3_undo_33 : decode cX3_undo 33 = .ok (.aaload, 1) := by decide +kernel
theorem dX3_undo_34 : decode cX3_undo 34 = .ok (.invokevirtual 107, 3) := by decide +kernel
theorem dX3_undo_37 : decode cX3_undo 37 = .ok (.aload_n 0, 1) := by decide +kernel
theorem dX3_undo_38 : decode cX3_undo 38 = .ok (.getfield 23, 3) := by decide +kernel
theorem dX3_undo_41 : decode cX3_undo 41 = .ok (.ireturn, 1) := by decide +kernel
theorem dX3_count_0 : decode cX3_count 0 = .ok (.iload_n 1, 1) := by decide +kernel
theorem dX3_count_1 : decode cX3_count 1 = .ok (.tableswitch 96 0 6 #[43, 51, 59, 67, 75, 83, 88], 43) := by decide +kernel
theorem dX3_count_44 : decode cX3_count 44 = .ok (.aload_n 0, 1) := by decide +kernel
theorem dX3_count_45 : decode cX3_count 45 = .ok (.getfield 10, 3) := by decide +kernel
theorem dX3_count_48 : decode cX3_count 48 = .ok (.getfield 53, 3) := by decide +kernel
theorem dX3_count_51 : decode cX3_count 51 = .ok (.ireturn, 1) := by decide +kernel
theorem dX3_count_52 : decode cX3_count 52 = .ok (.aload_n 0, 1) := by decide +kernel
theorem dX3_count_53 : decode cX3_count 53 = .ok (.getfield 10, 3) := by decide +kernel
theorem dX3_count_56 : decode cX3_count 56 = .ok (.invokevirtual 128, 3) := by decide +kernel
theorem dX3_count_59 : decode cX3_count 59 = .ok (.ireturn, 1) := by decide +kernel
theorem dX3_count_60 : decode cX3_count 60 = .ok (.aload_n 0, 1) := by decide +kernel
theorem dX3_count_61 : decode cX3_count 61 = .ok (.getfield 10, 3) := by decide +kernel
theorem dX3_count_64 : decode cX3_count 64 = .ok (.getfield 91, 3) := by decide +kernel
theorem dX3_count_67 : decode cX3_count 67 = .ok (.ireturn, 1) := by decide +kernel
theorem dX3_count_68 : decode cX3_count 68 = .ok (.aload_n 0, 1) := by decide +kernel
theorem dX3_count_69 : decode cX3_count 69 = .ok (.getfield 10, 3) := by decide +kernel
theorem dX3_count_72 : decode cX3_count 72 = .ok (.getfield 97, 3) := by decide +kernel
theorem dX3_count_75 : decode cX3_count 75 = .ok (.ireturn, 1) := by decide +kernel
theorem dX3_count_76 : decode cX3_count 76 = .ok (.aload_n 0, 1) := by decide +kernel
theorem dX3_count_77 : decode cX3_count 77 = .ok (.getfield 10, 3) := by decide +kernel
theorem dX3_count_80 : decode cX3_count 80 = .ok (.invokevirtual 144, 3) := by decide +kernel
theorem dX3_count_83 : decode cX3_count 83 = .ok (.ireturn, 1) := by decide +kernel
theorem dX3_count_84 : decode cX3_count 84 = .ok (.aload_n 0, 1) := by decide +kernel
theorem dX3_count_85 : decode cX3_count 85 = .ok (.getfield 23, 3) := by decide +kernel
theorem dX3_count_88 : decode cX3_count 88 = .ok (.ireturn, 1) := by decide +kernel
theorem dX3_count_89 : decode cX3_count 89 = .ok (.aload_n 0, 1) := by decide +kernel
theorem dX3_count_90 : decode cX3_count 90 = .ok (.getfield 30, 3) := by decide +kernel
theorem dX3_count_93 : decode cX3_count 93 = .ok (.getfield 100, 3) := by decide +kernel
theorem dX3_count_96 : decode cX3_count 96 = .ok (.ireturn, 1) := by decide +kernel
theorem dX3_count_97 : decode cX3_count 97 = .ok (.bipush (-11), 2) := by decide +kernel
theorem dX3_count_99 : decode cX3_count 99 = .ok (.ireturn, 1) := by decide +kernel
theorem dX3_word_0 : decode cX3_word 0 = .ok (.aload_n 0, 1) := by decide +kernel
theorem dX3_word_1 : decode cX3_word 1 = .ok (.getfield 10, 3) := by decide +kernel
theorem dX3_word_4 : decode cX3_word 4 = .ok (.iload_n 1, 1) := by decide +kernel
theorem dX3_word_5 : decode cX3_word 5 = .ok (.invokevirtual 56, 3) := by decide +kernel
theorem dX3_word_8 : decode cX3_word 8 = .ok (.ifCond .eq 13, 3) := by decide +kernel
theorem dX3_word_11 : decode cX3_word 11 = .ok (.iload_n 2, 1) := by decide +kernel
theorem dX3_word_12 : decode cX3_word 12 = .ok (.iconst 0, 1) := by decide +kernel
theorem dX3_word_13 : decode cX3_word 13 = .ok (.bipush 7, 2) := by decide +kernel
theorem dX3_word_15 : decode cX3_word 15 = .ok (.invokestatic 34, 3) := by decide +kernel
theorem dX3_word_18 : decode cX3_word 18 = .ok (.ifCond .ne 6, 3) := by decide +kernel
theorem dX3_word_21 : decode cX3_word 21 = .ok (.bipush (-11), 2) := by decide +kernel
theorem dX3_word_23 : decode cX3_word 23 = .ok (.ireturn, 1) := by decide +kernel
theorem dX3_word_24 : decode cX3_word 24 = .ok (.aload_n 0, 1) := by decide +kernel
theorem dX3_word_25 : decode cX3_word 25 = .ok (.getfield 10, 3) := by decide +kernel
theorem dX3_word_28 : decode cX3_word 28 = .ok (.getfield 64, 3) := by decide +kernel
theorem dX3_word_31 : decode cX3_word 31 = .ok (.iload_n 1, 1) := by decide +kernel
theorem dX3_word_32 : decode cX3_word 32 = .ok (.aaload, 1) := by decide +kernel
theorem dX3_word_33 : decode cX3_word 33 = .ok (.astore_n 3, 1) := by decide +kernel
theorem dX3_word_34 : decode cX3_word 34 = .ok (.iload_n 2, 1) := by decide +kernel
theorem dX3_word_35 : decode cX3_word 35 = .ok (.bipush 7, 2) := by decide +kernel
theorem dX3_word_37 : decode cX3_word 37 = .ok (.if_icmp .ne 8, 3) := by decide +kernel
theorem dX3_word_40 : decode cX3_word 40 = .ok (.aload_n 3, 1) := by decide +kernel
theorem dX3_word_41 : decode cX3_word 41 = .ok (.getfield 147, 3) := by decide +kernel
theorem dX3_word_44 : decode cX3_word 44 = .ok (.ireturn, 1) := by decide +kernel
theorem dX3_word_45 : decode cX3_word 45 = .ok (.iload_n 2, 1) := by decide +kernel
theorem dX3_word_46 : decode cX3_word 46 = .ok (.iconst 3, 1) := by decide +kernel
theorem dX3_word_47 : decode cX3_word 47 = .ok (.if_icmp .gt 9, 3) := by decide +kernel
theorem dX3_word_50 : decode cX3_word 50 = .ok (.aload_n 3, 1) := by decide +kernel
theorem dX3_word_51 : decode cX3_word 51 = .ok (.iload_n 2, 1) := by decide +kernel
theorem dX3_word_52 : decode cX3_word 52 = .ok (.invokevirtual 68, 3) := by decide +kernel
theorem dX3_word_55 : decode cX3_word 55 = .ok (.ireturn, 1) := by decide +kernel
theorem dX3_word_56 : decode cX3_word 56 = .ok (.aload_n 3, 1) := by decide +kernel
theorem dX3_word_57 : decode cX3_word 57 = .ok (.getfield 78, 3) := by decide +kernel
theorem dX3_word_60 : decode cX3_word 60 = .ok (.ifCond .ne 6, 3) := by decide +kernel
theorem dX3_word_63 : decode cX3_word 63 = .ok (.bipush (-19), 2) := by decide +kernel
theorem dX3_word_65 : decode cX3_word 65 = .ok (.ireturn, 1) := by decide +kernel
theorem dX3_word_66 : decode cX3_word 66 = .ok (.iload_n 2, 1) := by decide +kernel
theorem dX3_word_67 : decode cX3_word 67 = .ok (.lookupswitch 35 #[(4, 25), (5, 30)], 25) := by decide +kernel
theorem dX3_word_92 : decode cX3_word 92 = .ok (.aload_n 3, 1) := by decide +kernel
theorem dX3_word_93 : decode cX3_word 93 = .ok (.getfield 148, 3) := by decide +kernel
theorem dX3_word_96 : decode cX3_word 96 = .ok (.ireturn, 1) := by decide +kernel
theorem dX3_word_97 : decode cX3_word 97 = .ok (.aload_n 3, 1) := by decide +kernel
theorem dX3_word_98 : decode cX3_word 98 = .ok (.getfield 151, 3) := by decide +kernel
theorem dX3_word_101 : decode cX3_word 101 = .ok (.ireturn, 1) := by decide +kernel
theorem dX3_word_102 : decode cX3_word 102 = .ok (.aload_n 0, 1) := by decide +kernel
theorem dX3_word_103 : decode cX3_word 103 = .ok (.getfield 10, 3) := by decide +kernel
theorem dX3_word_106 : decode cX3_word 106 = .ok (.aload_n 3, 1) := by decide +kernel
theorem dX3_word_107 : decode cX3_word 107 = .ok (.invokevirtual 154, 3) := by decide +kernel
theorem dX3_word_110 : decode cX3_word 110 = .ok (.iconst 1, 1) := by decide +kernel
theorem dX3_word_111 : decode cX3_word 111 = .ok (.isub, 1) := by decide +kernel
theorem dX3_word_112 : decode cX3_word 112 = .ok (.ireturn, 1) := by decide +kernel
theorem dX3_letter_0 : decode cX3_letter 0 = .ok (.aload_n 0, 1) := by decide +kernel
theorem dX3_letter_1 : decode cX3_letter 1 = .ok (.getfield 10, 3) := by decide +kernel
theorem dX3_letter_4 : decode cX3_letter 4 = .ok (.iload_n 1, 1) := by decide +kernel
theorem dX3_letter_5 : decode cX3_letter 5 = .ok (.invokevirtual 56, 3) := by decide +kernel
theorem dX3_letter_8 : decode cX3_letter 8 = .ok (.ifCond .eq 7, 3) := by decide +kernel
theorem dX3_letter_11 : decode cX3_letter 11 = .ok (.iload_n 2, 1) := by decide +kernel
theorem dX3_letter_12 : decode cX3_letter 12 = .ok (.ifCond .ge 6, 3) := by decide +kernel
theorem dX3_letter_15 : decode cX3_letter 15 = .ok (.bipush (-11), 2) := by decide +kernel
theorem dX3_letter_17 : decode cX3_letter 17 = .ok (.ireturn, 1) := by decide +kernel
theorem dX3_letter_18 : decode cX3_letter 18 = .ok (.aload_n 0, 1) := by decide +kernel
theorem dX3_letter_19 : decode cX3_letter 19 = .ok (.getfield 10, 3) := by decide +kernel
theorem dX3_letter_22 : decode cX3_letter 22 = .ok (.getfield 64, 3) := by decide +kernel
theorem dX3_letter_25 : decode cX3_letter 25 = .ok (.iload_n 1, 1) := by decide +kernel
theorem dX3_letter_26 : decode cX3_letter 26 = .ok (.aaload, 1) := by decide +kernel
theorem dX3_letter_27 : decode cX3_letter 27 = .ok (.astore_n 3, 1) := by decide +kernel
theorem dX3_letter_28 : decode cX3_letter 28 = .ok (.iload_n 2, 1) := by decide +kernel
theorem dX3_letter_29 : decode cX3_letter 29 = .ok (.aload_n 3, 1) := by decide +kernel
theorem dX3_letter_30 : decode cX3_letter 30 = .ok (.getfield 147, 3) := by decide +kernel
theorem dX3_letter_33 : decode cX3_letter 33 = .ok (.if_icmp .ge 12, 3) := by decide +kernel
theorem dX3_letter_36 : decode cX3_letter 36 = .ok (.aload_n 3, 1) := by decide +kernel
theorem dX3_letter_37 : decode cX3_letter 37 = .ok (.getfield 158, 3) := by decide +kernel
theorem dX3_letter_40 : decode cX3_letter 40 = .ok (.iload_n 2, 1) := by decide +kernel
theorem dX3_letter_41 : decode cX3_letter 41 = .ok (.iaload, 1) := by decide +kernel
theorem dX3_letter_42 : decode cX3_letter 42 = .ok (.goto 5, 3) := by decide +kernel
theorem dX3_letter_45 : decode cX3_letter 45 = .ok (.bipush (-19), 2) := by decide +kernel
theorem dX3_letter_47 : decode cX3_letter 47 = .ok (.ireturn, 1) := by decide +kernel
theorem dX3_shot_0 : decode cX3_shot 0 = .ok (.iload_n 1, 1) := by decide +kernel
theorem dX3_shot_1 : decode cX3_shot 1 = .ok (.ifCond .ge 6, 3) := by decide +kernel
theorem dX3_shot_4 : decode cX3_shot 4 = .ok (.bipush (-11), 2) := by decide +kernel
theorem dX3_shot_6 : decode cX3_shot 6 = .ok (.ireturn, 1) := by decide +kernel
theorem dX3_shot_7 : decode cX3_shot 7 = .ok (.iload_n 1, 1) := by decide +kernel
theorem dX3_shot_8 : decode cX3_shot 8 = .ok (.aload_n 0, 1) := by decide +kernel
theorem dX3_shot_9 : decode cX3_shot 9 = .ok (.getfield 10, 3) := by decide +kernel
theorem dX3_shot_12 : decode cX3_shot 12 = .ok (.getfield 91, 3) := by decide +kernel
theorem dX3_shot_15 : decode cX3_shot 15 = .ok (.if_icmp .ge 15, 3) := by decide +kernel
theorem dX3_shot_18 : decode cX3_shot 18 = .ok (.aload_n 0, 1) := by decide +kernel
theorem dX3_shot_19 : decode cX3_shot 19 = .ok (.getfield 10, 3) := by decide +kernel
theorem dX3_shot_22 : decode cX3_shot 22 = .ok (.getfield 161, 3) := by decide +kernel
theorem dX3_shot_25 : decode cX3_shot 25 = .ok (.iload_n 1, 1) := by decide +kernel
theorem dX3_shot_26 : decode cX3_shot 26 = .ok (.iaload, 1) := by decide +kernel
theorem dX3_shot_27 : decode cX3_shot 27 = .ok (.goto 5, 3) := by decide +kernel
theorem dX3_shot_30 : decode cX3_shot 30 = .ok (.bipush (-19), 2) := by decide +kernel
theorem dX3_shot_32 : decode cX3_shot 32 = .ok (.ireturn, 1) := by decide +kernel
theorem dX3_where_0 : decode cX3_where 0 = .ok (.aload_n 0, 1) := by decide +kernel
theorem dX3_where_1 : decode cX3_where 1 = .ok (.getfield 10, 3) := by decide +kernel
theorem dX3_where_4 : decode cX3_where 4 = .ok (.iload_n 1, 1) := by decide +kernel
theorem dX3_where_5 : decode cX3_where 5 = .ok (.invokevirtual 56, 3) := by decide +kernel
theorem dX3_where_8 : decode cX3_where 8 = .ok (.ifCond .eq 19, 3) := by decide +kernel
theorem dX3_where_11 : decode cX3_where 11 = .ok (.iload_n 2, 1) := by decide +kernel
theorem dX3_where_12 : decode cX3_where 12 = .ok (.invokestatic 164, 3) := by decide +kernel
theorem dX3_where_15 : decode cX3_where 15 = .ok (.ifCond .eq 12, 3) := by decide +kernel
theorem dX3_where_18 : decode cX3_where 18 = .ok (.iload_n 3, 1) := by decide +kernel
theorem dX3_where_19 : decode cX3_where 19 = .ok (.iconst 0, 1) := by decide +kernel
theorem dX3_where_20 : decode cX3_where 20 = .ok (.iconst 1, 1) := by decide +kernel
theorem dX3_where_21 : decode cX3_where 21 = .ok (.invokestatic 34, 3) := by decide +kernel
theorem dX3_where_24 : decode cX3_where 24 = .ok (.ifCond .ne 6, 3) := by decide +kernel
theorem dX3_where_27 : decode cX3_where 27 = .ok (.bipush (-11), 2) := by decide +kernel
theorem dX3_where_29 : decode cX3_where 29 = .ok (.ireturn, 1) := by decide +kernel
theorem dX3_where_30 : decode cX3_where 30 = .ok (.aload_n 0, 1) := by decide +kernel
theorem dX3_where_31 : decode cX3_where 31 = .ok (.getfield 10, 3) := by decide +kernel
theorem dX3_where_34 : decode cX3_where 34 = .ok (.getfield 64, 3) := by decide +kernel
theorem dX3_where_37 : decode cX3_where 37 = .ok (.iload_n 1, 1) := by decide +kernel
theorem dX3_where_38 : decode cX3_where 38 = .ok (.aaload, 1) := by decide +kernel
theorem dX3_where_39 : decode cX3_where 39 = .ok (.astore 4, 2) := by decide +kernel
theorem dX3_where_41 : decode cX3_where 41 = .ok (.aload_n 0, 1) := by decide +kernel
theorem dX3_where_42 : decode cX3_where 42 = .ok (.getfield 10, 3) := by decide +kernel
theorem dX3_where_45 : decode cX3_where 45 = .ok (.aload 4, 2) := by decide +kernel
theorem dX3_where_47 : decode cX3_where 47 = .ok (.iload_n 2, 1) := by decide +kernel
theorem dX3_where_48 : decode cX3_where 48 = .ok (.invokevirtual 167, 3) := by decide +kernel
theorem dX3_where_51 : decode cX3_where 51 = .ok (.ifCond .ne 6, 3) := by decide +kernel
theorem dX3_where_54 : decode cX3_where 54 = .ok (.bipush (-19), 2) := by decide +kernel
theorem dX3_where_56 : decode cX3_where 56 = .ok (.ireturn, 1) := by decide +kernel
theorem dX3_where_57 : decode cX3_where 57 = .ok (.iload_n 3, 1) := by decide +kernel
theorem dX3_where_58 : decode cX3_where 58 = .ok (.ifCond .ne 14, 3) := by decide +kernel
theorem dX3_where_61 : decode cX3_where 61 = .ok (.aload_n 0, 1) := by decide +kernel
theorem dX3_where_62 : decode cX3_where 62 = .ok (.getfield 10, 3) := by decide +kernel
theorem dX3_where_65 : decode cX3_where 65 = .ok (.aload 4, 2) := by decide +kernel
theorem dX3_where_67 : decode cX3_where 67 = .ok (.iload_n 2, 1) := by decide +kernel
theorem dX3_where_68 : decode cX3_where 68 = .ok (.invokevirtual 171, 3) := by decide +kernel
theorem dX3_where_71 : decode cX3_where 71 = .ok (.ireturn, 1) := by decide +kernel
theorem dX3_where_72 : decode cX3_where 72 = .ok (.aload_n 0, 1) := by decide +kernel
theorem dX3_where_73 : decode cX3_where 73 = .ok (.getfield 10, 3) := by decide +kernel
theorem dX3_where_76 : decode cX3_where 76 = .ok (.aload 4, 2) := by decide +kernel
theorem dX3_where_78 : decode cX3_where 78 = .ok (.iload_n 2, 1) := by decide +kernel
theorem dX3_where_79 : decode cX3_where 79 = .ok (.invokevirtual 175, 3) := by decide +kernel
theorem dX3_where_82 : decode cX3_where 82 = .ok (.istore 5, 2) := by decide +kernel
theorem dX3_where_84 : decode cX3_where 84 = .ok (.iload 5, 2) := by decide +kernel
theorem dX3_where_86 : decode cX3_where 86 = .ok (.iconst 0, 1) := by decide +kernel
theorem dX3_where_87 : decode cX3_where 87 = .ok (.bipush 39, 2) := by decide +kernel
theorem dX3_where_89 : decode cX3_where 89 = .ok (.invokestatic 34, 3) := by decide +kernel
theorem dX3_where_92 : decode cX3_where 92 = .ok (.ifCond .eq 8, 3) := by decide +kernel
theorem dX3_where_95 : decode cX3_where 95 = .ok (.iload 5, 2) := by decide +kernel
theorem dX3_where_97 : decode cX3_where 97 = .ok (.goto 9, 3) := by decide +kernel
theorem dX3_where_100 : decode cX3_where 100 = .ok (.sipush (-1000), 3) := by decide +kernel
theorem dX3_where_103 : decode cX3_where 103 = .ok (.iload 5, 2) := by decide +kernel
theorem dX3_where_105 : decode cX3_where 105 = .ok (.iadd, 1) := by decide +kernel
theorem dX3_where_106 : decode cX3_where 106 = .ok (.ireturn, 1) := by decide +kernel
theorem dX3_onScreen_0 : decode cX3_onScreen 0 = .ok (.iload_n 1, 1) := by decide +kernel
theorem dX3_onScreen_1 : decode cX3_onScreen 1 = .ok (.invokestatic 164, 3) := by decide +kernel
theorem dX3_onScreen_4 : decode cX3_onScreen 4 = .ok (.ifCond .ne 6, 3) := by decide +kernel
theorem dX3_onScreen_7 : decode cX3_onScreen 7 = .ok (.bipush (-11), 2) := by decide +kernel
theorem dX3_onScreen_9 : decode cX3_onScreen 9 = .ok (.ireturn, 1) := by decide +kernel
theorem dX3_onScreen_10 : decode cX3_onScreen 10 = .ok (.aload_n 0, 1) := by decide +kernel
theorem dX3_onScreen_11 : decode cX3_onScreen 11 = .ok (.getfield 10, 3) := by decide +kernel
theorem dX3_onScreen_14 : decode cX3_onScreen 14 = .ok (.iload_n 1, 1) := by decide +kernel
theorem dX3_onScreen_15 : decode cX3_onScreen 15 = .ok (.invokevirtual 182, 3) := by decide +kernel
theorem dX3_onScreen_18 : decode cX3_onScreen 18 = .ok (.ireturn, 1) := by decide +kernel
theorem dX3_meeting_0 : decode cX3_meeting 0 = .ok (.aload_n 0, 1) := by decide +kernel
theorem dX3_meeting_1 : decode cX3_meeting 1 = .ok (.getfield 10, 3) := by decide +kernel
theorem dX3_meeting_4 : decode cX3_meeting 4 = .ok (.iload_n 1, 1) := by decide +kernel
theorem dX3_meeting_5 : decode cX3_meeting 5 = .ok (.invokevirtual 56, 3) := by decide +kernel
theorem dX3_meeting_8 : decode cX3_meeting 8 = .ok (.ifCond .eq 19, 3) := by decide +kernel
theorem dX3_meeting_11 : decode cX3_meeting 11 = .ok (.aload_n 0, 1) := by decide +kernel
theorem dX3_meeting_12 : decode cX3_meeting 12 = .ok (.getfield 10, 3) := by decide +kernel
theorem dX3_meeting_15 : decode cX3_meeting 15 = .ok (.iload_n 2, 1) := by decide +kernel
theorem dX3_meeting_16 : decode cX3_meeting 16 = .ok (.invokevirtual 56, 3) := by decide +kernel
theorem dX3_meeting_19 : decode cX3_meeting 19 = .ok (.ifCond .eq 8, 3) := by decide +kernel
theorem dX3_meeting_22 : decode cX3_meeting 22 = .ok (.iload_n 1, 1) := by decide +kernel
theorem dX3_meeting_23 : decode cX3_meeting 23 = .ok (.iload_n 2, 1) := by decide +kernel
theorem dX3_meeting_24 : decode cX3_meeting 24 = .ok (.if_icmp .ne 6, 3) := by decide +kernel
theorem dX3_meeting_27 : decode cX3_meeting 27 = .ok (.bipush (-11), 2) := by decide +kernel
theorem dX3_meeting_29 : decode cX3_meeting 29 = .ok (.ireturn, 1) := by decide +kernel
theorem dX3_meeting_30 : decode cX3_meeting 30 = .ok (.aload_n 0, 1) := by decide +kernel
theorem dX3_meeting_31 : decode cX3_meeting 31 = .ok (.getfield 10, 3) := by decide +kernel
theorem dX3_meeting_34 : decode cX3_meeting 34 = .ok (.aload_n 0, 1) := by decide +kernel
theorem dX3_meeting_35 : decode cX3_meeting 35 = .ok (.getfield 10, 3) := by decide +kernel
theorem dX3_meeting_38 : decode cX3_meeting 38 = .ok (.getfield 64, 3) := by decide +kernel
theorem dX3_meeting_41 : decode cX3_meeting 41 = .ok (.iload_n 1, 1) := by decide +kernel
theorem dX3_meeting_42 : decode cX3_meeting 42 = .ok (.aaload, 1) := by decide +kernel
theorem dX3_meeting_43 : decode cX3_meeting 43 = .ok (.aload_n 0, 1) := by decide +kernel
theorem dX3_meeting_44 : decode cX3_meeting 44 = .ok (.getfield 10, 3) := by decide +kernel
theorem dX3_meeting_47 : decode cX3_meeting 47 = .ok (.getfield 64, 3) := by decide +kernel
theorem dX3_meeting_50 : decode cX3_meeting 50 = .ok (.iload_n 2, 1) := by decide +kernel
theorem dX3_meeting_51 : decode cX3_meeting 51 = .ok (.aaload, 1) := by decide +kernel
theorem dX3_meeting_52 : decode cX3_meeting 52 = .ok (.invokevirtual 185, 3) := by decide +kernel
theorem dX3_meeting_55 : decode cX3_meeting 55 = .ok (.ireturn, 1) := by decide +kernel
theorem dX3_earliest_0 : decode cX3_earliest 0 = .ok (.aload_n 0, 1) := by decide +kernel
theorem dX3_earliest_1 : decode cX3_earliest 1 = .ok (.iload_n 1, 1) := by decide +kernel
theorem dX3_earliest_2 : decode cX3_earliest 2 = .ok (.iload_n 2, 1) := by decide +kernel
theorem dX3_earliest_3 : decode cX3_earliest 3 = .ok (.iload_n 3, 1) := by decide +kernel
theorem dX3_earliest_4 : decode cX3_earliest 4 = .ok (.invokevirtual 115, 3) := by decide +kernel
theorem dX3_earliest_7 : decode cX3_earliest 7 = .ok (.ifCond .ne 6, 3) := by decide +kernel
theorem dX3_earliest_10 : decode cX3_earliest 10 = .ok (.bipush (-11), 2) := by decide +kernel
theorem dX3_earliest_12 : decode cX3_earliest 12 = .ok (.ireturn, 1) := by decide +kernel
theorem dX3_earliest_13 : decode cX3_earliest 13 = .ok (.aload_n 0, 1) := by decide +kernel
theorem dX3_earliest_14 : decode cX3_earliest 14 = .ok (.getfield 10, 3) := by decide +kernel
theorem dX3_earliest_17 : decode cX3_earliest 17 = .ok (.getfield 64, 3) := by decide +kernel
theorem dX3_earliest_20 : decode cX3_earliest 20 = .ok (.iload_n 1, 1) := by decide +kernel
theorem dX3_earliest_21 : decode cX3_earliest 21 = .ok (.aaload, 1) := by decide +kernel
theorem dX3_earliest_22 : decode cX3_earliest 22 = .ok (.getfield 118, 3) := by decide +kernel
theorem dX3_earliest_25 : decode cX3_earliest 25 = .ok (.istore 4, 2) := by decide +kernel
theorem dX3_earliest_27 : decode cX3_earliest 27 = .ok (.iload 4, 2) := by decide +kernel
theorem dX3_earliest_29 : decode cX3_earliest 29 = .ok (.sipush 2000, 3) := by decide +kernel
theorem dX3_earliest_32 : decode cX3_earliest 32 = .ok (.if_icmp .gt 27, 3) := by decide +kernel
theorem dX3_earliest_35 : decode cX3_earliest 35 = .ok (.aload_n 0, 1) := by decide +kernel
theorem dX3_earliest_36 : decode cX3_earliest 36 = .ok (.getfield 10, 3) := by decide +kernel
theorem dX3_earliest_39 : decode cX3_earliest 39 = .ok (.iload_n 1, 1) := by decide +kernel
theorem dX3_earliest_40 : decode cX3_earliest 40 = .ok (.iload 4, 2) := by decide +kernel
theorem dX3_earliest_42 : decode cX3_earliest 42 = .ok (.iload_n 2, 1) := by decide +kernel
theorem dX3_earliest_43 : decode cX3_earliest 43 = .ok (.iload_n 3, 1) := by decide +kernel
theorem dX3_earliest_44 : decode cX3_earliest 44 = .ok (.invokevirtual 121, 3) := by decide +kernel
theorem dX3_earliest_47 : decode cX3_earliest 47 = .ok (.ifCond .eq 6, 3) := by decide +kernel
theorem dX3_earliest_50 : decode cX3_earliest 50 = .ok (.iload 4, 2) := by decide +kernel
theorem dX3_earliest_52 : decode cX3_earliest 52 = .ok (.ireturn, 1) := by decide +kernel
theorem dX3_earliest_53 : decode cX3_earliest 53 = .ok (.iinc 4 1, 3) := by decide +kernel
theorem dX3_earliest_56 : decode cX3_earliest 56 = .ok (.goto (-29), 3) := by decide +kernel
theorem dX3_earliest_59 : decode cX3_earliest 59 = .ok (.bipush (-19), 2) := by decide +kernel
theorem dX3_earliest_61 : decode cX3_earliest 61 = .ok (.ireturn, 1) := by decide +kernel
theorem dX3_filled_0 : decode cX3_filled 0 = .ok (.iload_n 1, 1) := by decide +kernel
theorem dX3_filled_1 : decode cX3_filled 1 = .ok (.invokestatic 164, 3) := by decide +kernel
theorem dX3_filled_4 : decode cX3_filled 4 = .ok (.ifCond .ne 6, 3) := by decide +kernel
theorem dX3_filled_7 : decode cX3_filled 7 = .ok (.bipush (-11), 2) := by decide +kernel
theorem dX3_filled_9 : decode cX3_filled 9 = .ok (.ireturn, 1) := by decide +kernel
theorem dX3_filled_10 : decode cX3_filled 10 = .ok (.iconst 0, 1) := by decide +kernel
theorem dX3_filled_11 : decode cX3_filled 11 = .ok (.istore_n 2, 1) := by decide +kernel
theorem dX3_filled_12 : decode cX3_filled 12 = .ok (.iconst 0, 1) := by decide +kernel
theorem dX3_filled_13 : decode cX3_filled 13 = .ok (.istore_n 3, 1) := by decide +kernel
theorem dX3_filled_14 : decode cX3_filled 14 = .ok (.iload_n 3, 1) := by decide +kernel
theorem dX3_filled_15 : decode cX3_filled 15 = .ok (.bipush 8, 2) := by decide +kernel
theorem dX3_filled_17 : decode cX3_filled 17 = .ok (.if_icmp .ge 24, 3) := by decide +kernel
theorem dX3_filled_20 : decode cX3_filled 20 = .ok (.iload_n 2, 1) := by decide +kernel
theorem dX3_filled_21 : decode cX3_filled 21 = .ok (.aload_n 0, 1) := by decide +kernel
theorem dX3_filled_22 : decode cX3_filled 22 = .ok (.getfield 10, 3) := by decide +kernel
theorem dX3_filled_25 : decode cX3_filled 25 = .ok (.iload_n 3, 1) := by decide +kernel
theorem dX3_filled_26 : decode cX3_filled 26 = .ok (.iload_n 1, 1) := by decide +kernel
theorem dX3_filled_27 : decode cX3_filled 27 = .ok (.invokevirtual 192, 3) := by decide +kernel
theorem dX3_filled_30 : decode cX3_filled 30 = .ok (.invokestatic 196, 3) := by decide +kernel
theorem dX3_filled_33 : decode cX3_filled 33 = .ok (.iadd, 1) := by decide +kernel
theorem dX3_filled_34 : decode cX3_filled 34 = .ok (.istore_n 2, 1) := by decide +kernel
theorem dX3_filled_35 : decode cX3_filled 35 = .ok (.iinc 3 1, 3) := by decide +kernel
theorem dX3_filled_38 : decode cX3_filled 38 = .ok (.goto (-24), 3) := by decide +kernel
theorem dX3_filled_41 : decode cX3_filled 41 = .ok (.iload_n 2, 1) := by decide +kernel
theorem dX3_filled_42 : decode cX3_filled 42 = .ok (.ireturn, 1) := by decide +kernel
theorem dX3_record_0 : decode cX3_record 0 = .ok (.aload_n 0, 1) := by decide +kernel
theorem dX3_record_1 : decode cX3_record 1 = .ok (.getfield 23, 3) := by decide +kernel
theorem dX3_record_4 : decode cX3_record 4 = .ok (.iconst 5, 1) := by decide +kernel
theorem dX3_record_5 : decode cX3_record 5 = .ok (.if_icmp .lt 7, 3) := by decide +kernel
theorem dX3_record_8 : decode cX3_record 8 = .ok (.aload_n 0, 1) := by decide +kernel
theorem dX3_record_9 : decode cX3_record 9 = .ok (.invokevirtual 202, 3) := by decide +kernel
theorem dX3_record_12 : decode cX3_record 12 = .ok (.aload_n 0, 1) := by decide +kernel
theorem dX3_record_13 : decode cX3_record 13 = .ok (.getfield 19, 3) := by decide +kernel
theorem dX3_record_16 : decode cX3_record 16 = .ok (.aload_n 0, 1) := by decide +kernel
theorem dX3_record_17 : decode cX3_record 17 = .ok (.getfield 23, 3) := by decide +kernel
theorem dX3_record_20 : decode cX3_record 20 = .ok (.aaload, 1) := by decide +kernel
theorem dX3_record_21 : decode cX3_record 21 = .ok (.aload_n 0, 1) := by decide +kernel
theorem dX3_record_22 : decode cX3_record 22 = .ok (.getfield 10, 3) := by decide +kernel
theorem dX3_record_25 : decode cX3_record 25 = .ok (.invokevirtual 107, 3) := by decide +kernel
theorem dX3_record_28 : decode cX3_record 28 = .ok (.aload_n 0, 1) := by decide +kernel
theorem dX3_record_29 : decode cX3_record 29 = .ok (.dup, 1) := by decide +kernel
theorem dX3_record_30 : decode cX3_record 30 = .ok (.getfield 23, 3) := by decide +kernel
theorem dX3_record_33 : decode cX3_record 33 = .ok (.iconst 1, 1) := by decide +kernel
theorem dX3_record_34 : decode cX3_record 34 = .ok (.iadd, 1) := by decide +kernel
theorem dX3_record_35 : decode cX3_record 35 = .ok (.putfield 23, 3) := by decide +kernel
theorem dX3_record_38 : decode cX3_record 38 = .ok (.return_, 1) := by decide +kernel
theorem dX3_dropOldestState_0 : decode cX3_dropOldestState 0 = .ok (.aload_n 0, 1) := by decide +kernel
theorem dX3_dropOldestState_1 : decode cX3_dropOldestState 1 = .ok (.getfield 19, 3) := by decide +kernel
theorem dX3_dropOldestState_4 : decode cX3_dropOldestState 4 = .ok (.iconst 0, 1) := by decide +kernel
theorem dX3_dropOldestState_5 : decode cX3_dropOldestState 5 = .ok (.aaload, 1) := by decide +kernel
theorem dX3_dropOldestState_6 : decode cX3_dropOldestState 6 = .ok (.astore_n 1, 1) := by decide +kernel
theorem dX3_dropOldestState_7 : decode cX3_dropOldestState 7 = .ok (.iconst 1, 1) := by decide +kernel
theorem dX3_dropOldestState_8 : decode cX3_dropOldestState 8 = .ok (.istore_n 2, 1) := by decide +kernel
theorem dX3_dropOldestState_9 : decode cX3_dropOldestState 9 = .ok (.iload_n 2, 1) := by decide +kernel
theorem dX3_dropOldestState_10 : decode cX3_dropOldestState 10 = .ok (.iconst 5, 1) := by decide +kernel
theorem dX3_dropOldestState_11 : decode cX3_dropOldestState 11 = .ok (.if_icmp .ge 23, 3) := by decide +kernel
theorem dX3_dropOldestState_14 : decode cX3_dropOldestState 14 = .ok (.aload_n 0, 1) := by decide +kernel
theorem dX3_dropOldestState_15 : decode cX3_dropOldestState 15 = .ok (.getfield 19, 3) := by decide +kernel
theorem dX3_dropOldestState_18 : decode cX3_dropOldestState 18 = .ok (.iload_n 2, 1) := by decide +kernel
theorem dX3_dropOldestState_19 : decode cX3_dropOldestState 19 = .ok (.iconst 1, 1) := by decide +kernel
theorem dX3_dropOldestState_20 : decode cX3_dropOldestState 20 = .ok (.isub, 1) := by decide +kernel
theorem dX3_dropOldestState_21 : decode cX3_dropOldestState 21 = .ok (.aload_n 0, 1) := by decide +kernel
theorem dX3_dropOldestState_22 : decode cX3_dropOldestState 22 = .ok (.getfield 19, 3) := by decide +kernel
theorem dX3_dropOldestState_25 : decode cX3_dropOldestState 25 = .ok (.iload_n 2, 1) := by decide +kernel
theorem dX3_dropOldestState_26 : decode cX3_dropOldestState 26 = .ok (.aaload, 1) := by decide +kernel
theorem dX3_dropOldestState_27 : decode cX3_dropOldestState 27 = .ok (.aastore, 1) := by decide +kernel
theorem dX3_dropOldestState_28 : decode cX3_dropOldestState 28 = .ok (.iinc 2 1, 3) := by decide +kernel
theorem dX3_dropOldestState_31 : decode cX3_dropOldestState 31 = .ok (.goto (-22), 3) := by decide +kernel
theorem dX3_dropOldestState_34 : decode cX3_dropOldestState 34 = .ok (.aload_n 0, 1) := by decide +kernel
theorem dX3_dropOldestState_35 : decode cX3_dropOldestState 35 = .ok (.getfield 19, 3) := by decide +kernel
theorem dX3_dropOldestState_38 : decode cX3_dropOldestState 38 = .ok (.iconst 4, 1) := by decide +kernel
theorem dX3_dropOldestState_39 : decode cX3_dropOldestState 39 = .ok (.aload_n 1, 1) := by decide +kernel
theorem dX3_dropOldestState_40 : decode cX3_dropOldestState 40 = .ok (.aastore, 1) := by decide +kernel
theorem dX3_dropOldestState_41 : decode cX3_dropOldestState 41 = .ok (.aload_n 0, 1) := by decide +kernel
theorem dX3_dropOldestState_42 : decode cX3_dropOldestState 42 = .ok (.iconst 4, 1) := by decide +kernel
theorem dX3_dropOldestState_43 : decode cX3_dropOldestState 43 = .ok (.putfield 23, 3) := by decide +kernel
theorem dX3_dropOldestState_46 : decode cX3_dropOldestState 46 = .ok (.return_, 1) := by decide +kernel
theorem dX3_isPossiblePlace_0 : decode cX3_isPossiblePlace 0 = .ok (.aload_n 0, 1) := by decide +kernel
theorem dX3_isPossiblePlace_1 : decode cX3_isPossiblePlace 1 = .ok (.getfield 10, 3) := by decide +kernel
theorem dX3_isPossiblePlace_4 : decode cX3_isPossiblePlace 4 = .ok (.iload_n 1, 1) := by decide +kernel
theorem dX3_isPossiblePlace_5 : decode cX3_isPossiblePlace 5 = .ok (.invokevirtual 56, 3) := by decide +kernel
theorem dX3_isPossiblePlace_8 : decode cX3_isPossiblePlace 8 = .ok (.ifCond .eq 37, 3) := by decide +kernel
theorem dX3_isPossiblePlace_11 : decode cX3_isPossiblePlace 11 = .ok (.iload_n 2, 1) := by decide +kernel
theorem dX3_isPossiblePlace_12 : decode cX3_isPossiblePlace 12 = .ok (.iconst 0, 1) := by decide +kernel
theorem dX3_isPossiblePlace_13 : decode cX3_isPossiblePlace 13 = .ok (.bipush 7, 2) := by decide +kernel
theorem dX3_isPossiblePlace_15 : decode cX3_isPossiblePlace 15 = .ok (.invokestatic 34, 3) := by decide +kernel
theorem dX3_isPossiblePlace_18 : decode cX3_isPossiblePlace 18 = .ok (.ifCond .eq 27, 3) := by decide +kernel
theorem dX3_isPossiblePlace_21 : decode cX3_isPossiblePlace 21 = .ok (.iload_n 3, 1) := by decide +kernel
theorem dX3_isPossiblePlace_22 : decode cX3_isPossiblePlace 22 = .ok (.iconst 0, 1) := by decide +kernel
theorem dX3_isPossiblePlace_23 : decode cX3_isPossiblePlace 23 = .ok (.aload_n 0, 1) := by decide +kernel
theorem dX3_isPossiblePlace_24 : decode cX3_isPossiblePlace 24 = .ok (.getfield 10, 3) := by decide +kernel
theorem dX3_isPossiblePlace_27 : decode cX3_isPossiblePlace 27 = .ok (.getfield 64, 3) := by decide +kernel
theorem dX3_isPossiblePlace_30 : decode cX3_isPossiblePlace 30 = .ok (.iload_n 1, 1) := by decide +kernel
theorem dX3_isPossiblePlace_31 : decode cX3_isPossiblePlace 31 = .ok (.aaload, 1) := by decide +kernel
theorem dX3_isPossiblePlace_32 : decode cX3_isPossiblePlace 32 = .ok (.invokevirtual 205, 3) := by decide +kernel
theorem dX3_isPossiblePlace_35 : decode cX3_isPossiblePlace 35 = .ok (.invokestatic 34, 3) := by decide +kernel
theorem dX3_isPossiblePlace_38 : decode cX3_isPossiblePlace 38 = .ok (.ifCond .eq 7, 3) := by decide +kernel
theorem dX3_isPossiblePlace_41 : decode cX3_isPossiblePlace 41 = .ok (.iconst 1, 1) := by decide +kernel
theorem dX3_isPossiblePlace_42 : decode cX3_isPossiblePlace 42 = .ok (.goto 4, 3) := by decide +kernel
theorem dX3_isPossiblePlace_45 : decode cX3_isPossiblePlace 45 = .ok (.iconst 0, 1) := by decide +kernel
theorem dX3_isPossiblePlace_46 : decode cX3_isPossiblePlace 46 = .ok (.ireturn, 1) := by decide +kernel
theorem dX3_isBetween_0 : decode cX3_isBetween 0 = .ok (.iload_n 0, 1) := by decide +kernel
theorem dX3_isBetween_1 : decode cX3_isBetween 1 = .ok (.iload_n 1, 1) := by decide +kernel
theorem dX3_isBetween_2 : decode cX3_isBetween 2 = .ok (.if_icmp .lt 12, 3) := by decide +kernel
theorem dX3_isBetween_5 : decode cX3_isBetween 5 = .ok (.iload_n 0, 1) := by decide +kernel
theorem dX3_isBetween_6 : decode cX3_isBetween 6 = .ok (.iload_n 2, 1) := by decide +kernel
theorem dX3_isBetween_7 : decode cX3_isBetween 7 = .ok (.if_icmp .gt 7, 3) := by decide +kernel
theorem dX3_isBetween_10 : decode cX3_isBetween 10 = .ok (.iconst 1, 1) := by decide +kernel
theorem dX3_isBetween_11 : decode cX3_isBetween 11 = .ok (.goto 4, 3) := by decide +kernel
theorem dX3_isBetween_14 : decode cX3_isBetween 14 = .ok (.iconst 0, 1) := by decide +kernel
theorem dX3_isBetween_15 : decode cX3_isBetween 15 = .ok (.ireturn, 1) := by decide +kernel
theorem dX3_isAskedFrame_0 : decode cX3_isAskedFrame 0 = .ok (.iload_n 0, 1) := by decide +kernel
theorem dX3_isAskedFrame_1 : decode cX3_isAskedFrame 1 = .ok (.iconst 0, 1) := by decide +kernel
theorem dX3_isAskedFrame_2 : decode cX3_isAskedFrame 2 = .ok (.sipush 4000, 3) := by decide +kernel
theorem dX3_isAskedFrame_5 : decode cX3_isAskedFrame 5 = .ok (.invokestatic 34, 3) := by decide +kernel
theorem dX3_isAskedFrame_8 : decode cX3_isAskedFrame 8 = .ok (.ireturn, 1) := by decide +kernel
theorem dX3_isAllowed_0 : decode cX3_isAllowed 0 = .ok (.iload_n 0, 1) := by decide +kernel
theorem dX3_isAllowed_1 : decode cX3_isAllowed 1 = .ok (.tableswitch 63 0 3 #[31, 40, 48, 56], 31) := by decide +kernel
theorem dX3_isAllowed_32 : decode cX3_isAllowed 32 = .ok (.iload_n 1, 1) := by decide +kernel
theorem dX3_isAllowed_33 : decode cX3_isAllowed 33 = .ok (.iconst 0, 1) := by decide +kernel
theorem dX3_isAllowed_34 : decode cX3_isAllowed 34 = .ok (.sipush 2000, 3) := by decide +kernel
theorem dX3_isAllowed_37 : decode cX3_isAllowed 37 = .ok (.invokestatic 34, 3) := by decide +kernel
theorem dX3_isAllowed_40 : decode cX3_isAllowed 40 = .ok (.ireturn, 1) := by decide +kernel
theorem dX3_isAllowed_41 : decode cX3_isAllowed 41 = .ok (.iload_n 1, 1) := by decide +kernel
theorem dX3_isAllowed_42 : decode cX3_isAllowed 42 = .ok (.iconst 1, 1) := by decide +kernel
theorem dX3_isAllowed_43 : decode cX3_isAllowed 43 = .ok (.bipush 60, 2) := by decide +kernel
theorem dX3_isAllowed_45 : decode cX3_isAllowed 45 = .ok (.invokestatic 34, 3) := by decide +kernel
theorem dX3_isAllowed_48 : decode cX3_isAllowed 48 = .ok (.ireturn, 1) := by decide +kernel
theorem dX3_isAllowed_49 : decode cX3_isAllowed 49 = .ok (.iload_n 1, 1) := by decide +kernel
theorem dX3_isAllowed_50 : decode cX3_isAllowed 50 = .ok (.iconst 0, 1) := by decide +kernel
theorem dX3_isAllowed_51 : decode cX3_isAllowed 51 = .ok (.bipush 60, 2) := by decide +kernel
theorem dX3_isAllowed_53 : decode cX3_isAllowed 53 = .ok (.invokestatic 34, 3) := by decide +kernel
theorem dX3_isAllowed_56 : decode cX3_isAllowed 56 = .ok (.ireturn, 1) := by decide +kernel
theorem dX3_isAllowed_57 : decode cX3_isAllowed 57 = .ok (.iload_n 1, 1) := by decide +kernel
theorem dX3_isAllowed_58 : decode cX3_isAllowed 58 = .ok (.iconst 0, 1) := by decide +kernel
theorem dX3_isAllowed_59 : decode cX3_isAllowed 59 = .ok (.iconst 4, 1) := by decide +kernel
theorem dX3_isAllowed_60 : decode cX3_isAllowed 60 = .ok (.invokestatic 34, 3) := by decide +kernel
theorem dX3_isAllowed_63 : decode cX3_isAllowed 63 = .ok (.ireturn, 1) := by decide +kernel
theorem dX3_isAllowed_64 : decode cX3_isAllowed 64 = .ok (.iconst 0, 1) := by decide +kernel
theorem dX3_isAllowed_65 : decode cX3_isAllowed 65 = .ok (.ireturn, 1) := by decide +kernel
theorem dJ13_bitCount_95d88_0 : decode cJ13_bitCount_95d88 0 = .ok (.lload_n 0, 1) := by decide +kernel
theorem dJ13_bitCount_95d88_1 : decode cJ13_bitCount_95d88 1 = .ok (.lload_n 0, 1) := by decide +kernel
theorem dJ13_bitCount_95d88_2 : decode cJ13_bitCount_95d88 2 = .ok (.iconst 1, 1) := by decide +kernel
theorem dJ13_bitCount_95d88_3 : decode cJ13_bitCount_95d88 3 = .ok (.lushr, 1) := by decide +kernel
theorem dJ13_bitCount_95d88_4 : decode cJ13_bitCount_95d88 4 = .ok (.ldc2_w 314, 3) := by decide +kernel
theorem dJ13_bitCount_95d88_7 : decode cJ13_bitCount_95d88 7 = .ok (.land, 1) := by decide +kernel
theorem dJ13_bitCount_95d88_8 : decode cJ13_bitCount_95d88 8 = .ok (.lsub, 1) := by decide +kernel
theorem dJ13_bitCount_95d88_9 : decode cJ13_bitCount_95d88 9 = .ok (.lstore_n 0, 1) := by decide +kernel
theorem dJ13_bitCount_95d88_10 : decode cJ13_bitCount_95d88 10 = .ok (.lload_n 0, 1) := by decide +kernel
theorem dJ13_bitCount_95d88_11 : decode cJ13_bitCount_95d88 11 = .ok (.ldc2_w 316, 3) := by decide +kernel
theorem dJ13_bitCount_95d88_14 : decode cJ13_bitCount_95d88 14 = .ok (.land, 1) := by decide +kernel
theorem dJ13_bitCount_95d88_15 : decode cJ13_bitCount_95d88 15 = .ok (.lload_n 0, 1) := by decide +kernel
theorem dJ13_bitCount_95d88_16 : decode cJ13_bitCount_95d88 16 = .ok (.iconst 2, 1) := by decide +kernel
theorem dJ13_bitCount_95d88_17 : decode cJ13_bitCount_95d88 17 = .ok (.lushr, 1) := by decide +kernel
theorem dJ13_bitCount_95d88_18 : decode cJ13_bitCount_95d88 18 = .ok (.ldc2_w 316, 3) := by decide +kernel
theorem dJ13_bitCount_95d88_21 : decode cJ13_bitCount_95d88 21 = .ok (.land, 1) := by decide +kernel
theorem dJ13_bitCount_95d88_22 : decode cJ13_bitCount_95d88 22 = .ok (.ladd, 1) := by decide +kernel
theorem dJ13_bitCount_95d88_23 : decode cJ13_bitCount_95d88 23 = .ok (.lstore_n 0, 1) := by decide +kernel
theorem dJ13_bitCount_95d88_24 : decode cJ13_bitCount_95d88 24 = .ok (.lload_n 0, 1) := by decide +kernel
theorem dJ13_bitCount_95d88_25 : decode cJ13_bitCount_95d88 25 = .ok (.lload_n 0, 1) := by decide +kernel
theorem dJ13_bitCount_95d88_26 : decode cJ13_bitCount_95d88 26 = .ok (.iconst 4, 1) := by decide +kernel
theorem dJ13_bitCount_95d88_27 : decode cJ13_bitCount_95d88 27 = .ok (.lushr, 1) := by decide +kernel
theorem dJ13_bitCount_95d88_28 : decode cJ13_bitCount_95d88 28 = .ok (.ladd, 1) := by decide +kernel
theorem dJ13_bitCount_95d88_29 : decode cJ13_bitCount_95d88 29 = .ok (.ldc2_w 318, 3) := by decide +kernel
theorem dJ13_bitCount_95d88_32 : decode cJ13_bitCount_95d88 32 = .ok (.land, 1) := by decide +kernel
theorem dJ13_bitCount_95d88_33 : decode cJ13_bitCount_95d88 33 = .ok (.lstore_n 0, 1) := by decide +kernel
theorem dJ13_bitCount_95d88_34 : decode cJ13_bitCount_95d88 34 = .ok (.lload_n 0, 1) := by decide +kernel
theorem dJ13_bitCount_95d88_35 : decode cJ13_bitCount_95d88 35 = .ok (.lload_n 0, 1) := by decide +kernel
theorem dJ13_bitCount_95d88_36 : decode cJ13_bitCount_95d88 36 = .ok (.bipush 8, 2) := by decide +kernel
theorem dJ13_bitCount_95d88_38 : decode cJ13_bitCount_95d88 38 = .ok (.lushr, 1) := by decide +kernel
theorem dJ13_bitCount_95d88_39 : decode cJ13_bitCount_95d88 39 = .ok (.ladd, 1) := by decide +kernel
theorem dJ13_bitCount_95d88_40 : decode cJ13_bitCount_95d88 40 = .ok (.lstore_n 0, 1) := by decide +kernel
theorem dJ13_bitCount_95d88_41 : decode cJ13_bitCount_95d88 41 = .ok (.lload_n 0, 1) := by decide +kernel
theorem dJ13_bitCount_95d88_42 : decode cJ13_bitCount_95d88 42 = .ok (.lload_n 0, 1) := by decide +kernel
theorem dJ13_bitCount_95d88_43 : decode cJ13_bitCount_95d88 43 = .ok (.bipush 16, 2) := by decide +kernel
theorem dJ13_bitCount_95d88_45 : decode cJ13_bitCount_95d88 45 = .ok (.lushr, 1) := by decide +kernel
theorem dJ13_bitCount_95d88_46 : decode cJ13_bitCount_95d88 46 = .ok (.ladd, 1) := by decide +kernel
theorem dJ13_bitCount_95d88_47 : decode cJ13_bitCount_95d88 47 = .ok (.lstore_n 0, 1) := by decide +kernel
theorem dJ13_bitCount_95d88_48 : decode cJ13_bitCount_95d88 48 = .ok (.lload_n 0, 1) := by decide +kernel
theorem dJ13_bitCount_95d88_49 : decode cJ13_bitCount_95d88 49 = .ok (.lload_n 0, 1) := by decide +kernel
theorem dJ13_bitCount_95d88_50 : decode cJ13_bitCount_95d88 50 = .ok (.bipush 32, 2) := by decide +kernel
theorem dJ13_bitCount_95d88_52 : decode cJ13_bitCount_95d88 52 = .ok (.lushr, 1) := by decide +kernel
theorem dJ13_bitCount_95d88_53 : decode cJ13_bitCount_95d88 53 = .ok (.ladd, 1) := by decide +kernel
theorem dJ13_bitCount_95d88_54 : decode cJ13_bitCount_95d88 54 = .ok (.lstore_n 0, 1) := by decide +kernel
theorem dJ13_bitCount_95d88_55 : decode cJ13_bitCount_95d88 55 = .ok (.lload_n 0, 1) := by decide +kernel
theorem dJ13_bitCount_95d88_56 : decode cJ13_bitCount_95d88 56 = .ok (.l2i, 1) := by decide +kernel
theorem dJ13_bitCount_95d88_57 : decode cJ13_bitCount_95d88 57 = .ok (.bipush 127, 2) := by decide +kernel
theorem dJ13_bitCount_95d88_59 : decode cJ13_bitCount_95d88 59 = .ok (.iand, 1) := by decide +kernel
theorem dJ13_bitCount_95d88_60 : decode cJ13_bitCount_95d88 60 = .ok (.ireturn, 1) := by decide +kernel
theorem dJ9_max_7cf53_0 : decode cJ9_max_7cf53 0 = .ok (.iload_n 0, 1) := by decide +kernel
theorem dJ9_max_7cf53_1 : decode cJ9_max_7cf53 1 = .ok (.iload_n 1, 1) := by decide +kernel
theorem dJ9_max_7cf53_2 : decode cJ9_max_7cf53 2 = .ok (.if_icmp .lt 7, 3) := by decide +kernel
theorem dJ9_max_7cf53_5 : decode cJ9_max_7cf53 5 = .ok (.iload_n 0, 1) := by decide +kernel
theorem dJ9_max_7cf53_6 : decode cJ9_max_7cf53 6 = .ok (.goto 4, 3) := by decide +kernel
theorem dJ9_max_7cf53_9 : decode cJ9_max_7cf53 9 = .ok (.iload_n 1, 1) := by decide +kernel
theorem dJ9_max_7cf53_10 : decode cJ9_max_7cf53 10 = .ok (.ireturn, 1) := by decide +kernel
theorem dJ9_min_7cf53_0 : decode cJ9_min_7cf53 0 = .ok (.iload_n 0, 1) := by decide +kernel
theorem dJ9_min_7cf53_1 : decode cJ9_min_7cf53 1 = .ok (.iload_n 1, 1) := by decide +kernel
theorem dJ9_min_7cf53_2 : decode cJ9_min_7cf53 2 = .ok (.if_icmp .gt 7, 3) := by decide +kernel
theorem dJ9_min_7cf53_5 : decode cJ9_min_7cf53 5 = .ok (.iload_n 0, 1) := by decide +kernel
theorem dJ9_min_7cf53_6 : decode cJ9_min_7cf53 6 = .ok (.goto 4, 3) := by decide +kernel
theorem dJ9_min_7cf53_9 : decode cJ9_min_7cf53 9 = .ok (.iload_n 1, 1) := by decide +kernel
theorem dJ9_min_7cf53_10 : decode cJ9_min_7cf53 10 = .ok (.ireturn, 1) := by decide +kernel
theorem dJ0_length_8abf5_0 : decode cJ0_length_8abf5 0 = .ok (.aload_n 0, 1) := by decide +kernel
theorem dJ0_length_8abf5_1 : decode cJ0_length_8abf5 1 = .ok (.getfield 9, 3) := by decide +kernel
theorem dJ0_length_8abf5_4 : decode cJ0_length_8abf5 4 = .ok (.arraylength, 1) := by decide +kernel
theorem dJ0_length_8abf5_5 : decode cJ0_length_8abf5 5 = .ok (.aload_n 0, 1) := by decide +kernel
theorem dJ0_length_8abf5_6 : decode cJ0_length_8abf5 6 = .ok (.invokevirtual 335, 3) := by decide +kernel
theorem dJ0_length_8abf5_9 : decode cJ0_length_8abf5 9 = .ok (.ishr, 1) := by decide +kernel
theorem dJ0_length_8abf5_10 : decode cJ0_length_8abf5 10 = .ok (.ireturn, 1) := by decide +kernel
theorem dJ0_charAt_5068e_0 : decode cJ0_charAt_5068e 0 = .ok (.aload_n 0, 1) := by decide +kernel
theorem dJ0_charAt_5068e_1 : decode cJ0_charAt_5068e 1 = .ok (.invokevirtual 492, 3) := by decide +kernel
theorem dJ0_charAt_5068e_4 : decode cJ0_charAt_5068e 4 = .ok (.ifCond .eq 12, 3) := by decide +kernel
theorem dJ0_charAt_5068e_7 : decode cJ0_charAt_5068e 7 = .ok (.aload_n 0, 1) := by decide +kernel
theorem dJ0_charAt_5068e_8 : decode cJ0_charAt_5068e 8 = .ok (.getfield 9, 3) := by decide +kernel
theorem dJ0_charAt_5068e_11 : decode cJ0_charAt_5068e 11 = .ok (.iload_n 1, 1) := by decide +kernel
theorem dJ0_charAt_5068e_12 : decode cJ0_charAt_5068e 12 = .ok (.invokestatic 495, 3) := by decide +kernel
theorem dJ0_charAt_5068e_15 : decode cJ0_charAt_5068e 15 = .ok (.ireturn, 1) := by decide +kernel
theorem dJ0_charAt_5068e_16 : decode cJ0_charAt_5068e 16 = .ok (.aload_n 0, 1) := by decide +kernel
theorem dJ0_charAt_5068e_17 : decode cJ0_charAt_5068e 17 = .ok (.getfield 9, 3) := by decide +kernel
theorem dJ0_charAt_5068e_20 : decode cJ0_charAt_5068e 20 = .ok (.iload_n 1, 1) := by decide +kernel
theorem dJ0_charAt_5068e_21 : decode cJ0_charAt_5068e 21 = .ok (.invokestatic 498, 3) := by decide +kernel
theorem dJ0_charAt_5068e_24 : decode cJ0_charAt_5068e 24 = .ok (.ireturn, 1) := by decide +kernel
theorem dJ0_coder_7d493_0 : decode cJ0_coder_7d493 0 = .ok (.getstatic 38, 3) := by decide +kernel
theorem dJ0_coder_7d493_3 : decode cJ0_coder_7d493 3 = .ok (.ifCond .eq 10, 3) := by decide +kernel
theorem dJ0_coder_7d493_6 : decode cJ0_coder_7d493 6 = .ok (.aload_n 0, 1) := by decide +kernel
theorem dJ0_coder_7d493_7 : decode cJ0_coder_7d493 7 = .ok (.getfield 15, 3) := by decide +kernel
theorem dJ0_coder_7d493_10 : decode cJ0_coder_7d493 10 = .ok (.goto 4, 3) := by decide +kernel
theorem dJ0_coder_7d493_13 : decode cJ0_coder_7d493 13 = .ok (.iconst 1, 1) := by decide +kernel
theorem dJ0_coder_7d493_14 : decode cJ0_coder_7d493 14 = .ok (.ireturn, 1) := by decide +kernel
theorem dJ0_isLatin1_aae02_0 : decode cJ0_isLatin1_aae02 0 = .ok (.getstatic 38, 3) := by decide +kernel
theorem dJ0_isLatin1_aae02_3 : decode cJ0_isLatin1_aae02 3 = .ok (.ifCond .eq 14, 3) := by decide +kernel
theorem dJ0_isLatin1_aae02_6 : decode cJ0_isLatin1_aae02 6 = .ok (.aload_n 0, 1) := by decide +kernel
theorem dJ0_isLatin1_aae02_7 : decode cJ0_isLatin1_aae02 7 = .ok (.getfield 15, 3) := by decide +kernel
theorem dJ0_isLatin1_aae02_10 : decode cJ0_isLatin1_aae02 10 = .ok (.ifCond .ne 7, 3) := by decide +kernel
theorem dJ0_isLatin1_aae02_13 : decode cJ0_isLatin1_aae02 13 = .ok (.iconst 1, 1) := by decide +kernel
theorem dJ0_isLatin1_aae02_14 : decode cJ0_isLatin1_aae02 14 = .ok (.goto 4, 3) := by decide +kernel
theorem dJ0_isLatin1_aae02_17 : decode cJ0_isLatin1_aae02 17 = .ok (.iconst 0, 1) := by decide +kernel
theorem dJ0_isLatin1_aae02_18 : decode cJ0_isLatin1_aae02 18 = .ok (.ireturn, 1) := by decide +kernel
theorem dJ0_checkIndex_df160_0 : decode cJ0_checkIndex_df160 0 = .ok (.iload_n 0, 1) := by decide +kernel
theorem dJ0_checkIndex_df160_1 : decode cJ0_checkIndex_df160 1 = .ok (.iload_n 1, 1) := by decide +kernel
theorem dJ0_checkIndex_df160_2 : decode cJ0_checkIndex_df160 2 = .ok (.getstatic 1053, 3) := by decide +kernel
theorem dJ0_checkIndex_df160_5 : decode cJ0_checkIndex_df160 5 = .ok (.invokestatic 1059, 3) := by decide +kernel
theorem dJ0_checkIndex_df160_8 : decode cJ0_checkIndex_df160 8 = .ok (.pop, 1) := by decide +kernel
theorem dJ0_checkIndex_df160_9 : decode cJ0_checkIndex_df160 9 = .ok (.return_, 1) := by decide +kernel
theorem dJ1_charAt_3b067_0 : decode cJ1_charAt_3b067 0 = .ok (.iload_n 1, 1) := by decide +kernel
theorem dJ1_charAt_3b067_1 : decode cJ1_charAt_3b067 1 = .ok (.aload_n 0, 1) := by decide +kernel
theorem dJ1_charAt_3b067_2 : decode cJ1_charAt_3b067 2 = .ok (.arraylength, 1) := by decide +kernel
theorem dJ1_charAt_3b067_3 : decode cJ1_charAt_3b067 3 = .ok (.invokestatic 9, 3) := by decide +kernel
theorem dJ1_charAt_3b067_6 : decode cJ1_charAt_3b067 6 = .ok (.aload_n 0, 1) := by decide +kernel
theorem dJ1_charAt_3b067_7 : decode cJ1_charAt_3b067 7 = .ok (.iload_n 1, 1) := by decide +kernel
theorem dJ1_charAt_3b067_8 : decode cJ1_charAt_3b067 8 = .ok (.baload, 1) := by decide +kernel
theorem dJ1_charAt_3b067_9 : decode cJ1_charAt_3b067 9 = .ok (.sipush 255, 3) := by decide +kernel
theorem dJ1_charAt_3b067_12 : decode cJ1_charAt_3b067 12 = .ok (.iand, 1) := by decide +kernel
theorem dJ1_charAt_3b067_13 : decode cJ1_charAt_3b067 13 = .ok (.i2c, 1) := by decide +kernel
theorem dJ1_charAt_3b067_14 : decode cJ1_charAt_3b067 14 = .ok (.ireturn, 1) := by decide +kernel
theorem dJ2_getChar_3b067_0 : decode cJ2_getChar_3b067 0 = .ok (.getstatic 44, 3) := by decide +kernel
theorem dJ2_getChar_3b067_3 : decode cJ2_getChar_3b067 3 = .ok (.ifCond .ne 25, 3) := by decide +kernel
theorem dJ2_getChar_3b067_6 : decode cJ2_getChar_3b067 6 = .ok (.iload_n 1, 1) := by decide +kernel
theorem dJ2_getChar_3b067_7 : decode cJ2_getChar_3b067 7 = .ok (.ifCond .lt 11, 3) := by decide +kernel
theorem dJ2_getChar_3b067_10 : decode cJ2_getChar_3b067 10 = .ok (.iload_n 1, 1) := by decide +kernel
theorem dJ2_getChar_3b067_11 : decode cJ2_getChar_3b067 11 = .ok (.aload_n 0, 1) := by decide +kernel
theorem dJ2_getChar_3b067_12 : decode cJ2_getChar_3b067 12 = .ok (.invokestatic 48, 3) := by decide +kernel
theorem dJ2_getChar_3b067_15 : decode cJ2_getChar_3b067 15 = .ok (.if_icmp .lt 13, 3) := by decide +kernel
theorem dJ2_getChar_3b067_18 : decode cJ2_getChar_3b067 18 = .ok (.new 52, 3) := by decide +kernel
theorem dJ2_getChar_3b067_21 : decode cJ2_getChar_3b067 21 = .ok (.dup, 1) := by decide +kernel
theorem dJ2_getChar_3b067_22 : decode cJ2_getChar_3b067 22 = .ok (.ldc 54, 2) := by decide +kernel
theorem dJ2_getChar_3b067_24 : decode cJ2_getChar_3b067 24 = .ok (.invokespecial 56, 3) := by decide +kernel
theorem dJ2_getChar_3b067_27 : decode cJ2_getChar_3b067 27 = .ok (.athrow, 1) := by decide +kernel
theorem dJ2_getChar_3b067_28 : decode cJ2_getChar_3b067 28 = .ok (.iload_n 1, 1) := by decide +kernel
theorem dJ2_getChar_3b067_29 : decode cJ2_getChar_3b067 29 = .ok (.iconst 1, 1) := by decide +kernel
theorem dJ2_getChar_3b067_30 : decode cJ2_getChar_3b067 30 = .ok (.ishl, 1) := by decide +kernel
theorem dJ2_getChar_3b067_31 : decode cJ2_getChar_3b067 31 = .ok (.istore_n 1, 1) := by decide +kernel
theorem dJ2_getChar_3b067_32 : decode cJ2_getChar_3b067 32 = .ok (.aload_n 0, 1) := by decide +kernel
theorem dJ2_getChar_3b067_33 : decode cJ2_getChar_3b067 33 = .ok (.iload_n 1, 1) := by decide +kernel
theorem dJ2_getChar_3b067_34 : decode cJ2_getChar_3b067 34 = .ok (.iinc 1 1, 3) := by decide +kernel
theorem dJ2_getChar_3b067_37 : decode cJ2_getChar_3b067 37 = .ok (.baload, 1) := by decide +kernel
theorem dJ2_getChar_3b067_38 : decode cJ2_getChar_3b067 38 = .ok (.sipush 255, 3) := by decide +kernel
theorem dJ2_getChar_3b067_41 : decode cJ2_getChar_3b067 41 = .ok (.iand, 1) := by decide +kernel
theorem dJ2_getChar_3b067_42 : decode cJ2_getChar_3b067 42 = .ok (.getstatic 59, 3) := by decide +kernel
theorem dJ2_getChar_3b067_45 : decode cJ2_getChar_3b067 45 = .ok (.ishl, 1) := by decide +kernel
theorem dJ2_getChar_3b067_46 : decode cJ2_getChar_3b067 46 = .ok (.aload_n 0, 1) := by decide +kernel
theorem dJ2_getChar_3b067_47 : decode cJ2_getChar_3b067 47 = .ok (.iload_n 1, 1) := by decide +kernel
theorem dJ2_getChar_3b067_48 : decode cJ2_getChar_3b067 48 = .ok (.baload, 1) := by decide +kernel
theorem dJ2_getChar_3b067_49 : decode cJ2_getChar_3b067 49 = .ok (.sipush 255, 3) := by decide +kernel
theorem dJ2_getChar_3b067_52 : decode cJ2_getChar_3b067 52 = .ok (.iand, 1) := by decide +kernel
theorem dJ2_getChar_3b067_53 : decode cJ2_getChar_3b067 53 = .ok (.getstatic 63, 3) := by decide +kernel
theorem dJ2_getChar_3b067_56 : decode cJ2_getChar_3b067 56 = .ok (.ishl, 1) := by decide +kernel
theorem dJ2_getChar_3b067_57 : decode cJ2_getChar_3b067 57 = .ok (.ior, 1) := by decide +kernel
theorem dJ2_getChar_3b067_58 : decode cJ2_getChar_3b067 58 = .ok (.i2c, 1) := by decide +kernel
theorem dJ2_getChar_3b067_59 : decode cJ2_getChar_3b067 59 = .ok (.ireturn, 1) := by decide +kernel
theorem dJ2_length_9d52b_0 : decode cJ2_length_9d52b 0 = .ok (.aload_n 0, 1) := by decide +kernel
theorem dJ2_length_9d52b_1 : decode cJ2_length_9d52b 1 = .ok (.arraylength, 1) := by decide +kernel
theorem dJ2_length_9d52b_2 : decode cJ2_length_9d52b 2 = .ok (.iconst 1, 1) := by decide +kernel
theorem dJ2_length_9d52b_3 : decode cJ2_length_9d52b 3 = .ok (.ishr, 1) := by decide +kernel
theorem dJ2_length_9d52b_4 : decode cJ2_length_9d52b 4 = .ok (.ireturn, 1) := by decide +kernel
theorem dJ2_charAt_3b067_0 : decode cJ2_charAt_3b067 0 = .ok (.iload_n 1, 1) := by decide +kernel
theorem dJ2_charAt_3b067_1 : decode cJ2_charAt_3b067 1 = .ok (.aload_n 0, 1) := by decide +kernel
theorem dJ2_charAt_3b067_2 : decode cJ2_charAt_3b067 2 = .ok (.invokestatic 67, 3) := by decide +kernel
theorem dJ2_charAt_3b067_5 : decode cJ2_charAt_3b067 5 = .ok (.aload_n 0, 1) := by decide +kernel
theorem dJ2_charAt_3b067_6 : decode cJ2_charAt_3b067 6 = .ok (.iload_n 1, 1) := by decide +kernel
theorem dJ2_charAt_3b067_7 : decode cJ2_charAt_3b067 7 = .ok (.invokestatic 71, 3) := by decide +kernel
theorem dJ2_charAt_3b067_10 : decode cJ2_charAt_3b067 10 = .ok (.ireturn, 1) := by decide +kernel
theorem dJ2_checkIndex_2214a_0 : decode cJ2_checkIndex_2214a 0 = .ok (.iload_n 0, 1) := by decide +kernel
theorem dJ2_checkIndex_2214a_1 : decode cJ2_checkIndex_2214a 1 = .ok (.aload_n 1, 1) := by decide +kernel
theorem dJ2_checkIndex_2214a_2 : decode cJ2_checkIndex_2214a 2 = .ok (.invokestatic 48, 3) := by decide +kernel
theorem dJ2_checkIndex_2214a_5 : decode cJ2_checkIndex_2214a 5 = .ok (.invokestatic 414, 3) := by decide +kernel
theorem dJ2_checkIndex_2214a_8 : decode cJ2_checkIndex_2214a 8 = .ok (.return_, 1) := by decide +kernel
theorem dJ3_checkIndex_8e157_0 : decode cJ3_checkIndex_8e157 0 = .ok (.iload_n 0, 1) := by decide +kernel
theorem dJ3_checkIndex_8e157_1 : decode cJ3_checkIndex_8e157 1 = .ok (.ifCond .lt 8, 3) := by decide +kernel
theorem dJ3_checkIndex_8e157_4 : decode cJ3_checkIndex_8e157 4 = .ok (.iload_n 0, 1) := by decide +kernel
theorem dJ3_checkIndex_8e157_5 : decode cJ3_checkIndex_8e157 5 = .ok (.iload_n 1, 1) := by decide +kernel
theorem dJ3_checkIndex_8e157_6 : decode cJ3_checkIndex_8e157 6 = .ok (.if_icmp .lt 10, 3) := by decide +kernel
theorem dJ3_checkIndex_8e157_9 : decode cJ3_checkIndex_8e157 9 = .ok (.aload_n 2, 1) := by decide +kernel
theorem dJ3_checkIndex_8e157_10 : decode cJ3_checkIndex_8e157 10 = .ok (.iload_n 0, 1) := by decide +kernel
theorem dJ3_checkIndex_8e157_11 : decode cJ3_checkIndex_8e157 11 = .ok (.iload_n 1, 1) := by decide +kernel
theorem dJ3_checkIndex_8e157_12 : decode cJ3_checkIndex_8e157 12 = .ok (.invokestatic 95, 3) := by decide +kernel
theorem dJ3_checkIndex_8e157_15 : decode cJ3_checkIndex_8e157 15 = .ok (.athrow, 1) := by decide +kernel
theorem dJ3_checkIndex_8e157_16 : decode cJ3_checkIndex_8e157 16 = .ok (.iload_n 0, 1) := by decide +kernel
theorem dJ3_checkIndex_8e157_17 : decode cJ3_checkIndex_8e157 17 = .ok (.ireturn, 1) := by decide +kernel
