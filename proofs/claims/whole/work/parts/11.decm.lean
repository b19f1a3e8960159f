theorem dX4_init_0 : decode cX4_init 0 = .ok (.aload_n 0, 1) := by decide +kernel
theorem dX4_init_1 : decode cX4_init 1 = .ok (.invokespecial 1, 3) := by decide +kernel
theorem dX4_init_4 : decode cX4_init 4 = .ok (.aload_n 0, 1) := by decide +kernel
theorem dX4_init_5 : decode cX4_init 5 = .ok (.sipush 241, 3) := by decide +kernel
theorem dX4_init_8 : decode cX4_init 8 = .ok (.newarray .int, 2) := by decide +kernel
theorem dX4_init_10 : decode cX4_init 10 = .ok (.putfield 7, 3) := by decide +kernel
theorem dX4_init_13 : decode cX4_init 13 = .ok (.aload_n 0, 1) := by decide +kernel
theorem dX4_init_14 : decode cX4_init 14 = .ok (.sipush 241, 3) := by decide +kernel
theorem dX4_init_17 : decode cX4_init 17 = .ok (.newarray .int, 2) := by decide +kernel
theorem dX4_init_19 : decode cX4_init 19 = .ok (.putfield 13, 3) := by decide +kernel
theorem dX4_init_22 : decode cX4_init 22 = .ok (.aload_n 0, 1) := by decide +kernel
theorem dX4_init_23 : decode cX4_init 23 = .ok (.sipush 1205, 3) := by decide +kernel
theorem dX4_init_26 : decode cX4_init 26 = .ok (.newarray .int, 2) := by decide +kernel
theorem dX4_init_28 : decode cX4_init 28 = .ok (.putfield 16, 3) := by decide +kernel
theorem dX4_init_31 : decode cX4_init 31 = .ok (.aload_n 0, 1) := by decide +kernel
theorem dX4_init_32 : decode cX4_init 32 = .ok (.sipush 160, 3) := by decide +kernel
theorem dX4_init_35 : decode cX4_init 35 = .ok (.newarray .int, 2) := by decide +kernel
theorem dX4_init_37 : decode cX4_init 37 = .ok (.putfield 19, 3) := by decide +kernel
theorem dX4_init_40 : decode cX4_init 40 = .ok (.aload_n 0, 1) := by decide +kernel
theorem dX4_init_41 : decode cX4_init 41 = .ok (.bipush 12, 2) := by decide +kernel
theorem dX4_init_43 : decode cX4_init 43 = .ok (.newarray .boolean, 2) := by decide +kernel
theorem dX4_init_45 : decode cX4_init 45 = .ok (.putfield 22, 3) := by decide +kernel
theorem dX4_init_48 : decode cX4_init 48 = .ok (.aload_n 0, 1) := by decide +kernel
theorem dX4_init_49 : decode cX4_init 49 = .ok (.iconst 0, 1) := by decide +kernel
theorem dX4_init_50 : decode cX4_init 50 = .ok (.putfield 26, 3) := by decide +kernel
theorem dX4_init_53 : decode cX4_init 53 = .ok (.aload_n 0, 1) := by decide +kernel
theorem dX4_init_54 : decode cX4_init 54 = .ok (.getfield 7, 3) := by decide +kernel
theorem dX4_init_57 : decode cX4_init 57 = .ok (.iconst 2, 1) := by decide +kernel
theorem dX4_init_58 : decode cX4_init 58 = .ok (.bipush 100, 2) := by decide +kernel
theorem dX4_init_60 : decode cX4_init 60 = .ok (.iastore, 1) := by decide +kernel
theorem dX4_init_61 : decode cX4_init 61 = .ok (.return_, 1) := by decide +kernel
theorem dX4_in_0 : decode cX4_in 0 = .ok (.lload_n 0, 1) := by decide +kernel
theorem dX4_in_1 : decode cX4_in 1 = .ok (.lload_n 2, 1) := by decide +kernel
theorem dX4_in_2 : decode cX4_in 2 = .ok (.lcmp, 1) := by decide +kernel
theorem dX4_in_3 : decode cX4_in 3 = .ok (.ifCond .lt 14, 3) := by decide +kernel
theorem dX4_in_6 : decode cX4_in 6 = .ok (.lload_n 0, 1) := by decide +kernel
theorem dX4_in_7 : decode cX4_in 7 = .ok (.lload 4, 2) := by decide +kernel
theorem dX4_in_9 : decode cX4_in 9 = .ok (.lcmp, 1) := by decide +kernel
theorem dX4_in_10 : decode cX4_in 10 = .ok (.ifCond .gt 7, 3) := by decide +kernel
theorem dX4_in_13 : decode cX4_in 13 = .ok (.iconst 1, 1) := by decide +kernel
theorem dX4_in_14 : decode cX4_in 14 = .ok (.goto 4, 3) := by decide +kernel
theorem dX4_in_17 : decode cX4_in 17 = .ok (.iconst 0, 1) := by decide +kernel
theorem dX4_in_18 : decode cX4_in 18 = .ok (.ireturn, 1) := by decide +kernel
theorem dX4_less_0 : decode cX4_less 0 = .ok (.iload_n 0, 1) := by decide +kernel
theorem dX4_less_1 : decode cX4_less 1 = .ok (.iload_n 1, 1) := by decide +kernel
theorem dX4_less_2 : decode cX4_less 2 = .ok (.if_icmp .ge 7, 3) := by decide +kernel
theorem dX4_less_5 : decode cX4_less 5 = .ok (.iload_n 0, 1) := by decide +kernel
theorem dX4_less_6 : decode cX4_less 6 = .ok (.goto 4, 3) := by decide +kernel
theorem dX4_less_9 : decode cX4_less 9 = .ok (.iload_n 1, 1) := by decide +kernel
theorem dX4_less_10 : decode cX4_less 10 = .ok (.ireturn, 1) := by decide +kernel
theorem dX4_more_0 : decode cX4_more 0 = .ok (.iload_n 0, 1) := by decide +kernel
theorem dX4_more_1 : decode cX4_more 1 = .ok (.iload_n 1, 1) := by decide +kernel
theorem dX4_more_2 : decode cX4_more 2 = .ok (.if_icmp .le 7, 3) := by decide +kernel
theorem dX4_more_5 : decode cX4_more 5 = .ok (.iload_n 0, 1) := by decide +kernel
theorem dX4_more_6 : decode cX4_more 6 = .ok (.goto 4, 3) := by decide +kernel
theorem dX4_more_9 : decode cX4_more 9 = .ok (.iload_n 1, 1) := by decide +kernel
theorem dX4_more_10 : decode cX4_more 10 = .ok (.ireturn, 1) := by decide +kernel
theorem dX4_act_0 : decode cX4_act 0 = .ok (.aload_n 0, 1) := by decide +kernel
theorem dX4_act_1 : decode cX4_act 1 = .ok (.getfield 30, 3) := by decide +kernel
theorem dX4_act_4 : decode cX4_act 4 = .ok (.iconst 5, 1) := by decide +kernel
theorem dX4_act_5 : decode cX4_act 5 = .ok (.if_icmp .ne 44, 3) := by decide +kernel
theorem dX4_act_8 : decode cX4_act 8 = .ok (.iconst 0, 1) := by decide +kernel
theorem dX4_act_9 : decode cX4_act 9 = .ok (.istore_n 1, 1) := by decide +kernel
theorem dX4_act_10 : decode cX4_act 10 = .ok (.iload_n 1, 1) := by decide +kernel
theorem dX4_act_11 : decode cX4_act 11 = .ok (.sipush 964, 3) := by decide +kernel
theorem dX4_act_14 : decode cX4_act 14 = .ok (.if_icmp .ge 25, 3) := by decide +kernel
theorem dX4_act_17 : decode cX4_act 17 = .ok (.aload_n 0, 1) := by decide +kernel
theorem dX4_act_18 : decode cX4_act 18 = .ok (.getfield 16, 3) := by decide +kernel
theorem dX4_act_21 : decode cX4_act 21 = .ok (.iload_n 1, 1) := by decide +kernel
theorem dX4_act_22 : decode cX4_act 22 = .ok (.aload_n 0, 1) := by decide +kernel
theorem dX4_act_23 : decode cX4_act 23 = .ok (.getfield 16, 3) := by decide +kernel
theorem dX4_act_26 : decode cX4_act 26 = .ok (.iload_n 1, 1) := by decide +kernel
theorem dX4_act_27 : decode cX4_act 27 = .ok (.sipush 241, 3) := by decide +kernel
theorem dX4_act_30 : decode cX4_act 30 = .ok (.iadd, 1) := by decide +kernel
theorem dX4_act_31 : decode cX4_act 31 = .ok (.iaload, 1) := by decide +kernel
theorem dX4_act_32 : decode cX4_act 32 = .ok (.iastore, 1) := by decide +kernel
theorem dX4_act_33 : decode cX4_act 33 = .ok (.iinc 1 1, 3) := by decide +kernel
theorem dX4_act_36 : decode cX4_act 36 = .ok (.goto (-26), 3) := by decide +kernel
theorem dX4_act_39 : decode cX4_act 39 = .ok (.aload_n 0, 1) := by decide +kernel
theorem dX4_act_40 : decode cX4_act 40 = .ok (.dup, 1) := by decide +kernel
theorem dX4_act_41 : decode cX4_act 41 = .ok (.getfield 30, 3) := by decide +kernel
theorem dX4_act_44 : decode cX4_act 44 = .ok (.iconst 1, 1) := by decide +kernel
theorem dX4_act_45 : decode cX4_act 45 = .ok (.isub, 1) := by decide +kernel
theorem dX4_act_46 : decode cX4_act 46 = .ok (.putfield 30, 3) := by decide +kernel
theorem dX4_act_49 : decode cX4_act 49 = .ok (.iconst 0, 1) := by decide +kernel
theorem dX4_act_50 : decode cX4_act 50 = .ok (.istore_n 1, 1) := by decide +kernel
theorem dX4_act_51 : decode cX4_act 51 = .ok (.iload_n 1, 1) := by decide +kernel
theorem dX4_act_52 : decode cX4_act 52 = .ok (.sipush 241, 3) := by decide +kernel
theorem dX4_act_55 : decode cX4_act 55 = .ok (.if_icmp .ge 30, 3) := by decide +kernel
theorem dX4_act_58 : decode cX4_act 58 = .ok (.aload_n 0, 1) := by decide +kernel
theorem dX4_act_59 : decode cX4_act 59 = .ok (.getfield 16, 3) := by decide +kernel
theorem dX4_act_62 : decode cX4_act 62 = .ok (.sipush 241, 3) := by decide +kernel
theorem dX4_act_65 : decode cX4_act 65 = .ok (.aload_n 0, 1) := by decide +kernel
theorem dX4_act_66 : decode cX4_act 66 = .ok (.getfield 30, 3) := by decide +kernel
theorem dX4_act_69 : decode cX4_act 69 = .ok (.imul, 1) := by decide +kernel
theorem dX4_act_70 : decode cX4_act 70 = .ok (.iload_n 1, 1) := by decide +kernel
theorem dX4_act_71 : decode cX4_act 71 = .ok (.iadd, 1) := by decide +kernel
theorem dX4_act_72 : decode cX4_act 72 = .ok (.aload_n 0, 1) := by decide +kernel
theorem dX4_act_73 : decode cX4_act 73 = .ok (.getfield 7, 3) := by decide +kernel
theorem dX4_act_76 : decode cX4_act 76 = .ok (.iload_n 1, 1) := by decide +kernel
theorem dX4_act_77 : decode cX4_act 77 = .ok (.iaload, 1) := by decide +kernel
theorem dX4_act_78 : decode cX4_act 78 = .ok (.iastore, 1) := by decide +kernel
theorem dX4_act_79 : decode cX4_act 79 = .ok (.iinc 1 1, 3) := by decide +kernel
theorem dX4_act_82 : decode cX4_act 82 = .ok (.goto (-31), 3) := by decide +kernel
theorem dX4_act_85 : decode cX4_act 85 = .ok (.aload_n 0, 1) := by decide +kernel
theorem dX4_act_86 : decode cX4_act 86 = .ok (.dup, 1) := by decide +kernel
theorem dX4_act_87 : decode cX4_act 87 = .ok (.getfield 30, 3) := by decide +kernel
theorem dX4_act_90 : decode cX4_act 90 = .ok (.iconst 1, 1) := by decide +kernel
theorem dX4_act_91 : decode cX4_act 91 = .ok (.iadd, 1) := by decide +kernel
theorem dX4_act_92 : decode cX4_act 92 = .ok (.putfield 30, 3) := by decide +kernel
theorem dX4_act_95 : decode cX4_act 95 = .ok (.return_, 1) := by decide +kernel
theorem dX4_isWord_0 : decode cX4_isWord 0 = .ok (.iload_n 1, 1) := by decide +kernel
theorem dX4_isWord_1 : decode cX4_isWord 1 = .ok (.i2l, 1) := by decide +kernel
theorem dX4_isWord_2 : decode cX4_isWord 2 = .ok (.lconst 0, 1) := by decide +kernel
theorem dX4_isWord_3 : decode cX4_isWord 3 = .ok (.aload_n 0, 1) := by decide +kernel
theorem dX4_isWord_4 : decode cX4_isWord 4 = .ok (.getfield 7, 3) := by decide +kernel
theorem dX4_isWord_7 : decode cX4_isWord 7 = .ok (.iconst 0, 1) := by decide +kernel
theorem dX4_isWord_8 : decode cX4_isWord 8 = .ok (.iaload, 1) := by decide +kernel
theorem dX4_isWord_9 : decode cX4_isWord 9 = .ok (.iconst 1, 1) := by decide +kernel
theorem dX4_isWord_10 : decode cX4_isWord 10 = .ok (.isub, 1) := by decide +kernel
theorem dX4_isWord_11 : decode cX4_isWord 11 = .ok (.i2l, 1) := by decide +kernel
theorem dX4_isWord_12 : decode cX4_isWord 12 = .ok (.invokestatic 33, 3) := by decide +kernel
theorem dX4_isWord_15 : decode cX4_isWord 15 = .ok (.ireturn, 1) := by decide +kernel
theorem dX4_of_0 : decode cX4_of 0 = .ok (.aload_n 0, 1) := by decide +kernel
theorem dX4_of_1 : decode cX4_of 1 = .ok (.getfield 7, 3) := by decide +kernel
theorem dX4_of_4 : decode cX4_of 4 = .ok (.bipush 13, 2) := by decide +kernel
theorem dX4_of_6 : decode cX4_of 6 = .ok (.bipush 19, 2) := by decide +kernel
theorem dX4_of_8 : decode cX4_of 8 = .ok (.iload_n 1, 1) := by decide +kernel
theorem dX4_of_9 : decode cX4_of 9 = .ok (.imul, 1) := by decide +kernel
theorem dX4_of_10 : decode cX4_of 10 = .ok (.iadd, 1) := by decide +kernel
theorem dX4_of_11 : decode cX4_of 11 = .ok (.iload_n 2, 1) := by decide +kernel
theorem dX4_of_12 : decode cX4_of 12 = .ok (.iadd, 1) := by decide +kernel
theorem dX4_of_13 : decode cX4_of 13 = .ok (.iaload, 1) := by decide +kernel
theorem dX4_of_14 : decode cX4_of 14 = .ok (.ireturn, 1) := by decide +kernel
theorem dX4_set_0 : decode cX4_set 0 = .ok (.aload_n 0, 1) := by decide +kernel
theorem dX4_set_1 : decode cX4_set 1 = .ok (.getfield 7, 3) := by decide +kernel
theorem dX4_set_4 : decode cX4_set 4 = .ok (.bipush 13, 2) := by decide +kernel
theorem dX4_set_6 : decode cX4_set 6 = .ok (.bipush 19, 2) := by decide +kernel
theorem dX4_set_8 : decode cX4_set 8 = .ok (.iload_n 1, 1) := by decide +kernel
theorem dX4_set_9 : decode cX4_set 9 = .ok (.imul, 1) := by decide +kernel
theorem dX4_set_10 : decode cX4_set 10 = .ok (.iadd, 1) := by decide +kernel
theorem dX4_set_11 : decode cX4_set 11 = .ok (.iload_n 2, 1) := by decide +kernel
theorem dX4_set_12 : decode cX4_set 12 = .ok (.iadd, 1) := by decide +kernel
theorem dX4_set_13 : decode cX4_set 13 = .ok (.iload_n 3, 1) := by decide +kernel
theorem dX4_set_14 : decode cX4_set 14 = .ok (.iastore, 1) := by decide +kernel
theorem dX4_set_15 : decode cX4_set 15 = .ok (.return_, 1) := by decide +kernel
theorem dX4_isPut_0 : decode cX4_isPut 0 = .ok (.aload_n 0, 1) := by decide +kernel
theorem dX4_isPut_1 : decode cX4_isPut 1 = .ok (.iload_n 1, 1) := by decide +kernel
theorem dX4_isPut_2 : decode cX4_isPut 2 = .ok (.iconst 4, 1) := by decide +kernel
theorem dX4_isPut_3 : decode cX4_isPut 3 = .ok (.invokevirtual 37, 3) := by decide +kernel
theorem dX4_isPut_6 : decode cX4_isPut 6 = .ok (.iconst (-1), 1) := by decide +kernel
theorem dX4_isPut_7 : decode cX4_isPut 7 = .ok (.if_icmp .eq 7, 3) := by decide +kernel
theorem dX4_isPut_10 : decode cX4_isPut 10 = .ok (.iconst 1, 1) := by decide +kernel
theorem dX4_isPut_11 : decode cX4_isPut 11 = .ok (.goto 4, 3) := by decide +kernel
theorem dX4_isPut_14 : decode cX4_isPut 14 = .ok (.iconst 0, 1) := by decide +kernel
theorem dX4_isPut_15 : decode cX4_isPut 15 = .ok (.ireturn, 1) := by decide +kernel
theorem dX4_putMany_0 : decode cX4_putMany 0 = .ok (.iconst 0, 1) := by decide +kernel
theorem dX4_putMany_1 : decode cX4_putMany 1 = .ok (.istore_n 1, 1) := by decide +kernel
theorem dX4_putMany_2 : decode cX4_putMany 2 = .ok (.iconst 0, 1) := by decide +kernel
theorem dX4_putMany_3 : decode cX4_putMany 3 = .ok (.istore_n 2, 1) := by decide +kernel
theorem dX4_putMany_4 : decode cX4_putMany 4 = .ok (.iload_n 2, 1) := by decide +kernel
theorem dX4_putMany_5 : decode cX4_putMany 5 = .ok (.aload_n 0, 1) := by decide +kernel
theorem dX4_putMany_6 : decode cX4_putMany 6 = .ok (.getfield 7, 3) := by decide +kernel
theorem dX4_putMany_9 : decode cX4_putMany 9 = .ok (.iconst 0, 1) := by decide +kernel
theorem dX4_putMany_10 : decode cX4_putMany 10 = .ok (.iaload, 1) := by decide +kernel
theorem dX4_putMany_11 : decode cX4_putMany 11 = .ok (.if_icmp .ge 25, 3) := by decide +kernel
theorem dX4_putMany_14 : decode cX4_putMany 14 = .ok (.iload_n 1, 1) := by decide +kernel
theorem dX4_putMany_15 : decode cX4_putMany 15 = .ok (.aload_n 0, 1) := by decide +kernel
theorem dX4_putMany_16 : decode cX4_putMany 16 = .ok (.iload_n 2, 1) := by decide +kernel
theorem dX4_putMany_17 : decode cX4_putMany 17 = .ok (.invokevirtual 41, 3) := by decide +kernel
theorem dX4_putMany_20 : decode cX4_putMany 20 = .ok (.ifCond .eq 7, 3) := by decide +kernel
theorem dX4_putMany_23 : decode cX4_putMany 23 = .ok (.iconst 1, 1) := by decide +kernel
theorem dX4_putMany_24 : decode cX4_putMany 24 = .ok (.goto 4, 3) := by decide +kernel
theorem dX4_putMany_27 : decode cX4_putMany 27 = .ok (.iconst 0, 1) := by decide +kernel
theorem dX4_putMany_28 : decode cX4_putMany 28 = .ok (.iadd, 1) := by decide +kernel
theorem dX4_putMany_29 : decode cX4_putMany 29 = .ok (.istore_n 1, 1) := by decide +kernel
theorem dX4_putMany_30 : decode cX4_putMany 30 = .ok (.iinc 2 1, 3) := by decide +kernel
theorem dX4_putMany_33 : decode cX4_putMany 33 = .ok (.goto (-29), 3) := by decide +kernel
theorem dX4_putMany_36 : decode cX4_putMany 36 = .ok (.iload_n 1, 1) := by decide +kernel
theorem dX4_putMany_37 : decode cX4_putMany 37 = .ok (.ireturn, 1) := by decide +kernel
theorem dX4_behind_0 : decode cX4_behind 0 = .ok (.aload_n 0, 1) := by decide +kernel
theorem dX4_behind_1 : decode cX4_behind 1 = .ok (.iload_n 1, 1) := by decide +kernel
theorem dX4_behind_2 : decode cX4_behind 2 = .ok (.iconst 0, 1) := by decide +kernel
theorem dX4_behind_3 : decode cX4_behind 3 = .ok (.invokevirtual 37, 3) := by decide +kernel
theorem dX4_behind_6 : decode cX4_behind 6 = .ok (.aload_n 0, 1) := by decide +kernel
theorem dX4_behind_7 : decode cX4_behind 7 = .ok (.iload_n 1, 1) := by decide +kernel
theorem dX4_behind_8 : decode cX4_behind 8 = .ok (.iconst 1, 1) := by decide +kernel
theorem dX4_behind_9 : decode cX4_behind 9 = .ok (.invokevirtual 37, 3) := by decide +kernel
theorem dX4_behind_12 : decode cX4_behind 12 = .ok (.iadd, 1) := by decide +kernel
theorem dX4_behind_13 : decode cX4_behind 13 = .ok (.aload_n 0, 1) := by decide +kernel
theorem dX4_behind_14 : decode cX4_behind 14 = .ok (.iload_n 1, 1) := by decide +kernel
theorem dX4_behind_15 : decode cX4_behind 15 = .ok (.iconst 2, 1) := by decide +kernel
theorem dX4_behind_16 : decode cX4_behind 16 = .ok (.invokevirtual 37, 3) := by decide +kernel
theorem dX4_behind_19 : decode cX4_behind 19 = .ok (.iadd, 1) := by decide +kernel
theorem dX4_behind_20 : decode cX4_behind 20 = .ok (.ireturn, 1) := by decide +kernel
theorem dX4_cut_0 : decode cX4_cut 0 = .ok (.sipush 4001, 3) := by decide +kernel
theorem dX4_cut_3 : decode cX4_cut 3 = .ok (.istore_n 2, 1) := by decide +kernel
theorem dX4_cut_4 : decode cX4_cut 4 = .ok (.aload_n 0, 1) := by decide +kernel
theorem dX4_cut_5 : decode cX4_cut 5 = .ok (.getfield 7, 3) := by decide +kernel
theorem dX4_cut_8 : decode cX4_cut 8 = .ok (.iconst 1, 1) := by decide +kernel
theorem dX4_cut_9 : decode cX4_cut 9 = .ok (.iaload, 1) := by decide +kernel
theorem dX4_cut_10 : decode cX4_cut 10 = .ok (.iconst 1, 1) := by decide +kernel
theorem dX4_cut_11 : decode cX4_cut 11 = .ok (.isub, 1) := by decide +kernel
theorem dX4_cut_12 : decode cX4_cut 12 = .ok (.istore_n 3, 1) := by decide +kernel
theorem dX4_cut_13 : decode cX4_cut 13 = .ok (.iload_n 3, 1) := by decide +kernel
theorem dX4_cut_14 : decode cX4_cut 14 = .ok (.ifCond .lt 39, 3) := by decide +kernel
theorem dX4_cut_17 : decode cX4_cut 17 = .ok (.aload_n 0, 1) := by decide +kernel
theorem dX4_cut_18 : decode cX4_cut 18 = .ok (.getfield 7, 3) := by decide +kernel
theorem dX4_cut_21 : decode cX4_cut 21 = .ok (.iconst 3, 1) := by decide +kernel
theorem dX4_cut_22 : decode cX4_cut 22 = .ok (.iload_n 3, 1) := by decide +kernel
theorem dX4_cut_23 : decode cX4_cut 23 = .ok (.iadd, 1) := by decide +kernel
theorem dX4_cut_24 : decode cX4_cut 24 = .ok (.iaload, 1) := by decide +kernel
theorem dX4_cut_25 : decode cX4_cut 25 = .ok (.aload_n 0, 1) := by decide +kernel
theorem dX4_cut_26 : decode cX4_cut 26 = .ok (.iload_n 1, 1) := by decide +kernel
theorem dX4_cut_27 : decode cX4_cut 27 = .ok (.iconst 0, 1) := by decide +kernel
theorem dX4_cut_28 : decode cX4_cut 28 = .ok (.invokevirtual 37, 3) := by decide +kernel
theorem dX4_cut_31 : decode cX4_cut 31 = .ok (.if_icmp .le 14, 3) := by decide +kernel
theorem dX4_cut_34 : decode cX4_cut 34 = .ok (.aload_n 0, 1) := by decide +kernel
theorem dX4_cut_35 : decode cX4_cut 35 = .ok (.getfield 7, 3) := by decide +kernel
theorem dX4_cut_38 : decode cX4_cut 38 = .ok (.iconst 3, 1) := by decide +kernel
theorem dX4_cut_39 : decode cX4_cut 39 = .ok (.iload_n 3, 1) := by decide +kernel
theorem dX4_cut_40 : decode cX4_cut 40 = .ok (.iadd, 1) := by decide +kernel
theorem dX4_cut_41 : decode cX4_cut 41 = .ok (.iaload, 1) := by decide +kernel
theorem dX4_cut_42 : decode cX4_cut 42 = .ok (.goto 4, 3) := by decide +kernel
theorem dX4_cut_45 : decode cX4_cut 45 = .ok (.iload_n 2, 1) := by decide +kernel
theorem dX4_cut_46 : decode cX4_cut 46 = .ok (.istore_n 2, 1) := by decide +kernel
theorem dX4_cut_47 : decode cX4_cut 47 = .ok (.iinc 3 (-1), 3) := by decide +kernel
theorem dX4_cut_50 : decode cX4_cut 50 = .ok (.goto (-37), 3) := by decide +kernel
theorem dX4_cut_53 : decode cX4_cut 53 = .ok (.iload_n 2, 1) := by decide +kernel
theorem dX4_cut_54 : decode cX4_cut 54 = .ok (.ireturn, 1) := by decide +kernel
theorem dX4_moved_0 : decode cX4_moved 0 = .ok (.iload_n 2, 1) := by decide +kernel
theorem dX4_moved_1 : decode cX4_moved 1 = .ok (.aload_n 0, 1) := by decide +kernel
theorem dX4_moved_2 : decode cX4_moved 2 = .ok (.iload_n 1, 1) := by decide +kernel
theorem dX4_moved_3 : decode cX4_moved 3 = .ok (.invokevirtual 45, 3) := by decide +kernel
theorem dX4_moved_6 : decode cX4_moved 6 = .ok (.isub, 1) := by decide +kernel
theorem dX4_moved_7 : decode cX4_moved 7 = .ok (.iconst 1, 1) := by decide +kernel
theorem dX4_moved_8 : decode cX4_moved 8 = .ok (.iadd, 1) := by decide +kernel
theorem dX4_moved_9 : decode cX4_moved 9 = .ok (.istore_n 3, 1) := by decide +kernel
theorem dX4_moved_10 : decode cX4_moved 10 = .ok (.aload_n 0, 1) := by decide +kernel
theorem dX4_moved_11 : decode cX4_moved 11 = .ok (.getfield 7, 3) := by decide +kernel
theorem dX4_moved_14 : decode cX4_moved 14 = .ok (.iconst 2, 1) := by decide +kernel
theorem dX4_moved_15 : decode cX4_moved 15 = .ok (.iaload, 1) := by decide +kernel
theorem dX4_moved_16 : decode cX4_moved 16 = .ok (.i2f, 1) := by decide +kernel
theorem dX4_moved_17 : decode cX4_moved 17 = .ok (.ldc 49, 2) := by decide +kernel
theorem dX4_moved_19 : decode cX4_moved 19 = .ok (.fdiv, 1) := by decide +kernel
theorem dX4_moved_20 : decode cX4_moved 20 = .ok (.fstore 4, 2) := by decide +kernel
theorem dX4_moved_22 : decode cX4_moved 22 = .ok (.iload_n 3, 1) := by decide +kernel
theorem dX4_moved_23 : decode cX4_moved 23 = .ok (.iconst 1, 1) := by decide +kernel
theorem dX4_moved_24 : decode cX4_moved 24 = .ok (.if_icmp .ge 7, 3) := by decide +kernel
theorem dX4_moved_27 : decode cX4_moved 27 = .ok (.iconst 0, 1) := by decide +kernel
theorem dX4_moved_28 : decode cX4_moved 28 = .ok (.goto 9, 3) := by decide +kernel
theorem dX4_moved_31 : decode cX4_moved 31 = .ok (.iload_n 3, 1) := by decide +kernel
theorem dX4_moved_32 : decode cX4_moved 32 = .ok (.i2f, 1) := by decide +kernel
theorem dX4_moved_33 : decode cX4_moved 33 = .ok (.fload 4, 2) := by decide +kernel
theorem dX4_moved_35 : decode cX4_moved 35 = .ok (.fmul, 1) := by decide +kernel
theorem dX4_moved_36 : decode cX4_moved 36 = .ok (.f2i, 1) := by decide +kernel
theorem dX4_moved_37 : decode cX4_moved 37 = .ok (.ireturn, 1) := by decide +kernel
theorem dX4_rowAt_0 : decode cX4_rowAt 0 = .ok (.aload_n 0, 1) := by decide +kernel
theorem dX4_rowAt_1 : decode cX4_rowAt 1 = .ok (.iload_n 1, 1) := by decide +kernel
theorem dX4_rowAt_2 : decode cX4_rowAt 2 = .ok (.iconst 3, 1) := by decide +kernel
theorem dX4_rowAt_3 : decode cX4_rowAt 3 = .ok (.invokevirtual 37, 3) := by decide +kernel
theorem dX4_rowAt_6 : decode cX4_rowAt 6 = .ok (.istore_n 3, 1) := by decide +kernel
theorem dX4_rowAt_7 : decode cX4_rowAt 7 = .ok (.aload_n 0, 1) := by decide +kernel
theorem dX4_rowAt_8 : decode cX4_rowAt 8 = .ok (.iload_n 1, 1) := by decide +kernel
theorem dX4_rowAt_9 : decode cX4_rowAt 9 = .ok (.iconst 4, 1) := by decide +kernel
theorem dX4_rowAt_10 : decode cX4_rowAt 10 = .ok (.invokevirtual 37, 3) := by decide +kernel
theorem dX4_rowAt_13 : decode cX4_rowAt 13 = .ok (.iload_n 3, 1) := by decide +kernel
theorem dX4_rowAt_14 : decode cX4_rowAt 14 = .ok (.iconst 3, 1) := by decide +kernel
theorem dX4_rowAt_15 : decode cX4_rowAt 15 = .ok (.if_icmp .ne 13, 3) := by decide +kernel
theorem dX4_rowAt_18 : decode cX4_rowAt 18 = .ok (.aload_n 0, 1) := by decide +kernel
theorem dX4_rowAt_19 : decode cX4_rowAt 19 = .ok (.iload_n 1, 1) := by decide +kernel
theorem dX4_rowAt_20 : decode cX4_rowAt 20 = .ok (.iload_n 2, 1) := by decide +kernel
theorem dX4_rowAt_21 : decode cX4_rowAt 21 = .ok (.invokevirtual 50, 3) := by decide +kernel
theorem dX4_rowAt_24 : decode cX4_rowAt 24 = .ok (.ineg, 1) := by decide +kernel
theorem dX4_rowAt_25 : decode cX4_rowAt 25 = .ok (.goto 18, 3) := by decide +kernel
theorem dX4_rowAt_28 : decode cX4_rowAt 28 = .ok (.iload_n 3, 1) := by decide +kernel
theorem dX4_rowAt_29 : decode cX4_rowAt 29 = .ok (.iconst 4, 1) := by decide +kernel
theorem dX4_rowAt_30 : decode cX4_rowAt 30 = .ok (.if_icmp .ne 12, 3) := by decide +kernel
theorem dX4_rowAt_33 : decode cX4_rowAt 33 = .ok (.aload_n 0, 1) := by decide +kernel
theorem dX4_rowAt_34 : decode cX4_rowAt 34 = .ok (.iload_n 1, 1) := by decide +kernel
theorem dX4_rowAt_35 : decode cX4_rowAt 35 = .ok (.iload_n 2, 1) := by decide +kernel
theorem dX4_rowAt_36 : decode cX4_rowAt 36 = .ok (.invokevirtual 50, 3) := by decide +kernel
theorem dX4_rowAt_39 : decode cX4_rowAt 39 = .ok (.goto 4, 3) := by decide +kernel
theorem dX4_rowAt_42 : decode cX4_rowAt 42 = .ok (.iconst 0, 1) := by decide +kernel
theorem dX4_rowAt_43 : decode cX4_rowAt 43 = .ok (.iadd, 1) := by decide +kernel
theorem dX4_rowAt_44 : decode cX4_rowAt 44 = .ok (.ireturn, 1) := by decide +kernel
theorem dX4_columnAt_0 : decode cX4_columnAt 0 = .ok (.aload_n 0, 1) := by decide +kernel
theorem dX4_columnAt_1 : decode cX4_columnAt 1 = .ok (.iload_n 1, 1) := by decide +kernel
theorem dX4_columnAt_2 : decode cX4_columnAt 2 = .ok (.iconst 3, 1) := by decide +kernel
theorem dX4_columnAt_3 : decode cX4_columnAt 3 = .ok (.invokevirtual 37, 3) := by decide +kernel
theorem dX4_columnAt_6 : decode cX4_columnAt 6 = .ok (.istore_n 3, 1) := by decide +kernel
theorem dX4_columnAt_7 : decode cX4_columnAt 7 = .ok (.aload_n 0, 1) := by decide +kernel
theorem dX4_columnAt_8 : decode cX4_columnAt 8 = .ok (.iload_n 1, 1) := by decide +kernel
theorem dX4_columnAt_9 : decode cX4_columnAt 9 = .ok (.iconst 5, 1) := by decide +kernel
theorem dX4_columnAt_10 : decode cX4_columnAt 10 = .ok (.invokevirtual 37, 3) := by decide +kernel
theorem dX4_columnAt_13 : decode cX4_columnAt 13 = .ok (.iload_n 3, 1) := by decide +kernel
theorem dX4_columnAt_14 : decode cX4_columnAt 14 = .ok (.iconst 1, 1) := by decide +kernel
theorem dX4_columnAt_15 : decode cX4_columnAt 15 = .ok (.if_icmp .ne 13, 3) := by decide +kernel
theorem dX4_columnAt_18 : decode cX4_columnAt 18 = .ok (.aload_n 0, 1) := by decide +kernel
theorem dX4_columnAt_19 : decode cX4_columnAt 19 = .ok (.iload_n 1, 1) := by decide +kernel
theorem dX4_columnAt_20 : decode cX4_columnAt 20 = .ok (.iload_n 2, 1) := by decide +kernel
theorem dX4_columnAt_21 : decode cX4_columnAt 21 = .ok (.invokevirtual 50, 3) := by decide +kernel
theorem dX4_columnAt_24 : decode cX4_columnAt 24 = .ok (.ineg, 1) := by decide +kernel
theorem dX4_columnAt_25 : decode cX4_columnAt 25 = .ok (.goto 18, 3) := by decide +kernel
theorem dX4_columnAt_28 : decode cX4_columnAt 28 = .ok (.iload_n 3, 1) := by decide +kernel
theorem dX4_columnAt_29 : decode cX4_columnAt 29 = .ok (.iconst 2, 1) := by decide +kernel
theorem dX4_columnAt_30 : decode cX4_columnAt 30 = .ok (.if_icmp .ne 12, 3) := by decide +kernel
theorem dX4_columnAt_33 : decode cX4_columnAt 33 = .ok (.aload_n 0, 1) := by decide +kernel
theorem dX4_columnAt_34 : decode cX4_columnAt 34 = .ok (.iload_n 1, 1) := by decide +kernel
theorem dX4_columnAt_35 : decode cX4_columnAt 35 = .ok (.iload_n 2, 1) := by decide +kernel
theorem dX4_columnAt_36 : decode cX4_columnAt 36 = .ok (.invokevirtual 50, 3) := by decide +kernel
theorem dX4_columnAt_39 : decode cX4_columnAt 39 = .ok (.goto 4, 3) := by decide +kernel
theorem dX4_columnAt_42 : decode cX4_columnAt 42 = .ok (.iconst 0, 1) := by decide +kernel
theorem dX4_columnAt_43 : decode cX4_columnAt 43 = .ok (.iadd, 1) := by decide +kernel
theorem dX4_columnAt_44 : decode cX4_columnAt 44 = .ok (.ireturn, 1) := by decide +kernel
theorem dX4_isOn_0 : decode cX4_isOn 0 = .ok (.aload_n 0, 1) := by decide +kernel
theorem dX4_isOn_1 : decode cX4_isOn 1 = .ok (.iload_n 1, 1) := by decide +kernel
theorem dX4_isOn_2 : decode cX4_isOn 2 = .ok (.invokevirtual 41, 3) := by decide +kernel
theorem dX4_isOn_5 : decode cX4_isOn 5 = .ok (.ifCond .eq 40, 3) := by decide +kernel
theorem dX4_isOn_8 : decode cX4_isOn 8 = .ok (.iload_n 2, 1) := by decide +kernel
theorem dX4_isOn_9 : decode cX4_isOn 9 = .ok (.aload_n 0, 1) := by decide +kernel
theorem dX4_isOn_10 : decode cX4_isOn 10 = .ok (.iload_n 1, 1) := by decide +kernel
theorem dX4_isOn_11 : decode cX4_isOn 11 = .ok (.iconst 0, 1) := by decide +kernel
theorem dX4_isOn_12 : decode cX4_isOn 12 = .ok (.invokevirtual 37, 3) := by decide +kernel
theorem dX4_isOn_15 : decode cX4_isOn 15 = .ok (.if_icmp .lt 30, 3) := by decide +kernel
theorem dX4_isOn_18 : decode cX4_isOn 18 = .ok (.iload_n 2, 1) := by decide +kernel
theorem dX4_isOn_19 : decode cX4_isOn 19 = .ok (.aload_n 0, 1) := by decide +kernel
theorem dX4_isOn_20 : decode cX4_isOn 20 = .ok (.iload_n 1, 1) := by decide +kernel
theorem dX4_isOn_21 : decode cX4_isOn 21 = .ok (.invokevirtual 53, 3) := by decide +kernel
theorem dX4_isOn_24 : decode cX4_isOn 24 = .ok (.if_icmp .ge 21, 3) := by decide +kernel
theorem dX4_isOn_27 : decode cX4_isOn 27 = .ok (.aload_n 0, 1) := by decide +kernel
theorem dX4_isOn_28 : decode cX4_isOn 28 = .ok (.iload_n 1, 1) := by decide +kernel
theorem dX4_isOn_29 : decode cX4_isOn 29 = .ok (.iconst 3, 1) := by decide +kernel
theorem dX4_isOn_30 : decode cX4_isOn 30 = .ok (.invokevirtual 37, 3) := by decide +kernel
theorem dX4_isOn_33 : decode cX4_isOn 33 = .ok (.ifCond .ne 14, 3) := by decide +kernel
theorem dX4_isOn_36 : decode cX4_isOn 36 = .ok (.iload_n 2, 1) := by decide +kernel
theorem dX4_isOn_37 : decode cX4_isOn 37 = .ok (.aload_n 0, 1) := by decide +kernel
theorem dX4_isOn_38 : decode cX4_isOn 38 = .ok (.iload_n 1, 1) := by decide +kernel
theorem dX4_isOn_39 : decode cX4_isOn 39 = .ok (.invokevirtual 45, 3) := by decide +kernel
theorem dX4_isOn_42 : decode cX4_isOn 42 = .ok (.if_icmp .lt 5, 3) := by decide +kernel
theorem dX4_isOn_45 : decode cX4_isOn 45 = .ok (.iconst 0, 1) := by decide +kernel
theorem dX4_isOn_46 : decode cX4_isOn 46 = .ok (.ireturn, 1) := by decide +kernel
theorem dX4_isOn_47 : decode cX4_isOn 47 = .ok (.aload_n 0, 1) := by decide +kernel
theorem dX4_isOn_48 : decode cX4_isOn 48 = .ok (.iload_n 1, 1) := by decide +kernel
theorem dX4_isOn_49 : decode cX4_isOn 49 = .ok (.iload_n 2, 1) := by decide +kernel
theorem dX4_isOn_50 : decode cX4_isOn 50 = .ok (.invokevirtual 56, 3) := by decide +kernel
theorem dX4_isOn_53 : decode cX4_isOn 53 = .ok (.istore_n 3, 1) := by decide +kernel
theorem dX4_isOn_54 : decode cX4_isOn 54 = .ok (.aload_n 0, 1) := by decide +kernel
theorem dX4_isOn_55 : decode cX4_isOn 55 = .ok (.iload_n 1, 1) := by decide +kernel
theorem dX4_isOn_56 : decode cX4_isOn 56 = .ok (.iload_n 2, 1) := by decide +kernel
theorem dX4_isOn_57 : decode cX4_isOn 57 = .ok (.invokevirtual 59, 3) := by decide +kernel
theorem dX4_isOn_60 : decode cX4_isOn 60 = .ok (.i2l, 1) := by decide +kernel
theorem dX4_isOn_61 : decode cX4_isOn 61 = .ok (.lconst 0, 1) := by decide +kernel
theorem dX4_isOn_62 : decode cX4_isOn 62 = .ok (.ldc2_w 62, 3) := by decide +kernel
theorem dX4_isOn_65 : decode cX4_isOn 65 = .ok (.invokestatic 33, 3) := by decide +kernel
theorem dX4_isOn_68 : decode cX4_isOn 68 = .ok (.ifCond .eq 25, 3) := by decide +kernel
theorem dX4_isOn_71 : decode cX4_isOn 71 = .ok (.iload_n 3, 1) := by decide +kernel
theorem dX4_isOn_72 : decode cX4_isOn 72 = .ok (.bipush 40, 2) := by decide +kernel
theorem dX4_isOn_74 : decode cX4_isOn 74 = .ok (.if_icmp .ge 19, 3) := by decide +kernel
theorem dX4_isOn_77 : decode cX4_isOn 77 = .ok (.iload_n 3, 1) := by decide +kernel
theorem dX4_isOn_78 : decode cX4_isOn 78 = .ok (.aload_n 0, 1) := by decide +kernel
theorem dX4_isOn_79 : decode cX4_isOn 79 = .ok (.iload_n 1, 1) := by decide +kernel
theorem dX4_isOn_80 : decode cX4_isOn 80 = .ok (.bipush 6, 2) := by decide +kernel
theorem dX4_isOn_82 : decode cX4_isOn 82 = .ok (.invokevirtual 37, 3) := by decide +kernel
theorem dX4_isOn_85 : decode cX4_isOn 85 = .ok (.iadd, 1) := by decide +kernel
theorem dX4_isOn_86 : decode cX4_isOn 86 = .ok (.ifCond .le 7, 3) := by decide +kernel
theorem dX4_isOn_89 : decode cX4_isOn 89 = .ok (.iconst 1, 1) := by decide +kernel
theorem dX4_isOn_90 : decode cX4_isOn 90 = .ok (.goto 4, 3) := by decide +kernel
theorem dX4_isOn_93 : decode cX4_isOn 93 = .ok (.iconst 0, 1) := by decide +kernel
theorem dX4_isOn_94 : decode cX4_isOn 94 = .ok (.ireturn, 1) := by decide +kernel
theorem dX4_meetsAt_0 : decode cX4_meetsAt 0 = .ok (.aload_n 0, 1) := by decide +kernel
theorem dX4_meetsAt_1 : decode cX4_meetsAt 1 = .ok (.iload_n 1, 1) := by decide +kernel
theorem dX4_meetsAt_2 : decode cX4_meetsAt 2 = .ok (.iload_n 3, 1) := by decide +kernel
theorem dX4_meetsAt_3 : decode cX4_meetsAt 3 = .ok (.invokevirtual 64, 3) := by decide +kernel
theorem dX4_meetsAt_6 : decode cX4_meetsAt 6 = .ok (.ifCond .eq 27, 3) := by decide +kernel
theorem dX4_meetsAt_9 : decode cX4_meetsAt 9 = .ok (.aload_n 0, 1) := by decide +kernel
theorem dX4_meetsAt_10 : decode cX4_meetsAt 10 = .ok (.iload_n 2, 1) := by decide +kernel
theorem dX4_meetsAt_11 : decode cX4_meetsAt 11 = .ok (.iload_n 3, 1) := by decide +kernel
theorem dX4_meetsAt_12 : decode cX4_meetsAt 12 = .ok (.invokevirtual 64, 3) := by decide +kernel
theorem dX4_meetsAt_15 : decode cX4_meetsAt 15 = .ok (.ifCond .eq 18, 3) := by decide +kernel
theorem dX4_meetsAt_18 : decode cX4_meetsAt 18 = .ok (.aload_n 0, 1) := by decide +kernel
theorem dX4_meetsAt_19 : decode cX4_meetsAt 19 = .ok (.iload_n 1, 1) := by decide +kernel
theorem dX4_meetsAt_20 : decode cX4_meetsAt 20 = .ok (.iload_n 3, 1) := by decide +kernel
theorem dX4_meetsAt_21 : decode cX4_meetsAt 21 = .ok (.invokevirtual 59, 3) := by decide +kernel
theorem dX4_meetsAt_24 : decode cX4_meetsAt 24 = .ok (.aload_n 0, 1) := by decide +kernel
theorem dX4_meetsAt_25 : decode cX4_meetsAt 25 = .ok (.iload_n 2, 1) := by decide +kernel
theorem dX4_meetsAt_26 : decode cX4_meetsAt 26 = .ok (.iload_n 3, 1) := by decide +kernel
theorem dX4_meetsAt_27 : decode cX4_meetsAt 27 = .ok (.invokevirtual 59, 3) := by decide +kernel
theorem dX4_meetsAt_30 : decode cX4_meetsAt 30 = .ok (.if_icmp .eq 5, 3) := by decide +kernel
theorem dX4_meetsAt_33 : decode cX4_meetsAt 33 = .ok (.iconst 0, 1) := by decide +kernel
theorem dX4_meetsAt_34 : decode cX4_meetsAt 34 = .ok (.ireturn, 1) := by decide +kernel
theorem dX4_meetsAt_35 : decode cX4_meetsAt 35 = .ok (.aload_n 0, 1) := by decide +kernel
theorem dX4_meetsAt_36 : decode cX4_meetsAt 36 = .ok (.iload_n 1, 1) := by decide +kernel
theorem dX4_meetsAt_37 : decode cX4_meetsAt 37 = .ok (.iload_n 3, 1) := by decide +kernel
theorem dX4_meetsAt_38 : decode cX4_meetsAt 38 = .ok (.invokevirtual 56, 3) := by decide +kernel
theorem dX4_meetsAt_41 : decode cX4_meetsAt 41 = .ok (.aload_n 0, 1) := by decide +kernel
theorem dX4_meetsAt_42 : decode cX4_meetsAt 42 = .ok (.iload_n 2, 1) := by decide +kernel
theorem dX4_meetsAt_43 : decode cX4_meetsAt 43 = .ok (.iload_n 3, 1) := by decide +kernel
theorem dX4_meetsAt_44 : decode cX4_meetsAt 44 = .ok (.invokevirtual 56, 3) := by decide +kernel
theorem dX4_meetsAt_47 : decode cX4_meetsAt 47 = .ok (.invokestatic 68, 3) := by decide +kernel
theorem dX4_meetsAt_50 : decode cX4_meetsAt 50 = .ok (.iconst 0, 1) := by decide +kernel
theorem dX4_meetsAt_51 : decode cX4_meetsAt 51 = .ok (.invokestatic 68, 3) := by decide +kernel
theorem dX4_meetsAt_54 : decode cX4_meetsAt 54 = .ok (.istore 4, 2) := by decide +kernel
theorem dX4_meetsAt_56 : decode cX4_meetsAt 56 = .ok (.aload_n 0, 1) := by decide +kernel
theorem dX4_meetsAt_57 : decode cX4_meetsAt 57 = .ok (.iload_n 1, 1) := by decide +kernel
theorem dX4_meetsAt_58 : decode cX4_meetsAt 58 = .ok (.iload_n 3, 1) := by decide +kernel
theorem dX4_meetsAt_59 : decode cX4_meetsAt 59 = .ok (.invokevirtual 56, 3) := by decide +kernel
theorem dX4_meetsAt_62 : decode cX4_meetsAt 62 = .ok (.aload_n 0, 1) := by decide +kernel
theorem dX4_meetsAt_63 : decode cX4_meetsAt 63 = .ok (.iload_n 1, 1) := by decide +kernel
theorem dX4_meetsAt_64 : decode cX4_meetsAt 64 = .ok (.bipush 6, 2) := by decide +kernel
theorem dX4_meetsAt_66 : decode cX4_meetsAt 66 = .ok (.invokevirtual 37, 3) := by decide +kernel
theorem dX4_meetsAt_69 : decode cX4_meetsAt 69 = .ok (.iadd, 1) := by decide +kernel
theorem dX4_meetsAt_70 : decode cX4_meetsAt 70 = .ok (.aload_n 0, 1) := by decide +kernel
theorem dX4_meetsAt_71 : decode cX4_meetsAt 71 = .ok (.iload_n 2, 1) := by decide +kernel
theorem dX4_meetsAt_72 : decode cX4_meetsAt 72 = .ok (.iload_n 3, 1) := by decide +kernel
theorem dX4_meetsAt_73 : decode cX4_meetsAt 73 = .ok (.invokevirtual 56, 3) := by decide +kernel
theorem dX4_meetsAt_76 : decode cX4_meetsAt 76 = .ok (.aload_n 0, 1) := by decide +kernel
theorem dX4_meetsAt_77 : decode cX4_meetsAt 77 = .ok (.iload_n 2, 1) := by decide +kernel
theorem dX4_meetsAt_78 : decode cX4_meetsAt 78 = .ok (.bipush 6, 2) := by decide +kernel
theorem dX4_meetsAt_80 : decode cX4_meetsAt 80 = .ok (.invokevirtual 37, 3) := by decide +kernel
theorem dX4_meetsAt_83 : decode cX4_meetsAt 83 = .ok (.iadd, 1) := by decide +kernel
theorem dX4_meetsAt_84 : decode cX4_meetsAt 84 = .ok (.invokestatic 71, 3) := by decide +kernel
theorem dX4_meetsAt_87 : decode cX4_meetsAt 87 = .ok (.bipush 40, 2) := by decide +kernel
theorem dX4_meetsAt_89 : decode cX4_meetsAt 89 = .ok (.invokestatic 71, 3) := by decide +kernel
theorem dX4_meetsAt_92 : decode cX4_meetsAt 92 = .ok (.istore 5, 2) := by decide +kernel
theorem dX4_meetsAt_94 : decode cX4_meetsAt 94 = .ok (.iload 4, 2) := by decide +kernel
theorem dX4_meetsAt_96 : decode cX4_meetsAt 96 = .ok (.iload 5, 2) := by decide +kernel
theorem dX4_meetsAt_98 : decode cX4_meetsAt 98 = .ok (.if_icmp .ge 7, 3) := by decide +kernel
theorem dX4_meetsAt_101 : decode cX4_meetsAt 101 = .ok (.iconst 1, 1) := by decide +kernel
theorem dX4_meetsAt_102 : decode cX4_meetsAt 102 = .ok (.goto 4, 3) := by decide +kernel
theorem dX4_meetsAt_105 : decode cX4_meetsAt 105 = .ok (.iconst 0, 1) := by decide +kernel
theorem dX4_meetsAt_106 : decode cX4_meetsAt 106 = .ok (.ireturn, 1) := by decide +kernel
theorem dX4_meetingOf_0 : decode cX4_meetingOf 0 = .ok (.aload_n 0, 1) := by decide +kernel
theorem dX4_meetingOf_1 : decode cX4_meetingOf 1 = .ok (.iload_n 1, 1) := by decide +kernel
theorem dX4_meetingOf_2 : decode cX4_meetingOf 2 = .ok (.iconst 0, 1) := by decide +kernel
theorem dX4_meetingOf_3 : decode cX4_meetingOf 3 = .ok (.invokevirtual 37, 3) := by decide +kernel
theorem dX4_meetingOf_6 : decode cX4_meetingOf 6 = .ok (.aload_n 0, 1) := by decide +kernel
theorem dX4_meetingOf_7 : decode cX4_meetingOf 7 = .ok (.iload_n 2, 1) := by decide +kernel
theorem dX4_meetingOf_8 : decode cX4_meetingOf 8 = .ok (.iconst 0, 1) := by decide +kernel
theorem dX4_meetingOf_9 : decode cX4_meetingOf 9 = .ok (.invokevirtual 37, 3) := by decide +kernel
theorem dX4_meetingOf_12 : decode cX4_meetingOf 12 = .ok (.invokestatic 68, 3) := by decide +kernel
theorem dX4_meetingOf_15 : decode cX4_meetingOf 15 = .ok (.istore_n 3, 1) := by decide +kernel
theorem dX4_meetingOf_16 : decode cX4_meetingOf 16 = .ok (.aload_n 0, 1) := by decide +kernel
theorem dX4_meetingOf_17 : decode cX4_meetingOf 17 = .ok (.iload_n 1, 1) := by decide +kernel
theorem dX4_meetingOf_18 : decode cX4_meetingOf 18 = .ok (.iload_n 3, 1) := by decide +kernel
theorem dX4_meetingOf_19 : decode cX4_meetingOf 19 = .ok (.invokevirtual 64, 3) := by decide +kernel
theorem dX4_meetingOf_22 : decode cX4_meetingOf 22 = .ok (.ifCond .eq 30, 3) := by decide +kernel
theorem dX4_meetingOf_25 : decode cX4_meetingOf 25 = .ok (.aload_n 0, 1) := by decide +kernel
theorem dX4_meetingOf_26 : decode cX4_meetingOf 26 = .ok (.iload_n 2, 1) := by decide +kernel
theorem dX4_meetingOf_27 : decode cX4_meetingOf 27 = .ok (.iload_n 3, 1) := by decide +kernel
theorem dX4_meetingOf_28 : decode cX4_meetingOf 28 = .ok (.invokevirtual 64, 3) := by decide +kernel
theorem dX4_meetingOf_31 : decode cX4_meetingOf 31 = .ok (.ifCond .eq 21, 3) := by decide +kernel
theorem dX4_meetingOf_34 : decode cX4_meetingOf 34 = .ok (.aload_n 0, 1) := by decide +kernel
theorem dX4_meetingOf_35 : decode cX4_meetingOf 35 = .ok (.iload_n 1, 1) := by decide +kernel
theorem dX4_meetingOf_36 : decode cX4_meetingOf 36 = .ok (.iload_n 2, 1) := by decide +kernel
theorem dX4_meetingOf_37 : decode cX4_meetingOf 37 = .ok (.iload_n 3, 1) := by decide +kernel
theorem dX4_meetingOf_38 : decode cX4_meetingOf 38 = .ok (.invokevirtual 74, 3) := by decide +kernel
theorem dX4_meetingOf_41 : decode cX4_meetingOf 41 = .ok (.ifCond .eq 5, 3) := by decide +kernel
theorem dX4_meetingOf_44 : decode cX4_meetingOf 44 = .ok (.iload_n 3, 1) := by decide +kernel
theorem dX4_meetingOf_45 : decode cX4_meetingOf 45 = .ok (.ireturn, 1) := by decide +kernel
theorem dX4_meetingOf_46 : decode cX4_meetingOf 46 = .ok (.iinc 3 1, 3) := by decide +kernel
theorem dX4_meetingOf_49 : decode cX4_meetingOf 49 = .ok (.goto (-33), 3) := by decide +kernel
theorem dX4_meetingOf_52 : decode cX4_meetingOf 52 = .ok (.bipush (-19), 2) := by decide +kernel
theorem dX4_meetingOf_54 : decode cX4_meetingOf 54 = .ok (.ireturn, 1) := by decide +kernel
theorem dX4_meetsAny_0 : decode cX4_meetsAny 0 = .ok (.iconst 0, 1) := by decide +kernel
theorem dX4_meetsAny_1 : decode cX4_meetsAny 1 = .ok (.istore_n 2, 1) := by decide +kernel
theorem dX4_meetsAny_2 : decode cX4_meetsAny 2 = .ok (.iconst 0, 1) := by decide +kernel
theorem dX4_meetsAny_3 : decode cX4_meetsAny 3 = .ok (.istore_n 3, 1) := by decide +kernel
theorem dX4_meetsAny_4 : decode cX4_meetsAny 4 = .ok (.iload_n 3, 1) := by decide +kernel
theorem dX4_meetsAny_5 : decode cX4_meetsAny 5 = .ok (.aload_n 0, 1) := by decide +kernel
theorem dX4_meetsAny_6 : decode cX4_meetsAny 6 = .ok (.getfield 7, 3) := by decide +kernel
theorem dX4_meetsAny_9 : decode cX4_meetsAny 9 = .ok (.iconst 0, 1) := by decide +kernel
theorem dX4_meetsAny_10 : decode cX4_meetsAny 10 = .ok (.iaload, 1) := by decide +kernel
theorem dX4_meetsAny_11 : decode cX4_meetsAny 11 = .ok (.if_icmp .ge 43, 3) := by decide +kernel
theorem dX4_meetsAny_14 : decode cX4_meetsAny 14 = .ok (.iload_n 2, 1) := by decide +kernel
theorem dX4_meetsAny_15 : decode cX4_meetsAny 15 = .ok (.ifCond .ne 39, 3) := by decide +kernel
theorem dX4_meetsAny_18 : decode cX4_meetsAny 18 = .ok (.iload_n 3, 1) := by decide +kernel
theorem dX4_meetsAny_19 : decode cX4_meetsAny 19 = .ok (.iload_n 1, 1) := by decide +kernel
theorem dX4_meetsAny_20 : decode cX4_meetsAny 20 = .ok (.if_icmp .eq 26, 3) := by decide +kernel
theorem dX4_meetsAny_23 : decode cX4_meetsAny 23 = .ok (.aload_n 0, 1) := by decide +kernel
theorem dX4_meetsAny_24 : decode cX4_meetsAny 24 = .ok (.iload_n 3, 1) := by decide +kernel
theorem dX4_meetsAny_25 : decode cX4_meetsAny 25 = .ok (.invokevirtual 41, 3) := by decide +kernel
theorem dX4_meetsAny_28 : decode cX4_meetsAny 28 = .ok (.ifCond .eq 18, 3) := by decide +kernel
theorem dX4_meetsAny_31 : decode cX4_meetsAny 31 = .ok (.aload_n 0, 1) := by decide +kernel
theorem dX4_meetsAny_32 : decode cX4_meetsAny 32 = .ok (.iload_n 1, 1) := by decide +kernel
theorem dX4_meetsAny_33 : decode cX4_meetsAny 33 = .ok (.iload_n 3, 1) := by decide +kernel
theorem dX4_meetsAny_34 : decode cX4_meetsAny 34 = .ok (.invokevirtual 78, 3) := by decide +kernel
theorem dX4_meetsAny_37 : decode cX4_meetsAny 37 = .ok (.bipush (-19), 2) := by decide +kernel
theorem dX4_meetsAny_39 : decode cX4_meetsAny 39 = .ok (.if_icmp .eq 7, 3) := by decide +kernel
theorem dX4_meetsAny_42 : decode cX4_meetsAny 42 = .ok (.iconst 1, 1) := by decide +kernel
theorem dX4_meetsAny_43 : decode cX4_meetsAny 43 = .ok (.goto 4, 3) := by decide +kernel
theorem dX4_meetsAny_46 : decode cX4_meetsAny 46 = .ok (.iconst 0, 1) := by decide +kernel
theorem dX4_meetsAny_47 : decode cX4_meetsAny 47 = .ok (.istore_n 2, 1) := by decide +kernel
theorem dX4_meetsAny_48 : decode cX4_meetsAny 48 = .ok (.iinc 3 1, 3) := by decide +kernel
theorem dX4_meetsAny_51 : decode cX4_meetsAny 51 = .ok (.goto (-47), 3) := by decide +kernel
theorem dX4_meetsAny_54 : decode cX4_meetsAny 54 = .ok (.iload_n 2, 1) := by decide +kernel
theorem dX4_meetsAny_55 : decode cX4_meetsAny 55 = .ok (.ireturn, 1) := by decide +kernel
theorem dX4_makeWord_0 : decode cX4_makeWord 0 = .ok (.aload_n 0, 1) := by decide +kernel
theorem dX4_makeWord_1 : decode cX4_makeWord 1 = .ok (.getfield 7, 3) := by decide +kernel
theorem dX4_makeWord_4 : decode cX4_makeWord 4 = .ok (.iconst 0, 1) := by decide +kernel
theorem dX4_makeWord_5 : decode cX4_makeWord 5 = .ok (.iaload, 1) := by decide +kernel
theorem dX4_makeWord_6 : decode cX4_makeWord 6 = .ok (.istore 6, 2) := by decide +kernel
theorem dX4_makeWord_8 : decode cX4_makeWord 8 = .ok (.aload_n 0, 1) := by decide +kernel
theorem dX4_makeWord_9 : decode cX4_makeWord 9 = .ok (.iload 6, 2) := by decide +kernel
theorem dX4_makeWord_11 : decode cX4_makeWord 11 = .ok (.bipush 6, 2) := by decide +kernel
theorem dX4_makeWord_13 : decode cX4_makeWord 13 = .ok (.iload_n 1, 1) := by decide +kernel
theorem dX4_makeWord_14 : decode cX4_makeWord 14 = .ok (.invokevirtual 81, 3) := by decide +kernel
theorem dX4_makeWord_17 : decode cX4_makeWord 17 = .ok (.aload_n 0, 1) := by decide +kernel
theorem dX4_makeWord_18 : decode cX4_makeWord 18 = .ok (.iload 6, 2) := by decide +kernel
theorem dX4_makeWord_20 : decode cX4_makeWord 20 = .ok (.iconst 0, 1) := by decide +kernel
theorem dX4_makeWord_21 : decode cX4_makeWord 21 = .ok (.iload_n 2, 1) := by decide +kernel
theorem dX4_makeWord_22 : decode cX4_makeWord 22 = .ok (.invokevirtual 81, 3) := by decide +kernel
theorem dX4_makeWord_25 : decode cX4_makeWord 25 = .ok (.aload_n 0, 1) := by decide +kernel
theorem dX4_makeWord_26 : decode cX4_makeWord 26 = .ok (.iload 6, 2) := by decide +kernel
theorem dX4_makeWord_28 : decode cX4_makeWord 28 = .ok (.iconst 1, 1) := by decide +kernel
theorem dX4_makeWord_29 : decode cX4_makeWord 29 = .ok (.iload_n 3, 1) := by decide +kernel
theorem dX4_makeWord_30 : decode cX4_makeWord 30 = .ok (.invokevirtual 81, 3) := by decide +kernel
theorem dX4_makeWord_33 : decode cX4_makeWord 33 = .ok (.aload_n 0, 1) := by decide +kernel
theorem dX4_makeWord_34 : decode cX4_makeWord 34 = .ok (.iload 6, 2) := by decide +kernel
theorem dX4_makeWord_36 : decode cX4_makeWord 36 = .ok (.iconst 2, 1) := by decide +kernel
theorem dX4_makeWord_37 : decode cX4_makeWord 37 = .ok (.iload 4, 2) := by decide +kernel
theorem dX4_makeWord_39 : decode cX4_makeWord 39 = .ok (.invokevirtual 81, 3) := by decide +kernel
theorem dX4_makeWord_42 : decode cX4_makeWord 42 = .ok (.aload_n 0, 1) := by decide +kernel
theorem dX4_makeWord_43 : decode cX4_makeWord 43 = .ok (.iload 6, 2) := by decide +kernel
theorem dX4_makeWord_45 : decode cX4_makeWord 45 = .ok (.iconst 3, 1) := by decide +kernel
theorem dX4_makeWord_46 : decode cX4_makeWord 46 = .ok (.iload 5, 2) := by decide +kernel
theorem dX4_makeWord_48 : decode cX4_makeWord 48 = .ok (.invokevirtual 81, 3) := by decide +kernel
theorem dX4_makeWord_51 : decode cX4_makeWord 51 = .ok (.aload_n 0, 1) := by decide +kernel
theorem dX4_makeWord_52 : decode cX4_makeWord 52 = .ok (.iload 6, 2) := by decide +kernel
theorem dX4_makeWord_54 : decode cX4_makeWord 54 = .ok (.iconst 4, 1) := by decide +kernel
theorem dX4_makeWord_55 : decode cX4_makeWord 55 = .ok (.iconst (-1), 1) := by decide +kernel
theorem dX4_makeWord_56 : decode cX4_makeWord 56 = .ok (.invokevirtual 81, 3) := by decide +kernel
theorem dX4_makeWord_59 : decode cX4_makeWord 59 = .ok (.aload_n 0, 1) := by decide +kernel
theorem dX4_makeWord_60 : decode cX4_makeWord 60 = .ok (.iload 6, 2) := by decide +kernel
theorem dX4_makeWord_62 : decode cX4_makeWord 62 = .ok (.iconst 5, 1) := by decide +kernel
theorem dX4_makeWord_63 : decode cX4_makeWord 63 = .ok (.iconst (-1), 1) := by decide +kernel
theorem dX4_makeWord_64 : decode cX4_makeWord 64 = .ok (.invokevirtual 81, 3) := by decide +kernel
theorem dX4_makeWord_67 : decode cX4_makeWord 67 = .ok (.aload_n 0, 1) := by decide +kernel
theorem dX4_makeWord_68 : decode cX4_makeWord 68 = .ok (.getfield 7, 3) := by decide +kernel
theorem dX4_makeWord_71 : decode cX4_makeWord 71 = .ok (.iconst 0, 1) := by decide +kernel
theorem dX4_makeWord_72 : decode cX4_makeWord 72 = .ok (.dup2, 1) := by decide +kernel
theorem dX4_makeWord_73 : decode cX4_makeWord 73 = .ok (.iaload, 1) := by decide +kernel
theorem dX4_makeWord_74 : decode cX4_makeWord 74 = .ok (.iconst 1, 1) := by decide +kernel
theorem dX4_makeWord_75 : decode cX4_makeWord 75 = .ok (.iadd, 1) := by decide +kernel
theorem dX4_makeWord_76 : decode cX4_makeWord 76 = .ok (.iastore, 1) := by decide +kernel
theorem dX4_makeWord_77 : decode cX4_makeWord 77 = .ok (.iload 6, 2) := by decide +kernel
theorem dX4_makeWord_79 : decode cX4_makeWord 79 = .ok (.ireturn, 1) := by decide +kernel
theorem dX4_isPart_0 : decode cX4_isPart 0 = .ok (.iload_n 0, 1) := by decide +kernel
theorem dX4_isPart_1 : decode cX4_isPart 1 = .ok (.tableswitch 71 0 3 #[31, 41, 51, 61], 31) := by decide +kernel
theorem dX4_isPart_32 : decode cX4_isPart 32 = .ok (.iload_n 1, 1) := by decide +kernel
theorem dX4_isPart_33 : decode cX4_isPart 33 = .ok (.i2l, 1) := by decide +kernel
theorem dX4_isPart_34 : decode cX4_isPart 34 = .ok (.lconst 0, 1) := by decide +kernel
theorem dX4_isPart_35 : decode cX4_isPart 35 = .ok (.ldc2_w 85, 3) := by decide +kernel
theorem dX4_isPart_38 : decode cX4_isPart 38 = .ok (.invokestatic 33, 3) := by decide +kernel
theorem dX4_isPart_41 : decode cX4_isPart 41 = .ok (.ireturn, 1) := by decide +kernel
theorem dX4_isPart_42 : decode cX4_isPart 42 = .ok (.iload_n 1, 1) := by decide +kernel
theorem dX4_isPart_43 : decode cX4_isPart 43 = .ok (.i2l, 1) := by decide +kernel
theorem dX4_isPart_44 : decode cX4_isPart 44 = .ok (.lconst 1, 1) := by decide +kernel
theorem dX4_isPart_45 : decode cX4_isPart 45 = .ok (.ldc2_w 87, 3) := by decide +kernel
theorem dX4_isPart_48 : decode cX4_isPart 48 = .ok (.invokestatic 33, 3) := by decide +kernel
theorem dX4_isPart_51 : decode cX4_isPart 51 = .ok (.ireturn, 1) := by decide +kernel
theorem dX4_isPart_52 : decode cX4_isPart 52 = .ok (.iload_n 1, 1) := by decide +kernel
theorem dX4_isPart_53 : decode cX4_isPart 53 = .ok (.i2l, 1) := by decide +kernel
theorem dX4_isPart_54 : decode cX4_isPart 54 = .ok (.lconst 0, 1) := by decide +kernel
theorem dX4_isPart_55 : decode cX4_isPart 55 = .ok (.ldc2_w 87, 3) := by decide +kernel
theorem dX4_isPart_58 : decode cX4_isPart 58 = .ok (.invokestatic 33, 3) := by decide +kernel
theorem dX4_isPart_61 : decode cX4_isPart 61 = .ok (.ireturn, 1) := by decide +kernel
theorem dX4_isPart_62 : decode cX4_isPart 62 = .ok (.iload_n 1, 1) := by decide +kernel
theorem dX4_isPart_63 : decode cX4_isPart 63 = .ok (.i2l, 1) := by decide +kernel
theorem dX4_isPart_64 : decode cX4_isPart 64 = .ok (.lconst 0, 1) := by decide +kernel
theorem dX4_isPart_65 : decode cX4_isPart 65 = .ok (.ldc2_w 89, 3) := by decide +kernel
theorem dX4_isPart_68 : decode cX4_isPart 68 = .ok (.invokestatic 33, 3) := by decide +kernel
theorem dX4_isPart_71 : decode cX4_isPart 71 = .ok (.ireturn, 1) := by decide +kernel
theorem dX4_isPart_72 : decode cX4_isPart 72 = .ok (.iconst 0, 1) := by decide +kernel
theorem dX4_isPart_73 : decode cX4_isPart 73 = .ok (.ireturn, 1) := by decide +kernel
theorem dX4_addWord_0 : decode cX4_addWord 0 = .ok (.aload_n 0, 1) := by decide +kernel
theorem dX4_addWord_1 : decode cX4_addWord 1 = .ok (.iconst 0, 1) := by decide +kernel
theorem dX4_addWord_2 : decode cX4_addWord 2 = .ok (.putfield 26, 3) := by decide +kernel
theorem dX4_addWord_5 : decode cX4_addWord 5 = .ok (.iload_n 1, 1) := by decide +kernel
theorem dX4_addWord_6 : decode cX4_addWord 6 = .ok (.i2l, 1) := by decide +kernel
theorem dX4_addWord_7 : decode cX4_addWord 7 = .ok (.lconst 1, 1) := by decide +kernel
theorem dX4_addWord_8 : decode cX4_addWord 8 = .ok (.ldc2_w 91, 3) := by decide +kernel
theorem dX4_addWord_11 : decode cX4_addWord 11 = .ok (.invokestatic 33, 3) := by decide +kernel
theorem dX4_addWord_14 : decode cX4_addWord 14 = .ok (.ifCond .eq 37, 3) := by decide +kernel
theorem dX4_addWord_17 : decode cX4_addWord 17 = .ok (.iconst 0, 1) := by decide +kernel
theorem dX4_addWord_18 : decode cX4_addWord 18 = .ok (.iload_n 2, 1) := by decide +kernel
theorem dX4_addWord_19 : decode cX4_addWord 19 = .ok (.invokestatic 93, 3) := by decide +kernel
theorem dX4_addWord_22 : decode cX4_addWord 22 = .ok (.ifCond .eq 29, 3) := by decide +kernel
theorem dX4_addWord_25 : decode cX4_addWord 25 = .ok (.iconst 1, 1) := by decide +kernel
theorem dX4_addWord_26 : decode cX4_addWord 26 = .ok (.iload_n 3, 1) := by decide +kernel
theorem dX4_addWord_27 : decode cX4_addWord 27 = .ok (.invokestatic 93, 3) := by decide +kernel
theorem dX4_addWord_30 : decode cX4_addWord 30 = .ok (.ifCond .eq 21, 3) := by decide +kernel
theorem dX4_addWord_33 : decode cX4_addWord 33 = .ok (.iconst 2, 1) := by decide +kernel
theorem dX4_addWord_34 : decode cX4_addWord 34 = .ok (.iload 4, 2) := by decide +kernel
theorem dX4_addWord_36 : decode cX4_addWord 36 = .ok (.invokestatic 93, 3) := by decide +kernel
theorem dX4_addWord_39 : decode cX4_addWord 39 = .ok (.ifCond .eq 12, 3) := by decide +kernel
theorem dX4_addWord_42 : decode cX4_addWord 42 = .ok (.iconst 3, 1) := by decide +kernel
theorem dX4_addWord_43 : decode cX4_addWord 43 = .ok (.iload 5, 2) := by decide +kernel
theorem dX4_addWord_45 : decode cX4_addWord 45 = .ok (.invokestatic 93, 3) := by decide +kernel
theorem dX4_addWord_48 : decode cX4_addWord 48 = .ok (.ifCond .ne 6, 3) := by decide +kernel
theorem dX4_addWord_51 : decode cX4_addWord 51 = .ok (.bipush (-11), 2) := by decide +kernel
theorem dX4_addWord_53 : decode cX4_addWord 53 = .ok (.ireturn, 1) := by decide +kernel
theorem dX4_addWord_54 : decode cX4_addWord 54 = .ok (.aload_n 0, 1) := by decide +kernel
theorem dX4_addWord_55 : decode cX4_addWord 55 = .ok (.getfield 7, 3) := by decide +kernel
theorem dX4_addWord_58 : decode cX4_addWord 58 = .ok (.iconst 0, 1) := by decide +kernel
theorem dX4_addWord_59 : decode cX4_addWord 59 = .ok (.iaload, 1) := by decide +kernel
theorem dX4_addWord_60 : decode cX4_addWord 60 = .ok (.bipush 12, 2) := by decide +kernel
theorem dX4_addWord_62 : decode cX4_addWord 62 = .ok (.if_icmp .ne 6, 3) := by decide +kernel
theorem dX4_addWord_65 : decode cX4_addWord 65 = .ok (.bipush (-13), 2) := by decide +kernel
theorem dX4_addWord_67 : decode cX4_addWord 67 = .ok (.ireturn, 1) := by decide +kernel
theorem dX4_addWord_68 : decode cX4_addWord 68 = .ok (.aload_n 0, 1) := by decide +kernel
theorem dX4_addWord_69 : decode cX4_addWord 69 = .ok (.invokevirtual 96, 3) := by decide +kernel
theorem dX4_addWord_72 : decode cX4_addWord 72 = .ok (.aload_n 0, 1) := by decide +kernel
theorem dX4_addWord_73 : decode cX4_addWord 73 = .ok (.iload_n 1, 1) := by decide +kernel
theorem dX4_addWord_74 : decode cX4_addWord 74 = .ok (.iload_n 2, 1) := by decide +kernel
theorem dX4_addWord_75 : decode cX4_addWord 75 = .ok (.iload_n 3, 1) := by decide +kernel
theorem dX4_addWord_76 : decode cX4_addWord 76 = .ok (.iload 4, 2) := by decide +kernel
theorem dX4_addWord_78 : decode cX4_addWord 78 = .ok (.iload 5, 2) := by decide +kernel
theorem dX4_addWord_80 : decode cX4_addWord 80 = .ok (.invokevirtual 99, 3) := by decide +kernel
theorem dX4_addWord_83 : decode cX4_addWord 83 = .ok (.istore 6, 2) := by decide +kernel
theorem dX4_addWord_85 : decode cX4_addWord 85 = .ok (.iconst 0, 1) := by decide +kernel
theorem dX4_addWord_86 : decode cX4_addWord 86 = .ok (.istore 7, 2) := by decide +kernel
theorem dX4_addWord_88 : decode cX4_addWord 88 = .ok (.iload 7, 2) := by decide +kernel
theorem dX4_addWord_90 : decode cX4_addWord 90 = .ok (.iload_n 1, 1) := by decide +kernel
theorem dX4_addWord_91 : decode cX4_addWord 91 = .ok (.if_icmp .ge 25, 3) := by decide +kernel
theorem dX4_addWord_94 : decode cX4_addWord 94 = .ok (.aload_n 0, 1) := by decide +kernel
theorem dX4_addWord_95 : decode cX4_addWord 95 = .ok (.iload 6, 2) := by decide +kernel
theorem dX4_addWord_97 : decode cX4_addWord 97 = .ok (.bipush 7, 2) := by decide +kernel
theorem dX4_addWord_99 : decode cX4_addWord 99 = .ok (.iload 7, 2) := by decide +kernel
theorem dX4_addWord_101 : decode cX4_addWord 101 = .ok (.iadd, 1) := by decide +kernel
theorem dX4_addWord_102 : decode cX4_addWord 102 = .ok (.bipush 97, 2) := by decide +kernel
theorem dX4_addWord_104 : decode cX4_addWord 104 = .ok (.iload 7, 2) := by decide +kernel
theorem dX4_addWord_106 : decode cX4_addWord 106 = .ok (.iadd, 1) := by decide +kernel
theorem dX4_addWord_107 : decode cX4_addWord 107 = .ok (.invokevirtual 81, 3) := by decide +kernel
theorem dX4_addWord_110 : decode cX4_addWord 110 = .ok (.iinc 7 1, 3) := by decide +kernel
theorem dX4_addWord_113 : decode cX4_addWord 113 = .ok (.goto (-25), 3) := by decide +kernel
theorem dX4_addWord_116 : decode cX4_addWord 116 = .ok (.iload 6, 2) := by decide +kernel
theorem dX4_addWord_118 : decode cX4_addWord 118 = .ok (.ireturn, 1) := by decide +kernel
theorem dX4_removeWord_0 : decode cX4_removeWord 0 = .ok (.aload_n 0, 1) := by decide +kernel
theorem dX4_removeWord_1 : decode cX4_removeWord 1 = .ok (.iconst 0, 1) := by decide +kernel
theorem dX4_removeWord_2 : decode cX4_removeWord 2 = .ok (.putfield 26, 3) := by decide +kernel
theorem dX4_removeWord_5 : decode cX4_removeWord 5 = .ok (.aload_n 0, 1) := by decide +kernel
theorem dX4_removeWord_6 : decode cX4_removeWord 6 = .ok (.iload_n 1, 1) := by decide +kernel
theorem dX4_removeWord_7 : decode cX4_removeWord 7 = .ok (.invokevirtual 103, 3) := by decide +kernel
theorem dX4_removeWord_10 : decode cX4_removeWord 10 = .ok (.ifCond .ne 6, 3) := by decide +kernel
theorem dX4_removeWord_13 : decode cX4_removeWord 13 = .ok (.bipush (-11), 2) := by decide +kernel
theorem dX4_removeWord_15 : decode cX4_removeWord 15 = .ok (.ireturn, 1) := by decide +kernel
theorem dX4_removeWord_16 : decode cX4_removeWord 16 = .ok (.aload_n 0, 1) := by decide +kernel
theorem dX4_removeWord_17 : decode cX4_removeWord 17 = .ok (.invokevirtual 96, 3) := by decide +kernel
theorem dX4_removeWord_20 : decode cX4_removeWord 20 = .ok (.aload_n 0, 1) := by decide +kernel
theorem dX4_removeWord_21 : decode cX4_removeWord 21 = .ok (.getfield 7, 3) := by decide +kernel
theorem dX4_removeWord_24 : decode cX4_removeWord 24 = .ok (.iconst 0, 1) := by decide +kernel
theorem dX4_removeWord_25 : decode cX4_removeWord 25 = .ok (.dup2, 1) := by decide +kernel
theorem dX4_removeWord_26 : decode cX4_removeWord 26 = .ok (.iaload, 1) := by decide +kernel
theorem dX4_removeWord_27 : decode cX4_removeWord 27 = .ok (.iconst 1, 1) := by decide +kernel
theorem dX4_removeWord_28 : decode cX4_removeWord 28 = .ok (.isub, 1) := by decide +kernel
theorem dX4_removeWord_29 : decode cX4_removeWord 29 = .ok (.iastore, 1) := by decide +kernel
theorem dX4_removeWord_30 : decode cX4_removeWord 30 = .ok (.bipush 13, 2) := by decide +kernel
theorem dX4_removeWord_32 : decode cX4_removeWord 32 = .ok (.bipush 19, 2) := by decide +kernel
theorem dX4_removeWord_34 : decode cX4_removeWord 34 = .ok (.iload_n 1, 1) := by decide +kernel
theorem dX4_removeWord_35 : decode cX4_removeWord 35 = .ok (.imul, 1) := by decide +kernel
theorem dX4_removeWord_36 : decode cX4_removeWord 36 = .ok (.iadd, 1) := by decide +kernel
theorem dX4_removeWord_37 : decode cX4_removeWord 37 = .ok (.istore_n 2, 1) := by decide +kernel
theorem dX4_removeWord_38 : decode cX4_removeWord 38 = .ok (.iload_n 2, 1) := by decide +kernel
theorem dX4_removeWord_39 : decode cX4_removeWord 39 = .ok (.bipush 13, 2) := by decide +kernel
theorem dX4_removeWord_41 : decode cX4_removeWord 41 = .ok (.bipush 19, 2) := by decide +kernel
theorem dX4_removeWord_43 : decode cX4_removeWord 43 = .ok (.aload_n 0, 1) := by decide +kernel
theorem dX4_removeWord_44 : decode cX4_removeWord 44 = .ok (.getfield 7, 3) := by decide +kernel
theorem dX4_removeWord_47 : decode cX4_removeWord 47 = .ok (.iconst 0, 1) := by decide +kernel
theorem dX4_removeWord_48 : decode cX4_removeWord 48 = .ok (.iaload, 1) := by decide +kernel
theorem dX4_removeWord_49 : decode cX4_removeWord 49 = .ok (.imul, 1) := by decide +kernel
theorem dX4_removeWord_50 : decode cX4_removeWord 50 = .ok (.iadd, 1) := by decide +kernel
theorem dX4_removeWord_51 : decode cX4_removeWord 51 = .ok (.if_icmp .ge 24, 3) := by decide +kernel
theorem dX4_removeWord_54 : decode cX4_removeWord 54 = .ok (.aload_n 0, 1) := by decide +kernel
theorem dX4_removeWord_55 : decode cX4_removeWord 55 = .ok (.getfield 7, 3) := by decide +kernel
theorem dX4_removeWord_58 : decode cX4_removeWord 58 = .ok (.iload_n 2, 1) := by decide +kernel
theorem dX4_removeWord_59 : decode cX4_removeWord 59 = .ok (.aload_n 0, 1) := by decide +kernel
theorem dX4_removeWord_60 : decode cX4_removeWord 60 = .ok (.getfield 7, 3) := by decide +kernel
theorem dX4_removeWord_63 : decode cX4_removeWord 63 = .ok (.iload_n 2, 1) := by decide +kernel
theorem dX4_removeWord_64 : decode cX4_removeWord 64 = .ok (.bipush 19, 2) := by decide +kernel
theorem dX4_removeWord_66 : decode cX4_removeWord 66 = .ok (.iadd, 1) := by decide +kernel
theorem dX4_removeWord_67 : decode cX4_removeWord 67 = .ok (.iaload, 1) := by decide +kernel
theorem dX4_removeWord_68 : decode cX4_removeWord 68 = .ok (.iastore, 1) := by decide +kernel
theorem dX4_removeWord_69 : decode cX4_removeWord 69 = .ok (.iinc 2 1, 3) := by decide +kernel
theorem dX4_removeWord_72 : decode cX4_removeWord 72 = .ok (.goto (-34), 3) := by decide +kernel
theorem dX4_removeWord_75 : decode cX4_removeWord 75 = .ok (.aload_n 0, 1) := by decide +kernel
theorem dX4_removeWord_76 : decode cX4_removeWord 76 = .ok (.getfield 7, 3) := by decide +kernel
theorem dX4_removeWord_79 : decode cX4_removeWord 79 = .ok (.iconst 0, 1) := by decide +kernel
theorem dX4_removeWord_80 : decode cX4_removeWord 80 = .ok (.iaload, 1) := by decide +kernel
theorem dX4_removeWord_81 : decode cX4_removeWord 81 = .ok (.ireturn, 1) := by decide +kernel
theorem dX4_takeOff_0 : decode cX4_takeOff 0 = .ok (.aload_n 0, 1) := by decide +kernel
theorem dX4_takeOff_1 : decode cX4_takeOff 1 = .ok (.iload_n 1, 1) := by decide +kernel
theorem dX4_takeOff_2 : decode cX4_takeOff 2 = .ok (.iconst 4, 1) := by decide +kernel
theorem dX4_takeOff_3 : decode cX4_takeOff 3 = .ok (.iconst (-1), 1) := by decide +kernel
theorem dX4_takeOff_4 : decode cX4_takeOff 4 = .ok (.invokevirtual 81, 3) := by decide +kernel
theorem dX4_takeOff_7 : decode cX4_takeOff 7 = .ok (.aload_n 0, 1) := by decide +kernel
theorem dX4_takeOff_8 : decode cX4_takeOff 8 = .ok (.iload_n 1, 1) := by decide +kernel
theorem dX4_takeOff_9 : decode cX4_takeOff 9 = .ok (.iconst 5, 1) := by decide +kernel
theorem dX4_takeOff_10 : decode cX4_takeOff 10 = .ok (.iconst (-1), 1) := by decide +kernel
theorem dX4_takeOff_11 : decode cX4_takeOff 11 = .ok (.invokevirtual 81, 3) := by decide +kernel
theorem dX4_takeOff_14 : decode cX4_takeOff 14 = .ok (.return_, 1) := by decide +kernel
theorem dX4_setWord_0 : decode cX4_setWord 0 = .ok (.aload_n 0, 1) := by decide +kernel
theorem dX4_setWord_1 : decode cX4_setWord 1 = .ok (.iconst 0, 1) := by decide +kernel
theorem dX4_setWord_2 : decode cX4_setWord 2 = .ok (.putfield 26, 3) := by decide +kernel
theorem dX4_setWord_5 : decode cX4_setWord 5 = .ok (.aload_n 0, 1) := by decide +kernel
theorem dX4_setWord_6 : decode cX4_setWord 6 = .ok (.iload_n 1, 1) := by decide +kernel
theorem dX4_setWord_7 : decode cX4_setWord 7 = .ok (.invokevirtual 103, 3) := by decide +kernel
theorem dX4_setWord_10 : decode cX4_setWord 10 = .ok (.ifCond .eq 11, 3) := by decide +kernel
theorem dX4_setWord_13 : decode cX4_setWord 13 = .ok (.iload_n 2, 1) := by decide +kernel
theorem dX4_setWord_14 : decode cX4_setWord 14 = .ok (.iload_n 3, 1) := by decide +kernel
theorem dX4_setWord_15 : decode cX4_setWord 15 = .ok (.invokestatic 93, 3) := by decide +kernel
theorem dX4_setWord_18 : decode cX4_setWord 18 = .ok (.ifCond .ne 6, 3) := by decide +kernel
theorem dX4_setWord_21 : decode cX4_setWord 21 = .ok (.bipush (-11), 2) := by decide +kernel
theorem dX4_setWord_23 : decode cX4_setWord 23 = .ok (.ireturn, 1) := by decide +kernel
theorem dX4_setWord_24 : decode cX4_setWord 24 = .ok (.aload_n 0, 1) := by decide +kernel
theorem dX4_setWord_25 : decode cX4_setWord 25 = .ok (.invokevirtual 96, 3) := by decide +kernel
theorem dX4_setWord_28 : decode cX4_setWord 28 = .ok (.aload_n 0, 1) := by decide +kernel
theorem dX4_setWord_29 : decode cX4_setWord 29 = .ok (.iload_n 1, 1) := by decide +kernel
theorem dX4_setWord_30 : decode cX4_setWord 30 = .ok (.iload_n 2, 1) := by decide +kernel
theorem dX4_setWord_31 : decode cX4_setWord 31 = .ok (.invokevirtual 37, 3) := by decide +kernel
theorem dX4_setWord_34 : decode cX4_setWord 34 = .ok (.istore 4, 2) := by decide +kernel
theorem dX4_setWord_36 : decode cX4_setWord 36 = .ok (.aload_n 0, 1) := by decide +kernel
theorem dX4_setWord_37 : decode cX4_setWord 37 = .ok (.iload_n 1, 1) := by decide +kernel
theorem dX4_setWord_38 : decode cX4_setWord 38 = .ok (.iload_n 2, 1) := by decide +kernel
theorem dX4_setWord_39 : decode cX4_setWord 39 = .ok (.iload_n 3, 1) := by decide +kernel
theorem dX4_setWord_40 : decode cX4_setWord 40 = .ok (.invokevirtual 81, 3) := by decide +kernel
theorem dX4_setWord_43 : decode cX4_setWord 43 = .ok (.aload_n 0, 1) := by decide +kernel
theorem dX4_setWord_44 : decode cX4_setWord 44 = .ok (.iload_n 1, 1) := by decide +kernel
theorem dX4_setWord_45 : decode cX4_setWord 45 = .ok (.invokevirtual 106, 3) := by decide +kernel
theorem dX4_setWord_48 : decode cX4_setWord 48 = .ok (.iload 4, 2) := by decide +kernel
theorem dX4_setWord_50 : decode cX4_setWord 50 = .ok (.ireturn, 1) := by decide +kernel
theorem dX4_shotOf_0 : decode cX4_shotOf 0 = .ok (.iconst 0, 1) := by decide +kernel
theorem dX4_shotOf_1 : decode cX4_shotOf 1 = .ok (.istore_n 2, 1) := by decide +kernel
theorem dX4_shotOf_2 : decode cX4_shotOf 2 = .ok (.iload_n 2, 1) := by decide +kernel
theorem dX4_shotOf_3 : decode cX4_shotOf 3 = .ok (.aload_n 0, 1) := by decide +kernel
theorem dX4_shotOf_4 : decode cX4_shotOf 4 = .ok (.getfield 7, 3) := by decide +kernel
theorem dX4_shotOf_7 : decode cX4_shotOf 7 = .ok (.iconst 1, 1) := by decide +kernel
theorem dX4_shotOf_8 : decode cX4_shotOf 8 = .ok (.iaload, 1) := by decide +kernel
theorem dX4_shotOf_9 : decode cX4_shotOf 9 = .ok (.if_icmp .ge 23, 3) := by decide +kernel
theorem dX4_shotOf_12 : decode cX4_shotOf 12 = .ok (.aload_n 0, 1) := by decide +kernel
theorem dX4_shotOf_13 : decode cX4_shotOf 13 = .ok (.getfield 7, 3) := by decide +kernel
theorem dX4_shotOf_16 : decode cX4_shotOf 16 = .ok (.iconst 3, 1) := by decide +kernel
theorem dX4_shotOf_17 : decode cX4_shotOf 17 = .ok (.iload_n 2, 1) := by decide +kernel
theorem dX4_shotOf_18 : decode cX4_shotOf 18 = .ok (.iadd, 1) := by decide +kernel
theorem dX4_shotOf_19 : decode cX4_shotOf 19 = .ok (.iaload, 1) := by decide +kernel
theorem dX4_shotOf_20 : decode cX4_shotOf 20 = .ok (.iload_n 1, 1) := by decide +kernel
theorem dX4_shotOf_21 : decode cX4_shotOf 21 = .ok (.if_icmp .ne 5, 3) := by decide +kernel
theorem dX4_shotOf_24 : decode cX4_shotOf 24 = .ok (.iload_n 2, 1) := by decide +kernel
theorem dX4_shotOf_25 : decode cX4_shotOf 25 = .ok (.ireturn, 1) := by decide +kernel
theorem dX4_shotOf_26 : decode cX4_shotOf 26 = .ok (.iinc 2 1, 3) := by decide +kernel
theorem dX4_shotOf_29 : decode cX4_shotOf 29 = .ok (.goto (-27), 3) := by decide +kernel
theorem dX4_shotOf_32 : decode cX4_shotOf 32 = .ok (.bipush (-19), 2) := by decide +kernel
theorem dX4_shotOf_34 : decode cX4_shotOf 34 = .ok (.ireturn, 1) := by decide +kernel
theorem dX4_makeShot_0 : decode cX4_makeShot 0 = .ok (.aload_n 0, 1) := by decide +kernel
theorem dX4_makeShot_1 : decode cX4_makeShot 1 = .ok (.getfield 7, 3) := by decide +kernel
theorem dX4_makeShot_4 : decode cX4_makeShot 4 = .ok (.iconst 1, 1) := by decide +kernel
theorem dX4_makeShot_5 : decode cX4_makeShot 5 = .ok (.iaload, 1) := by decide +kernel
theorem dX4_makeShot_6 : decode cX4_makeShot 6 = .ok (.istore_n 2, 1) := by decide +kernel
theorem dX4_makeShot_7 : decode cX4_makeShot 7 = .ok (.iload_n 2, 1) := by decide +kernel
theorem dX4_makeShot_8 : decode cX4_makeShot 8 = .ok (.ifCond .le 41, 3) := by decide +kernel
theorem dX4_makeShot_11 : decode cX4_makeShot 11 = .ok (.aload_n 0, 1) := by decide +kernel
theorem dX4_makeShot_12 : decode cX4_makeShot 12 = .ok (.getfield 7, 3) := by decide +kernel
theorem dX4_makeShot_15 : decode cX4_makeShot 15 = .ok (.iconst 3, 1) := by decide +kernel
theorem dX4_makeShot_16 : decode cX4_makeShot 16 = .ok (.iload_n 2, 1) := by decide +kernel
theorem dX4_makeShot_17 : decode cX4_makeShot 17 = .ok (.iadd, 1) := by decide +kernel
theorem dX4_makeShot_18 : decode cX4_makeShot 18 = .ok (.iconst 1, 1) := by decide +kernel
theorem dX4_makeShot_19 : decode cX4_makeShot 19 = .ok (.isub, 1) := by decide +kernel
theorem dX4_makeShot_20 : decode cX4_makeShot 20 = .ok (.iaload, 1) := by decide +kernel
theorem dX4_makeShot_21 : decode cX4_makeShot 21 = .ok (.iload_n 1, 1) := by decide +kernel
theorem dX4_makeShot_22 : decode cX4_makeShot 22 = .ok (.if_icmp .le 27, 3) := by decide +kernel
theorem dX4_makeShot_25 : decode cX4_makeShot 25 = .ok (.aload_n 0, 1) := by decide +kernel
theorem dX4_makeShot_26 : decode cX4_makeShot 26 = .ok (.getfield 7, 3) := by decide +kernel
theorem dX4_makeShot_29 : decode cX4_makeShot 29 = .ok (.iconst 3, 1) := by decide +kernel
theorem dX4_makeShot_30 : decode cX4_makeShot 30 = .ok (.iload_n 2, 1) := by decide +kernel
theorem dX4_makeShot_31 : decode cX4_makeShot 31 = .ok (.iadd, 1) := by decide +kernel
theorem dX4_makeShot_32 : decode cX4_makeShot 32 = .ok (.aload_n 0, 1) := by decide +kernel
theorem dX4_makeShot_33 : decode cX4_makeShot 33 = .ok (.getfield 7, 3) := by decide +kernel
theorem dX4_makeShot_36 : decode cX4_makeShot 36 = .ok (.iconst 3, 1) := by decide +kernel
theorem dX4_makeShot_37 : decode cX4_makeShot 37 = .ok (.iload_n 2, 1) := by decide +kernel
theorem dX4_makeShot_38 : decode cX4_makeShot 38 = .ok (.iadd, 1) := by decide +kernel
theorem dX4_makeShot_39 : decode cX4_makeShot 39 = .ok (.iconst 1, 1) := by decide +kernel
theorem dX4_makeShot_40 : decode cX4_makeShot 40 = .ok (.isub, 1) := by decide +kernel
theorem dX4_makeShot_41 : decode cX4_makeShot 41 = .ok (.iaload, 1) := by decide +kernel
theorem dX4_makeShot_42 : decode cX4_makeShot 42 = .ok (.iastore, 1) := by decide +kernel
theorem dX4_makeShot_43 : decode cX4_makeShot 43 = .ok (.iinc 2 (-1), 3) := by decide +kernel
theorem dX4_makeShot_46 : decode cX4_makeShot 46 = .ok (.goto (-39), 3) := by decide +kernel
theorem dX4_makeShot_49 : decode cX4_makeShot 49 = .ok (.aload_n 0, 1) := by decide +kernel
theorem dX4_makeShot_50 : decode cX4_makeShot 50 = .ok (.getfield 7, 3) := by decide +kernel
theorem dX4_makeShot_53 : decode cX4_makeShot 53 = .ok (.iconst 3, 1) := by decide +kernel
theorem dX4_makeShot_54 : decode cX4_makeShot 54 = .ok (.iload_n 2, 1) := by decide +kernel
theorem dX4_makeShot_55 : decode cX4_makeShot 55 = .ok (.iadd, 1) := by decide +kernel
theorem dX4_makeShot_56 : decode cX4_makeShot 56 = .ok (.iload_n 1, 1) := by decide +kernel
theorem dX4_makeShot_57 : decode cX4_makeShot 57 = .ok (.iastore, 1) := by decide +kernel
theorem dX4_makeShot_58 : decode cX4_makeShot 58 = .ok (.aload_n 0, 1) := by decide +kernel
theorem dX4_makeShot_59 : decode cX4_makeShot 59 = .ok (.getfield 7, 3) := by decide +kernel
theorem dX4_makeShot_62 : decode cX4_makeShot 62 = .ok (.iconst 1, 1) := by decide +kernel
theorem dX4_makeShot_63 : decode cX4_makeShot 63 = .ok (.dup2, 1) := by decide +kernel
theorem dX4_makeShot_64 : decode cX4_makeShot 64 = .ok (.iaload, 1) := by decide +kernel
theorem dX4_makeShot_65 : decode cX4_makeShot 65 = .ok (.iconst 1, 1) := by decide +kernel
theorem dX4_makeShot_66 : decode cX4_makeShot 66 = .ok (.iadd, 1) := by decide +kernel
theorem dX4_makeShot_67 : decode cX4_makeShot 67 = .ok (.iastore, 1) := by decide +kernel
theorem dX4_makeShot_68 : decode cX4_makeShot 68 = .ok (.return_, 1) := by decide +kernel
theorem dX4_addShot_0 : decode cX4_addShot 0 = .ok (.aload_n 0, 1) := by decide +kernel
theorem dX4_addShot_1 : decode cX4_addShot 1 = .ok (.iconst 0, 1) := by decide +kernel
theorem dX4_addShot_2 : decode cX4_addShot 2 = .ok (.putfield 26, 3) := by decide +kernel
theorem dX4_addShot_5 : decode cX4_addShot 5 = .ok (.iload_n 1, 1) := by decide +kernel
theorem dX4_addShot_6 : decode cX4_addShot 6 = .ok (.i2l, 1) := by decide +kernel
theorem dX4_addShot_7 : decode cX4_addShot 7 = .ok (.lconst 1, 1) := by decide +kernel
theorem dX4_addShot_8 : decode cX4_addShot 8 = .ok (.ldc2_w 110, 3) := by decide +kernel
theorem dX4_addShot_11 : decode cX4_addShot 11 = .ok (.invokestatic 33, 3) := by decide +kernel
theorem dX4_addShot_14 : decode cX4_addShot 14 = .ok (.ifCond .ne 6, 3) := by decide +kernel
theorem dX4_addShot_17 : decode cX4_addShot 17 = .ok (.bipush (-11), 2) := by decide +kernel
theorem dX4_addShot_19 : decode cX4_addShot 19 = .ok (.ireturn, 1) := by decide +kernel
theorem dX4_addShot_20 : decode cX4_addShot 20 = .ok (.aload_n 0, 1) := by decide +kernel
theorem dX4_addShot_21 : decode cX4_addShot 21 = .ok (.iload_n 1, 1) := by decide +kernel
theorem dX4_addShot_22 : decode cX4_addShot 22 = .ok (.invokevirtual 112, 3) := by decide +kernel
theorem dX4_addShot_25 : decode cX4_addShot 25 = .ok (.bipush (-19), 2) := by decide +kernel
theorem dX4_addShot_27 : decode cX4_addShot 27 = .ok (.if_icmp .eq 6, 3) := by decide +kernel
theorem dX4_addShot_30 : decode cX4_addShot 30 = .ok (.bipush (-12), 2) := by decide +kernel
theorem dX4_addShot_32 : decode cX4_addShot 32 = .ok (.ireturn, 1) := by decide +kernel
theorem dX4_addShot_33 : decode cX4_addShot 33 = .ok (.aload_n 0, 1) := by decide +kernel
theorem dX4_addShot_34 : decode cX4_addShot 34 = .ok (.getfield 7, 3) := by decide +kernel
theorem dX4_addShot_37 : decode cX4_addShot 37 = .ok (.iconst 1, 1) := by decide +kernel
theorem dX4_addShot_38 : decode cX4_addShot 38 = .ok (.iaload, 1) := by decide +kernel
theorem dX4_addShot_39 : decode cX4_addShot 39 = .ok (.bipush 10, 2) := by decide +kernel
theorem dX4_addShot_41 : decode cX4_addShot 41 = .ok (.if_icmp .ne 6, 3) := by decide +kernel
theorem dX4_addShot_44 : decode cX4_addShot 44 = .ok (.bipush (-13), 2) := by decide +kernel
theorem dX4_addShot_46 : decode cX4_addShot 46 = .ok (.ireturn, 1) := by decide +kernel
theorem dX4_addShot_47 : decode cX4_addShot 47 = .ok (.aload_n 0, 1) := by decide +kernel
theorem dX4_addShot_48 : decode cX4_addShot 48 = .ok (.invokevirtual 96, 3) := by decide +kernel
theorem dX4_addShot_51 : decode cX4_addShot 51 = .ok (.aload_n 0, 1) := by decide +kernel
theorem dX4_addShot_52 : decode cX4_addShot 52 = .ok (.iload_n 1, 1) := by decide +kernel
theorem dX4_addShot_53 : decode cX4_addShot 53 = .ok (.invokevirtual 115, 3) := by decide +kernel
theorem dX4_addShot_56 : decode cX4_addShot 56 = .ok (.aload_n 0, 1) := by decide +kernel
theorem dX4_addShot_57 : decode cX4_addShot 57 = .ok (.getfield 7, 3) := by decide +kernel
theorem dX4_addShot_60 : decode cX4_addShot 60 = .ok (.iconst 1, 1) := by decide +kernel
theorem dX4_addShot_61 : decode cX4_addShot 61 = .ok (.iaload, 1) := by decide +kernel
theorem dX4_addShot_62 : decode cX4_addShot 62 = .ok (.ireturn, 1) := by decide +kernel
theorem dX4_removeShot_0 : decode cX4_removeShot 0 = .ok (.aload_n 0, 1) := by decide +kernel
theorem dX4_removeShot_1 : decode cX4_removeShot 1 = .ok (.iconst 0, 1) := by decide +kernel
theorem dX4_removeShot_2 : decode cX4_removeShot 2 = .ok (.putfield 26, 3) := by decide +kernel
theorem dX4_removeShot_5 : decode cX4_removeShot 5 = .ok (.iload_n 1, 1) := by decide +kernel
theorem dX4_removeShot_6 : decode cX4_removeShot 6 = .ok (.i2l, 1) := by decide +kernel
theorem dX4_removeShot_7 : decode cX4_removeShot 7 = .ok (.lconst 1, 1) := by decide +kernel
theorem dX4_removeShot_8 : decode cX4_removeShot 8 = .ok (.ldc2_w 110, 3) := by decide +kernel
theorem dX4_removeShot_11 : decode cX4_removeShot 11 = .ok (.invokestatic 33, 3) := by decide +kernel
theorem dX4_removeShot_14 : decode cX4_removeShot 14 = .ok (.ifCond .ne 6, 3) := by decide +kernel
theorem dX4_removeShot_17 : decode cX4_removeShot 17 = .ok (.bipush (-11), 2) := by decide +kernel
theorem dX4_removeShot_19 : decode cX4_removeShot 19 = .ok (.ireturn, 1) := by decide +kernel
theorem dX4_removeShot_20 : decode cX4_removeShot 20 = .ok (.aload_n 0, 1) := by decide +kernel
theorem dX4_removeShot_21 : decode cX4_removeShot 21 = .ok (.iload_n 1, 1) := by decide +kernel
theorem dX4_removeShot_22 : decode cX4_removeShot 22 = .ok (.invokevirtual 112, 3) := by decide +kernel
theorem dX4_removeShot_25 : decode cX4_removeShot 25 = .ok (.istore_n 2, 1) := by decide +kernel
theorem dX4_removeShot_26 : decode cX4_removeShot 26 = .ok (.iload_n 2, 1) := by decide +kernel
theorem dX4_removeShot_27 : decode cX4_removeShot 27 = .ok (.bipush (-19), 2) := by decide +kernel
theorem dX4_removeShot_29 : decode cX4_removeShot 29 = .ok (.if_icmp .ne 6, 3) := by decide +kernel
theorem dX4_removeShot_32 : decode cX4_removeShot 32 = .ok (.bipush (-12), 2) := by decide +kernel
theorem dX4_removeShot_34 : decode cX4_removeShot 34 = .ok (.ireturn, 1) := by decide +kernel
theorem dX4_removeShot_35 : decode cX4_removeShot 35 = .ok (.aload_n 0, 1) := by decide +kernel
theorem dX4_removeShot_36 : decode cX4_removeShot 36 = .ok (.invokevirtual 96, 3) := by decide +kernel
theorem dX4_removeShot_39 : decode cX4_removeShot 39 = .ok (.aload_n 0, 1) := by decide +kernel
theorem dX4_removeShot_40 : decode cX4_removeShot 40 = .ok (.getfield 7, 3) := by decide +kernel
theorem dX4_removeShot_43 : decode cX4_removeShot 43 = .ok (.iconst 1, 1) := by decide +kernel
theorem dX4_removeShot_44 : decode cX4_removeShot 44 = .ok (.dup2, 1) := by decide +kernel
theorem dX4_removeShot_45 : decode cX4_removeShot 45 = .ok (.iaload, 1) := by decide +kernel
theorem dX4_removeShot_46 : decode cX4_removeShot 46 = .ok (.iconst 1, 1) := by decide +kernel
theorem dX4_removeShot_47 : decode cX4_removeShot 47 = .ok (.isub, 1) := by decide +kernel
theorem dX4_removeShot_48 : decode cX4_removeShot 48 = .ok (.iastore, 1) := by decide +kernel
theorem dX4_removeShot_49 : decode cX4_removeShot 49 = .ok (.iload_n 2, 1) := by decide +kernel
theorem dX4_removeShot_50 : decode cX4_removeShot 50 = .ok (.istore_n 3, 1) := by decide +kernel
theorem dX4_removeShot_51 : decode cX4_removeShot 51 = .ok (.iload_n 3, 1) := by decide +kernel
theorem dX4_removeShot_52 : decode cX4_removeShot 52 = .ok (.aload_n 0, 1) := by decide +kernel
theorem dX4_removeShot_53 : decode cX4_removeShot 53 = .ok (.getfield 7, 3) := by decide +kernel
theorem dX4_removeShot_56 : decode cX4_removeShot 56 = .ok (.iconst 1, 1) := by decide +kernel
theorem dX4_removeShot_57 : decode cX4_removeShot 57 = .ok (.iaload, 1) := by decide +kernel
theorem dX4_removeShot_58 : decode cX4_removeShot 58 = .ok (.if_icmp .ge 27, 3) := by decide +kernel
theorem dX4_removeShot_61 : decode cX4_removeShot 61 = .ok (.aload_n 0, 1) := by decide +kernel
theorem dX4_removeShot_62 : decode cX4_removeShot 62 = .ok (.getfield 7, 3) := by decide +kernel
theorem dX4_removeShot_65 : decode cX4_removeShot 65 = .ok (.iconst 3, 1) := by decide +kernel
theorem dX4_removeShot_66 : decode cX4_removeShot 66 = .ok (.iload_n 3, 1) := by decide +kernel
theorem dX4_removeShot_67 : decode cX4_removeShot 67 = .ok (.iadd, 1) := by decide +kernel
theorem dX4_removeShot_68 : decode cX4_removeShot 68 = .ok (.aload_n 0, 1) := by decide +kernel
theorem dX4_removeShot_69 : decode cX4_removeShot 69 = .ok (.getfield 7, 3) := by decide +kernel
theorem dX4_removeShot_72 : decode cX4_removeShot 72 = .ok (.iconst 3, 1) := by decide +kernel
theorem dX4_removeShot_73 : decode cX4_removeShot 73 = .ok (.iload_n 3, 1) := by decide +kernel
theorem dX4_removeShot_74 : decode cX4_removeShot 74 = .ok (.iadd, 1) := by decide +kernel
theorem dX4_removeShot_75 : decode cX4_removeShot 75 = .ok (.iconst 1, 1) := by decide +kernel
theorem dX4_removeShot_76 : decode cX4_removeShot 76 = .ok (.iadd, 1) := by decide +kernel
theorem dX4_removeShot_77 : decode cX4_removeShot 77 = .ok (.iaload, 1) := by decide +kernel
theorem dX4_removeShot_78 : decode cX4_removeShot 78 = .ok (.iastore, 1) := by decide +kernel
theorem dX4_removeShot_79 : decode cX4_removeShot 79 = .ok (.iinc 3 1, 3) := by decide +kernel
theorem dX4_removeShot_82 : decode cX4_removeShot 82 = .ok (.goto (-31), 3) := by decide +kernel
theorem dX4_removeShot_85 : decode cX4_removeShot 85 = .ok (.aload_n 0, 1) := by decide +kernel
theorem dX4_removeShot_86 : decode cX4_removeShot 86 = .ok (.getfield 7, 3) := by decide +kernel
theorem dX4_removeShot_89 : decode cX4_removeShot 89 = .ok (.iconst 1, 1) := by decide +kernel
theorem dX4_removeShot_90 : decode cX4_removeShot 90 = .ok (.iaload, 1) := by decide +kernel
theorem dX4_removeShot_91 : decode cX4_removeShot 91 = .ok (.ireturn, 1) := by decide +kernel
theorem dX4_setSpeed_0 : decode cX4_setSpeed 0 = .ok (.aload_n 0, 1) := by decide +kernel
theorem dX4_setSpeed_1 : decode cX4_setSpeed 1 = .ok (.iconst 0, 1) := by decide +kernel
theorem dX4_setSpeed_2 : decode cX4_setSpeed 2 = .ok (.putfield 26, 3) := by decide +kernel
theorem dX4_setSpeed_5 : decode cX4_setSpeed 5 = .ok (.iload_n 1, 1) := by decide +kernel
theorem dX4_setSpeed_6 : decode cX4_setSpeed 6 = .ok (.i2l, 1) := by decide +kernel
theorem dX4_setSpeed_7 : decode cX4_setSpeed 7 = .ok (.ldc2_w 118, 3) := by decide +kernel
theorem dX4_setSpeed_10 : decode cX4_setSpeed 10 = .ok (.ldc2_w 120, 3) := by decide +kernel
theorem dX4_setSpeed_13 : decode cX4_setSpeed 13 = .ok (.invokestatic 33, 3) := by decide +kernel
theorem dX4_setSpeed_16 : decode cX4_setSpeed 16 = .ok (.ifCond .ne 6, 3) := by decide +kernel
theorem dX4_setSpeed_19 : decode cX4_setSpeed 19 = .ok (.bipush (-11), 2) := by decide +kernel
theorem dX4_setSpeed_21 : decode cX4_setSpeed 21 = .ok (.ireturn, 1) := by decide +kernel
theorem dX4_setSpeed_22 : decode cX4_setSpeed 22 = .ok (.aload_n 0, 1) := by decide +kernel
theorem dX4_setSpeed_23 : decode cX4_setSpeed 23 = .ok (.invokevirtual 96, 3) := by decide +kernel
theorem dX4_setSpeed_26 : decode cX4_setSpeed 26 = .ok (.aload_n 0, 1) := by decide +kernel
theorem dX4_setSpeed_27 : decode cX4_setSpeed 27 = .ok (.getfield 7, 3) := by decide +kernel
theorem dX4_setSpeed_30 : decode cX4_setSpeed 30 = .ok (.iconst 2, 1) := by decide +kernel
theorem dX4_setSpeed_31 : decode cX4_setSpeed 31 = .ok (.iaload, 1) := by decide +kernel
theorem dX4_setSpeed_32 : decode cX4_setSpeed 32 = .ok (.istore_n 2, 1) := by decide +kernel
theorem dX4_setSpeed_33 : decode cX4_setSpeed 33 = .ok (.aload_n 0, 1) := by decide +kernel
theorem dX4_setSpeed_34 : decode cX4_setSpeed 34 = .ok (.getfield 7, 3) := by decide +kernel
theorem dX4_setSpeed_37 : decode cX4_setSpeed 37 = .ok (.iconst 2, 1) := by decide +kernel
theorem dX4_setSpeed_38 : decode cX4_setSpeed 38 = .ok (.iload_n 1, 1) := by decide +kernel
theorem dX4_setSpeed_39 : decode cX4_setSpeed 39 = .ok (.iastore, 1) := by decide +kernel
theorem dX4_setSpeed_40 : decode cX4_setSpeed 40 = .ok (.iload_n 2, 1) := by decide +kernel
theorem dX4_setSpeed_41 : decode cX4_setSpeed 41 = .ok (.ireturn, 1) := by decide +kernel
theorem dX4_append_0 : decode cX4_append 0 = .ok (.aload_n 0, 1) := by decide +kernel
theorem dX4_append_1 : decode cX4_append 1 = .ok (.iconst 0, 1) := by decide +kernel
theorem dX4_append_2 : decode cX4_append 2 = .ok (.putfield 26, 3) := by decide +kernel
theorem dX4_append_5 : decode cX4_append 5 = .ok (.iload_n 1, 1) := by decide +kernel
theorem dX4_append_6 : decode cX4_append 6 = .ok (.i2l, 1) := by decide +kernel
theorem dX4_append_7 : decode cX4_append 7 = .ok (.lconst 1, 1) := by decide +kernel
theorem dX4_append_8 : decode cX4_append 8 = .ok (.ldc2_w 122, 3) := by decide +kernel
theorem dX4_append_11 : decode cX4_append 11 = .ok (.invokestatic 33, 3) := by decide +kernel
theorem dX4_append_14 : decode cX4_append 14 = .ok (.ifCond .ne 6, 3) := by decide +kernel
theorem dX4_append_17 : decode cX4_append 17 = .ok (.bipush (-11), 2) := by decide +kernel
theorem dX4_append_19 : decode cX4_append 19 = .ok (.ireturn, 1) := by decide +kernel
theorem dX4_append_20 : decode cX4_append 20 = .ok (.aload_n 0, 1) := by decide +kernel
theorem dX4_append_21 : decode cX4_append 21 = .ok (.getfield 124, 3) := by decide +kernel
theorem dX4_append_24 : decode cX4_append 24 = .ok (.sipush 160, 3) := by decide +kernel
theorem dX4_append_27 : decode cX4_append 27 = .ok (.if_icmp .ne 6, 3) := by decide +kernel
theorem dX4_append_30 : decode cX4_append 30 = .ok (.bipush (-13), 2) := by decide +kernel
theorem dX4_append_32 : decode cX4_append 32 = .ok (.ireturn, 1) := by decide +kernel
theorem dX4_append_33 : decode cX4_append 33 = .ok (.aload_n 0, 1) := by decide +kernel
theorem dX4_append_34 : decode cX4_append 34 = .ok (.getfield 19, 3) := by decide +kernel
theorem dX4_append_37 : decode cX4_append 37 = .ok (.aload_n 0, 1) := by decide +kernel
theorem dX4_append_38 : decode cX4_append 38 = .ok (.getfield 124, 3) := by decide +kernel
theorem dX4_append_41 : decode cX4_append 41 = .ok (.iload_n 1, 1) := by decide +kernel
theorem dX4_append_42 : decode cX4_append 42 = .ok (.iastore, 1) := by decide +kernel
theorem dX4_append_43 : decode cX4_append 43 = .ok (.aload_n 0, 1) := by decide +kernel
theorem dX4_append_44 : decode cX4_append 44 = .ok (.dup, 1) := by decide +kernel
theorem dX4_append_45 : decode cX4_append 45 = .ok (.getfield 124, 3) := by decide +kernel
theorem dX4_append_48 : decode cX4_append 48 = .ok (.iconst 1, 1) := by decide +kernel
theorem dX4_append_49 : decode cX4_append 49 = .ok (.iadd, 1) := by decide +kernel
theorem dX4_append_50 : decode cX4_append 50 = .ok (.putfield 124, 3) := by decide +kernel
theorem dX4_append_53 : decode cX4_append 53 = .ok (.aload_n 0, 1) := by decide +kernel
theorem dX4_append_54 : decode cX4_append 54 = .ok (.getfield 124, 3) := by decide +kernel
theorem dX4_append_57 : decode cX4_append 57 = .ok (.ireturn, 1) := by decide +kernel
theorem dX4_clearText_0 : decode cX4_clearText 0 = .ok (.aload_n 0, 1) := by decide +kernel
theorem dX4_clearText_1 : decode cX4_clearText 1 = .ok (.iconst 0, 1) := by decide +kernel
theorem dX4_clearText_2 : decode cX4_clearText 2 = .ok (.putfield 26, 3) := by decide +kernel
theorem dX4_clearText_5 : decode cX4_clearText 5 = .ok (.aload_n 0, 1) := by decide +kernel
theorem dX4_clearText_6 : decode cX4_clearText 6 = .ok (.getfield 124, 3) := by decide +kernel
theorem dX4_clearText_9 : decode cX4_clearText 9 = .ok (.istore_n 1, 1) := by decide +kernel
theorem dX4_clearText_10 : decode cX4_clearText 10 = .ok (.aload_n 0, 1) := by decide +kernel
theorem dX4_clearText_11 : decode cX4_clearText 11 = .ok (.iconst 0, 1) := by decide +kernel
theorem dX4_clearText_12 : decode cX4_clearText 12 = .ok (.putfield 124, 3) := by decide +kernel
theorem dX4_clearText_15 : decode cX4_clearText 15 = .ok (.iload_n 1, 1) := by decide +kernel
theorem dX4_clearText_16 : decode cX4_clearText 16 = .ok (.ireturn, 1) := by decide +kernel
theorem dX4_here_0 : decode cX4_here 0 = .ok (.aload_n 0, 1) := by decide +kernel
theorem dX4_here_1 : decode cX4_here 1 = .ok (.getfield 127, 3) := by decide +kernel
theorem dX4_here_4 : decode cX4_here 4 = .ok (.aload_n 0, 1) := by decide +kernel
theorem dX4_here_5 : decode cX4_here 5 = .ok (.getfield 124, 3) := by decide +kernel
theorem dX4_here_8 : decode cX4_here 8 = .ok (.if_icmp .ge 15, 3) := by decide +kernel
theorem dX4_here_11 : decode cX4_here 11 = .ok (.aload_n 0, 1) := by decide +kernel
theorem dX4_here_12 : decode cX4_here 12 = .ok (.getfield 19, 3) := by decide +kernel
theorem dX4_here_15 : decode cX4_here 15 = .ok (.aload_n 0, 1) := by decide +kernel
theorem dX4_here_16 : decode cX4_here 16 = .ok (.getfield 127, 3) := by decide +kernel
theorem dX4_here_19 : decode cX4_here 19 = .ok (.iaload, 1) := by decide +kernel
theorem dX4_here_20 : decode cX4_here 20 = .ok (.goto 4, 3) := by decide +kernel
theorem dX4_here_23 : decode cX4_here 23 = .ok (.iconst (-1), 1) := by decide +kernel
theorem dX4_here_24 : decode cX4_here 24 = .ok (.ireturn, 1) := by decide +kernel
theorem dX4_read_0 : decode cX4_read 0 = .ok (.aload_n 0, 1) := by decide +kernel
theorem dX4_read_1 : decode cX4_read 1 = .ok (.invokevirtual 130, 3) := by decide +kernel
theorem dX4_read_4 : decode cX4_read 4 = .ok (.bipush 32, 2) := by decide +kernel
theorem dX4_read_6 : decode cX4_read 6 = .ok (.if_icmp .ne 16, 3) := by decide +kernel
theorem dX4_read_9 : decode cX4_read 9 = .ok (.aload_n 0, 1) := by decide +kernel
theorem dX4_read_10 : decode cX4_read 10 = .ok (.dup, 1) := by decide +kernel
theorem dX4_read_11 : decode cX4_read 11 = .ok (.getfield 127, 3) := by decide +kernel
theorem dX4_read_14 : decode cX4_read 14 = .ok (.iconst 1, 1) := by decide +kernel
theorem dX4_read_15 : decode cX4_read 15 = .ok (.iadd, 1) := by decide +kernel
theorem dX4_read_16 : decode cX4_read 16 = .ok (.putfield 127, 3) := by decide +kernel
theorem dX4_read_19 : decode cX4_read 19 = .ok (.goto (-19), 3) := by decide +kernel
theorem dX4_read_22 : decode cX4_read 22 = .ok (.aload_n 0, 1) := by decide +kernel
theorem dX4_read_23 : decode cX4_read 23 = .ok (.aload_n 0, 1) := by decide +kernel
theorem dX4_read_24 : decode cX4_read 24 = .ok (.getfield 127, 3) := by decide +kernel
theorem dX4_read_27 : decode cX4_read 27 = .ok (.putfield 134, 3) := by decide +kernel
theorem dX4_read_30 : decode cX4_read 30 = .ok (.aload_n 0, 1) := by decide +kernel
theorem dX4_read_31 : decode cX4_read 31 = .ok (.lconst 0, 1) := by decide +kernel
theorem dX4_read_32 : decode cX4_read 32 = .ok (.putfield 137, 3) := by decide +kernel
theorem dX4_read_35 : decode cX4_read 35 = .ok (.aload_n 0, 1) := by decide +kernel
theorem dX4_read_36 : decode cX4_read 36 = .ok (.invokevirtual 130, 3) := by decide +kernel
theorem dX4_read_39 : decode cX4_read 39 = .ok (.i2l, 1) := by decide +kernel
theorem dX4_read_40 : decode cX4_read 40 = .ok (.ldc2_w 141, 3) := by decide +kernel
theorem dX4_read_43 : decode cX4_read 43 = .ok (.ldc2_w 143, 3) := by decide +kernel
theorem dX4_read_46 : decode cX4_read 46 = .ok (.invokestatic 33, 3) := by decide +kernel
theorem dX4_read_49 : decode cX4_read 49 = .ok (.ifCond .eq 79, 3) := by decide +kernel
theorem dX4_read_52 : decode cX4_read 52 = .ok (.aload_n 0, 1) := by decide +kernel
theorem dX4_read_53 : decode cX4_read 53 = .ok (.iconst 0, 1) := by decide +kernel
theorem dX4_read_54 : decode cX4_read 54 = .ok (.putfield 145, 3) := by decide +kernel
theorem dX4_read_57 : decode cX4_read 57 = .ok (.aload_n 0, 1) := by decide +kernel
theorem dX4_read_58 : decode cX4_read 58 = .ok (.invokevirtual 130, 3) := by decide +kernel
theorem dX4_read_61 : decode cX4_read 61 = .ok (.i2l, 1) := by decide +kernel
theorem dX4_read_62 : decode cX4_read 62 = .ok (.ldc2_w 141, 3) := by decide +kernel
theorem dX4_read_65 : decode cX4_read 65 = .ok (.ldc2_w 143, 3) := by decide +kernel
theorem dX4_read_68 : decode cX4_read 68 = .ok (.invokestatic 33, 3) := by decide +kernel
theorem dX4_read_71 : decode cX4_read 71 = .ok (.ifCond .eq 233, 3) := by decide +kernel
theorem dX4_read_74 : decode cX4_read 74 = .ok (.aload_n 0, 1) := by decide +kernel
theorem dX4_read_75 : decode cX4_read 75 = .ok (.aload_n 0, 1) := by decide +kernel
theorem dX4_read_76 : decode cX4_read 76 = .ok (.getfield 127, 3) := by decide +kernel
theorem dX4_read_79 : decode cX4_read 79 = .ok (.aload_n 0, 1) := by decide +kernel
theorem dX4_read_80 : decode cX4_read 80 = .ok (.getfield 134, 3) := by decide +kernel
theorem dX4_read_83 : decode cX4_read 83 = .ok (.isub, 1) := by decide +kernel
theorem dX4_read_84 : decode cX4_read 84 = .ok (.iconst 5, 1) := by decide +kernel
theorem dX4_read_85 : decode cX4_read 85 = .ok (.if_icmp .ge 26, 3) := by decide +kernel
theorem dX4_read_88 : decode cX4_read 88 = .ok (.ldc2_w 148, 3) := by decide +kernel
theorem dX4_read_91 : decode cX4_read 91 = .ok (.aload_n 0, 1) := by decide +kernel
theorem dX4_read_92 : decode cX4_read 92 = .ok (.getfield 137, 3) := by decide +kernel
theorem dX4_read_95 : decode cX4_read 95 = .ok (.lmul, 1) := by decide +kernel
theorem dX4_read_96 : decode cX4_read 96 = .ok (.aload_n 0, 1) := by decide +kernel
theorem dX4_read_97 : decode cX4_read 97 = .ok (.invokevirtual 130, 3) := by decide +kernel
theorem dX4_read_100 : decode cX4_read 100 = .ok (.i2l, 1) := by decide +kernel
theorem dX4_read_101 : decode cX4_read 101 = .ok (.ladd, 1) := by decide +kernel
theorem dX4_read_102 : decode cX4_read 102 = .ok (.ldc2_w 141, 3) := by decide +kernel
theorem dX4_read_105 : decode cX4_read 105 = .ok (.lsub, 1) := by decide +kernel
theorem dX4_read_106 : decode cX4_read 106 = .ok (.lconst 1, 1) := by decide +kernel
theorem dX4_read_107 : decode cX4_read 107 = .ok (.ladd, 1) := by decide +kernel
theorem dX4_read_108 : decode cX4_read 108 = .ok (.goto 4, 3) := by decide +kernel
theorem dX4_read_111 : decode cX4_read 111 = .ok (.lconst 0, 1) := by decide +kernel
theorem dX4_read_112 : decode cX4_read 112 = .ok (.putfield 137, 3) := by decide +kernel
theorem dX4_read_115 : decode cX4_read 115 = .ok (.aload_n 0, 1) := by decide +kernel
theorem dX4_read_116 : decode cX4_read 116 = .ok (.dup, 1) := by decide +kernel
theorem dX4_read_117 : decode cX4_read 117 = .ok (.getfield 127, 3) := by decide +kernel
theorem dX4_read_120 : decode cX4_read 120 = .ok (.iconst 1, 1) := by decide +kernel
theorem dX4_read_121 : decode cX4_read 121 = .ok (.iadd, 1) := by decide +kernel
theorem dX4_read_122 : decode cX4_read 122 = .ok (.putfield 127, 3) := by decide +kernel
theorem dX4_read_125 : decode cX4_read 125 = .ok (.goto (-68), 3) := by decide +kernel
theorem dX4_read_128 : decode cX4_read 128 = .ok (.aload_n 0, 1) := by decide +kernel
theorem dX4_read_129 : decode cX4_read 129 = .ok (.invokevirtual 130, 3) := by decide +kernel
theorem dX4_read_132 : decode cX4_read 132 = .ok (.i2l, 1) := by decide +kernel
theorem dX4_read_133 : decode cX4_read 133 = .ok (.ldc2_w 150, 3) := by decide +kernel
theorem dX4_read_136 : decode cX4_read 136 = .ok (.ldc2_w 152, 3) := by decide +kernel
theorem dX4_read_139 : decode cX4_read 139 = .ok (.invokestatic 33, 3) := by decide +kernel
theorem dX4_read_142 : decode cX4_read 142 = .ok (.ifCond .eq 112, 3) := by decide +kernel
theorem dX4_read_145 : decode cX4_read 145 = .ok (.aload_n 0, 1) := by decide +kernel
theorem dX4_read_146 : decode cX4_read 146 = .ok (.invokevirtual 130, 3) := by decide +kernel
theorem dX4_read_149 : decode cX4_read 149 = .ok (.i2l, 1) := by decide +kernel
theorem dX4_read_150 : decode cX4_read 150 = .ok (.ldc2_w 150, 3) := by decide +kernel
theorem dX4_read_153 : decode cX4_read 153 = .ok (.ldc2_w 152, 3) := by decide +kernel
theorem dX4_read_156 : decode cX4_read 156 = .ok (.invokestatic 33, 3) := by decide +kernel
theorem dX4_read_159 : decode cX4_read 159 = .ok (.ifCond .eq 56, 3) := by decide +kernel
theorem dX4_read_162 : decode cX4_read 162 = .ok (.aload_n 0, 1) := by decide +kernel
theorem dX4_read_163 : decode cX4_read 163 = .ok (.aload_n 0, 1) := by decide +kernel
theorem dX4_read_164 : decode cX4_read 164 = .ok (.getfield 137, 3) := by decide +kernel
theorem dX4_read_167 : decode cX4_read 167 = .ok (.ldc2_w 154, 3) := by decide +kernel
theorem dX4_read_170 : decode cX4_read 170 = .ok (.lcmp, 1) := by decide +kernel
theorem dX4_read_171 : decode cX4_read 171 = .ok (.ifCond .ge 24, 3) := by decide +kernel
theorem dX4_read_174 : decode cX4_read 174 = .ok (.ldc2_w 156, 3) := by decide +kernel
theorem dX4_read_177 : decode cX4_read 177 = .ok (.aload_n 0, 1) := by decide +kernel
theorem dX4_read_178 : decode cX4_read 178 = .ok (.getfield 137, 3) := by decide +kernel
theorem dX4_read_181 : decode cX4_read 181 = .ok (.lmul, 1) := by decide +kernel
theorem dX4_read_182 : decode cX4_read 182 = .ok (.aload_n 0, 1) := by decide +kernel
theorem dX4_read_183 : decode cX4_read 183 = .ok (.invokevirtual 130, 3) := by decide +kernel
theorem dX4_read_186 : decode cX4_read 186 = .ok (.i2l, 1) := by decide +kernel
theorem dX4_read_187 : decode cX4_read 187 = .ok (.ladd, 1) := by decide +kernel
theorem dX4_read_188 : decode cX4_read 188 = .ok (.ldc2_w 150, 3) := by decide +kernel
theorem dX4_read_191 : decode cX4_read 191 = .ok (.lsub, 1) := by decide +kernel
theorem dX4_read_192 : decode cX4_read 192 = .ok (.goto 7, 3) := by decide +kernel
theorem dX4_read_195 : decode cX4_read 195 = .ok (.aload_n 0, 1) := by decide +kernel
theorem dX4_read_196 : decode cX4_read 196 = .ok (.getfield 137, 3) := by decide +kernel
theorem dX4_read_199 : decode cX4_read 199 = .ok (.putfield 137, 3) := by decide +kernel
theorem dX4_read_202 : decode cX4_read 202 = .ok (.aload_n 0, 1) := by decide +kernel
theorem dX4_read_203 : decode cX4_read 203 = .ok (.dup, 1) := by decide +kernel
theorem dX4_read_204 : decode cX4_read 204 = .ok (.getfield 127, 3) := by decide +kernel
theorem dX4_read_207 : decode cX4_read 207 = .ok (.iconst 1, 1) := by decide +kernel
theorem dX4_read_208 : decode cX4_read 208 = .ok (.iadd, 1) := by decide +kernel
theorem dX4_read_209 : decode cX4_read 209 = .ok (.putfield 127, 3) := by decide +kernel
theorem dX4_read_212 : decode cX4_read 212 = .ok (.goto (-67), 3) := by decide +kernel
theorem dX4_read_215 : decode cX4_read 215 = .ok (.aload_n 0, 1) := by decide +kernel
theorem dX4_read_216 : decode cX4_read 216 = .ok (.aload_n 0, 1) := by decide +kernel
theorem dX4_read_217 : decode cX4_read 217 = .ok (.getfield 19, 3) := by decide +kernel
theorem dX4_read_220 : decode cX4_read 220 = .ok (.aload_n 0, 1) := by decide +kernel
theorem dX4_read_221 : decode cX4_read 221 = .ok (.getfield 134, 3) := by decide +kernel
theorem dX4_read_224 : decode cX4_read 224 = .ok (.iaload, 1) := by decide +kernel
theorem dX4_read_225 : decode cX4_read 225 = .ok (.bipush 48, 2) := by decide +kernel
theorem dX4_read_227 : decode cX4_read 227 = .ok (.if_icmp .ne 16, 3) := by decide +kernel
theorem dX4_read_230 : decode cX4_read 230 = .ok (.aload_n 0, 1) := by decide +kernel
theorem dX4_read_231 : decode cX4_read 231 = .ok (.getfield 127, 3) := by decide +kernel
theorem dX4_read_234 : decode cX4_read 234 = .ok (.aload_n 0, 1) := by decide +kernel
theorem dX4_read_235 : decode cX4_read 235 = .ok (.getfield 134, 3) := by decide +kernel
theorem dX4_read_238 : decode cX4_read 238 = .ok (.iconst 1, 1) := by decide +kernel
theorem dX4_read_239 : decode cX4_read 239 = .ok (.iadd, 1) := by decide +kernel
theorem dX4_read_240 : decode cX4_read 240 = .ok (.if_icmp .ne 7, 3) := by decide +kernel
theorem dX4_read_243 : decode cX4_read 243 = .ok (.iconst 1, 1) := by decide +kernel
theorem dX4_read_244 : decode cX4_read 244 = .ok (.goto 4, 3) := by decide +kernel
theorem dX4_read_247 : decode cX4_read 247 = .ok (.iconst 3, 1) := by decide +kernel
theorem dX4_read_248 : decode cX4_read 248 = .ok (.putfield 145, 3) := by decide +kernel
theorem dX4_read_251 : decode cX4_read 251 = .ok (.goto 53, 3) := by decide +kernel
theorem dX4_read_254 : decode cX4_read 254 = .ok (.aload_n 0, 1) := by decide +kernel
theorem dX4_read_255 : decode cX4_read 255 = .ok (.aload_n 0, 1) := by decide +kernel
theorem dX4_read_256 : decode cX4_read 256 = .ok (.invokevirtual 130, 3) := by decide +kernel
theorem dX4_read_259 : decode cX4_read 259 = .ok (.bipush 59, 2) := by decide +kernel
theorem dX4_read_261 : decode cX4_read 261 = .ok (.if_icmp .ne 7, 3) := by decide +kernel
theorem dX4_read_264 : decode cX4_read 264 = .ok (.iconst 2, 1) := by decide +kernel
theorem dX4_read_265 : decode cX4_read 265 = .ok (.goto 15, 3) := by decide +kernel
theorem dX4_read_268 : decode cX4_read 268 = .ok (.aload_n 0, 1) := by decide +kernel
theorem dX4_read_269 : decode cX4_read 269 = .ok (.invokevirtual 130, 3) := by decide +kernel
theorem dX4_read_272 : decode cX4_read 272 = .ok (.ifCond .ge 7, 3) := by decide +kernel
theorem dX4_read_275 : decode cX4_read 275 = .ok (.iconst 4, 1) := by decide +kernel
theorem dX4_read_276 : decode cX4_read 276 = .ok (.goto 4, 3) := by decide +kernel
theorem dX4_read_279 : decode cX4_read 279 = .ok (.iconst 3, 1) := by decide +kernel
theorem dX4_read_280 : decode cX4_read 280 = .ok (.putfield 145, 3) := by decide +kernel
theorem dX4_read_283 : decode cX4_read 283 = .ok (.aload_n 0, 1) := by decide +kernel
theorem dX4_read_284 : decode cX4_read 284 = .ok (.dup, 1) := by decide +kernel
theorem dX4_read_285 : decode cX4_read 285 = .ok (.getfield 127, 3) := by decide +kernel
theorem dX4_read_288 : decode cX4_read 288 = .ok (.aload_n 0, 1) := by decide +kernel
theorem dX4_read_289 : decode cX4_read 289 = .ok (.invokevirtual 130, 3) := by decide +kernel
theorem dX4_read_292 : decode cX4_read 292 = .ok (.ifCond .ge 7, 3) := by decide +kernel
theorem dX4_read_295 : decode cX4_read 295 = .ok (.iconst 0, 1) := by decide +kernel
theorem dX4_read_296 : decode cX4_read 296 = .ok (.goto 4, 3) := by decide +kernel
theorem dX4_read_299 : decode cX4_read 299 = .ok (.iconst 1, 1) := by decide +kernel
theorem dX4_read_300 : decode cX4_read 300 = .ok (.iadd, 1) := by decide +kernel
theorem dX4_read_301 : decode cX4_read 301 = .ok (.putfield 127, 3) := by decide +kernel
theorem dX4_read_304 : decode cX4_read 304 = .ok (.return_, 1) := by decide +kernel
theorem dX4_accept_0 : decode cX4_accept 0 = .ok (.aload_n 0, 1) := by decide +kernel
theorem dX4_accept_1 : decode cX4_accept 1 = .ok (.getfield 137, 3) := by decide +kernel
theorem dX4_accept_4 : decode cX4_accept 4 = .ok (.l2i, 1) := by decide +kernel
theorem dX4_accept_5 : decode cX4_accept 5 = .ok (.istore_n 2, 1) := by decide +kernel
theorem dX4_accept_6 : decode cX4_accept 6 = .ok (.aload_n 0, 1) := by decide +kernel
theorem dX4_accept_7 : decode cX4_accept 7 = .ok (.aload_n 0, 1) := by decide +kernel
theorem dX4_accept_8 : decode cX4_accept 8 = .ok (.getfield 158, 3) := by decide +kernel
theorem dX4_accept_11 : decode cX4_accept 11 = .ok (.ifCond .ne 7, 3) := by decide +kernel
theorem dX4_accept_14 : decode cX4_accept 14 = .ok (.iload_n 1, 1) := by decide +kernel
theorem dX4_accept_15 : decode cX4_accept 15 = .ok (.ifCond .ne 7, 3) := by decide +kernel
theorem dX4_accept_18 : decode cX4_accept 18 = .ok (.iconst 1, 1) := by decide +kernel
theorem dX4_accept_19 : decode cX4_accept 19 = .ok (.goto 4, 3) := by decide +kernel
theorem dX4_accept_22 : decode cX4_accept 22 = .ok (.iconst 0, 1) := by decide +kernel
theorem dX4_accept_23 : decode cX4_accept 23 = .ok (.putfield 158, 3) := by decide +kernel
theorem dX4_accept_26 : decode cX4_accept 26 = .ok (.aload_n 0, 1) := by decide +kernel
theorem dX4_accept_27 : decode cX4_accept 27 = .ok (.getfield 158, 3) := by decide +kernel
theorem dX4_accept_30 : decode cX4_accept 30 = .ok (.ifCond .ne 7, 3) := by decide +kernel
theorem dX4_accept_33 : decode cX4_accept 33 = .ok (.aload_n 0, 1) := by decide +kernel
theorem dX4_accept_34 : decode cX4_accept 34 = .ok (.invokevirtual 162, 3) := by decide +kernel
theorem dX4_accept_37 : decode cX4_accept 37 = .ok (.iload_n 2, 1) := by decide +kernel
theorem dX4_accept_38 : decode cX4_accept 38 = .ok (.ireturn, 1) := by decide +kernel
theorem dX4_number_0 : decode cX4_number 0 = .ok (.aload_n 0, 1) := by decide +kernel
theorem dX4_number_1 : decode cX4_number 1 = .ok (.aload_n 0, 1) := by decide +kernel
theorem dX4_number_2 : decode cX4_number 2 = .ok (.getfield 145, 3) := by decide +kernel
theorem dX4_number_5 : decode cX4_number 5 = .ok (.iconst 1, 1) := by decide +kernel
theorem dX4_number_6 : decode cX4_number 6 = .ok (.if_icmp .ne 21, 3) := by decide +kernel
theorem dX4_number_9 : decode cX4_number 9 = .ok (.aload_n 0, 1) := by decide +kernel
theorem dX4_number_10 : decode cX4_number 10 = .ok (.getfield 137, 3) := by decide +kernel
theorem dX4_number_13 : decode cX4_number 13 = .ok (.iload_n 1, 1) := by decide +kernel
theorem dX4_number_14 : decode cX4_number 14 = .ok (.i2l, 1) := by decide +kernel
theorem dX4_number_15 : decode cX4_number 15 = .ok (.iload_n 2, 1) := by decide +kernel
theorem dX4_number_16 : decode cX4_number 16 = .ok (.i2l, 1) := by decide +kernel
theorem dX4_number_17 : decode cX4_number 17 = .ok (.invokestatic 33, 3) := by decide +kernel
theorem dX4_number_20 : decode cX4_number 20 = .ok (.ifCond .eq 7, 3) := by decide +kernel
theorem dX4_number_23 : decode cX4_number 23 = .ok (.iconst 1, 1) := by decide +kernel
theorem dX4_number_24 : decode cX4_number 24 = .ok (.goto 4, 3) := by decide +kernel
theorem dX4_number_27 : decode cX4_number 27 = .ok (.iconst 0, 1) := by decide +kernel
theorem dX4_number_28 : decode cX4_number 28 = .ok (.invokevirtual 165, 3) := by decide +kernel
theorem dX4_number_31 : decode cX4_number 31 = .ok (.ireturn, 1) := by decide +kernel
theorem dX4_wayOf_0 : decode cX4_wayOf 0 = .ok (.aload_n 0, 1) := by decide +kernel
theorem dX4_wayOf_1 : decode cX4_wayOf 1 = .ok (.getfield 145, 3) := by decide +kernel
theorem dX4_wayOf_4 : decode cX4_wayOf 4 = .ok (.ifCond .eq 5, 3) := by decide +kernel
theorem dX4_wayOf_7 : decode cX4_wayOf 7 = .ok (.iconst 0, 1) := by decide +kernel
theorem dX4_wayOf_8 : decode cX4_wayOf 8 = .ok (.ireturn, 1) := by decide +kernel
theorem dX4_wayOf_9 : decode cX4_wayOf 9 = .ok (.aload_n 0, 1) := by decide +kernel
theorem dX4_wayOf_10 : decode cX4_wayOf 10 = .ok (.getfield 137, 3) := by decide +kernel
theorem dX4_wayOf_13 : decode cX4_wayOf 13 = .ok (.ldc2_w 169, 3) := by decide +kernel
theorem dX4_wayOf_16 : decode cX4_wayOf 16 = .ok (.lcmp, 1) := by decide +kernel
theorem dX4_wayOf_17 : decode cX4_wayOf 17 = .ok (.ifCond .ne 7, 3) := by decide +kernel
theorem dX4_wayOf_20 : decode cX4_wayOf 20 = .ok (.iconst 1, 1) := by decide +kernel
theorem dX4_wayOf_21 : decode cX4_wayOf 21 = .ok (.goto 49, 3) := by decide +kernel
theorem dX4_wayOf_24 : decode cX4_wayOf 24 = .ok (.aload_n 0, 1) := by decide +kernel
theorem dX4_wayOf_25 : decode cX4_wayOf 25 = .ok (.getfield 137, 3) := by decide +kernel
theorem dX4_wayOf_28 : decode cX4_wayOf 28 = .ok (.ldc2_w 171, 3) := by decide +kernel
theorem dX4_wayOf_31 : decode cX4_wayOf 31 = .ok (.lcmp, 1) := by decide +kernel
theorem dX4_wayOf_32 : decode cX4_wayOf 32 = .ok (.ifCond .ne 7, 3) := by decide +kernel
theorem dX4_wayOf_35 : decode cX4_wayOf 35 = .ok (.iconst 2, 1) := by decide +kernel
theorem dX4_wayOf_36 : decode cX4_wayOf 36 = .ok (.goto 34, 3) := by decide +kernel
theorem dX4_wayOf_39 : decode cX4_wayOf 39 = .ok (.aload_n 0, 1) := by decide +kernel
theorem dX4_wayOf_40 : decode cX4_wayOf 40 = .ok (.getfield 137, 3) := by decide +kernel
theorem dX4_wayOf_43 : decode cX4_wayOf 43 = .ok (.ldc2_w 173, 3) := by decide +kernel
theorem dX4_wayOf_46 : decode cX4_wayOf 46 = .ok (.lcmp, 1) := by decide +kernel
theorem dX4_wayOf_47 : decode cX4_wayOf 47 = .ok (.ifCond .ne 7, 3) := by decide +kernel
theorem dX4_wayOf_50 : decode cX4_wayOf 50 = .ok (.iconst 3, 1) := by decide +kernel
theorem dX4_wayOf_51 : decode cX4_wayOf 51 = .ok (.goto 19, 3) := by decide +kernel
theorem dX4_wayOf_54 : decode cX4_wayOf 54 = .ok (.aload_n 0, 1) := by decide +kernel
theorem dX4_wayOf_55 : decode cX4_wayOf 55 = .ok (.getfield 137, 3) := by decide +kernel
theorem dX4_wayOf_58 : decode cX4_wayOf 58 = .ok (.ldc2_w 175, 3) := by decide +kernel
theorem dX4_wayOf_61 : decode cX4_wayOf 61 = .ok (.lcmp, 1) := by decide +kernel
theorem dX4_wayOf_62 : decode cX4_wayOf 62 = .ok (.ifCond .ne 7, 3) := by decide +kernel
theorem dX4_wayOf_65 : decode cX4_wayOf 65 = .ok (.iconst 4, 1) := by decide +kernel
theorem dX4_wayOf_66 : decode cX4_wayOf 66 = .ok (.goto 4, 3) := by decide +kernel
theorem dX4_wayOf_69 : decode cX4_wayOf 69 = .ok (.iconst 0, 1) := by decide +kernel
theorem dX4_wayOf_70 : decode cX4_wayOf 70 = .ok (.ireturn, 1) := by decide +kernel
theorem dX4_readWord_0 : decode cX4_readWord 0 = .ok (.aload_n 0, 1) := by decide +kernel
theorem dX4_readWord_1 : decode cX4_readWord 1 = .ok (.getfield 134, 3) := by decide +kernel
theorem dX4_readWord_4 : decode cX4_readWord 4 = .ok (.istore_n 1, 1) := by decide +kernel
theorem dX4_readWord_5 : decode cX4_readWord 5 = .ok (.aload_n 0, 1) := by decide +kernel
theorem dX4_readWord_6 : decode cX4_readWord 6 = .ok (.getfield 127, 3) := by decide +kernel
theorem dX4_readWord_9 : decode cX4_readWord 9 = .ok (.aload_n 0, 1) := by decide +kernel
theorem dX4_readWord_10 : decode cX4_readWord 10 = .ok (.getfield 134, 3) := by decide +kernel
theorem dX4_readWord_13 : decode cX4_readWord 13 = .ok (.isub, 1) := by decide +kernel
theorem dX4_readWord_14 : decode cX4_readWord 14 = .ok (.istore_n 2, 1) := by decide +kernel
theorem dX4_readWord_15 : decode cX4_readWord 15 = .ok (.aload_n 0, 1) := by decide +kernel
theorem dX4_readWord_16 : decode cX4_readWord 16 = .ok (.aload_n 0, 1) := by decide +kernel
theorem dX4_readWord_17 : decode cX4_readWord 17 = .ok (.getfield 145, 3) := by decide +kernel
theorem dX4_readWord_20 : decode cX4_readWord 20 = .ok (.ifCond .ne 13, 3) := by decide +kernel
theorem dX4_readWord_23 : decode cX4_readWord 23 = .ok (.iload_n 2, 1) := by decide +kernel
theorem dX4_readWord_24 : decode cX4_readWord 24 = .ok (.bipush 12, 2) := by decide +kernel
theorem dX4_readWord_26 : decode cX4_readWord 26 = .ok (.if_icmp .gt 7, 3) := by decide +kernel
theorem dX4_readWord_29 : decode cX4_readWord 29 = .ok (.iconst 1, 1) := by decide +kernel
theorem dX4_readWord_30 : decode cX4_readWord 30 = .ok (.goto 4, 3) := by decide +kernel
theorem dX4_readWord_33 : decode cX4_readWord 33 = .ok (.iconst 0, 1) := by decide +kernel
theorem dX4_readWord_34 : decode cX4_readWord 34 = .ok (.invokevirtual 165, 3) := by decide +kernel
theorem dX4_readWord_37 : decode cX4_readWord 37 = .ok (.pop, 1) := by decide +kernel
theorem dX4_readWord_38 : decode cX4_readWord 38 = .ok (.aload_n 0, 1) := by decide +kernel
theorem dX4_readWord_39 : decode cX4_readWord 39 = .ok (.iconst 0, 1) := by decide +kernel
theorem dX4_readWord_40 : decode cX4_readWord 40 = .ok (.sipush 2000, 3) := by decide +kernel
theorem dX4_readWord_43 : decode cX4_readWord 43 = .ok (.invokevirtual 177, 3) := by decide +kernel
theorem dX4_readWord_46 : decode cX4_readWord 46 = .ok (.istore_n 3, 1) := by decide +kernel
theorem dX4_readWord_47 : decode cX4_readWord 47 = .ok (.aload_n 0, 1) := by decide +kernel
theorem dX4_readWord_48 : decode cX4_readWord 48 = .ok (.iconst 1, 1) := by decide +kernel
theorem dX4_readWord_49 : decode cX4_readWord 49 = .ok (.bipush 60, 2) := by decide +kernel
theorem dX4_readWord_51 : decode cX4_readWord 51 = .ok (.invokevirtual 177, 3) := by decide +kernel
theorem dX4_readWord_54 : decode cX4_readWord 54 = .ok (.istore 4, 2) := by decide +kernel
theorem dX4_readWord_56 : decode cX4_readWord 56 = .ok (.aload_n 0, 1) := by decide +kernel
theorem dX4_readWord_57 : decode cX4_readWord 57 = .ok (.iconst 0, 1) := by decide +kernel
theorem dX4_readWord_58 : decode cX4_readWord 58 = .ok (.bipush 60, 2) := by decide +kernel
theorem dX4_readWord_60 : decode cX4_readWord 60 = .ok (.invokevirtual 177, 3) := by decide +kernel
theorem dX4_readWord_63 : decode cX4_readWord 63 = .ok (.istore 5, 2) := by decide +kernel
theorem dX4_readWord_65 : decode cX4_readWord 65 = .ok (.aload_n 0, 1) := by decide +kernel
theorem dX4_readWord_66 : decode cX4_readWord 66 = .ok (.getfield 158, 3) := by decide +kernel
theorem dX4_readWord_69 : decode cX4_readWord 69 = .ok (.ifCond .eq 7, 3) := by decide +kernel
theorem dX4_readWord_72 : decode cX4_readWord 72 = .ok (.iconst 0, 1) := by decide +kernel
theorem dX4_readWord_73 : decode cX4_readWord 73 = .ok (.goto 7, 3) := by decide +kernel
theorem dX4_readWord_76 : decode cX4_readWord 76 = .ok (.aload_n 0, 1) := by decide +kernel
theorem dX4_readWord_77 : decode cX4_readWord 77 = .ok (.invokevirtual 180, 3) := by decide +kernel
theorem dX4_readWord_80 : decode cX4_readWord 80 = .ok (.istore 6, 2) := by decide +kernel
theorem dX4_readWord_82 : decode cX4_readWord 82 = .ok (.iload 6, 2) := by decide +kernel
theorem dX4_readWord_84 : decode cX4_readWord 84 = .ok (.ifCond .le 9, 3) := by decide +kernel
theorem dX4_readWord_87 : decode cX4_readWord 87 = .ok (.aload_n 0, 1) := by decide +kernel
theorem dX4_readWord_88 : decode cX4_readWord 88 = .ok (.iconst 1, 1) := by decide +kernel
theorem dX4_readWord_89 : decode cX4_readWord 89 = .ok (.invokevirtual 165, 3) := by decide +kernel
theorem dX4_readWord_92 : decode cX4_readWord 92 = .ok (.pop, 1) := by decide +kernel
theorem dX4_readWord_93 : decode cX4_readWord 93 = .ok (.aload_n 0, 1) := by decide +kernel
theorem dX4_readWord_94 : decode cX4_readWord 94 = .ok (.aload_n 0, 1) := by decide +kernel
theorem dX4_readWord_95 : decode cX4_readWord 95 = .ok (.getfield 145, 3) := by decide +kernel
theorem dX4_readWord_98 : decode cX4_readWord 98 = .ok (.iconst 2, 1) := by decide +kernel
theorem dX4_readWord_99 : decode cX4_readWord 99 = .ok (.if_icmp .ne 7, 3) := by decide +kernel
theorem dX4_readWord_102 : decode cX4_readWord 102 = .ok (.iconst 1, 1) := by decide +kernel
theorem dX4_readWord_103 : decode cX4_readWord 103 = .ok (.goto 4, 3) := by decide +kernel
theorem dX4_readWord_106 : decode cX4_readWord 106 = .ok (.iconst 0, 1) := by decide +kernel
theorem dX4_readWord_107 : decode cX4_readWord 107 = .ok (.invokevirtual 165, 3) := by decide +kernel
theorem dX4_readWord_110 : decode cX4_readWord 110 = .ok (.pop, 1) := by decide +kernel
theorem dX4_readWord_111 : decode cX4_readWord 111 = .ok (.aload_n 0, 1) := by decide +kernel
theorem dX4_readWord_112 : decode cX4_readWord 112 = .ok (.getfield 158, 3) := by decide +kernel
theorem dX4_readWord_115 : decode cX4_readWord 115 = .ok (.ifCond .ne 52, 3) := by decide +kernel
theorem dX4_readWord_118 : decode cX4_readWord 118 = .ok (.aload_n 0, 1) := by decide +kernel
theorem dX4_readWord_119 : decode cX4_readWord 119 = .ok (.iload_n 2, 1) := by decide +kernel
theorem dX4_readWord_120 : decode cX4_readWord 120 = .ok (.iload_n 3, 1) := by decide +kernel
theorem dX4_readWord_121 : decode cX4_readWord 121 = .ok (.iload 4, 2) := by decide +kernel
theorem dX4_readWord_123 : decode cX4_readWord 123 = .ok (.iload 5, 2) := by decide +kernel
theorem dX4_readWord_125 : decode cX4_readWord 125 = .ok (.iload 6, 2) := by decide +kernel
theorem dX4_readWord_127 : decode cX4_readWord 127 = .ok (.invokevirtual 99, 3) := by decide +kernel
theorem dX4_readWord_130 : decode cX4_readWord 130 = .ok (.istore 7, 2) := by decide +kernel
theorem dX4_readWord_132 : decode cX4_readWord 132 = .ok (.iconst 0, 1) := by decide +kernel
theorem dX4_readWord_133 : decode cX4_readWord 133 = .ok (.istore 8, 2) := by decide +kernel
theorem dX4_readWord_135 : decode cX4_readWord 135 = .ok (.iload 8, 2) := by decide +kernel
theorem dX4_readWord_137 : decode cX4_readWord 137 = .ok (.iload_n 2, 1) := by decide +kernel
theorem dX4_readWord_138 : decode cX4_readWord 138 = .ok (.if_icmp .ge 29, 3) := by decide +kernel
theorem dX4_readWord_141 : decode cX4_readWord 141 = .ok (.aload_n 0, 1) := by decide +kernel
theorem dX4_readWord_142 : decode cX4_readWord 142 = .ok (.iload 7, 2) := by decide +kernel
theorem dX4_readWord_144 : decode cX4_readWord 144 = .ok (.bipush 7, 2) := by decide +kernel
theorem dX4_readWord_146 : decode cX4_readWord 146 = .ok (.iload 8, 2) := by decide +kernel
theorem dX4_readWord_148 : decode cX4_readWord 148 = .ok (.iadd, 1) := by decide +kernel
theorem dX4_readWord_149 : decode cX4_readWord 149 = .ok (.aload_n 0, 1) := by decide +kernel
theorem dX4_readWord_150 : decode cX4_readWord 150 = .ok (.getfield 19, 3) := by decide +kernel
theorem dX4_readWord_153 : decode cX4_readWord 153 = .ok (.iload_n 1, 1) := by decide +kernel
theorem dX4_readWord_154 : decode cX4_readWord 154 = .ok (.iload 8, 2) := by decide +kernel
theorem dX4_readWord_156 : decode cX4_readWord 156 = .ok (.iadd, 1) := by decide +kernel
theorem dX4_readWord_157 : decode cX4_readWord 157 = .ok (.iaload, 1) := by decide +kernel
theorem dX4_readWord_158 : decode cX4_readWord 158 = .ok (.invokevirtual 81, 3) := by decide +kernel
theorem dX4_readWord_161 : decode cX4_readWord 161 = .ok (.iinc 8 1, 3) := by decide +kernel
theorem dX4_readWord_164 : decode cX4_readWord 164 = .ok (.goto (-29), 3) := by decide +kernel
theorem dX4_readWord_167 : decode cX4_readWord 167 = .ok (.return_, 1) := by decide +kernel
theorem dX4_readShot_0 : decode cX4_readShot 0 = .ok (.aload_n 0, 1) := by decide +kernel
theorem dX4_readShot_1 : decode cX4_readShot 1 = .ok (.aload_n 0, 1) := by decide +kernel
theorem dX4_readShot_2 : decode cX4_readShot 2 = .ok (.getfield 145, 3) := by decide +kernel
theorem dX4_readShot_5 : decode cX4_readShot 5 = .ok (.iconst 1, 1) := by decide +kernel
theorem dX4_readShot_6 : decode cX4_readShot 6 = .ok (.if_icmp .ne 35, 3) := by decide +kernel
theorem dX4_readShot_9 : decode cX4_readShot 9 = .ok (.aload_n 0, 1) := by decide +kernel
theorem dX4_readShot_10 : decode cX4_readShot 10 = .ok (.getfield 137, 3) := by decide +kernel
theorem dX4_readShot_13 : decode cX4_readShot 13 = .ok (.lconst 1, 1) := by decide +kernel
theorem dX4_readShot_14 : decode cX4_readShot 14 = .ok (.ldc2_w 110, 3) := by decide +kernel
theorem dX4_readShot_17 : decode cX4_readShot 17 = .ok (.invokestatic 33, 3) := by decide +kernel
theorem dX4_readShot_20 : decode cX4_readShot 20 = .ok (.ifCond .eq 21, 3) := by decide +kernel
theorem dX4_readShot_23 : decode cX4_readShot 23 = .ok (.aload_n 0, 1) := by decide +kernel
theorem dX4_readShot_24 : decode cX4_readShot 24 = .ok (.aload_n 0, 1) := by decide +kernel
theorem dX4_readShot_25 : decode cX4_readShot 25 = .ok (.getfield 137, 3) := by decide +kernel
theorem dX4_readShot_28 : decode cX4_readShot 28 = .ok (.l2i, 1) := by decide +kernel
theorem dX4_readShot_29 : decode cX4_readShot 29 = .ok (.invokevirtual 112, 3) := by decide +kernel
theorem dX4_readShot_32 : decode cX4_readShot 32 = .ok (.bipush (-19), 2) := by decide +kernel
theorem dX4_readShot_34 : decode cX4_readShot 34 = .ok (.if_icmp .ne 7, 3) := by decide +kernel
theorem dX4_readShot_37 : decode cX4_readShot 37 = .ok (.iconst 1, 1) := by decide +kernel
theorem dX4_readShot_38 : decode cX4_readShot 38 = .ok (.goto 4, 3) := by decide +kernel
theorem dX4_readShot_41 : decode cX4_readShot 41 = .ok (.iconst 0, 1) := by decide +kernel
theorem dX4_readShot_42 : decode cX4_readShot 42 = .ok (.invokevirtual 165, 3) := by decide +kernel
theorem dX4_readShot_45 : decode cX4_readShot 45 = .ok (.istore_n 1, 1) := by decide +kernel
theorem dX4_readShot_46 : decode cX4_readShot 46 = .ok (.aload_n 0, 1) := by decide +kernel
theorem dX4_readShot_47 : decode cX4_readShot 47 = .ok (.aload_n 0, 1) := by decide +kernel
theorem dX4_readShot_48 : decode cX4_readShot 48 = .ok (.getfield 145, 3) := by decide +kernel
theorem dX4_readShot_51 : decode cX4_readShot 51 = .ok (.iconst 2, 1) := by decide +kernel
theorem dX4_readShot_52 : decode cX4_readShot 52 = .ok (.if_icmp .ne 7, 3) := by decide +kernel
theorem dX4_readShot_55 : decode cX4_readShot 55 = .ok (.iconst 1, 1) := by decide +kernel
theorem dX4_readShot_56 : decode cX4_readShot 56 = .ok (.goto 4, 3) := by decide +kernel
theorem dX4_readShot_59 : decode cX4_readShot 59 = .ok (.iconst 0, 1) := by decide +kernel
theorem dX4_readShot_60 : decode cX4_readShot 60 = .ok (.invokevirtual 165, 3) := by decide +kernel
theorem dX4_readShot_63 : decode cX4_readShot 63 = .ok (.pop, 1) := by decide +kernel
theorem dX4_readShot_64 : decode cX4_readShot 64 = .ok (.aload_n 0, 1) := by decide +kernel
theorem dX4_readShot_65 : decode cX4_readShot 65 = .ok (.getfield 158, 3) := by decide +kernel
theorem dX4_readShot_68 : decode cX4_readShot 68 = .ok (.ifCond .ne 8, 3) := by decide +kernel
theorem dX4_readShot_71 : decode cX4_readShot 71 = .ok (.aload_n 0, 1) := by decide +kernel
theorem dX4_readShot_72 : decode cX4_readShot 72 = .ok (.iload_n 1, 1) := by decide +kernel
theorem dX4_readShot_73 : decode cX4_readShot 73 = .ok (.invokevirtual 115, 3) := by decide +kernel
theorem dX4_readShot_76 : decode cX4_readShot 76 = .ok (.return_, 1) := by decide +kernel
theorem dX4_readItem_0 : decode cX4_readItem 0 = .ok (.aload_n 0, 1) := by decide +kernel
theorem dX4_readItem_1 : decode cX4_readItem 1 = .ok (.getfield 145, 3) := by decide +kernel
theorem dX4_readItem_4 : decode cX4_readItem 4 = .ok (.ifCond .ne 18, 3) := by decide +kernel
theorem dX4_readItem_7 : decode cX4_readItem 7 = .ok (.aload_n 0, 1) := by decide +kernel
theorem dX4_readItem_8 : decode cX4_readItem 8 = .ok (.getfield 137, 3) := by decide +kernel
theorem dX4_readItem_11 : decode cX4_readItem 11 = .ok (.ldc2_w 183, 3) := by decide +kernel
theorem dX4_readItem_14 : decode cX4_readItem 14 = .ok (.lcmp, 1) := by decide +kernel
theorem dX4_readItem_15 : decode cX4_readItem 15 = .ok (.ifCond .ne 7, 3) := by decide +kernel
theorem dX4_readItem_18 : decode cX4_readItem 18 = .ok (.iconst 1, 1) := by decide +kernel
theorem dX4_readItem_19 : decode cX4_readItem 19 = .ok (.goto 4, 3) := by decide +kernel
theorem dX4_readItem_22 : decode cX4_readItem 22 = .ok (.iconst 0, 1) := by decide +kernel
theorem dX4_readItem_23 : decode cX4_readItem 23 = .ok (.istore_n 1, 1) := by decide +kernel
theorem dX4_readItem_24 : decode cX4_readItem 24 = .ok (.aload_n 0, 1) := by decide +kernel
theorem dX4_readItem_25 : decode cX4_readItem 25 = .ok (.getfield 145, 3) := by decide +kernel
theorem dX4_readItem_28 : decode cX4_readItem 28 = .ok (.ifCond .ne 18, 3) := by decide +kernel
theorem dX4_readItem_31 : decode cX4_readItem 31 = .ok (.aload_n 0, 1) := by decide +kernel
theorem dX4_readItem_32 : decode cX4_readItem 32 = .ok (.getfield 137, 3) := by decide +kernel
theorem dX4_readItem_35 : decode cX4_readItem 35 = .ok (.ldc2_w 185, 3) := by decide +kernel
theorem dX4_readItem_38 : decode cX4_readItem 38 = .ok (.lcmp, 1) := by decide +kernel
theorem dX4_readItem_39 : decode cX4_readItem 39 = .ok (.ifCond .ne 7, 3) := by decide +kernel
theorem dX4_readItem_42 : decode cX4_readItem 42 = .ok (.iconst 1, 1) := by decide +kernel
theorem dX4_readItem_43 : decode cX4_readItem 43 = .ok (.goto 4, 3) := by decide +kernel
theorem dX4_readItem_46 : decode cX4_readItem 46 = .ok (.iconst 0, 1) := by decide +kernel
theorem dX4_readItem_47 : decode cX4_readItem 47 = .ok (.istore_n 2, 1) := by decide +kernel
theorem dX4_readItem_48 : decode cX4_readItem 48 = .ok (.aload_n 0, 1) := by decide +kernel
theorem dX4_readItem_49 : decode cX4_readItem 49 = .ok (.iload_n 1, 1) := by decide +kernel
theorem dX4_readItem_50 : decode cX4_readItem 50 = .ok (.ifCond .eq 14, 3) := by decide +kernel
theorem dX4_readItem_53 : decode cX4_readItem 53 = .ok (.aload_n 0, 1) := by decide +kernel
theorem dX4_readItem_54 : decode cX4_readItem 54 = .ok (.getfield 7, 3) := by decide +kernel
theorem dX4_readItem_57 : decode cX4_readItem 57 = .ok (.iconst 0, 1) := by decide +kernel
theorem dX4_readItem_58 : decode cX4_readItem 58 = .ok (.iaload, 1) := by decide +kernel
theorem dX4_readItem_59 : decode cX4_readItem 59 = .ok (.bipush 12, 2) := by decide +kernel
theorem dX4_readItem_61 : decode cX4_readItem 61 = .ok (.if_icmp .lt 18, 3) := by decide +kernel
theorem dX4_readItem_64 : decode cX4_readItem 64 = .ok (.iload_n 2, 1) := by decide +kernel
theorem dX4_readItem_65 : decode cX4_readItem 65 = .ok (.ifCond .eq 18, 3) := by decide +kernel
theorem dX4_readItem_68 : decode cX4_readItem 68 = .ok (.aload_n 0, 1) := by decide +kernel
theorem dX4_readItem_69 : decode cX4_readItem 69 = .ok (.getfield 7, 3) := by decide +kernel
theorem dX4_readItem_72 : decode cX4_readItem 72 = .ok (.iconst 1, 1) := by decide +kernel
theorem dX4_readItem_73 : decode cX4_readItem 73 = .ok (.iaload, 1) := by decide +kernel
theorem dX4_readItem_74 : decode cX4_readItem 74 = .ok (.bipush 10, 2) := by decide +kernel
theorem dX4_readItem_76 : decode cX4_readItem 76 = .ok (.if_icmp .ge 7, 3) := by decide +kernel
theorem dX4_readItem_79 : decode cX4_readItem 79 = .ok (.iconst 1, 1) := by decide +kernel
theorem dX4_readItem_80 : decode cX4_readItem 80 = .ok (.goto 4, 3) := by decide +kernel
theorem dX4_readItem_83 : decode cX4_readItem 83 = .ok (.iconst 0, 1) := by decide +kernel
theorem dX4_readItem_84 : decode cX4_readItem 84 = .ok (.invokevirtual 165, 3) := by decide +kernel
theorem dX4_readItem_87 : decode cX4_readItem 87 = .ok (.pop, 1) := by decide +kernel
theorem dX4_readItem_88 : decode cX4_readItem 88 = .ok (.aload_n 0, 1) := by decide +kernel
theorem dX4_readItem_89 : decode cX4_readItem 89 = .ok (.getfield 158, 3) := by decide +kernel
theorem dX4_readItem_92 : decode cX4_readItem 92 = .ok (.ifCond .eq 4, 3) := by decide +kernel
theorem dX4_readItem_95 : decode cX4_readItem 95 = .ok (.return_, 1) := by decide +kernel
theorem dX4_readItem_96 : decode cX4_readItem 96 = .ok (.iload_n 1, 1) := by decide +kernel
theorem dX4_readItem_97 : decode cX4_readItem 97 = .ok (.ifCond .eq 10, 3) := by decide +kernel
theorem dX4_readItem_100 : decode cX4_readItem 100 = .ok (.aload_n 0, 1) := by decide +kernel
theorem dX4_readItem_101 : decode cX4_readItem 101 = .ok (.invokevirtual 187, 3) := by decide +kernel
theorem dX4_readItem_104 : decode cX4_readItem 104 = .ok (.goto 7, 3) := by decide +kernel
theorem dX4_readItem_107 : decode cX4_readItem 107 = .ok (.aload_n 0, 1) := by decide +kernel
theorem dX4_readItem_108 : decode cX4_readItem 108 = .ok (.invokevirtual 190, 3) := by decide +kernel
theorem dX4_readItem_111 : decode cX4_readItem 111 = .ok (.return_, 1) := by decide +kernel
theorem dX4_exchange_0 : decode cX4_exchange 0 = .ok (.iconst 0, 1) := by decide +kernel
theorem dX4_exchange_1 : decode cX4_exchange 1 = .ok (.istore_n 1, 1) := by decide +kernel
theorem dX4_exchange_2 : decode cX4_exchange 2 = .ok (.iload_n 1, 1) := by decide +kernel
theorem dX4_exchange_3 : decode cX4_exchange 3 = .ok (.sipush 241, 3) := by decide +kernel
theorem dX4_exchange_6 : decode cX4_exchange 6 = .ok (.if_icmp .ge 35, 3) := by decide +kernel
theorem dX4_exchange_9 : decode cX4_exchange 9 = .ok (.aload_n 0, 1) := by decide +kernel
theorem dX4_exchange_10 : decode cX4_exchange 10 = .ok (.getfield 7, 3) := by decide +kernel
theorem dX4_exchange_13 : decode cX4_exchange 13 = .ok (.iload_n 1, 1) := by decide +kernel
theorem dX4_exchange_14 : decode cX4_exchange 14 = .ok (.iaload, 1) := by decide +kernel
theorem dX4_exchange_15 : decode cX4_exchange 15 = .ok (.istore_n 2, 1) := by decide +kernel
theorem dX4_exchange_16 : decode cX4_exchange 16 = .ok (.aload_n 0, 1) := by decide +kernel
theorem dX4_exchange_17 : decode cX4_exchange 17 = .ok (.getfield 7, 3) := by decide +kernel
theorem dX4_exchange_20 : decode cX4_exchange 20 = .ok (.iload_n 1, 1) := by decide +kernel
theorem dX4_exchange_21 : decode cX4_exchange 21 = .ok (.aload_n 0, 1) := by decide +kernel
theorem dX4_exchange_22 : decode cX4_exchange 22 = .ok (.getfield 13, 3) := by decide +kernel
theorem dX4_exchange_25 : decode cX4_exchange 25 = .ok (.iload_n 1, 1) := by decide +kernel
theorem dX4_exchange_26 : decode cX4_exchange 26 = .ok (.iaload, 1) := by decide +kernel
theorem dX4_exchange_27 : decode cX4_exchange 27 = .ok (.iastore, 1) := by decide +kernel
theorem dX4_exchange_28 : decode cX4_exchange 28 = .ok (.aload_n 0, 1) := by decide +kernel
theorem dX4_exchange_29 : decode cX4_exchange 29 = .ok (.getfield 13, 3) := by decide +kernel
theorem dX4_exchange_32 : decode cX4_exchange 32 = .ok (.iload_n 1, 1) := by decide +kernel
theorem dX4_exchange_33 : decode cX4_exchange 33 = .ok (.iload_n 2, 1) := by decide +kernel
theorem dX4_exchange_34 : decode cX4_exchange 34 = .ok (.iastore, 1) := by decide +kernel
theorem dX4_exchange_35 : decode cX4_exchange 35 = .ok (.iinc 1 1, 3) := by decide +kernel
theorem dX4_exchange_38 : decode cX4_exchange 38 = .ok (.goto (-36), 3) := by decide +kernel
theorem dX4_exchange_41 : decode cX4_exchange 41 = .ok (.return_, 1) := by decide +kernel
theorem dX4_hold_0 : decode cX4_hold 0 = .ok (.iconst 0, 1) := by decide +kernel
theorem dX4_hold_1 : decode cX4_hold 1 = .ok (.istore_n 1, 1) := by decide +kernel
theorem dX4_hold_2 : decode cX4_hold 2 = .ok (.iload_n 1, 1) := by decide +kernel
theorem dX4_hold_3 : decode cX4_hold 3 = .ok (.sipush 241, 3) := by decide +kernel
theorem dX4_hold_6 : decode cX4_hold 6 = .ok (.if_icmp .ge 21, 3) := by decide +kernel
theorem dX4_hold_9 : decode cX4_hold 9 = .ok (.aload_n 0, 1) := by decide +kernel
theorem dX4_hold_10 : decode cX4_hold 10 = .ok (.getfield 13, 3) := by decide +kernel
theorem dX4_hold_13 : decode cX4_hold 13 = .ok (.iload_n 1, 1) := by decide +kernel
theorem dX4_hold_14 : decode cX4_hold 14 = .ok (.aload_n 0, 1) := by decide +kernel
theorem dX4_hold_15 : decode cX4_hold 15 = .ok (.getfield 7, 3) := by decide +kernel
theorem dX4_hold_18 : decode cX4_hold 18 = .ok (.iload_n 1, 1) := by decide +kernel
theorem dX4_hold_19 : decode cX4_hold 19 = .ok (.iaload, 1) := by decide +kernel
theorem dX4_hold_20 : decode cX4_hold 20 = .ok (.iastore, 1) := by decide +kernel
theorem dX4_hold_21 : decode cX4_hold 21 = .ok (.iinc 1 1, 3) := by decide +kernel
theorem dX4_hold_24 : decode cX4_hold 24 = .ok (.goto (-22), 3) := by decide +kernel
theorem dX4_hold_27 : decode cX4_hold 27 = .ok (.return_, 1) := by decide +kernel
theorem dX4_load_0 : decode cX4_load 0 = .ok (.aload_n 0, 1) := by decide +kernel
theorem dX4_load_1 : decode cX4_load 1 = .ok (.iconst 0, 1) := by decide +kernel
theorem dX4_load_2 : decode cX4_load 2 = .ok (.putfield 26, 3) := by decide +kernel
theorem dX4_load_5 : decode cX4_load 5 = .ok (.aload_n 0, 1) := by decide +kernel
theorem dX4_load_6 : decode cX4_load 6 = .ok (.invokevirtual 193, 3) := by decide +kernel
theorem dX4_load_9 : decode cX4_load 9 = .ok (.aload_n 0, 1) := by decide +kernel
theorem dX4_load_10 : decode cX4_load 10 = .ok (.iconst 0, 1) := by decide +kernel
theorem dX4_load_11 : decode cX4_load 11 = .ok (.putfield 127, 3) := by decide +kernel
theorem dX4_load_14 : decode cX4_load 14 = .ok (.aload_n 0, 1) := by decide +kernel
theorem dX4_load_15 : decode cX4_load 15 = .ok (.iconst 0, 1) := by decide +kernel
theorem dX4_load_16 : decode cX4_load 16 = .ok (.putfield 158, 3) := by decide +kernel
theorem dX4_load_19 : decode cX4_load 19 = .ok (.iconst 0, 1) := by decide +kernel
theorem dX4_load_20 : decode cX4_load 20 = .ok (.istore_n 1, 1) := by decide +kernel
theorem dX4_load_21 : decode cX4_load 21 = .ok (.aload_n 0, 1) := by decide +kernel
theorem dX4_load_22 : decode cX4_load 22 = .ok (.invokevirtual 162, 3) := by decide +kernel
theorem dX4_load_25 : decode cX4_load 25 = .ok (.aload_n 0, 1) := by decide +kernel
theorem dX4_load_26 : decode cX4_load 26 = .ok (.getfield 158, 3) := by decide +kernel
theorem dX4_load_29 : decode cX4_load 29 = .ok (.ifCond .ne 21, 3) := by decide +kernel
theorem dX4_load_32 : decode cX4_load 32 = .ok (.aload_n 0, 1) := by decide +kernel
theorem dX4_load_33 : decode cX4_load 33 = .ok (.getfield 145, 3) := by decide +kernel
theorem dX4_load_36 : decode cX4_load 36 = .ok (.iconst 4, 1) := by decide +kernel
theorem dX4_load_37 : decode cX4_load 37 = .ok (.if_icmp .eq 13, 3) := by decide +kernel
theorem dX4_load_40 : decode cX4_load 40 = .ok (.aload_n 0, 1) := by decide +kernel
theorem dX4_load_41 : decode cX4_load 41 = .ok (.invokevirtual 196, 3) := by decide +kernel
theorem dX4_load_44 : decode cX4_load 44 = .ok (.iinc 1 1, 3) := by decide +kernel
theorem dX4_load_47 : decode cX4_load 47 = .ok (.goto (-22), 3) := by decide +kernel
theorem dX4_load_50 : decode cX4_load 50 = .ok (.aload_n 0, 1) := by decide +kernel
theorem dX4_load_51 : decode cX4_load 51 = .ok (.invokevirtual 199, 3) := by decide +kernel
theorem dX4_load_54 : decode cX4_load 54 = .ok (.aload_n 0, 1) := by decide +kernel
theorem dX4_load_55 : decode cX4_load 55 = .ok (.getfield 158, 3) := by decide +kernel
theorem dX4_load_58 : decode cX4_load 58 = .ok (.ifCond .eq 12, 3) := by decide +kernel
theorem dX4_load_61 : decode cX4_load 61 = .ok (.sipush (-1000), 3) := by decide +kernel
theorem dX4_load_64 : decode cX4_load 64 = .ok (.aload_n 0, 1) := by decide +kernel
theorem dX4_load_65 : decode cX4_load 65 = .ok (.getfield 134, 3) := by decide +kernel
theorem dX4_load_68 : decode cX4_load 68 = .ok (.isub, 1) := by decide +kernel
theorem dX4_load_69 : decode cX4_load 69 = .ok (.ireturn, 1) := by decide +kernel
theorem dX4_load_70 : decode cX4_load 70 = .ok (.aload_n 0, 1) := by decide +kernel
theorem dX4_load_71 : decode cX4_load 71 = .ok (.invokevirtual 96, 3) := by decide +kernel
theorem dX4_load_74 : decode cX4_load 74 = .ok (.aload_n 0, 1) := by decide +kernel
theorem dX4_load_75 : decode cX4_load 75 = .ok (.invokevirtual 199, 3) := by decide +kernel
theorem dX4_load_78 : decode cX4_load 78 = .ok (.aload_n 0, 1) := by decide +kernel
theorem dX4_load_79 : decode cX4_load 79 = .ok (.iconst 0, 1) := by decide +kernel
theorem dX4_load_80 : decode cX4_load 80 = .ok (.putfield 124, 3) := by decide +kernel
theorem dX4_load_83 : decode cX4_load 83 = .ok (.iload_n 1, 1) := by decide +kernel
theorem dX4_load_84 : decode cX4_load 84 = .ok (.ireturn, 1) := by decide +kernel
theorem dX4_isPlace_0 : decode cX4_isPlace 0 = .ok (.aload_n 0, 1) := by decide +kernel
theorem dX4_isPlace_1 : decode cX4_isPlace 1 = .ok (.iload_n 1, 1) := by decide +kernel
theorem dX4_isPlace_2 : decode cX4_isPlace 2 = .ok (.invokevirtual 103, 3) := by decide +kernel
theorem dX4_isPlace_5 : decode cX4_isPlace 5 = .ok (.ifCond .eq 39, 3) := by decide +kernel
theorem dX4_isPlace_8 : decode cX4_isPlace 8 = .ok (.iload_n 2, 1) := by decide +kernel
theorem dX4_isPlace_9 : decode cX4_isPlace 9 = .ok (.i2l, 1) := by decide +kernel
theorem dX4_isPlace_10 : decode cX4_isPlace 10 = .ok (.lconst 0, 1) := by decide +kernel
theorem dX4_isPlace_11 : decode cX4_isPlace 11 = .ok (.ldc2_w 62, 3) := by decide +kernel
theorem dX4_isPlace_14 : decode cX4_isPlace 14 = .ok (.invokestatic 33, 3) := by decide +kernel
theorem dX4_isPlace_17 : decode cX4_isPlace 17 = .ok (.ifCond .eq 27, 3) := by decide +kernel
theorem dX4_isPlace_20 : decode cX4_isPlace 20 = .ok (.iload_n 3, 1) := by decide +kernel
theorem dX4_isPlace_21 : decode cX4_isPlace 21 = .ok (.i2l, 1) := by decide +kernel
theorem dX4_isPlace_22 : decode cX4_isPlace 22 = .ok (.lconst 0, 1) := by decide +kernel
theorem dX4_isPlace_23 : decode cX4_isPlace 23 = .ok (.bipush 40, 2) := by decide +kernel
theorem dX4_isPlace_25 : decode cX4_isPlace 25 = .ok (.aload_n 0, 1) := by decide +kernel
theorem dX4_isPlace_26 : decode cX4_isPlace 26 = .ok (.iload_n 1, 1) := by decide +kernel
theorem dX4_isPlace_27 : decode cX4_isPlace 27 = .ok (.bipush 6, 2) := by decide +kernel
theorem dX4_isPlace_29 : decode cX4_isPlace 29 = .ok (.invokevirtual 37, 3) := by decide +kernel
theorem dX4_isPlace_32 : decode cX4_isPlace 32 = .ok (.isub, 1) := by decide +kernel
theorem dX4_isPlace_33 : decode cX4_isPlace 33 = .ok (.i2l, 1) := by decide +kernel
theorem dX4_isPlace_34 : decode cX4_isPlace 34 = .ok (.invokestatic 33, 3) := by decide +kernel
theorem dX4_isPlace_37 : decode cX4_isPlace 37 = .ok (.ifCond .eq 7, 3) := by decide +kernel
theorem dX4_isPlace_40 : decode cX4_isPlace 40 = .ok (.iconst 1, 1) := by decide +kernel
theorem dX4_isPlace_41 : decode cX4_isPlace 41 = .ok (.goto 4, 3) := by decide +kernel
theorem dX4_isPlace_44 : decode cX4_isPlace 44 = .ok (.iconst 0, 1) := by decide +kernel
theorem dX4_isPlace_45 : decode cX4_isPlace 45 = .ok (.ireturn, 1) := by decide +kernel
theorem dX4_lay_0 : decode cX4_lay 0 = .ok (.aload_n 0, 1) := by decide +kernel
theorem dX4_lay_1 : decode cX4_lay 1 = .ok (.iload_n 1, 1) := by decide +kernel
theorem dX4_lay_2 : decode cX4_lay 2 = .ok (.iconst 4, 1) := by decide +kernel
theorem dX4_lay_3 : decode cX4_lay 3 = .ok (.iload_n 2, 1) := by decide +kernel
theorem dX4_lay_4 : decode cX4_lay 4 = .ok (.invokevirtual 81, 3) := by decide +kernel
theorem dX4_lay_7 : decode cX4_lay 7 = .ok (.aload_n 0, 1) := by decide +kernel
theorem dX4_lay_8 : decode cX4_lay 8 = .ok (.iload_n 1, 1) := by decide +kernel
theorem dX4_lay_9 : decode cX4_lay 9 = .ok (.iconst 5, 1) := by decide +kernel
theorem dX4_lay_10 : decode cX4_lay 10 = .ok (.iload_n 3, 1) := by decide +kernel
theorem dX4_lay_11 : decode cX4_lay 11 = .ok (.invokevirtual 81, 3) := by decide +kernel
theorem dX4_lay_14 : decode cX4_lay 14 = .ok (.return_, 1) := by decide +kernel
theorem dX4_put_0 : decode cX4_put 0 = .ok (.aload_n 0, 1) := by decide +kernel
theorem dX4_put_1 : decode cX4_put 1 = .ok (.iconst 0, 1) := by decide +kernel
theorem dX4_put_2 : decode cX4_put 2 = .ok (.putfield 26, 3) := by decide +kernel
theorem dX4_put_5 : decode cX4_put 5 = .ok (.aload_n 0, 1) := by decide +kernel
theorem dX4_put_6 : decode cX4_put 6 = .ok (.iload_n 1, 1) := by decide +kernel
theorem dX4_put_7 : decode cX4_put 7 = .ok (.iload_n 2, 1) := by decide +kernel
theorem dX4_put_8 : decode cX4_put 8 = .ok (.iload_n 3, 1) := by decide +kernel
theorem dX4_put_9 : decode cX4_put 9 = .ok (.invokevirtual 202, 3) := by decide +kernel
theorem dX4_put_12 : decode cX4_put 12 = .ok (.ifCond .ne 6, 3) := by decide +kernel
theorem dX4_put_15 : decode cX4_put 15 = .ok (.bipush (-11), 2) := by decide +kernel
theorem dX4_put_17 : decode cX4_put 17 = .ok (.ireturn, 1) := by decide +kernel
theorem dX4_put_18 : decode cX4_put 18 = .ok (.aload_n 0, 1) := by decide +kernel
theorem dX4_put_19 : decode cX4_put 19 = .ok (.invokevirtual 193, 3) := by decide +kernel
theorem dX4_put_22 : decode cX4_put 22 = .ok (.aload_n 0, 1) := by decide +kernel
theorem dX4_put_23 : decode cX4_put 23 = .ok (.iload_n 1, 1) := by decide +kernel
theorem dX4_put_24 : decode cX4_put 24 = .ok (.iload_n 2, 1) := by decide +kernel
theorem dX4_put_25 : decode cX4_put 25 = .ok (.iload_n 3, 1) := by decide +kernel
theorem dX4_put_26 : decode cX4_put 26 = .ok (.invokevirtual 205, 3) := by decide +kernel
theorem dX4_put_29 : decode cX4_put 29 = .ok (.aload_n 0, 1) := by decide +kernel
theorem dX4_put_30 : decode cX4_put 30 = .ok (.iload_n 1, 1) := by decide +kernel
theorem dX4_put_31 : decode cX4_put 31 = .ok (.invokevirtual 208, 3) := by decide +kernel
theorem dX4_put_34 : decode cX4_put 34 = .ok (.istore 4, 2) := by decide +kernel
theorem dX4_put_36 : decode cX4_put 36 = .ok (.aload_n 0, 1) := by decide +kernel
theorem dX4_put_37 : decode cX4_put 37 = .ok (.invokevirtual 199, 3) := by decide +kernel
theorem dX4_put_40 : decode cX4_put 40 = .ok (.iload 4, 2) := by decide +kernel
theorem dX4_put_42 : decode cX4_put 42 = .ok (.ifCond .eq 6, 3) := by decide +kernel
theorem dX4_put_45 : decode cX4_put 45 = .ok (.bipush (-12), 2) := by decide +kernel
theorem dX4_put_47 : decode cX4_put 47 = .ok (.ireturn, 1) := by decide +kernel
theorem dX4_put_48 : decode cX4_put 48 = .ok (.aload_n 0, 1) := by decide +kernel
theorem dX4_put_49 : decode cX4_put 49 = .ok (.invokevirtual 96, 3) := by decide +kernel
theorem dX4_put_52 : decode cX4_put 52 = .ok (.aload_n 0, 1) := by decide +kernel
theorem dX4_put_53 : decode cX4_put 53 = .ok (.iload_n 1, 1) := by decide +kernel
theorem dX4_put_54 : decode cX4_put 54 = .ok (.iload_n 2, 1) := by decide +kernel
theorem dX4_put_55 : decode cX4_put 55 = .ok (.iload_n 3, 1) := by decide +kernel
theorem dX4_put_56 : decode cX4_put 56 = .ok (.invokevirtual 205, 3) := by decide +kernel
theorem dX4_put_59 : decode cX4_put 59 = .ok (.aload_n 0, 1) := by decide +kernel
theorem dX4_put_60 : decode cX4_put 60 = .ok (.invokevirtual 211, 3) := by decide +kernel
theorem dX4_put_63 : decode cX4_put 63 = .ok (.ireturn, 1) := by decide +kernel
theorem dX4_take_0 : decode cX4_take 0 = .ok (.aload_n 0, 1) := by decide +kernel
theorem dX4_take_1 : decode cX4_take 1 = .ok (.iconst 0, 1) := by decide +kernel
theorem dX4_take_2 : decode cX4_take 2 = .ok (.putfield 26, 3) := by decide +kernel
theorem dX4_take_5 : decode cX4_take 5 = .ok (.aload_n 0, 1) := by decide +kernel
theorem dX4_take_6 : decode cX4_take 6 = .ok (.iload_n 1, 1) := by decide +kernel
theorem dX4_take_7 : decode cX4_take 7 = .ok (.invokevirtual 103, 3) := by decide +kernel
theorem dX4_take_10 : decode cX4_take 10 = .ok (.ifCond .ne 6, 3) := by decide +kernel
theorem dX4_take_13 : decode cX4_take 13 = .ok (.bipush (-11), 2) := by decide +kernel
theorem dX4_take_15 : decode cX4_take 15 = .ok (.ireturn, 1) := by decide +kernel
theorem dX4_take_16 : decode cX4_take 16 = .ok (.aload_n 0, 1) := by decide +kernel
theorem dX4_take_17 : decode cX4_take 17 = .ok (.iload_n 1, 1) := by decide +kernel
theorem dX4_take_18 : decode cX4_take 18 = .ok (.invokevirtual 41, 3) := by decide +kernel
theorem dX4_take_21 : decode cX4_take 21 = .ok (.ifCond .ne 6, 3) := by decide +kernel
theorem dX4_take_24 : decode cX4_take 24 = .ok (.bipush (-12), 2) := by decide +kernel
theorem dX4_take_26 : decode cX4_take 26 = .ok (.ireturn, 1) := by decide +kernel
theorem dX4_take_27 : decode cX4_take 27 = .ok (.aload_n 0, 1) := by decide +kernel
theorem dX4_take_28 : decode cX4_take 28 = .ok (.invokevirtual 96, 3) := by decide +kernel
theorem dX4_take_31 : decode cX4_take 31 = .ok (.aload_n 0, 1) := by decide +kernel
theorem dX4_take_32 : decode cX4_take 32 = .ok (.iload_n 1, 1) := by decide +kernel
theorem dX4_take_33 : decode cX4_take 33 = .ok (.invokevirtual 106, 3) := by decide +kernel
theorem dX4_take_36 : decode cX4_take 36 = .ok (.aload_n 0, 1) := by decide +kernel
theorem dX4_take_37 : decode cX4_take 37 = .ok (.invokevirtual 211, 3) := by decide +kernel
theorem dX4_take_40 : decode cX4_take 40 = .ok (.ireturn, 1) := by decide +kernel
theorem dX4_nextWord_0 : decode cX4_nextWord 0 = .ok (.bipush (-19), 2) := by decide +kernel
theorem dX4_nextWord_2 : decode cX4_nextWord 2 = .ok (.istore_n 1, 1) := by decide +kernel
theorem dX4_nextWord_3 : decode cX4_nextWord 3 = .ok (.iconst 0, 1) := by decide +kernel
theorem dX4_nextWord_4 : decode cX4_nextWord 4 = .ok (.istore_n 2, 1) := by decide +kernel
theorem dX4_nextWord_5 : decode cX4_nextWord 5 = .ok (.iload_n 2, 1) := by decide +kernel
theorem dX4_nextWord_6 : decode cX4_nextWord 6 = .ok (.aload_n 0, 1) := by decide +kernel
theorem dX4_nextWord_7 : decode cX4_nextWord 7 = .ok (.getfield 7, 3) := by decide +kernel
theorem dX4_nextWord_10 : decode cX4_nextWord 10 = .ok (.iconst 0, 1) := by decide +kernel
theorem dX4_nextWord_11 : decode cX4_nextWord 11 = .ok (.iaload, 1) := by decide +kernel
theorem dX4_nextWord_12 : decode cX4_nextWord 12 = .ok (.if_icmp .ge 87, 3) := by decide +kernel
theorem dX4_nextWord_15 : decode cX4_nextWord 15 = .ok (.aload_n 0, 1) := by decide +kernel
theorem dX4_nextWord_16 : decode cX4_nextWord 16 = .ok (.getfield 22, 3) := by decide +kernel
theorem dX4_nextWord_19 : decode cX4_nextWord 19 = .ok (.iload_n 2, 1) := by decide +kernel
theorem dX4_nextWord_20 : decode cX4_nextWord 20 = .ok (.baload, 1) := by decide +kernel
theorem dX4_nextWord_21 : decode cX4_nextWord 21 = .ok (.ifCond .ne 72, 3) := by decide +kernel
theorem dX4_nextWord_24 : decode cX4_nextWord 24 = .ok (.iload_n 1, 1) := by decide +kernel
theorem dX4_nextWord_25 : decode cX4_nextWord 25 = .ok (.bipush (-19), 2) := by decide +kernel
theorem dX4_nextWord_27 : decode cX4_nextWord 27 = .ok (.if_icmp .eq 50, 3) := by decide +kernel
theorem dX4_nextWord_30 : decode cX4_nextWord 30 = .ok (.aload_n 0, 1) := by decide +kernel
theorem dX4_nextWord_31 : decode cX4_nextWord 31 = .ok (.iload_n 2, 1) := by decide +kernel
theorem dX4_nextWord_32 : decode cX4_nextWord 32 = .ok (.iconst 0, 1) := by decide +kernel
theorem dX4_nextWord_33 : decode cX4_nextWord 33 = .ok (.invokevirtual 37, 3) := by decide +kernel
theorem dX4_nextWord_36 : decode cX4_nextWord 36 = .ok (.aload_n 0, 1) := by decide +kernel
theorem dX4_nextWord_37 : decode cX4_nextWord 37 = .ok (.iload_n 1, 1) := by decide +kernel
theorem dX4_nextWord_38 : decode cX4_nextWord 38 = .ok (.iconst 0, 1) := by decide +kernel
theorem dX4_nextWord_39 : decode cX4_nextWord 39 = .ok (.invokevirtual 37, 3) := by decide +kernel
theorem dX4_nextWord_42 : decode cX4_nextWord 42 = .ok (.if_icmp .lt 35, 3) := by decide +kernel
theorem dX4_nextWord_45 : decode cX4_nextWord 45 = .ok (.aload_n 0, 1) := by decide +kernel
theorem dX4_nextWord_46 : decode cX4_nextWord 46 = .ok (.iload_n 2, 1) := by decide +kernel
theorem dX4_nextWord_47 : decode cX4_nextWord 47 = .ok (.iconst 0, 1) := by decide +kernel
theorem dX4_nextWord_48 : decode cX4_nextWord 48 = .ok (.invokevirtual 37, 3) := by decide +kernel
theorem dX4_nextWord_51 : decode cX4_nextWord 51 = .ok (.aload_n 0, 1) := by decide +kernel
theorem dX4_nextWord_52 : decode cX4_nextWord 52 = .ok (.iload_n 1, 1) := by decide +kernel
theorem dX4_nextWord_53 : decode cX4_nextWord 53 = .ok (.iconst 0, 1) := by decide +kernel
theorem dX4_nextWord_54 : decode cX4_nextWord 54 = .ok (.invokevirtual 37, 3) := by decide +kernel
theorem dX4_nextWord_57 : decode cX4_nextWord 57 = .ok (.if_icmp .ne 24, 3) := by decide +kernel
theorem dX4_nextWord_60 : decode cX4_nextWord 60 = .ok (.aload_n 0, 1) := by decide +kernel
theorem dX4_nextWord_61 : decode cX4_nextWord 61 = .ok (.iload_n 2, 1) := by decide +kernel
theorem dX4_nextWord_62 : decode cX4_nextWord 62 = .ok (.bipush 6, 2) := by decide +kernel
theorem dX4_nextWord_64 : decode cX4_nextWord 64 = .ok (.invokevirtual 37, 3) := by decide +kernel
theorem dX4_nextWord_67 : decode cX4_nextWord 67 = .ok (.aload_n 0, 1) := by decide +kernel
theorem dX4_nextWord_68 : decode cX4_nextWord 68 = .ok (.iload_n 1, 1) := by decide +kernel
theorem dX4_nextWord_69 : decode cX4_nextWord 69 = .ok (.bipush 6, 2) := by decide +kernel
theorem dX4_nextWord_71 : decode cX4_nextWord 71 = .ok (.invokevirtual 37, 3) := by decide +kernel
theorem dX4_nextWord_74 : decode cX4_nextWord 74 = .ok (.if_icmp .le 7, 3) := by decide +kernel
theorem dX4_nextWord_77 : decode cX4_nextWord 77 = .ok (.iconst 1, 1) := by decide +kernel
theorem dX4_nextWord_78 : decode cX4_nextWord 78 = .ok (.goto 4, 3) := by decide +kernel
theorem dX4_nextWord_81 : decode cX4_nextWord 81 = .ok (.iconst 0, 1) := by decide +kernel
theorem dX4_nextWord_82 : decode cX4_nextWord 82 = .ok (.istore_n 3, 1) := by decide +kernel
theorem dX4_nextWord_83 : decode cX4_nextWord 83 = .ok (.iload_n 3, 1) := by decide +kernel
theorem dX4_nextWord_84 : decode cX4_nextWord 84 = .ok (.ifCond .eq 7, 3) := by decide +kernel
theorem dX4_nextWord_87 : decode cX4_nextWord 87 = .ok (.iload_n 2, 1) := by decide +kernel
theorem dX4_nextWord_88 : decode cX4_nextWord 88 = .ok (.goto 4, 3) := by decide +kernel
theorem dX4_nextWord_91 : decode cX4_nextWord 91 = .ok (.iload_n 1, 1) := by decide +kernel
theorem dX4_nextWord_92 : decode cX4_nextWord 92 = .ok (.istore_n 1, 1) := by decide +kernel
theorem dX4_nextWord_93 : decode cX4_nextWord 93 = .ok (.iinc 2 1, 3) := by decide +kernel
theorem dX4_nextWord_96 : decode cX4_nextWord 96 = .ok (.goto (-91), 3) := by decide +kernel
theorem dX4_nextWord_99 : decode cX4_nextWord 99 = .ok (.iload_n 1, 1) := by decide +kernel
theorem dX4_nextWord_100 : decode cX4_nextWord 100 = .ok (.ireturn, 1) := by decide +kernel
theorem dX4_laneOf_0 : decode cX4_laneOf 0 = .ok (.iload_n 0, 1) := by decide +kernel
theorem dX4_laneOf_1 : decode cX4_laneOf 1 = .ok (.iconst 2, 1) := by decide +kernel
theorem dX4_laneOf_2 : decode cX4_laneOf 2 = .ok (.irem, 1) := by decide +kernel
theorem dX4_laneOf_3 : decode cX4_laneOf 3 = .ok (.ifCond .ne 11, 3) := by decide +kernel
theorem dX4_laneOf_6 : decode cX4_laneOf 6 = .ok (.iconst 3, 1) := by decide +kernel
theorem dX4_laneOf_7 : decode cX4_laneOf 7 = .ok (.iload_n 0, 1) := by decide +kernel
theorem dX4_laneOf_8 : decode cX4_laneOf 8 = .ok (.iconst 2, 1) := by decide +kernel
theorem dX4_laneOf_9 : decode cX4_laneOf 9 = .ok (.idiv, 1) := by decide +kernel
theorem dX4_laneOf_10 : decode cX4_laneOf 10 = .ok (.isub, 1) := by decide +kernel
theorem dX4_laneOf_11 : decode cX4_laneOf 11 = .ok (.goto 8, 3) := by decide +kernel
theorem dX4_laneOf_14 : decode cX4_laneOf 14 = .ok (.iconst 4, 1) := by decide +kernel
theorem dX4_laneOf_15 : decode cX4_laneOf 15 = .ok (.iload_n 0, 1) := by decide +kernel
theorem dX4_laneOf_16 : decode cX4_laneOf 16 = .ok (.iconst 2, 1) := by decide +kernel
theorem dX4_laneOf_17 : decode cX4_laneOf 17 = .ok (.idiv, 1) := by decide +kernel
theorem dX4_laneOf_18 : decode cX4_laneOf 18 = .ok (.iadd, 1) := by decide +kernel
theorem dX4_laneOf_19 : decode cX4_laneOf 19 = .ok (.ireturn, 1) := by decide +kernel
theorem dX4_laysIn_0 : decode cX4_laysIn 0 = .ok (.bipush 40, 2) := by decide +kernel
theorem dX4_laysIn_2 : decode cX4_laysIn 2 = .ok (.aload_n 0, 1) := by decide +kernel
theorem dX4_laysIn_3 : decode cX4_laysIn 3 = .ok (.iload_n 1, 1) := by decide +kernel
theorem dX4_laysIn_4 : decode cX4_laysIn 4 = .ok (.bipush 6, 2) := by decide +kernel
theorem dX4_laysIn_6 : decode cX4_laysIn 6 = .ok (.invokevirtual 37, 3) := by decide +kernel
theorem dX4_laysIn_9 : decode cX4_laysIn 9 = .ok (.isub, 1) := by decide +kernel
theorem dX4_laysIn_10 : decode cX4_laysIn 10 = .ok (.istore_n 3, 1) := by decide +kernel
theorem dX4_laysIn_11 : decode cX4_laysIn 11 = .ok (.iload_n 3, 1) := by decide +kernel
theorem dX4_laysIn_12 : decode cX4_laysIn 12 = .ok (.iconst 2, 1) := by decide +kernel
theorem dX4_laysIn_13 : decode cX4_laysIn 13 = .ok (.idiv, 1) := by decide +kernel
theorem dX4_laysIn_14 : decode cX4_laysIn 14 = .ok (.istore 4, 2) := by decide +kernel
theorem dX4_laysIn_16 : decode cX4_laysIn 16 = .ok (.iconst 0, 1) := by decide +kernel
theorem dX4_laysIn_17 : decode cX4_laysIn 17 = .ok (.istore 5, 2) := by decide +kernel
theorem dX4_laysIn_19 : decode cX4_laysIn 19 = .ok (.iload 5, 2) := by decide +kernel
theorem dX4_laysIn_21 : decode cX4_laysIn 21 = .ok (.bipush 40, 2) := by decide +kernel
theorem dX4_laysIn_23 : decode cX4_laysIn 23 = .ok (.if_icmp .gt 83, 3) := by decide +kernel
theorem dX4_laysIn_26 : decode cX4_laysIn 26 = .ok (.iconst 0, 1) := by decide +kernel
theorem dX4_laysIn_27 : decode cX4_laysIn 27 = .ok (.istore 6, 2) := by decide +kernel
theorem dX4_laysIn_29 : decode cX4_laysIn 29 = .ok (.iload 6, 2) := by decide +kernel
theorem dX4_laysIn_31 : decode cX4_laysIn 31 = .ok (.iload 5, 2) := by decide +kernel
theorem dX4_laysIn_33 : decode cX4_laysIn 33 = .ok (.ifCond .ne 7, 3) := by decide +kernel
theorem dX4_laysIn_36 : decode cX4_laysIn 36 = .ok (.iconst 1, 1) := by decide +kernel
theorem dX4_laysIn_37 : decode cX4_laysIn 37 = .ok (.goto 4, 3) := by decide +kernel
theorem dX4_laysIn_40 : decode cX4_laysIn 40 = .ok (.iconst 2, 1) := by decide +kernel
theorem dX4_laysIn_41 : decode cX4_laysIn 41 = .ok (.if_icmp .ge 59, 3) := by decide +kernel
theorem dX4_laysIn_44 : decode cX4_laysIn 44 = .ok (.iload 6, 2) := by decide +kernel
theorem dX4_laysIn_46 : decode cX4_laysIn 46 = .ok (.ifCond .ne 11, 3) := by decide +kernel
theorem dX4_laysIn_49 : decode cX4_laysIn 49 = .ok (.iload 4, 2) := by decide +kernel
theorem dX4_laysIn_51 : decode cX4_laysIn 51 = .ok (.iload 5, 2) := by decide +kernel
theorem dX4_laysIn_53 : decode cX4_laysIn 53 = .ok (.isub, 1) := by decide +kernel
theorem dX4_laysIn_54 : decode cX4_laysIn 54 = .ok (.goto 8, 3) := by decide +kernel
theorem dX4_laysIn_57 : decode cX4_laysIn 57 = .ok (.iload 4, 2) := by decide +kernel
theorem dX4_laysIn_59 : decode cX4_laysIn 59 = .ok (.iload 5, 2) := by decide +kernel
theorem dX4_laysIn_61 : decode cX4_laysIn 61 = .ok (.iadd, 1) := by decide +kernel
theorem dX4_laysIn_62 : decode cX4_laysIn 62 = .ok (.istore 7, 2) := by decide +kernel
theorem dX4_laysIn_64 : decode cX4_laysIn 64 = .ok (.iload 7, 2) := by decide +kernel
theorem dX4_laysIn_66 : decode cX4_laysIn 66 = .ok (.i2l, 1) := by decide +kernel
theorem dX4_laysIn_67 : decode cX4_laysIn 67 = .ok (.lconst 0, 1) := by decide +kernel
theorem dX4_laysIn_68 : decode cX4_laysIn 68 = .ok (.iload_n 3, 1) := by decide +kernel
theorem dX4_laysIn_69 : decode cX4_laysIn 69 = .ok (.i2l, 1) := by decide +kernel
theorem dX4_laysIn_70 : decode cX4_laysIn 70 = .ok (.invokestatic 33, 3) := by decide +kernel
theorem dX4_laysIn_73 : decode cX4_laysIn 73 = .ok (.ifCond .eq 21, 3) := by decide +kernel
theorem dX4_laysIn_76 : decode cX4_laysIn 76 = .ok (.aload_n 0, 1) := by decide +kernel
theorem dX4_laysIn_77 : decode cX4_laysIn 77 = .ok (.iload_n 1, 1) := by decide +kernel
theorem dX4_laysIn_78 : decode cX4_laysIn 78 = .ok (.iload_n 2, 1) := by decide +kernel
theorem dX4_laysIn_79 : decode cX4_laysIn 79 = .ok (.iload 7, 2) := by decide +kernel
theorem dX4_laysIn_81 : decode cX4_laysIn 81 = .ok (.invokevirtual 205, 3) := by decide +kernel
theorem dX4_laysIn_84 : decode cX4_laysIn 84 = .ok (.aload_n 0, 1) := by decide +kernel
theorem dX4_laysIn_85 : decode cX4_laysIn 85 = .ok (.iload_n 1, 1) := by decide +kernel
theorem dX4_laysIn_86 : decode cX4_laysIn 86 = .ok (.invokevirtual 208, 3) := by decide +kernel
theorem dX4_laysIn_89 : decode cX4_laysIn 89 = .ok (.ifCond .ne 5, 3) := by decide +kernel
theorem dX4_laysIn_92 : decode cX4_laysIn 92 = .ok (.iconst 1, 1) := by decide +kernel
theorem dX4_laysIn_93 : decode cX4_laysIn 93 = .ok (.ireturn, 1) := by decide +kernel
theorem dX4_laysIn_94 : decode cX4_laysIn 94 = .ok (.iinc 6 1, 3) := by decide +kernel
theorem dX4_laysIn_97 : decode cX4_laysIn 97 = .ok (.goto (-68), 3) := by decide +kernel
theorem dX4_laysIn_100 : decode cX4_laysIn 100 = .ok (.iinc 5 1, 3) := by decide +kernel
theorem dX4_laysIn_103 : decode cX4_laysIn 103 = .ok (.goto (-84), 3) := by decide +kernel
theorem dX4_laysIn_106 : decode cX4_laysIn 106 = .ok (.aload_n 0, 1) := by decide +kernel
theorem dX4_laysIn_107 : decode cX4_laysIn 107 = .ok (.iload_n 1, 1) := by decide +kernel
theorem dX4_laysIn_108 : decode cX4_laysIn 108 = .ok (.invokevirtual 106, 3) := by decide +kernel
theorem dX4_laysIn_111 : decode cX4_laysIn 111 = .ok (.iconst 0, 1) := by decide +kernel
theorem dX4_laysIn_112 : decode cX4_laysIn 112 = .ok (.ireturn, 1) := by decide +kernel
theorem dX4_putAll_0 : decode cX4_putAll 0 = .ok (.aload_n 0, 1) := by decide +kernel
theorem dX4_putAll_1 : decode cX4_putAll 1 = .ok (.iconst 0, 1) := by decide +kernel
theorem dX4_putAll_2 : decode cX4_putAll 2 = .ok (.putfield 26, 3) := by decide +kernel
theorem dX4_putAll_5 : decode cX4_putAll 5 = .ok (.aload_n 0, 1) := by decide +kernel
theorem dX4_putAll_6 : decode cX4_putAll 6 = .ok (.invokevirtual 96, 3) := by decide +kernel
theorem dX4_putAll_9 : decode cX4_putAll 9 = .ok (.iconst 0, 1) := by decide +kernel
theorem dX4_putAll_10 : decode cX4_putAll 10 = .ok (.istore_n 1, 1) := by decide +kernel
theorem dX4_putAll_11 : decode cX4_putAll 11 = .ok (.iload_n 1, 1) := by decide +kernel
theorem dX4_putAll_12 : decode cX4_putAll 12 = .ok (.aload_n 0, 1) := by decide +kernel
theorem dX4_putAll_13 : decode cX4_putAll 13 = .ok (.getfield 7, 3) := by decide +kernel
theorem dX4_putAll_16 : decode cX4_putAll 16 = .ok (.iconst 0, 1) := by decide +kernel
theorem dX4_putAll_17 : decode cX4_putAll 17 = .ok (.iaload, 1) := by decide +kernel
theorem dX4_putAll_18 : decode cX4_putAll 18 = .ok (.if_icmp .ge 21, 3) := by decide +kernel
theorem dX4_putAll_21 : decode cX4_putAll 21 = .ok (.aload_n 0, 1) := by decide +kernel
theorem dX4_putAll_22 : decode cX4_putAll 22 = .ok (.iload_n 1, 1) := by decide +kernel
theorem dX4_putAll_23 : decode cX4_putAll 23 = .ok (.invokevirtual 106, 3) := by decide +kernel
theorem dX4_putAll_26 : decode cX4_putAll 26 = .ok (.aload_n 0, 1) := by decide +kernel
theorem dX4_putAll_27 : decode cX4_putAll 27 = .ok (.getfield 22, 3) := by decide +kernel
theorem dX4_putAll_30 : decode cX4_putAll 30 = .ok (.iload_n 1, 1) := by decide +kernel
theorem dX4_putAll_31 : decode cX4_putAll 31 = .ok (.iconst 0, 1) := by decide +kernel
theorem dX4_putAll_32 : decode cX4_putAll 32 = .ok (.bastore, 1) := by decide +kernel
theorem dX4_putAll_33 : decode cX4_putAll 33 = .ok (.iinc 1 1, 3) := by decide +kernel
theorem dX4_putAll_36 : decode cX4_putAll 36 = .ok (.goto (-25), 3) := by decide +kernel
theorem dX4_putAll_39 : decode cX4_putAll 39 = .ok (.aload_n 0, 1) := by decide +kernel
theorem dX4_putAll_40 : decode cX4_putAll 40 = .ok (.invokevirtual 214, 3) := by decide +kernel
theorem dX4_putAll_43 : decode cX4_putAll 43 = .ok (.istore_n 1, 1) := by decide +kernel
theorem dX4_putAll_44 : decode cX4_putAll 44 = .ok (.iload_n 1, 1) := by decide +kernel
theorem dX4_putAll_45 : decode cX4_putAll 45 = .ok (.bipush (-19), 2) := by decide +kernel
theorem dX4_putAll_47 : decode cX4_putAll 47 = .ok (.if_icmp .eq 48, 3) := by decide +kernel
theorem dX4_putAll_50 : decode cX4_putAll 50 = .ok (.aload_n 0, 1) := by decide +kernel
theorem dX4_putAll_51 : decode cX4_putAll 51 = .ok (.getfield 22, 3) := by decide +kernel
theorem dX4_putAll_54 : decode cX4_putAll 54 = .ok (.iload_n 1, 1) := by decide +kernel
theorem dX4_putAll_55 : decode cX4_putAll 55 = .ok (.iconst 1, 1) := by decide +kernel
theorem dX4_putAll_56 : decode cX4_putAll 56 = .ok (.bastore, 1) := by decide +kernel
theorem dX4_putAll_57 : decode cX4_putAll 57 = .ok (.iconst 0, 1) := by decide +kernel
theorem dX4_putAll_58 : decode cX4_putAll 58 = .ok (.istore_n 2, 1) := by decide +kernel
theorem dX4_putAll_59 : decode cX4_putAll 59 = .ok (.iconst 0, 1) := by decide +kernel
theorem dX4_putAll_60 : decode cX4_putAll 60 = .ok (.istore_n 3, 1) := by decide +kernel
theorem dX4_putAll_61 : decode cX4_putAll 61 = .ok (.iload_n 3, 1) := by decide +kernel
theorem dX4_putAll_62 : decode cX4_putAll 62 = .ok (.bipush 8, 2) := by decide +kernel
theorem dX4_putAll_64 : decode cX4_putAll 64 = .ok (.if_icmp .ge 23, 3) := by decide +kernel
theorem dX4_putAll_67 : decode cX4_putAll 67 = .ok (.iload_n 2, 1) := by decide +kernel
theorem dX4_putAll_68 : decode cX4_putAll 68 = .ok (.ifCond .ne 19, 3) := by decide +kernel
theorem dX4_putAll_71 : decode cX4_putAll 71 = .ok (.aload_n 0, 1) := by decide +kernel
theorem dX4_putAll_72 : decode cX4_putAll 72 = .ok (.iload_n 1, 1) := by decide +kernel
theorem dX4_putAll_73 : decode cX4_putAll 73 = .ok (.iload_n 3, 1) := by decide +kernel
theorem dX4_putAll_74 : decode cX4_putAll 74 = .ok (.invokestatic 217, 3) := by decide +kernel
theorem dX4_putAll_77 : decode cX4_putAll 77 = .ok (.invokevirtual 220, 3) := by decide +kernel
theorem dX4_putAll_80 : decode cX4_putAll 80 = .ok (.istore_n 2, 1) := by decide +kernel
theorem dX4_putAll_81 : decode cX4_putAll 81 = .ok (.iinc 3 1, 3) := by decide +kernel
theorem dX4_putAll_84 : decode cX4_putAll 84 = .ok (.goto (-23), 3) := by decide +kernel
theorem dX4_putAll_87 : decode cX4_putAll 87 = .ok (.aload_n 0, 1) := by decide +kernel
theorem dX4_putAll_88 : decode cX4_putAll 88 = .ok (.invokevirtual 214, 3) := by decide +kernel
theorem dX4_putAll_91 : decode cX4_putAll 91 = .ok (.istore_n 1, 1) := by decide +kernel
theorem dX4_putAll_92 : decode cX4_putAll 92 = .ok (.goto (-48), 3) := by decide +kernel
theorem dX4_putAll_95 : decode cX4_putAll 95 = .ok (.aload_n 0, 1) := by decide +kernel
theorem dX4_putAll_96 : decode cX4_putAll 96 = .ok (.invokevirtual 211, 3) := by decide +kernel
theorem dX4_putAll_99 : decode cX4_putAll 99 = .ok (.ireturn, 1) := by decide +kernel
theorem dX4_undo_0 : decode cX4_undo 0 = .ok (.aload_n 0, 1) := by decide +kernel
theorem dX4_undo_1 : decode cX4_undo 1 = .ok (.iconst 0, 1) := by decide +kernel
theorem dX4_undo_2 : decode cX4_undo 2 = .ok (.putfield 26, 3) := by decide +kernel
theorem dX4_undo_5 : decode cX4_undo 5 = .ok (.aload_n 0, 1) := by decide +kernel
theorem dX4_undo_6 : decode cX4_undo 6 = .ok (.getfield 30, 3) := by decide +kernel
theorem dX4_undo_9 : decode cX4_undo 9 = .ok (.ifCond .ne 6, 3) := by decide +kernel
theorem dX4_undo_12 : decode cX4_undo 12 = .ok (.bipush (-12), 2) := by decide +kernel
theorem dX4_undo_14 : decode cX4_undo 14 = .ok (.ireturn, 1) := by decide +kernel
theorem dX4_undo_15 : decode cX4_undo 15 = .ok (.aload_n 0, 1) := by decide +kernel
theorem dX4_undo_16 : decode cX4_undo 16 = .ok (.dup, 1) := by decide +kernel
theorem dX4_undo_17 : decode cX4_undo 17 = .ok (.getfield 30, 3) := by decide +kernel
theorem dX4_undo_20 : decode cX4_undo 20 = .ok (.iconst 1, 1) := by decide +kernel
theorem dX4_undo_21 : decode cX4_undo 21 = .ok (.isub, 1) := by decide +kernel
theorem dX4_undo_22 : decode cX4_undo 22 = .ok (.putfield 30, 3) := by decide +kernel
theorem dX4_undo_25 : decode cX4_undo 25 = .ok (.iconst 0, 1) := by decide +kernel
theorem dX4_undo_26 : decode cX4_undo 26 = .ok (.istore_n 1, 1) := by decide +kernel
theorem dX4_undo_27 : decode cX4_undo 27 = .ok (.iload_n 1, 1) := by decide +kernel
theorem dX4_undo_28 : decode cX4_undo 28 = .ok (.sipush 241, 3) := by decide +kernel
theorem dX4_undo_31 : decode cX4_undo 31 = .ok (.if_icmp .ge 30, 3) := by decide +kernel
theorem dX4_undo_34 : decode cX4_undo 34 = .ok (.aload_n 0, 1) := by decide +kernel
theorem dX4_undo_35 : decode cX4_undo 35 = .ok (.getfield 7, 3) := by decide +kernel
theorem dX4_undo_38 : decode cX4_undo 38 = .ok (.iload_n 1, 1) := by decide +kernel
theorem dX4_undo_39 : decode cX4_undo 39 = .ok (.aload_n 0, 1) := by decide +kernel
theorem dX4_undo_40 : decode cX4_undo 40 = .ok (.getfield 16, 3) := by decide +kernel
theorem dX4_undo_43 : decode cX4_undo 43 = .ok (.sipush 241, 3) := by decide +kernel
theorem dX4_undo_46 : decode cX4_undo 46 = .ok (.aload_n 0, 1) := by decide +kernel
theorem dX4_undo_47 : decode cX4_undo 47 = .ok (.getfield 30, 3) := by decide +kernel
theorem dX4_undo_50 : decode cX4_undo 50 = .ok (.imul, 1) := by decide +kernel
theorem dX4_undo_51 : decode cX4_undo 51 = .ok (.iload_n 1, 1) := by decide +kernel
theorem dX4_undo_52 : decode cX4_undo 52 = .ok (.iadd, 1) := by decide +kernel
theorem dX4_undo_53 : decode cX4_undo 53 = .ok (.iaload, 1) := by decide +kernel
theorem dX4_undo_54 : decode cX4_undo 54 = .ok (.iastore, 1) := by decide +kernel
theorem dX4_undo_55 : decode cX4_undo 55 = .ok (.iinc 1 1, 3) := by decide +kernel
theorem dX4_undo_58 : decode cX4_undo 58 = .ok (.goto (-31), 3) := by decide +kernel
theorem dX4_undo_61 : decode cX4_undo 61 = .ok (.aload_n 0, 1) := by decide +kernel
theorem dX4_undo_62 : decode cX4_undo 62 = .ok (.getfield 30, 3) := by decide +kernel
theorem dX4_undo_65 : decode cX4_undo 65 = .ok (.ireturn, 1) := by decide +kernel
theorem dX4_meetingPairs_0 : decode cX4_meetingPairs 0 = .ok (.iconst 0, 1) := by decide +kernel
theorem dX4_meetingPairs_1 : decode cX4_meetingPairs 1 = .ok (.istore_n 1, 1) := by decide +kernel
theorem dX4_meetingPairs_2 : decode cX4_meetingPairs 2 = .ok (.iconst 0, 1) := by decide +kernel
theorem dX4_meetingPairs_3 : decode cX4_meetingPairs 3 = .ok (.istore_n 2, 1) := by decide +kernel
theorem dX4_meetingPairs_4 : decode cX4_meetingPairs 4 = .ok (.iload_n 2, 1) := by decide +kernel
theorem dX4_meetingPairs_5 : decode cX4_meetingPairs 5 = .ok (.aload_n 0, 1) := by decide +kernel
theorem dX4_meetingPairs_6 : decode cX4_meetingPairs 6 = .ok (.getfield 7, 3) := by decide +kernel
theorem dX4_meetingPairs_9 : decode cX4_meetingPairs 9 = .ok (.iconst 0, 1) := by decide +kernel
theorem dX4_meetingPairs_10 : decode cX4_meetingPairs 10 = .ok (.iaload, 1) := by decide +kernel
theorem dX4_meetingPairs_11 : decode cX4_meetingPairs 11 = .ok (.if_icmp .ge 48, 3) := by decide +kernel
theorem dX4_meetingPairs_14 : decode cX4_meetingPairs 14 = .ok (.iload_n 2, 1) := by decide +kernel
theorem dX4_meetingPairs_15 : decode cX4_meetingPairs 15 = .ok (.iconst 1, 1) := by decide +kernel
theorem dX4_meetingPairs_16 : decode cX4_meetingPairs 16 = .ok (.iadd, 1) := by decide +kernel
theorem dX4_meetingPairs_17 : decode cX4_meetingPairs 17 = .ok (.istore_n 3, 1) := by decide +kernel
theorem dX4_meetingPairs_18 : decode cX4_meetingPairs 18 = .ok (.iload_n 3, 1) := by decide +kernel
theorem dX4_meetingPairs_19 : decode cX4_meetingPairs 19 = .ok (.aload_n 0, 1) := by decide +kernel
theorem dX4_meetingPairs_20 : decode cX4_meetingPairs 20 = .ok (.getfield 7, 3) := by decide +kernel
theorem dX4_meetingPairs_23 : decode cX4_meetingPairs 23 = .ok (.iconst 0, 1) := by decide +kernel
theorem dX4_meetingPairs_24 : decode cX4_meetingPairs 24 = .ok (.iaload, 1) := by decide +kernel
theorem dX4_meetingPairs_25 : decode cX4_meetingPairs 25 = .ok (.if_icmp .ge 28, 3) := by decide +kernel
theorem dX4_meetingPairs_28 : decode cX4_meetingPairs 28 = .ok (.iload_n 1, 1) := by decide +kernel
theorem dX4_meetingPairs_29 : decode cX4_meetingPairs 29 = .ok (.aload_n 0, 1) := by decide +kernel
theorem dX4_meetingPairs_30 : decode cX4_meetingPairs 30 = .ok (.iload_n 2, 1) := by decide +kernel
theorem dX4_meetingPairs_31 : decode cX4_meetingPairs 31 = .ok (.iload_n 3, 1) := by decide +kernel
theorem dX4_meetingPairs_32 : decode cX4_meetingPairs 32 = .ok (.invokevirtual 78, 3) := by decide +kernel
theorem dX4_meetingPairs_35 : decode cX4_meetingPairs 35 = .ok (.bipush (-19), 2) := by decide +kernel
theorem dX4_meetingPairs_37 : decode cX4_meetingPairs 37 = .ok (.if_icmp .eq 7, 3) := by decide +kernel
theorem dX4_meetingPairs_40 : decode cX4_meetingPairs 40 = .ok (.iconst 1, 1) := by decide +kernel
theorem dX4_meetingPairs_41 : decode cX4_meetingPairs 41 = .ok (.goto 4, 3) := by decide +kernel
theorem dX4_meetingPairs_44 : decode cX4_meetingPairs 44 = .ok (.iconst 0, 1) := by decide +kernel
theorem dX4_meetingPairs_45 : decode cX4_meetingPairs 45 = .ok (.iadd, 1) := by decide +kernel
theorem dX4_meetingPairs_46 : decode cX4_meetingPairs 46 = .ok (.istore_n 1, 1) := by decide +kernel
theorem dX4_meetingPairs_47 : decode cX4_meetingPairs 47 = .ok (.iinc 3 1, 3) := by decide +kernel
theorem dX4_meetingPairs_50 : decode cX4_meetingPairs 50 = .ok (.goto (-32), 3) := by decide +kernel
theorem dX4_meetingPairs_53 : decode cX4_meetingPairs 53 = .ok (.iinc 2 1, 3) := by decide +kernel
theorem dX4_meetingPairs_56 : decode cX4_meetingPairs 56 = .ok (.goto (-52), 3) := by decide +kernel
theorem dX4_meetingPairs_59 : decode cX4_meetingPairs 59 = .ok (.iload_n 1, 1) := by decide +kernel
theorem dX4_meetingPairs_60 : decode cX4_meetingPairs 60 = .ok (.ireturn, 1) := by decide +kernel
theorem dX4_count_0 : decode cX4_count 0 = .ok (.aload_n 0, 1) := by decide +kernel
theorem dX4_count_1 : decode cX4_count 1 = .ok (.iconst 0, 1) := by decide +kernel
theorem dX4_count_2 : decode cX4_count 2 = .ok (.putfield 26, 3) := by decide +kernel
theorem dX4_count_5 : decode cX4_count 5 = .ok (.iload_n 1, 1) := by decide +kernel
theorem dX4_count_6 : decode cX4_count 6 = .ok (.tableswitch 83 0 6 #[42, 49, 54, 61, 68, 73, 78], 42) := by decide +kernel
theorem dX4_count_48 : decode cX4_count 48 = .ok (.aload_n 0, 1) := by decide +kernel
theorem dX4_count_49 : decode cX4_count 49 = .ok (.getfield 7, 3) := by decide +kernel
theorem dX4_count_52 : decode cX4_count 52 = .ok (.iconst 0, 1) := by decide +kernel
theorem dX4_count_53 : decode cX4_count 53 = .ok (.iaload, 1) := by decide +kernel
theorem dX4_count_54 : decode cX4_count 54 = .ok (.ireturn, 1) := by decide +kernel
theorem dX4_count_55 : decode cX4_count 55 = .ok (.aload_n 0, 1) := by decide +kernel
theorem dX4_count_56 : decode cX4_count 56 = .ok (.invokevirtual 211, 3) := by decide +kernel
theorem dX4_count_59 : decode cX4_count 59 = .ok (.ireturn, 1) := by decide +kernel
theorem dX4_count_60 : decode cX4_count 60 = .ok (.aload_n 0, 1) := by decide +kernel
theorem dX4_count_61 : decode cX4_count 61 = .ok (.getfield 7, 3) := by decide +kernel
theorem dX4_count_64 : decode cX4_count 64 = .ok (.iconst 1, 1) := by decide +kernel
theorem dX4_count_65 : decode cX4_count 65 = .ok (.iaload, 1) := by decide +kernel
theorem dX4_count_66 : decode cX4_count 66 = .ok (.ireturn, 1) := by decide +kernel
theorem dX4_count_67 : decode cX4_count 67 = .ok (.aload_n 0, 1) := by decide +kernel
theorem dX4_count_68 : decode cX4_count 68 = .ok (.getfield 7, 3) := by decide +kernel
theorem dX4_count_71 : decode cX4_count 71 = .ok (.iconst 2, 1) := by decide +kernel
theorem dX4_count_72 : decode cX4_count 72 = .ok (.iaload, 1) := by decide +kernel
theorem dX4_count_73 : decode cX4_count 73 = .ok (.ireturn, 1) := by decide +kernel
theorem dX4_count_74 : decode cX4_count 74 = .ok (.aload_n 0, 1) := by decide +kernel
theorem dX4_count_75 : decode cX4_count 75 = .ok (.invokevirtual 223, 3) := by decide +kernel
theorem dX4_count_78 : decode cX4_count 78 = .ok (.ireturn, 1) := by decide +kernel
theorem dX4_count_79 : decode cX4_count 79 = .ok (.aload_n 0, 1) := by decide +kernel
theorem dX4_count_80 : decode cX4_count 80 = .ok (.getfield 30, 3) := by decide +kernel
theorem dX4_count_83 : decode cX4_count 83 = .ok (.ireturn, 1) := by decide +kernel
theorem dX4_count_84 : decode cX4_count 84 = .ok (.aload_n 0, 1) := by decide +kernel
theorem dX4_count_85 : decode cX4_count 85 = .ok (.getfield 124, 3) := by decide +kernel
theorem dX4_count_88 : decode cX4_count 88 = .ok (.ireturn, 1) := by decide +kernel
theorem dX4_count_89 : decode cX4_count 89 = .ok (.bipush (-11), 2) := by decide +kernel
theorem dX4_count_91 : decode cX4_count 91 = .ok (.ireturn, 1) := by decide +kernel
theorem dX4_lastOn_0 : decode cX4_lastOn 0 = .ok (.aload_n 0, 1) := by decide +kernel
theorem dX4_lastOn_1 : decode cX4_lastOn 1 = .ok (.iload_n 1, 1) := by decide +kernel
theorem dX4_lastOn_2 : decode cX4_lastOn 2 = .ok (.iconst 0, 1) := by decide +kernel
theorem dX4_lastOn_3 : decode cX4_lastOn 3 = .ok (.invokevirtual 37, 3) := by decide +kernel
theorem dX4_lastOn_6 : decode cX4_lastOn 6 = .ok (.istore_n 2, 1) := by decide +kernel
theorem dX4_lastOn_7 : decode cX4_lastOn 7 = .ok (.aload_n 0, 1) := by decide +kernel
theorem dX4_lastOn_8 : decode cX4_lastOn 8 = .ok (.iload_n 1, 1) := by decide +kernel
theorem dX4_lastOn_9 : decode cX4_lastOn 9 = .ok (.iload_n 2, 1) := by decide +kernel
theorem dX4_lastOn_10 : decode cX4_lastOn 10 = .ok (.iconst 1, 1) := by decide +kernel
theorem dX4_lastOn_11 : decode cX4_lastOn 11 = .ok (.iadd, 1) := by decide +kernel
theorem dX4_lastOn_12 : decode cX4_lastOn 12 = .ok (.invokevirtual 64, 3) := by decide +kernel
theorem dX4_lastOn_15 : decode cX4_lastOn 15 = .ok (.ifCond .eq 9, 3) := by decide +kernel
theorem dX4_lastOn_18 : decode cX4_lastOn 18 = .ok (.iinc 2 1, 3) := by decide +kernel
theorem dX4_lastOn_21 : decode cX4_lastOn 21 = .ok (.goto (-14), 3) := by decide +kernel
theorem dX4_lastOn_24 : decode cX4_lastOn 24 = .ok (.iload_n 2, 1) := by decide +kernel
theorem dX4_lastOn_25 : decode cX4_lastOn 25 = .ok (.ireturn, 1) := by decide +kernel
theorem dX4_word_0 : decode cX4_word 0 = .ok (.aload_n 0, 1) := by decide +kernel
theorem dX4_word_1 : decode cX4_word 1 = .ok (.iconst 0, 1) := by decide +kernel
theorem dX4_word_2 : decode cX4_word 2 = .ok (.putfield 26, 3) := by decide +kernel
theorem dX4_word_5 : decode cX4_word 5 = .ok (.aload_n 0, 1) := by decide +kernel
theorem dX4_word_6 : decode cX4_word 6 = .ok (.iload_n 1, 1) := by decide +kernel
theorem dX4_word_7 : decode cX4_word 7 = .ok (.invokevirtual 103, 3) := by decide +kernel
theorem dX4_word_10 : decode cX4_word 10 = .ok (.ifCond .eq 15, 3) := by decide +kernel
theorem dX4_word_13 : decode cX4_word 13 = .ok (.iload_n 2, 1) := by decide +kernel
theorem dX4_word_14 : decode cX4_word 14 = .ok (.i2l, 1) := by decide +kernel
theorem dX4_word_15 : decode cX4_word 15 = .ok (.lconst 0, 1) := by decide +kernel
theorem dX4_word_16 : decode cX4_word 16 = .ok (.ldc2_w 62, 3) := by decide +kernel
theorem dX4_word_19 : decode cX4_word 19 = .ok (.invokestatic 33, 3) := by decide +kernel
theorem dX4_word_22 : decode cX4_word 22 = .ok (.ifCond .ne 6, 3) := by decide +kernel
theorem dX4_word_25 : decode cX4_word 25 = .ok (.bipush (-11), 2) := by decide +kernel
theorem dX4_word_27 : decode cX4_word 27 = .ok (.ireturn, 1) := by decide +kernel
theorem dX4_word_28 : decode cX4_word 28 = .ok (.iload_n 2, 1) := by decide +kernel
theorem dX4_word_29 : decode cX4_word 29 = .ok (.bipush 7, 2) := by decide +kernel
theorem dX4_word_31 : decode cX4_word 31 = .ok (.if_icmp .ne 11, 3) := by decide +kernel
theorem dX4_word_34 : decode cX4_word 34 = .ok (.aload_n 0, 1) := by decide +kernel
theorem dX4_word_35 : decode cX4_word 35 = .ok (.iload_n 1, 1) := by decide +kernel
theorem dX4_word_36 : decode cX4_word 36 = .ok (.bipush 6, 2) := by decide +kernel
theorem dX4_word_38 : decode cX4_word 38 = .ok (.invokevirtual 37, 3) := by decide +kernel
theorem dX4_word_41 : decode cX4_word 41 = .ok (.ireturn, 1) := by decide +kernel
theorem dX4_word_42 : decode cX4_word 42 = .ok (.iload_n 2, 1) := by decide +kernel
theorem dX4_word_43 : decode cX4_word 43 = .ok (.iconst 3, 1) := by decide +kernel
theorem dX4_word_44 : decode cX4_word 44 = .ok (.if_icmp .le 14, 3) := by decide +kernel
theorem dX4_word_47 : decode cX4_word 47 = .ok (.aload_n 0, 1) := by decide +kernel
theorem dX4_word_48 : decode cX4_word 48 = .ok (.iload_n 1, 1) := by decide +kernel
theorem dX4_word_49 : decode cX4_word 49 = .ok (.invokevirtual 41, 3) := by decide +kernel
theorem dX4_word_52 : decode cX4_word 52 = .ok (.ifCond .ne 6, 3) := by decide +kernel
theorem dX4_word_55 : decode cX4_word 55 = .ok (.bipush (-19), 2) := by decide +kernel
theorem dX4_word_57 : decode cX4_word 57 = .ok (.ireturn, 1) := by decide +kernel
theorem dX4_word_58 : decode cX4_word 58 = .ok (.iload_n 2, 1) := by decide +kernel
theorem dX4_word_59 : decode cX4_word 59 = .ok (.bipush 6, 2) := by decide +kernel
theorem dX4_word_61 : decode cX4_word 61 = .ok (.if_icmp .ne 11, 3) := by decide +kernel
theorem dX4_word_64 : decode cX4_word 64 = .ok (.aload_n 0, 1) := by decide +kernel
theorem dX4_word_65 : decode cX4_word 65 = .ok (.iload_n 1, 1) := by decide +kernel
theorem dX4_word_66 : decode cX4_word 66 = .ok (.invokevirtual 226, 3) := by decide +kernel
theorem dX4_word_69 : decode cX4_word 69 = .ok (.goto 9, 3) := by decide +kernel
theorem dX4_word_72 : decode cX4_word 72 = .ok (.aload_n 0, 1) := by decide +kernel
theorem dX4_word_73 : decode cX4_word 73 = .ok (.iload_n 1, 1) := by decide +kernel
theorem dX4_word_74 : decode cX4_word 74 = .ok (.iload_n 2, 1) := by decide +kernel
theorem dX4_word_75 : decode cX4_word 75 = .ok (.invokevirtual 37, 3) := by decide +kernel
theorem dX4_word_78 : decode cX4_word 78 = .ok (.ireturn, 1) := by decide +kernel
theorem dX4_letter_0 : decode cX4_letter 0 = .ok (.aload_n 0, 1) := by decide +kernel
theorem dX4_letter_1 : decode cX4_letter 1 = .ok (.iconst 0, 1) := by decide +kernel
theorem dX4_letter_2 : decode cX4_letter 2 = .ok (.putfield 26, 3) := by decide +kernel
theorem dX4_letter_5 : decode cX4_letter 5 = .ok (.aload_n 0, 1) := by decide +kernel
theorem dX4_letter_6 : decode cX4_letter 6 = .ok (.iload_n 1, 1) := by decide +kernel
theorem dX4_letter_7 : decode cX4_letter 7 = .ok (.invokevirtual 103, 3) := by decide +kernel
theorem dX4_letter_10 : decode cX4_letter 10 = .ok (.ifCond .eq 7, 3) := by decide +kernel
theorem dX4_letter_13 : decode cX4_letter 13 = .ok (.iload_n 2, 1) := by decide +kernel
theorem dX4_letter_14 : decode cX4_letter 14 = .ok (.ifCond .ge 6, 3) := by decide +kernel
theorem dX4_letter_17 : decode cX4_letter 17 = .ok (.bipush (-11), 2) := by decide +kernel
theorem dX4_letter_19 : decode cX4_letter 19 = .ok (.ireturn, 1) := by decide +kernel
theorem dX4_letter_20 : decode cX4_letter 20 = .ok (.iload_n 2, 1) := by decide +kernel
theorem dX4_letter_21 : decode cX4_letter 21 = .ok (.aload_n 0, 1) := by decide +kernel
theorem dX4_letter_22 : decode cX4_letter 22 = .ok (.iload_n 1, 1) := by decide +kernel
theorem dX4_letter_23 : decode cX4_letter 23 = .ok (.bipush 6, 2) := by decide +kernel
theorem dX4_letter_25 : decode cX4_letter 25 = .ok (.invokevirtual 37, 3) := by decide +kernel
theorem dX4_letter_28 : decode cX4_letter 28 = .ok (.if_icmp .ge 15, 3) := by decide +kernel
theorem dX4_letter_31 : decode cX4_letter 31 = .ok (.aload_n 0, 1) := by decide +kernel
theorem dX4_letter_32 : decode cX4_letter 32 = .ok (.iload_n 1, 1) := by decide +kernel
theorem dX4_letter_33 : decode cX4_letter 33 = .ok (.bipush 7, 2) := by decide +kernel
theorem dX4_letter_35 : decode cX4_letter 35 = .ok (.iload_n 2, 1) := by decide +kernel
theorem dX4_letter_36 : decode cX4_letter 36 = .ok (.iadd, 1) := by decide +kernel
theorem dX4_letter_37 : decode cX4_letter 37 = .ok (.invokevirtual 37, 3) := by decide +kernel
theorem dX4_letter_40 : decode cX4_letter 40 = .ok (.goto 5, 3) := by decide +kernel
theorem dX4_letter_43 : decode cX4_letter 43 = .ok (.bipush (-19), 2) := by decide +kernel
theorem dX4_letter_45 : decode cX4_letter 45 = .ok (.ireturn, 1) := by decide +kernel
theorem dX4_shot_0 : decode cX4_shot 0 = .ok (.aload_n 0, 1) := by decide +kernel
theorem dX4_shot_1 : decode cX4_shot 1 = .ok (.iconst 0, 1) := by decide +kernel
theorem dX4_shot_2 : decode cX4_shot 2 = .ok (.putfield 26, 3) := by decide +kernel
theorem dX4_shot_5 : decode cX4_shot 5 = .ok (.iload_n 1, 1) := by decide +kernel
theorem dX4_shot_6 : decode cX4_shot 6 = .ok (.ifCond .ge 8, 3) := by decide +kernel
theorem dX4_shot_9 : decode cX4_shot 9 = .ok (.bipush (-11), 2) := by decide +kernel
theorem dX4_shot_11 : decode cX4_shot 11 = .ok (.goto 26, 3) := by decide +kernel
theorem dX4_shot_14 : decode cX4_shot 14 = .ok (.iload_n 1, 1) := by decide +kernel
theorem dX4_shot_15 : decode cX4_shot 15 = .ok (.aload_n 0, 1) := by decide +kernel
theorem dX4_shot_16 : decode cX4_shot 16 = .ok (.getfield 7, 3) := by decide +kernel
theorem dX4_shot_19 : decode cX4_shot 19 = .ok (.iconst 1, 1) := by decide +kernel
theorem dX4_shot_20 : decode cX4_shot 20 = .ok (.iaload, 1) := by decide +kernel
theorem dX4_shot_21 : decode cX4_shot 21 = .ok (.if_icmp .ge 14, 3) := by decide +kernel
theorem dX4_shot_24 : decode cX4_shot 24 = .ok (.aload_n 0, 1) := by decide +kernel
theorem dX4_shot_25 : decode cX4_shot 25 = .ok (.getfield 7, 3) := by decide +kernel
theorem dX4_shot_28 : decode cX4_shot 28 = .ok (.iconst 3, 1) := by decide +kernel
theorem dX4_shot_29 : decode cX4_shot 29 = .ok (.iload_n 1, 1) := by decide +kernel
theorem dX4_shot_30 : decode cX4_shot 30 = .ok (.iadd, 1) := by decide +kernel
theorem dX4_shot_31 : decode cX4_shot 31 = .ok (.iaload, 1) := by decide +kernel
theorem dX4_shot_32 : decode cX4_shot 32 = .ok (.goto 5, 3) := by decide +kernel
theorem dX4_shot_35 : decode cX4_shot 35 = .ok (.bipush (-19), 2) := by decide +kernel
theorem dX4_shot_37 : decode cX4_shot 37 = .ok (.ireturn, 1) := by decide +kernel
theorem dX4_isFrame_0 : decode cX4_isFrame 0 = .ok (.iload_n 0, 1) := by decide +kernel
theorem dX4_isFrame_1 : decode cX4_isFrame 1 = .ok (.i2l, 1) := by decide +kernel
theorem dX4_isFrame_2 : decode cX4_isFrame 2 = .ok (.lconst 0, 1) := by decide +kernel
theorem dX4_isFrame_3 : decode cX4_isFrame 3 = .ok (.ldc2_w 229, 3) := by decide +kernel
theorem dX4_isFrame_6 : decode cX4_isFrame 6 = .ok (.invokestatic 33, 3) := by decide +kernel
theorem dX4_isFrame_9 : decode cX4_isFrame 9 = .ok (.ireturn, 1) := by decide +kernel
theorem dX4_where_0 : decode cX4_where 0 = .ok (.aload_n 0, 1) := by decide +kernel
theorem dX4_where_1 : decode cX4_where 1 = .ok (.iconst 0, 1) := by decide +kernel
theorem dX4_where_2 : decode cX4_where 2 = .ok (.putfield 26, 3) := by decide +kernel
theorem dX4_where_5 : decode cX4_where 5 = .ok (.aload_n 0, 1) := by decide +kernel
theorem dX4_where_6 : decode cX4_where 6 = .ok (.iload_n 1, 1) := by decide +kernel
theorem dX4_where_7 : decode cX4_where 7 = .ok (.invokevirtual 103, 3) := by decide +kernel
theorem dX4_where_10 : decode cX4_where 10 = .ok (.ifCond .eq 20, 3) := by decide +kernel
theorem dX4_where_13 : decode cX4_where 13 = .ok (.iload_n 2, 1) := by decide +kernel
theorem dX4_where_14 : decode cX4_where 14 = .ok (.invokestatic 231, 3) := by decide +kernel
theorem dX4_where_17 : decode cX4_where 17 = .ok (.ifCond .eq 13, 3) := by decide +kernel
theorem dX4_where_20 : decode cX4_where 20 = .ok (.iload_n 3, 1) := by decide +kernel
theorem dX4_where_21 : decode cX4_where 21 = .ok (.i2l, 1) := by decide +kernel
theorem dX4_where_22 : decode cX4_where 22 = .ok (.lconst 0, 1) := by decide +kernel
theorem dX4_where_23 : decode cX4_where 23 = .ok (.lconst 1, 1) := by decide +kernel
theorem dX4_where_24 : decode cX4_where 24 = .ok (.invokestatic 33, 3) := by decide +kernel
theorem dX4_where_27 : decode cX4_where 27 = .ok (.ifCond .ne 6, 3) := by decide +kernel
theorem dX4_where_30 : decode cX4_where 30 = .ok (.bipush (-11), 2) := by decide +kernel
theorem dX4_where_32 : decode cX4_where 32 = .ok (.ireturn, 1) := by decide +kernel
theorem dX4_where_33 : decode cX4_where 33 = .ok (.aload_n 0, 1) := by decide +kernel
theorem dX4_where_34 : decode cX4_where 34 = .ok (.iload_n 1, 1) := by decide +kernel
theorem dX4_where_35 : decode cX4_where 35 = .ok (.iload_n 2, 1) := by decide +kernel
theorem dX4_where_36 : decode cX4_where 36 = .ok (.invokevirtual 64, 3) := by decide +kernel
theorem dX4_where_39 : decode cX4_where 39 = .ok (.ifCond .ne 6, 3) := by decide +kernel
theorem dX4_where_42 : decode cX4_where 42 = .ok (.bipush (-19), 2) := by decide +kernel
theorem dX4_where_44 : decode cX4_where 44 = .ok (.ireturn, 1) := by decide +kernel
theorem dX4_where_45 : decode cX4_where 45 = .ok (.aload_n 0, 1) := by decide +kernel
theorem dX4_where_46 : decode cX4_where 46 = .ok (.iload_n 1, 1) := by decide +kernel
theorem dX4_where_47 : decode cX4_where 47 = .ok (.iload_n 2, 1) := by decide +kernel
theorem dX4_where_48 : decode cX4_where 48 = .ok (.invokevirtual 56, 3) := by decide +kernel
theorem dX4_where_51 : decode cX4_where 51 = .ok (.istore 4, 2) := by decide +kernel
theorem dX4_where_53 : decode cX4_where 53 = .ok (.iload_n 3, 1) := by decide +kernel
theorem dX4_where_54 : decode cX4_where 54 = .ok (.ifCond .ne 12, 3) := by decide +kernel
theorem dX4_where_57 : decode cX4_where 57 = .ok (.aload_n 0, 1) := by decide +kernel
theorem dX4_where_58 : decode cX4_where 58 = .ok (.iload_n 1, 1) := by decide +kernel
theorem dX4_where_59 : decode cX4_where 59 = .ok (.iload_n 2, 1) := by decide +kernel
theorem dX4_where_60 : decode cX4_where 60 = .ok (.invokevirtual 59, 3) := by decide +kernel
theorem dX4_where_63 : decode cX4_where 63 = .ok (.goto 27, 3) := by decide +kernel
theorem dX4_where_66 : decode cX4_where 66 = .ok (.iload 4, 2) := by decide +kernel
theorem dX4_where_68 : decode cX4_where 68 = .ok (.i2l, 1) := by decide +kernel
theorem dX4_where_69 : decode cX4_where 69 = .ok (.lconst 0, 1) := by decide +kernel
theorem dX4_where_70 : decode cX4_where 70 = .ok (.ldc2_w 234, 3) := by decide +kernel
theorem dX4_where_73 : decode cX4_where 73 = .ok (.invokestatic 33, 3) := by decide +kernel
theorem dX4_where_76 : decode cX4_where 76 = .ok (.ifCond .eq 8, 3) := by decide +kernel
theorem dX4_where_79 : decode cX4_where 79 = .ok (.iload 4, 2) := by decide +kernel
theorem dX4_where_81 : decode cX4_where 81 = .ok (.goto 9, 3) := by decide +kernel
theorem dX4_where_84 : decode cX4_where 84 = .ok (.iload 4, 2) := by decide +kernel
theorem dX4_where_86 : decode cX4_where 86 = .ok (.sipush 1000, 3) := by decide +kernel
theorem dX4_where_89 : decode cX4_where 89 = .ok (.isub, 1) := by decide +kernel
theorem dX4_where_90 : decode cX4_where 90 = .ok (.ireturn, 1) := by decide +kernel
theorem dX4_wordIn_0 : decode cX4_wordIn 0 = .ok (.iconst 0, 1) := by decide +kernel
theorem dX4_wordIn_1 : decode cX4_wordIn 1 = .ok (.istore 4, 2) := by decide +kernel
theorem dX4_wordIn_3 : decode cX4_wordIn 3 = .ok (.iload 4, 2) := by decide +kernel
theorem dX4_wordIn_5 : decode cX4_wordIn 5 = .ok (.aload_n 0, 1) := by decide +kernel
theorem dX4_wordIn_6 : decode cX4_wordIn 6 = .ok (.getfield 7, 3) := by decide +kernel
theorem dX4_wordIn_9 : decode cX4_wordIn 9 = .ok (.iconst 0, 1) := by decide +kernel
theorem dX4_wordIn_10 : decode cX4_wordIn 10 = .ok (.iaload, 1) := by decide +kernel
theorem dX4_wordIn_11 : decode cX4_wordIn 11 = .ok (.if_icmp .ge 67, 3) := by decide +kernel
theorem dX4_wordIn_14 : decode cX4_wordIn 14 = .ok (.aload_n 0, 1) := by decide +kernel
theorem dX4_wordIn_15 : decode cX4_wordIn 15 = .ok (.iload 4, 2) := by decide +kernel
theorem dX4_wordIn_17 : decode cX4_wordIn 17 = .ok (.iload_n 3, 1) := by decide +kernel
theorem dX4_wordIn_18 : decode cX4_wordIn 18 = .ok (.invokevirtual 56, 3) := by decide +kernel
theorem dX4_wordIn_21 : decode cX4_wordIn 21 = .ok (.istore 5, 2) := by decide +kernel
theorem dX4_wordIn_23 : decode cX4_wordIn 23 = .ok (.aload_n 0, 1) := by decide +kernel
theorem dX4_wordIn_24 : decode cX4_wordIn 24 = .ok (.iload 4, 2) := by decide +kernel
theorem dX4_wordIn_26 : decode cX4_wordIn 26 = .ok (.iload_n 3, 1) := by decide +kernel
theorem dX4_wordIn_27 : decode cX4_wordIn 27 = .ok (.invokevirtual 64, 3) := by decide +kernel
theorem dX4_wordIn_30 : decode cX4_wordIn 30 = .ok (.ifCond .eq 42, 3) := by decide +kernel
theorem dX4_wordIn_33 : decode cX4_wordIn 33 = .ok (.aload_n 0, 1) := by decide +kernel
theorem dX4_wordIn_34 : decode cX4_wordIn 34 = .ok (.iload 4, 2) := by decide +kernel
theorem dX4_wordIn_36 : decode cX4_wordIn 36 = .ok (.iload_n 3, 1) := by decide +kernel
theorem dX4_wordIn_37 : decode cX4_wordIn 37 = .ok (.invokevirtual 59, 3) := by decide +kernel
theorem dX4_wordIn_40 : decode cX4_wordIn 40 = .ok (.iload_n 1, 1) := by decide +kernel
theorem dX4_wordIn_41 : decode cX4_wordIn 41 = .ok (.if_icmp .ne 31, 3) := by decide +kernel
theorem dX4_wordIn_44 : decode cX4_wordIn 44 = .ok (.iload_n 2, 1) := by decide +kernel
theorem dX4_wordIn_45 : decode cX4_wordIn 45 = .ok (.i2l, 1) := by decide +kernel
theorem dX4_wordIn_46 : decode cX4_wordIn 46 = .ok (.iload 5, 2) := by decide +kernel
theorem dX4_wordIn_48 : decode cX4_wordIn 48 = .ok (.i2l, 1) := by decide +kernel
theorem dX4_wordIn_49 : decode cX4_wordIn 49 = .ok (.iload 5, 2) := by decide +kernel
theorem dX4_wordIn_51 : decode cX4_wordIn 51 = .ok (.aload_n 0, 1) := by decide +kernel
theorem dX4_wordIn_52 : decode cX4_wordIn 52 = .ok (.iload 4, 2) := by decide +kernel
theorem dX4_wordIn_54 : decode cX4_wordIn 54 = .ok (.bipush 6, 2) := by decide +kernel
theorem dX4_wordIn_56 : decode cX4_wordIn 56 = .ok (.invokevirtual 37, 3) := by decide +kernel
theorem dX4_wordIn_59 : decode cX4_wordIn 59 = .ok (.iadd, 1) := by decide +kernel
theorem dX4_wordIn_60 : decode cX4_wordIn 60 = .ok (.iconst 1, 1) := by decide +kernel
theorem dX4_wordIn_61 : decode cX4_wordIn 61 = .ok (.isub, 1) := by decide +kernel
theorem dX4_wordIn_62 : decode cX4_wordIn 62 = .ok (.i2l, 1) := by decide +kernel
theorem dX4_wordIn_63 : decode cX4_wordIn 63 = .ok (.invokestatic 33, 3) := by decide +kernel
theorem dX4_wordIn_66 : decode cX4_wordIn 66 = .ok (.ifCond .eq 6, 3) := by decide +kernel
theorem dX4_wordIn_69 : decode cX4_wordIn 69 = .ok (.iload 4, 2) := by decide +kernel
theorem dX4_wordIn_71 : decode cX4_wordIn 71 = .ok (.ireturn, 1) := by decide +kernel
theorem dX4_wordIn_72 : decode cX4_wordIn 72 = .ok (.iinc 4 1, 3) := by decide +kernel
theorem dX4_wordIn_75 : decode cX4_wordIn 75 = .ok (.goto (-72), 3) := by decide +kernel
theorem dX4_wordIn_78 : decode cX4_wordIn 78 = .ok (.bipush (-19), 2) := by decide +kernel
theorem dX4_wordIn_80 : decode cX4_wordIn 80 = .ok (.ireturn, 1) := by decide +kernel
theorem dX4_written_0 : decode cX4_written 0 = .ok (.aload_n 0, 1) := by decide +kernel
theorem dX4_written_1 : decode cX4_written 1 = .ok (.iconst 0, 1) := by decide +kernel
theorem dX4_written_2 : decode cX4_written 2 = .ok (.putfield 26, 3) := by decide +kernel
theorem dX4_written_5 : decode cX4_written 5 = .ok (.iload_n 1, 1) := by decide +kernel
theorem dX4_written_6 : decode cX4_written 6 = .ok (.i2l, 1) := by decide +kernel
theorem dX4_written_7 : decode cX4_written 7 = .ok (.lconst 0, 1) := by decide +kernel
theorem dX4_written_8 : decode cX4_written 8 = .ok (.ldc2_w 62, 3) := by decide +kernel
theorem dX4_written_11 : decode cX4_written 11 = .ok (.invokestatic 33, 3) := by decide +kernel
theorem dX4_written_14 : decode cX4_written 14 = .ok (.ifCond .eq 22, 3) := by decide +kernel
theorem dX4_written_17 : decode cX4_written 17 = .ok (.iload_n 2, 1) := by decide +kernel
theorem dX4_written_18 : decode cX4_written 18 = .ok (.i2l, 1) := by decide +kernel
theorem dX4_written_19 : decode cX4_written 19 = .ok (.lconst 0, 1) := by decide +kernel
theorem dX4_written_20 : decode cX4_written 20 = .ok (.ldc2_w 234, 3) := by decide +kernel
theorem dX4_written_23 : decode cX4_written 23 = .ok (.invokestatic 33, 3) := by decide +kernel
theorem dX4_written_26 : decode cX4_written 26 = .ok (.ifCond .eq 10, 3) := by decide +kernel
theorem dX4_written_29 : decode cX4_written 29 = .ok (.iload_n 3, 1) := by decide +kernel
theorem dX4_written_30 : decode cX4_written 30 = .ok (.invokestatic 231, 3) := by decide +kernel
theorem dX4_written_33 : decode cX4_written 33 = .ok (.ifCond .ne 6, 3) := by decide +kernel
theorem dX4_written_36 : decode cX4_written 36 = .ok (.bipush (-11), 2) := by decide +kernel
theorem dX4_written_38 : decode cX4_written 38 = .ok (.ireturn, 1) := by decide +kernel
theorem dX4_written_39 : decode cX4_written 39 = .ok (.aload_n 0, 1) := by decide +kernel
theorem dX4_written_40 : decode cX4_written 40 = .ok (.iload_n 1, 1) := by decide +kernel
theorem dX4_written_41 : decode cX4_written 41 = .ok (.iload_n 2, 1) := by decide +kernel
theorem dX4_written_42 : decode cX4_written 42 = .ok (.iload_n 3, 1) := by decide +kernel
theorem dX4_written_43 : decode cX4_written 43 = .ok (.invokevirtual 236, 3) := by decide +kernel
theorem dX4_written_46 : decode cX4_written 46 = .ok (.istore 4, 2) := by decide +kernel
theorem dX4_written_48 : decode cX4_written 48 = .ok (.iload 4, 2) := by decide +kernel
theorem dX4_written_50 : decode cX4_written 50 = .ok (.bipush (-19), 2) := by decide +kernel
theorem dX4_written_52 : decode cX4_written 52 = .ok (.if_icmp .ne 8, 3) := by decide +kernel
theorem dX4_written_55 : decode cX4_written 55 = .ok (.bipush (-19), 2) := by decide +kernel
theorem dX4_written_57 : decode cX4_written 57 = .ok (.goto 21, 3) := by decide +kernel
theorem dX4_written_60 : decode cX4_written 60 = .ok (.aload_n 0, 1) := by decide +kernel
theorem dX4_written_61 : decode cX4_written 61 = .ok (.iload 4, 2) := by decide +kernel
theorem dX4_written_63 : decode cX4_written 63 = .ok (.bipush 7, 2) := by decide +kernel
theorem dX4_written_65 : decode cX4_written 65 = .ok (.iload_n 2, 1) := by decide +kernel
theorem dX4_written_66 : decode cX4_written 66 = .ok (.iadd, 1) := by decide +kernel
theorem dX4_written_67 : decode cX4_written 67 = .ok (.aload_n 0, 1) := by decide +kernel
theorem dX4_written_68 : decode cX4_written 68 = .ok (.iload 4, 2) := by decide +kernel
theorem dX4_written_70 : decode cX4_written 70 = .ok (.iload_n 3, 1) := by decide +kernel
theorem dX4_written_71 : decode cX4_written 71 = .ok (.invokevirtual 56, 3) := by decide +kernel
theorem dX4_written_74 : decode cX4_written 74 = .ok (.isub, 1) := by decide +kernel
theorem dX4_written_75 : decode cX4_written 75 = .ok (.invokevirtual 37, 3) := by decide +kernel
theorem dX4_written_78 : decode cX4_written 78 = .ok (.ireturn, 1) := by decide +kernel
theorem dX4_onScreen_0 : decode cX4_onScreen 0 = .ok (.aload_n 0, 1) := by decide +kernel
theorem dX4_onScreen_1 : decode cX4_onScreen 1 = .ok (.iconst 0, 1) := by decide +kernel
theorem dX4_onScreen_2 : decode cX4_onScreen 2 = .ok (.putfield 26, 3) := by decide +kernel
theorem dX4_onScreen_5 : decode cX4_onScreen 5 = .ok (.iload_n 1, 1) := by decide +kernel
theorem dX4_onScreen_6 : decode cX4_onScreen 6 = .ok (.invokestatic 231, 3) := by decide +kernel
theorem dX4_onScreen_9 : decode cX4_onScreen 9 = .ok (.ifCond .ne 6, 3) := by decide +kernel
theorem dX4_onScreen_12 : decode cX4_onScreen 12 = .ok (.bipush (-11), 2) := by decide +kernel
theorem dX4_onScreen_14 : decode cX4_onScreen 14 = .ok (.ireturn, 1) := by decide +kernel
theorem dX4_onScreen_15 : decode cX4_onScreen 15 = .ok (.iconst 0, 1) := by decide +kernel
theorem dX4_onScreen_16 : decode cX4_onScreen 16 = .ok (.istore_n 2, 1) := by decide +kernel
theorem dX4_onScreen_17 : decode cX4_onScreen 17 = .ok (.iconst 0, 1) := by decide +kernel
theorem dX4_onScreen_18 : decode cX4_onScreen 18 = .ok (.istore_n 3, 1) := by decide +kernel
theorem dX4_onScreen_19 : decode cX4_onScreen 19 = .ok (.iload_n 3, 1) := by decide +kernel
theorem dX4_onScreen_20 : decode cX4_onScreen 20 = .ok (.aload_n 0, 1) := by decide +kernel
theorem dX4_onScreen_21 : decode cX4_onScreen 21 = .ok (.getfield 7, 3) := by decide +kernel
theorem dX4_onScreen_24 : decode cX4_onScreen 24 = .ok (.iconst 0, 1) := by decide +kernel
theorem dX4_onScreen_25 : decode cX4_onScreen 25 = .ok (.iaload, 1) := by decide +kernel
theorem dX4_onScreen_26 : decode cX4_onScreen 26 = .ok (.if_icmp .ge 28, 3) := by decide +kernel
theorem dX4_onScreen_29 : decode cX4_onScreen 29 = .ok (.iload_n 2, 1) := by decide +kernel
theorem dX4_onScreen_30 : decode cX4_onScreen 30 = .ok (.aload_n 0, 1) := by decide +kernel
theorem dX4_onScreen_31 : decode cX4_onScreen 31 = .ok (.iload_n 3, 1) := by decide +kernel
theorem dX4_onScreen_32 : decode cX4_onScreen 32 = .ok (.iload_n 1, 1) := by decide +kernel
theorem dX4_onScreen_33 : decode cX4_onScreen 33 = .ok (.invokevirtual 64, 3) := by decide +kernel
theorem dX4_onScreen_36 : decode cX4_onScreen 36 = .ok (.ifCond .eq 9, 3) := by decide +kernel
theorem dX4_onScreen_39 : decode cX4_onScreen 39 = .ok (.iconst 1, 1) := by decide +kernel
theorem dX4_onScreen_40 : decode cX4_onScreen 40 = .ok (.iload_n 3, 1) := by decide +kernel
theorem dX4_onScreen_41 : decode cX4_onScreen 41 = .ok (.ishl, 1) := by decide +kernel
theorem dX4_onScreen_42 : decode cX4_onScreen 42 = .ok (.goto 4, 3) := by decide +kernel
theorem dX4_onScreen_45 : decode cX4_onScreen 45 = .ok (.iconst 0, 1) := by decide +kernel
theorem dX4_onScreen_46 : decode cX4_onScreen 46 = .ok (.ior, 1) := by decide +kernel
theorem dX4_onScreen_47 : decode cX4_onScreen 47 = .ok (.istore_n 2, 1) := by decide +kernel
theorem dX4_onScreen_48 : decode cX4_onScreen 48 = .ok (.iinc 3 1, 3) := by decide +kernel
theorem dX4_onScreen_51 : decode cX4_onScreen 51 = .ok (.goto (-32), 3) := by decide +kernel
theorem dX4_onScreen_54 : decode cX4_onScreen 54 = .ok (.iload_n 2, 1) := by decide +kernel
theorem dX4_onScreen_55 : decode cX4_onScreen 55 = .ok (.ireturn, 1) := by decide +kernel
theorem dX4_meeting_0 : decode cX4_meeting 0 = .ok (.aload_n 0, 1) := by decide +kernel
theorem dX4_meeting_1 : decode cX4_meeting 1 = .ok (.iconst 0, 1) := by decide +kernel
theorem dX4_meeting_2 : decode cX4_meeting 2 = .ok (.putfield 26, 3) := by decide +kernel
theorem dX4_meeting_5 : decode cX4_meeting 5 = .ok (.aload_n 0, 1) := by decide +kernel
theorem dX4_meeting_6 : decode cX4_meeting 6 = .ok (.iload_n 1, 1) := by decide +kernel
theorem dX4_meeting_7 : decode cX4_meeting 7 = .ok (.invokevirtual 103, 3) := by decide +kernel
theorem dX4_meeting_10 : decode cX4_meeting 10 = .ok (.ifCond .eq 25, 3) := by decide +kernel
theorem dX4_meeting_13 : decode cX4_meeting 13 = .ok (.aload_n 0, 1) := by decide +kernel
theorem dX4_meeting_14 : decode cX4_meeting 14 = .ok (.iload_n 2, 1) := by decide +kernel
theorem dX4_meeting_15 : decode cX4_meeting 15 = .ok (.invokevirtual 103, 3) := by decide +kernel
theorem dX4_meeting_18 : decode cX4_meeting 18 = .ok (.ifCond .eq 17, 3) := by decide +kernel
theorem dX4_meeting_21 : decode cX4_meeting 21 = .ok (.iload_n 1, 1) := by decide +kernel
theorem dX4_meeting_22 : decode cX4_meeting 22 = .ok (.iload_n 2, 1) := by decide +kernel
theorem dX4_meeting_23 : decode cX4_meeting 23 = .ok (.if_icmp .eq 12, 3) := by decide +kernel
theorem dX4_meeting_26 : decode cX4_meeting 26 = .ok (.aload_n 0, 1) := by decide +kernel
theorem dX4_meeting_27 : decode cX4_meeting 27 = .ok (.iload_n 1, 1) := by decide +kernel
theorem dX4_meeting_28 : decode cX4_meeting 28 = .ok (.iload_n 2, 1) := by decide +kernel
theorem dX4_meeting_29 : decode cX4_meeting 29 = .ok (.invokevirtual 78, 3) := by decide +kernel
theorem dX4_meeting_32 : decode cX4_meeting 32 = .ok (.goto 5, 3) := by decide +kernel
theorem dX4_meeting_35 : decode cX4_meeting 35 = .ok (.bipush (-11), 2) := by decide +kernel
theorem dX4_meeting_37 : decode cX4_meeting 37 = .ok (.ireturn, 1) := by decide +kernel
theorem dX4_pace_0 : decode cX4_pace 0 = .ok (.aload_n 0, 1) := by decide +kernel
theorem dX4_pace_1 : decode cX4_pace 1 = .ok (.iconst 0, 1) := by decide +kernel
theorem dX4_pace_2 : decode cX4_pace 2 = .ok (.putfield 26, 3) := by decide +kernel
theorem dX4_pace_5 : decode cX4_pace 5 = .ok (.iload_n 1, 1) := by decide +kernel
theorem dX4_pace_6 : decode cX4_pace 6 = .ok (.invokestatic 231, 3) := by decide +kernel
theorem dX4_pace_9 : decode cX4_pace 9 = .ok (.ifCond .ne 6, 3) := by decide +kernel
theorem dX4_pace_12 : decode cX4_pace 12 = .ok (.bipush (-11), 2) := by decide +kernel
theorem dX4_pace_14 : decode cX4_pace 14 = .ok (.ireturn, 1) := by decide +kernel
theorem dX4_pace_15 : decode cX4_pace 15 = .ok (.fconst 0, 1) := by decide +kernel
theorem dX4_pace_16 : decode cX4_pace 16 = .ok (.fstore_n 2, 1) := by decide +kernel
theorem dX4_pace_17 : decode cX4_pace 17 = .ok (.iconst 0, 1) := by decide +kernel
theorem dX4_pace_18 : decode cX4_pace 18 = .ok (.istore_n 3, 1) := by decide +kernel
theorem dX4_pace_19 : decode cX4_pace 19 = .ok (.iload_n 3, 1) := by decide +kernel
theorem dX4_pace_20 : decode cX4_pace 20 = .ok (.aload_n 0, 1) := by decide +kernel
theorem dX4_pace_21 : decode cX4_pace 21 = .ok (.getfield 7, 3) := by decide +kernel
theorem dX4_pace_24 : decode cX4_pace 24 = .ok (.iconst 0, 1) := by decide +kernel
theorem dX4_pace_25 : decode cX4_pace 25 = .ok (.iaload, 1) := by decide +kernel
theorem dX4_pace_26 : decode cX4_pace 26 = .ok (.if_icmp .ge 59, 3) := by decide +kernel
theorem dX4_pace_29 : decode cX4_pace 29 = .ok (.iload_n 1, 1) := by decide +kernel
theorem dX4_pace_30 : decode cX4_pace 30 = .ok (.i2l, 1) := by decide +kernel
theorem dX4_pace_31 : decode cX4_pace 31 = .ok (.aload_n 0, 1) := by decide +kernel
theorem dX4_pace_32 : decode cX4_pace 32 = .ok (.iload_n 3, 1) := by decide +kernel
theorem dX4_pace_33 : decode cX4_pace 33 = .ok (.iconst 0, 1) := by decide +kernel
theorem dX4_pace_34 : decode cX4_pace 34 = .ok (.invokevirtual 37, 3) := by decide +kernel
theorem dX4_pace_37 : decode cX4_pace 37 = .ok (.i2l, 1) := by decide +kernel
theorem dX4_pace_38 : decode cX4_pace 38 = .ok (.aload_n 0, 1) := by decide +kernel
theorem dX4_pace_39 : decode cX4_pace 39 = .ok (.iload_n 3, 1) := by decide +kernel
theorem dX4_pace_40 : decode cX4_pace 40 = .ok (.iconst 0, 1) := by decide +kernel
theorem dX4_pace_41 : decode cX4_pace 41 = .ok (.invokevirtual 37, 3) := by decide +kernel
theorem dX4_pace_44 : decode cX4_pace 44 = .ok (.aload_n 0, 1) := by decide +kernel
theorem dX4_pace_45 : decode cX4_pace 45 = .ok (.iload_n 3, 1) := by decide +kernel
theorem dX4_pace_46 : decode cX4_pace 46 = .ok (.iconst 1, 1) := by decide +kernel
theorem dX4_pace_47 : decode cX4_pace 47 = .ok (.invokevirtual 37, 3) := by decide +kernel
theorem dX4_pace_50 : decode cX4_pace 50 = .ok (.iadd, 1) := by decide +kernel
theorem dX4_pace_51 : decode cX4_pace 51 = .ok (.iconst 1, 1) := by decide +kernel
theorem dX4_pace_52 : decode cX4_pace 52 = .ok (.isub, 1) := by decide +kernel
theorem dX4_pace_53 : decode cX4_pace 53 = .ok (.i2l, 1) := by decide +kernel
theorem dX4_pace_54 : decode cX4_pace 54 = .ok (.invokestatic 33, 3) := by decide +kernel
theorem dX4_pace_57 : decode cX4_pace 57 = .ok (.ifCond .eq 22, 3) := by decide +kernel
theorem dX4_pace_60 : decode cX4_pace 60 = .ok (.fload_n 2, 1) := by decide +kernel
theorem dX4_pace_61 : decode cX4_pace 61 = .ok (.aload_n 0, 1) := by decide +kernel
theorem dX4_pace_62 : decode cX4_pace 62 = .ok (.iload_n 3, 1) := by decide +kernel
theorem dX4_pace_63 : decode cX4_pace 63 = .ok (.bipush 6, 2) := by decide +kernel
theorem dX4_pace_65 : decode cX4_pace 65 = .ok (.invokevirtual 37, 3) := by decide +kernel
theorem dX4_pace_68 : decode cX4_pace 68 = .ok (.i2f, 1) := by decide +kernel
theorem dX4_pace_69 : decode cX4_pace 69 = .ok (.aload_n 0, 1) := by decide +kernel
theorem dX4_pace_70 : decode cX4_pace 70 = .ok (.iload_n 3, 1) := by decide +kernel
theorem dX4_pace_71 : decode cX4_pace 71 = .ok (.iconst 1, 1) := by decide +kernel
theorem dX4_pace_72 : decode cX4_pace 72 = .ok (.invokevirtual 37, 3) := by decide +kernel
theorem dX4_pace_75 : decode cX4_pace 75 = .ok (.i2f, 1) := by decide +kernel
theorem dX4_pace_76 : decode cX4_pace 76 = .ok (.fdiv, 1) := by decide +kernel
theorem dX4_pace_77 : decode cX4_pace 77 = .ok (.fadd, 1) := by decide +kernel
theorem dX4_pace_78 : decode cX4_pace 78 = .ok (.fstore_n 2, 1) := by decide +kernel
theorem dX4_pace_79 : decode cX4_pace 79 = .ok (.iinc 3 1, 3) := by decide +kernel
theorem dX4_pace_82 : decode cX4_pace 82 = .ok (.goto (-63), 3) := by decide +kernel
theorem dX4_pace_85 : decode cX4_pace 85 = .ok (.fload_n 2, 1) := by decide +kernel
theorem dX4_pace_86 : decode cX4_pace 86 = .ok (.ldc 240, 2) := by decide +kernel
theorem dX4_pace_88 : decode cX4_pace 88 = .ok (.fmul, 1) := by decide +kernel
theorem dX4_pace_89 : decode cX4_pace 89 = .ok (.f2i, 1) := by decide +kernel
theorem dX4_pace_90 : decode cX4_pace 90 = .ok (.ireturn, 1) := by decide +kernel
theorem dX4_earliest_0 : decode cX4_earliest 0 = .ok (.aload_n 0, 1) := by decide +kernel
theorem dX4_earliest_1 : decode cX4_earliest 1 = .ok (.iconst 0, 1) := by decide +kernel
theorem dX4_earliest_2 : decode cX4_earliest 2 = .ok (.putfield 26, 3) := by decide +kernel
theorem dX4_earliest_5 : decode cX4_earliest 5 = .ok (.aload_n 0, 1) := by decide +kernel
theorem dX4_earliest_6 : decode cX4_earliest 6 = .ok (.iload_n 1, 1) := by decide +kernel
theorem dX4_earliest_7 : decode cX4_earliest 7 = .ok (.iload_n 2, 1) := by decide +kernel
theorem dX4_earliest_8 : decode cX4_earliest 8 = .ok (.iload_n 3, 1) := by decide +kernel
theorem dX4_earliest_9 : decode cX4_earliest 9 = .ok (.invokevirtual 202, 3) := by decide +kernel
theorem dX4_earliest_12 : decode cX4_earliest 12 = .ok (.ifCond .ne 6, 3) := by decide +kernel
theorem dX4_earliest_15 : decode cX4_earliest 15 = .ok (.bipush (-11), 2) := by decide +kernel
theorem dX4_earliest_17 : decode cX4_earliest 17 = .ok (.ireturn, 1) := by decide +kernel
theorem dX4_earliest_18 : decode cX4_earliest 18 = .ok (.aload_n 0, 1) := by decide +kernel
theorem dX4_earliest_19 : decode cX4_earliest 19 = .ok (.invokevirtual 193, 3) := by decide +kernel
theorem dX4_earliest_22 : decode cX4_earliest 22 = .ok (.aload_n 0, 1) := by decide +kernel
theorem dX4_earliest_23 : decode cX4_earliest 23 = .ok (.iload_n 1, 1) := by decide +kernel
theorem dX4_earliest_24 : decode cX4_earliest 24 = .ok (.iload_n 2, 1) := by decide +kernel
theorem dX4_earliest_25 : decode cX4_earliest 25 = .ok (.iload_n 3, 1) := by decide +kernel
theorem dX4_earliest_26 : decode cX4_earliest 26 = .ok (.invokevirtual 205, 3) := by decide +kernel
theorem dX4_earliest_29 : decode cX4_earliest 29 = .ok (.bipush (-19), 2) := by decide +kernel
theorem dX4_earliest_31 : decode cX4_earliest 31 = .ok (.istore 4, 2) := by decide +kernel
theorem dX4_earliest_33 : decode cX4_earliest 33 = .ok (.aload_n 0, 1) := by decide +kernel
theorem dX4_earliest_34 : decode cX4_earliest 34 = .ok (.iload_n 1, 1) := by decide +kernel
theorem dX4_earliest_35 : decode cX4_earliest 35 = .ok (.iconst 0, 1) := by decide +kernel
theorem dX4_earliest_36 : decode cX4_earliest 36 = .ok (.invokevirtual 37, 3) := by decide +kernel
theorem dX4_earliest_39 : decode cX4_earliest 39 = .ok (.istore 5, 2) := by decide +kernel
theorem dX4_earliest_41 : decode cX4_earliest 41 = .ok (.iload 5, 2) := by decide +kernel
theorem dX4_earliest_43 : decode cX4_earliest 43 = .ok (.sipush 2000, 3) := by decide +kernel
theorem dX4_earliest_46 : decode cX4_earliest 46 = .ok (.if_icmp .gt 41, 3) := by decide +kernel
theorem dX4_earliest_49 : decode cX4_earliest 49 = .ok (.iload 4, 2) := by decide +kernel
theorem dX4_earliest_51 : decode cX4_earliest 51 = .ok (.bipush (-19), 2) := by decide +kernel
theorem dX4_earliest_53 : decode cX4_earliest 53 = .ok (.if_icmp .ne 34, 3) := by decide +kernel
theorem dX4_earliest_56 : decode cX4_earliest 56 = .ok (.aload_n 0, 1) := by decide +kernel
theorem dX4_earliest_57 : decode cX4_earliest 57 = .ok (.iload_n 1, 1) := by decide +kernel
theorem dX4_earliest_58 : decode cX4_earliest 58 = .ok (.iconst 0, 1) := by decide +kernel
theorem dX4_earliest_59 : decode cX4_earliest 59 = .ok (.iload 5, 2) := by decide +kernel
theorem dX4_earliest_61 : decode cX4_earliest 61 = .ok (.invokevirtual 81, 3) := by decide +kernel
theorem dX4_earliest_64 : decode cX4_earliest 64 = .ok (.aload_n 0, 1) := by decide +kernel
theorem dX4_earliest_65 : decode cX4_earliest 65 = .ok (.iload_n 1, 1) := by decide +kernel
theorem dX4_earliest_66 : decode cX4_earliest 66 = .ok (.invokevirtual 208, 3) := by decide +kernel
theorem dX4_earliest_69 : decode cX4_earliest 69 = .ok (.ifCond .eq 8, 3) := by decide +kernel
theorem dX4_earliest_72 : decode cX4_earliest 72 = .ok (.bipush (-19), 2) := by decide +kernel
theorem dX4_earliest_74 : decode cX4_earliest 74 = .ok (.goto 5, 3) := by decide +kernel
theorem dX4_earliest_77 : decode cX4_earliest 77 = .ok (.iload 5, 2) := by decide +kernel
theorem dX4_earliest_79 : decode cX4_earliest 79 = .ok (.istore 4, 2) := by decide +kernel
theorem dX4_earliest_81 : decode cX4_earliest 81 = .ok (.iinc 5 1, 3) := by decide +kernel
theorem dX4_earliest_84 : decode cX4_earliest 84 = .ok (.goto (-43), 3) := by decide +kernel
theorem dX4_earliest_87 : decode cX4_earliest 87 = .ok (.aload_n 0, 1) := by decide +kernel
theorem dX4_earliest_88 : decode cX4_earliest 88 = .ok (.invokevirtual 199, 3) := by decide +kernel
theorem dX4_earliest_91 : decode cX4_earliest 91 = .ok (.iload 4, 2) := by decide +kernel
theorem dX4_earliest_93 : decode cX4_earliest 93 = .ok (.ireturn, 1) := by decide +kernel
theorem dX4_filled_0 : decode cX4_filled 0 = .ok (.aload_n 0, 1) := by decide +kernel
theorem dX4_filled_1 : decode cX4_filled 1 = .ok (.iconst 0, 1) := by decide +kernel
theorem dX4_filled_2 : decode cX4_filled 2 = .ok (.putfield 26, 3) := by decide +kernel
theorem dX4_filled_5 : decode cX4_filled 5 = .ok (.iload_n 1, 1) := by decide +kernel
theorem dX4_filled_6 : decode cX4_filled 6 = .ok (.invokestatic 231, 3) := by decide +kernel
theorem dX4_filled_9 : decode cX4_filled 9 = .ok (.ifCond .ne 6, 3) := by decide +kernel
theorem dX4_filled_12 : decode cX4_filled 12 = .ok (.bipush (-11), 2) := by decide +kernel
theorem dX4_filled_14 : decode cX4_filled 14 = .ok (.ireturn, 1) := by decide +kernel
theorem dX4_filled_15 : decode cX4_filled 15 = .ok (.iconst 0, 1) := by decide +kernel
theorem dX4_filled_16 : decode cX4_filled 16 = .ok (.istore_n 2, 1) := by decide +kernel
theorem dX4_filled_17 : decode cX4_filled 17 = .ok (.iconst 0, 1) := by decide +kernel
theorem dX4_filled_18 : decode cX4_filled 18 = .ok (.istore_n 3, 1) := by decide +kernel
theorem dX4_filled_19 : decode cX4_filled 19 = .ok (.iload_n 3, 1) := by decide +kernel
theorem dX4_filled_20 : decode cX4_filled 20 = .ok (.bipush 8, 2) := by decide +kernel
theorem dX4_filled_22 : decode cX4_filled 22 = .ok (.if_icmp .ge 46, 3) := by decide +kernel
theorem dX4_filled_25 : decode cX4_filled 25 = .ok (.iconst 0, 1) := by decide +kernel
theorem dX4_filled_26 : decode cX4_filled 26 = .ok (.istore 4, 2) := by decide +kernel
theorem dX4_filled_28 : decode cX4_filled 28 = .ok (.iload 4, 2) := by decide +kernel
theorem dX4_filled_30 : decode cX4_filled 30 = .ok (.bipush 40, 2) := by decide +kernel
theorem dX4_filled_32 : decode cX4_filled 32 = .ok (.if_icmp .ge 30, 3) := by decide +kernel
theorem dX4_filled_35 : decode cX4_filled 35 = .ok (.iload_n 2, 1) := by decide +kernel
theorem dX4_filled_36 : decode cX4_filled 36 = .ok (.aload_n 0, 1) := by decide +kernel
theorem dX4_filled_37 : decode cX4_filled 37 = .ok (.iload_n 3, 1) := by decide +kernel
theorem dX4_filled_38 : decode cX4_filled 38 = .ok (.iload 4, 2) := by decide +kernel
theorem dX4_filled_40 : decode cX4_filled 40 = .ok (.iload_n 1, 1) := by decide +kernel
theorem dX4_filled_41 : decode cX4_filled 41 = .ok (.invokevirtual 236, 3) := by decide +kernel
theorem dX4_filled_44 : decode cX4_filled 44 = .ok (.bipush (-19), 2) := by decide +kernel
theorem dX4_filled_46 : decode cX4_filled 46 = .ok (.if_icmp .eq 7, 3) := by decide +kernel
theorem dX4_filled_49 : decode cX4_filled 49 = .ok (.iconst 1, 1) := by decide +kernel
theorem dX4_filled_50 : decode cX4_filled 50 = .ok (.goto 4, 3) := by decide +kernel
theorem dX4_filled_53 : decode cX4_filled 53 = .ok (.iconst 0, 1) := by decide +kernel
theorem dX4_filled_54 : decode cX4_filled 54 = .ok (.iadd, 1) := by decide +kernel
theorem dX4_filled_55 : decode cX4_filled 55 = .ok (.istore_n 2, 1) := by decide +kernel
theorem dX4_filled_56 : decode cX4_filled 56 = .ok (.iinc 4 1, 3) := by decide +kernel
theorem dX4_filled_59 : decode cX4_filled 59 = .ok (.goto (-31), 3) := by decide +kernel
theorem dX4_filled_62 : decode cX4_filled 62 = .ok (.iinc 3 1, 3) := by decide +kernel
theorem dX4_filled_65 : decode cX4_filled 65 = .ok (.goto (-46), 3) := by decide +kernel
theorem dX4_filled_68 : decode cX4_filled 68 = .ok (.iload_n 2, 1) := by decide +kernel
theorem dX4_filled_69 : decode cX4_filled 69 = .ok (.ireturn, 1) := by decide +kernel
