theorem dX6_init_0 : decode cX6_init 0 = .ok (.aload_n 0, 1) := by decide +kernel
theorem dX6_init_1 : decode cX6_init 1 = .ok (.invokespecial 1, 3) := by decide +kernel
theorem dX6_init_4 : decode cX6_init 4 = .ok (.aload_n 0, 1) := by decide +kernel
theorem dX6_init_5 : decode cX6_init 5 = .ok (.sipush 2377, 3) := by decide +kernel
theorem dX6_init_8 : decode cX6_init 8 = .ok (.newarray .int, 2) := by decide +kernel
theorem dX6_init_10 : decode cX6_init 10 = .ok (.putfield 7, 3) := by decide +kernel
theorem dX6_init_13 : decode cX6_init 13 = .ok (.aload_n 0, 1) := by decide +kernel
theorem dX6_init_14 : decode cX6_init 14 = .ok (.sipush 9508, 3) := by decide +kernel
theorem dX6_init_17 : decode cX6_init 17 = .ok (.newarray .int, 2) := by decide +kernel
theorem dX6_init_19 : decode cX6_init 19 = .ok (.putfield 13, 3) := by decide +kernel
theorem dX6_init_22 : decode cX6_init 22 = .ok (.aload_n 0, 1) := by decide +kernel
theorem dX6_init_23 : decode cX6_init 23 = .ok (.sipush 128, 3) := by decide +kernel
theorem dX6_init_26 : decode cX6_init 26 = .ok (.newarray .int, 2) := by decide +kernel
theorem dX6_init_28 : decode cX6_init 28 = .ok (.putfield 16, 3) := by decide +kernel
theorem dX6_init_31 : decode cX6_init 31 = .ok (.aload_n 0, 1) := by decide +kernel
theorem dX6_init_32 : decode cX6_init 32 = .ok (.getfield 7, 3) := by decide +kernel
theorem dX6_init_35 : decode cX6_init 35 = .ok (.iconst 0, 1) := by decide +kernel
theorem dX6_init_36 : decode cX6_init 36 = .ok (.bipush 8, 2) := by decide +kernel
theorem dX6_init_38 : decode cX6_init 38 = .ok (.iastore, 1) := by decide +kernel
theorem dX6_init_39 : decode cX6_init 39 = .ok (.aload_n 0, 1) := by decide +kernel
theorem dX6_init_40 : decode cX6_init 40 = .ok (.getfield 7, 3) := by decide +kernel
theorem dX6_init_43 : decode cX6_init 43 = .ok (.iconst 1, 1) := by decide +kernel
theorem dX6_init_44 : decode cX6_init 44 = .ok (.iconst 4, 1) := by decide +kernel
theorem dX6_init_45 : decode cX6_init 45 = .ok (.iastore, 1) := by decide +kernel
theorem dX6_init_46 : decode cX6_init 46 = .ok (.return_, 1) := by decide +kernel
theorem dX6_thrown_0 : decode cX6_thrown 0 = .ok (.aload_n 0, 1) := by decide +kernel
theorem dX6_thrown_1 : decode cX6_thrown 1 = .ok (.getfield 19, 3) := by decide +kernel
theorem dX6_thrown_4 : decode cX6_thrown 4 = .ok (.ireturn, 1) := by decide +kernel
theorem dX6_in_0 : decode cX6_in 0 = .ok (.iload_n 0, 1) := by decide +kernel
theorem dX6_in_1 : decode cX6_in 1 = .ok (.iload_n 1, 1) := by decide +kernel
theorem dX6_in_2 : decode cX6_in 2 = .ok (.if_icmp .lt 12, 3) := by decide +kernel
theorem dX6_in_5 : decode cX6_in 5 = .ok (.iload_n 0, 1) := by decide +kernel
theorem dX6_in_6 : decode cX6_in 6 = .ok (.iload_n 2, 1) := by decide +kernel
theorem dX6_in_7 : decode cX6_in 7 = .ok (.if_icmp .gt 7, 3) := by decide +kernel
theorem dX6_in_10 : decode cX6_in 10 = .ok (.iconst 1, 1) := by decide +kernel
theorem dX6_in_11 : decode cX6_in 11 = .ok (.goto 4, 3) := by decide +kernel
theorem dX6_in_14 : decode cX6_in 14 = .ok (.iconst 0, 1) := by decide +kernel
theorem dX6_in_15 : decode cX6_in 15 = .ok (.ireturn, 1) := by decide +kernel
theorem dX6_keep_0 : decode cX6_keep 0 = .ok (.aload_n 0, 1) := by decide +kernel
theorem dX6_keep_1 : decode cX6_keep 1 = .ok (.getfield 23, 3) := by decide +kernel
theorem dX6_keep_4 : decode cX6_keep 4 = .ok (.iconst 4, 1) := by decide +kernel
theorem dX6_keep_5 : decode cX6_keep 5 = .ok (.if_icmp .ne 44, 3) := by decide +kernel
theorem dX6_keep_8 : decode cX6_keep 8 = .ok (.iconst 0, 1) := by decide +kernel
theorem dX6_keep_9 : decode cX6_keep 9 = .ok (.istore_n 1, 1) := by decide +kernel
theorem dX6_keep_10 : decode cX6_keep 10 = .ok (.iload_n 1, 1) := by decide +kernel
theorem dX6_keep_11 : decode cX6_keep 11 = .ok (.sipush 7131, 3) := by decide +kernel
theorem dX6_keep_14 : decode cX6_keep 14 = .ok (.if_icmp .ge 25, 3) := by decide +kernel
theorem dX6_keep_17 : decode cX6_keep 17 = .ok (.aload_n 0, 1) := by decide +kernel
theorem dX6_keep_18 : decode cX6_keep 18 = .ok (.getfield 13, 3) := by decide +kernel
theorem dX6_keep_21 : decode cX6_keep 21 = .ok (.iload_n 1, 1) := by decide +kernel
theorem dX6_keep_22 : decode cX6_keep 22 = .ok (.aload_n 0, 1) := by decide +kernel
theorem dX6_keep_23 : decode cX6_keep 23 = .ok (.getfield 13, 3) := by decide +kernel
theorem dX6_keep_26 : decode cX6_keep 26 = .ok (.iload_n 1, 1) := by decide +kernel
theorem dX6_keep_27 : decode cX6_keep 27 = .ok (.sipush 2377, 3) := by decide +kernel
theorem dX6_keep_30 : decode cX6_keep 30 = .ok (.iadd, 1) := by decide +kernel
theorem dX6_keep_31 : decode cX6_keep 31 = .ok (.iaload, 1) := by decide +kernel
theorem dX6_keep_32 : decode cX6_keep 32 = .ok (.iastore, 1) := by decide +kernel
theorem dX6_keep_33 : decode cX6_keep 33 = .ok (.iinc 1 1, 3) := by decide +kernel
theorem dX6_keep_36 : decode cX6_keep 36 = .ok (.goto (-26), 3) := by decide +kernel
theorem dX6_keep_39 : decode cX6_keep 39 = .ok (.aload_n 0, 1) := by decide +kernel
theorem dX6_keep_40 : decode cX6_keep 40 = .ok (.dup, 1) := by decide +kernel
theorem dX6_keep_41 : decode cX6_keep 41 = .ok (.getfield 23, 3) := by decide +kernel
theorem dX6_keep_44 : decode cX6_keep 44 = .ok (.iconst 1, 1) := by decide +kernel
theorem dX6_keep_45 : decode cX6_keep 45 = .ok (.isub, 1) := by decide +kernel
theorem dX6_keep_46 : decode cX6_keep 46 = .ok (.putfield 23, 3) := by decide +kernel
theorem dX6_keep_49 : decode cX6_keep 49 = .ok (.iconst 0, 1) := by decide +kernel
theorem dX6_keep_50 : decode cX6_keep 50 = .ok (.istore_n 1, 1) := by decide +kernel
theorem dX6_keep_51 : decode cX6_keep 51 = .ok (.iload_n 1, 1) := by decide +kernel
theorem dX6_keep_52 : decode cX6_keep 52 = .ok (.sipush 2377, 3) := by decide +kernel
theorem dX6_keep_55 : decode cX6_keep 55 = .ok (.if_icmp .ge 30, 3) := by decide +kernel
theorem dX6_keep_58 : decode cX6_keep 58 = .ok (.aload_n 0, 1) := by decide +kernel
theorem dX6_keep_59 : decode cX6_keep 59 = .ok (.getfield 13, 3) := by decide +kernel
theorem dX6_keep_62 : decode cX6_keep 62 = .ok (.sipush 2377, 3) := by decide +kernel
theorem dX6_keep_65 : decode cX6_keep 65 = .ok (.aload_n 0, 1) := by decide +kernel
theorem dX6_keep_66 : decode cX6_keep 66 = .ok (.getfield 23, 3) := by decide +kernel
theorem dX6_keep_69 : decode cX6_keep 69 = .ok (.imul, 1) := by decide +kernel
theorem dX6_keep_70 : decode cX6_keep 70 = .ok (.iload_n 1, 1) := by decide +kernel
theorem dX6_keep_71 : decode cX6_keep 71 = .ok (.iadd, 1) := by decide +kernel
theorem dX6_keep_72 : decode cX6_keep 72 = .ok (.aload_n 0, 1) := by decide +kernel
theorem dX6_keep_73 : decode cX6_keep 73 = .ok (.getfield 7, 3) := by decide +kernel
theorem dX6_keep_76 : decode cX6_keep 76 = .ok (.iload_n 1, 1) := by decide +kernel
theorem dX6_keep_77 : decode cX6_keep 77 = .ok (.iaload, 1) := by decide +kernel
theorem dX6_keep_78 : decode cX6_keep 78 = .ok (.iastore, 1) := by decide +kernel
theorem dX6_keep_79 : decode cX6_keep 79 = .ok (.iinc 1 1, 3) := by decide +kernel
theorem dX6_keep_82 : decode cX6_keep 82 = .ok (.goto (-31), 3) := by decide +kernel
theorem dX6_keep_85 : decode cX6_keep 85 = .ok (.aload_n 0, 1) := by decide +kernel
theorem dX6_keep_86 : decode cX6_keep 86 = .ok (.dup, 1) := by decide +kernel
theorem dX6_keep_87 : decode cX6_keep 87 = .ok (.getfield 23, 3) := by decide +kernel
theorem dX6_keep_90 : decode cX6_keep 90 = .ok (.iconst 1, 1) := by decide +kernel
theorem dX6_keep_91 : decode cX6_keep 91 = .ok (.iadd, 1) := by decide +kernel
theorem dX6_keep_92 : decode cX6_keep 92 = .ok (.putfield 23, 3) := by decide +kernel
theorem dX6_keep_95 : decode cX6_keep 95 = .ok (.return_, 1) := by decide +kernel
theorem dX6_of_0 : decode cX6_of 0 = .ok (.aload_n 0, 1) := by decide +kernel
theorem dX6_of_1 : decode cX6_of 1 = .ok (.getfield 7, 3) := by decide +kernel
theorem dX6_of_4 : decode cX6_of 4 = .ok (.bipush 33, 2) := by decide +kernel
theorem dX6_of_6 : decode cX6_of 6 = .ok (.bipush 14, 2) := by decide +kernel
theorem dX6_of_8 : decode cX6_of 8 = .ok (.iload_n 1, 1) := by decide +kernel
theorem dX6_of_9 : decode cX6_of 9 = .ok (.imul, 1) := by decide +kernel
theorem dX6_of_10 : decode cX6_of 10 = .ok (.iadd, 1) := by decide +kernel
theorem dX6_of_11 : decode cX6_of 11 = .ok (.iload_n 2, 1) := by decide +kernel
theorem dX6_of_12 : decode cX6_of 12 = .ok (.iadd, 1) := by decide +kernel
theorem dX6_of_13 : decode cX6_of 13 = .ok (.iaload, 1) := by decide +kernel
theorem dX6_of_14 : decode cX6_of 14 = .ok (.ireturn, 1) := by decide +kernel
theorem dX6_put_0 : decode cX6_put 0 = .ok (.aload_n 0, 1) := by decide +kernel
theorem dX6_put_1 : decode cX6_put 1 = .ok (.getfield 7, 3) := by decide +kernel
theorem dX6_put_4 : decode cX6_put 4 = .ok (.bipush 33, 2) := by decide +kernel
theorem dX6_put_6 : decode cX6_put 6 = .ok (.bipush 14, 2) := by decide +kernel
theorem dX6_put_8 : decode cX6_put 8 = .ok (.iload_n 1, 1) := by decide +kernel
theorem dX6_put_9 : decode cX6_put 9 = .ok (.imul, 1) := by decide +kernel
theorem dX6_put_10 : decode cX6_put 10 = .ok (.iadd, 1) := by decide +kernel
theorem dX6_put_11 : decode cX6_put 11 = .ok (.iload_n 2, 1) := by decide +kernel
theorem dX6_put_12 : decode cX6_put 12 = .ok (.iadd, 1) := by decide +kernel
theorem dX6_put_13 : decode cX6_put 13 = .ok (.iload_n 3, 1) := by decide +kernel
theorem dX6_put_14 : decode cX6_put 14 = .ok (.iastore, 1) := by decide +kernel
theorem dX6_put_15 : decode cX6_put 15 = .ok (.return_, 1) := by decide +kernel
theorem dX6_isParameter_0 : decode cX6_isParameter 0 = .ok (.iload_n 1, 1) := by decide +kernel
theorem dX6_isParameter_1 : decode cX6_isParameter 1 = .ok (.iconst 0, 1) := by decide +kernel
theorem dX6_isParameter_2 : decode cX6_isParameter 2 = .ok (.aload_n 0, 1) := by decide +kernel
theorem dX6_isParameter_3 : decode cX6_isParameter 3 = .ok (.getfield 7, 3) := by decide +kernel
theorem dX6_isParameter_6 : decode cX6_isParameter 6 = .ok (.iconst 2, 1) := by decide +kernel
theorem dX6_isParameter_7 : decode cX6_isParameter 7 = .ok (.iaload, 1) := by decide +kernel
theorem dX6_isParameter_8 : decode cX6_isParameter 8 = .ok (.iconst 1, 1) := by decide +kernel
theorem dX6_isParameter_9 : decode cX6_isParameter 9 = .ok (.isub, 1) := by decide +kernel
theorem dX6_isParameter_10 : decode cX6_isParameter 10 = .ok (.invokestatic 26, 3) := by decide +kernel
theorem dX6_isParameter_13 : decode cX6_isParameter 13 = .ok (.ireturn, 1) := by decide +kernel
theorem dX6_searches_0 : decode cX6_searches 0 = .ok (.aload_n 0, 1) := by decide +kernel
theorem dX6_searches_1 : decode cX6_searches 1 = .ok (.getfield 7, 3) := by decide +kernel
theorem dX6_searches_4 : decode cX6_searches 4 = .ok (.bipush 7, 2) := by decide +kernel
theorem dX6_searches_6 : decode cX6_searches 6 = .ok (.iconst 0, 1) := by decide +kernel
theorem dX6_searches_7 : decode cX6_searches 7 = .ok (.iastore, 1) := by decide +kernel
theorem dX6_searches_8 : decode cX6_searches 8 = .ok (.aload_n 0, 1) := by decide +kernel
theorem dX6_searches_9 : decode cX6_searches 9 = .ok (.getfield 7, 3) := by decide +kernel
theorem dX6_searches_12 : decode cX6_searches 12 = .ok (.bipush 15, 2) := by decide +kernel
theorem dX6_searches_14 : decode cX6_searches 14 = .ok (.iconst 0, 1) := by decide +kernel
theorem dX6_searches_15 : decode cX6_searches 15 = .ok (.iastore, 1) := by decide +kernel
theorem dX6_searches_16 : decode cX6_searches 16 = .ok (.aload_n 0, 1) := by decide +kernel
theorem dX6_searches_17 : decode cX6_searches 17 = .ok (.getfield 7, 3) := by decide +kernel
theorem dX6_searches_20 : decode cX6_searches 20 = .ok (.bipush 16, 2) := by decide +kernel
theorem dX6_searches_22 : decode cX6_searches 22 = .ok (.iconst 0, 1) := by decide +kernel
theorem dX6_searches_23 : decode cX6_searches 23 = .ok (.iastore, 1) := by decide +kernel
theorem dX6_searches_24 : decode cX6_searches 24 = .ok (.aload_n 0, 1) := by decide +kernel
theorem dX6_searches_25 : decode cX6_searches 25 = .ok (.getfield 7, 3) := by decide +kernel
theorem dX6_searches_28 : decode cX6_searches 28 = .ok (.bipush 17, 2) := by decide +kernel
theorem dX6_searches_30 : decode cX6_searches 30 = .ok (.iconst 0, 1) := by decide +kernel
theorem dX6_searches_31 : decode cX6_searches 31 = .ok (.iastore, 1) := by decide +kernel
theorem dX6_searches_32 : decode cX6_searches 32 = .ok (.return_, 1) := by decide +kernel
theorem dX6_beginsAnew_0 : decode cX6_beginsAnew 0 = .ok (.aload_n 0, 1) := by decide +kernel
theorem dX6_beginsAnew_1 : decode cX6_beginsAnew 1 = .ok (.getfield 7, 3) := by decide +kernel
theorem dX6_beginsAnew_4 : decode cX6_beginsAnew 4 = .ok (.iconst 3, 1) := by decide +kernel
theorem dX6_beginsAnew_5 : decode cX6_beginsAnew 5 = .ok (.iconst 0, 1) := by decide +kernel
theorem dX6_beginsAnew_6 : decode cX6_beginsAnew 6 = .ok (.iastore, 1) := by decide +kernel
theorem dX6_beginsAnew_7 : decode cX6_beginsAnew 7 = .ok (.aload_n 0, 1) := by decide +kernel
theorem dX6_beginsAnew_8 : decode cX6_beginsAnew 8 = .ok (.getfield 7, 3) := by decide +kernel
theorem dX6_beginsAnew_11 : decode cX6_beginsAnew 11 = .ok (.iconst 5, 1) := by decide +kernel
theorem dX6_beginsAnew_12 : decode cX6_beginsAnew 12 = .ok (.iconst 0, 1) := by decide +kernel
theorem dX6_beginsAnew_13 : decode cX6_beginsAnew 13 = .ok (.iastore, 1) := by decide +kernel
theorem dX6_beginsAnew_14 : decode cX6_beginsAnew 14 = .ok (.aload_n 0, 1) := by decide +kernel
theorem dX6_beginsAnew_15 : decode cX6_beginsAnew 15 = .ok (.getfield 7, 3) := by decide +kernel
theorem dX6_beginsAnew_18 : decode cX6_beginsAnew 18 = .ok (.iconst 4, 1) := by decide +kernel
theorem dX6_beginsAnew_19 : decode cX6_beginsAnew 19 = .ok (.iconst 0, 1) := by decide +kernel
theorem dX6_beginsAnew_20 : decode cX6_beginsAnew 20 = .ok (.iastore, 1) := by decide +kernel
theorem dX6_beginsAnew_21 : decode cX6_beginsAnew 21 = .ok (.aload_n 0, 1) := by decide +kernel
theorem dX6_beginsAnew_22 : decode cX6_beginsAnew 22 = .ok (.getfield 7, 3) := by decide +kernel
theorem dX6_beginsAnew_25 : decode cX6_beginsAnew 25 = .ok (.bipush 8, 2) := by decide +kernel
theorem dX6_beginsAnew_27 : decode cX6_beginsAnew 27 = .ok (.iconst 0, 1) := by decide +kernel
theorem dX6_beginsAnew_28 : decode cX6_beginsAnew 28 = .ok (.iastore, 1) := by decide +kernel
theorem dX6_beginsAnew_29 : decode cX6_beginsAnew 29 = .ok (.aload_n 0, 1) := by decide +kernel
theorem dX6_beginsAnew_30 : decode cX6_beginsAnew 30 = .ok (.invokevirtual 30, 3) := by decide +kernel
theorem dX6_beginsAnew_33 : decode cX6_beginsAnew 33 = .ok (.return_, 1) := by decide +kernel
theorem dX6_setFrame_0 : decode cX6_setFrame 0 = .ok (.aload_n 0, 1) := by decide +kernel
theorem dX6_setFrame_1 : decode cX6_setFrame 1 = .ok (.iload_n 1, 1) := by decide +kernel
theorem dX6_setFrame_2 : decode cX6_setFrame 2 = .ok (.bipush 6, 2) := by decide +kernel
theorem dX6_setFrame_4 : decode cX6_setFrame 4 = .ok (.bipush 16, 2) := by decide +kernel
theorem dX6_setFrame_6 : decode cX6_setFrame 6 = .ok (.invokestatic 26, 3) := by decide +kernel
theorem dX6_setFrame_9 : decode cX6_setFrame 9 = .ok (.ifCond .eq 25, 3) := by decide +kernel
theorem dX6_setFrame_12 : decode cX6_setFrame 12 = .ok (.iload_n 2, 1) := by decide +kernel
theorem dX6_setFrame_13 : decode cX6_setFrame 13 = .ok (.iconst 1, 1) := by decide +kernel
theorem dX6_setFrame_14 : decode cX6_setFrame 14 = .ok (.bipush 8, 2) := by decide +kernel
theorem dX6_setFrame_16 : decode cX6_setFrame 16 = .ok (.invokestatic 26, 3) := by decide +kernel
theorem dX6_setFrame_19 : decode cX6_setFrame 19 = .ok (.ifCond .eq 15, 3) := by decide +kernel
theorem dX6_setFrame_22 : decode cX6_setFrame 22 = .ok (.iload_n 2, 1) := by decide +kernel
theorem dX6_setFrame_23 : decode cX6_setFrame 23 = .ok (.iload_n 2, 1) := by decide +kernel
theorem dX6_setFrame_24 : decode cX6_setFrame 24 = .ok (.iconst 1, 1) := by decide +kernel
theorem dX6_setFrame_25 : decode cX6_setFrame 25 = .ok (.isub, 1) := by decide +kernel
theorem dX6_setFrame_26 : decode cX6_setFrame 26 = .ok (.iand, 1) := by decide +kernel
theorem dX6_setFrame_27 : decode cX6_setFrame 27 = .ok (.ifCond .ne 7, 3) := by decide +kernel
theorem dX6_setFrame_30 : decode cX6_setFrame 30 = .ok (.iconst 0, 1) := by decide +kernel
theorem dX6_setFrame_31 : decode cX6_setFrame 31 = .ok (.goto 4, 3) := by decide +kernel
theorem dX6_setFrame_34 : decode cX6_setFrame 34 = .ok (.iconst 1, 1) := by decide +kernel
theorem dX6_setFrame_35 : decode cX6_setFrame 35 = .ok (.putfield 19, 3) := by decide +kernel
theorem dX6_setFrame_38 : decode cX6_setFrame 38 = .ok (.aload_n 0, 1) := by decide +kernel
theorem dX6_setFrame_39 : decode cX6_setFrame 39 = .ok (.getfield 19, 3) := by decide +kernel
theorem dX6_setFrame_42 : decode cX6_setFrame 42 = .ok (.ifCond .eq 5, 3) := by decide +kernel
theorem dX6_setFrame_45 : decode cX6_setFrame 45 = .ok (.iconst 0, 1) := by decide +kernel
theorem dX6_setFrame_46 : decode cX6_setFrame 46 = .ok (.ireturn, 1) := by decide +kernel
theorem dX6_setFrame_47 : decode cX6_setFrame 47 = .ok (.aload_n 0, 1) := by decide +kernel
theorem dX6_setFrame_48 : decode cX6_setFrame 48 = .ok (.invokevirtual 33, 3) := by decide +kernel
theorem dX6_setFrame_51 : decode cX6_setFrame 51 = .ok (.aload_n 0, 1) := by decide +kernel
theorem dX6_setFrame_52 : decode cX6_setFrame 52 = .ok (.getfield 7, 3) := by decide +kernel
theorem dX6_setFrame_55 : decode cX6_setFrame 55 = .ok (.iconst 0, 1) := by decide +kernel
theorem dX6_setFrame_56 : decode cX6_setFrame 56 = .ok (.iload_n 1, 1) := by decide +kernel
theorem dX6_setFrame_57 : decode cX6_setFrame 57 = .ok (.iastore, 1) := by decide +kernel
theorem dX6_setFrame_58 : decode cX6_setFrame 58 = .ok (.aload_n 0, 1) := by decide +kernel
theorem dX6_setFrame_59 : decode cX6_setFrame 59 = .ok (.getfield 7, 3) := by decide +kernel
theorem dX6_setFrame_62 : decode cX6_setFrame 62 = .ok (.iconst 1, 1) := by decide +kernel
theorem dX6_setFrame_63 : decode cX6_setFrame 63 = .ok (.iload_n 2, 1) := by decide +kernel
theorem dX6_setFrame_64 : decode cX6_setFrame 64 = .ok (.iastore, 1) := by decide +kernel
theorem dX6_setFrame_65 : decode cX6_setFrame 65 = .ok (.aload_n 0, 1) := by decide +kernel
theorem dX6_setFrame_66 : decode cX6_setFrame 66 = .ok (.invokevirtual 36, 3) := by decide +kernel
theorem dX6_setFrame_69 : decode cX6_setFrame 69 = .ok (.iload_n 1, 1) := by decide +kernel
theorem dX6_setFrame_70 : decode cX6_setFrame 70 = .ok (.iload_n 2, 1) := by decide +kernel
theorem dX6_setFrame_71 : decode cX6_setFrame 71 = .ok (.imul, 1) := by decide +kernel
theorem dX6_setFrame_72 : decode cX6_setFrame 72 = .ok (.ireturn, 1) := by decide +kernel
theorem dX6_addParameter_0 : decode cX6_addParameter 0 = .ok (.iload_n 1, 1) := by decide +kernel
theorem dX6_addParameter_1 : decode cX6_addParameter 1 = .ok (.iconst 1, 1) := by decide +kernel
theorem dX6_addParameter_2 : decode cX6_addParameter 2 = .ok (.iconst 4, 1) := by decide +kernel
theorem dX6_addParameter_3 : decode cX6_addParameter 3 = .ok (.invokestatic 26, 3) := by decide +kernel
theorem dX6_addParameter_6 : decode cX6_addParameter 6 = .ok (.ifCond .ne 21, 3) := by decide +kernel
theorem dX6_addParameter_9 : decode cX6_addParameter 9 = .ok (.iload_n 1, 1) := by decide +kernel
theorem dX6_addParameter_10 : decode cX6_addParameter 10 = .ok (.bipush (-2), 2) := by decide +kernel
theorem dX6_addParameter_12 : decode cX6_addParameter 12 = .ok (.if_icmp .eq 15, 3) := by decide +kernel
theorem dX6_addParameter_15 : decode cX6_addParameter 15 = .ok (.iload_n 1, 1) := by decide +kernel
theorem dX6_addParameter_16 : decode cX6_addParameter 16 = .ok (.bipush (-4), 2) := by decide +kernel
theorem dX6_addParameter_18 : decode cX6_addParameter 18 = .ok (.if_icmp .eq 9, 3) := by decide +kernel
theorem dX6_addParameter_21 : decode cX6_addParameter 21 = .ok (.iload_n 1, 1) := by decide +kernel
theorem dX6_addParameter_22 : decode cX6_addParameter 22 = .ok (.bipush (-8), 2) := by decide +kernel
theorem dX6_addParameter_24 : decode cX6_addParameter 24 = .ok (.if_icmp .ne 7, 3) := by decide +kernel
theorem dX6_addParameter_27 : decode cX6_addParameter 27 = .ok (.iconst 1, 1) := by decide +kernel
theorem dX6_addParameter_28 : decode cX6_addParameter 28 = .ok (.goto 4, 3) := by decide +kernel
theorem dX6_addParameter_31 : decode cX6_addParameter 31 = .ok (.iconst 0, 1) := by decide +kernel
theorem dX6_addParameter_32 : decode cX6_addParameter 32 = .ok (.istore_n 2, 1) := by decide +kernel
theorem dX6_addParameter_33 : decode cX6_addParameter 33 = .ok (.aload_n 0, 1) := by decide +kernel
theorem dX6_addParameter_34 : decode cX6_addParameter 34 = .ok (.iload_n 2, 1) := by decide +kernel
theorem dX6_addParameter_35 : decode cX6_addParameter 35 = .ok (.ifCond .ne 7, 3) := by decide +kernel
theorem dX6_addParameter_38 : decode cX6_addParameter 38 = .ok (.iconst 1, 1) := by decide +kernel
theorem dX6_addParameter_39 : decode cX6_addParameter 39 = .ok (.goto 19, 3) := by decide +kernel
theorem dX6_addParameter_42 : decode cX6_addParameter 42 = .ok (.aload_n 0, 1) := by decide +kernel
theorem dX6_addParameter_43 : decode cX6_addParameter 43 = .ok (.getfield 7, 3) := by decide +kernel
theorem dX6_addParameter_46 : decode cX6_addParameter 46 = .ok (.iconst 2, 1) := by decide +kernel
theorem dX6_addParameter_47 : decode cX6_addParameter 47 = .ok (.iaload, 1) := by decide +kernel
theorem dX6_addParameter_48 : decode cX6_addParameter 48 = .ok (.bipush 12, 2) := by decide +kernel
theorem dX6_addParameter_50 : decode cX6_addParameter 50 = .ok (.if_icmp .ne 7, 3) := by decide +kernel
theorem dX6_addParameter_53 : decode cX6_addParameter 53 = .ok (.iconst 2, 1) := by decide +kernel
theorem dX6_addParameter_54 : decode cX6_addParameter 54 = .ok (.goto 4, 3) := by decide +kernel
theorem dX6_addParameter_57 : decode cX6_addParameter 57 = .ok (.iconst 0, 1) := by decide +kernel
theorem dX6_addParameter_58 : decode cX6_addParameter 58 = .ok (.putfield 19, 3) := by decide +kernel
theorem dX6_addParameter_61 : decode cX6_addParameter 61 = .ok (.aload_n 0, 1) := by decide +kernel
theorem dX6_addParameter_62 : decode cX6_addParameter 62 = .ok (.getfield 19, 3) := by decide +kernel
theorem dX6_addParameter_65 : decode cX6_addParameter 65 = .ok (.ifCond .eq 5, 3) := by decide +kernel
theorem dX6_addParameter_68 : decode cX6_addParameter 68 = .ok (.iconst 0, 1) := by decide +kernel
theorem dX6_addParameter_69 : decode cX6_addParameter 69 = .ok (.ireturn, 1) := by decide +kernel
theorem dX6_addParameter_70 : decode cX6_addParameter 70 = .ok (.aload_n 0, 1) := by decide +kernel
theorem dX6_addParameter_71 : decode cX6_addParameter 71 = .ok (.invokevirtual 33, 3) := by decide +kernel
theorem dX6_addParameter_74 : decode cX6_addParameter 74 = .ok (.aload_n 0, 1) := by decide +kernel
theorem dX6_addParameter_75 : decode cX6_addParameter 75 = .ok (.getfield 7, 3) := by decide +kernel
theorem dX6_addParameter_78 : decode cX6_addParameter 78 = .ok (.iconst 2, 1) := by decide +kernel
theorem dX6_addParameter_79 : decode cX6_addParameter 79 = .ok (.iaload, 1) := by decide +kernel
theorem dX6_addParameter_80 : decode cX6_addParameter 80 = .ok (.istore_n 3, 1) := by decide +kernel
theorem dX6_addParameter_81 : decode cX6_addParameter 81 = .ok (.iconst 0, 1) := by decide +kernel
theorem dX6_addParameter_82 : decode cX6_addParameter 82 = .ok (.istore 4, 2) := by decide +kernel
theorem dX6_addParameter_84 : decode cX6_addParameter 84 = .ok (.iload 4, 2) := by decide +kernel
theorem dX6_addParameter_86 : decode cX6_addParameter 86 = .ok (.bipush 14, 2) := by decide +kernel
theorem dX6_addParameter_88 : decode cX6_addParameter 88 = .ok (.if_icmp .ge 17, 3) := by decide +kernel
theorem dX6_addParameter_91 : decode cX6_addParameter 91 = .ok (.aload_n 0, 1) := by decide +kernel
theorem dX6_addParameter_92 : decode cX6_addParameter 92 = .ok (.iload_n 3, 1) := by decide +kernel
theorem dX6_addParameter_93 : decode cX6_addParameter 93 = .ok (.iload 4, 2) := by decide +kernel
theorem dX6_addParameter_95 : decode cX6_addParameter 95 = .ok (.iconst 0, 1) := by decide +kernel
theorem dX6_addParameter_96 : decode cX6_addParameter 96 = .ok (.invokevirtual 39, 3) := by decide +kernel
theorem dX6_addParameter_99 : decode cX6_addParameter 99 = .ok (.iinc 4 1, 3) := by decide +kernel
theorem dX6_addParameter_102 : decode cX6_addParameter 102 = .ok (.goto (-18), 3) := by decide +kernel
theorem dX6_addParameter_105 : decode cX6_addParameter 105 = .ok (.aload_n 0, 1) := by decide +kernel
theorem dX6_addParameter_106 : decode cX6_addParameter 106 = .ok (.iload_n 3, 1) := by decide +kernel
theorem dX6_addParameter_107 : decode cX6_addParameter 107 = .ok (.iconst 0, 1) := by decide +kernel
theorem dX6_addParameter_108 : decode cX6_addParameter 108 = .ok (.iload_n 1, 1) := by decide +kernel
theorem dX6_addParameter_109 : decode cX6_addParameter 109 = .ok (.invokevirtual 39, 3) := by decide +kernel
theorem dX6_addParameter_112 : decode cX6_addParameter 112 = .ok (.aload_n 0, 1) := by decide +kernel
theorem dX6_addParameter_113 : decode cX6_addParameter 113 = .ok (.iload_n 3, 1) := by decide +kernel
theorem dX6_addParameter_114 : decode cX6_addParameter 114 = .ok (.iconst 2, 1) := by decide +kernel
theorem dX6_addParameter_115 : decode cX6_addParameter 115 = .ok (.iconst (-1), 1) := by decide +kernel
theorem dX6_addParameter_116 : decode cX6_addParameter 116 = .ok (.invokevirtual 39, 3) := by decide +kernel
theorem dX6_addParameter_119 : decode cX6_addParameter 119 = .ok (.aload_n 0, 1) := by decide +kernel
theorem dX6_addParameter_120 : decode cX6_addParameter 120 = .ok (.iload_n 3, 1) := by decide +kernel
theorem dX6_addParameter_121 : decode cX6_addParameter 121 = .ok (.bipush 10, 2) := by decide +kernel
theorem dX6_addParameter_123 : decode cX6_addParameter 123 = .ok (.iconst 1, 1) := by decide +kernel
theorem dX6_addParameter_124 : decode cX6_addParameter 124 = .ok (.invokevirtual 39, 3) := by decide +kernel
theorem dX6_addParameter_127 : decode cX6_addParameter 127 = .ok (.iconst 0, 1) := by decide +kernel
theorem dX6_addParameter_128 : decode cX6_addParameter 128 = .ok (.istore 4, 2) := by decide +kernel
theorem dX6_addParameter_130 : decode cX6_addParameter 130 = .ok (.iload 4, 2) := by decide +kernel
theorem dX6_addParameter_132 : decode cX6_addParameter 132 = .ok (.iconst 3, 1) := by decide +kernel
theorem dX6_addParameter_133 : decode cX6_addParameter 133 = .ok (.if_icmp .ge 25, 3) := by decide +kernel
theorem dX6_addParameter_136 : decode cX6_addParameter 136 = .ok (.aload_n 0, 1) := by decide +kernel
theorem dX6_addParameter_137 : decode cX6_addParameter 137 = .ok (.iload_n 3, 1) := by decide +kernel
theorem dX6_addParameter_138 : decode cX6_addParameter 138 = .ok (.iconst 4, 1) := by decide +kernel
theorem dX6_addParameter_139 : decode cX6_addParameter 139 = .ok (.iconst 2, 1) := by decide +kernel
theorem dX6_addParameter_140 : decode cX6_addParameter 140 = .ok (.iload 4, 2) := by decide +kernel
theorem dX6_addParameter_142 : decode cX6_addParameter 142 = .ok (.imul, 1) := by decide +kernel
theorem dX6_addParameter_143 : decode cX6_addParameter 143 = .ok (.iadd, 1) := by decide +kernel
theorem dX6_addParameter_144 : decode cX6_addParameter 144 = .ok (.iconst 1, 1) := by decide +kernel
theorem dX6_addParameter_145 : decode cX6_addParameter 145 = .ok (.iadd, 1) := by decide +kernel
theorem dX6_addParameter_146 : decode cX6_addParameter 146 = .ok (.sipush 255, 3) := by decide +kernel
theorem dX6_addParameter_149 : decode cX6_addParameter 149 = .ok (.invokevirtual 39, 3) := by decide +kernel
theorem dX6_addParameter_152 : decode cX6_addParameter 152 = .ok (.iinc 4 1, 3) := by decide +kernel
theorem dX6_addParameter_155 : decode cX6_addParameter 155 = .ok (.goto (-25), 3) := by decide +kernel
theorem dX6_addParameter_158 : decode cX6_addParameter 158 = .ok (.aload_n 0, 1) := by decide +kernel
theorem dX6_addParameter_159 : decode cX6_addParameter 159 = .ok (.getfield 7, 3) := by decide +kernel
theorem dX6_addParameter_162 : decode cX6_addParameter 162 = .ok (.iconst 2, 1) := by decide +kernel
theorem dX6_addParameter_163 : decode cX6_addParameter 163 = .ok (.dup2, 1) := by decide +kernel
theorem dX6_addParameter_164 : decode cX6_addParameter 164 = .ok (.iaload, 1) := by decide +kernel
theorem dX6_addParameter_165 : decode cX6_addParameter 165 = .ok (.iconst 1, 1) := by decide +kernel
theorem dX6_addParameter_166 : decode cX6_addParameter 166 = .ok (.iadd, 1) := by decide +kernel
theorem dX6_addParameter_167 : decode cX6_addParameter 167 = .ok (.iastore, 1) := by decide +kernel
theorem dX6_addParameter_168 : decode cX6_addParameter 168 = .ok (.aload_n 0, 1) := by decide +kernel
theorem dX6_addParameter_169 : decode cX6_addParameter 169 = .ok (.invokevirtual 36, 3) := by decide +kernel
theorem dX6_addParameter_172 : decode cX6_addParameter 172 = .ok (.iload_n 3, 1) := by decide +kernel
theorem dX6_addParameter_173 : decode cX6_addParameter 173 = .ok (.ireturn, 1) := by decide +kernel
theorem dX6_samplesOf_0 : decode cX6_samplesOf 0 = .ok (.aload_n 0, 1) := by decide +kernel
theorem dX6_samplesOf_1 : decode cX6_samplesOf 1 = .ok (.iload_n 1, 1) := by decide +kernel
theorem dX6_samplesOf_2 : decode cX6_samplesOf 2 = .ok (.iconst 0, 1) := by decide +kernel
theorem dX6_samplesOf_3 : decode cX6_samplesOf 3 = .ok (.invokevirtual 43, 3) := by decide +kernel
theorem dX6_samplesOf_6 : decode cX6_samplesOf 6 = .ok (.istore_n 2, 1) := by decide +kernel
theorem dX6_samplesOf_7 : decode cX6_samplesOf 7 = .ok (.iload_n 2, 1) := by decide +kernel
theorem dX6_samplesOf_8 : decode cX6_samplesOf 8 = .ok (.ifCond .le 14, 3) := by decide +kernel
theorem dX6_samplesOf_11 : decode cX6_samplesOf 11 = .ok (.iload_n 2, 1) := by decide +kernel
theorem dX6_samplesOf_12 : decode cX6_samplesOf 12 = .ok (.aload_n 0, 1) := by decide +kernel
theorem dX6_samplesOf_13 : decode cX6_samplesOf 13 = .ok (.getfield 7, 3) := by decide +kernel
theorem dX6_samplesOf_16 : decode cX6_samplesOf 16 = .ok (.iconst 1, 1) := by decide +kernel
theorem dX6_samplesOf_17 : decode cX6_samplesOf 17 = .ok (.iaload, 1) := by decide +kernel
theorem dX6_samplesOf_18 : decode cX6_samplesOf 18 = .ok (.imul, 1) := by decide +kernel
theorem dX6_samplesOf_19 : decode cX6_samplesOf 19 = .ok (.goto 12, 3) := by decide +kernel
theorem dX6_samplesOf_22 : decode cX6_samplesOf 22 = .ok (.aload_n 0, 1) := by decide +kernel
theorem dX6_samplesOf_23 : decode cX6_samplesOf 23 = .ok (.getfield 7, 3) := by decide +kernel
theorem dX6_samplesOf_26 : decode cX6_samplesOf 26 = .ok (.iconst 1, 1) := by decide +kernel
theorem dX6_samplesOf_27 : decode cX6_samplesOf 27 = .ok (.iaload, 1) := by decide +kernel
theorem dX6_samplesOf_28 : decode cX6_samplesOf 28 = .ok (.iload_n 2, 1) := by decide +kernel
theorem dX6_samplesOf_29 : decode cX6_samplesOf 29 = .ok (.ineg, 1) := by decide +kernel
theorem dX6_samplesOf_30 : decode cX6_samplesOf 30 = .ok (.idiv, 1) := by decide +kernel
theorem dX6_samplesOf_31 : decode cX6_samplesOf 31 = .ok (.ireturn, 1) := by decide +kernel
theorem dX6_isFree_0 : decode cX6_isFree 0 = .ok (.iconst 1, 1) := by decide +kernel
theorem dX6_isFree_1 : decode cX6_isFree 1 = .ok (.istore 4, 2) := by decide +kernel
theorem dX6_isFree_3 : decode cX6_isFree 3 = .ok (.iload_n 2, 1) := by decide +kernel
theorem dX6_isFree_4 : decode cX6_isFree 4 = .ok (.istore 5, 2) := by decide +kernel
theorem dX6_isFree_6 : decode cX6_isFree 6 = .ok (.iload 5, 2) := by decide +kernel
theorem dX6_isFree_8 : decode cX6_isFree 8 = .ok (.aload_n 0, 1) := by decide +kernel
theorem dX6_isFree_9 : decode cX6_isFree 9 = .ok (.getfield 7, 3) := by decide +kernel
theorem dX6_isFree_12 : decode cX6_isFree 12 = .ok (.iconst 1, 1) := by decide +kernel
theorem dX6_isFree_13 : decode cX6_isFree 13 = .ok (.iaload, 1) := by decide +kernel
theorem dX6_isFree_14 : decode cX6_isFree 14 = .ok (.if_icmp .ge 42, 3) := by decide +kernel
theorem dX6_isFree_17 : decode cX6_isFree 17 = .ok (.iload 4, 2) := by decide +kernel
theorem dX6_isFree_19 : decode cX6_isFree 19 = .ok (.ifCond .eq 25, 3) := by decide +kernel
theorem dX6_isFree_22 : decode cX6_isFree 22 = .ok (.aload_n 0, 1) := by decide +kernel
theorem dX6_isFree_23 : decode cX6_isFree 23 = .ok (.getfield 16, 3) := by decide +kernel
theorem dX6_isFree_26 : decode cX6_isFree 26 = .ok (.bipush 16, 2) := by decide +kernel
theorem dX6_isFree_28 : decode cX6_isFree 28 = .ok (.iload 5, 2) := by decide +kernel
theorem dX6_isFree_30 : decode cX6_isFree 30 = .ok (.imul, 1) := by decide +kernel
theorem dX6_isFree_31 : decode cX6_isFree 31 = .ok (.iconst 3, 1) := by decide +kernel
theorem dX6_isFree_32 : decode cX6_isFree 32 = .ok (.iadd, 1) := by decide +kernel
theorem dX6_isFree_33 : decode cX6_isFree 33 = .ok (.iload_n 1, 1) := by decide +kernel
theorem dX6_isFree_34 : decode cX6_isFree 34 = .ok (.iadd, 1) := by decide +kernel
theorem dX6_isFree_35 : decode cX6_isFree 35 = .ok (.iaload, 1) := by decide +kernel
theorem dX6_isFree_36 : decode cX6_isFree 36 = .ok (.iconst (-1), 1) := by decide +kernel
theorem dX6_isFree_37 : decode cX6_isFree 37 = .ok (.if_icmp .ne 7, 3) := by decide +kernel
theorem dX6_isFree_40 : decode cX6_isFree 40 = .ok (.iconst 1, 1) := by decide +kernel
theorem dX6_isFree_41 : decode cX6_isFree 41 = .ok (.goto 4, 3) := by decide +kernel
theorem dX6_isFree_44 : decode cX6_isFree 44 = .ok (.iconst 0, 1) := by decide +kernel
theorem dX6_isFree_45 : decode cX6_isFree 45 = .ok (.istore 4, 2) := by decide +kernel
theorem dX6_isFree_47 : decode cX6_isFree 47 = .ok (.iload 5, 2) := by decide +kernel
theorem dX6_isFree_49 : decode cX6_isFree 49 = .ok (.iload_n 3, 1) := by decide +kernel
theorem dX6_isFree_50 : decode cX6_isFree 50 = .ok (.iadd, 1) := by decide +kernel
theorem dX6_isFree_51 : decode cX6_isFree 51 = .ok (.istore 5, 2) := by decide +kernel
theorem dX6_isFree_53 : decode cX6_isFree 53 = .ok (.goto (-47), 3) := by decide +kernel
theorem dX6_isFree_56 : decode cX6_isFree 56 = .ok (.iload 4, 2) := by decide +kernel
theorem dX6_isFree_58 : decode cX6_isFree 58 = .ok (.ireturn, 1) := by decide +kernel
theorem dX6_takes_0 : decode cX6_takes 0 = .ok (.iload_n 3, 1) := by decide +kernel
theorem dX6_takes_1 : decode cX6_takes 1 = .ok (.istore 5, 2) := by decide +kernel
theorem dX6_takes_3 : decode cX6_takes 3 = .ok (.iload 5, 2) := by decide +kernel
theorem dX6_takes_5 : decode cX6_takes 5 = .ok (.aload_n 0, 1) := by decide +kernel
theorem dX6_takes_6 : decode cX6_takes 6 = .ok (.getfield 7, 3) := by decide +kernel
theorem dX6_takes_9 : decode cX6_takes 9 = .ok (.iconst 1, 1) := by decide +kernel
theorem dX6_takes_10 : decode cX6_takes 10 = .ok (.iaload, 1) := by decide +kernel
theorem dX6_takes_11 : decode cX6_takes 11 = .ok (.if_icmp .ge 28, 3) := by decide +kernel
theorem dX6_takes_14 : decode cX6_takes 14 = .ok (.aload_n 0, 1) := by decide +kernel
theorem dX6_takes_15 : decode cX6_takes 15 = .ok (.getfield 16, 3) := by decide +kernel
theorem dX6_takes_18 : decode cX6_takes 18 = .ok (.bipush 16, 2) := by decide +kernel
theorem dX6_takes_20 : decode cX6_takes 20 = .ok (.iload 5, 2) := by decide +kernel
theorem dX6_takes_22 : decode cX6_takes 22 = .ok (.imul, 1) := by decide +kernel
theorem dX6_takes_23 : decode cX6_takes 23 = .ok (.iconst 3, 1) := by decide +kernel
theorem dX6_takes_24 : decode cX6_takes 24 = .ok (.iadd, 1) := by decide +kernel
theorem dX6_takes_25 : decode cX6_takes 25 = .ok (.iload_n 2, 1) := by decide +kernel
theorem dX6_takes_26 : decode cX6_takes 26 = .ok (.iadd, 1) := by decide +kernel
theorem dX6_takes_27 : decode cX6_takes 27 = .ok (.iload_n 1, 1) := by decide +kernel
theorem dX6_takes_28 : decode cX6_takes 28 = .ok (.iastore, 1) := by decide +kernel
theorem dX6_takes_29 : decode cX6_takes 29 = .ok (.iload 5, 2) := by decide +kernel
theorem dX6_takes_31 : decode cX6_takes 31 = .ok (.iload 4, 2) := by decide +kernel
theorem dX6_takes_33 : decode cX6_takes 33 = .ok (.iadd, 1) := by decide +kernel
theorem dX6_takes_34 : decode cX6_takes 34 = .ok (.istore 5, 2) := by decide +kernel
theorem dX6_takes_36 : decode cX6_takes 36 = .ok (.goto (-33), 3) := by decide +kernel
theorem dX6_takes_39 : decode cX6_takes 39 = .ok (.return_, 1) := by decide +kernel
theorem dX6_placesMany_0 : decode cX6_placesMany 0 = .ok (.aload_n 0, 1) := by decide +kernel
theorem dX6_placesMany_1 : decode cX6_placesMany 1 = .ok (.getfield 7, 3) := by decide +kernel
theorem dX6_placesMany_4 : decode cX6_placesMany 4 = .ok (.iconst 0, 1) := by decide +kernel
theorem dX6_placesMany_5 : decode cX6_placesMany 5 = .ok (.iaload, 1) := by decide +kernel
theorem dX6_placesMany_6 : decode cX6_placesMany 6 = .ok (.iconst 3, 1) := by decide +kernel
theorem dX6_placesMany_7 : decode cX6_placesMany 7 = .ok (.isub, 1) := by decide +kernel
theorem dX6_placesMany_8 : decode cX6_placesMany 8 = .ok (.istore_n 3, 1) := by decide +kernel
theorem dX6_placesMany_9 : decode cX6_placesMany 9 = .ok (.iload_n 3, 1) := by decide +kernel
theorem dX6_placesMany_10 : decode cX6_placesMany 10 = .ok (.iload_n 2, 1) := by decide +kernel
theorem dX6_placesMany_11 : decode cX6_placesMany 11 = .ok (.idiv, 1) := by decide +kernel
theorem dX6_placesMany_12 : decode cX6_placesMany 12 = .ok (.istore 4, 2) := by decide +kernel
theorem dX6_placesMany_14 : decode cX6_placesMany 14 = .ok (.iconst 0, 1) := by decide +kernel
theorem dX6_placesMany_15 : decode cX6_placesMany 15 = .ok (.istore 5, 2) := by decide +kernel
theorem dX6_placesMany_17 : decode cX6_placesMany 17 = .ok (.iload 5, 2) := by decide +kernel
theorem dX6_placesMany_19 : decode cX6_placesMany 19 = .ok (.iload 4, 2) := by decide +kernel
theorem dX6_placesMany_21 : decode cX6_placesMany 21 = .ok (.if_icmp .ge 99, 3) := by decide +kernel
theorem dX6_placesMany_24 : decode cX6_placesMany 24 = .ok (.iload_n 3, 1) := by decide +kernel
theorem dX6_placesMany_25 : decode cX6_placesMany 25 = .ok (.iload_n 2, 1) := by decide +kernel
theorem dX6_placesMany_26 : decode cX6_placesMany 26 = .ok (.irem, 1) := by decide +kernel
theorem dX6_placesMany_27 : decode cX6_placesMany 27 = .ok (.ifCond .ne 93, 3) := by decide +kernel
theorem dX6_placesMany_30 : decode cX6_placesMany 30 = .ok (.iconst 1, 1) := by decide +kernel
theorem dX6_placesMany_31 : decode cX6_placesMany 31 = .ok (.istore 6, 2) := by decide +kernel
theorem dX6_placesMany_33 : decode cX6_placesMany 33 = .ok (.iconst 0, 1) := by decide +kernel
theorem dX6_placesMany_34 : decode cX6_placesMany 34 = .ok (.istore 7, 2) := by decide +kernel
theorem dX6_placesMany_36 : decode cX6_placesMany 36 = .ok (.iload 7, 2) := by decide +kernel
theorem dX6_placesMany_38 : decode cX6_placesMany 38 = .ok (.iload_n 2, 1) := by decide +kernel
theorem dX6_placesMany_39 : decode cX6_placesMany 39 = .ok (.if_icmp .ge 38, 3) := by decide +kernel
theorem dX6_placesMany_42 : decode cX6_placesMany 42 = .ok (.iload 6, 2) := by decide +kernel
theorem dX6_placesMany_44 : decode cX6_placesMany 44 = .ok (.ifCond .eq 24, 3) := by decide +kernel
theorem dX6_placesMany_47 : decode cX6_placesMany 47 = .ok (.aload_n 0, 1) := by decide +kernel
theorem dX6_placesMany_48 : decode cX6_placesMany 48 = .ok (.iload 5, 2) := by decide +kernel
theorem dX6_placesMany_50 : decode cX6_placesMany 50 = .ok (.iload 7, 2) := by decide +kernel
theorem dX6_placesMany_52 : decode cX6_placesMany 52 = .ok (.iload 4, 2) := by decide +kernel
theorem dX6_placesMany_54 : decode cX6_placesMany 54 = .ok (.imul, 1) := by decide +kernel
theorem dX6_placesMany_55 : decode cX6_placesMany 55 = .ok (.iadd, 1) := by decide +kernel
theorem dX6_placesMany_56 : decode cX6_placesMany 56 = .ok (.iconst 0, 1) := by decide +kernel
theorem dX6_placesMany_57 : decode cX6_placesMany 57 = .ok (.iconst 1, 1) := by decide +kernel
theorem dX6_placesMany_58 : decode cX6_placesMany 58 = .ok (.invokevirtual 47, 3) := by decide +kernel
theorem dX6_placesMany_61 : decode cX6_placesMany 61 = .ok (.ifCond .eq 7, 3) := by decide +kernel
theorem dX6_placesMany_64 : decode cX6_placesMany 64 = .ok (.iconst 1, 1) := by decide +kernel
theorem dX6_placesMany_65 : decode cX6_placesMany 65 = .ok (.goto 4, 3) := by decide +kernel
theorem dX6_placesMany_68 : decode cX6_placesMany 68 = .ok (.iconst 0, 1) := by decide +kernel
theorem dX6_placesMany_69 : decode cX6_placesMany 69 = .ok (.istore 6, 2) := by decide +kernel
theorem dX6_placesMany_71 : decode cX6_placesMany 71 = .ok (.iinc 7 1, 3) := by decide +kernel
theorem dX6_placesMany_74 : decode cX6_placesMany 74 = .ok (.goto (-38), 3) := by decide +kernel
theorem dX6_placesMany_77 : decode cX6_placesMany 77 = .ok (.iload 6, 2) := by decide +kernel
theorem dX6_placesMany_79 : decode cX6_placesMany 79 = .ok (.ifCond .eq 35, 3) := by decide +kernel
theorem dX6_placesMany_82 : decode cX6_placesMany 82 = .ok (.iconst 0, 1) := by decide +kernel
theorem dX6_placesMany_83 : decode cX6_placesMany 83 = .ok (.istore 7, 2) := by decide +kernel
theorem dX6_placesMany_85 : decode cX6_placesMany 85 = .ok (.iload 7, 2) := by decide +kernel
theorem dX6_placesMany_87 : decode cX6_placesMany 87 = .ok (.iload_n 2, 1) := by decide +kernel
theorem dX6_placesMany_88 : decode cX6_placesMany 88 = .ok (.if_icmp .ge 24, 3) := by decide +kernel
theorem dX6_placesMany_91 : decode cX6_placesMany 91 = .ok (.aload_n 0, 1) := by decide +kernel
theorem dX6_placesMany_92 : decode cX6_placesMany 92 = .ok (.iload_n 1, 1) := by decide +kernel
theorem dX6_placesMany_93 : decode cX6_placesMany 93 = .ok (.iload 5, 2) := by decide +kernel
theorem dX6_placesMany_95 : decode cX6_placesMany 95 = .ok (.iload 7, 2) := by decide +kernel
theorem dX6_placesMany_97 : decode cX6_placesMany 97 = .ok (.iload 4, 2) := by decide +kernel
theorem dX6_placesMany_99 : decode cX6_placesMany 99 = .ok (.imul, 1) := by decide +kernel
theorem dX6_placesMany_100 : decode cX6_placesMany 100 = .ok (.iadd, 1) := by decide +kernel
theorem dX6_placesMany_101 : decode cX6_placesMany 101 = .ok (.iconst 0, 1) := by decide +kernel
theorem dX6_placesMany_102 : decode cX6_placesMany 102 = .ok (.iconst 1, 1) := by decide +kernel
theorem dX6_placesMany_103 : decode cX6_placesMany 103 = .ok (.invokevirtual 50, 3) := by decide +kernel
theorem dX6_placesMany_106 : decode cX6_placesMany 106 = .ok (.iinc 7 1, 3) := by decide +kernel
theorem dX6_placesMany_109 : decode cX6_placesMany 109 = .ok (.goto (-24), 3) := by decide +kernel
theorem dX6_placesMany_112 : decode cX6_placesMany 112 = .ok (.iconst 1, 1) := by decide +kernel
theorem dX6_placesMany_113 : decode cX6_placesMany 113 = .ok (.ireturn, 1) := by decide +kernel
theorem dX6_placesMany_114 : decode cX6_placesMany 114 = .ok (.iinc 5 1, 3) := by decide +kernel
theorem dX6_placesMany_117 : decode cX6_placesMany 117 = .ok (.goto (-100), 3) := by decide +kernel
theorem dX6_placesMany_120 : decode cX6_placesMany 120 = .ok (.iconst 0, 1) := by decide +kernel
theorem dX6_placesMany_121 : decode cX6_placesMany 121 = .ok (.ireturn, 1) := by decide +kernel
theorem dX6_placesFew_0 : decode cX6_placesFew 0 = .ok (.aload_n 0, 1) := by decide +kernel
theorem dX6_placesFew_1 : decode cX6_placesFew 1 = .ok (.getfield 7, 3) := by decide +kernel
theorem dX6_placesFew_4 : decode cX6_placesFew 4 = .ok (.iconst 1, 1) := by decide +kernel
theorem dX6_placesFew_5 : decode cX6_placesFew 5 = .ok (.iaload, 1) := by decide +kernel
theorem dX6_placesFew_6 : decode cX6_placesFew 6 = .ok (.iload_n 2, 1) := by decide +kernel
theorem dX6_placesFew_7 : decode cX6_placesFew 7 = .ok (.if_icmp .ge 7, 3) := by decide +kernel
theorem dX6_placesFew_10 : decode cX6_placesFew 10 = .ok (.iconst 0, 1) := by decide +kernel
theorem dX6_placesFew_11 : decode cX6_placesFew 11 = .ok (.goto 13, 3) := by decide +kernel
theorem dX6_placesFew_14 : decode cX6_placesFew 14 = .ok (.aload_n 0, 1) := by decide +kernel
theorem dX6_placesFew_15 : decode cX6_placesFew 15 = .ok (.getfield 7, 3) := by decide +kernel
theorem dX6_placesFew_18 : decode cX6_placesFew 18 = .ok (.iconst 0, 1) := by decide +kernel
theorem dX6_placesFew_19 : decode cX6_placesFew 19 = .ok (.iaload, 1) := by decide +kernel
theorem dX6_placesFew_20 : decode cX6_placesFew 20 = .ok (.iconst 3, 1) := by decide +kernel
theorem dX6_placesFew_21 : decode cX6_placesFew 21 = .ok (.isub, 1) := by decide +kernel
theorem dX6_placesFew_22 : decode cX6_placesFew 22 = .ok (.iload_n 2, 1) := by decide +kernel
theorem dX6_placesFew_23 : decode cX6_placesFew 23 = .ok (.imul, 1) := by decide +kernel
theorem dX6_placesFew_24 : decode cX6_placesFew 24 = .ok (.istore_n 3, 1) := by decide +kernel
theorem dX6_placesFew_25 : decode cX6_placesFew 25 = .ok (.iconst 0, 1) := by decide +kernel
theorem dX6_placesFew_26 : decode cX6_placesFew 26 = .ok (.istore 4, 2) := by decide +kernel
theorem dX6_placesFew_28 : decode cX6_placesFew 28 = .ok (.iload 4, 2) := by decide +kernel
theorem dX6_placesFew_30 : decode cX6_placesFew 30 = .ok (.iload_n 3, 1) := by decide +kernel
theorem dX6_placesFew_31 : decode cX6_placesFew 31 = .ok (.if_icmp .ge 41, 3) := by decide +kernel
theorem dX6_placesFew_34 : decode cX6_placesFew 34 = .ok (.aload_n 0, 1) := by decide +kernel
theorem dX6_placesFew_35 : decode cX6_placesFew 35 = .ok (.iload 4, 2) := by decide +kernel
theorem dX6_placesFew_37 : decode cX6_placesFew 37 = .ok (.iload_n 2, 1) := by decide +kernel
theorem dX6_placesFew_38 : decode cX6_placesFew 38 = .ok (.idiv, 1) := by decide +kernel
theorem dX6_placesFew_39 : decode cX6_placesFew 39 = .ok (.iload 4, 2) := by decide +kernel
theorem dX6_placesFew_41 : decode cX6_placesFew 41 = .ok (.iload_n 2, 1) := by decide +kernel
theorem dX6_placesFew_42 : decode cX6_placesFew 42 = .ok (.irem, 1) := by decide +kernel
theorem dX6_placesFew_43 : decode cX6_placesFew 43 = .ok (.iload_n 2, 1) := by decide +kernel
theorem dX6_placesFew_44 : decode cX6_placesFew 44 = .ok (.invokevirtual 47, 3) := by decide +kernel
theorem dX6_placesFew_47 : decode cX6_placesFew 47 = .ok (.ifCond .eq 19, 3) := by decide +kernel
theorem dX6_placesFew_50 : decode cX6_placesFew 50 = .ok (.aload_n 0, 1) := by decide +kernel
theorem dX6_placesFew_51 : decode cX6_placesFew 51 = .ok (.iload_n 1, 1) := by decide +kernel
theorem dX6_placesFew_52 : decode cX6_placesFew 52 = .ok (.iload 4, 2) := by decide +kernel
theorem dX6_placesFew_54 : decode cX6_placesFew 54 = .ok (.iload_n 2, 1) := by decide +kernel
theorem dX6_placesFew_55 : decode cX6_placesFew 55 = .ok (.idiv, 1) := by decide +kernel
theorem dX6_placesFew_56 : decode cX6_placesFew 56 = .ok (.iload 4, 2) := by decide +kernel
theorem dX6_placesFew_58 : decode cX6_placesFew 58 = .ok (.iload_n 2, 1) := by decide +kernel
theorem dX6_placesFew_59 : decode cX6_placesFew 59 = .ok (.irem, 1) := by decide +kernel
theorem dX6_placesFew_60 : decode cX6_placesFew 60 = .ok (.iload_n 2, 1) := by decide +kernel
theorem dX6_placesFew_61 : decode cX6_placesFew 61 = .ok (.invokevirtual 50, 3) := by decide +kernel
theorem dX6_placesFew_64 : decode cX6_placesFew 64 = .ok (.iconst 1, 1) := by decide +kernel
theorem dX6_placesFew_65 : decode cX6_placesFew 65 = .ok (.ireturn, 1) := by decide +kernel
theorem dX6_placesFew_66 : decode cX6_placesFew 66 = .ok (.iinc 4 1, 3) := by decide +kernel
theorem dX6_placesFew_69 : decode cX6_placesFew 69 = .ok (.goto (-41), 3) := by decide +kernel
theorem dX6_placesFew_72 : decode cX6_placesFew 72 = .ok (.iconst 0, 1) := by decide +kernel
theorem dX6_placesFew_73 : decode cX6_placesFew 73 = .ok (.ireturn, 1) := by decide +kernel
theorem dX6_placedAt_0 : decode cX6_placedAt 0 = .ok (.iconst 0, 1) := by decide +kernel
theorem dX6_placedAt_1 : decode cX6_placedAt 1 = .ok (.istore_n 2, 1) := by decide +kernel
theorem dX6_placedAt_2 : decode cX6_placedAt 2 = .ok (.iload_n 2, 1) := by decide +kernel
theorem dX6_placedAt_3 : decode cX6_placedAt 3 = .ok (.aload_n 0, 1) := by decide +kernel
theorem dX6_placedAt_4 : decode cX6_placedAt 4 = .ok (.getfield 7, 3) := by decide +kernel
theorem dX6_placedAt_7 : decode cX6_placedAt 7 = .ok (.iconst 2, 1) := by decide +kernel
theorem dX6_placedAt_8 : decode cX6_placedAt 8 = .ok (.iaload, 1) := by decide +kernel
theorem dX6_placedAt_9 : decode cX6_placedAt 9 = .ok (.if_icmp .ge 76, 3) := by decide +kernel
theorem dX6_placedAt_12 : decode cX6_placedAt 12 = .ok (.iconst 0, 1) := by decide +kernel
theorem dX6_placedAt_13 : decode cX6_placedAt 13 = .ok (.istore_n 3, 1) := by decide +kernel
theorem dX6_placedAt_14 : decode cX6_placedAt 14 = .ok (.iconst 0, 1) := by decide +kernel
theorem dX6_placedAt_15 : decode cX6_placedAt 15 = .ok (.istore 4, 2) := by decide +kernel
theorem dX6_placedAt_17 : decode cX6_placedAt 17 = .ok (.iload 4, 2) := by decide +kernel
theorem dX6_placedAt_19 : decode cX6_placedAt 19 = .ok (.aload_n 0, 1) := by decide +kernel
theorem dX6_placedAt_20 : decode cX6_placedAt 20 = .ok (.getfield 7, 3) := by decide +kernel
theorem dX6_placedAt_23 : decode cX6_placedAt 23 = .ok (.iconst 2, 1) := by decide +kernel
theorem dX6_placedAt_24 : decode cX6_placedAt 24 = .ok (.iaload, 1) := by decide +kernel
theorem dX6_placedAt_25 : decode cX6_placedAt 25 = .ok (.if_icmp .ge 47, 3) := by decide +kernel
theorem dX6_placedAt_28 : decode cX6_placedAt 28 = .ok (.aload_n 0, 1) := by decide +kernel
theorem dX6_placedAt_29 : decode cX6_placedAt 29 = .ok (.iload 4, 2) := by decide +kernel
theorem dX6_placedAt_31 : decode cX6_placedAt 31 = .ok (.invokevirtual 54, 3) := by decide +kernel
theorem dX6_placedAt_34 : decode cX6_placedAt 34 = .ok (.aload_n 0, 1) := by decide +kernel
theorem dX6_placedAt_35 : decode cX6_placedAt 35 = .ok (.iload_n 2, 1) := by decide +kernel
theorem dX6_placedAt_36 : decode cX6_placedAt 36 = .ok (.invokevirtual 54, 3) := by decide +kernel
theorem dX6_placedAt_39 : decode cX6_placedAt 39 = .ok (.isub, 1) := by decide +kernel
theorem dX6_placedAt_40 : decode cX6_placedAt 40 = .ok (.istore 5, 2) := by decide +kernel
theorem dX6_placedAt_42 : decode cX6_placedAt 42 = .ok (.iload_n 3, 1) := by decide +kernel
theorem dX6_placedAt_43 : decode cX6_placedAt 43 = .ok (.iload 5, 2) := by decide +kernel
theorem dX6_placedAt_45 : decode cX6_placedAt 45 = .ok (.ifCond .gt 14, 3) := by decide +kernel
theorem dX6_placedAt_48 : decode cX6_placedAt 48 = .ok (.iload 5, 2) := by decide +kernel
theorem dX6_placedAt_50 : decode cX6_placedAt 50 = .ok (.ifCond .ne 13, 3) := by decide +kernel
theorem dX6_placedAt_53 : decode cX6_placedAt 53 = .ok (.iload 4, 2) := by decide +kernel
theorem dX6_placedAt_55 : decode cX6_placedAt 55 = .ok (.iload_n 2, 1) := by decide +kernel
theorem dX6_placedAt_56 : decode cX6_placedAt 56 = .ok (.if_icmp .ge 7, 3) := by decide +kernel
theorem dX6_placedAt_59 : decode cX6_placedAt 59 = .ok (.iconst 1, 1) := by decide +kernel
theorem dX6_placedAt_60 : decode cX6_placedAt 60 = .ok (.goto 4, 3) := by decide +kernel
theorem dX6_placedAt_63 : decode cX6_placedAt 63 = .ok (.iconst 0, 1) := by decide +kernel
theorem dX6_placedAt_64 : decode cX6_placedAt 64 = .ok (.iadd, 1) := by decide +kernel
theorem dX6_placedAt_65 : decode cX6_placedAt 65 = .ok (.istore_n 3, 1) := by decide +kernel
theorem dX6_placedAt_66 : decode cX6_placedAt 66 = .ok (.iinc 4 1, 3) := by decide +kernel
theorem dX6_placedAt_69 : decode cX6_placedAt 69 = .ok (.goto (-52), 3) := by decide +kernel
theorem dX6_placedAt_72 : decode cX6_placedAt 72 = .ok (.iload_n 3, 1) := by decide +kernel
theorem dX6_placedAt_73 : decode cX6_placedAt 73 = .ok (.iload_n 1, 1) := by decide +kernel
theorem dX6_placedAt_74 : decode cX6_placedAt 74 = .ok (.if_icmp .ne 5, 3) := by decide +kernel
theorem dX6_placedAt_77 : decode cX6_placedAt 77 = .ok (.iload_n 2, 1) := by decide +kernel
theorem dX6_placedAt_78 : decode cX6_placedAt 78 = .ok (.ireturn, 1) := by decide +kernel
theorem dX6_placedAt_79 : decode cX6_placedAt 79 = .ok (.iinc 2 1, 3) := by decide +kernel
theorem dX6_placedAt_82 : decode cX6_placedAt 82 = .ok (.goto (-80), 3) := by decide +kernel
theorem dX6_placedAt_85 : decode cX6_placedAt 85 = .ok (.iconst (-1), 1) := by decide +kernel
theorem dX6_placedAt_86 : decode cX6_placedAt 86 = .ok (.ireturn, 1) := by decide +kernel
theorem dX6_draws_0 : decode cX6_draws 0 = .ok (.iconst 0, 1) := by decide +kernel
theorem dX6_draws_1 : decode cX6_draws 1 = .ok (.istore_n 1, 1) := by decide +kernel
theorem dX6_draws_2 : decode cX6_draws 2 = .ok (.iload_n 1, 1) := by decide +kernel
theorem dX6_draws_3 : decode cX6_draws 3 = .ok (.sipush 128, 3) := by decide +kernel
theorem dX6_draws_6 : decode cX6_draws 6 = .ok (.if_icmp .ge 16, 3) := by decide +kernel
theorem dX6_draws_9 : decode cX6_draws 9 = .ok (.aload_n 0, 1) := by decide +kernel
theorem dX6_draws_10 : decode cX6_draws 10 = .ok (.getfield 16, 3) := by decide +kernel
theorem dX6_draws_13 : decode cX6_draws 13 = .ok (.iload_n 1, 1) := by decide +kernel
theorem dX6_draws_14 : decode cX6_draws 14 = .ok (.iconst (-1), 1) := by decide +kernel
theorem dX6_draws_15 : decode cX6_draws 15 = .ok (.iastore, 1) := by decide +kernel
theorem dX6_draws_16 : decode cX6_draws 16 = .ok (.iinc 1 1, 3) := by decide +kernel
theorem dX6_draws_19 : decode cX6_draws 19 = .ok (.goto (-17), 3) := by decide +kernel
theorem dX6_draws_22 : decode cX6_draws 22 = .ok (.iconst 0, 1) := by decide +kernel
theorem dX6_draws_23 : decode cX6_draws 23 = .ok (.istore_n 1, 1) := by decide +kernel
theorem dX6_draws_24 : decode cX6_draws 24 = .ok (.iload_n 1, 1) := by decide +kernel
theorem dX6_draws_25 : decode cX6_draws 25 = .ok (.aload_n 0, 1) := by decide +kernel
theorem dX6_draws_26 : decode cX6_draws 26 = .ok (.getfield 7, 3) := by decide +kernel
theorem dX6_draws_29 : decode cX6_draws 29 = .ok (.iconst 2, 1) := by decide +kernel
theorem dX6_draws_30 : decode cX6_draws 30 = .ok (.iaload, 1) := by decide +kernel
theorem dX6_draws_31 : decode cX6_draws 31 = .ok (.if_icmp .ge 51, 3) := by decide +kernel
theorem dX6_draws_34 : decode cX6_draws 34 = .ok (.aload_n 0, 1) := by decide +kernel
theorem dX6_draws_35 : decode cX6_draws 35 = .ok (.iload_n 1, 1) := by decide +kernel
theorem dX6_draws_36 : decode cX6_draws 36 = .ok (.invokevirtual 58, 3) := by decide +kernel
theorem dX6_draws_39 : decode cX6_draws 39 = .ok (.istore_n 2, 1) := by decide +kernel
theorem dX6_draws_40 : decode cX6_draws 40 = .ok (.aload_n 0, 1) := by decide +kernel
theorem dX6_draws_41 : decode cX6_draws 41 = .ok (.iload_n 2, 1) := by decide +kernel
theorem dX6_draws_42 : decode cX6_draws 42 = .ok (.iconst 0, 1) := by decide +kernel
theorem dX6_draws_43 : decode cX6_draws 43 = .ok (.invokevirtual 43, 3) := by decide +kernel
theorem dX6_draws_46 : decode cX6_draws 46 = .ok (.istore_n 3, 1) := by decide +kernel
theorem dX6_draws_47 : decode cX6_draws 47 = .ok (.iload_n 3, 1) := by decide +kernel
theorem dX6_draws_48 : decode cX6_draws 48 = .ok (.ifCond .le 12, 3) := by decide +kernel
theorem dX6_draws_51 : decode cX6_draws 51 = .ok (.aload_n 0, 1) := by decide +kernel
theorem dX6_draws_52 : decode cX6_draws 52 = .ok (.iload_n 2, 1) := by decide +kernel
theorem dX6_draws_53 : decode cX6_draws 53 = .ok (.iload_n 3, 1) := by decide +kernel
theorem dX6_draws_54 : decode cX6_draws 54 = .ok (.invokevirtual 61, 3) := by decide +kernel
theorem dX6_draws_57 : decode cX6_draws 57 = .ok (.goto 10, 3) := by decide +kernel
theorem dX6_draws_60 : decode cX6_draws 60 = .ok (.aload_n 0, 1) := by decide +kernel
theorem dX6_draws_61 : decode cX6_draws 61 = .ok (.iload_n 2, 1) := by decide +kernel
theorem dX6_draws_62 : decode cX6_draws 62 = .ok (.iload_n 3, 1) := by decide +kernel
theorem dX6_draws_63 : decode cX6_draws 63 = .ok (.ineg, 1) := by decide +kernel
theorem dX6_draws_64 : decode cX6_draws 64 = .ok (.invokevirtual 65, 3) := by decide +kernel
theorem dX6_draws_67 : decode cX6_draws 67 = .ok (.istore 4, 2) := by decide +kernel
theorem dX6_draws_69 : decode cX6_draws 69 = .ok (.iload 4, 2) := by decide +kernel
theorem dX6_draws_71 : decode cX6_draws 71 = .ok (.ifCond .ne 5, 3) := by decide +kernel
theorem dX6_draws_74 : decode cX6_draws 74 = .ok (.iload_n 2, 1) := by decide +kernel
theorem dX6_draws_75 : decode cX6_draws 75 = .ok (.ireturn, 1) := by decide +kernel
theorem dX6_draws_76 : decode cX6_draws 76 = .ok (.iinc 1 1, 3) := by decide +kernel
theorem dX6_draws_79 : decode cX6_draws 79 = .ok (.goto (-55), 3) := by decide +kernel
theorem dX6_draws_82 : decode cX6_draws 82 = .ok (.iconst (-1), 1) := by decide +kernel
theorem dX6_draws_83 : decode cX6_draws 83 = .ok (.ireturn, 1) := by decide +kernel
theorem dX6_ownerAt_0 : decode cX6_ownerAt 0 = .ok (.aload_n 0, 1) := by decide +kernel
theorem dX6_ownerAt_1 : decode cX6_ownerAt 1 = .ok (.getfield 7, 3) := by decide +kernel
theorem dX6_ownerAt_4 : decode cX6_ownerAt 4 = .ok (.sipush 201, 3) := by decide +kernel
theorem dX6_ownerAt_7 : decode cX6_ownerAt 7 = .ok (.bipush 16, 2) := by decide +kernel
theorem dX6_ownerAt_9 : decode cX6_ownerAt 9 = .ok (.iload_n 1, 1) := by decide +kernel
theorem dX6_ownerAt_10 : decode cX6_ownerAt 10 = .ok (.imul, 1) := by decide +kernel
theorem dX6_ownerAt_11 : decode cX6_ownerAt 11 = .ok (.iadd, 1) := by decide +kernel
theorem dX6_ownerAt_12 : decode cX6_ownerAt 12 = .ok (.iload_n 2, 1) := by decide +kernel
theorem dX6_ownerAt_13 : decode cX6_ownerAt 13 = .ok (.iadd, 1) := by decide +kernel
theorem dX6_ownerAt_14 : decode cX6_ownerAt 14 = .ok (.iaload, 1) := by decide +kernel
theorem dX6_ownerAt_15 : decode cX6_ownerAt 15 = .ok (.ireturn, 1) := by decide +kernel
theorem dX6_takenWords_0 : decode cX6_takenWords 0 = .ok (.iconst 0, 1) := by decide +kernel
theorem dX6_takenWords_1 : decode cX6_takenWords 1 = .ok (.istore_n 1, 1) := by decide +kernel
theorem dX6_takenWords_2 : decode cX6_takenWords 2 = .ok (.iconst 0, 1) := by decide +kernel
theorem dX6_takenWords_3 : decode cX6_takenWords 3 = .ok (.istore_n 2, 1) := by decide +kernel
theorem dX6_takenWords_4 : decode cX6_takenWords 4 = .ok (.iload_n 2, 1) := by decide +kernel
theorem dX6_takenWords_5 : decode cX6_takenWords 5 = .ok (.bipush 16, 2) := by decide +kernel
theorem dX6_takenWords_7 : decode cX6_takenWords 7 = .ok (.aload_n 0, 1) := by decide +kernel
theorem dX6_takenWords_8 : decode cX6_takenWords 8 = .ok (.getfield 7, 3) := by decide +kernel
theorem dX6_takenWords_11 : decode cX6_takenWords 11 = .ok (.iconst 1, 1) := by decide +kernel
theorem dX6_takenWords_12 : decode cX6_takenWords 12 = .ok (.iaload, 1) := by decide +kernel
theorem dX6_takenWords_13 : decode cX6_takenWords 13 = .ok (.imul, 1) := by decide +kernel
theorem dX6_takenWords_14 : decode cX6_takenWords 14 = .ok (.if_icmp .ge 44, 3) := by decide +kernel
theorem dX6_takenWords_17 : decode cX6_takenWords 17 = .ok (.iload_n 1, 1) := by decide +kernel
theorem dX6_takenWords_18 : decode cX6_takenWords 18 = .ok (.iload_n 2, 1) := by decide +kernel
theorem dX6_takenWords_19 : decode cX6_takenWords 19 = .ok (.bipush 16, 2) := by decide +kernel
theorem dX6_takenWords_21 : decode cX6_takenWords 21 = .ok (.irem, 1) := by decide +kernel
theorem dX6_takenWords_22 : decode cX6_takenWords 22 = .ok (.aload_n 0, 1) := by decide +kernel
theorem dX6_takenWords_23 : decode cX6_takenWords 23 = .ok (.getfield 7, 3) := by decide +kernel
theorem dX6_takenWords_26 : decode cX6_takenWords 26 = .ok (.iconst 0, 1) := by decide +kernel
theorem dX6_takenWords_27 : decode cX6_takenWords 27 = .ok (.iaload, 1) := by decide +kernel
theorem dX6_takenWords_28 : decode cX6_takenWords 28 = .ok (.if_icmp .ge 21, 3) := by decide +kernel
theorem dX6_takenWords_31 : decode cX6_takenWords 31 = .ok (.aload_n 0, 1) := by decide +kernel
theorem dX6_takenWords_32 : decode cX6_takenWords 32 = .ok (.getfield 7, 3) := by decide +kernel
theorem dX6_takenWords_35 : decode cX6_takenWords 35 = .ok (.sipush 201, 3) := by decide +kernel
theorem dX6_takenWords_38 : decode cX6_takenWords 38 = .ok (.iload_n 2, 1) := by decide +kernel
theorem dX6_takenWords_39 : decode cX6_takenWords 39 = .ok (.iadd, 1) := by decide +kernel
theorem dX6_takenWords_40 : decode cX6_takenWords 40 = .ok (.iaload, 1) := by decide +kernel
theorem dX6_takenWords_41 : decode cX6_takenWords 41 = .ok (.iconst (-1), 1) := by decide +kernel
theorem dX6_takenWords_42 : decode cX6_takenWords 42 = .ok (.if_icmp .eq 7, 3) := by decide +kernel
theorem dX6_takenWords_45 : decode cX6_takenWords 45 = .ok (.iconst 1, 1) := by decide +kernel
theorem dX6_takenWords_46 : decode cX6_takenWords 46 = .ok (.goto 4, 3) := by decide +kernel
theorem dX6_takenWords_49 : decode cX6_takenWords 49 = .ok (.iconst 0, 1) := by decide +kernel
theorem dX6_takenWords_50 : decode cX6_takenWords 50 = .ok (.iadd, 1) := by decide +kernel
theorem dX6_takenWords_51 : decode cX6_takenWords 51 = .ok (.istore_n 1, 1) := by decide +kernel
theorem dX6_takenWords_52 : decode cX6_takenWords 52 = .ok (.iinc 2 1, 3) := by decide +kernel
theorem dX6_takenWords_55 : decode cX6_takenWords 55 = .ok (.goto (-51), 3) := by decide +kernel
theorem dX6_takenWords_58 : decode cX6_takenWords 58 = .ok (.iload_n 1, 1) := by decide +kernel
theorem dX6_takenWords_59 : decode cX6_takenWords 59 = .ok (.ireturn, 1) := by decide +kernel
theorem dX6_plan_0 : decode cX6_plan 0 = .ok (.aload_n 0, 1) := by decide +kernel
theorem dX6_plan_1 : decode cX6_plan 1 = .ok (.iconst 0, 1) := by decide +kernel
theorem dX6_plan_2 : decode cX6_plan 2 = .ok (.putfield 19, 3) := by decide +kernel
theorem dX6_plan_5 : decode cX6_plan 5 = .ok (.aload_n 0, 1) := by decide +kernel
theorem dX6_plan_6 : decode cX6_plan 6 = .ok (.invokevirtual 68, 3) := by decide +kernel
theorem dX6_plan_9 : decode cX6_plan 9 = .ok (.istore_n 1, 1) := by decide +kernel
theorem dX6_plan_10 : decode cX6_plan 10 = .ok (.iload_n 1, 1) := by decide +kernel
theorem dX6_plan_11 : decode cX6_plan 11 = .ok (.iconst (-1), 1) := by decide +kernel
theorem dX6_plan_12 : decode cX6_plan 12 = .ok (.if_icmp .eq 8, 3) := by decide +kernel
theorem dX6_plan_15 : decode cX6_plan 15 = .ok (.bipush (-10), 2) := by decide +kernel
theorem dX6_plan_17 : decode cX6_plan 17 = .ok (.iload_n 1, 1) := by decide +kernel
theorem dX6_plan_18 : decode cX6_plan 18 = .ok (.isub, 1) := by decide +kernel
theorem dX6_plan_19 : decode cX6_plan 19 = .ok (.ireturn, 1) := by decide +kernel
theorem dX6_plan_20 : decode cX6_plan 20 = .ok (.aload_n 0, 1) := by decide +kernel
theorem dX6_plan_21 : decode cX6_plan 21 = .ok (.invokevirtual 33, 3) := by decide +kernel
theorem dX6_plan_24 : decode cX6_plan 24 = .ok (.aload_n 0, 1) := by decide +kernel
theorem dX6_plan_25 : decode cX6_plan 25 = .ok (.getfield 7, 3) := by decide +kernel
theorem dX6_plan_28 : decode cX6_plan 28 = .ok (.iconst 3, 1) := by decide +kernel
theorem dX6_plan_29 : decode cX6_plan 29 = .ok (.iconst 1, 1) := by decide +kernel
theorem dX6_plan_30 : decode cX6_plan 30 = .ok (.iastore, 1) := by decide +kernel
theorem dX6_plan_31 : decode cX6_plan 31 = .ok (.iconst 0, 1) := by decide +kernel
theorem dX6_plan_32 : decode cX6_plan 32 = .ok (.istore_n 2, 1) := by decide +kernel
theorem dX6_plan_33 : decode cX6_plan 33 = .ok (.iload_n 2, 1) := by decide +kernel
theorem dX6_plan_34 : decode cX6_plan 34 = .ok (.sipush 128, 3) := by decide +kernel
theorem dX6_plan_37 : decode cX6_plan 37 = .ok (.if_icmp .ge 25, 3) := by decide +kernel
theorem dX6_plan_40 : decode cX6_plan 40 = .ok (.aload_n 0, 1) := by decide +kernel
theorem dX6_plan_41 : decode cX6_plan 41 = .ok (.getfield 7, 3) := by decide +kernel
theorem dX6_plan_44 : decode cX6_plan 44 = .ok (.sipush 201, 3) := by decide +kernel
theorem dX6_plan_47 : decode cX6_plan 47 = .ok (.iload_n 2, 1) := by decide +kernel
theorem dX6_plan_48 : decode cX6_plan 48 = .ok (.iadd, 1) := by decide +kernel
theorem dX6_plan_49 : decode cX6_plan 49 = .ok (.aload_n 0, 1) := by decide +kernel
theorem dX6_plan_50 : decode cX6_plan 50 = .ok (.getfield 16, 3) := by decide +kernel
theorem dX6_plan_53 : decode cX6_plan 53 = .ok (.iload_n 2, 1) := by decide +kernel
theorem dX6_plan_54 : decode cX6_plan 54 = .ok (.iaload, 1) := by decide +kernel
theorem dX6_plan_55 : decode cX6_plan 55 = .ok (.iastore, 1) := by decide +kernel
theorem dX6_plan_56 : decode cX6_plan 56 = .ok (.iinc 2 1, 3) := by decide +kernel
theorem dX6_plan_59 : decode cX6_plan 59 = .ok (.goto (-26), 3) := by decide +kernel
theorem dX6_plan_62 : decode cX6_plan 62 = .ok (.aload_n 0, 1) := by decide +kernel
theorem dX6_plan_63 : decode cX6_plan 63 = .ok (.invokevirtual 72, 3) := by decide +kernel
theorem dX6_plan_66 : decode cX6_plan 66 = .ok (.ireturn, 1) := by decide +kernel
theorem dX6_samplesPerMajor_0 : decode cX6_samplesPerMajor 0 = .ok (.aload_n 0, 1) := by decide +kernel
theorem dX6_samplesPerMajor_1 : decode cX6_samplesPerMajor 1 = .ok (.aload_n 0, 1) := by decide +kernel
theorem dX6_samplesPerMajor_2 : decode cX6_samplesPerMajor 2 = .ok (.iload_n 1, 1) := by decide +kernel
theorem dX6_samplesPerMajor_3 : decode cX6_samplesPerMajor 3 = .ok (.invokevirtual 75, 3) := by decide +kernel
theorem dX6_samplesPerMajor_6 : decode cX6_samplesPerMajor 6 = .ok (.ifCond .eq 7, 3) := by decide +kernel
theorem dX6_samplesPerMajor_9 : decode cX6_samplesPerMajor 9 = .ok (.iconst 0, 1) := by decide +kernel
theorem dX6_samplesPerMajor_10 : decode cX6_samplesPerMajor 10 = .ok (.goto 4, 3) := by decide +kernel
theorem dX6_samplesPerMajor_13 : decode cX6_samplesPerMajor 13 = .ok (.iconst 1, 1) := by decide +kernel
theorem dX6_samplesPerMajor_14 : decode cX6_samplesPerMajor 14 = .ok (.putfield 19, 3) := by decide +kernel
theorem dX6_samplesPerMajor_17 : decode cX6_samplesPerMajor 17 = .ok (.aload_n 0, 1) := by decide +kernel
theorem dX6_samplesPerMajor_18 : decode cX6_samplesPerMajor 18 = .ok (.getfield 19, 3) := by decide +kernel
theorem dX6_samplesPerMajor_21 : decode cX6_samplesPerMajor 21 = .ok (.ifCond .eq 7, 3) := by decide +kernel
theorem dX6_samplesPerMajor_24 : decode cX6_samplesPerMajor 24 = .ok (.iconst 0, 1) := by decide +kernel
theorem dX6_samplesPerMajor_25 : decode cX6_samplesPerMajor 25 = .ok (.goto 8, 3) := by decide +kernel
theorem dX6_samplesPerMajor_28 : decode cX6_samplesPerMajor 28 = .ok (.aload_n 0, 1) := by decide +kernel
theorem dX6_samplesPerMajor_29 : decode cX6_samplesPerMajor 29 = .ok (.iload_n 1, 1) := by decide +kernel
theorem dX6_samplesPerMajor_30 : decode cX6_samplesPerMajor 30 = .ok (.invokevirtual 54, 3) := by decide +kernel
theorem dX6_samplesPerMajor_33 : decode cX6_samplesPerMajor 33 = .ok (.ireturn, 1) := by decide +kernel
theorem dX6_slotOf_0 : decode cX6_slotOf 0 = .ok (.iload_n 2, 1) := by decide +kernel
theorem dX6_slotOf_1 : decode cX6_slotOf 1 = .ok (.istore_n 3, 1) := by decide +kernel
theorem dX6_slotOf_2 : decode cX6_slotOf 2 = .ok (.iconst 0, 1) := by decide +kernel
theorem dX6_slotOf_3 : decode cX6_slotOf 3 = .ok (.istore 4, 2) := by decide +kernel
theorem dX6_slotOf_5 : decode cX6_slotOf 5 = .ok (.iload 4, 2) := by decide +kernel
theorem dX6_slotOf_7 : decode cX6_slotOf 7 = .ok (.bipush 16, 2) := by decide +kernel
theorem dX6_slotOf_9 : decode cX6_slotOf 9 = .ok (.aload_n 0, 1) := by decide +kernel
theorem dX6_slotOf_10 : decode cX6_slotOf 10 = .ok (.getfield 7, 3) := by decide +kernel
theorem dX6_slotOf_13 : decode cX6_slotOf 13 = .ok (.iconst 1, 1) := by decide +kernel
theorem dX6_slotOf_14 : decode cX6_slotOf 14 = .ok (.iaload, 1) := by decide +kernel
theorem dX6_slotOf_15 : decode cX6_slotOf 15 = .ok (.imul, 1) := by decide +kernel
theorem dX6_slotOf_16 : decode cX6_slotOf 16 = .ok (.if_icmp .ge 48, 3) := by decide +kernel
theorem dX6_slotOf_19 : decode cX6_slotOf 19 = .ok (.iload 4, 2) := by decide +kernel
theorem dX6_slotOf_21 : decode cX6_slotOf 21 = .ok (.bipush 16, 2) := by decide +kernel
theorem dX6_slotOf_23 : decode cX6_slotOf 23 = .ok (.irem, 1) := by decide +kernel
theorem dX6_slotOf_24 : decode cX6_slotOf 24 = .ok (.aload_n 0, 1) := by decide +kernel
theorem dX6_slotOf_25 : decode cX6_slotOf 25 = .ok (.getfield 7, 3) := by decide +kernel
theorem dX6_slotOf_28 : decode cX6_slotOf 28 = .ok (.iconst 0, 1) := by decide +kernel
theorem dX6_slotOf_29 : decode cX6_slotOf 29 = .ok (.iaload, 1) := by decide +kernel
theorem dX6_slotOf_30 : decode cX6_slotOf 30 = .ok (.if_icmp .ge 28, 3) := by decide +kernel
theorem dX6_slotOf_33 : decode cX6_slotOf 33 = .ok (.aload_n 0, 1) := by decide +kernel
theorem dX6_slotOf_34 : decode cX6_slotOf 34 = .ok (.getfield 7, 3) := by decide +kernel
theorem dX6_slotOf_37 : decode cX6_slotOf 37 = .ok (.sipush 201, 3) := by decide +kernel
theorem dX6_slotOf_40 : decode cX6_slotOf 40 = .ok (.iload 4, 2) := by decide +kernel
theorem dX6_slotOf_42 : decode cX6_slotOf 42 = .ok (.iadd, 1) := by decide +kernel
theorem dX6_slotOf_43 : decode cX6_slotOf 43 = .ok (.iaload, 1) := by decide +kernel
theorem dX6_slotOf_44 : decode cX6_slotOf 44 = .ok (.iload_n 1, 1) := by decide +kernel
theorem dX6_slotOf_45 : decode cX6_slotOf 45 = .ok (.if_icmp .ne 13, 3) := by decide +kernel
theorem dX6_slotOf_48 : decode cX6_slotOf 48 = .ok (.iload_n 3, 1) := by decide +kernel
theorem dX6_slotOf_49 : decode cX6_slotOf 49 = .ok (.ifCond .ne 6, 3) := by decide +kernel
theorem dX6_slotOf_52 : decode cX6_slotOf 52 = .ok (.iload 4, 2) := by decide +kernel
theorem dX6_slotOf_54 : decode cX6_slotOf 54 = .ok (.ireturn, 1) := by decide +kernel
theorem dX6_slotOf_55 : decode cX6_slotOf 55 = .ok (.iinc 3 (-1), 3) := by decide +kernel
theorem dX6_slotOf_58 : decode cX6_slotOf 58 = .ok (.iinc 4 1, 3) := by decide +kernel
theorem dX6_slotOf_61 : decode cX6_slotOf 61 = .ok (.goto (-56), 3) := by decide +kernel
theorem dX6_slotOf_64 : decode cX6_slotOf 64 = .ok (.iconst (-1), 1) := by decide +kernel
theorem dX6_slotOf_65 : decode cX6_slotOf 65 = .ok (.ireturn, 1) := by decide +kernel
theorem dX6_slot_0 : decode cX6_slot 0 = .ok (.aload_n 0, 1) := by decide +kernel
theorem dX6_slot_1 : decode cX6_slot 1 = .ok (.aload_n 0, 1) := by decide +kernel
theorem dX6_slot_2 : decode cX6_slot 2 = .ok (.iload_n 1, 1) := by decide +kernel
theorem dX6_slot_3 : decode cX6_slot 3 = .ok (.invokevirtual 75, 3) := by decide +kernel
theorem dX6_slot_6 : decode cX6_slot 6 = .ok (.ifCond .ne 7, 3) := by decide +kernel
theorem dX6_slot_9 : decode cX6_slot 9 = .ok (.iconst 1, 1) := by decide +kernel
theorem dX6_slot_10 : decode cX6_slot 10 = .ok (.goto 17, 3) := by decide +kernel
theorem dX6_slot_13 : decode cX6_slot 13 = .ok (.iload_n 3, 1) := by decide +kernel
theorem dX6_slot_14 : decode cX6_slot 14 = .ok (.iconst 0, 1) := by decide +kernel
theorem dX6_slot_15 : decode cX6_slot 15 = .ok (.iconst 1, 1) := by decide +kernel
theorem dX6_slot_16 : decode cX6_slot 16 = .ok (.invokestatic 26, 3) := by decide +kernel
theorem dX6_slot_19 : decode cX6_slot 19 = .ok (.ifCond .ne 7, 3) := by decide +kernel
theorem dX6_slot_22 : decode cX6_slot 22 = .ok (.iconst 2, 1) := by decide +kernel
theorem dX6_slot_23 : decode cX6_slot 23 = .ok (.goto 4, 3) := by decide +kernel
theorem dX6_slot_26 : decode cX6_slot 26 = .ok (.iconst 0, 1) := by decide +kernel
theorem dX6_slot_27 : decode cX6_slot 27 = .ok (.putfield 19, 3) := by decide +kernel
theorem dX6_slot_30 : decode cX6_slot 30 = .ok (.aload_n 0, 1) := by decide +kernel
theorem dX6_slot_31 : decode cX6_slot 31 = .ok (.getfield 19, 3) := by decide +kernel
theorem dX6_slot_34 : decode cX6_slot 34 = .ok (.ifCond .eq 5, 3) := by decide +kernel
theorem dX6_slot_37 : decode cX6_slot 37 = .ok (.iconst 0, 1) := by decide +kernel
theorem dX6_slot_38 : decode cX6_slot 38 = .ok (.ireturn, 1) := by decide +kernel
theorem dX6_slot_39 : decode cX6_slot 39 = .ok (.aload_n 0, 1) := by decide +kernel
theorem dX6_slot_40 : decode cX6_slot 40 = .ok (.getfield 7, 3) := by decide +kernel
theorem dX6_slot_43 : decode cX6_slot 43 = .ok (.iconst 3, 1) := by decide +kernel
theorem dX6_slot_44 : decode cX6_slot 44 = .ok (.iaload, 1) := by decide +kernel
theorem dX6_slot_45 : decode cX6_slot 45 = .ok (.iconst 1, 1) := by decide +kernel
theorem dX6_slot_46 : decode cX6_slot 46 = .ok (.if_icmp .ne 16, 3) := by decide +kernel
theorem dX6_slot_49 : decode cX6_slot 49 = .ok (.iload_n 2, 1) := by decide +kernel
theorem dX6_slot_50 : decode cX6_slot 50 = .ok (.ifCond .lt 12, 3) := by decide +kernel
theorem dX6_slot_53 : decode cX6_slot 53 = .ok (.aload_n 0, 1) := by decide +kernel
theorem dX6_slot_54 : decode cX6_slot 54 = .ok (.iload_n 1, 1) := by decide +kernel
theorem dX6_slot_55 : decode cX6_slot 55 = .ok (.iload_n 2, 1) := by decide +kernel
theorem dX6_slot_56 : decode cX6_slot 56 = .ok (.invokevirtual 79, 3) := by decide +kernel
theorem dX6_slot_59 : decode cX6_slot 59 = .ok (.goto 4, 3) := by decide +kernel
theorem dX6_slot_62 : decode cX6_slot 62 = .ok (.iconst (-1), 1) := by decide +kernel
theorem dX6_slot_63 : decode cX6_slot 63 = .ok (.istore 4, 2) := by decide +kernel
theorem dX6_slot_65 : decode cX6_slot 65 = .ok (.aload_n 0, 1) := by decide +kernel
theorem dX6_slot_66 : decode cX6_slot 66 = .ok (.iload 4, 2) := by decide +kernel
theorem dX6_slot_68 : decode cX6_slot 68 = .ok (.iconst (-1), 1) := by decide +kernel
theorem dX6_slot_69 : decode cX6_slot 69 = .ok (.if_icmp .ne 7, 3) := by decide +kernel
theorem dX6_slot_72 : decode cX6_slot 72 = .ok (.iconst 3, 1) := by decide +kernel
theorem dX6_slot_73 : decode cX6_slot 73 = .ok (.goto 4, 3) := by decide +kernel
theorem dX6_slot_76 : decode cX6_slot 76 = .ok (.iconst 0, 1) := by decide +kernel
theorem dX6_slot_77 : decode cX6_slot 77 = .ok (.putfield 19, 3) := by decide +kernel
theorem dX6_slot_80 : decode cX6_slot 80 = .ok (.aload_n 0, 1) := by decide +kernel
theorem dX6_slot_81 : decode cX6_slot 81 = .ok (.getfield 19, 3) := by decide +kernel
theorem dX6_slot_84 : decode cX6_slot 84 = .ok (.ifCond .eq 7, 3) := by decide +kernel
theorem dX6_slot_87 : decode cX6_slot 87 = .ok (.iconst 0, 1) := by decide +kernel
theorem dX6_slot_88 : decode cX6_slot 88 = .ok (.goto 20, 3) := by decide +kernel
theorem dX6_slot_91 : decode cX6_slot 91 = .ok (.iload_n 3, 1) := by decide +kernel
theorem dX6_slot_92 : decode cX6_slot 92 = .ok (.ifCond .ne 11, 3) := by decide +kernel
theorem dX6_slot_95 : decode cX6_slot 95 = .ok (.iload 4, 2) := by decide +kernel
theorem dX6_slot_97 : decode cX6_slot 97 = .ok (.bipush 16, 2) := by decide +kernel
theorem dX6_slot_99 : decode cX6_slot 99 = .ok (.idiv, 1) := by decide +kernel
theorem dX6_slot_100 : decode cX6_slot 100 = .ok (.goto 8, 3) := by decide +kernel
theorem dX6_slot_103 : decode cX6_slot 103 = .ok (.iload 4, 2) := by decide +kernel
theorem dX6_slot_105 : decode cX6_slot 105 = .ok (.bipush 16, 2) := by decide +kernel
theorem dX6_slot_107 : decode cX6_slot 107 = .ok (.irem, 1) := by decide +kernel
theorem dX6_slot_108 : decode cX6_slot 108 = .ok (.ireturn, 1) := by decide +kernel
theorem dX6_ownerOf_0 : decode cX6_ownerOf 0 = .ok (.aload_n 0, 1) := by decide +kernel
theorem dX6_ownerOf_1 : decode cX6_ownerOf 1 = .ok (.iload_n 1, 1) := by decide +kernel
theorem dX6_ownerOf_2 : decode cX6_ownerOf 2 = .ok (.iconst 0, 1) := by decide +kernel
theorem dX6_ownerOf_3 : decode cX6_ownerOf 3 = .ok (.aload_n 0, 1) := by decide +kernel
theorem dX6_ownerOf_4 : decode cX6_ownerOf 4 = .ok (.getfield 7, 3) := by decide +kernel
theorem dX6_ownerOf_7 : decode cX6_ownerOf 7 = .ok (.iconst 1, 1) := by decide +kernel
theorem dX6_ownerOf_8 : decode cX6_ownerOf 8 = .ok (.iaload, 1) := by decide +kernel
theorem dX6_ownerOf_9 : decode cX6_ownerOf 9 = .ok (.iconst 1, 1) := by decide +kernel
theorem dX6_ownerOf_10 : decode cX6_ownerOf 10 = .ok (.isub, 1) := by decide +kernel
theorem dX6_ownerOf_11 : decode cX6_ownerOf 11 = .ok (.invokestatic 26, 3) := by decide +kernel
theorem dX6_ownerOf_14 : decode cX6_ownerOf 14 = .ok (.ifCond .eq 19, 3) := by decide +kernel
theorem dX6_ownerOf_17 : decode cX6_ownerOf 17 = .ok (.iload_n 2, 1) := by decide +kernel
theorem dX6_ownerOf_18 : decode cX6_ownerOf 18 = .ok (.iconst 0, 1) := by decide +kernel
theorem dX6_ownerOf_19 : decode cX6_ownerOf 19 = .ok (.aload_n 0, 1) := by decide +kernel
theorem dX6_ownerOf_20 : decode cX6_ownerOf 20 = .ok (.getfield 7, 3) := by decide +kernel
theorem dX6_ownerOf_23 : decode cX6_ownerOf 23 = .ok (.iconst 0, 1) := by decide +kernel
theorem dX6_ownerOf_24 : decode cX6_ownerOf 24 = .ok (.iaload, 1) := by decide +kernel
theorem dX6_ownerOf_25 : decode cX6_ownerOf 25 = .ok (.iconst 1, 1) := by decide +kernel
theorem dX6_ownerOf_26 : decode cX6_ownerOf 26 = .ok (.isub, 1) := by decide +kernel
theorem dX6_ownerOf_27 : decode cX6_ownerOf 27 = .ok (.invokestatic 26, 3) := by decide +kernel
theorem dX6_ownerOf_30 : decode cX6_ownerOf 30 = .ok (.ifCond .ne 7, 3) := by decide +kernel
theorem dX6_ownerOf_33 : decode cX6_ownerOf 33 = .ok (.iconst 1, 1) := by decide +kernel
theorem dX6_ownerOf_34 : decode cX6_ownerOf 34 = .ok (.goto 17, 3) := by decide +kernel
theorem dX6_ownerOf_37 : decode cX6_ownerOf 37 = .ok (.aload_n 0, 1) := by decide +kernel
theorem dX6_ownerOf_38 : decode cX6_ownerOf 38 = .ok (.getfield 7, 3) := by decide +kernel
theorem dX6_ownerOf_41 : decode cX6_ownerOf 41 = .ok (.iconst 3, 1) := by decide +kernel
theorem dX6_ownerOf_42 : decode cX6_ownerOf 42 = .ok (.iaload, 1) := by decide +kernel
theorem dX6_ownerOf_43 : decode cX6_ownerOf 43 = .ok (.ifCond .ne 7, 3) := by decide +kernel
theorem dX6_ownerOf_46 : decode cX6_ownerOf 46 = .ok (.iconst 2, 1) := by decide +kernel
theorem dX6_ownerOf_47 : decode cX6_ownerOf 47 = .ok (.goto 4, 3) := by decide +kernel
theorem dX6_ownerOf_50 : decode cX6_ownerOf 50 = .ok (.iconst 0, 1) := by decide +kernel
theorem dX6_ownerOf_51 : decode cX6_ownerOf 51 = .ok (.putfield 19, 3) := by decide +kernel
theorem dX6_ownerOf_54 : decode cX6_ownerOf 54 = .ok (.aload_n 0, 1) := by decide +kernel
theorem dX6_ownerOf_55 : decode cX6_ownerOf 55 = .ok (.getfield 19, 3) := by decide +kernel
theorem dX6_ownerOf_58 : decode cX6_ownerOf 58 = .ok (.ifCond .eq 7, 3) := by decide +kernel
theorem dX6_ownerOf_61 : decode cX6_ownerOf 61 = .ok (.iconst 0, 1) := by decide +kernel
theorem dX6_ownerOf_62 : decode cX6_ownerOf 62 = .ok (.goto 9, 3) := by decide +kernel
theorem dX6_ownerOf_65 : decode cX6_ownerOf 65 = .ok (.aload_n 0, 1) := by decide +kernel
theorem dX6_ownerOf_66 : decode cX6_ownerOf 66 = .ok (.iload_n 1, 1) := by decide +kernel
theorem dX6_ownerOf_67 : decode cX6_ownerOf 67 = .ok (.iload_n 2, 1) := by decide +kernel
theorem dX6_ownerOf_68 : decode cX6_ownerOf 68 = .ok (.invokevirtual 82, 3) := by decide +kernel
theorem dX6_ownerOf_71 : decode cX6_ownerOf 71 = .ok (.ireturn, 1) := by decide +kernel
theorem dX6_efficiency_0 : decode cX6_efficiency 0 = .ok (.aload_n 0, 1) := by decide +kernel
theorem dX6_efficiency_1 : decode cX6_efficiency 1 = .ok (.aload_n 0, 1) := by decide +kernel
theorem dX6_efficiency_2 : decode cX6_efficiency 2 = .ok (.getfield 7, 3) := by decide +kernel
theorem dX6_efficiency_5 : decode cX6_efficiency 5 = .ok (.iconst 3, 1) := by decide +kernel
theorem dX6_efficiency_6 : decode cX6_efficiency 6 = .ok (.iaload, 1) := by decide +kernel
theorem dX6_efficiency_7 : decode cX6_efficiency 7 = .ok (.ifCond .ne 7, 3) := by decide +kernel
theorem dX6_efficiency_10 : decode cX6_efficiency 10 = .ok (.iconst 1, 1) := by decide +kernel
theorem dX6_efficiency_11 : decode cX6_efficiency 11 = .ok (.goto 4, 3) := by decide +kernel
theorem dX6_efficiency_14 : decode cX6_efficiency 14 = .ok (.iconst 0, 1) := by decide +kernel
theorem dX6_efficiency_15 : decode cX6_efficiency 15 = .ok (.putfield 19, 3) := by decide +kernel
theorem dX6_efficiency_18 : decode cX6_efficiency 18 = .ok (.aload_n 0, 1) := by decide +kernel
theorem dX6_efficiency_19 : decode cX6_efficiency 19 = .ok (.getfield 19, 3) := by decide +kernel
theorem dX6_efficiency_22 : decode cX6_efficiency 22 = .ok (.ifCond .eq 7, 3) := by decide +kernel
theorem dX6_efficiency_25 : decode cX6_efficiency 25 = .ok (.dconst 0, 1) := by decide +kernel
theorem dX6_efficiency_26 : decode cX6_efficiency 26 = .ok (.goto 23, 3) := by decide +kernel
theorem dX6_efficiency_29 : decode cX6_efficiency 29 = .ok (.aload_n 0, 1) := by decide +kernel
theorem dX6_efficiency_30 : decode cX6_efficiency 30 = .ok (.invokevirtual 72, 3) := by decide +kernel
theorem dX6_efficiency_33 : decode cX6_efficiency 33 = .ok (.i2d, 1) := by decide +kernel
theorem dX6_efficiency_34 : decode cX6_efficiency 34 = .ok (.aload_n 0, 1) := by decide +kernel
theorem dX6_efficiency_35 : decode cX6_efficiency 35 = .ok (.getfield 7, 3) := by decide +kernel
theorem dX6_efficiency_38 : decode cX6_efficiency 38 = .ok (.iconst 0, 1) := by decide +kernel
theorem dX6_efficiency_39 : decode cX6_efficiency 39 = .ok (.iaload, 1) := by decide +kernel
theorem dX6_efficiency_40 : decode cX6_efficiency 40 = .ok (.aload_n 0, 1) := by decide +kernel
theorem dX6_efficiency_41 : decode cX6_efficiency 41 = .ok (.getfield 7, 3) := by decide +kernel
theorem dX6_efficiency_44 : decode cX6_efficiency 44 = .ok (.iconst 1, 1) := by decide +kernel
theorem dX6_efficiency_45 : decode cX6_efficiency 45 = .ok (.iaload, 1) := by decide +kernel
theorem dX6_efficiency_46 : decode cX6_efficiency 46 = .ok (.imul, 1) := by decide +kernel
theorem dX6_efficiency_47 : decode cX6_efficiency 47 = .ok (.i2d, 1) := by decide +kernel
theorem dX6_efficiency_48 : decode cX6_efficiency 48 = .ok (.ddiv, 1) := by decide +kernel
theorem dX6_efficiency_49 : decode cX6_efficiency 49 = .ok (.dreturn, 1) := by decide +kernel
theorem dX6_setValue_0 : decode cX6_setValue 0 = .ok (.aload_n 0, 1) := by decide +kernel
theorem dX6_setValue_1 : decode cX6_setValue 1 = .ok (.aload_n 0, 1) := by decide +kernel
theorem dX6_setValue_2 : decode cX6_setValue 2 = .ok (.iload_n 1, 1) := by decide +kernel
theorem dX6_setValue_3 : decode cX6_setValue 3 = .ok (.invokevirtual 75, 3) := by decide +kernel
theorem dX6_setValue_6 : decode cX6_setValue 6 = .ok (.ifCond .ne 7, 3) := by decide +kernel
theorem dX6_setValue_9 : decode cX6_setValue 9 = .ok (.iconst 1, 1) := by decide +kernel
theorem dX6_setValue_10 : decode cX6_setValue 10 = .ok (.goto 19, 3) := by decide +kernel
theorem dX6_setValue_13 : decode cX6_setValue 13 = .ok (.iload_n 2, 1) := by decide +kernel
theorem dX6_setValue_14 : decode cX6_setValue 14 = .ok (.iconst 0, 1) := by decide +kernel
theorem dX6_setValue_15 : decode cX6_setValue 15 = .ok (.sipush 255, 3) := by decide +kernel
theorem dX6_setValue_18 : decode cX6_setValue 18 = .ok (.invokestatic 26, 3) := by decide +kernel
theorem dX6_setValue_21 : decode cX6_setValue 21 = .ok (.ifCond .ne 7, 3) := by decide +kernel
theorem dX6_setValue_24 : decode cX6_setValue 24 = .ok (.iconst 2, 1) := by decide +kernel
theorem dX6_setValue_25 : decode cX6_setValue 25 = .ok (.goto 4, 3) := by decide +kernel
theorem dX6_setValue_28 : decode cX6_setValue 28 = .ok (.iconst 0, 1) := by decide +kernel
theorem dX6_setValue_29 : decode cX6_setValue 29 = .ok (.putfield 19, 3) := by decide +kernel
theorem dX6_setValue_32 : decode cX6_setValue 32 = .ok (.aload_n 0, 1) := by decide +kernel
theorem dX6_setValue_33 : decode cX6_setValue 33 = .ok (.getfield 19, 3) := by decide +kernel
theorem dX6_setValue_36 : decode cX6_setValue 36 = .ok (.ifCond .eq 5, 3) := by decide +kernel
theorem dX6_setValue_39 : decode cX6_setValue 39 = .ok (.iconst 0, 1) := by decide +kernel
theorem dX6_setValue_40 : decode cX6_setValue 40 = .ok (.ireturn, 1) := by decide +kernel
theorem dX6_setValue_41 : decode cX6_setValue 41 = .ok (.aload_n 0, 1) := by decide +kernel
theorem dX6_setValue_42 : decode cX6_setValue 42 = .ok (.invokevirtual 33, 3) := by decide +kernel
theorem dX6_setValue_45 : decode cX6_setValue 45 = .ok (.aload_n 0, 1) := by decide +kernel
theorem dX6_setValue_46 : decode cX6_setValue 46 = .ok (.iload_n 1, 1) := by decide +kernel
theorem dX6_setValue_47 : decode cX6_setValue 47 = .ok (.iconst 1, 1) := by decide +kernel
theorem dX6_setValue_48 : decode cX6_setValue 48 = .ok (.invokevirtual 43, 3) := by decide +kernel
theorem dX6_setValue_51 : decode cX6_setValue 51 = .ok (.istore_n 3, 1) := by decide +kernel
theorem dX6_setValue_52 : decode cX6_setValue 52 = .ok (.aload_n 0, 1) := by decide +kernel
theorem dX6_setValue_53 : decode cX6_setValue 53 = .ok (.iload_n 1, 1) := by decide +kernel
theorem dX6_setValue_54 : decode cX6_setValue 54 = .ok (.iconst 1, 1) := by decide +kernel
theorem dX6_setValue_55 : decode cX6_setValue 55 = .ok (.iload_n 2, 1) := by decide +kernel
theorem dX6_setValue_56 : decode cX6_setValue 56 = .ok (.invokevirtual 39, 3) := by decide +kernel
theorem dX6_setValue_59 : decode cX6_setValue 59 = .ok (.iload_n 3, 1) := by decide +kernel
theorem dX6_setValue_60 : decode cX6_setValue 60 = .ok (.ireturn, 1) := by decide +kernel
theorem dX6_wordOf_0 : decode cX6_wordOf 0 = .ok (.iload_n 2, 1) := by decide +kernel
theorem dX6_wordOf_1 : decode cX6_wordOf 1 = .ok (.tableswitch 37 0 2 #[27, 31, 35], 27) := by decide +kernel
theorem dX6_wordOf_28 : decode cX6_wordOf 28 = .ok (.sipush 235, 3) := by decide +kernel
theorem dX6_wordOf_31 : decode cX6_wordOf 31 = .ok (.ireturn, 1) := by decide +kernel
theorem dX6_wordOf_32 : decode cX6_wordOf 32 = .ok (.sipush 144, 3) := by decide +kernel
theorem dX6_wordOf_35 : decode cX6_wordOf 35 = .ok (.ireturn, 1) := by decide +kernel
theorem dX6_wordOf_36 : decode cX6_wordOf 36 = .ok (.iload_n 1, 1) := by decide +kernel
theorem dX6_wordOf_37 : decode cX6_wordOf 37 = .ok (.ireturn, 1) := by decide +kernel
theorem dX6_wordOf_38 : decode cX6_wordOf 38 = .ok (.aload_n 0, 1) := by decide +kernel
theorem dX6_wordOf_39 : decode cX6_wordOf 39 = .ok (.iload_n 1, 1) := by decide +kernel
theorem dX6_wordOf_40 : decode cX6_wordOf 40 = .ok (.iload_n 2, 1) := by decide +kernel
theorem dX6_wordOf_41 : decode cX6_wordOf 41 = .ok (.invokevirtual 82, 3) := by decide +kernel
theorem dX6_wordOf_44 : decode cX6_wordOf 44 = .ok (.istore_n 3, 1) := by decide +kernel
theorem dX6_wordOf_45 : decode cX6_wordOf 45 = .ok (.iload_n 3, 1) := by decide +kernel
theorem dX6_wordOf_46 : decode cX6_wordOf 46 = .ok (.iconst (-1), 1) := by decide +kernel
theorem dX6_wordOf_47 : decode cX6_wordOf 47 = .ok (.if_icmp .ne 8, 3) := by decide +kernel
theorem dX6_wordOf_50 : decode cX6_wordOf 50 = .ok (.bipush 85, 2) := by decide +kernel
theorem dX6_wordOf_52 : decode cX6_wordOf 52 = .ok (.goto 9, 3) := by decide +kernel
theorem dX6_wordOf_55 : decode cX6_wordOf 55 = .ok (.aload_n 0, 1) := by decide +kernel
theorem dX6_wordOf_56 : decode cX6_wordOf 56 = .ok (.iload_n 3, 1) := by decide +kernel
theorem dX6_wordOf_57 : decode cX6_wordOf 57 = .ok (.iconst 1, 1) := by decide +kernel
theorem dX6_wordOf_58 : decode cX6_wordOf 58 = .ok (.invokevirtual 43, 3) := by decide +kernel
theorem dX6_wordOf_61 : decode cX6_wordOf 61 = .ok (.ireturn, 1) := by decide +kernel
theorem dX6_sends_0 : decode cX6_sends 0 = .ok (.iconst 0, 1) := by decide +kernel
theorem dX6_sends_1 : decode cX6_sends 1 = .ok (.istore_n 1, 1) := by decide +kernel
theorem dX6_sends_2 : decode cX6_sends 2 = .ok (.iload_n 1, 1) := by decide +kernel
theorem dX6_sends_3 : decode cX6_sends 3 = .ok (.aload_n 0, 1) := by decide +kernel
theorem dX6_sends_4 : decode cX6_sends 4 = .ok (.getfield 7, 3) := by decide +kernel
theorem dX6_sends_7 : decode cX6_sends 7 = .ok (.iconst 0, 1) := by decide +kernel
theorem dX6_sends_8 : decode cX6_sends 8 = .ok (.iaload, 1) := by decide +kernel
theorem dX6_sends_9 : decode cX6_sends 9 = .ok (.if_icmp .ge 64, 3) := by decide +kernel
theorem dX6_sends_12 : decode cX6_sends 12 = .ok (.aload_n 0, 1) := by decide +kernel
theorem dX6_sends_13 : decode cX6_sends 13 = .ok (.aload_n 0, 1) := by decide +kernel
theorem dX6_sends_14 : decode cX6_sends 14 = .ok (.getfield 7, 3) := by decide +kernel
theorem dX6_sends_17 : decode cX6_sends 17 = .ok (.iconst 4, 1) := by decide +kernel
theorem dX6_sends_18 : decode cX6_sends 18 = .ok (.iaload, 1) := by decide +kernel
theorem dX6_sends_19 : decode cX6_sends 19 = .ok (.iload_n 1, 1) := by decide +kernel
theorem dX6_sends_20 : decode cX6_sends 20 = .ok (.invokevirtual 85, 3) := by decide +kernel
theorem dX6_sends_23 : decode cX6_sends 23 = .ok (.istore_n 2, 1) := by decide +kernel
theorem dX6_sends_24 : decode cX6_sends 24 = .ok (.bipush 7, 2) := by decide +kernel
theorem dX6_sends_26 : decode cX6_sends 26 = .ok (.istore_n 3, 1) := by decide +kernel
theorem dX6_sends_27 : decode cX6_sends 27 = .ok (.iload_n 3, 1) := by decide +kernel
theorem dX6_sends_28 : decode cX6_sends 28 = .ok (.ifCond .lt 39, 3) := by decide +kernel
theorem dX6_sends_31 : decode cX6_sends 31 = .ok (.aload_n 0, 1) := by decide +kernel
theorem dX6_sends_32 : decode cX6_sends 32 = .ok (.getfield 7, 3) := by decide +kernel
theorem dX6_sends_35 : decode cX6_sends 35 = .ok (.sipush 329, 3) := by decide +kernel
theorem dX6_sends_38 : decode cX6_sends 38 = .ok (.aload_n 0, 1) := by decide +kernel
theorem dX6_sends_39 : decode cX6_sends 39 = .ok (.getfield 7, 3) := by decide +kernel
theorem dX6_sends_42 : decode cX6_sends 42 = .ok (.iconst 5, 1) := by decide +kernel
theorem dX6_sends_43 : decode cX6_sends 43 = .ok (.iaload, 1) := by decide +kernel
theorem dX6_sends_44 : decode cX6_sends 44 = .ok (.iadd, 1) := by decide +kernel
theorem dX6_sends_45 : decode cX6_sends 45 = .ok (.iload_n 2, 1) := by decide +kernel
theorem dX6_sends_46 : decode cX6_sends 46 = .ok (.iload_n 3, 1) := by decide +kernel
theorem dX6_sends_47 : decode cX6_sends 47 = .ok (.ishr, 1) := by decide +kernel
theorem dX6_sends_48 : decode cX6_sends 48 = .ok (.iconst 1, 1) := by decide +kernel
theorem dX6_sends_49 : decode cX6_sends 49 = .ok (.iand, 1) := by decide +kernel
theorem dX6_sends_50 : decode cX6_sends 50 = .ok (.iastore, 1) := by decide +kernel
theorem dX6_sends_51 : decode cX6_sends 51 = .ok (.aload_n 0, 1) := by decide +kernel
theorem dX6_sends_52 : decode cX6_sends 52 = .ok (.getfield 7, 3) := by decide +kernel
theorem dX6_sends_55 : decode cX6_sends 55 = .ok (.iconst 5, 1) := by decide +kernel
theorem dX6_sends_56 : decode cX6_sends 56 = .ok (.dup2, 1) := by decide +kernel
theorem dX6_sends_57 : decode cX6_sends 57 = .ok (.iaload, 1) := by decide +kernel
theorem dX6_sends_58 : decode cX6_sends 58 = .ok (.iconst 1, 1) := by decide +kernel
theorem dX6_sends_59 : decode cX6_sends 59 = .ok (.iadd, 1) := by decide +kernel
theorem dX6_sends_60 : decode cX6_sends 60 = .ok (.iastore, 1) := by decide +kernel
theorem dX6_sends_61 : decode cX6_sends 61 = .ok (.iinc 3 (-1), 3) := by decide +kernel
theorem dX6_sends_64 : decode cX6_sends 64 = .ok (.goto (-37), 3) := by decide +kernel
theorem dX6_sends_67 : decode cX6_sends 67 = .ok (.iinc 1 1, 3) := by decide +kernel
theorem dX6_sends_70 : decode cX6_sends 70 = .ok (.goto (-68), 3) := by decide +kernel
theorem dX6_sends_73 : decode cX6_sends 73 = .ok (.aload_n 0, 1) := by decide +kernel
theorem dX6_sends_74 : decode cX6_sends 74 = .ok (.getfield 7, 3) := by decide +kernel
theorem dX6_sends_77 : decode cX6_sends 77 = .ok (.iconst 4, 1) := by decide +kernel
theorem dX6_sends_78 : decode cX6_sends 78 = .ok (.aload_n 0, 1) := by decide +kernel
theorem dX6_sends_79 : decode cX6_sends 79 = .ok (.getfield 7, 3) := by decide +kernel
theorem dX6_sends_82 : decode cX6_sends 82 = .ok (.iconst 4, 1) := by decide +kernel
theorem dX6_sends_83 : decode cX6_sends 83 = .ok (.iaload, 1) := by decide +kernel
theorem dX6_sends_84 : decode cX6_sends 84 = .ok (.iconst 1, 1) := by decide +kernel
theorem dX6_sends_85 : decode cX6_sends 85 = .ok (.iadd, 1) := by decide +kernel
theorem dX6_sends_86 : decode cX6_sends 86 = .ok (.aload_n 0, 1) := by decide +kernel
theorem dX6_sends_87 : decode cX6_sends 87 = .ok (.getfield 7, 3) := by decide +kernel
theorem dX6_sends_90 : decode cX6_sends 90 = .ok (.iconst 1, 1) := by decide +kernel
theorem dX6_sends_91 : decode cX6_sends 91 = .ok (.iaload, 1) := by decide +kernel
theorem dX6_sends_92 : decode cX6_sends 92 = .ok (.irem, 1) := by decide +kernel
theorem dX6_sends_93 : decode cX6_sends 93 = .ok (.iastore, 1) := by decide +kernel
theorem dX6_sends_94 : decode cX6_sends 94 = .ok (.return_, 1) := by decide +kernel
theorem dX6_send_0 : decode cX6_send 0 = .ok (.aload_n 0, 1) := by decide +kernel
theorem dX6_send_1 : decode cX6_send 1 = .ok (.iload_n 1, 1) := by decide +kernel
theorem dX6_send_2 : decode cX6_send 2 = .ok (.iconst 1, 1) := by decide +kernel
theorem dX6_send_3 : decode cX6_send 3 = .ok (.bipush 16, 2) := by decide +kernel
theorem dX6_send_5 : decode cX6_send 5 = .ok (.invokestatic 26, 3) := by decide +kernel
theorem dX6_send_8 : decode cX6_send 8 = .ok (.ifCond .ne 7, 3) := by decide +kernel
theorem dX6_send_11 : decode cX6_send 11 = .ok (.iconst 1, 1) := by decide +kernel
theorem dX6_send_12 : decode cX6_send 12 = .ok (.goto 41, 3) := by decide +kernel
theorem dX6_send_15 : decode cX6_send 15 = .ok (.aload_n 0, 1) := by decide +kernel
theorem dX6_send_16 : decode cX6_send 16 = .ok (.getfield 7, 3) := by decide +kernel
theorem dX6_send_19 : decode cX6_send 19 = .ok (.iconst 3, 1) := by decide +kernel
theorem dX6_send_20 : decode cX6_send 20 = .ok (.iaload, 1) := by decide +kernel
theorem dX6_send_21 : decode cX6_send 21 = .ok (.ifCond .eq 27, 3) := by decide +kernel
theorem dX6_send_24 : decode cX6_send 24 = .ok (.aload_n 0, 1) := by decide +kernel
theorem dX6_send_25 : decode cX6_send 25 = .ok (.getfield 7, 3) := by decide +kernel
theorem dX6_send_28 : decode cX6_send 28 = .ok (.iconst 5, 1) := by decide +kernel
theorem dX6_send_29 : decode cX6_send 29 = .ok (.iaload, 1) := by decide +kernel
theorem dX6_send_30 : decode cX6_send 30 = .ok (.bipush 8, 2) := by decide +kernel
theorem dX6_send_32 : decode cX6_send 32 = .ok (.iload_n 1, 1) := by decide +kernel
theorem dX6_send_33 : decode cX6_send 33 = .ok (.imul, 1) := by decide +kernel
theorem dX6_send_34 : decode cX6_send 34 = .ok (.aload_n 0, 1) := by decide +kernel
theorem dX6_send_35 : decode cX6_send 35 = .ok (.getfield 7, 3) := by decide +kernel
theorem dX6_send_38 : decode cX6_send 38 = .ok (.iconst 0, 1) := by decide +kernel
theorem dX6_send_39 : decode cX6_send 39 = .ok (.iaload, 1) := by decide +kernel
theorem dX6_send_40 : decode cX6_send 40 = .ok (.imul, 1) := by decide +kernel
theorem dX6_send_41 : decode cX6_send 41 = .ok (.iadd, 1) := by decide +kernel
theorem dX6_send_42 : decode cX6_send 42 = .ok (.sipush 2048, 3) := by decide +kernel
theorem dX6_send_45 : decode cX6_send 45 = .ok (.if_icmp .le 7, 3) := by decide +kernel
theorem dX6_send_48 : decode cX6_send 48 = .ok (.iconst 2, 1) := by decide +kernel
theorem dX6_send_49 : decode cX6_send 49 = .ok (.goto 4, 3) := by decide +kernel
theorem dX6_send_52 : decode cX6_send 52 = .ok (.iconst 0, 1) := by decide +kernel
theorem dX6_send_53 : decode cX6_send 53 = .ok (.putfield 19, 3) := by decide +kernel
theorem dX6_send_56 : decode cX6_send 56 = .ok (.aload_n 0, 1) := by decide +kernel
theorem dX6_send_57 : decode cX6_send 57 = .ok (.getfield 19, 3) := by decide +kernel
theorem dX6_send_60 : decode cX6_send 60 = .ok (.ifCond .eq 5, 3) := by decide +kernel
theorem dX6_send_63 : decode cX6_send 63 = .ok (.iconst 0, 1) := by decide +kernel
theorem dX6_send_64 : decode cX6_send 64 = .ok (.ireturn, 1) := by decide +kernel
theorem dX6_send_65 : decode cX6_send 65 = .ok (.aload_n 0, 1) := by decide +kernel
theorem dX6_send_66 : decode cX6_send 66 = .ok (.invokevirtual 33, 3) := by decide +kernel
theorem dX6_send_69 : decode cX6_send 69 = .ok (.iconst 0, 1) := by decide +kernel
theorem dX6_send_70 : decode cX6_send 70 = .ok (.istore_n 2, 1) := by decide +kernel
theorem dX6_send_71 : decode cX6_send 71 = .ok (.iload_n 2, 1) := by decide +kernel
theorem dX6_send_72 : decode cX6_send 72 = .ok (.iload_n 1, 1) := by decide +kernel
theorem dX6_send_73 : decode cX6_send 73 = .ok (.if_icmp .ge 13, 3) := by decide +kernel
theorem dX6_send_76 : decode cX6_send 76 = .ok (.aload_n 0, 1) := by decide +kernel
theorem dX6_send_77 : decode cX6_send 77 = .ok (.invokevirtual 88, 3) := by decide +kernel
theorem dX6_send_80 : decode cX6_send 80 = .ok (.iinc 2 1, 3) := by decide +kernel
theorem dX6_send_83 : decode cX6_send 83 = .ok (.goto (-12), 3) := by decide +kernel
theorem dX6_send_86 : decode cX6_send 86 = .ok (.aload_n 0, 1) := by decide +kernel
theorem dX6_send_87 : decode cX6_send 87 = .ok (.getfield 7, 3) := by decide +kernel
theorem dX6_send_90 : decode cX6_send 90 = .ok (.iconst 5, 1) := by decide +kernel
theorem dX6_send_91 : decode cX6_send 91 = .ok (.iaload, 1) := by decide +kernel
theorem dX6_send_92 : decode cX6_send 92 = .ok (.ireturn, 1) := by decide +kernel
theorem dX6_pending_0 : decode cX6_pending 0 = .ok (.aload_n 0, 1) := by decide +kernel
theorem dX6_pending_1 : decode cX6_pending 1 = .ok (.iconst 0, 1) := by decide +kernel
theorem dX6_pending_2 : decode cX6_pending 2 = .ok (.putfield 19, 3) := by decide +kernel
theorem dX6_pending_5 : decode cX6_pending 5 = .ok (.aload_n 0, 1) := by decide +kernel
theorem dX6_pending_6 : decode cX6_pending 6 = .ok (.getfield 7, 3) := by decide +kernel
theorem dX6_pending_9 : decode cX6_pending 9 = .ok (.iconst 5, 1) := by decide +kernel
theorem dX6_pending_10 : decode cX6_pending 10 = .ok (.iaload, 1) := by decide +kernel
theorem dX6_pending_11 : decode cX6_pending 11 = .ok (.ireturn, 1) := by decide +kernel
theorem dX6_isBit_0 : decode cX6_isBit 0 = .ok (.iload_n 1, 1) := by decide +kernel
theorem dX6_isBit_1 : decode cX6_isBit 1 = .ok (.iconst 0, 1) := by decide +kernel
theorem dX6_isBit_2 : decode cX6_isBit 2 = .ok (.aload_n 0, 1) := by decide +kernel
theorem dX6_isBit_3 : decode cX6_isBit 3 = .ok (.getfield 7, 3) := by decide +kernel
theorem dX6_isBit_6 : decode cX6_isBit 6 = .ok (.iconst 5, 1) := by decide +kernel
theorem dX6_isBit_7 : decode cX6_isBit 7 = .ok (.iaload, 1) := by decide +kernel
theorem dX6_isBit_8 : decode cX6_isBit 8 = .ok (.iconst 1, 1) := by decide +kernel
theorem dX6_isBit_9 : decode cX6_isBit 9 = .ok (.isub, 1) := by decide +kernel
theorem dX6_isBit_10 : decode cX6_isBit 10 = .ok (.invokestatic 26, 3) := by decide +kernel
theorem dX6_isBit_13 : decode cX6_isBit 13 = .ok (.ireturn, 1) := by decide +kernel
theorem dX6_bit_0 : decode cX6_bit 0 = .ok (.aload_n 0, 1) := by decide +kernel
theorem dX6_bit_1 : decode cX6_bit 1 = .ok (.aload_n 0, 1) := by decide +kernel
theorem dX6_bit_2 : decode cX6_bit 2 = .ok (.iload_n 1, 1) := by decide +kernel
theorem dX6_bit_3 : decode cX6_bit 3 = .ok (.invokevirtual 91, 3) := by decide +kernel
theorem dX6_bit_6 : decode cX6_bit 6 = .ok (.ifCond .eq 7, 3) := by decide +kernel
theorem dX6_bit_9 : decode cX6_bit 9 = .ok (.iconst 0, 1) := by decide +kernel
theorem dX6_bit_10 : decode cX6_bit 10 = .ok (.goto 4, 3) := by decide +kernel
theorem dX6_bit_13 : decode cX6_bit 13 = .ok (.iconst 1, 1) := by decide +kernel
theorem dX6_bit_14 : decode cX6_bit 14 = .ok (.putfield 19, 3) := by decide +kernel
theorem dX6_bit_17 : decode cX6_bit 17 = .ok (.aload_n 0, 1) := by decide +kernel
theorem dX6_bit_18 : decode cX6_bit 18 = .ok (.getfield 19, 3) := by decide +kernel
theorem dX6_bit_21 : decode cX6_bit 21 = .ok (.ifCond .eq 7, 3) := by decide +kernel
theorem dX6_bit_24 : decode cX6_bit 24 = .ok (.iconst 0, 1) := by decide +kernel
theorem dX6_bit_25 : decode cX6_bit 25 = .ok (.goto 13, 3) := by decide +kernel
theorem dX6_bit_28 : decode cX6_bit 28 = .ok (.aload_n 0, 1) := by decide +kernel
theorem dX6_bit_29 : decode cX6_bit 29 = .ok (.getfield 7, 3) := by decide +kernel
theorem dX6_bit_32 : decode cX6_bit 32 = .ok (.sipush 329, 3) := by decide +kernel
theorem dX6_bit_35 : decode cX6_bit 35 = .ok (.iload_n 1, 1) := by decide +kernel
theorem dX6_bit_36 : decode cX6_bit 36 = .ok (.iadd, 1) := by decide +kernel
theorem dX6_bit_37 : decode cX6_bit 37 = .ok (.iaload, 1) := by decide +kernel
theorem dX6_bit_38 : decode cX6_bit 38 = .ok (.ireturn, 1) := by decide +kernel
theorem dX6_removes_0 : decode cX6_removes 0 = .ok (.aload_n 0, 1) := by decide +kernel
theorem dX6_removes_1 : decode cX6_removes 1 = .ok (.getfield 7, 3) := by decide +kernel
theorem dX6_removes_4 : decode cX6_removes 4 = .ok (.iconst 5, 1) := by decide +kernel
theorem dX6_removes_5 : decode cX6_removes 5 = .ok (.dup2, 1) := by decide +kernel
theorem dX6_removes_6 : decode cX6_removes 6 = .ok (.iaload, 1) := by decide +kernel
theorem dX6_removes_7 : decode cX6_removes 7 = .ok (.iconst 1, 1) := by decide +kernel
theorem dX6_removes_8 : decode cX6_removes 8 = .ok (.isub, 1) := by decide +kernel
theorem dX6_removes_9 : decode cX6_removes 9 = .ok (.iastore, 1) := by decide +kernel
theorem dX6_removes_10 : decode cX6_removes 10 = .ok (.iload_n 1, 1) := by decide +kernel
theorem dX6_removes_11 : decode cX6_removes 11 = .ok (.istore_n 2, 1) := by decide +kernel
theorem dX6_removes_12 : decode cX6_removes 12 = .ok (.iload_n 2, 1) := by decide +kernel
theorem dX6_removes_13 : decode cX6_removes 13 = .ok (.aload_n 0, 1) := by decide +kernel
theorem dX6_removes_14 : decode cX6_removes 14 = .ok (.getfield 7, 3) := by decide +kernel
theorem dX6_removes_17 : decode cX6_removes 17 = .ok (.iconst 5, 1) := by decide +kernel
theorem dX6_removes_18 : decode cX6_removes 18 = .ok (.iaload, 1) := by decide +kernel
theorem dX6_removes_19 : decode cX6_removes 19 = .ok (.if_icmp .ge 31, 3) := by decide +kernel
theorem dX6_removes_22 : decode cX6_removes 22 = .ok (.aload_n 0, 1) := by decide +kernel
theorem dX6_removes_23 : decode cX6_removes 23 = .ok (.getfield 7, 3) := by decide +kernel
theorem dX6_removes_26 : decode cX6_removes 26 = .ok (.sipush 329, 3) := by decide +kernel
theorem dX6_removes_29 : decode cX6_removes 29 = .ok (.iload_n 2, 1) := by decide +kernel
theorem dX6_removes_30 : decode cX6_removes 30 = .ok (.iadd, 1) := by decide +kernel
theorem dX6_removes_31 : decode cX6_removes 31 = .ok (.aload_n 0, 1) := by decide +kernel
theorem dX6_removes_32 : decode cX6_removes 32 = .ok (.getfield 7, 3) := by decide +kernel
theorem dX6_removes_35 : decode cX6_removes 35 = .ok (.sipush 329, 3) := by decide +kernel
theorem dX6_removes_38 : decode cX6_removes 38 = .ok (.iload_n 2, 1) := by decide +kernel
theorem dX6_removes_39 : decode cX6_removes 39 = .ok (.iadd, 1) := by decide +kernel
theorem dX6_removes_40 : decode cX6_removes 40 = .ok (.iconst 1, 1) := by decide +kernel
theorem dX6_removes_41 : decode cX6_removes 41 = .ok (.iadd, 1) := by decide +kernel
theorem dX6_removes_42 : decode cX6_removes 42 = .ok (.iaload, 1) := by decide +kernel
theorem dX6_removes_43 : decode cX6_removes 43 = .ok (.iastore, 1) := by decide +kernel
theorem dX6_removes_44 : decode cX6_removes 44 = .ok (.iinc 2 1, 3) := by decide +kernel
theorem dX6_removes_47 : decode cX6_removes 47 = .ok (.goto (-35), 3) := by decide +kernel
theorem dX6_removes_50 : decode cX6_removes 50 = .ok (.return_, 1) := by decide +kernel
theorem dX6_inserts_0 : decode cX6_inserts 0 = .ok (.aload_n 0, 1) := by decide +kernel
theorem dX6_inserts_1 : decode cX6_inserts 1 = .ok (.getfield 7, 3) := by decide +kernel
theorem dX6_inserts_4 : decode cX6_inserts 4 = .ok (.iconst 5, 1) := by decide +kernel
theorem dX6_inserts_5 : decode cX6_inserts 5 = .ok (.iaload, 1) := by decide +kernel
theorem dX6_inserts_6 : decode cX6_inserts 6 = .ok (.istore_n 3, 1) := by decide +kernel
theorem dX6_inserts_7 : decode cX6_inserts 7 = .ok (.iload_n 3, 1) := by decide +kernel
theorem dX6_inserts_8 : decode cX6_inserts 8 = .ok (.iload_n 1, 1) := by decide +kernel
theorem dX6_inserts_9 : decode cX6_inserts 9 = .ok (.if_icmp .le 31, 3) := by decide +kernel
theorem dX6_inserts_12 : decode cX6_inserts 12 = .ok (.aload_n 0, 1) := by decide +kernel
theorem dX6_inserts_13 : decode cX6_inserts 13 = .ok (.getfield 7, 3) := by decide +kernel
theorem dX6_inserts_16 : decode cX6_inserts 16 = .ok (.sipush 329, 3) := by decide +kernel
theorem dX6_inserts_19 : decode cX6_inserts 19 = .ok (.iload_n 3, 1) := by decide +kernel
theorem dX6_inserts_20 : decode cX6_inserts 20 = .ok (.iadd, 1) := by decide +kernel
theorem dX6_inserts_21 : decode cX6_inserts 21 = .ok (.aload_n 0, 1) := by decide +kernel
theorem dX6_inserts_22 : decode cX6_inserts 22 = .ok (.getfield 7, 3) := by decide +kernel
theorem dX6_inserts_25 : decode cX6_inserts 25 = .ok (.sipush 329, 3) := by decide +kernel
theorem dX6_inserts_28 : decode cX6_inserts 28 = .ok (.iload_n 3, 1) := by decide +kernel
theorem dX6_inserts_29 : decode cX6_inserts 29 = .ok (.iadd, 1) := by decide +kernel
theorem dX6_inserts_30 : decode cX6_inserts 30 = .ok (.iconst 1, 1) := by decide +kernel
theorem dX6_inserts_31 : decode cX6_inserts 31 = .ok (.isub, 1) := by decide +kernel
theorem dX6_inserts_32 : decode cX6_inserts 32 = .ok (.iaload, 1) := by decide +kernel
theorem dX6_inserts_33 : decode cX6_inserts 33 = .ok (.iastore, 1) := by decide +kernel
theorem dX6_inserts_34 : decode cX6_inserts 34 = .ok (.iinc 3 (-1), 3) := by decide +kernel
theorem dX6_inserts_37 : decode cX6_inserts 37 = .ok (.goto (-30), 3) := by decide +kernel
theorem dX6_inserts_40 : decode cX6_inserts 40 = .ok (.aload_n 0, 1) := by decide +kernel
theorem dX6_inserts_41 : decode cX6_inserts 41 = .ok (.getfield 7, 3) := by decide +kernel
theorem dX6_inserts_44 : decode cX6_inserts 44 = .ok (.sipush 329, 3) := by decide +kernel
theorem dX6_inserts_47 : decode cX6_inserts 47 = .ok (.iload_n 1, 1) := by decide +kernel
theorem dX6_inserts_48 : decode cX6_inserts 48 = .ok (.iadd, 1) := by decide +kernel
theorem dX6_inserts_49 : decode cX6_inserts 49 = .ok (.iload_n 2, 1) := by decide +kernel
theorem dX6_inserts_50 : decode cX6_inserts 50 = .ok (.iastore, 1) := by decide +kernel
theorem dX6_inserts_51 : decode cX6_inserts 51 = .ok (.aload_n 0, 1) := by decide +kernel
theorem dX6_inserts_52 : decode cX6_inserts 52 = .ok (.getfield 7, 3) := by decide +kernel
theorem dX6_inserts_55 : decode cX6_inserts 55 = .ok (.iconst 5, 1) := by decide +kernel
theorem dX6_inserts_56 : decode cX6_inserts 56 = .ok (.dup2, 1) := by decide +kernel
theorem dX6_inserts_57 : decode cX6_inserts 57 = .ok (.iaload, 1) := by decide +kernel
theorem dX6_inserts_58 : decode cX6_inserts 58 = .ok (.iconst 1, 1) := by decide +kernel
theorem dX6_inserts_59 : decode cX6_inserts 59 = .ok (.iadd, 1) := by decide +kernel
theorem dX6_inserts_60 : decode cX6_inserts 60 = .ok (.iastore, 1) := by decide +kernel
theorem dX6_inserts_61 : decode cX6_inserts 61 = .ok (.return_, 1) := by decide +kernel
theorem dX6_disturb_0 : decode cX6_disturb 0 = .ok (.aload_n 0, 1) := by decide +kernel
theorem dX6_disturb_1 : decode cX6_disturb 1 = .ok (.iload_n 1, 1) := by decide +kernel
theorem dX6_disturb_2 : decode cX6_disturb 2 = .ok (.iconst 0, 1) := by decide +kernel
theorem dX6_disturb_3 : decode cX6_disturb 3 = .ok (.iconst 3, 1) := by decide +kernel
theorem dX6_disturb_4 : decode cX6_disturb 4 = .ok (.invokestatic 26, 3) := by decide +kernel
theorem dX6_disturb_7 : decode cX6_disturb 7 = .ok (.ifCond .ne 7, 3) := by decide +kernel
theorem dX6_disturb_10 : decode cX6_disturb 10 = .ok (.iconst 1, 1) := by decide +kernel
theorem dX6_disturb_11 : decode cX6_disturb 11 = .ok (.goto 37, 3) := by decide +kernel
theorem dX6_disturb_14 : decode cX6_disturb 14 = .ok (.aload_n 0, 1) := by decide +kernel
theorem dX6_disturb_15 : decode cX6_disturb 15 = .ok (.iload_n 2, 1) := by decide +kernel
theorem dX6_disturb_16 : decode cX6_disturb 16 = .ok (.invokevirtual 91, 3) := by decide +kernel
theorem dX6_disturb_19 : decode cX6_disturb 19 = .ok (.ifCond .ne 7, 3) := by decide +kernel
theorem dX6_disturb_22 : decode cX6_disturb 22 = .ok (.iconst 2, 1) := by decide +kernel
theorem dX6_disturb_23 : decode cX6_disturb 23 = .ok (.goto 25, 3) := by decide +kernel
theorem dX6_disturb_26 : decode cX6_disturb 26 = .ok (.iload_n 1, 1) := by decide +kernel
theorem dX6_disturb_27 : decode cX6_disturb 27 = .ok (.iconst 1, 1) := by decide +kernel
theorem dX6_disturb_28 : decode cX6_disturb 28 = .ok (.if_icmp .le 19, 3) := by decide +kernel
theorem dX6_disturb_31 : decode cX6_disturb 31 = .ok (.aload_n 0, 1) := by decide +kernel
theorem dX6_disturb_32 : decode cX6_disturb 32 = .ok (.getfield 7, 3) := by decide +kernel
theorem dX6_disturb_35 : decode cX6_disturb 35 = .ok (.iconst 5, 1) := by decide +kernel
theorem dX6_disturb_36 : decode cX6_disturb 36 = .ok (.iaload, 1) := by decide +kernel
theorem dX6_disturb_37 : decode cX6_disturb 37 = .ok (.sipush 2048, 3) := by decide +kernel
theorem dX6_disturb_40 : decode cX6_disturb 40 = .ok (.if_icmp .ne 7, 3) := by decide +kernel
theorem dX6_disturb_43 : decode cX6_disturb 43 = .ok (.iconst 3, 1) := by decide +kernel
theorem dX6_disturb_44 : decode cX6_disturb 44 = .ok (.goto 4, 3) := by decide +kernel
theorem dX6_disturb_47 : decode cX6_disturb 47 = .ok (.iconst 0, 1) := by decide +kernel
theorem dX6_disturb_48 : decode cX6_disturb 48 = .ok (.putfield 19, 3) := by decide +kernel
theorem dX6_disturb_51 : decode cX6_disturb 51 = .ok (.aload_n 0, 1) := by decide +kernel
theorem dX6_disturb_52 : decode cX6_disturb 52 = .ok (.getfield 19, 3) := by decide +kernel
theorem dX6_disturb_55 : decode cX6_disturb 55 = .ok (.ifCond .eq 5, 3) := by decide +kernel
theorem dX6_disturb_58 : decode cX6_disturb 58 = .ok (.iconst 0, 1) := by decide +kernel
theorem dX6_disturb_59 : decode cX6_disturb 59 = .ok (.ireturn, 1) := by decide +kernel
theorem dX6_disturb_60 : decode cX6_disturb 60 = .ok (.aload_n 0, 1) := by decide +kernel
theorem dX6_disturb_61 : decode cX6_disturb 61 = .ok (.invokevirtual 33, 3) := by decide +kernel
theorem dX6_disturb_64 : decode cX6_disturb 64 = .ok (.iload_n 1, 1) := by decide +kernel
theorem dX6_disturb_65 : decode cX6_disturb 65 = .ok (.ifCond .ne 28, 3) := by decide +kernel
theorem dX6_disturb_68 : decode cX6_disturb 68 = .ok (.aload_n 0, 1) := by decide +kernel
theorem dX6_disturb_69 : decode cX6_disturb 69 = .ok (.getfield 7, 3) := by decide +kernel
theorem dX6_disturb_72 : decode cX6_disturb 72 = .ok (.sipush 329, 3) := by decide +kernel
theorem dX6_disturb_75 : decode cX6_disturb 75 = .ok (.iload_n 2, 1) := by decide +kernel
theorem dX6_disturb_76 : decode cX6_disturb 76 = .ok (.iadd, 1) := by decide +kernel
theorem dX6_disturb_77 : decode cX6_disturb 77 = .ok (.iconst 1, 1) := by decide +kernel
theorem dX6_disturb_78 : decode cX6_disturb 78 = .ok (.aload_n 0, 1) := by decide +kernel
theorem dX6_disturb_79 : decode cX6_disturb 79 = .ok (.getfield 7, 3) := by decide +kernel
theorem dX6_disturb_82 : decode cX6_disturb 82 = .ok (.sipush 329, 3) := by decide +kernel
theorem dX6_disturb_85 : decode cX6_disturb 85 = .ok (.iload_n 2, 1) := by decide +kernel
theorem dX6_disturb_86 : decode cX6_disturb 86 = .ok (.iadd, 1) := by decide +kernel
theorem dX6_disturb_87 : decode cX6_disturb 87 = .ok (.iaload, 1) := by decide +kernel
theorem dX6_disturb_88 : decode cX6_disturb 88 = .ok (.isub, 1) := by decide +kernel
theorem dX6_disturb_89 : decode cX6_disturb 89 = .ok (.iastore, 1) := by decide +kernel
theorem dX6_disturb_90 : decode cX6_disturb 90 = .ok (.goto 24, 3) := by decide +kernel
theorem dX6_disturb_93 : decode cX6_disturb 93 = .ok (.iload_n 1, 1) := by decide +kernel
theorem dX6_disturb_94 : decode cX6_disturb 94 = .ok (.iconst 1, 1) := by decide +kernel
theorem dX6_disturb_95 : decode cX6_disturb 95 = .ok (.if_icmp .ne 11, 3) := by decide +kernel
theorem dX6_disturb_98 : decode cX6_disturb 98 = .ok (.aload_n 0, 1) := by decide +kernel
theorem dX6_disturb_99 : decode cX6_disturb 99 = .ok (.iload_n 2, 1) := by decide +kernel
theorem dX6_disturb_100 : decode cX6_disturb 100 = .ok (.invokevirtual 94, 3) := by decide +kernel
theorem dX6_disturb_103 : decode cX6_disturb 103 = .ok (.goto 11, 3) := by decide +kernel
theorem dX6_disturb_106 : decode cX6_disturb 106 = .ok (.aload_n 0, 1) := by decide +kernel
theorem dX6_disturb_107 : decode cX6_disturb 107 = .ok (.iload_n 2, 1) := by decide +kernel
theorem dX6_disturb_108 : decode cX6_disturb 108 = .ok (.iload_n 1, 1) := by decide +kernel
theorem dX6_disturb_109 : decode cX6_disturb 109 = .ok (.iconst 2, 1) := by decide +kernel
theorem dX6_disturb_110 : decode cX6_disturb 110 = .ok (.isub, 1) := by decide +kernel
theorem dX6_disturb_111 : decode cX6_disturb 111 = .ok (.invokevirtual 98, 3) := by decide +kernel
theorem dX6_disturb_114 : decode cX6_disturb 114 = .ok (.aload_n 0, 1) := by decide +kernel
theorem dX6_disturb_115 : decode cX6_disturb 115 = .ok (.getfield 7, 3) := by decide +kernel
theorem dX6_disturb_118 : decode cX6_disturb 118 = .ok (.iconst 5, 1) := by decide +kernel
theorem dX6_disturb_119 : decode cX6_disturb 119 = .ok (.iaload, 1) := by decide +kernel
theorem dX6_disturb_120 : decode cX6_disturb 120 = .ok (.ireturn, 1) := by decide +kernel
theorem dX6_beginsFrame_0 : decode cX6_beginsFrame 0 = .ok (.aload_n 0, 1) := by decide +kernel
theorem dX6_beginsFrame_1 : decode cX6_beginsFrame 1 = .ok (.getfield 7, 3) := by decide +kernel
theorem dX6_beginsFrame_4 : decode cX6_beginsFrame 4 = .ok (.bipush 15, 2) := by decide +kernel
theorem dX6_beginsFrame_6 : decode cX6_beginsFrame 6 = .ok (.iconst 1, 1) := by decide +kernel
theorem dX6_beginsFrame_7 : decode cX6_beginsFrame 7 = .ok (.iastore, 1) := by decide +kernel
theorem dX6_beginsFrame_8 : decode cX6_beginsFrame 8 = .ok (.aload_n 0, 1) := by decide +kernel
theorem dX6_beginsFrame_9 : decode cX6_beginsFrame 9 = .ok (.getfield 7, 3) := by decide +kernel
theorem dX6_beginsFrame_12 : decode cX6_beginsFrame 12 = .ok (.bipush 16, 2) := by decide +kernel
theorem dX6_beginsFrame_14 : decode cX6_beginsFrame 14 = .ok (.iconst 0, 1) := by decide +kernel
theorem dX6_beginsFrame_15 : decode cX6_beginsFrame 15 = .ok (.iastore, 1) := by decide +kernel
theorem dX6_beginsFrame_16 : decode cX6_beginsFrame 16 = .ok (.iconst 0, 1) := by decide +kernel
theorem dX6_beginsFrame_17 : decode cX6_beginsFrame 17 = .ok (.istore_n 1, 1) := by decide +kernel
theorem dX6_beginsFrame_18 : decode cX6_beginsFrame 18 = .ok (.iload_n 1, 1) := by decide +kernel
theorem dX6_beginsFrame_19 : decode cX6_beginsFrame 19 = .ok (.bipush 14, 2) := by decide +kernel
theorem dX6_beginsFrame_21 : decode cX6_beginsFrame 21 = .ok (.if_icmp .ge 19, 3) := by decide +kernel
theorem dX6_beginsFrame_24 : decode cX6_beginsFrame 24 = .ok (.aload_n 0, 1) := by decide +kernel
theorem dX6_beginsFrame_25 : decode cX6_beginsFrame 25 = .ok (.getfield 7, 3) := by decide +kernel
theorem dX6_beginsFrame_28 : decode cX6_beginsFrame 28 = .ok (.bipush 19, 2) := by decide +kernel
theorem dX6_beginsFrame_30 : decode cX6_beginsFrame 30 = .ok (.iload_n 1, 1) := by decide +kernel
theorem dX6_beginsFrame_31 : decode cX6_beginsFrame 31 = .ok (.iadd, 1) := by decide +kernel
theorem dX6_beginsFrame_32 : decode cX6_beginsFrame 32 = .ok (.iconst 0, 1) := by decide +kernel
theorem dX6_beginsFrame_33 : decode cX6_beginsFrame 33 = .ok (.iastore, 1) := by decide +kernel
theorem dX6_beginsFrame_34 : decode cX6_beginsFrame 34 = .ok (.iinc 1 1, 3) := by decide +kernel
theorem dX6_beginsFrame_37 : decode cX6_beginsFrame 37 = .ok (.goto (-19), 3) := by decide +kernel
theorem dX6_beginsFrame_40 : decode cX6_beginsFrame 40 = .ok (.return_, 1) := by decide +kernel
theorem dX6_receivesSample_0 : decode cX6_receivesSample 0 = .ok (.aload_n 0, 1) := by decide +kernel
theorem dX6_receivesSample_1 : decode cX6_receivesSample 1 = .ok (.iload_n 1, 1) := by decide +kernel
theorem dX6_receivesSample_2 : decode cX6_receivesSample 2 = .ok (.iconst 2, 1) := by decide +kernel
theorem dX6_receivesSample_3 : decode cX6_receivesSample 3 = .ok (.iload_n 2, 1) := by decide +kernel
theorem dX6_receivesSample_4 : decode cX6_receivesSample 4 = .ok (.invokevirtual 39, 3) := by decide +kernel
theorem dX6_receivesSample_7 : decode cX6_receivesSample 7 = .ok (.aload_n 0, 1) := by decide +kernel
theorem dX6_receivesSample_8 : decode cX6_receivesSample 8 = .ok (.iload_n 1, 1) := by decide +kernel
theorem dX6_receivesSample_9 : decode cX6_receivesSample 9 = .ok (.iconst 3, 1) := by decide +kernel
theorem dX6_receivesSample_10 : decode cX6_receivesSample 10 = .ok (.aload_n 0, 1) := by decide +kernel
theorem dX6_receivesSample_11 : decode cX6_receivesSample 11 = .ok (.iload_n 1, 1) := by decide +kernel
theorem dX6_receivesSample_12 : decode cX6_receivesSample 12 = .ok (.iconst 3, 1) := by decide +kernel
theorem dX6_receivesSample_13 : decode cX6_receivesSample 13 = .ok (.invokevirtual 43, 3) := by decide +kernel
theorem dX6_receivesSample_16 : decode cX6_receivesSample 16 = .ok (.iconst 1, 1) := by decide +kernel
theorem dX6_receivesSample_17 : decode cX6_receivesSample 17 = .ok (.iadd, 1) := by decide +kernel
theorem dX6_receivesSample_18 : decode cX6_receivesSample 18 = .ok (.invokevirtual 39, 3) := by decide +kernel
theorem dX6_receivesSample_21 : decode cX6_receivesSample 21 = .ok (.iconst 4, 1) := by decide +kernel
theorem dX6_receivesSample_22 : decode cX6_receivesSample 22 = .ok (.iconst 2, 1) := by decide +kernel
theorem dX6_receivesSample_23 : decode cX6_receivesSample 23 = .ok (.aload_n 0, 1) := by decide +kernel
theorem dX6_receivesSample_24 : decode cX6_receivesSample 24 = .ok (.getfield 7, 3) := by decide +kernel
theorem dX6_receivesSample_27 : decode cX6_receivesSample 27 = .ok (.bipush 6, 2) := by decide +kernel
theorem dX6_receivesSample_29 : decode cX6_receivesSample 29 = .ok (.iaload, 1) := by decide +kernel
theorem dX6_receivesSample_30 : decode cX6_receivesSample 30 = .ok (.imul, 1) := by decide +kernel
theorem dX6_receivesSample_31 : decode cX6_receivesSample 31 = .ok (.iadd, 1) := by decide +kernel
theorem dX6_receivesSample_32 : decode cX6_receivesSample 32 = .ok (.istore_n 3, 1) := by decide +kernel
theorem dX6_receivesSample_33 : decode cX6_receivesSample 33 = .ok (.iload_n 2, 1) := by decide +kernel
theorem dX6_receivesSample_34 : decode cX6_receivesSample 34 = .ok (.aload_n 0, 1) := by decide +kernel
theorem dX6_receivesSample_35 : decode cX6_receivesSample 35 = .ok (.iload_n 1, 1) := by decide +kernel
theorem dX6_receivesSample_36 : decode cX6_receivesSample 36 = .ok (.iload_n 3, 1) := by decide +kernel
theorem dX6_receivesSample_37 : decode cX6_receivesSample 37 = .ok (.invokevirtual 43, 3) := by decide +kernel
theorem dX6_receivesSample_40 : decode cX6_receivesSample 40 = .ok (.aload_n 0, 1) := by decide +kernel
theorem dX6_receivesSample_41 : decode cX6_receivesSample 41 = .ok (.iload_n 1, 1) := by decide +kernel
theorem dX6_receivesSample_42 : decode cX6_receivesSample 42 = .ok (.iload_n 3, 1) := by decide +kernel
theorem dX6_receivesSample_43 : decode cX6_receivesSample 43 = .ok (.iconst 1, 1) := by decide +kernel
theorem dX6_receivesSample_44 : decode cX6_receivesSample 44 = .ok (.iadd, 1) := by decide +kernel
theorem dX6_receivesSample_45 : decode cX6_receivesSample 45 = .ok (.invokevirtual 43, 3) := by decide +kernel
theorem dX6_receivesSample_48 : decode cX6_receivesSample 48 = .ok (.invokestatic 26, 3) := by decide +kernel
theorem dX6_receivesSample_51 : decode cX6_receivesSample 51 = .ok (.ifCond .eq 20, 3) := by decide +kernel
theorem dX6_receivesSample_54 : decode cX6_receivesSample 54 = .ok (.aload_n 0, 1) := by decide +kernel
theorem dX6_receivesSample_55 : decode cX6_receivesSample 55 = .ok (.iload_n 1, 1) := by decide +kernel
theorem dX6_receivesSample_56 : decode cX6_receivesSample 56 = .ok (.bipush 11, 2) := by decide +kernel
theorem dX6_receivesSample_58 : decode cX6_receivesSample 58 = .ok (.iconst 0, 1) := by decide +kernel
theorem dX6_receivesSample_59 : decode cX6_receivesSample 59 = .ok (.invokevirtual 39, 3) := by decide +kernel
theorem dX6_receivesSample_62 : decode cX6_receivesSample 62 = .ok (.aload_n 0, 1) := by decide +kernel
theorem dX6_receivesSample_63 : decode cX6_receivesSample 63 = .ok (.iload_n 1, 1) := by decide +kernel
theorem dX6_receivesSample_64 : decode cX6_receivesSample 64 = .ok (.bipush 12, 2) := by decide +kernel
theorem dX6_receivesSample_66 : decode cX6_receivesSample 66 = .ok (.iconst 0, 1) := by decide +kernel
theorem dX6_receivesSample_67 : decode cX6_receivesSample 67 = .ok (.invokevirtual 39, 3) := by decide +kernel
theorem dX6_receivesSample_70 : decode cX6_receivesSample 70 = .ok (.return_, 1) := by decide +kernel
theorem dX6_receivesSample_71 : decode cX6_receivesSample 71 = .ok (.aload_n 0, 1) := by decide +kernel
theorem dX6_receivesSample_72 : decode cX6_receivesSample 72 = .ok (.iload_n 1, 1) := by decide +kernel
theorem dX6_receivesSample_73 : decode cX6_receivesSample 73 = .ok (.bipush 12, 2) := by decide +kernel
theorem dX6_receivesSample_75 : decode cX6_receivesSample 75 = .ok (.aload_n 0, 1) := by decide +kernel
theorem dX6_receivesSample_76 : decode cX6_receivesSample 76 = .ok (.iload_n 1, 1) := by decide +kernel
theorem dX6_receivesSample_77 : decode cX6_receivesSample 77 = .ok (.bipush 12, 2) := by decide +kernel
theorem dX6_receivesSample_79 : decode cX6_receivesSample 79 = .ok (.invokevirtual 43, 3) := by decide +kernel
theorem dX6_receivesSample_82 : decode cX6_receivesSample 82 = .ok (.iconst 1, 1) := by decide +kernel
theorem dX6_receivesSample_83 : decode cX6_receivesSample 83 = .ok (.iadd, 1) := by decide +kernel
theorem dX6_receivesSample_84 : decode cX6_receivesSample 84 = .ok (.invokevirtual 39, 3) := by decide +kernel
theorem dX6_receivesSample_87 : decode cX6_receivesSample 87 = .ok (.aload_n 0, 1) := by decide +kernel
theorem dX6_receivesSample_88 : decode cX6_receivesSample 88 = .ok (.iload_n 1, 1) := by decide +kernel
theorem dX6_receivesSample_89 : decode cX6_receivesSample 89 = .ok (.bipush 12, 2) := by decide +kernel
theorem dX6_receivesSample_91 : decode cX6_receivesSample 91 = .ok (.invokevirtual 43, 3) := by decide +kernel
theorem dX6_receivesSample_94 : decode cX6_receivesSample 94 = .ok (.aload_n 0, 1) := by decide +kernel
theorem dX6_receivesSample_95 : decode cX6_receivesSample 95 = .ok (.iload_n 1, 1) := by decide +kernel
theorem dX6_receivesSample_96 : decode cX6_receivesSample 96 = .ok (.bipush 10, 2) := by decide +kernel
theorem dX6_receivesSample_98 : decode cX6_receivesSample 98 = .ok (.invokevirtual 43, 3) := by decide +kernel
theorem dX6_receivesSample_101 : decode cX6_receivesSample 101 = .ok (.if_icmp .lt 37, 3) := by decide +kernel
theorem dX6_receivesSample_104 : decode cX6_receivesSample 104 = .ok (.aload_n 0, 1) := by decide +kernel
theorem dX6_receivesSample_105 : decode cX6_receivesSample 105 = .ok (.iload_n 1, 1) := by decide +kernel
theorem dX6_receivesSample_106 : decode cX6_receivesSample 106 = .ok (.bipush 11, 2) := by decide +kernel
theorem dX6_receivesSample_108 : decode cX6_receivesSample 108 = .ok (.invokevirtual 43, 3) := by decide +kernel
theorem dX6_receivesSample_111 : decode cX6_receivesSample 111 = .ok (.ifCond .ne 27, 3) := by decide +kernel
theorem dX6_receivesSample_114 : decode cX6_receivesSample 114 = .ok (.aload_n 0, 1) := by decide +kernel
theorem dX6_receivesSample_115 : decode cX6_receivesSample 115 = .ok (.iload_n 1, 1) := by decide +kernel
theorem dX6_receivesSample_116 : decode cX6_receivesSample 116 = .ok (.bipush 11, 2) := by decide +kernel
theorem dX6_receivesSample_118 : decode cX6_receivesSample 118 = .ok (.iconst 1, 1) := by decide +kernel
theorem dX6_receivesSample_119 : decode cX6_receivesSample 119 = .ok (.invokevirtual 39, 3) := by decide +kernel
theorem dX6_receivesSample_122 : decode cX6_receivesSample 122 = .ok (.aload_n 0, 1) := by decide +kernel
theorem dX6_receivesSample_123 : decode cX6_receivesSample 123 = .ok (.iload_n 1, 1) := by decide +kernel
theorem dX6_receivesSample_124 : decode cX6_receivesSample 124 = .ok (.bipush 13, 2) := by decide +kernel
theorem dX6_receivesSample_126 : decode cX6_receivesSample 126 = .ok (.aload_n 0, 1) := by decide +kernel
theorem dX6_receivesSample_127 : decode cX6_receivesSample 127 = .ok (.iload_n 1, 1) := by decide +kernel
theorem dX6_receivesSample_128 : decode cX6_receivesSample 128 = .ok (.bipush 13, 2) := by decide +kernel
theorem dX6_receivesSample_130 : decode cX6_receivesSample 130 = .ok (.invokevirtual 43, 3) := by decide +kernel
theorem dX6_receivesSample_133 : decode cX6_receivesSample 133 = .ok (.iconst 1, 1) := by decide +kernel
theorem dX6_receivesSample_134 : decode cX6_receivesSample 134 = .ok (.iadd, 1) := by decide +kernel
theorem dX6_receivesSample_135 : decode cX6_receivesSample 135 = .ok (.invokevirtual 39, 3) := by decide +kernel
theorem dX6_receivesSample_138 : decode cX6_receivesSample 138 = .ok (.return_, 1) := by decide +kernel
theorem dX6_delivers_0 : decode cX6_delivers 0 = .ok (.aload_n 0, 1) := by decide +kernel
theorem dX6_delivers_1 : decode cX6_delivers 1 = .ok (.getfield 7, 3) := by decide +kernel
theorem dX6_delivers_4 : decode cX6_delivers 4 = .ok (.bipush 9, 2) := by decide +kernel
theorem dX6_delivers_6 : decode cX6_delivers 6 = .ok (.dup2, 1) := by decide +kernel
theorem dX6_delivers_7 : decode cX6_delivers 7 = .ok (.iaload, 1) := by decide +kernel
theorem dX6_delivers_8 : decode cX6_delivers 8 = .ok (.iconst 1, 1) := by decide +kernel
theorem dX6_delivers_9 : decode cX6_delivers 9 = .ok (.iadd, 1) := by decide +kernel
theorem dX6_delivers_10 : decode cX6_delivers 10 = .ok (.iastore, 1) := by decide +kernel
theorem dX6_delivers_11 : decode cX6_delivers 11 = .ok (.aload_n 0, 1) := by decide +kernel
theorem dX6_delivers_12 : decode cX6_delivers 12 = .ok (.getfield 7, 3) := by decide +kernel
theorem dX6_delivers_15 : decode cX6_delivers 15 = .ok (.bipush 19, 2) := by decide +kernel
theorem dX6_delivers_17 : decode cX6_delivers 17 = .ok (.iaload, 1) := by decide +kernel
theorem dX6_delivers_18 : decode cX6_delivers 18 = .ok (.istore_n 1, 1) := by decide +kernel
theorem dX6_delivers_19 : decode cX6_delivers 19 = .ok (.iload_n 1, 1) := by decide +kernel
theorem dX6_delivers_20 : decode cX6_delivers 20 = .ok (.aload_n 0, 1) := by decide +kernel
theorem dX6_delivers_21 : decode cX6_delivers 21 = .ok (.getfield 7, 3) := by decide +kernel
theorem dX6_delivers_24 : decode cX6_delivers 24 = .ok (.iconst 1, 1) := by decide +kernel
theorem dX6_delivers_25 : decode cX6_delivers 25 = .ok (.iaload, 1) := by decide +kernel
theorem dX6_delivers_26 : decode cX6_delivers 26 = .ok (.if_icmp .lt 15, 3) := by decide +kernel
theorem dX6_delivers_29 : decode cX6_delivers 29 = .ok (.aload_n 0, 1) := by decide +kernel
theorem dX6_delivers_30 : decode cX6_delivers 30 = .ok (.getfield 7, 3) := by decide +kernel
theorem dX6_delivers_33 : decode cX6_delivers 33 = .ok (.bipush 10, 2) := by decide +kernel
theorem dX6_delivers_35 : decode cX6_delivers 35 = .ok (.dup2, 1) := by decide +kernel
theorem dX6_delivers_36 : decode cX6_delivers 36 = .ok (.iaload, 1) := by decide +kernel
theorem dX6_delivers_37 : decode cX6_delivers 37 = .ok (.iconst 1, 1) := by decide +kernel
theorem dX6_delivers_38 : decode cX6_delivers 38 = .ok (.iadd, 1) := by decide +kernel
theorem dX6_delivers_39 : decode cX6_delivers 39 = .ok (.iastore, 1) := by decide +kernel
theorem dX6_delivers_40 : decode cX6_delivers 40 = .ok (.return_, 1) := by decide +kernel
theorem dX6_delivers_41 : decode cX6_delivers 41 = .ok (.iconst 3, 1) := by decide +kernel
theorem dX6_delivers_42 : decode cX6_delivers 42 = .ok (.istore_n 2, 1) := by decide +kernel
theorem dX6_delivers_43 : decode cX6_delivers 43 = .ok (.iload_n 2, 1) := by decide +kernel
theorem dX6_delivers_44 : decode cX6_delivers 44 = .ok (.aload_n 0, 1) := by decide +kernel
theorem dX6_delivers_45 : decode cX6_delivers 45 = .ok (.getfield 7, 3) := by decide +kernel
theorem dX6_delivers_48 : decode cX6_delivers 48 = .ok (.iconst 0, 1) := by decide +kernel
theorem dX6_delivers_49 : decode cX6_delivers 49 = .ok (.iaload, 1) := by decide +kernel
theorem dX6_delivers_50 : decode cX6_delivers 50 = .ok (.if_icmp .ge 37, 3) := by decide +kernel
theorem dX6_delivers_53 : decode cX6_delivers 53 = .ok (.aload_n 0, 1) := by decide +kernel
theorem dX6_delivers_54 : decode cX6_delivers 54 = .ok (.iload_n 1, 1) := by decide +kernel
theorem dX6_delivers_55 : decode cX6_delivers 55 = .ok (.iload_n 2, 1) := by decide +kernel
theorem dX6_delivers_56 : decode cX6_delivers 56 = .ok (.invokevirtual 82, 3) := by decide +kernel
theorem dX6_delivers_59 : decode cX6_delivers 59 = .ok (.istore_n 3, 1) := by decide +kernel
theorem dX6_delivers_60 : decode cX6_delivers 60 = .ok (.iload_n 3, 1) := by decide +kernel
theorem dX6_delivers_61 : decode cX6_delivers 61 = .ok (.iconst (-1), 1) := by decide +kernel
theorem dX6_delivers_62 : decode cX6_delivers 62 = .ok (.if_icmp .eq 19, 3) := by decide +kernel
theorem dX6_delivers_65 : decode cX6_delivers 65 = .ok (.aload_n 0, 1) := by decide +kernel
theorem dX6_delivers_66 : decode cX6_delivers 66 = .ok (.iload_n 3, 1) := by decide +kernel
theorem dX6_delivers_67 : decode cX6_delivers 67 = .ok (.aload_n 0, 1) := by decide +kernel
theorem dX6_delivers_68 : decode cX6_delivers 68 = .ok (.getfield 7, 3) := by decide +kernel
theorem dX6_delivers_71 : decode cX6_delivers 71 = .ok (.bipush 19, 2) := by decide +kernel
theorem dX6_delivers_73 : decode cX6_delivers 73 = .ok (.iload_n 2, 1) := by decide +kernel
theorem dX6_delivers_74 : decode cX6_delivers 74 = .ok (.iadd, 1) := by decide +kernel
theorem dX6_delivers_75 : decode cX6_delivers 75 = .ok (.iconst 2, 1) := by decide +kernel
theorem dX6_delivers_76 : decode cX6_delivers 76 = .ok (.isub, 1) := by decide +kernel
theorem dX6_delivers_77 : decode cX6_delivers 77 = .ok (.iaload, 1) := by decide +kernel
theorem dX6_delivers_78 : decode cX6_delivers 78 = .ok (.invokevirtual 102, 3) := by decide +kernel
theorem dX6_delivers_81 : decode cX6_delivers 81 = .ok (.iinc 2 1, 3) := by decide +kernel
theorem dX6_delivers_84 : decode cX6_delivers 84 = .ok (.goto (-41), 3) := by decide +kernel
theorem dX6_delivers_87 : decode cX6_delivers 87 = .ok (.return_, 1) := by decide +kernel
theorem dX6_takesIntoFrame_0 : decode cX6_takesIntoFrame 0 = .ok (.bipush 19, 2) := by decide +kernel
theorem dX6_takesIntoFrame_2 : decode cX6_takesIntoFrame 2 = .ok (.aload_n 0, 1) := by decide +kernel
theorem dX6_takesIntoFrame_3 : decode cX6_takesIntoFrame 3 = .ok (.getfield 7, 3) := by decide +kernel
theorem dX6_takesIntoFrame_6 : decode cX6_takesIntoFrame 6 = .ok (.bipush 16, 2) := by decide +kernel
theorem dX6_takesIntoFrame_8 : decode cX6_takesIntoFrame 8 = .ok (.iaload, 1) := by decide +kernel
theorem dX6_takesIntoFrame_9 : decode cX6_takesIntoFrame 9 = .ok (.bipush 8, 2) := by decide +kernel
theorem dX6_takesIntoFrame_11 : decode cX6_takesIntoFrame 11 = .ok (.idiv, 1) := by decide +kernel
theorem dX6_takesIntoFrame_12 : decode cX6_takesIntoFrame 12 = .ok (.iadd, 1) := by decide +kernel
theorem dX6_takesIntoFrame_13 : decode cX6_takesIntoFrame 13 = .ok (.istore_n 2, 1) := by decide +kernel
theorem dX6_takesIntoFrame_14 : decode cX6_takesIntoFrame 14 = .ok (.aload_n 0, 1) := by decide +kernel
theorem dX6_takesIntoFrame_15 : decode cX6_takesIntoFrame 15 = .ok (.getfield 7, 3) := by decide +kernel
theorem dX6_takesIntoFrame_18 : decode cX6_takesIntoFrame 18 = .ok (.iload_n 2, 1) := by decide +kernel
theorem dX6_takesIntoFrame_19 : decode cX6_takesIntoFrame 19 = .ok (.iconst 2, 1) := by decide +kernel
theorem dX6_takesIntoFrame_20 : decode cX6_takesIntoFrame 20 = .ok (.aload_n 0, 1) := by decide +kernel
theorem dX6_takesIntoFrame_21 : decode cX6_takesIntoFrame 21 = .ok (.getfield 7, 3) := by decide +kernel
theorem dX6_takesIntoFrame_24 : decode cX6_takesIntoFrame 24 = .ok (.iload_n 2, 1) := by decide +kernel
theorem dX6_takesIntoFrame_25 : decode cX6_takesIntoFrame 25 = .ok (.iaload, 1) := by decide +kernel
theorem dX6_takesIntoFrame_26 : decode cX6_takesIntoFrame 26 = .ok (.imul, 1) := by decide +kernel
theorem dX6_takesIntoFrame_27 : decode cX6_takesIntoFrame 27 = .ok (.iload_n 1, 1) := by decide +kernel
theorem dX6_takesIntoFrame_28 : decode cX6_takesIntoFrame 28 = .ok (.iadd, 1) := by decide +kernel
theorem dX6_takesIntoFrame_29 : decode cX6_takesIntoFrame 29 = .ok (.iastore, 1) := by decide +kernel
theorem dX6_takesIntoFrame_30 : decode cX6_takesIntoFrame 30 = .ok (.aload_n 0, 1) := by decide +kernel
theorem dX6_takesIntoFrame_31 : decode cX6_takesIntoFrame 31 = .ok (.getfield 7, 3) := by decide +kernel
theorem dX6_takesIntoFrame_34 : decode cX6_takesIntoFrame 34 = .ok (.bipush 18, 2) := by decide +kernel
theorem dX6_takesIntoFrame_36 : decode cX6_takesIntoFrame 36 = .ok (.iload_n 1, 1) := by decide +kernel
theorem dX6_takesIntoFrame_37 : decode cX6_takesIntoFrame 37 = .ok (.iastore, 1) := by decide +kernel
theorem dX6_takesIntoFrame_38 : decode cX6_takesIntoFrame 38 = .ok (.aload_n 0, 1) := by decide +kernel
theorem dX6_takesIntoFrame_39 : decode cX6_takesIntoFrame 39 = .ok (.getfield 7, 3) := by decide +kernel
theorem dX6_takesIntoFrame_42 : decode cX6_takesIntoFrame 42 = .ok (.bipush 16, 2) := by decide +kernel
theorem dX6_takesIntoFrame_44 : decode cX6_takesIntoFrame 44 = .ok (.dup2, 1) := by decide +kernel
theorem dX6_takesIntoFrame_45 : decode cX6_takesIntoFrame 45 = .ok (.iaload, 1) := by decide +kernel
theorem dX6_takesIntoFrame_46 : decode cX6_takesIntoFrame 46 = .ok (.iconst 1, 1) := by decide +kernel
theorem dX6_takesIntoFrame_47 : decode cX6_takesIntoFrame 47 = .ok (.iadd, 1) := by decide +kernel
theorem dX6_takesIntoFrame_48 : decode cX6_takesIntoFrame 48 = .ok (.iastore, 1) := by decide +kernel
theorem dX6_takesIntoFrame_49 : decode cX6_takesIntoFrame 49 = .ok (.aload_n 0, 1) := by decide +kernel
theorem dX6_takesIntoFrame_50 : decode cX6_takesIntoFrame 50 = .ok (.getfield 7, 3) := by decide +kernel
theorem dX6_takesIntoFrame_53 : decode cX6_takesIntoFrame 53 = .ok (.bipush 16, 2) := by decide +kernel
theorem dX6_takesIntoFrame_55 : decode cX6_takesIntoFrame 55 = .ok (.iaload, 1) := by decide +kernel
theorem dX6_takesIntoFrame_56 : decode cX6_takesIntoFrame 56 = .ok (.bipush 8, 2) := by decide +kernel
theorem dX6_takesIntoFrame_58 : decode cX6_takesIntoFrame 58 = .ok (.aload_n 0, 1) := by decide +kernel
theorem dX6_takesIntoFrame_59 : decode cX6_takesIntoFrame 59 = .ok (.getfield 7, 3) := by decide +kernel
theorem dX6_takesIntoFrame_62 : decode cX6_takesIntoFrame 62 = .ok (.iconst 0, 1) := by decide +kernel
theorem dX6_takesIntoFrame_63 : decode cX6_takesIntoFrame 63 = .ok (.iaload, 1) := by decide +kernel
theorem dX6_takesIntoFrame_64 : decode cX6_takesIntoFrame 64 = .ok (.iconst 2, 1) := by decide +kernel
theorem dX6_takesIntoFrame_65 : decode cX6_takesIntoFrame 65 = .ok (.isub, 1) := by decide +kernel
theorem dX6_takesIntoFrame_66 : decode cX6_takesIntoFrame 66 = .ok (.imul, 1) := by decide +kernel
theorem dX6_takesIntoFrame_67 : decode cX6_takesIntoFrame 67 = .ok (.if_icmp .ne 42, 3) := by decide +kernel
theorem dX6_takesIntoFrame_70 : decode cX6_takesIntoFrame 70 = .ok (.aload_n 0, 1) := by decide +kernel
theorem dX6_takesIntoFrame_71 : decode cX6_takesIntoFrame 71 = .ok (.getfield 7, 3) := by decide +kernel
theorem dX6_takesIntoFrame_74 : decode cX6_takesIntoFrame 74 = .ok (.bipush 7, 2) := by decide +kernel
theorem dX6_takesIntoFrame_76 : decode cX6_takesIntoFrame 76 = .ok (.iaload, 1) := by decide +kernel
theorem dX6_takesIntoFrame_77 : decode cX6_takesIntoFrame 77 = .ok (.iconst 2, 1) := by decide +kernel
theorem dX6_takesIntoFrame_78 : decode cX6_takesIntoFrame 78 = .ok (.if_icmp .ne 7, 3) := by decide +kernel
theorem dX6_takesIntoFrame_81 : decode cX6_takesIntoFrame 81 = .ok (.aload_n 0, 1) := by decide +kernel
theorem dX6_takesIntoFrame_82 : decode cX6_takesIntoFrame 82 = .ok (.invokevirtual 105, 3) := by decide +kernel
theorem dX6_takesIntoFrame_85 : decode cX6_takesIntoFrame 85 = .ok (.aload_n 0, 1) := by decide +kernel
theorem dX6_takesIntoFrame_86 : decode cX6_takesIntoFrame 86 = .ok (.getfield 7, 3) := by decide +kernel
theorem dX6_takesIntoFrame_89 : decode cX6_takesIntoFrame 89 = .ok (.bipush 15, 2) := by decide +kernel
theorem dX6_takesIntoFrame_91 : decode cX6_takesIntoFrame 91 = .ok (.iconst 2, 1) := by decide +kernel
theorem dX6_takesIntoFrame_92 : decode cX6_takesIntoFrame 92 = .ok (.iastore, 1) := by decide +kernel
theorem dX6_takesIntoFrame_93 : decode cX6_takesIntoFrame 93 = .ok (.aload_n 0, 1) := by decide +kernel
theorem dX6_takesIntoFrame_94 : decode cX6_takesIntoFrame 94 = .ok (.getfield 7, 3) := by decide +kernel
theorem dX6_takesIntoFrame_97 : decode cX6_takesIntoFrame 97 = .ok (.bipush 16, 2) := by decide +kernel
theorem dX6_takesIntoFrame_99 : decode cX6_takesIntoFrame 99 = .ok (.iconst 0, 1) := by decide +kernel
theorem dX6_takesIntoFrame_100 : decode cX6_takesIntoFrame 100 = .ok (.iastore, 1) := by decide +kernel
theorem dX6_takesIntoFrame_101 : decode cX6_takesIntoFrame 101 = .ok (.aload_n 0, 1) := by decide +kernel
theorem dX6_takesIntoFrame_102 : decode cX6_takesIntoFrame 102 = .ok (.getfield 7, 3) := by decide +kernel
theorem dX6_takesIntoFrame_105 : decode cX6_takesIntoFrame 105 = .ok (.bipush 17, 2) := by decide +kernel
theorem dX6_takesIntoFrame_107 : decode cX6_takesIntoFrame 107 = .ok (.iconst 0, 1) := by decide +kernel
theorem dX6_takesIntoFrame_108 : decode cX6_takesIntoFrame 108 = .ok (.iastore, 1) := by decide +kernel
theorem dX6_takesIntoFrame_109 : decode cX6_takesIntoFrame 109 = .ok (.return_, 1) := by decide +kernel
theorem dX6_compares_0 : decode cX6_compares 0 = .ok (.aload_n 0, 1) := by decide +kernel
theorem dX6_compares_1 : decode cX6_compares 1 = .ok (.getfield 7, 3) := by decide +kernel
theorem dX6_compares_4 : decode cX6_compares 4 = .ok (.bipush 17, 2) := by decide +kernel
theorem dX6_compares_6 : decode cX6_compares 6 = .ok (.iaload, 1) := by decide +kernel
theorem dX6_compares_7 : decode cX6_compares 7 = .ok (.ldc 108, 2) := by decide +kernel
theorem dX6_compares_9 : decode cX6_compares 9 = .ok (.if_icmp .ne 26, 3) := by decide +kernel
theorem dX6_compares_12 : decode cX6_compares 12 = .ok (.aload_n 0, 1) := by decide +kernel
theorem dX6_compares_13 : decode cX6_compares 13 = .ok (.getfield 7, 3) := by decide +kernel
theorem dX6_compares_16 : decode cX6_compares 16 = .ok (.bipush 7, 2) := by decide +kernel
theorem dX6_compares_18 : decode cX6_compares 18 = .ok (.iconst 2, 1) := by decide +kernel
theorem dX6_compares_19 : decode cX6_compares 19 = .ok (.iastore, 1) := by decide +kernel
theorem dX6_compares_20 : decode cX6_compares 20 = .ok (.aload_n 0, 1) := by decide +kernel
theorem dX6_compares_21 : decode cX6_compares 21 = .ok (.getfield 7, 3) := by decide +kernel
theorem dX6_compares_24 : decode cX6_compares 24 = .ok (.bipush 8, 2) := by decide +kernel
theorem dX6_compares_26 : decode cX6_compares 26 = .ok (.iconst 0, 1) := by decide +kernel
theorem dX6_compares_27 : decode cX6_compares 27 = .ok (.iastore, 1) := by decide +kernel
theorem dX6_compares_28 : decode cX6_compares 28 = .ok (.aload_n 0, 1) := by decide +kernel
theorem dX6_compares_29 : decode cX6_compares 29 = .ok (.invokevirtual 109, 3) := by decide +kernel
theorem dX6_compares_32 : decode cX6_compares 32 = .ok (.goto 107, 3) := by decide +kernel
theorem dX6_compares_35 : decode cX6_compares 35 = .ok (.aload_n 0, 1) := by decide +kernel
theorem dX6_compares_36 : decode cX6_compares 36 = .ok (.getfield 7, 3) := by decide +kernel
theorem dX6_compares_39 : decode cX6_compares 39 = .ok (.bipush 7, 2) := by decide +kernel
theorem dX6_compares_41 : decode cX6_compares 41 = .ok (.iaload, 1) := by decide +kernel
theorem dX6_compares_42 : decode cX6_compares 42 = .ok (.iconst 1, 1) := by decide +kernel
theorem dX6_compares_43 : decode cX6_compares 43 = .ok (.if_icmp .ne 22, 3) := by decide +kernel
theorem dX6_compares_46 : decode cX6_compares 46 = .ok (.aload_n 0, 1) := by decide +kernel
theorem dX6_compares_47 : decode cX6_compares 47 = .ok (.getfield 7, 3) := by decide +kernel
theorem dX6_compares_50 : decode cX6_compares 50 = .ok (.bipush 7, 2) := by decide +kernel
theorem dX6_compares_52 : decode cX6_compares 52 = .ok (.iconst 0, 1) := by decide +kernel
theorem dX6_compares_53 : decode cX6_compares 53 = .ok (.iastore, 1) := by decide +kernel
theorem dX6_compares_54 : decode cX6_compares 54 = .ok (.aload_n 0, 1) := by decide +kernel
theorem dX6_compares_55 : decode cX6_compares 55 = .ok (.getfield 7, 3) := by decide +kernel
theorem dX6_compares_58 : decode cX6_compares 58 = .ok (.bipush 15, 2) := by decide +kernel
theorem dX6_compares_60 : decode cX6_compares 60 = .ok (.iconst 0, 1) := by decide +kernel
theorem dX6_compares_61 : decode cX6_compares 61 = .ok (.iastore, 1) := by decide +kernel
theorem dX6_compares_62 : decode cX6_compares 62 = .ok (.goto 77, 3) := by decide +kernel
theorem dX6_compares_65 : decode cX6_compares 65 = .ok (.aload_n 0, 1) := by decide +kernel
theorem dX6_compares_66 : decode cX6_compares 66 = .ok (.getfield 7, 3) := by decide +kernel
theorem dX6_compares_69 : decode cX6_compares 69 = .ok (.bipush 18, 2) := by decide +kernel
theorem dX6_compares_71 : decode cX6_compares 71 = .ok (.iaload, 1) := by decide +kernel
theorem dX6_compares_72 : decode cX6_compares 72 = .ok (.bipush 15, 2) := by decide +kernel
theorem dX6_compares_74 : decode cX6_compares 74 = .ok (.ishl, 1) := by decide +kernel
theorem dX6_compares_75 : decode cX6_compares 75 = .ok (.aload_n 0, 1) := by decide +kernel
theorem dX6_compares_76 : decode cX6_compares 76 = .ok (.getfield 7, 3) := by decide +kernel
theorem dX6_compares_79 : decode cX6_compares 79 = .ok (.bipush 17, 2) := by decide +kernel
theorem dX6_compares_81 : decode cX6_compares 81 = .ok (.iaload, 1) := by decide +kernel
theorem dX6_compares_82 : decode cX6_compares 82 = .ok (.iconst 1, 1) := by decide +kernel
theorem dX6_compares_83 : decode cX6_compares 83 = .ok (.ishr, 1) := by decide +kernel
theorem dX6_compares_84 : decode cX6_compares 84 = .ok (.ior, 1) := by decide +kernel
theorem dX6_compares_85 : decode cX6_compares 85 = .ok (.ldc 108, 2) := by decide +kernel
theorem dX6_compares_87 : decode cX6_compares 87 = .ok (.if_icmp .ne 44, 3) := by decide +kernel
theorem dX6_compares_90 : decode cX6_compares 90 = .ok (.aload_n 0, 1) := by decide +kernel
theorem dX6_compares_91 : decode cX6_compares 91 = .ok (.getfield 7, 3) := by decide +kernel
theorem dX6_compares_94 : decode cX6_compares 94 = .ok (.bipush 11, 2) := by decide +kernel
theorem dX6_compares_96 : decode cX6_compares 96 = .ok (.dup2, 1) := by decide +kernel
theorem dX6_compares_97 : decode cX6_compares 97 = .ok (.iaload, 1) := by decide +kernel
theorem dX6_compares_98 : decode cX6_compares 98 = .ok (.iconst 1, 1) := by decide +kernel
theorem dX6_compares_99 : decode cX6_compares 99 = .ok (.iadd, 1) := by decide +kernel
theorem dX6_compares_100 : decode cX6_compares 100 = .ok (.iastore, 1) := by decide +kernel
theorem dX6_compares_101 : decode cX6_compares 101 = .ok (.aload_n 0, 1) := by decide +kernel
theorem dX6_compares_102 : decode cX6_compares 102 = .ok (.getfield 7, 3) := by decide +kernel
theorem dX6_compares_105 : decode cX6_compares 105 = .ok (.bipush 8, 2) := by decide +kernel
theorem dX6_compares_107 : decode cX6_compares 107 = .ok (.iconst 0, 1) := by decide +kernel
theorem dX6_compares_108 : decode cX6_compares 108 = .ok (.iastore, 1) := by decide +kernel
theorem dX6_compares_109 : decode cX6_compares 109 = .ok (.aload_n 0, 1) := by decide +kernel
theorem dX6_compares_110 : decode cX6_compares 110 = .ok (.getfield 7, 3) := by decide +kernel
theorem dX6_compares_113 : decode cX6_compares 113 = .ok (.bipush 17, 2) := by decide +kernel
theorem dX6_compares_115 : decode cX6_compares 115 = .ok (.iaload, 1) := by decide +kernel
theorem dX6_compares_116 : decode cX6_compares 116 = .ok (.iconst 1, 1) := by decide +kernel
theorem dX6_compares_117 : decode cX6_compares 117 = .ok (.iand, 1) := by decide +kernel
theorem dX6_compares_118 : decode cX6_compares 118 = .ok (.istore_n 1, 1) := by decide +kernel
theorem dX6_compares_119 : decode cX6_compares 119 = .ok (.aload_n 0, 1) := by decide +kernel
theorem dX6_compares_120 : decode cX6_compares 120 = .ok (.invokevirtual 109, 3) := by decide +kernel
theorem dX6_compares_123 : decode cX6_compares 123 = .ok (.aload_n 0, 1) := by decide +kernel
theorem dX6_compares_124 : decode cX6_compares 124 = .ok (.iload_n 1, 1) := by decide +kernel
theorem dX6_compares_125 : decode cX6_compares 125 = .ok (.invokevirtual 112, 3) := by decide +kernel
theorem dX6_compares_128 : decode cX6_compares 128 = .ok (.goto 11, 3) := by decide +kernel
theorem dX6_compares_131 : decode cX6_compares 131 = .ok (.aload_n 0, 1) := by decide +kernel
theorem dX6_compares_132 : decode cX6_compares 132 = .ok (.getfield 7, 3) := by decide +kernel
theorem dX6_compares_135 : decode cX6_compares 135 = .ok (.bipush 15, 2) := by decide +kernel
theorem dX6_compares_137 : decode cX6_compares 137 = .ok (.iconst 3, 1) := by decide +kernel
theorem dX6_compares_138 : decode cX6_compares 138 = .ok (.iastore, 1) := by decide +kernel
theorem dX6_compares_139 : decode cX6_compares 139 = .ok (.return_, 1) := by decide +kernel
theorem dX6_takesOneMore_0 : decode cX6_takesOneMore 0 = .ok (.aload_n 0, 1) := by decide +kernel
theorem dX6_takesOneMore_1 : decode cX6_takesOneMore 1 = .ok (.getfield 7, 3) := by decide +kernel
theorem dX6_takesOneMore_4 : decode cX6_takesOneMore 4 = .ok (.bipush 17, 2) := by decide +kernel
theorem dX6_takesOneMore_6 : decode cX6_takesOneMore 6 = .ok (.iaload, 1) := by decide +kernel
theorem dX6_takesOneMore_7 : decode cX6_takesOneMore 7 = .ok (.ldc 108, 2) := by decide +kernel
theorem dX6_takesOneMore_9 : decode cX6_takesOneMore 9 = .ok (.if_icmp .ne 27, 3) := by decide +kernel
theorem dX6_takesOneMore_12 : decode cX6_takesOneMore 12 = .ok (.aload_n 0, 1) := by decide +kernel
theorem dX6_takesOneMore_13 : decode cX6_takesOneMore 13 = .ok (.getfield 7, 3) := by decide +kernel
theorem dX6_takesOneMore_16 : decode cX6_takesOneMore 16 = .ok (.bipush 12, 2) := by decide +kernel
theorem dX6_takesOneMore_18 : decode cX6_takesOneMore 18 = .ok (.dup2, 1) := by decide +kernel
theorem dX6_takesOneMore_19 : decode cX6_takesOneMore 19 = .ok (.iaload, 1) := by decide +kernel
theorem dX6_takesOneMore_20 : decode cX6_takesOneMore 20 = .ok (.iconst 1, 1) := by decide +kernel
theorem dX6_takesOneMore_21 : decode cX6_takesOneMore 21 = .ok (.iadd, 1) := by decide +kernel
theorem dX6_takesOneMore_22 : decode cX6_takesOneMore 22 = .ok (.iastore, 1) := by decide +kernel
theorem dX6_takesOneMore_23 : decode cX6_takesOneMore 23 = .ok (.aload_n 0, 1) := by decide +kernel
theorem dX6_takesOneMore_24 : decode cX6_takesOneMore 24 = .ok (.getfield 7, 3) := by decide +kernel
theorem dX6_takesOneMore_27 : decode cX6_takesOneMore 27 = .ok (.bipush 8, 2) := by decide +kernel
theorem dX6_takesOneMore_29 : decode cX6_takesOneMore 29 = .ok (.iconst 0, 1) := by decide +kernel
theorem dX6_takesOneMore_30 : decode cX6_takesOneMore 30 = .ok (.iastore, 1) := by decide +kernel
theorem dX6_takesOneMore_31 : decode cX6_takesOneMore 31 = .ok (.aload_n 0, 1) := by decide +kernel
theorem dX6_takesOneMore_32 : decode cX6_takesOneMore 32 = .ok (.invokevirtual 109, 3) := by decide +kernel
theorem dX6_takesOneMore_35 : decode cX6_takesOneMore 35 = .ok (.return_, 1) := by decide +kernel
theorem dX6_takesOneMore_36 : decode cX6_takesOneMore 36 = .ok (.aload_n 0, 1) := by decide +kernel
theorem dX6_takesOneMore_37 : decode cX6_takesOneMore 37 = .ok (.getfield 7, 3) := by decide +kernel
theorem dX6_takesOneMore_40 : decode cX6_takesOneMore 40 = .ok (.bipush 13, 2) := by decide +kernel
theorem dX6_takesOneMore_42 : decode cX6_takesOneMore 42 = .ok (.dup2, 1) := by decide +kernel
theorem dX6_takesOneMore_43 : decode cX6_takesOneMore 43 = .ok (.iaload, 1) := by decide +kernel
theorem dX6_takesOneMore_44 : decode cX6_takesOneMore 44 = .ok (.iconst 1, 1) := by decide +kernel
theorem dX6_takesOneMore_45 : decode cX6_takesOneMore 45 = .ok (.iadd, 1) := by decide +kernel
theorem dX6_takesOneMore_46 : decode cX6_takesOneMore 46 = .ok (.iastore, 1) := by decide +kernel
theorem dX6_takesOneMore_47 : decode cX6_takesOneMore 47 = .ok (.aload_n 0, 1) := by decide +kernel
theorem dX6_takesOneMore_48 : decode cX6_takesOneMore 48 = .ok (.getfield 7, 3) := by decide +kernel
theorem dX6_takesOneMore_51 : decode cX6_takesOneMore 51 = .ok (.bipush 8, 2) := by decide +kernel
theorem dX6_takesOneMore_53 : decode cX6_takesOneMore 53 = .ok (.dup2, 1) := by decide +kernel
theorem dX6_takesOneMore_54 : decode cX6_takesOneMore 54 = .ok (.iaload, 1) := by decide +kernel
theorem dX6_takesOneMore_55 : decode cX6_takesOneMore 55 = .ok (.iconst 1, 1) := by decide +kernel
theorem dX6_takesOneMore_56 : decode cX6_takesOneMore 56 = .ok (.iadd, 1) := by decide +kernel
theorem dX6_takesOneMore_57 : decode cX6_takesOneMore 57 = .ok (.iastore, 1) := by decide +kernel
theorem dX6_takesOneMore_58 : decode cX6_takesOneMore 58 = .ok (.aload_n 0, 1) := by decide +kernel
theorem dX6_takesOneMore_59 : decode cX6_takesOneMore 59 = .ok (.getfield 7, 3) := by decide +kernel
theorem dX6_takesOneMore_62 : decode cX6_takesOneMore 62 = .ok (.bipush 8, 2) := by decide +kernel
theorem dX6_takesOneMore_64 : decode cX6_takesOneMore 64 = .ok (.iaload, 1) := by decide +kernel
theorem dX6_takesOneMore_65 : decode cX6_takesOneMore 65 = .ok (.iconst 3, 1) := by decide +kernel
theorem dX6_takesOneMore_66 : decode cX6_takesOneMore 66 = .ok (.if_icmp .ne 18, 3) := by decide +kernel
theorem dX6_takesOneMore_69 : decode cX6_takesOneMore 69 = .ok (.aload_n 0, 1) := by decide +kernel
theorem dX6_takesOneMore_70 : decode cX6_takesOneMore 70 = .ok (.getfield 7, 3) := by decide +kernel
theorem dX6_takesOneMore_73 : decode cX6_takesOneMore 73 = .ok (.bipush 8, 2) := by decide +kernel
theorem dX6_takesOneMore_75 : decode cX6_takesOneMore 75 = .ok (.iconst 0, 1) := by decide +kernel
theorem dX6_takesOneMore_76 : decode cX6_takesOneMore 76 = .ok (.iastore, 1) := by decide +kernel
theorem dX6_takesOneMore_77 : decode cX6_takesOneMore 77 = .ok (.aload_n 0, 1) := by decide +kernel
theorem dX6_takesOneMore_78 : decode cX6_takesOneMore 78 = .ok (.invokevirtual 30, 3) := by decide +kernel
theorem dX6_takesOneMore_81 : decode cX6_takesOneMore 81 = .ok (.goto 12, 3) := by decide +kernel
theorem dX6_takesOneMore_84 : decode cX6_takesOneMore 84 = .ok (.aload_n 0, 1) := by decide +kernel
theorem dX6_takesOneMore_85 : decode cX6_takesOneMore 85 = .ok (.invokevirtual 109, 3) := by decide +kernel
theorem dX6_takesOneMore_88 : decode cX6_takesOneMore 88 = .ok (.aload_n 0, 1) := by decide +kernel
theorem dX6_takesOneMore_89 : decode cX6_takesOneMore 89 = .ok (.iload_n 1, 1) := by decide +kernel
theorem dX6_takesOneMore_90 : decode cX6_takesOneMore 90 = .ok (.invokevirtual 112, 3) := by decide +kernel
theorem dX6_takesOneMore_93 : decode cX6_takesOneMore 93 = .ok (.return_, 1) := by decide +kernel
theorem dX6_takesBit_0 : decode cX6_takesBit 0 = .ok (.aload_n 0, 1) := by decide +kernel
theorem dX6_takesBit_1 : decode cX6_takesBit 1 = .ok (.getfield 7, 3) := by decide +kernel
theorem dX6_takesBit_4 : decode cX6_takesBit 4 = .ok (.bipush 15, 2) := by decide +kernel
theorem dX6_takesBit_6 : decode cX6_takesBit 6 = .ok (.iaload, 1) := by decide +kernel
theorem dX6_takesBit_7 : decode cX6_takesBit 7 = .ok (.iconst 1, 1) := by decide +kernel
theorem dX6_takesBit_8 : decode cX6_takesBit 8 = .ok (.if_icmp .ne 9, 3) := by decide +kernel
theorem dX6_takesBit_11 : decode cX6_takesBit 11 = .ok (.aload_n 0, 1) := by decide +kernel
theorem dX6_takesBit_12 : decode cX6_takesBit 12 = .ok (.iload_n 1, 1) := by decide +kernel
theorem dX6_takesBit_13 : decode cX6_takesBit 13 = .ok (.invokevirtual 112, 3) := by decide +kernel
theorem dX6_takesBit_16 : decode cX6_takesBit 16 = .ok (.return_, 1) := by decide +kernel
theorem dX6_takesBit_17 : decode cX6_takesBit 17 = .ok (.aload_n 0, 1) := by decide +kernel
theorem dX6_takesBit_18 : decode cX6_takesBit 18 = .ok (.getfield 7, 3) := by decide +kernel
theorem dX6_takesBit_21 : decode cX6_takesBit 21 = .ok (.bipush 17, 2) := by decide +kernel
theorem dX6_takesBit_23 : decode cX6_takesBit 23 = .ok (.aload_n 0, 1) := by decide +kernel
theorem dX6_takesBit_24 : decode cX6_takesBit 24 = .ok (.getfield 7, 3) := by decide +kernel
theorem dX6_takesBit_27 : decode cX6_takesBit 27 = .ok (.bipush 17, 2) := by decide +kernel
theorem dX6_takesBit_29 : decode cX6_takesBit 29 = .ok (.iaload, 1) := by decide +kernel
theorem dX6_takesBit_30 : decode cX6_takesBit 30 = .ok (.iconst 1, 1) := by decide +kernel
theorem dX6_takesBit_31 : decode cX6_takesBit 31 = .ok (.ishl, 1) := by decide +kernel
theorem dX6_takesBit_32 : decode cX6_takesBit 32 = .ok (.iload_n 1, 1) := by decide +kernel
theorem dX6_takesBit_33 : decode cX6_takesBit 33 = .ok (.ior, 1) := by decide +kernel
theorem dX6_takesBit_34 : decode cX6_takesBit 34 = .ok (.ldc 115, 2) := by decide +kernel
theorem dX6_takesBit_36 : decode cX6_takesBit 36 = .ok (.iand, 1) := by decide +kernel
theorem dX6_takesBit_37 : decode cX6_takesBit 37 = .ok (.iastore, 1) := by decide +kernel
theorem dX6_takesBit_38 : decode cX6_takesBit 38 = .ok (.aload_n 0, 1) := by decide +kernel
theorem dX6_takesBit_39 : decode cX6_takesBit 39 = .ok (.getfield 7, 3) := by decide +kernel
theorem dX6_takesBit_42 : decode cX6_takesBit 42 = .ok (.bipush 16, 2) := by decide +kernel
theorem dX6_takesBit_44 : decode cX6_takesBit 44 = .ok (.dup2, 1) := by decide +kernel
theorem dX6_takesBit_45 : decode cX6_takesBit 45 = .ok (.iaload, 1) := by decide +kernel
theorem dX6_takesBit_46 : decode cX6_takesBit 46 = .ok (.aload_n 0, 1) := by decide +kernel
theorem dX6_takesBit_47 : decode cX6_takesBit 47 = .ok (.getfield 7, 3) := by decide +kernel
theorem dX6_takesBit_50 : decode cX6_takesBit 50 = .ok (.bipush 16, 2) := by decide +kernel
theorem dX6_takesBit_52 : decode cX6_takesBit 52 = .ok (.iaload, 1) := by decide +kernel
theorem dX6_takesBit_53 : decode cX6_takesBit 53 = .ok (.bipush 16, 2) := by decide +kernel
theorem dX6_takesBit_55 : decode cX6_takesBit 55 = .ok (.if_icmp .ge 7, 3) := by decide +kernel
theorem dX6_takesBit_58 : decode cX6_takesBit 58 = .ok (.iconst 1, 1) := by decide +kernel
theorem dX6_takesBit_59 : decode cX6_takesBit 59 = .ok (.goto 4, 3) := by decide +kernel
theorem dX6_takesBit_62 : decode cX6_takesBit 62 = .ok (.iconst 0, 1) := by decide +kernel
theorem dX6_takesBit_63 : decode cX6_takesBit 63 = .ok (.iadd, 1) := by decide +kernel
theorem dX6_takesBit_64 : decode cX6_takesBit 64 = .ok (.iastore, 1) := by decide +kernel
theorem dX6_takesBit_65 : decode cX6_takesBit 65 = .ok (.aload_n 0, 1) := by decide +kernel
theorem dX6_takesBit_66 : decode cX6_takesBit 66 = .ok (.getfield 7, 3) := by decide +kernel
theorem dX6_takesBit_69 : decode cX6_takesBit 69 = .ok (.bipush 15, 2) := by decide +kernel
theorem dX6_takesBit_71 : decode cX6_takesBit 71 = .ok (.iaload, 1) := by decide +kernel
theorem dX6_takesBit_72 : decode cX6_takesBit 72 = .ok (.iconst 3, 1) := by decide +kernel
theorem dX6_takesBit_73 : decode cX6_takesBit 73 = .ok (.if_icmp .ne 11, 3) := by decide +kernel
theorem dX6_takesBit_76 : decode cX6_takesBit 76 = .ok (.aload_n 0, 1) := by decide +kernel
theorem dX6_takesBit_77 : decode cX6_takesBit 77 = .ok (.iload_n 1, 1) := by decide +kernel
theorem dX6_takesBit_78 : decode cX6_takesBit 78 = .ok (.invokevirtual 116, 3) := by decide +kernel
theorem dX6_takesBit_81 : decode cX6_takesBit 81 = .ok (.goto 80, 3) := by decide +kernel
theorem dX6_takesBit_84 : decode cX6_takesBit 84 = .ok (.aload_n 0, 1) := by decide +kernel
theorem dX6_takesBit_85 : decode cX6_takesBit 85 = .ok (.getfield 7, 3) := by decide +kernel
theorem dX6_takesBit_88 : decode cX6_takesBit 88 = .ok (.bipush 15, 2) := by decide +kernel
theorem dX6_takesBit_90 : decode cX6_takesBit 90 = .ok (.iaload, 1) := by decide +kernel
theorem dX6_takesBit_91 : decode cX6_takesBit 91 = .ok (.iconst 2, 1) := by decide +kernel
theorem dX6_takesBit_92 : decode cX6_takesBit 92 = .ok (.if_icmp .ne 22, 3) := by decide +kernel
theorem dX6_takesBit_95 : decode cX6_takesBit 95 = .ok (.aload_n 0, 1) := by decide +kernel
theorem dX6_takesBit_96 : decode cX6_takesBit 96 = .ok (.getfield 7, 3) := by decide +kernel
theorem dX6_takesBit_99 : decode cX6_takesBit 99 = .ok (.bipush 16, 2) := by decide +kernel
theorem dX6_takesBit_101 : decode cX6_takesBit 101 = .ok (.iaload, 1) := by decide +kernel
theorem dX6_takesBit_102 : decode cX6_takesBit 102 = .ok (.bipush 16, 2) := by decide +kernel
theorem dX6_takesBit_104 : decode cX6_takesBit 104 = .ok (.if_icmp .ne 57, 3) := by decide +kernel
theorem dX6_takesBit_107 : decode cX6_takesBit 107 = .ok (.aload_n 0, 1) := by decide +kernel
theorem dX6_takesBit_108 : decode cX6_takesBit 108 = .ok (.invokevirtual 119, 3) := by decide +kernel
theorem dX6_takesBit_111 : decode cX6_takesBit 111 = .ok (.goto 50, 3) := by decide +kernel
theorem dX6_takesBit_114 : decode cX6_takesBit 114 = .ok (.aload_n 0, 1) := by decide +kernel
theorem dX6_takesBit_115 : decode cX6_takesBit 115 = .ok (.getfield 7, 3) := by decide +kernel
theorem dX6_takesBit_118 : decode cX6_takesBit 118 = .ok (.bipush 16, 2) := by decide +kernel
theorem dX6_takesBit_120 : decode cX6_takesBit 120 = .ok (.iaload, 1) := by decide +kernel
theorem dX6_takesBit_121 : decode cX6_takesBit 121 = .ok (.bipush 16, 2) := by decide +kernel
theorem dX6_takesBit_123 : decode cX6_takesBit 123 = .ok (.if_icmp .ne 38, 3) := by decide +kernel
theorem dX6_takesBit_126 : decode cX6_takesBit 126 = .ok (.aload_n 0, 1) := by decide +kernel
theorem dX6_takesBit_127 : decode cX6_takesBit 127 = .ok (.getfield 7, 3) := by decide +kernel
theorem dX6_takesBit_130 : decode cX6_takesBit 130 = .ok (.bipush 17, 2) := by decide +kernel
theorem dX6_takesBit_132 : decode cX6_takesBit 132 = .ok (.iaload, 1) := by decide +kernel
theorem dX6_takesBit_133 : decode cX6_takesBit 133 = .ok (.ldc 108, 2) := by decide +kernel
theorem dX6_takesBit_135 : decode cX6_takesBit 135 = .ok (.if_icmp .ne 26, 3) := by decide +kernel
theorem dX6_takesBit_138 : decode cX6_takesBit 138 = .ok (.aload_n 0, 1) := by decide +kernel
theorem dX6_takesBit_139 : decode cX6_takesBit 139 = .ok (.getfield 7, 3) := by decide +kernel
theorem dX6_takesBit_142 : decode cX6_takesBit 142 = .ok (.bipush 7, 2) := by decide +kernel
theorem dX6_takesBit_144 : decode cX6_takesBit 144 = .ok (.iconst 1, 1) := by decide +kernel
theorem dX6_takesBit_145 : decode cX6_takesBit 145 = .ok (.iastore, 1) := by decide +kernel
theorem dX6_takesBit_146 : decode cX6_takesBit 146 = .ok (.aload_n 0, 1) := by decide +kernel
theorem dX6_takesBit_147 : decode cX6_takesBit 147 = .ok (.getfield 7, 3) := by decide +kernel
theorem dX6_takesBit_150 : decode cX6_takesBit 150 = .ok (.bipush 14, 2) := by decide +kernel
theorem dX6_takesBit_152 : decode cX6_takesBit 152 = .ok (.dup2, 1) := by decide +kernel
theorem dX6_takesBit_153 : decode cX6_takesBit 153 = .ok (.iaload, 1) := by decide +kernel
theorem dX6_takesBit_154 : decode cX6_takesBit 154 = .ok (.iconst 1, 1) := by decide +kernel
theorem dX6_takesBit_155 : decode cX6_takesBit 155 = .ok (.iadd, 1) := by decide +kernel
theorem dX6_takesBit_156 : decode cX6_takesBit 156 = .ok (.iastore, 1) := by decide +kernel
theorem dX6_takesBit_157 : decode cX6_takesBit 157 = .ok (.aload_n 0, 1) := by decide +kernel
theorem dX6_takesBit_158 : decode cX6_takesBit 158 = .ok (.invokevirtual 109, 3) := by decide +kernel
theorem dX6_takesBit_161 : decode cX6_takesBit 161 = .ok (.return_, 1) := by decide +kernel
theorem dX6_receive_0 : decode cX6_receive 0 = .ok (.aload_n 0, 1) := by decide +kernel
theorem dX6_receive_1 : decode cX6_receive 1 = .ok (.iload_n 1, 1) := by decide +kernel
theorem dX6_receive_2 : decode cX6_receive 2 = .ok (.iconst 1, 1) := by decide +kernel
theorem dX6_receive_3 : decode cX6_receive 3 = .ok (.sipush 2048, 3) := by decide +kernel
theorem dX6_receive_6 : decode cX6_receive 6 = .ok (.invokestatic 26, 3) := by decide +kernel
theorem dX6_receive_9 : decode cX6_receive 9 = .ok (.ifCond .ne 7, 3) := by decide +kernel
theorem dX6_receive_12 : decode cX6_receive 12 = .ok (.iconst 1, 1) := by decide +kernel
theorem dX6_receive_13 : decode cX6_receive 13 = .ok (.goto 27, 3) := by decide +kernel
theorem dX6_receive_16 : decode cX6_receive 16 = .ok (.aload_n 0, 1) := by decide +kernel
theorem dX6_receive_17 : decode cX6_receive 17 = .ok (.getfield 7, 3) := by decide +kernel
theorem dX6_receive_20 : decode cX6_receive 20 = .ok (.iconst 3, 1) := by decide +kernel
theorem dX6_receive_21 : decode cX6_receive 21 = .ok (.iaload, 1) := by decide +kernel
theorem dX6_receive_22 : decode cX6_receive 22 = .ok (.ifCond .eq 13, 3) := by decide +kernel
theorem dX6_receive_25 : decode cX6_receive 25 = .ok (.iload_n 1, 1) := by decide +kernel
theorem dX6_receive_26 : decode cX6_receive 26 = .ok (.aload_n 0, 1) := by decide +kernel
theorem dX6_receive_27 : decode cX6_receive 27 = .ok (.getfield 7, 3) := by decide +kernel
theorem dX6_receive_30 : decode cX6_receive 30 = .ok (.iconst 5, 1) := by decide +kernel
theorem dX6_receive_31 : decode cX6_receive 31 = .ok (.iaload, 1) := by decide +kernel
theorem dX6_receive_32 : decode cX6_receive 32 = .ok (.if_icmp .le 7, 3) := by decide +kernel
theorem dX6_receive_35 : decode cX6_receive 35 = .ok (.iconst 2, 1) := by decide +kernel
theorem dX6_receive_36 : decode cX6_receive 36 = .ok (.goto 4, 3) := by decide +kernel
theorem dX6_receive_39 : decode cX6_receive 39 = .ok (.iconst 0, 1) := by decide +kernel
theorem dX6_receive_40 : decode cX6_receive 40 = .ok (.putfield 19, 3) := by decide +kernel
theorem dX6_receive_43 : decode cX6_receive 43 = .ok (.aload_n 0, 1) := by decide +kernel
theorem dX6_receive_44 : decode cX6_receive 44 = .ok (.getfield 19, 3) := by decide +kernel
theorem dX6_receive_47 : decode cX6_receive 47 = .ok (.ifCond .eq 5, 3) := by decide +kernel
theorem dX6_receive_50 : decode cX6_receive 50 = .ok (.iconst 0, 1) := by decide +kernel
theorem dX6_receive_51 : decode cX6_receive 51 = .ok (.ireturn, 1) := by decide +kernel
theorem dX6_receive_52 : decode cX6_receive 52 = .ok (.aload_n 0, 1) := by decide +kernel
theorem dX6_receive_53 : decode cX6_receive 53 = .ok (.invokevirtual 33, 3) := by decide +kernel
theorem dX6_receive_56 : decode cX6_receive 56 = .ok (.aload_n 0, 1) := by decide +kernel
theorem dX6_receive_57 : decode cX6_receive 57 = .ok (.getfield 7, 3) := by decide +kernel
theorem dX6_receive_60 : decode cX6_receive 60 = .ok (.bipush 9, 2) := by decide +kernel
theorem dX6_receive_62 : decode cX6_receive 62 = .ok (.iaload, 1) := by decide +kernel
theorem dX6_receive_63 : decode cX6_receive 63 = .ok (.istore_n 2, 1) := by decide +kernel
theorem dX6_receive_64 : decode cX6_receive 64 = .ok (.iconst 0, 1) := by decide +kernel
theorem dX6_receive_65 : decode cX6_receive 65 = .ok (.istore_n 3, 1) := by decide +kernel
theorem dX6_receive_66 : decode cX6_receive 66 = .ok (.iload_n 3, 1) := by decide +kernel
theorem dX6_receive_67 : decode cX6_receive 67 = .ok (.iload_n 1, 1) := by decide +kernel
theorem dX6_receive_68 : decode cX6_receive 68 = .ok (.if_icmp .ge 23, 3) := by decide +kernel
theorem dX6_receive_71 : decode cX6_receive 71 = .ok (.aload_n 0, 1) := by decide +kernel
theorem dX6_receive_72 : decode cX6_receive 72 = .ok (.aload_n 0, 1) := by decide +kernel
theorem dX6_receive_73 : decode cX6_receive 73 = .ok (.getfield 7, 3) := by decide +kernel
theorem dX6_receive_76 : decode cX6_receive 76 = .ok (.sipush 329, 3) := by decide +kernel
theorem dX6_receive_79 : decode cX6_receive 79 = .ok (.iload_n 3, 1) := by decide +kernel
theorem dX6_receive_80 : decode cX6_receive 80 = .ok (.iadd, 1) := by decide +kernel
theorem dX6_receive_81 : decode cX6_receive 81 = .ok (.iaload, 1) := by decide +kernel
theorem dX6_receive_82 : decode cX6_receive 82 = .ok (.invokevirtual 122, 3) := by decide +kernel
theorem dX6_receive_85 : decode cX6_receive 85 = .ok (.iinc 3 1, 3) := by decide +kernel
theorem dX6_receive_88 : decode cX6_receive 88 = .ok (.goto (-22), 3) := by decide +kernel
theorem dX6_receive_91 : decode cX6_receive 91 = .ok (.aload_n 0, 1) := by decide +kernel
theorem dX6_receive_92 : decode cX6_receive 92 = .ok (.getfield 7, 3) := by decide +kernel
theorem dX6_receive_95 : decode cX6_receive 95 = .ok (.iconst 5, 1) := by decide +kernel
theorem dX6_receive_96 : decode cX6_receive 96 = .ok (.dup2, 1) := by decide +kernel
theorem dX6_receive_97 : decode cX6_receive 97 = .ok (.iaload, 1) := by decide +kernel
theorem dX6_receive_98 : decode cX6_receive 98 = .ok (.iload_n 1, 1) := by decide +kernel
theorem dX6_receive_99 : decode cX6_receive 99 = .ok (.isub, 1) := by decide +kernel
theorem dX6_receive_100 : decode cX6_receive 100 = .ok (.iastore, 1) := by decide +kernel
theorem dX6_receive_101 : decode cX6_receive 101 = .ok (.iconst 0, 1) := by decide +kernel
theorem dX6_receive_102 : decode cX6_receive 102 = .ok (.istore_n 3, 1) := by decide +kernel
theorem dX6_receive_103 : decode cX6_receive 103 = .ok (.iload_n 3, 1) := by decide +kernel
theorem dX6_receive_104 : decode cX6_receive 104 = .ok (.aload_n 0, 1) := by decide +kernel
theorem dX6_receive_105 : decode cX6_receive 105 = .ok (.getfield 7, 3) := by decide +kernel
theorem dX6_receive_108 : decode cX6_receive 108 = .ok (.iconst 5, 1) := by decide +kernel
theorem dX6_receive_109 : decode cX6_receive 109 = .ok (.iaload, 1) := by decide +kernel
theorem dX6_receive_110 : decode cX6_receive 110 = .ok (.if_icmp .ge 31, 3) := by decide +kernel
theorem dX6_receive_113 : decode cX6_receive 113 = .ok (.aload_n 0, 1) := by decide +kernel
theorem dX6_receive_114 : decode cX6_receive 114 = .ok (.getfield 7, 3) := by decide +kernel
theorem dX6_receive_117 : decode cX6_receive 117 = .ok (.sipush 329, 3) := by decide +kernel
theorem dX6_receive_120 : decode cX6_receive 120 = .ok (.iload_n 3, 1) := by decide +kernel
theorem dX6_receive_121 : decode cX6_receive 121 = .ok (.iadd, 1) := by decide +kernel
theorem dX6_receive_122 : decode cX6_receive 122 = .ok (.aload_n 0, 1) := by decide +kernel
theorem dX6_receive_123 : decode cX6_receive 123 = .ok (.getfield 7, 3) := by decide +kernel
theorem dX6_receive_126 : decode cX6_receive 126 = .ok (.sipush 329, 3) := by decide +kernel
theorem dX6_receive_129 : decode cX6_receive 129 = .ok (.iload_n 3, 1) := by decide +kernel
theorem dX6_receive_130 : decode cX6_receive 130 = .ok (.iadd, 1) := by decide +kernel
theorem dX6_receive_131 : decode cX6_receive 131 = .ok (.iload_n 1, 1) := by decide +kernel
theorem dX6_receive_132 : decode cX6_receive 132 = .ok (.iadd, 1) := by decide +kernel
theorem dX6_receive_133 : decode cX6_receive 133 = .ok (.iaload, 1) := by decide +kernel
theorem dX6_receive_134 : decode cX6_receive 134 = .ok (.iastore, 1) := by decide +kernel
theorem dX6_receive_135 : decode cX6_receive 135 = .ok (.iinc 3 1, 3) := by decide +kernel
theorem dX6_receive_138 : decode cX6_receive 138 = .ok (.goto (-35), 3) := by decide +kernel
theorem dX6_receive_141 : decode cX6_receive 141 = .ok (.aload_n 0, 1) := by decide +kernel
theorem dX6_receive_142 : decode cX6_receive 142 = .ok (.getfield 7, 3) := by decide +kernel
theorem dX6_receive_145 : decode cX6_receive 145 = .ok (.bipush 9, 2) := by decide +kernel
theorem dX6_receive_147 : decode cX6_receive 147 = .ok (.iaload, 1) := by decide +kernel
theorem dX6_receive_148 : decode cX6_receive 148 = .ok (.iload_n 2, 1) := by decide +kernel
theorem dX6_receive_149 : decode cX6_receive 149 = .ok (.isub, 1) := by decide +kernel
theorem dX6_receive_150 : decode cX6_receive 150 = .ok (.ireturn, 1) := by decide +kernel
theorem dX6_receiverState_0 : decode cX6_receiverState 0 = .ok (.aload_n 0, 1) := by decide +kernel
theorem dX6_receiverState_1 : decode cX6_receiverState 1 = .ok (.iconst 0, 1) := by decide +kernel
theorem dX6_receiverState_2 : decode cX6_receiverState 2 = .ok (.putfield 19, 3) := by decide +kernel
theorem dX6_receiverState_5 : decode cX6_receiverState 5 = .ok (.aload_n 0, 1) := by decide +kernel
theorem dX6_receiverState_6 : decode cX6_receiverState 6 = .ok (.getfield 7, 3) := by decide +kernel
theorem dX6_receiverState_9 : decode cX6_receiverState 9 = .ok (.bipush 7, 2) := by decide +kernel
theorem dX6_receiverState_11 : decode cX6_receiverState 11 = .ok (.iaload, 1) := by decide +kernel
theorem dX6_receiverState_12 : decode cX6_receiverState 12 = .ok (.ireturn, 1) := by decide +kernel
theorem dX6_received_0 : decode cX6_received 0 = .ok (.aload_n 0, 1) := by decide +kernel
theorem dX6_received_1 : decode cX6_received 1 = .ok (.iload_n 1, 1) := by decide +kernel
theorem dX6_received_2 : decode cX6_received 2 = .ok (.iconst 0, 1) := by decide +kernel
theorem dX6_received_3 : decode cX6_received 3 = .ok (.iconst 5, 1) := by decide +kernel
theorem dX6_received_4 : decode cX6_received 4 = .ok (.invokestatic 26, 3) := by decide +kernel
theorem dX6_received_7 : decode cX6_received 7 = .ok (.ifCond .eq 7, 3) := by decide +kernel
theorem dX6_received_10 : decode cX6_received 10 = .ok (.iconst 0, 1) := by decide +kernel
theorem dX6_received_11 : decode cX6_received 11 = .ok (.goto 4, 3) := by decide +kernel
theorem dX6_received_14 : decode cX6_received 14 = .ok (.iconst 1, 1) := by decide +kernel
theorem dX6_received_15 : decode cX6_received 15 = .ok (.putfield 19, 3) := by decide +kernel
theorem dX6_received_18 : decode cX6_received 18 = .ok (.aload_n 0, 1) := by decide +kernel
theorem dX6_received_19 : decode cX6_received 19 = .ok (.getfield 19, 3) := by decide +kernel
theorem dX6_received_22 : decode cX6_received 22 = .ok (.ifCond .eq 7, 3) := by decide +kernel
theorem dX6_received_25 : decode cX6_received 25 = .ok (.iconst 0, 1) := by decide +kernel
theorem dX6_received_26 : decode cX6_received 26 = .ok (.goto 12, 3) := by decide +kernel
theorem dX6_received_29 : decode cX6_received 29 = .ok (.aload_n 0, 1) := by decide +kernel
theorem dX6_received_30 : decode cX6_received 30 = .ok (.getfield 7, 3) := by decide +kernel
theorem dX6_received_33 : decode cX6_received 33 = .ok (.bipush 9, 2) := by decide +kernel
theorem dX6_received_35 : decode cX6_received 35 = .ok (.iload_n 1, 1) := by decide +kernel
theorem dX6_received_36 : decode cX6_received 36 = .ok (.iadd, 1) := by decide +kernel
theorem dX6_received_37 : decode cX6_received 37 = .ok (.iaload, 1) := by decide +kernel
theorem dX6_received_38 : decode cX6_received 38 = .ok (.ireturn, 1) := by decide +kernel
theorem dX6_tells_0 : decode cX6_tells 0 = .ok (.aload_n 0, 1) := by decide +kernel
theorem dX6_tells_1 : decode cX6_tells 1 = .ok (.aload_n 0, 1) := by decide +kernel
theorem dX6_tells_2 : decode cX6_tells 2 = .ok (.iload_n 1, 1) := by decide +kernel
theorem dX6_tells_3 : decode cX6_tells 3 = .ok (.invokevirtual 75, 3) := by decide +kernel
theorem dX6_tells_6 : decode cX6_tells 6 = .ok (.ifCond .eq 7, 3) := by decide +kernel
theorem dX6_tells_9 : decode cX6_tells 9 = .ok (.iconst 0, 1) := by decide +kernel
theorem dX6_tells_10 : decode cX6_tells 10 = .ok (.goto 4, 3) := by decide +kernel
theorem dX6_tells_13 : decode cX6_tells 13 = .ok (.iconst 1, 1) := by decide +kernel
theorem dX6_tells_14 : decode cX6_tells 14 = .ok (.putfield 19, 3) := by decide +kernel
theorem dX6_tells_17 : decode cX6_tells 17 = .ok (.aload_n 0, 1) := by decide +kernel
theorem dX6_tells_18 : decode cX6_tells 18 = .ok (.getfield 19, 3) := by decide +kernel
theorem dX6_tells_21 : decode cX6_tells 21 = .ok (.ifCond .eq 7, 3) := by decide +kernel
theorem dX6_tells_24 : decode cX6_tells 24 = .ok (.iconst 0, 1) := by decide +kernel
theorem dX6_tells_25 : decode cX6_tells 25 = .ok (.goto 9, 3) := by decide +kernel
theorem dX6_tells_28 : decode cX6_tells 28 = .ok (.aload_n 0, 1) := by decide +kernel
theorem dX6_tells_29 : decode cX6_tells 29 = .ok (.iload_n 1, 1) := by decide +kernel
theorem dX6_tells_30 : decode cX6_tells 30 = .ok (.iload_n 2, 1) := by decide +kernel
theorem dX6_tells_31 : decode cX6_tells 31 = .ok (.invokevirtual 43, 3) := by decide +kernel
theorem dX6_tells_34 : decode cX6_tells 34 = .ok (.ireturn, 1) := by decide +kernel
theorem dX6_sample_0 : decode cX6_sample 0 = .ok (.aload_n 0, 1) := by decide +kernel
theorem dX6_sample_1 : decode cX6_sample 1 = .ok (.iload_n 1, 1) := by decide +kernel
theorem dX6_sample_2 : decode cX6_sample 2 = .ok (.iconst 2, 1) := by decide +kernel
theorem dX6_sample_3 : decode cX6_sample 3 = .ok (.invokevirtual 125, 3) := by decide +kernel
theorem dX6_sample_6 : decode cX6_sample 6 = .ok (.ireturn, 1) := by decide +kernel
theorem dX6_samples_0 : decode cX6_samples 0 = .ok (.aload_n 0, 1) := by decide +kernel
theorem dX6_samples_1 : decode cX6_samples 1 = .ok (.iload_n 1, 1) := by decide +kernel
theorem dX6_samples_2 : decode cX6_samples 2 = .ok (.iconst 3, 1) := by decide +kernel
theorem dX6_samples_3 : decode cX6_samples 3 = .ok (.invokevirtual 125, 3) := by decide +kernel
theorem dX6_samples_6 : decode cX6_samples 6 = .ok (.ireturn, 1) := by decide +kernel
theorem dX6_setMode_0 : decode cX6_setMode 0 = .ok (.aload_n 0, 1) := by decide +kernel
theorem dX6_setMode_1 : decode cX6_setMode 1 = .ok (.iload_n 1, 1) := by decide +kernel
theorem dX6_setMode_2 : decode cX6_setMode 2 = .ok (.iconst 0, 1) := by decide +kernel
theorem dX6_setMode_3 : decode cX6_setMode 3 = .ok (.iconst 2, 1) := by decide +kernel
theorem dX6_setMode_4 : decode cX6_setMode 4 = .ok (.invokestatic 26, 3) := by decide +kernel
theorem dX6_setMode_7 : decode cX6_setMode 7 = .ok (.ifCond .eq 7, 3) := by decide +kernel
theorem dX6_setMode_10 : decode cX6_setMode 10 = .ok (.iconst 0, 1) := by decide +kernel
theorem dX6_setMode_11 : decode cX6_setMode 11 = .ok (.goto 4, 3) := by decide +kernel
theorem dX6_setMode_14 : decode cX6_setMode 14 = .ok (.iconst 1, 1) := by decide +kernel
theorem dX6_setMode_15 : decode cX6_setMode 15 = .ok (.putfield 19, 3) := by decide +kernel
theorem dX6_setMode_18 : decode cX6_setMode 18 = .ok (.aload_n 0, 1) := by decide +kernel
theorem dX6_setMode_19 : decode cX6_setMode 19 = .ok (.getfield 19, 3) := by decide +kernel
theorem dX6_setMode_22 : decode cX6_setMode 22 = .ok (.ifCond .eq 5, 3) := by decide +kernel
theorem dX6_setMode_25 : decode cX6_setMode 25 = .ok (.iconst 0, 1) := by decide +kernel
theorem dX6_setMode_26 : decode cX6_setMode 26 = .ok (.ireturn, 1) := by decide +kernel
theorem dX6_setMode_27 : decode cX6_setMode 27 = .ok (.aload_n 0, 1) := by decide +kernel
theorem dX6_setMode_28 : decode cX6_setMode 28 = .ok (.invokevirtual 33, 3) := by decide +kernel
theorem dX6_setMode_31 : decode cX6_setMode 31 = .ok (.aload_n 0, 1) := by decide +kernel
theorem dX6_setMode_32 : decode cX6_setMode 32 = .ok (.getfield 7, 3) := by decide +kernel
theorem dX6_setMode_35 : decode cX6_setMode 35 = .ok (.bipush 6, 2) := by decide +kernel
theorem dX6_setMode_37 : decode cX6_setMode 37 = .ok (.iaload, 1) := by decide +kernel
theorem dX6_setMode_38 : decode cX6_setMode 38 = .ok (.istore_n 2, 1) := by decide +kernel
theorem dX6_setMode_39 : decode cX6_setMode 39 = .ok (.aload_n 0, 1) := by decide +kernel
theorem dX6_setMode_40 : decode cX6_setMode 40 = .ok (.getfield 7, 3) := by decide +kernel
theorem dX6_setMode_43 : decode cX6_setMode 43 = .ok (.bipush 6, 2) := by decide +kernel
theorem dX6_setMode_45 : decode cX6_setMode 45 = .ok (.iload_n 1, 1) := by decide +kernel
theorem dX6_setMode_46 : decode cX6_setMode 46 = .ok (.iastore, 1) := by decide +kernel
theorem dX6_setMode_47 : decode cX6_setMode 47 = .ok (.iload_n 2, 1) := by decide +kernel
theorem dX6_setMode_48 : decode cX6_setMode 48 = .ok (.ireturn, 1) := by decide +kernel
theorem dX6_setLimits_0 : decode cX6_setLimits 0 = .ok (.aload_n 0, 1) := by decide +kernel
theorem dX6_setLimits_1 : decode cX6_setLimits 1 = .ok (.aload_n 0, 1) := by decide +kernel
theorem dX6_setLimits_2 : decode cX6_setLimits 2 = .ok (.iload_n 1, 1) := by decide +kernel
theorem dX6_setLimits_3 : decode cX6_setLimits 3 = .ok (.invokevirtual 75, 3) := by decide +kernel
theorem dX6_setLimits_6 : decode cX6_setLimits 6 = .ok (.ifCond .ne 7, 3) := by decide +kernel
theorem dX6_setLimits_9 : decode cX6_setLimits 9 = .ok (.iconst 1, 1) := by decide +kernel
theorem dX6_setLimits_10 : decode cX6_setLimits 10 = .ok (.goto 35, 3) := by decide +kernel
theorem dX6_setLimits_13 : decode cX6_setLimits 13 = .ok (.iload_n 2, 1) := by decide +kernel
theorem dX6_setLimits_14 : decode cX6_setLimits 14 = .ok (.iconst 0, 1) := by decide +kernel
theorem dX6_setLimits_15 : decode cX6_setLimits 15 = .ok (.iconst 2, 1) := by decide +kernel
theorem dX6_setLimits_16 : decode cX6_setLimits 16 = .ok (.invokestatic 26, 3) := by decide +kernel
theorem dX6_setLimits_19 : decode cX6_setLimits 19 = .ok (.ifCond .eq 21, 3) := by decide +kernel
theorem dX6_setLimits_22 : decode cX6_setLimits 22 = .ok (.iload_n 3, 1) := by decide +kernel
theorem dX6_setLimits_23 : decode cX6_setLimits 23 = .ok (.ifCond .lt 17, 3) := by decide +kernel
theorem dX6_setLimits_26 : decode cX6_setLimits 26 = .ok (.iload 4, 2) := by decide +kernel
theorem dX6_setLimits_28 : decode cX6_setLimits 28 = .ok (.sipush 255, 3) := by decide +kernel
theorem dX6_setLimits_31 : decode cX6_setLimits 31 = .ok (.if_icmp .gt 9, 3) := by decide +kernel
theorem dX6_setLimits_34 : decode cX6_setLimits 34 = .ok (.iload_n 3, 1) := by decide +kernel
theorem dX6_setLimits_35 : decode cX6_setLimits 35 = .ok (.iload 4, 2) := by decide +kernel
theorem dX6_setLimits_37 : decode cX6_setLimits 37 = .ok (.if_icmp .le 7, 3) := by decide +kernel
theorem dX6_setLimits_40 : decode cX6_setLimits 40 = .ok (.iconst 2, 1) := by decide +kernel
theorem dX6_setLimits_41 : decode cX6_setLimits 41 = .ok (.goto 4, 3) := by decide +kernel
theorem dX6_setLimits_44 : decode cX6_setLimits 44 = .ok (.iconst 0, 1) := by decide +kernel
theorem dX6_setLimits_45 : decode cX6_setLimits 45 = .ok (.putfield 19, 3) := by decide +kernel
theorem dX6_setLimits_48 : decode cX6_setLimits 48 = .ok (.aload_n 0, 1) := by decide +kernel
theorem dX6_setLimits_49 : decode cX6_setLimits 49 = .ok (.getfield 19, 3) := by decide +kernel
theorem dX6_setLimits_52 : decode cX6_setLimits 52 = .ok (.ifCond .eq 5, 3) := by decide +kernel
theorem dX6_setLimits_55 : decode cX6_setLimits 55 = .ok (.iconst 0, 1) := by decide +kernel
theorem dX6_setLimits_56 : decode cX6_setLimits 56 = .ok (.ireturn, 1) := by decide +kernel
theorem dX6_setLimits_57 : decode cX6_setLimits 57 = .ok (.aload_n 0, 1) := by decide +kernel
theorem dX6_setLimits_58 : decode cX6_setLimits 58 = .ok (.invokevirtual 33, 3) := by decide +kernel
theorem dX6_setLimits_61 : decode cX6_setLimits 61 = .ok (.iconst 4, 1) := by decide +kernel
theorem dX6_setLimits_62 : decode cX6_setLimits 62 = .ok (.iconst 2, 1) := by decide +kernel
theorem dX6_setLimits_63 : decode cX6_setLimits 63 = .ok (.iload_n 2, 1) := by decide +kernel
theorem dX6_setLimits_64 : decode cX6_setLimits 64 = .ok (.imul, 1) := by decide +kernel
theorem dX6_setLimits_65 : decode cX6_setLimits 65 = .ok (.iadd, 1) := by decide +kernel
theorem dX6_setLimits_66 : decode cX6_setLimits 66 = .ok (.istore 5, 2) := by decide +kernel
theorem dX6_setLimits_68 : decode cX6_setLimits 68 = .ok (.sipush 1000, 3) := by decide +kernel
theorem dX6_setLimits_71 : decode cX6_setLimits 71 = .ok (.aload_n 0, 1) := by decide +kernel
theorem dX6_setLimits_72 : decode cX6_setLimits 72 = .ok (.iload_n 1, 1) := by decide +kernel
theorem dX6_setLimits_73 : decode cX6_setLimits 73 = .ok (.iload 5, 2) := by decide +kernel
theorem dX6_setLimits_75 : decode cX6_setLimits 75 = .ok (.invokevirtual 43, 3) := by decide +kernel
theorem dX6_setLimits_78 : decode cX6_setLimits 78 = .ok (.imul, 1) := by decide +kernel
theorem dX6_setLimits_79 : decode cX6_setLimits 79 = .ok (.aload_n 0, 1) := by decide +kernel
theorem dX6_setLimits_80 : decode cX6_setLimits 80 = .ok (.iload_n 1, 1) := by decide +kernel
theorem dX6_setLimits_81 : decode cX6_setLimits 81 = .ok (.iload 5, 2) := by decide +kernel
theorem dX6_setLimits_83 : decode cX6_setLimits 83 = .ok (.iconst 1, 1) := by decide +kernel
theorem dX6_setLimits_84 : decode cX6_setLimits 84 = .ok (.iadd, 1) := by decide +kernel
theorem dX6_setLimits_85 : decode cX6_setLimits 85 = .ok (.invokevirtual 43, 3) := by decide +kernel
theorem dX6_setLimits_88 : decode cX6_setLimits 88 = .ok (.iadd, 1) := by decide +kernel
theorem dX6_setLimits_89 : decode cX6_setLimits 89 = .ok (.istore 6, 2) := by decide +kernel
theorem dX6_setLimits_91 : decode cX6_setLimits 91 = .ok (.aload_n 0, 1) := by decide +kernel
theorem dX6_setLimits_92 : decode cX6_setLimits 92 = .ok (.iload_n 1, 1) := by decide +kernel
theorem dX6_setLimits_93 : decode cX6_setLimits 93 = .ok (.iload 5, 2) := by decide +kernel
theorem dX6_setLimits_95 : decode cX6_setLimits 95 = .ok (.iload_n 3, 1) := by decide +kernel
theorem dX6_setLimits_96 : decode cX6_setLimits 96 = .ok (.invokevirtual 39, 3) := by decide +kernel
theorem dX6_setLimits_99 : decode cX6_setLimits 99 = .ok (.aload_n 0, 1) := by decide +kernel
theorem dX6_setLimits_100 : decode cX6_setLimits 100 = .ok (.iload_n 1, 1) := by decide +kernel
theorem dX6_setLimits_101 : decode cX6_setLimits 101 = .ok (.iload 5, 2) := by decide +kernel
theorem dX6_setLimits_103 : decode cX6_setLimits 103 = .ok (.iconst 1, 1) := by decide +kernel
theorem dX6_setLimits_104 : decode cX6_setLimits 104 = .ok (.iadd, 1) := by decide +kernel
theorem dX6_setLimits_105 : decode cX6_setLimits 105 = .ok (.iload 4, 2) := by decide +kernel
theorem dX6_setLimits_107 : decode cX6_setLimits 107 = .ok (.invokevirtual 39, 3) := by decide +kernel
theorem dX6_setLimits_110 : decode cX6_setLimits 110 = .ok (.iload 6, 2) := by decide +kernel
theorem dX6_setLimits_112 : decode cX6_setLimits 112 = .ok (.ireturn, 1) := by decide +kernel
theorem dX6_setPersistence_0 : decode cX6_setPersistence 0 = .ok (.aload_n 0, 1) := by decide +kernel
theorem dX6_setPersistence_1 : decode cX6_setPersistence 1 = .ok (.aload_n 0, 1) := by decide +kernel
theorem dX6_setPersistence_2 : decode cX6_setPersistence 2 = .ok (.iload_n 1, 1) := by decide +kernel
theorem dX6_setPersistence_3 : decode cX6_setPersistence 3 = .ok (.invokevirtual 75, 3) := by decide +kernel
theorem dX6_setPersistence_6 : decode cX6_setPersistence 6 = .ok (.ifCond .ne 7, 3) := by decide +kernel
theorem dX6_setPersistence_9 : decode cX6_setPersistence 9 = .ok (.iconst 1, 1) := by decide +kernel
theorem dX6_setPersistence_10 : decode cX6_setPersistence 10 = .ok (.goto 17, 3) := by decide +kernel
theorem dX6_setPersistence_13 : decode cX6_setPersistence 13 = .ok (.iload_n 2, 1) := by decide +kernel
theorem dX6_setPersistence_14 : decode cX6_setPersistence 14 = .ok (.iconst 1, 1) := by decide +kernel
theorem dX6_setPersistence_15 : decode cX6_setPersistence 15 = .ok (.iconst 5, 1) := by decide +kernel
theorem dX6_setPersistence_16 : decode cX6_setPersistence 16 = .ok (.invokestatic 26, 3) := by decide +kernel
theorem dX6_setPersistence_19 : decode cX6_setPersistence 19 = .ok (.ifCond .ne 7, 3) := by decide +kernel
theorem dX6_setPersistence_22 : decode cX6_setPersistence 22 = .ok (.iconst 2, 1) := by decide +kernel
theorem dX6_setPersistence_23 : decode cX6_setPersistence 23 = .ok (.goto 4, 3) := by decide +kernel
theorem dX6_setPersistence_26 : decode cX6_setPersistence 26 = .ok (.iconst 0, 1) := by decide +kernel
theorem dX6_setPersistence_27 : decode cX6_setPersistence 27 = .ok (.putfield 19, 3) := by decide +kernel
theorem dX6_setPersistence_30 : decode cX6_setPersistence 30 = .ok (.aload_n 0, 1) := by decide +kernel
theorem dX6_setPersistence_31 : decode cX6_setPersistence 31 = .ok (.getfield 19, 3) := by decide +kernel
theorem dX6_setPersistence_34 : decode cX6_setPersistence 34 = .ok (.ifCond .eq 5, 3) := by decide +kernel
theorem dX6_setPersistence_37 : decode cX6_setPersistence 37 = .ok (.iconst 0, 1) := by decide +kernel
theorem dX6_setPersistence_38 : decode cX6_setPersistence 38 = .ok (.ireturn, 1) := by decide +kernel
theorem dX6_setPersistence_39 : decode cX6_setPersistence 39 = .ok (.aload_n 0, 1) := by decide +kernel
theorem dX6_setPersistence_40 : decode cX6_setPersistence 40 = .ok (.invokevirtual 33, 3) := by decide +kernel
theorem dX6_setPersistence_43 : decode cX6_setPersistence 43 = .ok (.aload_n 0, 1) := by decide +kernel
theorem dX6_setPersistence_44 : decode cX6_setPersistence 44 = .ok (.iload_n 1, 1) := by decide +kernel
theorem dX6_setPersistence_45 : decode cX6_setPersistence 45 = .ok (.bipush 10, 2) := by decide +kernel
theorem dX6_setPersistence_47 : decode cX6_setPersistence 47 = .ok (.invokevirtual 43, 3) := by decide +kernel
theorem dX6_setPersistence_50 : decode cX6_setPersistence 50 = .ok (.istore_n 3, 1) := by decide +kernel
theorem dX6_setPersistence_51 : decode cX6_setPersistence 51 = .ok (.aload_n 0, 1) := by decide +kernel
theorem dX6_setPersistence_52 : decode cX6_setPersistence 52 = .ok (.iload_n 1, 1) := by decide +kernel
theorem dX6_setPersistence_53 : decode cX6_setPersistence 53 = .ok (.bipush 10, 2) := by decide +kernel
theorem dX6_setPersistence_55 : decode cX6_setPersistence 55 = .ok (.iload_n 2, 1) := by decide +kernel
theorem dX6_setPersistence_56 : decode cX6_setPersistence 56 = .ok (.invokevirtual 39, 3) := by decide +kernel
theorem dX6_setPersistence_59 : decode cX6_setPersistence 59 = .ok (.iload_n 3, 1) := by decide +kernel
theorem dX6_setPersistence_60 : decode cX6_setPersistence 60 = .ok (.ireturn, 1) := by decide +kernel
theorem dX6_hasAlarm_0 : decode cX6_hasAlarm 0 = .ok (.aload_n 0, 1) := by decide +kernel
theorem dX6_hasAlarm_1 : decode cX6_hasAlarm 1 = .ok (.iload_n 1, 1) := by decide +kernel
theorem dX6_hasAlarm_2 : decode cX6_hasAlarm 2 = .ok (.bipush 11, 2) := by decide +kernel
theorem dX6_hasAlarm_4 : decode cX6_hasAlarm 4 = .ok (.invokevirtual 125, 3) := by decide +kernel
theorem dX6_hasAlarm_7 : decode cX6_hasAlarm 7 = .ok (.iconst 1, 1) := by decide +kernel
theorem dX6_hasAlarm_8 : decode cX6_hasAlarm 8 = .ok (.if_icmp .ne 7, 3) := by decide +kernel
theorem dX6_hasAlarm_11 : decode cX6_hasAlarm 11 = .ok (.iconst 1, 1) := by decide +kernel
theorem dX6_hasAlarm_12 : decode cX6_hasAlarm 12 = .ok (.goto 4, 3) := by decide +kernel
theorem dX6_hasAlarm_15 : decode cX6_hasAlarm 15 = .ok (.iconst 0, 1) := by decide +kernel
theorem dX6_hasAlarm_16 : decode cX6_hasAlarm 16 = .ok (.ireturn, 1) := by decide +kernel
theorem dX6_alarms_0 : decode cX6_alarms 0 = .ok (.aload_n 0, 1) := by decide +kernel
theorem dX6_alarms_1 : decode cX6_alarms 1 = .ok (.iload_n 1, 1) := by decide +kernel
theorem dX6_alarms_2 : decode cX6_alarms 2 = .ok (.bipush 13, 2) := by decide +kernel
theorem dX6_alarms_4 : decode cX6_alarms 4 = .ok (.invokevirtual 125, 3) := by decide +kernel
theorem dX6_alarms_7 : decode cX6_alarms 7 = .ok (.ireturn, 1) := by decide +kernel
theorem dX6_undo_0 : decode cX6_undo 0 = .ok (.aload_n 0, 1) := by decide +kernel
theorem dX6_undo_1 : decode cX6_undo 1 = .ok (.aload_n 0, 1) := by decide +kernel
theorem dX6_undo_2 : decode cX6_undo 2 = .ok (.getfield 23, 3) := by decide +kernel
theorem dX6_undo_5 : decode cX6_undo 5 = .ok (.ifCond .ne 7, 3) := by decide +kernel
theorem dX6_undo_8 : decode cX6_undo 8 = .ok (.iconst 1, 1) := by decide +kernel
theorem dX6_undo_9 : decode cX6_undo 9 = .ok (.goto 4, 3) := by decide +kernel
theorem dX6_undo_12 : decode cX6_undo 12 = .ok (.iconst 0, 1) := by decide +kernel
theorem dX6_undo_13 : decode cX6_undo 13 = .ok (.putfield 19, 3) := by decide +kernel
theorem dX6_undo_16 : decode cX6_undo 16 = .ok (.aload_n 0, 1) := by decide +kernel
theorem dX6_undo_17 : decode cX6_undo 17 = .ok (.getfield 19, 3) := by decide +kernel
theorem dX6_undo_20 : decode cX6_undo 20 = .ok (.ifCond .eq 5, 3) := by decide +kernel
theorem dX6_undo_23 : decode cX6_undo 23 = .ok (.iconst 0, 1) := by decide +kernel
theorem dX6_undo_24 : decode cX6_undo 24 = .ok (.ireturn, 1) := by decide +kernel
theorem dX6_undo_25 : decode cX6_undo 25 = .ok (.aload_n 0, 1) := by decide +kernel
theorem dX6_undo_26 : decode cX6_undo 26 = .ok (.dup, 1) := by decide +kernel
theorem dX6_undo_27 : decode cX6_undo 27 = .ok (.getfield 23, 3) := by decide +kernel
theorem dX6_undo_30 : decode cX6_undo 30 = .ok (.iconst 1, 1) := by decide +kernel
theorem dX6_undo_31 : decode cX6_undo 31 = .ok (.isub, 1) := by decide +kernel
theorem dX6_undo_32 : decode cX6_undo 32 = .ok (.putfield 23, 3) := by decide +kernel
theorem dX6_undo_35 : decode cX6_undo 35 = .ok (.iconst 0, 1) := by decide +kernel
theorem dX6_undo_36 : decode cX6_undo 36 = .ok (.istore_n 1, 1) := by decide +kernel
theorem dX6_undo_37 : decode cX6_undo 37 = .ok (.iload_n 1, 1) := by decide +kernel
theorem dX6_undo_38 : decode cX6_undo 38 = .ok (.sipush 2377, 3) := by decide +kernel
theorem dX6_undo_41 : decode cX6_undo 41 = .ok (.if_icmp .ge 30, 3) := by decide +kernel
theorem dX6_undo_44 : decode cX6_undo 44 = .ok (.aload_n 0, 1) := by decide +kernel
theorem dX6_undo_45 : decode cX6_undo 45 = .ok (.getfield 7, 3) := by decide +kernel
theorem dX6_undo_48 : decode cX6_undo 48 = .ok (.iload_n 1, 1) := by decide +kernel
theorem dX6_undo_49 : decode cX6_undo 49 = .ok (.aload_n 0, 1) := by decide +kernel
theorem dX6_undo_50 : decode cX6_undo 50 = .ok (.getfield 13, 3) := by decide +kernel
theorem dX6_undo_53 : decode cX6_undo 53 = .ok (.sipush 2377, 3) := by decide +kernel
theorem dX6_undo_56 : decode cX6_undo 56 = .ok (.aload_n 0, 1) := by decide +kernel
theorem dX6_undo_57 : decode cX6_undo 57 = .ok (.getfield 23, 3) := by decide +kernel
theorem dX6_undo_60 : decode cX6_undo 60 = .ok (.imul, 1) := by decide +kernel
theorem dX6_undo_61 : decode cX6_undo 61 = .ok (.iload_n 1, 1) := by decide +kernel
theorem dX6_undo_62 : decode cX6_undo 62 = .ok (.iadd, 1) := by decide +kernel
theorem dX6_undo_63 : decode cX6_undo 63 = .ok (.iaload, 1) := by decide +kernel
theorem dX6_undo_64 : decode cX6_undo 64 = .ok (.iastore, 1) := by decide +kernel
theorem dX6_undo_65 : decode cX6_undo 65 = .ok (.iinc 1 1, 3) := by decide +kernel
theorem dX6_undo_68 : decode cX6_undo 68 = .ok (.goto (-31), 3) := by decide +kernel
theorem dX6_undo_71 : decode cX6_undo 71 = .ok (.aload_n 0, 1) := by decide +kernel
theorem dX6_undo_72 : decode cX6_undo 72 = .ok (.getfield 23, 3) := by decide +kernel
theorem dX6_undo_75 : decode cX6_undo 75 = .ok (.ireturn, 1) := by decide +kernel
theorem dX6_mix_0 : decode cX6_mix 0 = .ok (.aload_n 0, 1) := by decide +kernel
theorem dX6_mix_1 : decode cX6_mix 1 = .ok (.ldc2_w 128, 3) := by decide +kernel
theorem dX6_mix_4 : decode cX6_mix 4 = .ok (.aload_n 0, 1) := by decide +kernel
theorem dX6_mix_5 : decode cX6_mix 5 = .ok (.getfield 130, 3) := by decide +kernel
theorem dX6_mix_8 : decode cX6_mix 8 = .ok (.lmul, 1) := by decide +kernel
theorem dX6_mix_9 : decode cX6_mix 9 = .ok (.lload_n 1, 1) := by decide +kernel
theorem dX6_mix_10 : decode cX6_mix 10 = .ok (.ladd, 1) := by decide +kernel
theorem dX6_mix_11 : decode cX6_mix 11 = .ok (.putfield 130, 3) := by decide +kernel
theorem dX6_mix_14 : decode cX6_mix 14 = .ok (.return_, 1) := by decide +kernel
theorem dX6_mixPlan_0 : decode cX6_mixPlan 0 = .ok (.aload_n 0, 1) := by decide +kernel
theorem dX6_mixPlan_1 : decode cX6_mixPlan 1 = .ok (.aload_n 0, 1) := by decide +kernel
theorem dX6_mixPlan_2 : decode cX6_mixPlan 2 = .ok (.getfield 7, 3) := by decide +kernel
theorem dX6_mixPlan_5 : decode cX6_mixPlan 5 = .ok (.iconst 3, 1) := by decide +kernel
theorem dX6_mixPlan_6 : decode cX6_mixPlan 6 = .ok (.iaload, 1) := by decide +kernel
theorem dX6_mixPlan_7 : decode cX6_mixPlan 7 = .ok (.i2l, 1) := by decide +kernel
theorem dX6_mixPlan_8 : decode cX6_mixPlan 8 = .ok (.invokevirtual 134, 3) := by decide +kernel
theorem dX6_mixPlan_11 : decode cX6_mixPlan 11 = .ok (.iconst 0, 1) := by decide +kernel
theorem dX6_mixPlan_12 : decode cX6_mixPlan 12 = .ok (.istore_n 1, 1) := by decide +kernel
theorem dX6_mixPlan_13 : decode cX6_mixPlan 13 = .ok (.iload_n 1, 1) := by decide +kernel
theorem dX6_mixPlan_14 : decode cX6_mixPlan 14 = .ok (.bipush 16, 2) := by decide +kernel
theorem dX6_mixPlan_16 : decode cX6_mixPlan 16 = .ok (.aload_n 0, 1) := by decide +kernel
theorem dX6_mixPlan_17 : decode cX6_mixPlan 17 = .ok (.getfield 7, 3) := by decide +kernel
theorem dX6_mixPlan_20 : decode cX6_mixPlan 20 = .ok (.iconst 1, 1) := by decide +kernel
theorem dX6_mixPlan_21 : decode cX6_mixPlan 21 = .ok (.iaload, 1) := by decide +kernel
theorem dX6_mixPlan_22 : decode cX6_mixPlan 22 = .ok (.imul, 1) := by decide +kernel
theorem dX6_mixPlan_23 : decode cX6_mixPlan 23 = .ok (.if_icmp .ge 47, 3) := by decide +kernel
theorem dX6_mixPlan_26 : decode cX6_mixPlan 26 = .ok (.aload_n 0, 1) := by decide +kernel
theorem dX6_mixPlan_27 : decode cX6_mixPlan 27 = .ok (.getfield 7, 3) := by decide +kernel
theorem dX6_mixPlan_30 : decode cX6_mixPlan 30 = .ok (.iconst 3, 1) := by decide +kernel
theorem dX6_mixPlan_31 : decode cX6_mixPlan 31 = .ok (.iaload, 1) := by decide +kernel
theorem dX6_mixPlan_32 : decode cX6_mixPlan 32 = .ok (.iconst 1, 1) := by decide +kernel
theorem dX6_mixPlan_33 : decode cX6_mixPlan 33 = .ok (.if_icmp .ne 37, 3) := by decide +kernel
theorem dX6_mixPlan_36 : decode cX6_mixPlan 36 = .ok (.iload_n 1, 1) := by decide +kernel
theorem dX6_mixPlan_37 : decode cX6_mixPlan 37 = .ok (.bipush 16, 2) := by decide +kernel
theorem dX6_mixPlan_39 : decode cX6_mixPlan 39 = .ok (.irem, 1) := by decide +kernel
theorem dX6_mixPlan_40 : decode cX6_mixPlan 40 = .ok (.aload_n 0, 1) := by decide +kernel
theorem dX6_mixPlan_41 : decode cX6_mixPlan 41 = .ok (.getfield 7, 3) := by decide +kernel
theorem dX6_mixPlan_44 : decode cX6_mixPlan 44 = .ok (.iconst 0, 1) := by decide +kernel
theorem dX6_mixPlan_45 : decode cX6_mixPlan 45 = .ok (.iaload, 1) := by decide +kernel
theorem dX6_mixPlan_46 : decode cX6_mixPlan 46 = .ok (.if_icmp .ge 18, 3) := by decide +kernel
theorem dX6_mixPlan_49 : decode cX6_mixPlan 49 = .ok (.aload_n 0, 1) := by decide +kernel
theorem dX6_mixPlan_50 : decode cX6_mixPlan 50 = .ok (.aload_n 0, 1) := by decide +kernel
theorem dX6_mixPlan_51 : decode cX6_mixPlan 51 = .ok (.getfield 7, 3) := by decide +kernel
theorem dX6_mixPlan_54 : decode cX6_mixPlan 54 = .ok (.sipush 201, 3) := by decide +kernel
theorem dX6_mixPlan_57 : decode cX6_mixPlan 57 = .ok (.iload_n 1, 1) := by decide +kernel
theorem dX6_mixPlan_58 : decode cX6_mixPlan 58 = .ok (.iadd, 1) := by decide +kernel
theorem dX6_mixPlan_59 : decode cX6_mixPlan 59 = .ok (.iaload, 1) := by decide +kernel
theorem dX6_mixPlan_60 : decode cX6_mixPlan 60 = .ok (.i2l, 1) := by decide +kernel
theorem dX6_mixPlan_61 : decode cX6_mixPlan 61 = .ok (.invokevirtual 134, 3) := by decide +kernel
theorem dX6_mixPlan_64 : decode cX6_mixPlan 64 = .ok (.iinc 1 1, 3) := by decide +kernel
theorem dX6_mixPlan_67 : decode cX6_mixPlan 67 = .ok (.goto (-54), 3) := by decide +kernel
theorem dX6_mixPlan_70 : decode cX6_mixPlan 70 = .ok (.return_, 1) := by decide +kernel
theorem dX6_digest_0 : decode cX6_digest 0 = .ok (.aload_n 0, 1) := by decide +kernel
theorem dX6_digest_1 : decode cX6_digest 1 = .ok (.iconst 0, 1) := by decide +kernel
theorem dX6_digest_2 : decode cX6_digest 2 = .ok (.putfield 19, 3) := by decide +kernel
theorem dX6_digest_5 : decode cX6_digest 5 = .ok (.aload_n 0, 1) := by decide +kernel
theorem dX6_digest_6 : decode cX6_digest 6 = .ok (.ldc2_w 138, 3) := by decide +kernel
theorem dX6_digest_9 : decode cX6_digest 9 = .ok (.putfield 130, 3) := by decide +kernel
theorem dX6_digest_12 : decode cX6_digest 12 = .ok (.aload_n 0, 1) := by decide +kernel
theorem dX6_digest_13 : decode cX6_digest 13 = .ok (.aload_n 0, 1) := by decide +kernel
theorem dX6_digest_14 : decode cX6_digest 14 = .ok (.getfield 7, 3) := by decide +kernel
theorem dX6_digest_17 : decode cX6_digest 17 = .ok (.iconst 0, 1) := by decide +kernel
theorem dX6_digest_18 : decode cX6_digest 18 = .ok (.iaload, 1) := by decide +kernel
theorem dX6_digest_19 : decode cX6_digest 19 = .ok (.i2l, 1) := by decide +kernel
theorem dX6_digest_20 : decode cX6_digest 20 = .ok (.invokevirtual 134, 3) := by decide +kernel
theorem dX6_digest_23 : decode cX6_digest 23 = .ok (.aload_n 0, 1) := by decide +kernel
theorem dX6_digest_24 : decode cX6_digest 24 = .ok (.aload_n 0, 1) := by decide +kernel
theorem dX6_digest_25 : decode cX6_digest 25 = .ok (.getfield 7, 3) := by decide +kernel
theorem dX6_digest_28 : decode cX6_digest 28 = .ok (.iconst 1, 1) := by decide +kernel
theorem dX6_digest_29 : decode cX6_digest 29 = .ok (.iaload, 1) := by decide +kernel
theorem dX6_digest_30 : decode cX6_digest 30 = .ok (.i2l, 1) := by decide +kernel
theorem dX6_digest_31 : decode cX6_digest 31 = .ok (.invokevirtual 134, 3) := by decide +kernel
theorem dX6_digest_34 : decode cX6_digest 34 = .ok (.aload_n 0, 1) := by decide +kernel
theorem dX6_digest_35 : decode cX6_digest 35 = .ok (.aload_n 0, 1) := by decide +kernel
theorem dX6_digest_36 : decode cX6_digest 36 = .ok (.getfield 7, 3) := by decide +kernel
theorem dX6_digest_39 : decode cX6_digest 39 = .ok (.iconst 2, 1) := by decide +kernel
theorem dX6_digest_40 : decode cX6_digest 40 = .ok (.iaload, 1) := by decide +kernel
theorem dX6_digest_41 : decode cX6_digest 41 = .ok (.i2l, 1) := by decide +kernel
theorem dX6_digest_42 : decode cX6_digest 42 = .ok (.invokevirtual 134, 3) := by decide +kernel
theorem dX6_digest_45 : decode cX6_digest 45 = .ok (.iconst 0, 1) := by decide +kernel
theorem dX6_digest_46 : decode cX6_digest 46 = .ok (.istore_n 1, 1) := by decide +kernel
theorem dX6_digest_47 : decode cX6_digest 47 = .ok (.iload_n 1, 1) := by decide +kernel
theorem dX6_digest_48 : decode cX6_digest 48 = .ok (.bipush 14, 2) := by decide +kernel
theorem dX6_digest_50 : decode cX6_digest 50 = .ok (.aload_n 0, 1) := by decide +kernel
theorem dX6_digest_51 : decode cX6_digest 51 = .ok (.getfield 7, 3) := by decide +kernel
theorem dX6_digest_54 : decode cX6_digest 54 = .ok (.iconst 2, 1) := by decide +kernel
theorem dX6_digest_55 : decode cX6_digest 55 = .ok (.iaload, 1) := by decide +kernel
theorem dX6_digest_56 : decode cX6_digest 56 = .ok (.imul, 1) := by decide +kernel
theorem dX6_digest_57 : decode cX6_digest 57 = .ok (.if_icmp .ge 23, 3) := by decide +kernel
theorem dX6_digest_60 : decode cX6_digest 60 = .ok (.aload_n 0, 1) := by decide +kernel
theorem dX6_digest_61 : decode cX6_digest 61 = .ok (.aload_n 0, 1) := by decide +kernel
theorem dX6_digest_62 : decode cX6_digest 62 = .ok (.getfield 7, 3) := by decide +kernel
theorem dX6_digest_65 : decode cX6_digest 65 = .ok (.bipush 33, 2) := by decide +kernel
theorem dX6_digest_67 : decode cX6_digest 67 = .ok (.iload_n 1, 1) := by decide +kernel
theorem dX6_digest_68 : decode cX6_digest 68 = .ok (.iadd, 1) := by decide +kernel
theorem dX6_digest_69 : decode cX6_digest 69 = .ok (.iaload, 1) := by decide +kernel
theorem dX6_digest_70 : decode cX6_digest 70 = .ok (.i2l, 1) := by decide +kernel
theorem dX6_digest_71 : decode cX6_digest 71 = .ok (.invokevirtual 134, 3) := by decide +kernel
theorem dX6_digest_74 : decode cX6_digest 74 = .ok (.iinc 1 1, 3) := by decide +kernel
theorem dX6_digest_77 : decode cX6_digest 77 = .ok (.goto (-30), 3) := by decide +kernel
theorem dX6_digest_80 : decode cX6_digest 80 = .ok (.aload_n 0, 1) := by decide +kernel
theorem dX6_digest_81 : decode cX6_digest 81 = .ok (.invokevirtual 140, 3) := by decide +kernel
theorem dX6_digest_84 : decode cX6_digest 84 = .ok (.aload_n 0, 1) := by decide +kernel
theorem dX6_digest_85 : decode cX6_digest 85 = .ok (.aload_n 0, 1) := by decide +kernel
theorem dX6_digest_86 : decode cX6_digest 86 = .ok (.getfield 7, 3) := by decide +kernel
theorem dX6_digest_89 : decode cX6_digest 89 = .ok (.iconst 4, 1) := by decide +kernel
theorem dX6_digest_90 : decode cX6_digest 90 = .ok (.iaload, 1) := by decide +kernel
theorem dX6_digest_91 : decode cX6_digest 91 = .ok (.i2l, 1) := by decide +kernel
theorem dX6_digest_92 : decode cX6_digest 92 = .ok (.invokevirtual 134, 3) := by decide +kernel
theorem dX6_digest_95 : decode cX6_digest 95 = .ok (.aload_n 0, 1) := by decide +kernel
theorem dX6_digest_96 : decode cX6_digest 96 = .ok (.aload_n 0, 1) := by decide +kernel
theorem dX6_digest_97 : decode cX6_digest 97 = .ok (.getfield 7, 3) := by decide +kernel
theorem dX6_digest_100 : decode cX6_digest 100 = .ok (.iconst 5, 1) := by decide +kernel
theorem dX6_digest_101 : decode cX6_digest 101 = .ok (.iaload, 1) := by decide +kernel
theorem dX6_digest_102 : decode cX6_digest 102 = .ok (.i2l, 1) := by decide +kernel
theorem dX6_digest_103 : decode cX6_digest 103 = .ok (.invokevirtual 134, 3) := by decide +kernel
theorem dX6_digest_106 : decode cX6_digest 106 = .ok (.iconst 0, 1) := by decide +kernel
theorem dX6_digest_107 : decode cX6_digest 107 = .ok (.istore_n 1, 1) := by decide +kernel
theorem dX6_digest_108 : decode cX6_digest 108 = .ok (.iload_n 1, 1) := by decide +kernel
theorem dX6_digest_109 : decode cX6_digest 109 = .ok (.aload_n 0, 1) := by decide +kernel
theorem dX6_digest_110 : decode cX6_digest 110 = .ok (.getfield 7, 3) := by decide +kernel
theorem dX6_digest_113 : decode cX6_digest 113 = .ok (.iconst 5, 1) := by decide +kernel
theorem dX6_digest_114 : decode cX6_digest 114 = .ok (.iaload, 1) := by decide +kernel
theorem dX6_digest_115 : decode cX6_digest 115 = .ok (.if_icmp .ge 24, 3) := by decide +kernel
theorem dX6_digest_118 : decode cX6_digest 118 = .ok (.aload_n 0, 1) := by decide +kernel
theorem dX6_digest_119 : decode cX6_digest 119 = .ok (.aload_n 0, 1) := by decide +kernel
theorem dX6_digest_120 : decode cX6_digest 120 = .ok (.getfield 7, 3) := by decide +kernel
theorem dX6_digest_123 : decode cX6_digest 123 = .ok (.sipush 329, 3) := by decide +kernel
theorem dX6_digest_126 : decode cX6_digest 126 = .ok (.iload_n 1, 1) := by decide +kernel
theorem dX6_digest_127 : decode cX6_digest 127 = .ok (.iadd, 1) := by decide +kernel
theorem dX6_digest_128 : decode cX6_digest 128 = .ok (.iaload, 1) := by decide +kernel
theorem dX6_digest_129 : decode cX6_digest 129 = .ok (.i2l, 1) := by decide +kernel
theorem dX6_digest_130 : decode cX6_digest 130 = .ok (.invokevirtual 134, 3) := by decide +kernel
theorem dX6_digest_133 : decode cX6_digest 133 = .ok (.iinc 1 1, 3) := by decide +kernel
theorem dX6_digest_136 : decode cX6_digest 136 = .ok (.goto (-28), 3) := by decide +kernel
theorem dX6_digest_139 : decode cX6_digest 139 = .ok (.aload_n 0, 1) := by decide +kernel
theorem dX6_digest_140 : decode cX6_digest 140 = .ok (.aload_n 0, 1) := by decide +kernel
theorem dX6_digest_141 : decode cX6_digest 141 = .ok (.getfield 7, 3) := by decide +kernel
theorem dX6_digest_144 : decode cX6_digest 144 = .ok (.bipush 7, 2) := by decide +kernel
theorem dX6_digest_146 : decode cX6_digest 146 = .ok (.iaload, 1) := by decide +kernel
theorem dX6_digest_147 : decode cX6_digest 147 = .ok (.i2l, 1) := by decide +kernel
theorem dX6_digest_148 : decode cX6_digest 148 = .ok (.invokevirtual 134, 3) := by decide +kernel
theorem dX6_digest_151 : decode cX6_digest 151 = .ok (.aload_n 0, 1) := by decide +kernel
theorem dX6_digest_152 : decode cX6_digest 152 = .ok (.aload_n 0, 1) := by decide +kernel
theorem dX6_digest_153 : decode cX6_digest 153 = .ok (.getfield 7, 3) := by decide +kernel
theorem dX6_digest_156 : decode cX6_digest 156 = .ok (.bipush 8, 2) := by decide +kernel
theorem dX6_digest_158 : decode cX6_digest 158 = .ok (.iaload, 1) := by decide +kernel
theorem dX6_digest_159 : decode cX6_digest 159 = .ok (.i2l, 1) := by decide +kernel
theorem dX6_digest_160 : decode cX6_digest 160 = .ok (.invokevirtual 134, 3) := by decide +kernel
theorem dX6_digest_163 : decode cX6_digest 163 = .ok (.iconst 0, 1) := by decide +kernel
theorem dX6_digest_164 : decode cX6_digest 164 = .ok (.istore_n 1, 1) := by decide +kernel
theorem dX6_digest_165 : decode cX6_digest 165 = .ok (.iload_n 1, 1) := by decide +kernel
theorem dX6_digest_166 : decode cX6_digest 166 = .ok (.bipush 6, 2) := by decide +kernel
theorem dX6_digest_168 : decode cX6_digest 168 = .ok (.if_icmp .ge 23, 3) := by decide +kernel
theorem dX6_digest_171 : decode cX6_digest 171 = .ok (.aload_n 0, 1) := by decide +kernel
theorem dX6_digest_172 : decode cX6_digest 172 = .ok (.aload_n 0, 1) := by decide +kernel
theorem dX6_digest_173 : decode cX6_digest 173 = .ok (.getfield 7, 3) := by decide +kernel
theorem dX6_digest_176 : decode cX6_digest 176 = .ok (.bipush 9, 2) := by decide +kernel
theorem dX6_digest_178 : decode cX6_digest 178 = .ok (.iload_n 1, 1) := by decide +kernel
theorem dX6_digest_179 : decode cX6_digest 179 = .ok (.iadd, 1) := by decide +kernel
theorem dX6_digest_180 : decode cX6_digest 180 = .ok (.iaload, 1) := by decide +kernel
theorem dX6_digest_181 : decode cX6_digest 181 = .ok (.i2l, 1) := by decide +kernel
theorem dX6_digest_182 : decode cX6_digest 182 = .ok (.invokevirtual 134, 3) := by decide +kernel
theorem dX6_digest_185 : decode cX6_digest 185 = .ok (.iinc 1 1, 3) := by decide +kernel
theorem dX6_digest_188 : decode cX6_digest 188 = .ok (.goto (-23), 3) := by decide +kernel
theorem dX6_digest_191 : decode cX6_digest 191 = .ok (.aload_n 0, 1) := by decide +kernel
theorem dX6_digest_192 : decode cX6_digest 192 = .ok (.aload_n 0, 1) := by decide +kernel
theorem dX6_digest_193 : decode cX6_digest 193 = .ok (.getfield 7, 3) := by decide +kernel
theorem dX6_digest_196 : decode cX6_digest 196 = .ok (.bipush 6, 2) := by decide +kernel
theorem dX6_digest_198 : decode cX6_digest 198 = .ok (.iaload, 1) := by decide +kernel
theorem dX6_digest_199 : decode cX6_digest 199 = .ok (.i2l, 1) := by decide +kernel
theorem dX6_digest_200 : decode cX6_digest 200 = .ok (.invokevirtual 134, 3) := by decide +kernel
theorem dX6_digest_203 : decode cX6_digest 203 = .ok (.aload_n 0, 1) := by decide +kernel
theorem dX6_digest_204 : decode cX6_digest 204 = .ok (.aload_n 0, 1) := by decide +kernel
theorem dX6_digest_205 : decode cX6_digest 205 = .ok (.getfield 23, 3) := by decide +kernel
theorem dX6_digest_208 : decode cX6_digest 208 = .ok (.i2l, 1) := by decide +kernel
theorem dX6_digest_209 : decode cX6_digest 209 = .ok (.invokevirtual 134, 3) := by decide +kernel
theorem dX6_digest_212 : decode cX6_digest 212 = .ok (.aload_n 0, 1) := by decide +kernel
theorem dX6_digest_213 : decode cX6_digest 213 = .ok (.getfield 130, 3) := by decide +kernel
theorem dX6_digest_216 : decode cX6_digest 216 = .ok (.lreturn, 1) := by decide +kernel
