theorem dX0_init_0 : decode cX0_init 0 = .ok (.aload_n 0, 1) := by decide +kernel
theorem dX0_init_1 : decode cX0_init 1 = .ok (.invokespecial 3, 3) := by decide +kernel
theorem dX0_init_4 : decode cX0_init 4 = .ok (.aload_n 0, 1) := by decide +kernel
theorem dX0_init_5 : decode cX0_init 5 = .ok (.sipush 2048, 3) := by decide +kernel
theorem dX0_init_8 : decode cX0_init 8 = .ok (.newarray .int, 2) := by decide +kernel
theorem dX0_init_10 : decode cX0_init 10 = .ok (.putfield 9, 3) := by decide +kernel
theorem dX0_init_13 : decode cX0_init 13 = .ok (.aload_n 0, 1) := by decide +kernel
theorem dX0_init_14 : decode cX0_init 14 = .ok (.iconst 0, 1) := by decide +kernel
theorem dX0_init_15 : decode cX0_init 15 = .ok (.putfield 15, 3) := by decide +kernel
theorem dX0_init_18 : decode cX0_init 18 = .ok (.return_, 1) := by decide +kernel
theorem dX0_copyFrom_0 : decode cX0_copyFrom 0 = .ok (.aload_n 0, 1) := by decide +kernel
theorem dX0_copyFrom_1 : decode cX0_copyFrom 1 = .ok (.aload_n 1, 1) := by decide +kernel
theorem dX0_copyFrom_2 : decode cX0_copyFrom 2 = .ok (.getfield 15, 3) := by decide +kernel
theorem dX0_copyFrom_5 : decode cX0_copyFrom 5 = .ok (.putfield 15, 3) := by decide +kernel
theorem dX0_copyFrom_8 : decode cX0_copyFrom 8 = .ok (.aload_n 1, 1) := by decide +kernel
theorem dX0_copyFrom_9 : decode cX0_copyFrom 9 = .ok (.getfield 9, 3) := by decide +kernel
theorem dX0_copyFrom_12 : decode cX0_copyFrom 12 = .ok (.iconst 0, 1) := by decide +kernel
theorem dX0_copyFrom_13 : decode cX0_copyFrom 13 = .ok (.aload_n 0, 1) := by decide +kernel
theorem dX0_copyFrom_14 : decode cX0_copyFrom 14 = .ok (.getfield 9, 3) := by decide +kernel
theorem dX0_copyFrom_17 : decode cX0_copyFrom 17 = .ok (.iconst 0, 1) := by decide +kernel
theorem dX0_copyFrom_18 : decode cX0_copyFrom 18 = .ok (.aload_n 0, 1) := by decide +kernel
theorem dX0_copyFrom_19 : decode cX0_copyFrom 19 = .ok (.getfield 15, 3) := by decide +kernel
theorem dX0_copyFrom_22 : decode cX0_copyFrom 22 = .ok (.invokestatic 19, 3) := by decide +kernel
theorem dX0_copyFrom_25 : decode cX0_copyFrom 25 = .ok (.return_, 1) := by decide +kernel
theorem dX0_appendWord_0 : decode cX0_appendWord 0 = .ok (.bipush 7, 2) := by decide +kernel
theorem dX0_appendWord_2 : decode cX0_appendWord 2 = .ok (.istore_n 2, 1) := by decide +kernel
theorem dX0_appendWord_3 : decode cX0_appendWord 3 = .ok (.iload_n 2, 1) := by decide +kernel
theorem dX0_appendWord_4 : decode cX0_appendWord 4 = .ok (.ifCond .lt 43, 3) := by decide +kernel
theorem dX0_appendWord_7 : decode cX0_appendWord 7 = .ok (.aload_n 0, 1) := by decide +kernel
theorem dX0_appendWord_8 : decode cX0_appendWord 8 = .ok (.getfield 15, 3) := by decide +kernel
theorem dX0_appendWord_11 : decode cX0_appendWord 11 = .ok (.sipush 2048, 3) := by decide +kernel
theorem dX0_appendWord_14 : decode cX0_appendWord 14 = .ok (.if_icmp .ge 27, 3) := by decide +kernel
theorem dX0_appendWord_17 : decode cX0_appendWord 17 = .ok (.aload_n 0, 1) := by decide +kernel
theorem dX0_appendWord_18 : decode cX0_appendWord 18 = .ok (.getfield 9, 3) := by decide +kernel
theorem dX0_appendWord_21 : decode cX0_appendWord 21 = .ok (.aload_n 0, 1) := by decide +kernel
theorem dX0_appendWord_22 : decode cX0_appendWord 22 = .ok (.getfield 15, 3) := by decide +kernel
theorem dX0_appendWord_25 : decode cX0_appendWord 25 = .ok (.iload_n 1, 1) := by decide +kernel
theorem dX0_appendWord_26 : decode cX0_appendWord 26 = .ok (.iload_n 2, 1) := by decide +kernel
theorem dX0_appendWord_27 : decode cX0_appendWord 27 = .ok (.ishr, 1) := by decide +kernel
theorem dX0_appendWord_28 : decode cX0_appendWord 28 = .ok (.iconst 1, 1) := by decide +kernel
theorem dX0_appendWord_29 : decode cX0_appendWord 29 = .ok (.iand, 1) := by decide +kernel
theorem dX0_appendWord_30 : decode cX0_appendWord 30 = .ok (.iastore, 1) := by decide +kernel
theorem dX0_appendWord_31 : decode cX0_appendWord 31 = .ok (.aload_n 0, 1) := by decide +kernel
theorem dX0_appendWord_32 : decode cX0_appendWord 32 = .ok (.dup, 1) := by decide +kernel
theorem dX0_appendWord_33 : decode cX0_appendWord 33 = .ok (.getfield 15, 3) := by decide +kernel
theorem dX0_appendWord_36 : decode cX0_appendWord 36 = .ok (.iconst 1, 1) := by decide +kernel
theorem dX0_appendWord_37 : decode cX0_appendWord 37 = .ok (.iadd, 1) := by decide +kernel
theorem dX0_appendWord_38 : decode cX0_appendWord 38 = .ok (.putfield 15, 3) := by decide +kernel
theorem dX0_appendWord_41 : decode cX0_appendWord 41 = .ok (.iinc 2 (-1), 3) := by decide +kernel
theorem dX0_appendWord_44 : decode cX0_appendWord 44 = .ok (.goto (-41), 3) := by decide +kernel
theorem dX0_appendWord_47 : decode cX0_appendWord 47 = .ok (.return_, 1) := by decide +kernel
theorem dX0_flip_0 : decode cX0_flip 0 = .ok (.aload_n 0, 1) := by decide +kernel
theorem dX0_flip_1 : decode cX0_flip 1 = .ok (.getfield 9, 3) := by decide +kernel
theorem dX0_flip_4 : decode cX0_flip 4 = .ok (.iload_n 1, 1) := by decide +kernel
theorem dX0_flip_5 : decode cX0_flip 5 = .ok (.iconst 1, 1) := by decide +kernel
theorem dX0_flip_6 : decode cX0_flip 6 = .ok (.aload_n 0, 1) := by decide +kernel
theorem dX0_flip_7 : decode cX0_flip 7 = .ok (.getfield 9, 3) := by decide +kernel
theorem dX0_flip_10 : decode cX0_flip 10 = .ok (.iload_n 1, 1) := by decide +kernel
theorem dX0_flip_11 : decode cX0_flip 11 = .ok (.iaload, 1) := by decide +kernel
theorem dX0_flip_12 : decode cX0_flip 12 = .ok (.isub, 1) := by decide +kernel
theorem dX0_flip_13 : decode cX0_flip 13 = .ok (.iastore, 1) := by decide +kernel
theorem dX0_flip_14 : decode cX0_flip 14 = .ok (.return_, 1) := by decide +kernel
theorem dX0_remove_0 : decode cX0_remove 0 = .ok (.aload_n 0, 1) := by decide +kernel
theorem dX0_remove_1 : decode cX0_remove 1 = .ok (.getfield 9, 3) := by decide +kernel
theorem dX0_remove_4 : decode cX0_remove 4 = .ok (.iload_n 1, 1) := by decide +kernel
theorem dX0_remove_5 : decode cX0_remove 5 = .ok (.iconst 1, 1) := by decide +kernel
theorem dX0_remove_6 : decode cX0_remove 6 = .ok (.iadd, 1) := by decide +kernel
theorem dX0_remove_7 : decode cX0_remove 7 = .ok (.aload_n 0, 1) := by decide +kernel
theorem dX0_remove_8 : decode cX0_remove 8 = .ok (.getfield 9, 3) := by decide +kernel
theorem dX0_remove_11 : decode cX0_remove 11 = .ok (.iload_n 1, 1) := by decide +kernel
theorem dX0_remove_12 : decode cX0_remove 12 = .ok (.aload_n 0, 1) := by decide +kernel
theorem dX0_remove_13 : decode cX0_remove 13 = .ok (.getfield 15, 3) := by decide +kernel
theorem dX0_remove_16 : decode cX0_remove 16 = .ok (.iload_n 1, 1) := by decide +kernel
theorem dX0_remove_17 : decode cX0_remove 17 = .ok (.isub, 1) := by decide +kernel
theorem dX0_remove_18 : decode cX0_remove 18 = .ok (.iconst 1, 1) := by decide +kernel
theorem dX0_remove_19 : decode cX0_remove 19 = .ok (.isub, 1) := by decide +kernel
theorem dX0_remove_20 : decode cX0_remove 20 = .ok (.invokestatic 19, 3) := by decide +kernel
theorem dX0_remove_23 : decode cX0_remove 23 = .ok (.aload_n 0, 1) := by decide +kernel
theorem dX0_remove_24 : decode cX0_remove 24 = .ok (.dup, 1) := by decide +kernel
theorem dX0_remove_25 : decode cX0_remove 25 = .ok (.getfield 15, 3) := by decide +kernel
theorem dX0_remove_28 : decode cX0_remove 28 = .ok (.iconst 1, 1) := by decide +kernel
theorem dX0_remove_29 : decode cX0_remove 29 = .ok (.isub, 1) := by decide +kernel
theorem dX0_remove_30 : decode cX0_remove 30 = .ok (.putfield 15, 3) := by decide +kernel
theorem dX0_remove_33 : decode cX0_remove 33 = .ok (.return_, 1) := by decide +kernel
theorem dX0_insert_0 : decode cX0_insert 0 = .ok (.aload_n 0, 1) := by decide +kernel
theorem dX0_insert_1 : decode cX0_insert 1 = .ok (.getfield 9, 3) := by decide +kernel
theorem dX0_insert_4 : decode cX0_insert 4 = .ok (.iload_n 1, 1) := by decide +kernel
theorem dX0_insert_5 : decode cX0_insert 5 = .ok (.aload_n 0, 1) := by decide +kernel
theorem dX0_insert_6 : decode cX0_insert 6 = .ok (.getfield 9, 3) := by decide +kernel
theorem dX0_insert_9 : decode cX0_insert 9 = .ok (.iload_n 1, 1) := by decide +kernel
theorem dX0_insert_10 : decode cX0_insert 10 = .ok (.iconst 1, 1) := by decide +kernel
theorem dX0_insert_11 : decode cX0_insert 11 = .ok (.iadd, 1) := by decide +kernel
theorem dX0_insert_12 : decode cX0_insert 12 = .ok (.aload_n 0, 1) := by decide +kernel
theorem dX0_insert_13 : decode cX0_insert 13 = .ok (.getfield 15, 3) := by decide +kernel
theorem dX0_insert_16 : decode cX0_insert 16 = .ok (.iload_n 1, 1) := by decide +kernel
theorem dX0_insert_17 : decode cX0_insert 17 = .ok (.isub, 1) := by decide +kernel
theorem dX0_insert_18 : decode cX0_insert 18 = .ok (.invokestatic 19, 3) := by decide +kernel
theorem dX0_insert_21 : decode cX0_insert 21 = .ok (.aload_n 0, 1) := by decide +kernel
theorem dX0_insert_22 : decode cX0_insert 22 = .ok (.getfield 9, 3) := by decide +kernel
theorem dX0_insert_25 : decode cX0_insert 25 = .ok (.iload_n 1, 1) := by decide +kernel
theorem dX0_insert_26 : decode cX0_insert 26 = .ok (.iload_n 2, 1) := by decide +kernel
theorem dX0_insert_27 : decode cX0_insert 27 = .ok (.iastore, 1) := by decide +kernel
theorem dX0_insert_28 : decode cX0_insert 28 = .ok (.aload_n 0, 1) := by decide +kernel
theorem dX0_insert_29 : decode cX0_insert 29 = .ok (.dup, 1) := by decide +kernel
theorem dX0_insert_30 : decode cX0_insert 30 = .ok (.getfield 15, 3) := by decide +kernel
theorem dX0_insert_33 : decode cX0_insert 33 = .ok (.iconst 1, 1) := by decide +kernel
theorem dX0_insert_34 : decode cX0_insert 34 = .ok (.iadd, 1) := by decide +kernel
theorem dX0_insert_35 : decode cX0_insert 35 = .ok (.putfield 15, 3) := by decide +kernel
theorem dX0_insert_38 : decode cX0_insert 38 = .ok (.return_, 1) := by decide +kernel
theorem dX0_dropFirst_0 : decode cX0_dropFirst 0 = .ok (.aload_n 0, 1) := by decide +kernel
theorem dX0_dropFirst_1 : decode cX0_dropFirst 1 = .ok (.getfield 9, 3) := by decide +kernel
theorem dX0_dropFirst_4 : decode cX0_dropFirst 4 = .ok (.iload_n 1, 1) := by decide +kernel
theorem dX0_dropFirst_5 : decode cX0_dropFirst 5 = .ok (.aload_n 0, 1) := by decide +kernel
theorem dX0_dropFirst_6 : decode cX0_dropFirst 6 = .ok (.getfield 9, 3) := by decide +kernel
theorem dX0_dropFirst_9 : decode cX0_dropFirst 9 = .ok (.iconst 0, 1) := by decide +kernel
theorem dX0_dropFirst_10 : decode cX0_dropFirst 10 = .ok (.aload_n 0, 1) := by decide +kernel
theorem dX0_dropFirst_11 : decode cX0_dropFirst 11 = .ok (.getfield 15, 3) := by decide +kernel
theorem dX0_dropFirst_14 : decode cX0_dropFirst 14 = .ok (.iload_n 1, 1) := by decide +kernel
theorem dX0_dropFirst_15 : decode cX0_dropFirst 15 = .ok (.isub, 1) := by decide +kernel
theorem dX0_dropFirst_16 : decode cX0_dropFirst 16 = .ok (.invokestatic 19, 3) := by decide +kernel
theorem dX0_dropFirst_19 : decode cX0_dropFirst 19 = .ok (.aload_n 0, 1) := by decide +kernel
theorem dX0_dropFirst_20 : decode cX0_dropFirst 20 = .ok (.aload_n 0, 1) := by decide +kernel
theorem dX0_dropFirst_21 : decode cX0_dropFirst 21 = .ok (.getfield 15, 3) := by decide +kernel
theorem dX0_dropFirst_24 : decode cX0_dropFirst 24 = .ok (.iload_n 1, 1) := by decide +kernel
theorem dX0_dropFirst_25 : decode cX0_dropFirst 25 = .ok (.isub, 1) := by decide +kernel
theorem dX0_dropFirst_26 : decode cX0_dropFirst 26 = .ok (.putfield 15, 3) := by decide +kernel
theorem dX0_dropFirst_29 : decode cX0_dropFirst 29 = .ok (.return_, 1) := by decide +kernel
theorem dX0_mixInto_0 : decode cX0_mixInto 0 = .ok (.lload_n 1, 1) := by decide +kernel
theorem dX0_mixInto_1 : decode cX0_mixInto 1 = .ok (.aload_n 0, 1) := by decide +kernel
theorem dX0_mixInto_2 : decode cX0_mixInto 2 = .ok (.getfield 15, 3) := by decide +kernel
theorem dX0_mixInto_5 : decode cX0_mixInto 5 = .ok (.i2l, 1) := by decide +kernel
theorem dX0_mixInto_6 : decode cX0_mixInto 6 = .ok (.invokestatic 25, 3) := by decide +kernel
theorem dX0_mixInto_9 : decode cX0_mixInto 9 = .ok (.lstore_n 3, 1) := by decide +kernel
theorem dX0_mixInto_10 : decode cX0_mixInto 10 = .ok (.iconst 0, 1) := by decide +kernel
theorem dX0_mixInto_11 : decode cX0_mixInto 11 = .ok (.istore 5, 2) := by decide +kernel
theorem dX0_mixInto_13 : decode cX0_mixInto 13 = .ok (.iload 5, 2) := by decide +kernel
theorem dX0_mixInto_15 : decode cX0_mixInto 15 = .ok (.aload_n 0, 1) := by decide +kernel
theorem dX0_mixInto_16 : decode cX0_mixInto 16 = .ok (.getfield 15, 3) := by decide +kernel
theorem dX0_mixInto_19 : decode cX0_mixInto 19 = .ok (.if_icmp .ge 24, 3) := by decide +kernel
theorem dX0_mixInto_22 : decode cX0_mixInto 22 = .ok (.ldc2_w 29, 3) := by decide +kernel
theorem dX0_mixInto_25 : decode cX0_mixInto 25 = .ok (.lload_n 3, 1) := by decide +kernel
theorem dX0_mixInto_26 : decode cX0_mixInto 26 = .ok (.lmul, 1) := by decide +kernel
theorem dX0_mixInto_27 : decode cX0_mixInto 27 = .ok (.aload_n 0, 1) := by decide +kernel
theorem dX0_mixInto_28 : decode cX0_mixInto 28 = .ok (.getfield 9, 3) := by decide +kernel
theorem dX0_mixInto_31 : decode cX0_mixInto 31 = .ok (.iload 5, 2) := by decide +kernel
theorem dX0_mixInto_33 : decode cX0_mixInto 33 = .ok (.iaload, 1) := by decide +kernel
theorem dX0_mixInto_34 : decode cX0_mixInto 34 = .ok (.i2l, 1) := by decide +kernel
theorem dX0_mixInto_35 : decode cX0_mixInto 35 = .ok (.ladd, 1) := by decide +kernel
theorem dX0_mixInto_36 : decode cX0_mixInto 36 = .ok (.lstore_n 3, 1) := by decide +kernel
theorem dX0_mixInto_37 : decode cX0_mixInto 37 = .ok (.iinc 5 1, 3) := by decide +kernel
theorem dX0_mixInto_40 : decode cX0_mixInto 40 = .ok (.goto (-27), 3) := by decide +kernel
theorem dX0_mixInto_43 : decode cX0_mixInto 43 = .ok (.lload_n 3, 1) := by decide +kernel
theorem dX0_mixInto_44 : decode cX0_mixInto 44 = .ok (.lreturn, 1) := by decide +kernel
theorem dX1_init_0 : decode cX1_init 0 = .ok (.aload_n 0, 1) := by decide +kernel
theorem dX1_init_1 : decode cX1_init 1 = .ok (.invokespecial 3, 3) := by decide +kernel
theorem dX1_init_4 : decode cX1_init 4 = .ok (.aload_n 0, 1) := by decide +kernel
theorem dX1_init_5 : decode cX1_init 5 = .ok (.bipush 8, 2) := by decide +kernel
theorem dX1_init_7 : decode cX1_init 7 = .ok (.putfield 9, 3) := by decide +kernel
theorem dX1_init_10 : decode cX1_init 10 = .ok (.aload_n 0, 1) := by decide +kernel
theorem dX1_init_11 : decode cX1_init 11 = .ok (.iconst 4, 1) := by decide +kernel
theorem dX1_init_12 : decode cX1_init 12 = .ok (.putfield 15, 3) := by decide +kernel
theorem dX1_init_15 : decode cX1_init 15 = .ok (.aload_n 0, 1) := by decide +kernel
theorem dX1_init_16 : decode cX1_init 16 = .ok (.iconst 0, 1) := by decide +kernel
theorem dX1_init_17 : decode cX1_init 17 = .ok (.putfield 18, 3) := by decide +kernel
theorem dX1_init_20 : decode cX1_init 20 = .ok (.aload_n 0, 1) := by decide +kernel
theorem dX1_init_21 : decode cX1_init 21 = .ok (.iconst 0, 1) := by decide +kernel
theorem dX1_init_22 : decode cX1_init 22 = .ok (.putfield 22, 3) := by decide +kernel
theorem dX1_init_25 : decode cX1_init 25 = .ok (.aload_n 0, 1) := by decide +kernel
theorem dX1_init_26 : decode cX1_init 26 = .ok (.sipush 128, 3) := by decide +kernel
theorem dX1_init_29 : decode cX1_init 29 = .ok (.newarray .int, 2) := by decide +kernel
theorem dX1_init_31 : decode cX1_init 31 = .ok (.putfield 25, 3) := by decide +kernel
theorem dX1_init_34 : decode cX1_init 34 = .ok (.return_, 1) := by decide +kernel
theorem dX1_copyFrom_0 : decode cX1_copyFrom 0 = .ok (.aload_n 0, 1) := by decide +kernel
theorem dX1_copyFrom_1 : decode cX1_copyFrom 1 = .ok (.aload_n 1, 1) := by decide +kernel
theorem dX1_copyFrom_2 : decode cX1_copyFrom 2 = .ok (.getfield 9, 3) := by decide +kernel
theorem dX1_copyFrom_5 : decode cX1_copyFrom 5 = .ok (.putfield 9, 3) := by decide +kernel
theorem dX1_copyFrom_8 : decode cX1_copyFrom 8 = .ok (.aload_n 0, 1) := by decide +kernel
theorem dX1_copyFrom_9 : decode cX1_copyFrom 9 = .ok (.aload_n 1, 1) := by decide +kernel
theorem dX1_copyFrom_10 : decode cX1_copyFrom 10 = .ok (.getfield 15, 3) := by decide +kernel
theorem dX1_copyFrom_13 : decode cX1_copyFrom 13 = .ok (.putfield 15, 3) := by decide +kernel
theorem dX1_copyFrom_16 : decode cX1_copyFrom 16 = .ok (.aload_n 0, 1) := by decide +kernel
theorem dX1_copyFrom_17 : decode cX1_copyFrom 17 = .ok (.aload_n 1, 1) := by decide +kernel
theorem dX1_copyFrom_18 : decode cX1_copyFrom 18 = .ok (.getfield 18, 3) := by decide +kernel
theorem dX1_copyFrom_21 : decode cX1_copyFrom 21 = .ok (.putfield 18, 3) := by decide +kernel
theorem dX1_copyFrom_24 : decode cX1_copyFrom 24 = .ok (.aload_n 0, 1) := by decide +kernel
theorem dX1_copyFrom_25 : decode cX1_copyFrom 25 = .ok (.aload_n 1, 1) := by decide +kernel
theorem dX1_copyFrom_26 : decode cX1_copyFrom 26 = .ok (.getfield 22, 3) := by decide +kernel
theorem dX1_copyFrom_29 : decode cX1_copyFrom 29 = .ok (.putfield 22, 3) := by decide +kernel
theorem dX1_copyFrom_32 : decode cX1_copyFrom 32 = .ok (.aload_n 1, 1) := by decide +kernel
theorem dX1_copyFrom_33 : decode cX1_copyFrom 33 = .ok (.getfield 25, 3) := by decide +kernel
theorem dX1_copyFrom_36 : decode cX1_copyFrom 36 = .ok (.iconst 0, 1) := by decide +kernel
theorem dX1_copyFrom_37 : decode cX1_copyFrom 37 = .ok (.aload_n 0, 1) := by decide +kernel
theorem dX1_copyFrom_38 : decode cX1_copyFrom 38 = .ok (.getfield 25, 3) := by decide +kernel
theorem dX1_copyFrom_41 : decode cX1_copyFrom 41 = .ok (.iconst 0, 1) := by decide +kernel
theorem dX1_copyFrom_42 : decode cX1_copyFrom 42 = .ok (.aload_n 0, 1) := by decide +kernel
theorem dX1_copyFrom_43 : decode cX1_copyFrom 43 = .ok (.getfield 25, 3) := by decide +kernel
theorem dX1_copyFrom_46 : decode cX1_copyFrom 46 = .ok (.arraylength, 1) := by decide +kernel
theorem dX1_copyFrom_47 : decode cX1_copyFrom 47 = .ok (.invokestatic 29, 3) := by decide +kernel
theorem dX1_copyFrom_50 : decode cX1_copyFrom 50 = .ok (.return_, 1) := by decide +kernel
theorem dX1_freeAll_0 : decode cX1_freeAll 0 = .ok (.aload_n 0, 1) := by decide +kernel
theorem dX1_freeAll_1 : decode cX1_freeAll 1 = .ok (.iconst 0, 1) := by decide +kernel
theorem dX1_freeAll_2 : decode cX1_freeAll 2 = .ok (.putfield 22, 3) := by decide +kernel
theorem dX1_freeAll_5 : decode cX1_freeAll 5 = .ok (.aload_n 0, 1) := by decide +kernel
theorem dX1_freeAll_6 : decode cX1_freeAll 6 = .ok (.getfield 25, 3) := by decide +kernel
theorem dX1_freeAll_9 : decode cX1_freeAll 9 = .ok (.iconst (-1), 1) := by decide +kernel
theorem dX1_freeAll_10 : decode cX1_freeAll 10 = .ok (.invokestatic 35, 3) := by decide +kernel
theorem dX1_freeAll_13 : decode cX1_freeAll 13 = .ok (.return_, 1) := by decide +kernel
theorem dX1_columns_0 : decode cX1_columns 0 = .ok (.aload_n 0, 1) := by decide +kernel
theorem dX1_columns_1 : decode cX1_columns 1 = .ok (.getfield 9, 3) := by decide +kernel
theorem dX1_columns_4 : decode cX1_columns 4 = .ok (.iconst 3, 1) := by decide +kernel
theorem dX1_columns_5 : decode cX1_columns 5 = .ok (.isub, 1) := by decide +kernel
theorem dX1_columns_6 : decode cX1_columns 6 = .ok (.ireturn, 1) := by decide +kernel
theorem dX1_ownerAt_0 : decode cX1_ownerAt 0 = .ok (.iload_n 1, 1) := by decide +kernel
theorem dX1_ownerAt_1 : decode cX1_ownerAt 1 = .ok (.bipush 16, 2) := by decide +kernel
theorem dX1_ownerAt_3 : decode cX1_ownerAt 3 = .ok (.imul, 1) := by decide +kernel
theorem dX1_ownerAt_4 : decode cX1_ownerAt 4 = .ok (.iload_n 2, 1) := by decide +kernel
theorem dX1_ownerAt_5 : decode cX1_ownerAt 5 = .ok (.iadd, 1) := by decide +kernel
theorem dX1_ownerAt_6 : decode cX1_ownerAt 6 = .ok (.istore_n 3, 1) := by decide +kernel
theorem dX1_ownerAt_7 : decode cX1_ownerAt 7 = .ok (.iload_n 3, 1) := by decide +kernel
theorem dX1_ownerAt_8 : decode cX1_ownerAt 8 = .ok (.ifCond .lt 21, 3) := by decide +kernel
theorem dX1_ownerAt_11 : decode cX1_ownerAt 11 = .ok (.iload_n 3, 1) := by decide +kernel
theorem dX1_ownerAt_12 : decode cX1_ownerAt 12 = .ok (.aload_n 0, 1) := by decide +kernel
theorem dX1_ownerAt_13 : decode cX1_ownerAt 13 = .ok (.getfield 25, 3) := by decide +kernel
theorem dX1_ownerAt_16 : decode cX1_ownerAt 16 = .ok (.arraylength, 1) := by decide +kernel
theorem dX1_ownerAt_17 : decode cX1_ownerAt 17 = .ok (.if_icmp .ge 12, 3) := by decide +kernel
theorem dX1_ownerAt_20 : decode cX1_ownerAt 20 = .ok (.aload_n 0, 1) := by decide +kernel
theorem dX1_ownerAt_21 : decode cX1_ownerAt 21 = .ok (.getfield 25, 3) := by decide +kernel
theorem dX1_ownerAt_24 : decode cX1_ownerAt 24 = .ok (.iload_n 3, 1) := by decide +kernel
theorem dX1_ownerAt_25 : decode cX1_ownerAt 25 = .ok (.iaload, 1) := by decide +kernel
theorem dX1_ownerAt_26 : decode cX1_ownerAt 26 = .ok (.goto 4, 3) := by decide +kernel
theorem dX1_ownerAt_29 : decode cX1_ownerAt 29 = .ok (.iconst (-1), 1) := by decide +kernel
theorem dX1_ownerAt_30 : decode cX1_ownerAt 30 = .ok (.ireturn, 1) := by decide +kernel
theorem dX1_giveWord_0 : decode cX1_giveWord 0 = .ok (.iload_n 1, 1) := by decide +kernel
theorem dX1_giveWord_1 : decode cX1_giveWord 1 = .ok (.bipush 16, 2) := by decide +kernel
theorem dX1_giveWord_3 : decode cX1_giveWord 3 = .ok (.imul, 1) := by decide +kernel
theorem dX1_giveWord_4 : decode cX1_giveWord 4 = .ok (.iload_n 2, 1) := by decide +kernel
theorem dX1_giveWord_5 : decode cX1_giveWord 5 = .ok (.iadd, 1) := by decide +kernel
theorem dX1_giveWord_6 : decode cX1_giveWord 6 = .ok (.istore 4, 2) := by decide +kernel
theorem dX1_giveWord_8 : decode cX1_giveWord 8 = .ok (.iload 4, 2) := by decide +kernel
theorem dX1_giveWord_10 : decode cX1_giveWord 10 = .ok (.ifCond .lt 31, 3) := by decide +kernel
theorem dX1_giveWord_13 : decode cX1_giveWord 13 = .ok (.iload 4, 2) := by decide +kernel
theorem dX1_giveWord_15 : decode cX1_giveWord 15 = .ok (.aload_n 0, 1) := by decide +kernel
theorem dX1_giveWord_16 : decode cX1_giveWord 16 = .ok (.getfield 25, 3) := by decide +kernel
theorem dX1_giveWord_19 : decode cX1_giveWord 19 = .ok (.arraylength, 1) := by decide +kernel
theorem dX1_giveWord_20 : decode cX1_giveWord 20 = .ok (.if_icmp .ge 21, 3) := by decide +kernel
theorem dX1_giveWord_23 : decode cX1_giveWord 23 = .ok (.aload_n 0, 1) := by decide +kernel
theorem dX1_giveWord_24 : decode cX1_giveWord 24 = .ok (.getfield 25, 3) := by decide +kernel
theorem dX1_giveWord_27 : decode cX1_giveWord 27 = .ok (.iload 4, 2) := by decide +kernel
theorem dX1_giveWord_29 : decode cX1_giveWord 29 = .ok (.iload_n 3, 1) := by decide +kernel
theorem dX1_giveWord_30 : decode cX1_giveWord 30 = .ok (.iastore, 1) := by decide +kernel
theorem dX1_giveWord_31 : decode cX1_giveWord 31 = .ok (.aload_n 0, 1) := by decide +kernel
theorem dX1_giveWord_32 : decode cX1_giveWord 32 = .ok (.dup, 1) := by decide +kernel
theorem dX1_giveWord_33 : decode cX1_giveWord 33 = .ok (.getfield 22, 3) := by decide +kernel
theorem dX1_giveWord_36 : decode cX1_giveWord 36 = .ok (.iconst 1, 1) := by decide +kernel
theorem dX1_giveWord_37 : decode cX1_giveWord 37 = .ok (.iadd, 1) := by decide +kernel
theorem dX1_giveWord_38 : decode cX1_giveWord 38 = .ok (.putfield 22, 3) := by decide +kernel
theorem dX1_giveWord_41 : decode cX1_giveWord 41 = .ok (.return_, 1) := by decide +kernel
theorem dX1_placeOf_0 : decode cX1_placeOf 0 = .ok (.iconst 0, 1) := by decide +kernel
theorem dX1_placeOf_1 : decode cX1_placeOf 1 = .ok (.istore_n 3, 1) := by decide +kernel
theorem dX1_placeOf_2 : decode cX1_placeOf 2 = .ok (.iconst 0, 1) := by decide +kernel
theorem dX1_placeOf_3 : decode cX1_placeOf 3 = .ok (.istore 4, 2) := by decide +kernel
theorem dX1_placeOf_5 : decode cX1_placeOf 5 = .ok (.iload 4, 2) := by decide +kernel
theorem dX1_placeOf_7 : decode cX1_placeOf 7 = .ok (.aload_n 0, 1) := by decide +kernel
theorem dX1_placeOf_8 : decode cX1_placeOf 8 = .ok (.getfield 25, 3) := by decide +kernel
theorem dX1_placeOf_11 : decode cX1_placeOf 11 = .ok (.arraylength, 1) := by decide +kernel
theorem dX1_placeOf_12 : decode cX1_placeOf 12 = .ok (.if_icmp .ge 31, 3) := by decide +kernel
theorem dX1_placeOf_15 : decode cX1_placeOf 15 = .ok (.aload_n 0, 1) := by decide +kernel
theorem dX1_placeOf_16 : decode cX1_placeOf 16 = .ok (.getfield 25, 3) := by decide +kernel
theorem dX1_placeOf_19 : decode cX1_placeOf 19 = .ok (.iload 4, 2) := by decide +kernel
theorem dX1_placeOf_21 : decode cX1_placeOf 21 = .ok (.iaload, 1) := by decide +kernel
theorem dX1_placeOf_22 : decode cX1_placeOf 22 = .ok (.iload_n 1, 1) := by decide +kernel
theorem dX1_placeOf_23 : decode cX1_placeOf 23 = .ok (.if_icmp .ne 14, 3) := by decide +kernel
theorem dX1_placeOf_26 : decode cX1_placeOf 26 = .ok (.iload_n 3, 1) := by decide +kernel
theorem dX1_placeOf_27 : decode cX1_placeOf 27 = .ok (.iload_n 2, 1) := by decide +kernel
theorem dX1_placeOf_28 : decode cX1_placeOf 28 = .ok (.if_icmp .ne 6, 3) := by decide +kernel
theorem dX1_placeOf_31 : decode cX1_placeOf 31 = .ok (.iload 4, 2) := by decide +kernel
theorem dX1_placeOf_33 : decode cX1_placeOf 33 = .ok (.ireturn, 1) := by decide +kernel
theorem dX1_placeOf_34 : decode cX1_placeOf 34 = .ok (.iinc 3 1, 3) := by decide +kernel
theorem dX1_placeOf_37 : decode cX1_placeOf 37 = .ok (.iinc 4 1, 3) := by decide +kernel
theorem dX1_placeOf_40 : decode cX1_placeOf 40 = .ok (.goto (-35), 3) := by decide +kernel
theorem dX1_placeOf_43 : decode cX1_placeOf 43 = .ok (.iconst (-1), 1) := by decide +kernel
theorem dX1_placeOf_44 : decode cX1_placeOf 44 = .ok (.ireturn, 1) := by decide +kernel
theorem dX1_place_0 : decode cX1_place 0 = .ok (.iload_n 2, 1) := by decide +kernel
theorem dX1_place_1 : decode cX1_place 1 = .ok (.ifCond .le 12, 3) := by decide +kernel
theorem dX1_place_4 : decode cX1_place 4 = .ok (.aload_n 0, 1) := by decide +kernel
theorem dX1_place_5 : decode cX1_place 5 = .ok (.iload_n 1, 1) := by decide +kernel
theorem dX1_place_6 : decode cX1_place 6 = .ok (.iload_n 2, 1) := by decide +kernel
theorem dX1_place_7 : decode cX1_place 7 = .ok (.invokevirtual 41, 3) := by decide +kernel
theorem dX1_place_10 : decode cX1_place 10 = .ok (.goto 10, 3) := by decide +kernel
theorem dX1_place_13 : decode cX1_place 13 = .ok (.aload_n 0, 1) := by decide +kernel
theorem dX1_place_14 : decode cX1_place 14 = .ok (.iload_n 1, 1) := by decide +kernel
theorem dX1_place_15 : decode cX1_place 15 = .ok (.iload_n 2, 1) := by decide +kernel
theorem dX1_place_16 : decode cX1_place 16 = .ok (.ineg, 1) := by decide +kernel
theorem dX1_place_17 : decode cX1_place 17 = .ok (.invokevirtual 45, 3) := by decide +kernel
theorem dX1_place_20 : decode cX1_place 20 = .ok (.ireturn, 1) := by decide +kernel
theorem dX1_placeOften_0 : decode cX1_placeOften 0 = .ok (.iload_n 2, 1) := by decide +kernel
theorem dX1_placeOften_1 : decode cX1_placeOften 1 = .ok (.ifCond .le 12, 3) := by decide +kernel
theorem dX1_placeOften_4 : decode cX1_placeOften 4 = .ok (.aload_n 0, 1) := by decide +kernel
theorem dX1_placeOften_5 : decode cX1_placeOften 5 = .ok (.invokevirtual 48, 3) := by decide +kernel
theorem dX1_placeOften_8 : decode cX1_placeOften 8 = .ok (.iload_n 2, 1) := by decide +kernel
theorem dX1_placeOften_9 : decode cX1_placeOften 9 = .ok (.irem, 1) := by decide +kernel
theorem dX1_placeOften_10 : decode cX1_placeOften 10 = .ok (.ifCond .eq 5, 3) := by decide +kernel
theorem dX1_placeOften_13 : decode cX1_placeOften 13 = .ok (.iconst 0, 1) := by decide +kernel
theorem dX1_placeOften_14 : decode cX1_placeOften 14 = .ok (.ireturn, 1) := by decide +kernel
theorem dX1_placeOften_15 : decode cX1_placeOften 15 = .ok (.aload_n 0, 1) := by decide +kernel
theorem dX1_placeOften_16 : decode cX1_placeOften 16 = .ok (.invokevirtual 48, 3) := by decide +kernel
theorem dX1_placeOften_19 : decode cX1_placeOften 19 = .ok (.iload_n 2, 1) := by decide +kernel
theorem dX1_placeOften_20 : decode cX1_placeOften 20 = .ok (.idiv, 1) := by decide +kernel
theorem dX1_placeOften_21 : decode cX1_placeOften 21 = .ok (.istore_n 3, 1) := by decide +kernel
theorem dX1_placeOften_22 : decode cX1_placeOften 22 = .ok (.iconst 0, 1) := by decide +kernel
theorem dX1_placeOften_23 : decode cX1_placeOften 23 = .ok (.istore 4, 2) := by decide +kernel
theorem dX1_placeOften_25 : decode cX1_placeOften 25 = .ok (.iload 4, 2) := by decide +kernel
theorem dX1_placeOften_27 : decode cX1_placeOften 27 = .ok (.iload_n 3, 1) := by decide +kernel
theorem dX1_placeOften_28 : decode cX1_placeOften 28 = .ok (.if_icmp .ge 51, 3) := by decide +kernel
theorem dX1_placeOften_31 : decode cX1_placeOften 31 = .ok (.aload_n 0, 1) := by decide +kernel
theorem dX1_placeOften_32 : decode cX1_placeOften 32 = .ok (.iload 4, 2) := by decide +kernel
theorem dX1_placeOften_34 : decode cX1_placeOften 34 = .ok (.iload_n 3, 1) := by decide +kernel
theorem dX1_placeOften_35 : decode cX1_placeOften 35 = .ok (.iload_n 2, 1) := by decide +kernel
theorem dX1_placeOften_36 : decode cX1_placeOften 36 = .ok (.invokevirtual 52, 3) := by decide +kernel
theorem dX1_placeOften_39 : decode cX1_placeOften 39 = .ok (.ifCond .eq 34, 3) := by decide +kernel
theorem dX1_placeOften_42 : decode cX1_placeOften 42 = .ok (.iconst 0, 1) := by decide +kernel
theorem dX1_placeOften_43 : decode cX1_placeOften 43 = .ok (.istore 5, 2) := by decide +kernel
theorem dX1_placeOften_45 : decode cX1_placeOften 45 = .ok (.iload 5, 2) := by decide +kernel
theorem dX1_placeOften_47 : decode cX1_placeOften 47 = .ok (.iload_n 2, 1) := by decide +kernel
theorem dX1_placeOften_48 : decode cX1_placeOften 48 = .ok (.if_icmp .ge 23, 3) := by decide +kernel
theorem dX1_placeOften_51 : decode cX1_placeOften 51 = .ok (.aload_n 0, 1) := by decide +kernel
theorem dX1_placeOften_52 : decode cX1_placeOften 52 = .ok (.iload 4, 2) := by decide +kernel
theorem dX1_placeOften_54 : decode cX1_placeOften 54 = .ok (.iload 5, 2) := by decide +kernel
theorem dX1_placeOften_56 : decode cX1_placeOften 56 = .ok (.iload_n 3, 1) := by decide +kernel
theorem dX1_placeOften_57 : decode cX1_placeOften 57 = .ok (.imul, 1) := by decide +kernel
theorem dX1_placeOften_58 : decode cX1_placeOften 58 = .ok (.iadd, 1) := by decide +kernel
theorem dX1_placeOften_59 : decode cX1_placeOften 59 = .ok (.iconst 0, 1) := by decide +kernel
theorem dX1_placeOften_60 : decode cX1_placeOften 60 = .ok (.iconst 1, 1) := by decide +kernel
theorem dX1_placeOften_61 : decode cX1_placeOften 61 = .ok (.iload_n 1, 1) := by decide +kernel
theorem dX1_placeOften_62 : decode cX1_placeOften 62 = .ok (.invokevirtual 56, 3) := by decide +kernel
theorem dX1_placeOften_65 : decode cX1_placeOften 65 = .ok (.iinc 5 1, 3) := by decide +kernel
theorem dX1_placeOften_68 : decode cX1_placeOften 68 = .ok (.goto (-23), 3) := by decide +kernel
theorem dX1_placeOften_71 : decode cX1_placeOften 71 = .ok (.iconst 1, 1) := by decide +kernel
theorem dX1_placeOften_72 : decode cX1_placeOften 72 = .ok (.ireturn, 1) := by decide +kernel
theorem dX1_placeOften_73 : decode cX1_placeOften 73 = .ok (.iinc 4 1, 3) := by decide +kernel
theorem dX1_placeOften_76 : decode cX1_placeOften 76 = .ok (.goto (-51), 3) := by decide +kernel
theorem dX1_placeOften_79 : decode cX1_placeOften 79 = .ok (.iconst 0, 1) := by decide +kernel
theorem dX1_placeOften_80 : decode cX1_placeOften 80 = .ok (.ireturn, 1) := by decide +kernel
theorem dX1_placeSeldom_0 : decode cX1_placeSeldom 0 = .ok (.aload_n 0, 1) := by decide +kernel
theorem dX1_placeSeldom_1 : decode cX1_placeSeldom 1 = .ok (.getfield 15, 3) := by decide +kernel
theorem dX1_placeSeldom_4 : decode cX1_placeSeldom 4 = .ok (.iload_n 2, 1) := by decide +kernel
theorem dX1_placeSeldom_5 : decode cX1_placeSeldom 5 = .ok (.if_icmp .ge 5, 3) := by decide +kernel
theorem dX1_placeSeldom_8 : decode cX1_placeSeldom 8 = .ok (.iconst 0, 1) := by decide +kernel
theorem dX1_placeSeldom_9 : decode cX1_placeSeldom 9 = .ok (.ireturn, 1) := by decide +kernel
theorem dX1_placeSeldom_10 : decode cX1_placeSeldom 10 = .ok (.iconst 0, 1) := by decide +kernel
theorem dX1_placeSeldom_11 : decode cX1_placeSeldom 11 = .ok (.istore_n 3, 1) := by decide +kernel
theorem dX1_placeSeldom_12 : decode cX1_placeSeldom 12 = .ok (.iload_n 3, 1) := by decide +kernel
theorem dX1_placeSeldom_13 : decode cX1_placeSeldom 13 = .ok (.aload_n 0, 1) := by decide +kernel
theorem dX1_placeSeldom_14 : decode cX1_placeSeldom 14 = .ok (.invokevirtual 48, 3) := by decide +kernel
theorem dX1_placeSeldom_17 : decode cX1_placeSeldom 17 = .ok (.if_icmp .ge 46, 3) := by decide +kernel
theorem dX1_placeSeldom_20 : decode cX1_placeSeldom 20 = .ok (.iconst 0, 1) := by decide +kernel
theorem dX1_placeSeldom_21 : decode cX1_placeSeldom 21 = .ok (.istore 4, 2) := by decide +kernel
theorem dX1_placeSeldom_23 : decode cX1_placeSeldom 23 = .ok (.iload 4, 2) := by decide +kernel
theorem dX1_placeSeldom_25 : decode cX1_placeSeldom 25 = .ok (.iload_n 2, 1) := by decide +kernel
theorem dX1_placeSeldom_26 : decode cX1_placeSeldom 26 = .ok (.if_icmp .ge 31, 3) := by decide +kernel
theorem dX1_placeSeldom_29 : decode cX1_placeSeldom 29 = .ok (.aload_n 0, 1) := by decide +kernel
theorem dX1_placeSeldom_30 : decode cX1_placeSeldom 30 = .ok (.iload_n 3, 1) := by decide +kernel
theorem dX1_placeSeldom_31 : decode cX1_placeSeldom 31 = .ok (.iload 4, 2) := by decide +kernel
theorem dX1_placeSeldom_33 : decode cX1_placeSeldom 33 = .ok (.iload_n 2, 1) := by decide +kernel
theorem dX1_placeSeldom_34 : decode cX1_placeSeldom 34 = .ok (.invokevirtual 60, 3) := by decide +kernel
theorem dX1_placeSeldom_37 : decode cX1_placeSeldom 37 = .ok (.ifCond .eq 14, 3) := by decide +kernel
theorem dX1_placeSeldom_40 : decode cX1_placeSeldom 40 = .ok (.aload_n 0, 1) := by decide +kernel
theorem dX1_placeSeldom_41 : decode cX1_placeSeldom 41 = .ok (.iload_n 3, 1) := by decide +kernel
theorem dX1_placeSeldom_42 : decode cX1_placeSeldom 42 = .ok (.iload 4, 2) := by decide +kernel
theorem dX1_placeSeldom_44 : decode cX1_placeSeldom 44 = .ok (.iload_n 2, 1) := by decide +kernel
theorem dX1_placeSeldom_45 : decode cX1_placeSeldom 45 = .ok (.iload_n 1, 1) := by decide +kernel
theorem dX1_placeSeldom_46 : decode cX1_placeSeldom 46 = .ok (.invokevirtual 56, 3) := by decide +kernel
theorem dX1_placeSeldom_49 : decode cX1_placeSeldom 49 = .ok (.iconst 1, 1) := by decide +kernel
theorem dX1_placeSeldom_50 : decode cX1_placeSeldom 50 = .ok (.ireturn, 1) := by decide +kernel
theorem dX1_placeSeldom_51 : decode cX1_placeSeldom 51 = .ok (.iinc 4 1, 3) := by decide +kernel
theorem dX1_placeSeldom_54 : decode cX1_placeSeldom 54 = .ok (.goto (-31), 3) := by decide +kernel
theorem dX1_placeSeldom_57 : decode cX1_placeSeldom 57 = .ok (.iinc 3 1, 3) := by decide +kernel
theorem dX1_placeSeldom_60 : decode cX1_placeSeldom 60 = .ok (.goto (-48), 3) := by decide +kernel
theorem dX1_placeSeldom_63 : decode cX1_placeSeldom 63 = .ok (.iconst 0, 1) := by decide +kernel
theorem dX1_placeSeldom_64 : decode cX1_placeSeldom 64 = .ok (.ireturn, 1) := by decide +kernel
theorem dX1_areFree_0 : decode cX1_areFree 0 = .ok (.iconst 0, 1) := by decide +kernel
theorem dX1_areFree_1 : decode cX1_areFree 1 = .ok (.istore 4, 2) := by decide +kernel
theorem dX1_areFree_3 : decode cX1_areFree 3 = .ok (.iload 4, 2) := by decide +kernel
theorem dX1_areFree_5 : decode cX1_areFree 5 = .ok (.iload_n 3, 1) := by decide +kernel
theorem dX1_areFree_6 : decode cX1_areFree 6 = .ok (.if_icmp .ge 26, 3) := by decide +kernel
theorem dX1_areFree_9 : decode cX1_areFree 9 = .ok (.aload_n 0, 1) := by decide +kernel
theorem dX1_areFree_10 : decode cX1_areFree 10 = .ok (.iload_n 1, 1) := by decide +kernel
theorem dX1_areFree_11 : decode cX1_areFree 11 = .ok (.iload 4, 2) := by decide +kernel
theorem dX1_areFree_13 : decode cX1_areFree 13 = .ok (.iload_n 2, 1) := by decide +kernel
theorem dX1_areFree_14 : decode cX1_areFree 14 = .ok (.imul, 1) := by decide +kernel
theorem dX1_areFree_15 : decode cX1_areFree 15 = .ok (.iadd, 1) := by decide +kernel
theorem dX1_areFree_16 : decode cX1_areFree 16 = .ok (.iconst 0, 1) := by decide +kernel
theorem dX1_areFree_17 : decode cX1_areFree 17 = .ok (.iconst 1, 1) := by decide +kernel
theorem dX1_areFree_18 : decode cX1_areFree 18 = .ok (.invokevirtual 60, 3) := by decide +kernel
theorem dX1_areFree_21 : decode cX1_areFree 21 = .ok (.ifCond .ne 5, 3) := by decide +kernel
theorem dX1_areFree_24 : decode cX1_areFree 24 = .ok (.iconst 0, 1) := by decide +kernel
theorem dX1_areFree_25 : decode cX1_areFree 25 = .ok (.ireturn, 1) := by decide +kernel
theorem dX1_areFree_26 : decode cX1_areFree 26 = .ok (.iinc 4 1, 3) := by decide +kernel
theorem dX1_areFree_29 : decode cX1_areFree 29 = .ok (.goto (-26), 3) := by decide +kernel
theorem dX1_areFree_32 : decode cX1_areFree 32 = .ok (.iconst 1, 1) := by decide +kernel
theorem dX1_areFree_33 : decode cX1_areFree 33 = .ok (.ireturn, 1) := by decide +kernel
theorem dX1_minorsOf_0 : decode cX1_minorsOf 0 = .ok (.iload_n 1, 1) := by decide +kernel
theorem dX1_minorsOf_1 : decode cX1_minorsOf 1 = .ok (.ifCond .le 12, 3) := by decide +kernel
theorem dX1_minorsOf_4 : decode cX1_minorsOf 4 = .ok (.aload_n 0, 1) := by decide +kernel
theorem dX1_minorsOf_5 : decode cX1_minorsOf 5 = .ok (.getfield 15, 3) := by decide +kernel
theorem dX1_minorsOf_8 : decode cX1_minorsOf 8 = .ok (.iload_n 1, 1) := by decide +kernel
theorem dX1_minorsOf_9 : decode cX1_minorsOf 9 = .ok (.idiv, 1) := by decide +kernel
theorem dX1_minorsOf_10 : decode cX1_minorsOf 10 = .ok (.goto 4, 3) := by decide +kernel
theorem dX1_minorsOf_13 : decode cX1_minorsOf 13 = .ok (.iconst 0, 1) := by decide +kernel
theorem dX1_minorsOf_14 : decode cX1_minorsOf 14 = .ok (.ireturn, 1) := by decide +kernel
theorem dX1_isFree_0 : decode cX1_isFree 0 = .ok (.aload_n 0, 1) := by decide +kernel
theorem dX1_isFree_1 : decode cX1_isFree 1 = .ok (.iload_n 3, 1) := by decide +kernel
theorem dX1_isFree_2 : decode cX1_isFree 2 = .ok (.invokevirtual 63, 3) := by decide +kernel
theorem dX1_isFree_5 : decode cX1_isFree 5 = .ok (.istore 4, 2) := by decide +kernel
theorem dX1_isFree_7 : decode cX1_isFree 7 = .ok (.iconst 0, 1) := by decide +kernel
theorem dX1_isFree_8 : decode cX1_isFree 8 = .ok (.istore 5, 2) := by decide +kernel
theorem dX1_isFree_10 : decode cX1_isFree 10 = .ok (.iload 5, 2) := by decide +kernel
theorem dX1_isFree_12 : decode cX1_isFree 12 = .ok (.iload 4, 2) := by decide +kernel
theorem dX1_isFree_14 : decode cX1_isFree 14 = .ok (.if_icmp .ge 28, 3) := by decide +kernel
theorem dX1_isFree_17 : decode cX1_isFree 17 = .ok (.aload_n 0, 1) := by decide +kernel
theorem dX1_isFree_18 : decode cX1_isFree 18 = .ok (.iload_n 2, 1) := by decide +kernel
theorem dX1_isFree_19 : decode cX1_isFree 19 = .ok (.iload 5, 2) := by decide +kernel
theorem dX1_isFree_21 : decode cX1_isFree 21 = .ok (.iload_n 3, 1) := by decide +kernel
theorem dX1_isFree_22 : decode cX1_isFree 22 = .ok (.imul, 1) := by decide +kernel
theorem dX1_isFree_23 : decode cX1_isFree 23 = .ok (.iadd, 1) := by decide +kernel
theorem dX1_isFree_24 : decode cX1_isFree 24 = .ok (.iconst 3, 1) := by decide +kernel
theorem dX1_isFree_25 : decode cX1_isFree 25 = .ok (.iload_n 1, 1) := by decide +kernel
theorem dX1_isFree_26 : decode cX1_isFree 26 = .ok (.iadd, 1) := by decide +kernel
theorem dX1_isFree_27 : decode cX1_isFree 27 = .ok (.invokevirtual 67, 3) := by decide +kernel
theorem dX1_isFree_30 : decode cX1_isFree 30 = .ok (.iconst (-1), 1) := by decide +kernel
theorem dX1_isFree_31 : decode cX1_isFree 31 = .ok (.if_icmp .eq 5, 3) := by decide +kernel
theorem dX1_isFree_34 : decode cX1_isFree 34 = .ok (.iconst 0, 1) := by decide +kernel
theorem dX1_isFree_35 : decode cX1_isFree 35 = .ok (.ireturn, 1) := by decide +kernel
theorem dX1_isFree_36 : decode cX1_isFree 36 = .ok (.iinc 5 1, 3) := by decide +kernel
theorem dX1_isFree_39 : decode cX1_isFree 39 = .ok (.goto (-29), 3) := by decide +kernel
theorem dX1_isFree_42 : decode cX1_isFree 42 = .ok (.iconst 1, 1) := by decide +kernel
theorem dX1_isFree_43 : decode cX1_isFree 43 = .ok (.ireturn, 1) := by decide +kernel
theorem dX1_giveColumn_0 : decode cX1_giveColumn 0 = .ok (.aload_n 0, 1) := by decide +kernel
theorem dX1_giveColumn_1 : decode cX1_giveColumn 1 = .ok (.iload_n 3, 1) := by decide +kernel
theorem dX1_giveColumn_2 : decode cX1_giveColumn 2 = .ok (.invokevirtual 63, 3) := by decide +kernel
theorem dX1_giveColumn_5 : decode cX1_giveColumn 5 = .ok (.istore 5, 2) := by decide +kernel
theorem dX1_giveColumn_7 : decode cX1_giveColumn 7 = .ok (.iconst 0, 1) := by decide +kernel
theorem dX1_giveColumn_8 : decode cX1_giveColumn 8 = .ok (.istore 6, 2) := by decide +kernel
theorem dX1_giveColumn_10 : decode cX1_giveColumn 10 = .ok (.iload 6, 2) := by decide +kernel
theorem dX1_giveColumn_12 : decode cX1_giveColumn 12 = .ok (.iload 5, 2) := by decide +kernel
theorem dX1_giveColumn_14 : decode cX1_giveColumn 14 = .ok (.if_icmp .ge 24, 3) := by decide +kernel
theorem dX1_giveColumn_17 : decode cX1_giveColumn 17 = .ok (.aload_n 0, 1) := by decide +kernel
theorem dX1_giveColumn_18 : decode cX1_giveColumn 18 = .ok (.iload_n 2, 1) := by decide +kernel
theorem dX1_giveColumn_19 : decode cX1_giveColumn 19 = .ok (.iload 6, 2) := by decide +kernel
theorem dX1_giveColumn_21 : decode cX1_giveColumn 21 = .ok (.iload_n 3, 1) := by decide +kernel
theorem dX1_giveColumn_22 : decode cX1_giveColumn 22 = .ok (.imul, 1) := by decide +kernel
theorem dX1_giveColumn_23 : decode cX1_giveColumn 23 = .ok (.iadd, 1) := by decide +kernel
theorem dX1_giveColumn_24 : decode cX1_giveColumn 24 = .ok (.iconst 3, 1) := by decide +kernel
theorem dX1_giveColumn_25 : decode cX1_giveColumn 25 = .ok (.iload_n 1, 1) := by decide +kernel
theorem dX1_giveColumn_26 : decode cX1_giveColumn 26 = .ok (.iadd, 1) := by decide +kernel
theorem dX1_giveColumn_27 : decode cX1_giveColumn 27 = .ok (.iload 4, 2) := by decide +kernel
theorem dX1_giveColumn_29 : decode cX1_giveColumn 29 = .ok (.invokevirtual 71, 3) := by decide +kernel
theorem dX1_giveColumn_32 : decode cX1_giveColumn 32 = .ok (.iinc 6 1, 3) := by decide +kernel
theorem dX1_giveColumn_35 : decode cX1_giveColumn 35 = .ok (.goto (-25), 3) := by decide +kernel
theorem dX1_giveColumn_38 : decode cX1_giveColumn 38 = .ok (.return_, 1) := by decide +kernel
theorem dX1_mixInto_0 : decode cX1_mixInto 0 = .ok (.aload_n 0, 1) := by decide +kernel
theorem dX1_mixInto_1 : decode cX1_mixInto 1 = .ok (.getfield 18, 3) := by decide +kernel
theorem dX1_mixInto_4 : decode cX1_mixInto 4 = .ok (.ifCond .ne 9, 3) := by decide +kernel
theorem dX1_mixInto_7 : decode cX1_mixInto 7 = .ok (.lload_n 1, 1) := by decide +kernel
theorem dX1_mixInto_8 : decode cX1_mixInto 8 = .ok (.lconst 0, 1) := by decide +kernel
theorem dX1_mixInto_9 : decode cX1_mixInto 9 = .ok (.invokestatic 75, 3) := by decide +kernel
theorem dX1_mixInto_12 : decode cX1_mixInto 12 = .ok (.lreturn, 1) := by decide +kernel
theorem dX1_mixInto_13 : decode cX1_mixInto 13 = .ok (.lload_n 1, 1) := by decide +kernel
theorem dX1_mixInto_14 : decode cX1_mixInto 14 = .ok (.lconst 1, 1) := by decide +kernel
theorem dX1_mixInto_15 : decode cX1_mixInto 15 = .ok (.invokestatic 75, 3) := by decide +kernel
theorem dX1_mixInto_18 : decode cX1_mixInto 18 = .ok (.lstore_n 3, 1) := by decide +kernel
theorem dX1_mixInto_19 : decode cX1_mixInto 19 = .ok (.iconst 0, 1) := by decide +kernel
theorem dX1_mixInto_20 : decode cX1_mixInto 20 = .ok (.istore 5, 2) := by decide +kernel
theorem dX1_mixInto_22 : decode cX1_mixInto 22 = .ok (.iload 5, 2) := by decide +kernel
theorem dX1_mixInto_24 : decode cX1_mixInto 24 = .ok (.aload_n 0, 1) := by decide +kernel
theorem dX1_mixInto_25 : decode cX1_mixInto 25 = .ok (.getfield 15, 3) := by decide +kernel
theorem dX1_mixInto_28 : decode cX1_mixInto 28 = .ok (.if_icmp .ge 41, 3) := by decide +kernel
theorem dX1_mixInto_31 : decode cX1_mixInto 31 = .ok (.iconst 0, 1) := by decide +kernel
theorem dX1_mixInto_32 : decode cX1_mixInto 32 = .ok (.istore 6, 2) := by decide +kernel
theorem dX1_mixInto_34 : decode cX1_mixInto 34 = .ok (.iload 6, 2) := by decide +kernel
theorem dX1_mixInto_36 : decode cX1_mixInto 36 = .ok (.aload_n 0, 1) := by decide +kernel
theorem dX1_mixInto_37 : decode cX1_mixInto 37 = .ok (.getfield 9, 3) := by decide +kernel
theorem dX1_mixInto_40 : decode cX1_mixInto 40 = .ok (.if_icmp .ge 23, 3) := by decide +kernel
theorem dX1_mixInto_43 : decode cX1_mixInto 43 = .ok (.lload_n 3, 1) := by decide +kernel
theorem dX1_mixInto_44 : decode cX1_mixInto 44 = .ok (.aload_n 0, 1) := by decide +kernel
theorem dX1_mixInto_45 : decode cX1_mixInto 45 = .ok (.iload 5, 2) := by decide +kernel
theorem dX1_mixInto_47 : decode cX1_mixInto 47 = .ok (.iload 6, 2) := by decide +kernel
theorem dX1_mixInto_49 : decode cX1_mixInto 49 = .ok (.invokevirtual 67, 3) := by decide +kernel
theorem dX1_mixInto_52 : decode cX1_mixInto 52 = .ok (.i2l, 1) := by decide +kernel
theorem dX1_mixInto_53 : decode cX1_mixInto 53 = .ok (.invokestatic 75, 3) := by decide +kernel
theorem dX1_mixInto_56 : decode cX1_mixInto 56 = .ok (.lstore_n 3, 1) := by decide +kernel
theorem dX1_mixInto_57 : decode cX1_mixInto 57 = .ok (.iinc 6 1, 3) := by decide +kernel
theorem dX1_mixInto_60 : decode cX1_mixInto 60 = .ok (.goto (-26), 3) := by decide +kernel
theorem dX1_mixInto_63 : decode cX1_mixInto 63 = .ok (.iinc 5 1, 3) := by decide +kernel
theorem dX1_mixInto_66 : decode cX1_mixInto 66 = .ok (.goto (-44), 3) := by decide +kernel
theorem dX1_mixInto_69 : decode cX1_mixInto 69 = .ok (.lload_n 3, 1) := by decide +kernel
theorem dX1_mixInto_70 : decode cX1_mixInto 70 = .ok (.lreturn, 1) := by decide +kernel
theorem dX2_init_0 : decode cX2_init 0 = .ok (.aload_n 0, 1) := by decide +kernel
theorem dX2_init_1 : decode cX2_init 1 = .ok (.invokespecial 3, 3) := by decide +kernel
theorem dX2_init_4 : decode cX2_init 4 = .ok (.aload_n 0, 1) := by decide +kernel
theorem dX2_init_5 : decode cX2_init 5 = .ok (.iconst 3, 1) := by decide +kernel
theorem dX2_init_6 : decode cX2_init 6 = .ok (.newarray .int, 2) := by decide +kernel
theorem dX2_init_8 : decode cX2_init 8 = .ok (.putfield 9, 3) := by decide +kernel
theorem dX2_init_11 : decode cX2_init 11 = .ok (.aload_n 0, 1) := by decide +kernel
theorem dX2_init_12 : decode cX2_init 12 = .ok (.iconst 3, 1) := by decide +kernel
theorem dX2_init_13 : decode cX2_init 13 = .ok (.newarray .int, 2) := by decide +kernel
theorem dX2_init_15 : decode cX2_init 15 = .ok (.putfield 15, 3) := by decide +kernel
theorem dX2_init_18 : decode cX2_init 18 = .ok (.return_, 1) := by decide +kernel
theorem dX2_begin_0 : decode cX2_begin 0 = .ok (.aload_n 0, 1) := by decide +kernel
theorem dX2_begin_1 : decode cX2_begin 1 = .ok (.iload_n 1, 1) := by decide +kernel
theorem dX2_begin_2 : decode cX2_begin 2 = .ok (.putfield 18, 3) := by decide +kernel
theorem dX2_begin_5 : decode cX2_begin 5 = .ok (.aload_n 0, 1) := by decide +kernel
theorem dX2_begin_6 : decode cX2_begin 6 = .ok (.iconst 0, 1) := by decide +kernel
theorem dX2_begin_7 : decode cX2_begin 7 = .ok (.putfield 22, 3) := by decide +kernel
theorem dX2_begin_10 : decode cX2_begin 10 = .ok (.aload_n 0, 1) := by decide +kernel
theorem dX2_begin_11 : decode cX2_begin 11 = .ok (.iconst (-1), 1) := by decide +kernel
theorem dX2_begin_12 : decode cX2_begin 12 = .ok (.putfield 25, 3) := by decide +kernel
theorem dX2_begin_15 : decode cX2_begin 15 = .ok (.aload_n 0, 1) := by decide +kernel
theorem dX2_begin_16 : decode cX2_begin 16 = .ok (.iconst 0, 1) := by decide +kernel
theorem dX2_begin_17 : decode cX2_begin 17 = .ok (.putfield 28, 3) := by decide +kernel
theorem dX2_begin_20 : decode cX2_begin 20 = .ok (.aload_n 0, 1) := by decide +kernel
theorem dX2_begin_21 : decode cX2_begin 21 = .ok (.getfield 9, 3) := by decide +kernel
theorem dX2_begin_24 : decode cX2_begin 24 = .ok (.iconst 0, 1) := by decide +kernel
theorem dX2_begin_25 : decode cX2_begin 25 = .ok (.invokestatic 31, 3) := by decide +kernel
theorem dX2_begin_28 : decode cX2_begin 28 = .ok (.aload_n 0, 1) := by decide +kernel
theorem dX2_begin_29 : decode cX2_begin 29 = .ok (.getfield 15, 3) := by decide +kernel
theorem dX2_begin_32 : decode cX2_begin 32 = .ok (.sipush 255, 3) := by decide +kernel
theorem dX2_begin_35 : decode cX2_begin 35 = .ok (.invokestatic 31, 3) := by decide +kernel
theorem dX2_begin_38 : decode cX2_begin 38 = .ok (.aload_n 0, 1) := by decide +kernel
theorem dX2_begin_39 : decode cX2_begin 39 = .ok (.iconst 1, 1) := by decide +kernel
theorem dX2_begin_40 : decode cX2_begin 40 = .ok (.putfield 37, 3) := by decide +kernel
theorem dX2_begin_43 : decode cX2_begin 43 = .ok (.aload_n 0, 1) := by decide +kernel
theorem dX2_begin_44 : decode cX2_begin 44 = .ok (.iconst 0, 1) := by decide +kernel
theorem dX2_begin_45 : decode cX2_begin 45 = .ok (.putfield 40, 3) := by decide +kernel
theorem dX2_begin_48 : decode cX2_begin 48 = .ok (.aload_n 0, 1) := by decide +kernel
theorem dX2_begin_49 : decode cX2_begin 49 = .ok (.iconst 0, 1) := by decide +kernel
theorem dX2_begin_50 : decode cX2_begin 50 = .ok (.putfield 44, 3) := by decide +kernel
theorem dX2_begin_53 : decode cX2_begin 53 = .ok (.aload_n 0, 1) := by decide +kernel
theorem dX2_begin_54 : decode cX2_begin 54 = .ok (.iconst 0, 1) := by decide +kernel
theorem dX2_begin_55 : decode cX2_begin 55 = .ok (.putfield 47, 3) := by decide +kernel
theorem dX2_begin_58 : decode cX2_begin 58 = .ok (.return_, 1) := by decide +kernel
theorem dX2_copyFrom_0 : decode cX2_copyFrom 0 = .ok (.aload_n 0, 1) := by decide +kernel
theorem dX2_copyFrom_1 : decode cX2_copyFrom 1 = .ok (.aload_n 1, 1) := by decide +kernel
theorem dX2_copyFrom_2 : decode cX2_copyFrom 2 = .ok (.getfield 18, 3) := by decide +kernel
theorem dX2_copyFrom_5 : decode cX2_copyFrom 5 = .ok (.putfield 18, 3) := by decide +kernel
theorem dX2_copyFrom_8 : decode cX2_copyFrom 8 = .ok (.aload_n 0, 1) := by decide +kernel
theorem dX2_copyFrom_9 : decode cX2_copyFrom 9 = .ok (.aload_n 1, 1) := by decide +kernel
theorem dX2_copyFrom_10 : decode cX2_copyFrom 10 = .ok (.getfield 22, 3) := by decide +kernel
theorem dX2_copyFrom_13 : decode cX2_copyFrom 13 = .ok (.putfield 22, 3) := by decide +kernel
theorem dX2_copyFrom_16 : decode cX2_copyFrom 16 = .ok (.aload_n 0, 1) := by decide +kernel
theorem dX2_copyFrom_17 : decode cX2_copyFrom 17 = .ok (.aload_n 1, 1) := by decide +kernel
theorem dX2_copyFrom_18 : decode cX2_copyFrom 18 = .ok (.getfield 25, 3) := by decide +kernel
theorem dX2_copyFrom_21 : decode cX2_copyFrom 21 = .ok (.putfield 25, 3) := by decide +kernel
theorem dX2_copyFrom_24 : decode cX2_copyFrom 24 = .ok (.aload_n 0, 1) := by decide +kernel
theorem dX2_copyFrom_25 : decode cX2_copyFrom 25 = .ok (.aload_n 1, 1) := by decide +kernel
theorem dX2_copyFrom_26 : decode cX2_copyFrom 26 = .ok (.getfield 28, 3) := by decide +kernel
theorem dX2_copyFrom_29 : decode cX2_copyFrom 29 = .ok (.putfield 28, 3) := by decide +kernel
theorem dX2_copyFrom_32 : decode cX2_copyFrom 32 = .ok (.aload_n 1, 1) := by decide +kernel
theorem dX2_copyFrom_33 : decode cX2_copyFrom 33 = .ok (.getfield 9, 3) := by decide +kernel
theorem dX2_copyFrom_36 : decode cX2_copyFrom 36 = .ok (.iconst 0, 1) := by decide +kernel
theorem dX2_copyFrom_37 : decode cX2_copyFrom 37 = .ok (.aload_n 0, 1) := by decide +kernel
theorem dX2_copyFrom_38 : decode cX2_copyFrom 38 = .ok (.getfield 9, 3) := by decide +kernel
theorem dX2_copyFrom_41 : decode cX2_copyFrom 41 = .ok (.iconst 0, 1) := by decide +kernel
theorem dX2_copyFrom_42 : decode cX2_copyFrom 42 = .ok (.iconst 3, 1) := by decide +kernel
theorem dX2_copyFrom_43 : decode cX2_copyFrom 43 = .ok (.invokestatic 50, 3) := by decide +kernel
theorem dX2_copyFrom_46 : decode cX2_copyFrom 46 = .ok (.aload_n 1, 1) := by decide +kernel
theorem dX2_copyFrom_47 : decode cX2_copyFrom 47 = .ok (.getfield 15, 3) := by decide +kernel
theorem dX2_copyFrom_50 : decode cX2_copyFrom 50 = .ok (.iconst 0, 1) := by decide +kernel
theorem dX2_copyFrom_51 : decode cX2_copyFrom 51 = .ok (.aload_n 0, 1) := by decide +kernel
theorem dX2_copyFrom_52 : decode cX2_copyFrom 52 = .ok (.getfield 15, 3) := by decide +kernel
theorem dX2_copyFrom_55 : decode cX2_copyFrom 55 = .ok (.iconst 0, 1) := by decide +kernel
theorem dX2_copyFrom_56 : decode cX2_copyFrom 56 = .ok (.iconst 3, 1) := by decide +kernel
theorem dX2_copyFrom_57 : decode cX2_copyFrom 57 = .ok (.invokestatic 50, 3) := by decide +kernel
theorem dX2_copyFrom_60 : decode cX2_copyFrom 60 = .ok (.aload_n 0, 1) := by decide +kernel
theorem dX2_copyFrom_61 : decode cX2_copyFrom 61 = .ok (.aload_n 1, 1) := by decide +kernel
theorem dX2_copyFrom_62 : decode cX2_copyFrom 62 = .ok (.getfield 37, 3) := by decide +kernel
theorem dX2_copyFrom_65 : decode cX2_copyFrom 65 = .ok (.putfield 37, 3) := by decide +kernel
theorem dX2_copyFrom_68 : decode cX2_copyFrom 68 = .ok (.aload_n 0, 1) := by decide +kernel
theorem dX2_copyFrom_69 : decode cX2_copyFrom 69 = .ok (.aload_n 1, 1) := by decide +kernel
theorem dX2_copyFrom_70 : decode cX2_copyFrom 70 = .ok (.getfield 40, 3) := by decide +kernel
theorem dX2_copyFrom_73 : decode cX2_copyFrom 73 = .ok (.putfield 40, 3) := by decide +kernel
theorem dX2_copyFrom_76 : decode cX2_copyFrom 76 = .ok (.aload_n 0, 1) := by decide +kernel
theorem dX2_copyFrom_77 : decode cX2_copyFrom 77 = .ok (.aload_n 1, 1) := by decide +kernel
theorem dX2_copyFrom_78 : decode cX2_copyFrom 78 = .ok (.getfield 44, 3) := by decide +kernel
theorem dX2_copyFrom_81 : decode cX2_copyFrom 81 = .ok (.putfield 44, 3) := by decide +kernel
theorem dX2_copyFrom_84 : decode cX2_copyFrom 84 = .ok (.aload_n 0, 1) := by decide +kernel
theorem dX2_copyFrom_85 : decode cX2_copyFrom 85 = .ok (.aload_n 1, 1) := by decide +kernel
theorem dX2_copyFrom_86 : decode cX2_copyFrom 86 = .ok (.getfield 47, 3) := by decide +kernel
theorem dX2_copyFrom_89 : decode cX2_copyFrom 89 = .ok (.putfield 47, 3) := by decide +kernel
theorem dX2_copyFrom_92 : decode cX2_copyFrom 92 = .ok (.return_, 1) := by decide +kernel
theorem dX2_samplesIn_0 : decode cX2_samplesIn 0 = .ok (.aload_n 0, 1) := by decide +kernel
theorem dX2_samplesIn_1 : decode cX2_samplesIn 1 = .ok (.getfield 18, 3) := by decide +kernel
theorem dX2_samplesIn_4 : decode cX2_samplesIn 4 = .ok (.ifCond .lt 12, 3) := by decide +kernel
theorem dX2_samplesIn_7 : decode cX2_samplesIn 7 = .ok (.aload_n 0, 1) := by decide +kernel
theorem dX2_samplesIn_8 : decode cX2_samplesIn 8 = .ok (.getfield 18, 3) := by decide +kernel
theorem dX2_samplesIn_11 : decode cX2_samplesIn 11 = .ok (.iload_n 1, 1) := by decide +kernel
theorem dX2_samplesIn_12 : decode cX2_samplesIn 12 = .ok (.imul, 1) := by decide +kernel
theorem dX2_samplesIn_13 : decode cX2_samplesIn 13 = .ok (.goto 10, 3) := by decide +kernel
theorem dX2_samplesIn_16 : decode cX2_samplesIn 16 = .ok (.iload_n 1, 1) := by decide +kernel
theorem dX2_samplesIn_17 : decode cX2_samplesIn 17 = .ok (.aload_n 0, 1) := by decide +kernel
theorem dX2_samplesIn_18 : decode cX2_samplesIn 18 = .ok (.getfield 18, 3) := by decide +kernel
theorem dX2_samplesIn_21 : decode cX2_samplesIn 21 = .ok (.ineg, 1) := by decide +kernel
theorem dX2_samplesIn_22 : decode cX2_samplesIn 22 = .ok (.idiv, 1) := by decide +kernel
theorem dX2_samplesIn_23 : decode cX2_samplesIn 23 = .ok (.ireturn, 1) := by decide +kernel
theorem dX2_takeSample_0 : decode cX2_takeSample 0 = .ok (.aload_n 0, 1) := by decide +kernel
theorem dX2_takeSample_1 : decode cX2_takeSample 1 = .ok (.iload_n 1, 1) := by decide +kernel
theorem dX2_takeSample_2 : decode cX2_takeSample 2 = .ok (.putfield 25, 3) := by decide +kernel
theorem dX2_takeSample_5 : decode cX2_takeSample 5 = .ok (.aload_n 0, 1) := by decide +kernel
theorem dX2_takeSample_6 : decode cX2_takeSample 6 = .ok (.dup, 1) := by decide +kernel
theorem dX2_takeSample_7 : decode cX2_takeSample 7 = .ok (.getfield 28, 3) := by decide +kernel
theorem dX2_takeSample_10 : decode cX2_takeSample 10 = .ok (.iconst 1, 1) := by decide +kernel
theorem dX2_takeSample_11 : decode cX2_takeSample 11 = .ok (.iadd, 1) := by decide +kernel
theorem dX2_takeSample_12 : decode cX2_takeSample 12 = .ok (.putfield 28, 3) := by decide +kernel
theorem dX2_takeSample_15 : decode cX2_takeSample 15 = .ok (.aload_n 0, 1) := by decide +kernel
theorem dX2_takeSample_16 : decode cX2_takeSample 16 = .ok (.iload_n 1, 1) := by decide +kernel
theorem dX2_takeSample_17 : decode cX2_takeSample 17 = .ok (.iload_n 2, 1) := by decide +kernel
theorem dX2_takeSample_18 : decode cX2_takeSample 18 = .ok (.invokevirtual 56, 3) := by decide +kernel
theorem dX2_takeSample_21 : decode cX2_takeSample 21 = .ok (.ifCond .eq 14, 3) := by decide +kernel
theorem dX2_takeSample_24 : decode cX2_takeSample 24 = .ok (.aload_n 0, 1) := by decide +kernel
theorem dX2_takeSample_25 : decode cX2_takeSample 25 = .ok (.iconst 0, 1) := by decide +kernel
theorem dX2_takeSample_26 : decode cX2_takeSample 26 = .ok (.putfield 40, 3) := by decide +kernel
theorem dX2_takeSample_29 : decode cX2_takeSample 29 = .ok (.aload_n 0, 1) := by decide +kernel
theorem dX2_takeSample_30 : decode cX2_takeSample 30 = .ok (.iconst 0, 1) := by decide +kernel
theorem dX2_takeSample_31 : decode cX2_takeSample 31 = .ok (.putfield 44, 3) := by decide +kernel
theorem dX2_takeSample_34 : decode cX2_takeSample 34 = .ok (.return_, 1) := by decide +kernel
theorem dX2_takeSample_35 : decode cX2_takeSample 35 = .ok (.aload_n 0, 1) := by decide +kernel
theorem dX2_takeSample_36 : decode cX2_takeSample 36 = .ok (.dup, 1) := by decide +kernel
theorem dX2_takeSample_37 : decode cX2_takeSample 37 = .ok (.getfield 44, 3) := by decide +kernel
theorem dX2_takeSample_40 : decode cX2_takeSample 40 = .ok (.iconst 1, 1) := by decide +kernel
theorem dX2_takeSample_41 : decode cX2_takeSample 41 = .ok (.iadd, 1) := by decide +kernel
theorem dX2_takeSample_42 : decode cX2_takeSample 42 = .ok (.putfield 44, 3) := by decide +kernel
theorem dX2_takeSample_45 : decode cX2_takeSample 45 = .ok (.aload_n 0, 1) := by decide +kernel
theorem dX2_takeSample_46 : decode cX2_takeSample 46 = .ok (.getfield 44, 3) := by decide +kernel
theorem dX2_takeSample_49 : decode cX2_takeSample 49 = .ok (.aload_n 0, 1) := by decide +kernel
theorem dX2_takeSample_50 : decode cX2_takeSample 50 = .ok (.getfield 37, 3) := by decide +kernel
theorem dX2_takeSample_53 : decode cX2_takeSample 53 = .ok (.if_icmp .lt 25, 3) := by decide +kernel
theorem dX2_takeSample_56 : decode cX2_takeSample 56 = .ok (.aload_n 0, 1) := by decide +kernel
theorem dX2_takeSample_57 : decode cX2_takeSample 57 = .ok (.getfield 40, 3) := by decide +kernel
theorem dX2_takeSample_60 : decode cX2_takeSample 60 = .ok (.ifCond .ne 18, 3) := by decide +kernel
theorem dX2_takeSample_63 : decode cX2_takeSample 63 = .ok (.aload_n 0, 1) := by decide +kernel
theorem dX2_takeSample_64 : decode cX2_takeSample 64 = .ok (.iconst 1, 1) := by decide +kernel
theorem dX2_takeSample_65 : decode cX2_takeSample 65 = .ok (.putfield 40, 3) := by decide +kernel
theorem dX2_takeSample_68 : decode cX2_takeSample 68 = .ok (.aload_n 0, 1) := by decide +kernel
theorem dX2_takeSample_69 : decode cX2_takeSample 69 = .ok (.dup, 1) := by decide +kernel
theorem dX2_takeSample_70 : decode cX2_takeSample 70 = .ok (.getfield 47, 3) := by decide +kernel
theorem dX2_takeSample_73 : decode cX2_takeSample 73 = .ok (.iconst 1, 1) := by decide +kernel
theorem dX2_takeSample_74 : decode cX2_takeSample 74 = .ok (.iadd, 1) := by decide +kernel
theorem dX2_takeSample_75 : decode cX2_takeSample 75 = .ok (.putfield 47, 3) := by decide +kernel
theorem dX2_takeSample_78 : decode cX2_takeSample 78 = .ok (.return_, 1) := by decide +kernel
theorem dX2_isWithinLimits_0 : decode cX2_isWithinLimits 0 = .ok (.iload_n 2, 1) := by decide +kernel
theorem dX2_isWithinLimits_1 : decode cX2_isWithinLimits 1 = .ok (.ifCond .lt 28, 3) := by decide +kernel
theorem dX2_isWithinLimits_4 : decode cX2_isWithinLimits 4 = .ok (.iload_n 2, 1) := by decide +kernel
theorem dX2_isWithinLimits_5 : decode cX2_isWithinLimits 5 = .ok (.iconst 3, 1) := by decide +kernel
theorem dX2_isWithinLimits_6 : decode cX2_isWithinLimits 6 = .ok (.if_icmp .ge 23, 3) := by decide +kernel
theorem dX2_isWithinLimits_9 : decode cX2_isWithinLimits 9 = .ok (.iload_n 1, 1) := by decide +kernel
theorem dX2_isWithinLimits_10 : decode cX2_isWithinLimits 10 = .ok (.aload_n 0, 1) := by decide +kernel
theorem dX2_isWithinLimits_11 : decode cX2_isWithinLimits 11 = .ok (.getfield 9, 3) := by decide +kernel
theorem dX2_isWithinLimits_14 : decode cX2_isWithinLimits 14 = .ok (.iload_n 2, 1) := by decide +kernel
theorem dX2_isWithinLimits_15 : decode cX2_isWithinLimits 15 = .ok (.iaload, 1) := by decide +kernel
theorem dX2_isWithinLimits_16 : decode cX2_isWithinLimits 16 = .ok (.if_icmp .lt 17, 3) := by decide +kernel
theorem dX2_isWithinLimits_19 : decode cX2_isWithinLimits 19 = .ok (.iload_n 1, 1) := by decide +kernel
theorem dX2_isWithinLimits_20 : decode cX2_isWithinLimits 20 = .ok (.aload_n 0, 1) := by decide +kernel
theorem dX2_isWithinLimits_21 : decode cX2_isWithinLimits 21 = .ok (.getfield 15, 3) := by decide +kernel
theorem dX2_isWithinLimits_24 : decode cX2_isWithinLimits 24 = .ok (.iload_n 2, 1) := by decide +kernel
theorem dX2_isWithinLimits_25 : decode cX2_isWithinLimits 25 = .ok (.iaload, 1) := by decide +kernel
theorem dX2_isWithinLimits_26 : decode cX2_isWithinLimits 26 = .ok (.if_icmp .gt 7, 3) := by decide +kernel
theorem dX2_isWithinLimits_29 : decode cX2_isWithinLimits 29 = .ok (.iconst 1, 1) := by decide +kernel
theorem dX2_isWithinLimits_30 : decode cX2_isWithinLimits 30 = .ok (.goto 4, 3) := by decide +kernel
theorem dX2_isWithinLimits_33 : decode cX2_isWithinLimits 33 = .ok (.iconst 0, 1) := by decide +kernel
theorem dX2_isWithinLimits_34 : decode cX2_isWithinLimits 34 = .ok (.ireturn, 1) := by decide +kernel
theorem dX2_mixInto_0 : decode cX2_mixInto 0 = .ok (.lload_n 1, 1) := by decide +kernel
theorem dX2_mixInto_1 : decode cX2_mixInto 1 = .ok (.aload_n 0, 1) := by decide +kernel
theorem dX2_mixInto_2 : decode cX2_mixInto 2 = .ok (.getfield 18, 3) := by decide +kernel
theorem dX2_mixInto_5 : decode cX2_mixInto 5 = .ok (.i2l, 1) := by decide +kernel
theorem dX2_mixInto_6 : decode cX2_mixInto 6 = .ok (.invokestatic 60, 3) := by decide +kernel
theorem dX2_mixInto_9 : decode cX2_mixInto 9 = .ok (.lstore_n 3, 1) := by decide +kernel
theorem dX2_mixInto_10 : decode cX2_mixInto 10 = .ok (.lload_n 3, 1) := by decide +kernel
theorem dX2_mixInto_11 : decode cX2_mixInto 11 = .ok (.aload_n 0, 1) := by decide +kernel
theorem dX2_mixInto_12 : decode cX2_mixInto 12 = .ok (.getfield 22, 3) := by decide +kernel
theorem dX2_mixInto_15 : decode cX2_mixInto 15 = .ok (.i2l, 1) := by decide +kernel
theorem dX2_mixInto_16 : decode cX2_mixInto 16 = .ok (.invokestatic 60, 3) := by decide +kernel
theorem dX2_mixInto_19 : decode cX2_mixInto 19 = .ok (.lstore_n 3, 1) := by decide +kernel
theorem dX2_mixInto_20 : decode cX2_mixInto 20 = .ok (.lload_n 3, 1) := by decide +kernel
theorem dX2_mixInto_21 : decode cX2_mixInto 21 = .ok (.aload_n 0, 1) := by decide +kernel
theorem dX2_mixInto_22 : decode cX2_mixInto 22 = .ok (.getfield 25, 3) := by decide +kernel
theorem dX2_mixInto_25 : decode cX2_mixInto 25 = .ok (.i2l, 1) := by decide +kernel
theorem dX2_mixInto_26 : decode cX2_mixInto 26 = .ok (.invokestatic 60, 3) := by decide +kernel
theorem dX2_mixInto_29 : decode cX2_mixInto 29 = .ok (.lstore_n 3, 1) := by decide +kernel
theorem dX2_mixInto_30 : decode cX2_mixInto 30 = .ok (.lload_n 3, 1) := by decide +kernel
theorem dX2_mixInto_31 : decode cX2_mixInto 31 = .ok (.aload_n 0, 1) := by decide +kernel
theorem dX2_mixInto_32 : decode cX2_mixInto 32 = .ok (.getfield 28, 3) := by decide +kernel
theorem dX2_mixInto_35 : decode cX2_mixInto 35 = .ok (.i2l, 1) := by decide +kernel
theorem dX2_mixInto_36 : decode cX2_mixInto 36 = .ok (.invokestatic 60, 3) := by decide +kernel
theorem dX2_mixInto_39 : decode cX2_mixInto 39 = .ok (.lstore_n 3, 1) := by decide +kernel
theorem dX2_mixInto_40 : decode cX2_mixInto 40 = .ok (.iconst 0, 1) := by decide +kernel
theorem dX2_mixInto_41 : decode cX2_mixInto 41 = .ok (.istore 5, 2) := by decide +kernel
theorem dX2_mixInto_43 : decode cX2_mixInto 43 = .ok (.iload 5, 2) := by decide +kernel
theorem dX2_mixInto_45 : decode cX2_mixInto 45 = .ok (.iconst 3, 1) := by decide +kernel
theorem dX2_mixInto_46 : decode cX2_mixInto 46 = .ok (.if_icmp .ge 35, 3) := by decide +kernel
theorem dX2_mixInto_49 : decode cX2_mixInto 49 = .ok (.lload_n 3, 1) := by decide +kernel
theorem dX2_mixInto_50 : decode cX2_mixInto 50 = .ok (.aload_n 0, 1) := by decide +kernel
theorem dX2_mixInto_51 : decode cX2_mixInto 51 = .ok (.getfield 9, 3) := by decide +kernel
theorem dX2_mixInto_54 : decode cX2_mixInto 54 = .ok (.iload 5, 2) := by decide +kernel
theorem dX2_mixInto_56 : decode cX2_mixInto 56 = .ok (.iaload, 1) := by decide +kernel
theorem dX2_mixInto_57 : decode cX2_mixInto 57 = .ok (.i2l, 1) := by decide +kernel
theorem dX2_mixInto_58 : decode cX2_mixInto 58 = .ok (.invokestatic 60, 3) := by decide +kernel
theorem dX2_mixInto_61 : decode cX2_mixInto 61 = .ok (.lstore_n 3, 1) := by decide +kernel
theorem dX2_mixInto_62 : decode cX2_mixInto 62 = .ok (.lload_n 3, 1) := by decide +kernel
theorem dX2_mixInto_63 : decode cX2_mixInto 63 = .ok (.aload_n 0, 1) := by decide +kernel
theorem dX2_mixInto_64 : decode cX2_mixInto 64 = .ok (.getfield 15, 3) := by decide +kernel
theorem dX2_mixInto_67 : decode cX2_mixInto 67 = .ok (.iload 5, 2) := by decide +kernel
theorem dX2_mixInto_69 : decode cX2_mixInto 69 = .ok (.iaload, 1) := by decide +kernel
theorem dX2_mixInto_70 : decode cX2_mixInto 70 = .ok (.i2l, 1) := by decide +kernel
theorem dX2_mixInto_71 : decode cX2_mixInto 71 = .ok (.invokestatic 60, 3) := by decide +kernel
theorem dX2_mixInto_74 : decode cX2_mixInto 74 = .ok (.lstore_n 3, 1) := by decide +kernel
theorem dX2_mixInto_75 : decode cX2_mixInto 75 = .ok (.iinc 5 1, 3) := by decide +kernel
theorem dX2_mixInto_78 : decode cX2_mixInto 78 = .ok (.goto (-35), 3) := by decide +kernel
theorem dX2_mixInto_81 : decode cX2_mixInto 81 = .ok (.lload_n 3, 1) := by decide +kernel
theorem dX2_mixInto_82 : decode cX2_mixInto 82 = .ok (.aload_n 0, 1) := by decide +kernel
theorem dX2_mixInto_83 : decode cX2_mixInto 83 = .ok (.getfield 37, 3) := by decide +kernel
theorem dX2_mixInto_86 : decode cX2_mixInto 86 = .ok (.i2l, 1) := by decide +kernel
theorem dX2_mixInto_87 : decode cX2_mixInto 87 = .ok (.invokestatic 60, 3) := by decide +kernel
theorem dX2_mixInto_90 : decode cX2_mixInto 90 = .ok (.lstore_n 3, 1) := by decide +kernel
theorem dX2_mixInto_91 : decode cX2_mixInto 91 = .ok (.lload_n 3, 1) := by decide +kernel
theorem dX2_mixInto_92 : decode cX2_mixInto 92 = .ok (.aload_n 0, 1) := by decide +kernel
theorem dX2_mixInto_93 : decode cX2_mixInto 93 = .ok (.getfield 40, 3) := by decide +kernel
theorem dX2_mixInto_96 : decode cX2_mixInto 96 = .ok (.ifCond .eq 7, 3) := by decide +kernel
theorem dX2_mixInto_99 : decode cX2_mixInto 99 = .ok (.lconst 1, 1) := by decide +kernel
theorem dX2_mixInto_100 : decode cX2_mixInto 100 = .ok (.goto 4, 3) := by decide +kernel
theorem dX2_mixInto_103 : decode cX2_mixInto 103 = .ok (.lconst 0, 1) := by decide +kernel
theorem dX2_mixInto_104 : decode cX2_mixInto 104 = .ok (.invokestatic 60, 3) := by decide +kernel
theorem dX2_mixInto_107 : decode cX2_mixInto 107 = .ok (.lstore_n 3, 1) := by decide +kernel
theorem dX2_mixInto_108 : decode cX2_mixInto 108 = .ok (.lload_n 3, 1) := by decide +kernel
theorem dX2_mixInto_109 : decode cX2_mixInto 109 = .ok (.aload_n 0, 1) := by decide +kernel
theorem dX2_mixInto_110 : decode cX2_mixInto 110 = .ok (.getfield 44, 3) := by decide +kernel
theorem dX2_mixInto_113 : decode cX2_mixInto 113 = .ok (.i2l, 1) := by decide +kernel
theorem dX2_mixInto_114 : decode cX2_mixInto 114 = .ok (.invokestatic 60, 3) := by decide +kernel
theorem dX2_mixInto_117 : decode cX2_mixInto 117 = .ok (.lstore_n 3, 1) := by decide +kernel
theorem dX2_mixInto_118 : decode cX2_mixInto 118 = .ok (.lload_n 3, 1) := by decide +kernel
theorem dX2_mixInto_119 : decode cX2_mixInto 119 = .ok (.aload_n 0, 1) := by decide +kernel
theorem dX2_mixInto_120 : decode cX2_mixInto 120 = .ok (.getfield 47, 3) := by decide +kernel
theorem dX2_mixInto_123 : decode cX2_mixInto 123 = .ok (.i2l, 1) := by decide +kernel
theorem dX2_mixInto_124 : decode cX2_mixInto 124 = .ok (.invokestatic 60, 3) := by decide +kernel
theorem dX2_mixInto_127 : decode cX2_mixInto 127 = .ok (.lreturn, 1) := by decide +kernel
theorem dX3_init_0 : decode cX3_init 0 = .ok (.aload_n 0, 1) := by decide +kernel
theorem dX3_init_1 : decode cX3_init 1 = .ok (.invokespecial 3, 3) := by decide +kernel
theorem dX3_init_4 : decode cX3_init 4 = .ok (.aload_n 0, 1) := by decide +kernel
theorem dX3_init_5 : decode cX3_init 5 = .ok (.iconst 0, 1) := by decide +kernel
theorem dX3_init_6 : decode cX3_init 6 = .ok (.putfield 9, 3) := by decide +kernel
theorem dX3_init_9 : decode cX3_init 9 = .ok (.aload_n 0, 1) := by decide +kernel
theorem dX3_init_10 : decode cX3_init 10 = .ok (.iconst 0, 1) := by decide +kernel
theorem dX3_init_11 : decode cX3_init 11 = .ok (.putfield 15, 3) := by decide +kernel
theorem dX3_init_14 : decode cX3_init 14 = .ok (.aload_n 0, 1) := by decide +kernel
theorem dX3_init_15 : decode cX3_init 15 = .ok (.bipush 6, 2) := by decide +kernel
theorem dX3_init_17 : decode cX3_init 17 = .ok (.newarray .int, 2) := by decide +kernel
theorem dX3_init_19 : decode cX3_init 19 = .ok (.putfield 18, 3) := by decide +kernel
theorem dX3_init_22 : decode cX3_init 22 = .ok (.aload_n 0, 1) := by decide +kernel
theorem dX3_init_23 : decode cX3_init 23 = .ok (.bipush 16, 2) := by decide +kernel
theorem dX3_init_25 : decode cX3_init 25 = .ok (.newarray .int, 2) := by decide +kernel
theorem dX3_init_27 : decode cX3_init 27 = .ok (.putfield 22, 3) := by decide +kernel
theorem dX3_init_30 : decode cX3_init 30 = .ok (.aload_n 0, 1) := by decide +kernel
theorem dX3_init_31 : decode cX3_init 31 = .ok (.iconst 0, 1) := by decide +kernel
theorem dX3_init_32 : decode cX3_init 32 = .ok (.putfield 25, 3) := by decide +kernel
theorem dX3_init_35 : decode cX3_init 35 = .ok (.aload_n 0, 1) := by decide +kernel
theorem dX3_init_36 : decode cX3_init 36 = .ok (.iconst 0, 1) := by decide +kernel
theorem dX3_init_37 : decode cX3_init 37 = .ok (.putfield 28, 3) := by decide +kernel
theorem dX3_init_40 : decode cX3_init 40 = .ok (.return_, 1) := by decide +kernel
theorem dX3_copyFrom_0 : decode cX3_copyFrom 0 = .ok (.aload_n 0, 1) := by decide +kernel
theorem dX3_copyFrom_1 : decode cX3_copyFrom 1 = .ok (.aload_n 1, 1) := by decide +kernel
theorem dX3_copyFrom_2 : decode cX3_copyFrom 2 = .ok (.getfield 9, 3) := by decide +kernel
theorem dX3_copyFrom_5 : decode cX3_copyFrom 5 = .ok (.putfield 9, 3) := by decide +kernel
theorem dX3_copyFrom_8 : decode cX3_copyFrom 8 = .ok (.aload_n 0, 1) := by decide +kernel
theorem dX3_copyFrom_9 : decode cX3_copyFrom 9 = .ok (.aload_n 1, 1) := by decide +kernel
theorem dX3_copyFrom_10 : decode cX3_copyFrom 10 = .ok (.getfield 15, 3) := by decide +kernel
theorem dX3_copyFrom_13 : decode cX3_copyFrom 13 = .ok (.putfield 15, 3) := by decide +kernel
theorem dX3_copyFrom_16 : decode cX3_copyFrom 16 = .ok (.aload_n 1, 1) := by decide +kernel
theorem dX3_copyFrom_17 : decode cX3_copyFrom 17 = .ok (.getfield 18, 3) := by decide +kernel
theorem dX3_copyFrom_20 : decode cX3_copyFrom 20 = .ok (.iconst 0, 1) := by decide +kernel
theorem dX3_copyFrom_21 : decode cX3_copyFrom 21 = .ok (.aload_n 0, 1) := by decide +kernel
theorem dX3_copyFrom_22 : decode cX3_copyFrom 22 = .ok (.getfield 18, 3) := by decide +kernel
theorem dX3_copyFrom_25 : decode cX3_copyFrom 25 = .ok (.iconst 0, 1) := by decide +kernel
theorem dX3_copyFrom_26 : decode cX3_copyFrom 26 = .ok (.aload_n 0, 1) := by decide +kernel
theorem dX3_copyFrom_27 : decode cX3_copyFrom 27 = .ok (.getfield 18, 3) := by decide +kernel
theorem dX3_copyFrom_30 : decode cX3_copyFrom 30 = .ok (.arraylength, 1) := by decide +kernel
theorem dX3_copyFrom_31 : decode cX3_copyFrom 31 = .ok (.invokestatic 31, 3) := by decide +kernel
theorem dX3_copyFrom_34 : decode cX3_copyFrom 34 = .ok (.aload_n 1, 1) := by decide +kernel
theorem dX3_copyFrom_35 : decode cX3_copyFrom 35 = .ok (.getfield 22, 3) := by decide +kernel
theorem dX3_copyFrom_38 : decode cX3_copyFrom 38 = .ok (.iconst 0, 1) := by decide +kernel
theorem dX3_copyFrom_39 : decode cX3_copyFrom 39 = .ok (.aload_n 0, 1) := by decide +kernel
theorem dX3_copyFrom_40 : decode cX3_copyFrom 40 = .ok (.getfield 22, 3) := by decide +kernel
theorem dX3_copyFrom_43 : decode cX3_copyFrom 43 = .ok (.iconst 0, 1) := by decide +kernel
theorem dX3_copyFrom_44 : decode cX3_copyFrom 44 = .ok (.aload_n 0, 1) := by decide +kernel
theorem dX3_copyFrom_45 : decode cX3_copyFrom 45 = .ok (.getfield 22, 3) := by decide +kernel
theorem dX3_copyFrom_48 : decode cX3_copyFrom 48 = .ok (.arraylength, 1) := by decide +kernel
theorem dX3_copyFrom_49 : decode cX3_copyFrom 49 = .ok (.invokestatic 31, 3) := by decide +kernel
theorem dX3_copyFrom_52 : decode cX3_copyFrom 52 = .ok (.aload_n 0, 1) := by decide +kernel
theorem dX3_copyFrom_53 : decode cX3_copyFrom 53 = .ok (.aload_n 1, 1) := by decide +kernel
theorem dX3_copyFrom_54 : decode cX3_copyFrom 54 = .ok (.getfield 25, 3) := by decide +kernel
theorem dX3_copyFrom_57 : decode cX3_copyFrom 57 = .ok (.putfield 25, 3) := by decide +kernel
theorem dX3_copyFrom_60 : decode cX3_copyFrom 60 = .ok (.aload_n 0, 1) := by decide +kernel
theorem dX3_copyFrom_61 : decode cX3_copyFrom 61 = .ok (.aload_n 1, 1) := by decide +kernel
theorem dX3_copyFrom_62 : decode cX3_copyFrom 62 = .ok (.getfield 28, 3) := by decide +kernel
theorem dX3_copyFrom_65 : decode cX3_copyFrom 65 = .ok (.putfield 28, 3) := by decide +kernel
theorem dX3_copyFrom_68 : decode cX3_copyFrom 68 = .ok (.return_, 1) := by decide +kernel
theorem dX3_restart_0 : decode cX3_restart 0 = .ok (.aload_n 0, 1) := by decide +kernel
theorem dX3_restart_1 : decode cX3_restart 1 = .ok (.iconst 0, 1) := by decide +kernel
theorem dX3_restart_2 : decode cX3_restart 2 = .ok (.putfield 9, 3) := by decide +kernel
theorem dX3_restart_5 : decode cX3_restart 5 = .ok (.aload_n 0, 1) := by decide +kernel
theorem dX3_restart_6 : decode cX3_restart 6 = .ok (.iconst 0, 1) := by decide +kernel
theorem dX3_restart_7 : decode cX3_restart 7 = .ok (.putfield 15, 3) := by decide +kernel
theorem dX3_restart_10 : decode cX3_restart 10 = .ok (.aload_n 0, 1) := by decide +kernel
theorem dX3_restart_11 : decode cX3_restart 11 = .ok (.iconst 0, 1) := by decide +kernel
theorem dX3_restart_12 : decode cX3_restart 12 = .ok (.putfield 28, 3) := by decide +kernel
theorem dX3_restart_15 : decode cX3_restart 15 = .ok (.return_, 1) := by decide +kernel
theorem dX3_takeBit_0 : decode cX3_takeBit 0 = .ok (.aload_n 0, 1) := by decide +kernel
theorem dX3_takeBit_1 : decode cX3_takeBit 1 = .ok (.aload_n 0, 1) := by decide +kernel
theorem dX3_takeBit_2 : decode cX3_takeBit 2 = .ok (.getfield 28, 3) := by decide +kernel
theorem dX3_takeBit_5 : decode cX3_takeBit 5 = .ok (.iconst 1, 1) := by decide +kernel
theorem dX3_takeBit_6 : decode cX3_takeBit 6 = .ok (.ishl, 1) := by decide +kernel
theorem dX3_takeBit_7 : decode cX3_takeBit 7 = .ok (.iload_n 1, 1) := by decide +kernel
theorem dX3_takeBit_8 : decode cX3_takeBit 8 = .ok (.ior, 1) := by decide +kernel
theorem dX3_takeBit_9 : decode cX3_takeBit 9 = .ok (.putfield 28, 3) := by decide +kernel
theorem dX3_takeBit_12 : decode cX3_takeBit 12 = .ok (.aload_n 0, 1) := by decide +kernel
theorem dX3_takeBit_13 : decode cX3_takeBit 13 = .ok (.getfield 9, 3) := by decide +kernel
theorem dX3_takeBit_16 : decode cX3_takeBit 16 = .ok (.ifCond .ne 9, 3) := by decide +kernel
theorem dX3_takeBit_19 : decode cX3_takeBit 19 = .ok (.aload_n 0, 1) := by decide +kernel
theorem dX3_takeBit_20 : decode cX3_takeBit 20 = .ok (.invokevirtual 37, 3) := by decide +kernel
theorem dX3_takeBit_23 : decode cX3_takeBit 23 = .ok (.iconst 0, 1) := by decide +kernel
theorem dX3_takeBit_24 : decode cX3_takeBit 24 = .ok (.ireturn, 1) := by decide +kernel
theorem dX3_takeBit_25 : decode cX3_takeBit 25 = .ok (.aload_n 0, 1) := by decide +kernel
theorem dX3_takeBit_26 : decode cX3_takeBit 26 = .ok (.dup, 1) := by decide +kernel
theorem dX3_takeBit_27 : decode cX3_takeBit 27 = .ok (.getfield 25, 3) := by decide +kernel
theorem dX3_takeBit_30 : decode cX3_takeBit 30 = .ok (.iconst 1, 1) := by decide +kernel
theorem dX3_takeBit_31 : decode cX3_takeBit 31 = .ok (.iadd, 1) := by decide +kernel
theorem dX3_takeBit_32 : decode cX3_takeBit 32 = .ok (.putfield 25, 3) := by decide +kernel
theorem dX3_takeBit_35 : decode cX3_takeBit 35 = .ok (.aload_n 0, 1) := by decide +kernel
theorem dX3_takeBit_36 : decode cX3_takeBit 36 = .ok (.getfield 25, 3) := by decide +kernel
theorem dX3_takeBit_39 : decode cX3_takeBit 39 = .ok (.iload_n 2, 1) := by decide +kernel
theorem dX3_takeBit_40 : decode cX3_takeBit 40 = .ok (.if_icmp .gt 30, 3) := by decide +kernel
theorem dX3_takeBit_43 : decode cX3_takeBit 43 = .ok (.aload_n 0, 1) := by decide +kernel
theorem dX3_takeBit_44 : decode cX3_takeBit 44 = .ok (.iload_n 1, 1) := by decide +kernel
theorem dX3_takeBit_45 : decode cX3_takeBit 45 = .ok (.invokevirtual 40, 3) := by decide +kernel
theorem dX3_takeBit_48 : decode cX3_takeBit 48 = .ok (.aload_n 0, 1) := by decide +kernel
theorem dX3_takeBit_49 : decode cX3_takeBit 49 = .ok (.getfield 25, 3) := by decide +kernel
theorem dX3_takeBit_52 : decode cX3_takeBit 52 = .ok (.iload_n 2, 1) := by decide +kernel
theorem dX3_takeBit_53 : decode cX3_takeBit 53 = .ok (.if_icmp .ne 15, 3) := by decide +kernel
theorem dX3_takeBit_56 : decode cX3_takeBit 56 = .ok (.aload_n 0, 1) := by decide +kernel
theorem dX3_takeBit_57 : decode cX3_takeBit 57 = .ok (.getfield 9, 3) := by decide +kernel
theorem dX3_takeBit_60 : decode cX3_takeBit 60 = .ok (.iconst 2, 1) := by decide +kernel
theorem dX3_takeBit_61 : decode cX3_takeBit 61 = .ok (.if_icmp .ne 7, 3) := by decide +kernel
theorem dX3_takeBit_64 : decode cX3_takeBit 64 = .ok (.iconst 1, 1) := by decide +kernel
theorem dX3_takeBit_65 : decode cX3_takeBit 65 = .ok (.goto 4, 3) := by decide +kernel
theorem dX3_takeBit_68 : decode cX3_takeBit 68 = .ok (.iconst 0, 1) := by decide +kernel
theorem dX3_takeBit_69 : decode cX3_takeBit 69 = .ok (.ireturn, 1) := by decide +kernel
theorem dX3_takeBit_70 : decode cX3_takeBit 70 = .ok (.aload_n 0, 1) := by decide +kernel
theorem dX3_takeBit_71 : decode cX3_takeBit 71 = .ok (.getfield 25, 3) := by decide +kernel
theorem dX3_takeBit_74 : decode cX3_takeBit 74 = .ok (.iload_n 2, 1) := by decide +kernel
theorem dX3_takeBit_75 : decode cX3_takeBit 75 = .ok (.bipush 16, 2) := by decide +kernel
theorem dX3_takeBit_77 : decode cX3_takeBit 77 = .ok (.iadd, 1) := by decide +kernel
theorem dX3_takeBit_78 : decode cX3_takeBit 78 = .ok (.if_icmp .ne 11, 3) := by decide +kernel
theorem dX3_takeBit_81 : decode cX3_takeBit 81 = .ok (.aload_n 0, 1) := by decide +kernel
theorem dX3_takeBit_82 : decode cX3_takeBit 82 = .ok (.iload_n 1, 1) := by decide +kernel
theorem dX3_takeBit_83 : decode cX3_takeBit 83 = .ok (.invokevirtual 44, 3) := by decide +kernel
theorem dX3_takeBit_86 : decode cX3_takeBit 86 = .ok (.goto 19, 3) := by decide +kernel
theorem dX3_takeBit_89 : decode cX3_takeBit 89 = .ok (.aload_n 0, 1) := by decide +kernel
theorem dX3_takeBit_90 : decode cX3_takeBit 90 = .ok (.getfield 25, 3) := by decide +kernel
theorem dX3_takeBit_93 : decode cX3_takeBit 93 = .ok (.iload_n 2, 1) := by decide +kernel
theorem dX3_takeBit_94 : decode cX3_takeBit 94 = .ok (.bipush 16, 2) := by decide +kernel
theorem dX3_takeBit_96 : decode cX3_takeBit 96 = .ok (.iadd, 1) := by decide +kernel
theorem dX3_takeBit_97 : decode cX3_takeBit 97 = .ok (.if_icmp .le 8, 3) := by decide +kernel
theorem dX3_takeBit_100 : decode cX3_takeBit 100 = .ok (.aload_n 0, 1) := by decide +kernel
theorem dX3_takeBit_101 : decode cX3_takeBit 101 = .ok (.iload_n 1, 1) := by decide +kernel
theorem dX3_takeBit_102 : decode cX3_takeBit 102 = .ok (.invokevirtual 47, 3) := by decide +kernel
theorem dX3_takeBit_105 : decode cX3_takeBit 105 = .ok (.iconst 0, 1) := by decide +kernel
theorem dX3_takeBit_106 : decode cX3_takeBit 106 = .ok (.ireturn, 1) := by decide +kernel
theorem dX3_endsWithSync_0 : decode cX3_endsWithSync 0 = .ok (.iload_n 1, 1) := by decide +kernel
theorem dX3_endsWithSync_1 : decode cX3_endsWithSync 1 = .ok (.ldc 50, 2) := by decide +kernel
theorem dX3_endsWithSync_3 : decode cX3_endsWithSync 3 = .ok (.iand, 1) := by decide +kernel
theorem dX3_endsWithSync_4 : decode cX3_endsWithSync 4 = .ok (.ldc 51, 2) := by decide +kernel
theorem dX3_endsWithSync_6 : decode cX3_endsWithSync 6 = .ok (.if_icmp .ne 7, 3) := by decide +kernel
theorem dX3_endsWithSync_9 : decode cX3_endsWithSync 9 = .ok (.iconst 1, 1) := by decide +kernel
theorem dX3_endsWithSync_10 : decode cX3_endsWithSync 10 = .ok (.goto 4, 3) := by decide +kernel
theorem dX3_endsWithSync_13 : decode cX3_endsWithSync 13 = .ok (.iconst 0, 1) := by decide +kernel
theorem dX3_endsWithSync_14 : decode cX3_endsWithSync 14 = .ok (.ireturn, 1) := by decide +kernel
theorem dX3_lookForSync_0 : decode cX3_lookForSync 0 = .ok (.aload_n 0, 1) := by decide +kernel
theorem dX3_lookForSync_1 : decode cX3_lookForSync 1 = .ok (.aload_n 0, 1) := by decide +kernel
theorem dX3_lookForSync_2 : decode cX3_lookForSync 2 = .ok (.getfield 28, 3) := by decide +kernel
theorem dX3_lookForSync_5 : decode cX3_lookForSync 5 = .ok (.invokevirtual 52, 3) := by decide +kernel
theorem dX3_lookForSync_8 : decode cX3_lookForSync 8 = .ok (.ifCond .eq 23, 3) := by decide +kernel
theorem dX3_lookForSync_11 : decode cX3_lookForSync 11 = .ok (.aload_n 0, 1) := by decide +kernel
theorem dX3_lookForSync_12 : decode cX3_lookForSync 12 = .ok (.iconst 1, 1) := by decide +kernel
theorem dX3_lookForSync_13 : decode cX3_lookForSync 13 = .ok (.putfield 9, 3) := by decide +kernel
theorem dX3_lookForSync_16 : decode cX3_lookForSync 16 = .ok (.aload_n 0, 1) := by decide +kernel
theorem dX3_lookForSync_17 : decode cX3_lookForSync 17 = .ok (.getfield 18, 3) := by decide +kernel
theorem dX3_lookForSync_20 : decode cX3_lookForSync 20 = .ok (.iconst 5, 1) := by decide +kernel
theorem dX3_lookForSync_21 : decode cX3_lookForSync 21 = .ok (.dup2, 1) := by decide +kernel
theorem dX3_lookForSync_22 : decode cX3_lookForSync 22 = .ok (.iaload, 1) := by decide +kernel
theorem dX3_lookForSync_23 : decode cX3_lookForSync 23 = .ok (.iconst 1, 1) := by decide +kernel
theorem dX3_lookForSync_24 : decode cX3_lookForSync 24 = .ok (.iadd, 1) := by decide +kernel
theorem dX3_lookForSync_25 : decode cX3_lookForSync 25 = .ok (.iastore, 1) := by decide +kernel
theorem dX3_lookForSync_26 : decode cX3_lookForSync 26 = .ok (.aload_n 0, 1) := by decide +kernel
theorem dX3_lookForSync_27 : decode cX3_lookForSync 27 = .ok (.iconst 0, 1) := by decide +kernel
theorem dX3_lookForSync_28 : decode cX3_lookForSync 28 = .ok (.putfield 25, 3) := by decide +kernel
theorem dX3_lookForSync_31 : decode cX3_lookForSync 31 = .ok (.return_, 1) := by decide +kernel
theorem dX3_expectSync_0 : decode cX3_expectSync 0 = .ok (.aload_n 0, 1) := by decide +kernel
theorem dX3_expectSync_1 : decode cX3_expectSync 1 = .ok (.aload_n 0, 1) := by decide +kernel
theorem dX3_expectSync_2 : decode cX3_expectSync 2 = .ok (.getfield 28, 3) := by decide +kernel
theorem dX3_expectSync_5 : decode cX3_expectSync 5 = .ok (.invokevirtual 52, 3) := by decide +kernel
theorem dX3_expectSync_8 : decode cX3_expectSync 8 = .ok (.ifCond .eq 15, 3) := by decide +kernel
theorem dX3_expectSync_11 : decode cX3_expectSync 11 = .ok (.aload_n 0, 1) := by decide +kernel
theorem dX3_expectSync_12 : decode cX3_expectSync 12 = .ok (.iconst 2, 1) := by decide +kernel
theorem dX3_expectSync_13 : decode cX3_expectSync 13 = .ok (.putfield 9, 3) := by decide +kernel
theorem dX3_expectSync_16 : decode cX3_expectSync 16 = .ok (.aload_n 0, 1) := by decide +kernel
theorem dX3_expectSync_17 : decode cX3_expectSync 17 = .ok (.invokevirtual 56, 3) := by decide +kernel
theorem dX3_expectSync_20 : decode cX3_expectSync 20 = .ok (.goto 51, 3) := by decide +kernel
theorem dX3_expectSync_23 : decode cX3_expectSync 23 = .ok (.aload_n 0, 1) := by decide +kernel
theorem dX3_expectSync_24 : decode cX3_expectSync 24 = .ok (.getfield 9, 3) := by decide +kernel
theorem dX3_expectSync_27 : decode cX3_expectSync 27 = .ok (.iconst 1, 1) := by decide +kernel
theorem dX3_expectSync_28 : decode cX3_expectSync 28 = .ok (.if_icmp .ne 11, 3) := by decide +kernel
theorem dX3_expectSync_31 : decode cX3_expectSync 31 = .ok (.aload_n 0, 1) := by decide +kernel
theorem dX3_expectSync_32 : decode cX3_expectSync 32 = .ok (.iconst 0, 1) := by decide +kernel
theorem dX3_expectSync_33 : decode cX3_expectSync 33 = .ok (.putfield 9, 3) := by decide +kernel
theorem dX3_expectSync_36 : decode cX3_expectSync 36 = .ok (.goto 35, 3) := by decide +kernel
theorem dX3_expectSync_39 : decode cX3_expectSync 39 = .ok (.aload_n 0, 1) := by decide +kernel
theorem dX3_expectSync_40 : decode cX3_expectSync 40 = .ok (.aload_n 0, 1) := by decide +kernel
theorem dX3_expectSync_41 : decode cX3_expectSync 41 = .ok (.getfield 28, 3) := by decide +kernel
theorem dX3_expectSync_44 : decode cX3_expectSync 44 = .ok (.iconst 1, 1) := by decide +kernel
theorem dX3_expectSync_45 : decode cX3_expectSync 45 = .ok (.ishr, 1) := by decide +kernel
theorem dX3_expectSync_46 : decode cX3_expectSync 46 = .ok (.invokevirtual 52, 3) := by decide +kernel
theorem dX3_expectSync_49 : decode cX3_expectSync 49 = .ok (.ifCond .eq 22, 3) := by decide +kernel
theorem dX3_expectSync_52 : decode cX3_expectSync 52 = .ok (.aload_n 0, 1) := by decide +kernel
theorem dX3_expectSync_53 : decode cX3_expectSync 53 = .ok (.getfield 18, 3) := by decide +kernel
theorem dX3_expectSync_56 : decode cX3_expectSync 56 = .ok (.iconst 2, 1) := by decide +kernel
theorem dX3_expectSync_57 : decode cX3_expectSync 57 = .ok (.dup2, 1) := by decide +kernel
theorem dX3_expectSync_58 : decode cX3_expectSync 58 = .ok (.iaload, 1) := by decide +kernel
theorem dX3_expectSync_59 : decode cX3_expectSync 59 = .ok (.iconst 1, 1) := by decide +kernel
theorem dX3_expectSync_60 : decode cX3_expectSync 60 = .ok (.iadd, 1) := by decide +kernel
theorem dX3_expectSync_61 : decode cX3_expectSync 61 = .ok (.iastore, 1) := by decide +kernel
theorem dX3_expectSync_62 : decode cX3_expectSync 62 = .ok (.aload_n 0, 1) := by decide +kernel
theorem dX3_expectSync_63 : decode cX3_expectSync 63 = .ok (.invokevirtual 56, 3) := by decide +kernel
theorem dX3_expectSync_66 : decode cX3_expectSync 66 = .ok (.aload_n 0, 1) := by decide +kernel
theorem dX3_expectSync_67 : decode cX3_expectSync 67 = .ok (.iload_n 1, 1) := by decide +kernel
theorem dX3_expectSync_68 : decode cX3_expectSync 68 = .ok (.invokevirtual 59, 3) := by decide +kernel
theorem dX3_expectSync_71 : decode cX3_expectSync 71 = .ok (.return_, 1) := by decide +kernel
theorem dX3_expectLateSync_0 : decode cX3_expectLateSync 0 = .ok (.aload_n 0, 1) := by decide +kernel
theorem dX3_expectLateSync_1 : decode cX3_expectLateSync 1 = .ok (.aload_n 0, 1) := by decide +kernel
theorem dX3_expectLateSync_2 : decode cX3_expectLateSync 2 = .ok (.getfield 28, 3) := by decide +kernel
theorem dX3_expectLateSync_5 : decode cX3_expectLateSync 5 = .ok (.invokevirtual 52, 3) := by decide +kernel
theorem dX3_expectLateSync_8 : decode cX3_expectLateSync 8 = .ok (.ifCond .eq 18, 3) := by decide +kernel
theorem dX3_expectLateSync_11 : decode cX3_expectLateSync 11 = .ok (.aload_n 0, 1) := by decide +kernel
theorem dX3_expectLateSync_12 : decode cX3_expectLateSync 12 = .ok (.getfield 18, 3) := by decide +kernel
theorem dX3_expectLateSync_15 : decode cX3_expectLateSync 15 = .ok (.iconst 3, 1) := by decide +kernel
theorem dX3_expectLateSync_16 : decode cX3_expectLateSync 16 = .ok (.dup2, 1) := by decide +kernel
theorem dX3_expectLateSync_17 : decode cX3_expectLateSync 17 = .ok (.iaload, 1) := by decide +kernel
theorem dX3_expectLateSync_18 : decode cX3_expectLateSync 18 = .ok (.iconst 1, 1) := by decide +kernel
theorem dX3_expectLateSync_19 : decode cX3_expectLateSync 19 = .ok (.iadd, 1) := by decide +kernel
theorem dX3_expectLateSync_20 : decode cX3_expectLateSync 20 = .ok (.iastore, 1) := by decide +kernel
theorem dX3_expectLateSync_21 : decode cX3_expectLateSync 21 = .ok (.aload_n 0, 1) := by decide +kernel
theorem dX3_expectLateSync_22 : decode cX3_expectLateSync 22 = .ok (.invokevirtual 56, 3) := by decide +kernel
theorem dX3_expectLateSync_25 : decode cX3_expectLateSync 25 = .ok (.return_, 1) := by decide +kernel
theorem dX3_expectLateSync_26 : decode cX3_expectLateSync 26 = .ok (.aload_n 0, 1) := by decide +kernel
theorem dX3_expectLateSync_27 : decode cX3_expectLateSync 27 = .ok (.getfield 18, 3) := by decide +kernel
theorem dX3_expectLateSync_30 : decode cX3_expectLateSync 30 = .ok (.iconst 4, 1) := by decide +kernel
theorem dX3_expectLateSync_31 : decode cX3_expectLateSync 31 = .ok (.dup2, 1) := by decide +kernel
theorem dX3_expectLateSync_32 : decode cX3_expectLateSync 32 = .ok (.iaload, 1) := by decide +kernel
theorem dX3_expectLateSync_33 : decode cX3_expectLateSync 33 = .ok (.iconst 1, 1) := by decide +kernel
theorem dX3_expectLateSync_34 : decode cX3_expectLateSync 34 = .ok (.iadd, 1) := by decide +kernel
theorem dX3_expectLateSync_35 : decode cX3_expectLateSync 35 = .ok (.iastore, 1) := by decide +kernel
theorem dX3_expectLateSync_36 : decode cX3_expectLateSync 36 = .ok (.aload_n 0, 1) := by decide +kernel
theorem dX3_expectLateSync_37 : decode cX3_expectLateSync 37 = .ok (.dup, 1) := by decide +kernel
theorem dX3_expectLateSync_38 : decode cX3_expectLateSync 38 = .ok (.getfield 15, 3) := by decide +kernel
theorem dX3_expectLateSync_41 : decode cX3_expectLateSync 41 = .ok (.iconst 1, 1) := by decide +kernel
theorem dX3_expectLateSync_42 : decode cX3_expectLateSync 42 = .ok (.iadd, 1) := by decide +kernel
theorem dX3_expectLateSync_43 : decode cX3_expectLateSync 43 = .ok (.putfield 15, 3) := by decide +kernel
theorem dX3_expectLateSync_46 : decode cX3_expectLateSync 46 = .ok (.aload_n 0, 1) := by decide +kernel
theorem dX3_expectLateSync_47 : decode cX3_expectLateSync 47 = .ok (.getfield 15, 3) := by decide +kernel
theorem dX3_expectLateSync_50 : decode cX3_expectLateSync 50 = .ok (.iconst 3, 1) := by decide +kernel
theorem dX3_expectLateSync_51 : decode cX3_expectLateSync 51 = .ok (.if_icmp .lt 10, 3) := by decide +kernel
theorem dX3_expectLateSync_54 : decode cX3_expectLateSync 54 = .ok (.aload_n 0, 1) := by decide +kernel
theorem dX3_expectLateSync_55 : decode cX3_expectLateSync 55 = .ok (.invokevirtual 62, 3) := by decide +kernel
theorem dX3_expectLateSync_58 : decode cX3_expectLateSync 58 = .ok (.goto 8, 3) := by decide +kernel
theorem dX3_expectLateSync_61 : decode cX3_expectLateSync 61 = .ok (.aload_n 0, 1) := by decide +kernel
theorem dX3_expectLateSync_62 : decode cX3_expectLateSync 62 = .ok (.iload_n 1, 1) := by decide +kernel
theorem dX3_expectLateSync_63 : decode cX3_expectLateSync 63 = .ok (.invokevirtual 59, 3) := by decide +kernel
theorem dX3_expectLateSync_66 : decode cX3_expectLateSync 66 = .ok (.return_, 1) := by decide +kernel
theorem dX3_continueAfterSync_0 : decode cX3_continueAfterSync 0 = .ok (.aload_n 0, 1) := by decide +kernel
theorem dX3_continueAfterSync_1 : decode cX3_continueAfterSync 1 = .ok (.iconst 0, 1) := by decide +kernel
theorem dX3_continueAfterSync_2 : decode cX3_continueAfterSync 2 = .ok (.putfield 15, 3) := by decide +kernel
theorem dX3_continueAfterSync_5 : decode cX3_continueAfterSync 5 = .ok (.aload_n 0, 1) := by decide +kernel
theorem dX3_continueAfterSync_6 : decode cX3_continueAfterSync 6 = .ok (.iconst 0, 1) := by decide +kernel
theorem dX3_continueAfterSync_7 : decode cX3_continueAfterSync 7 = .ok (.putfield 25, 3) := by decide +kernel
theorem dX3_continueAfterSync_10 : decode cX3_continueAfterSync 10 = .ok (.return_, 1) := by decide +kernel
theorem dX3_beginFrameWith_0 : decode cX3_beginFrameWith 0 = .ok (.aload_n 0, 1) := by decide +kernel
theorem dX3_beginFrameWith_1 : decode cX3_beginFrameWith 1 = .ok (.iconst 1, 1) := by decide +kernel
theorem dX3_beginFrameWith_2 : decode cX3_beginFrameWith 2 = .ok (.putfield 25, 3) := by decide +kernel
theorem dX3_beginFrameWith_5 : decode cX3_beginFrameWith 5 = .ok (.aload_n 0, 1) := by decide +kernel
theorem dX3_beginFrameWith_6 : decode cX3_beginFrameWith 6 = .ok (.iload_n 1, 1) := by decide +kernel
theorem dX3_beginFrameWith_7 : decode cX3_beginFrameWith 7 = .ok (.invokevirtual 40, 3) := by decide +kernel
theorem dX3_beginFrameWith_10 : decode cX3_beginFrameWith 10 = .ok (.return_, 1) := by decide +kernel
theorem dX3_storeBit_0 : decode cX3_storeBit 0 = .ok (.aload_n 0, 1) := by decide +kernel
theorem dX3_storeBit_1 : decode cX3_storeBit 1 = .ok (.getfield 25, 3) := by decide +kernel
theorem dX3_storeBit_4 : decode cX3_storeBit 4 = .ok (.iconst 1, 1) := by decide +kernel
theorem dX3_storeBit_5 : decode cX3_storeBit 5 = .ok (.isub, 1) := by decide +kernel
theorem dX3_storeBit_6 : decode cX3_storeBit 6 = .ok (.bipush 8, 2) := by decide +kernel
theorem dX3_storeBit_8 : decode cX3_storeBit 8 = .ok (.idiv, 1) := by decide +kernel
theorem dX3_storeBit_9 : decode cX3_storeBit 9 = .ok (.istore_n 2, 1) := by decide +kernel
theorem dX3_storeBit_10 : decode cX3_storeBit 10 = .ok (.iload_n 2, 1) := by decide +kernel
theorem dX3_storeBit_11 : decode cX3_storeBit 11 = .ok (.ifCond .lt 32, 3) := by decide +kernel
theorem dX3_storeBit_14 : decode cX3_storeBit 14 = .ok (.iload_n 2, 1) := by decide +kernel
theorem dX3_storeBit_15 : decode cX3_storeBit 15 = .ok (.aload_n 0, 1) := by decide +kernel
theorem dX3_storeBit_16 : decode cX3_storeBit 16 = .ok (.getfield 22, 3) := by decide +kernel
theorem dX3_storeBit_19 : decode cX3_storeBit 19 = .ok (.arraylength, 1) := by decide +kernel
theorem dX3_storeBit_20 : decode cX3_storeBit 20 = .ok (.if_icmp .ge 23, 3) := by decide +kernel
theorem dX3_storeBit_23 : decode cX3_storeBit 23 = .ok (.aload_n 0, 1) := by decide +kernel
theorem dX3_storeBit_24 : decode cX3_storeBit 24 = .ok (.getfield 22, 3) := by decide +kernel
theorem dX3_storeBit_27 : decode cX3_storeBit 27 = .ok (.iload_n 2, 1) := by decide +kernel
theorem dX3_storeBit_28 : decode cX3_storeBit 28 = .ok (.aload_n 0, 1) := by decide +kernel
theorem dX3_storeBit_29 : decode cX3_storeBit 29 = .ok (.getfield 22, 3) := by decide +kernel
theorem dX3_storeBit_32 : decode cX3_storeBit 32 = .ok (.iload_n 2, 1) := by decide +kernel
theorem dX3_storeBit_33 : decode cX3_storeBit 33 = .ok (.iaload, 1) := by decide +kernel
theorem dX3_storeBit_34 : decode cX3_storeBit 34 = .ok (.iconst 1, 1) := by decide +kernel
theorem dX3_storeBit_35 : decode cX3_storeBit 35 = .ok (.ishl, 1) := by decide +kernel
theorem dX3_storeBit_36 : decode cX3_storeBit 36 = .ok (.iload_n 1, 1) := by decide +kernel
theorem dX3_storeBit_37 : decode cX3_storeBit 37 = .ok (.ior, 1) := by decide +kernel
theorem dX3_storeBit_38 : decode cX3_storeBit 38 = .ok (.sipush 255, 3) := by decide +kernel
theorem dX3_storeBit_41 : decode cX3_storeBit 41 = .ok (.iand, 1) := by decide +kernel
theorem dX3_storeBit_42 : decode cX3_storeBit 42 = .ok (.iastore, 1) := by decide +kernel
theorem dX3_storeBit_43 : decode cX3_storeBit 43 = .ok (.return_, 1) := by decide +kernel
theorem dX3_mixInto_0 : decode cX3_mixInto 0 = .ok (.lload_n 1, 1) := by decide +kernel
theorem dX3_mixInto_1 : decode cX3_mixInto 1 = .ok (.aload_n 0, 1) := by decide +kernel
theorem dX3_mixInto_2 : decode cX3_mixInto 2 = .ok (.getfield 9, 3) := by decide +kernel
theorem dX3_mixInto_5 : decode cX3_mixInto 5 = .ok (.i2l, 1) := by decide +kernel
theorem dX3_mixInto_6 : decode cX3_mixInto 6 = .ok (.invokestatic 65, 3) := by decide +kernel
theorem dX3_mixInto_9 : decode cX3_mixInto 9 = .ok (.lstore_n 3, 1) := by decide +kernel
theorem dX3_mixInto_10 : decode cX3_mixInto 10 = .ok (.lload_n 3, 1) := by decide +kernel
theorem dX3_mixInto_11 : decode cX3_mixInto 11 = .ok (.aload_n 0, 1) := by decide +kernel
theorem dX3_mixInto_12 : decode cX3_mixInto 12 = .ok (.getfield 15, 3) := by decide +kernel
theorem dX3_mixInto_15 : decode cX3_mixInto 15 = .ok (.i2l, 1) := by decide +kernel
theorem dX3_mixInto_16 : decode cX3_mixInto 16 = .ok (.invokestatic 65, 3) := by decide +kernel
theorem dX3_mixInto_19 : decode cX3_mixInto 19 = .ok (.lstore_n 3, 1) := by decide +kernel
theorem dX3_mixInto_20 : decode cX3_mixInto 20 = .ok (.iconst 0, 1) := by decide +kernel
theorem dX3_mixInto_21 : decode cX3_mixInto 21 = .ok (.istore 5, 2) := by decide +kernel
theorem dX3_mixInto_23 : decode cX3_mixInto 23 = .ok (.iload 5, 2) := by decide +kernel
theorem dX3_mixInto_25 : decode cX3_mixInto 25 = .ok (.bipush 6, 2) := by decide +kernel
theorem dX3_mixInto_27 : decode cX3_mixInto 27 = .ok (.if_icmp .ge 22, 3) := by decide +kernel
theorem dX3_mixInto_30 : decode cX3_mixInto 30 = .ok (.lload_n 3, 1) := by decide +kernel
theorem dX3_mixInto_31 : decode cX3_mixInto 31 = .ok (.aload_n 0, 1) := by decide +kernel
theorem dX3_mixInto_32 : decode cX3_mixInto 32 = .ok (.getfield 18, 3) := by decide +kernel
theorem dX3_mixInto_35 : decode cX3_mixInto 35 = .ok (.iload 5, 2) := by decide +kernel
theorem dX3_mixInto_37 : decode cX3_mixInto 37 = .ok (.iaload, 1) := by decide +kernel
theorem dX3_mixInto_38 : decode cX3_mixInto 38 = .ok (.i2l, 1) := by decide +kernel
theorem dX3_mixInto_39 : decode cX3_mixInto 39 = .ok (.invokestatic 65, 3) := by decide +kernel
theorem dX3_mixInto_42 : decode cX3_mixInto 42 = .ok (.lstore_n 3, 1) := by decide +kernel
theorem dX3_mixInto_43 : decode cX3_mixInto 43 = .ok (.iinc 5 1, 3) := by decide +kernel
theorem dX3_mixInto_46 : decode cX3_mixInto 46 = .ok (.goto (-23), 3) := by decide +kernel
theorem dX3_mixInto_49 : decode cX3_mixInto 49 = .ok (.lload_n 3, 1) := by decide +kernel
theorem dX3_mixInto_50 : decode cX3_mixInto 50 = .ok (.lreturn, 1) := by decide +kernel
theorem dX4_init_0 : decode cX4_init 0 = .ok (.aload_n 0, 1) := by decide +kernel
theorem dX4_init_1 : decode cX4_init 1 = .ok (.invokespecial 3, 3) := by decide +kernel
theorem dX4_init_4 : decode cX4_init 4 = .ok (.aload_n 0, 1) := by decide +kernel
theorem dX4_init_5 : decode cX4_init 5 = .ok (.new 9, 3) := by decide +kernel
theorem dX4_init_8 : decode cX4_init 8 = .ok (.dup, 1) := by decide +kernel
theorem dX4_init_9 : decode cX4_init 9 = .ok (.invokespecial 11, 3) := by decide +kernel
theorem dX4_init_12 : decode cX4_init 12 = .ok (.putfield 12, 3) := by decide +kernel
theorem dX4_init_15 : decode cX4_init 15 = .ok (.aload_n 0, 1) := by decide +kernel
theorem dX4_init_16 : decode cX4_init 16 = .ok (.bipush 12, 2) := by decide +kernel
theorem dX4_init_18 : decode cX4_init 18 = .ok (.anewarray 18, 3) := by decide +kernel
theorem dX4_init_21 : decode cX4_init 21 = .ok (.putfield 20, 3) := by decide +kernel
theorem dX4_init_24 : decode cX4_init 24 = .ok (.aload_n 0, 1) := by decide +kernel
theorem dX4_init_25 : decode cX4_init 25 = .ok (.iconst 0, 1) := by decide +kernel
theorem dX4_init_26 : decode cX4_init 26 = .ok (.putfield 24, 3) := by decide +kernel
theorem dX4_init_29 : decode cX4_init 29 = .ok (.aload_n 0, 1) := by decide +kernel
theorem dX4_init_30 : decode cX4_init 30 = .ok (.iconst 0, 1) := by decide +kernel
theorem dX4_init_31 : decode cX4_init 31 = .ok (.putfield 28, 3) := by decide +kernel
theorem dX4_init_34 : decode cX4_init 34 = .ok (.aload_n 0, 1) := by decide +kernel
theorem dX4_init_35 : decode cX4_init 35 = .ok (.new 31, 3) := by decide +kernel
theorem dX4_init_38 : decode cX4_init 38 = .ok (.dup, 1) := by decide +kernel
theorem dX4_init_39 : decode cX4_init 39 = .ok (.invokespecial 33, 3) := by decide +kernel
theorem dX4_init_42 : decode cX4_init 42 = .ok (.putfield 34, 3) := by decide +kernel
theorem dX4_init_45 : decode cX4_init 45 = .ok (.aload_n 0, 1) := by decide +kernel
theorem dX4_init_46 : decode cX4_init 46 = .ok (.new 38, 3) := by decide +kernel
theorem dX4_init_49 : decode cX4_init 49 = .ok (.dup, 1) := by decide +kernel
theorem dX4_init_50 : decode cX4_init 50 = .ok (.invokespecial 40, 3) := by decide +kernel
theorem dX4_init_53 : decode cX4_init 53 = .ok (.putfield 41, 3) := by decide +kernel
theorem dX4_init_56 : decode cX4_init 56 = .ok (.aload_n 0, 1) := by decide +kernel
theorem dX4_init_57 : decode cX4_init 57 = .ok (.iconst 0, 1) := by decide +kernel
theorem dX4_init_58 : decode cX4_init 58 = .ok (.putfield 45, 3) := by decide +kernel
theorem dX4_init_61 : decode cX4_init 61 = .ok (.iconst 0, 1) := by decide +kernel
theorem dX4_init_62 : decode cX4_init 62 = .ok (.istore_n 1, 1) := by decide +kernel
theorem dX4_init_63 : decode cX4_init 63 = .ok (.iload_n 1, 1) := by decide +kernel
theorem dX4_init_64 : decode cX4_init 64 = .ok (.aload_n 0, 1) := by decide +kernel
theorem dX4_init_65 : decode cX4_init 65 = .ok (.getfield 20, 3) := by decide +kernel
theorem dX4_init_68 : decode cX4_init 68 = .ok (.arraylength, 1) := by decide +kernel
theorem dX4_init_69 : decode cX4_init 69 = .ok (.if_icmp .ge 22, 3) := by decide +kernel
theorem dX4_init_72 : decode cX4_init 72 = .ok (.aload_n 0, 1) := by decide +kernel
theorem dX4_init_73 : decode cX4_init 73 = .ok (.getfield 20, 3) := by decide +kernel
theorem dX4_init_76 : decode cX4_init 76 = .ok (.iload_n 1, 1) := by decide +kernel
theorem dX4_init_77 : decode cX4_init 77 = .ok (.new 18, 3) := by decide +kernel
theorem dX4_init_80 : decode cX4_init 80 = .ok (.dup, 1) := by decide +kernel
theorem dX4_init_81 : decode cX4_init 81 = .ok (.invokespecial 48, 3) := by decide +kernel
theorem dX4_init_84 : decode cX4_init 84 = .ok (.aastore, 1) := by decide +kernel
theorem dX4_init_85 : decode cX4_init 85 = .ok (.iinc 1 1, 3) := by decide +kernel
theorem dX4_init_88 : decode cX4_init 88 = .ok (.goto (-25), 3) := by decide +kernel
theorem dX4_init_91 : decode cX4_init 91 = .ok (.return_, 1) := by decide +kernel
theorem dX4_copyFrom_0 : decode cX4_copyFrom 0 = .ok (.aload_n 0, 1) := by decide +kernel
theorem dX4_copyFrom_1 : decode cX4_copyFrom 1 = .ok (.getfield 12, 3) := by decide +kernel
theorem dX4_copyFrom_4 : decode cX4_copyFrom 4 = .ok (.aload_n 1, 1) := by decide +kernel
theorem dX4_copyFrom_5 : decode cX4_copyFrom 5 = .ok (.getfield 12, 3) := by decide +kernel
theorem dX4_copyFrom_8 : decode cX4_copyFrom 8 = .ok (.invokevirtual 49, 3) := by decide +kernel
theorem dX4_copyFrom_11 : decode cX4_copyFrom 11 = .ok (.aload_n 0, 1) := by decide +kernel
theorem dX4_copyFrom_12 : decode cX4_copyFrom 12 = .ok (.aload_n 1, 1) := by decide +kernel
theorem dX4_copyFrom_13 : decode cX4_copyFrom 13 = .ok (.getfield 24, 3) := by decide +kernel
theorem dX4_copyFrom_16 : decode cX4_copyFrom 16 = .ok (.putfield 24, 3) := by decide +kernel
theorem dX4_copyFrom_19 : decode cX4_copyFrom 19 = .ok (.iconst 0, 1) := by decide +kernel
theorem dX4_copyFrom_20 : decode cX4_copyFrom 20 = .ok (.istore_n 2, 1) := by decide +kernel
theorem dX4_copyFrom_21 : decode cX4_copyFrom 21 = .ok (.iload_n 2, 1) := by decide +kernel
theorem dX4_copyFrom_22 : decode cX4_copyFrom 22 = .ok (.aload_n 0, 1) := by decide +kernel
theorem dX4_copyFrom_23 : decode cX4_copyFrom 23 = .ok (.getfield 24, 3) := by decide +kernel
theorem dX4_copyFrom_26 : decode cX4_copyFrom 26 = .ok (.if_icmp .ge 24, 3) := by decide +kernel
theorem dX4_copyFrom_29 : decode cX4_copyFrom 29 = .ok (.aload_n 0, 1) := by decide +kernel
theorem dX4_copyFrom_30 : decode cX4_copyFrom 30 = .ok (.getfield 20, 3) := by decide +kernel
theorem dX4_copyFrom_33 : decode cX4_copyFrom 33 = .ok (.iload_n 2, 1) := by decide +kernel
theorem dX4_copyFrom_34 : decode cX4_copyFrom 34 = .ok (.aaload, 1) := by decide +kernel
theorem dX4_copyFrom_35 : decode cX4_copyFrom 35 = .ok (.aload_n 1, 1) := by decide +kernel
theorem dX4_copyFrom_36 : decode cX4_copyFrom 36 = .ok (.getfield 20, 3) := by decide +kernel
theorem dX4_copyFrom_39 : decode cX4_copyFrom 39 = .ok (.iload_n 2, 1) := by decide +kernel
theorem dX4_copyFrom_40 : decode cX4_copyFrom 40 = .ok (.aaload, 1) := by decide +kernel
theorem dX4_copyFrom_41 : decode cX4_copyFrom 41 = .ok (.invokevirtual 53, 3) := by decide +kernel
theorem dX4_copyFrom_44 : decode cX4_copyFrom 44 = .ok (.iinc 2 1, 3) := by decide +kernel
theorem dX4_copyFrom_47 : decode cX4_copyFrom 47 = .ok (.goto (-26), 3) := by decide +kernel
theorem dX4_copyFrom_50 : decode cX4_copyFrom 50 = .ok (.aload_n 0, 1) := by decide +kernel
theorem dX4_copyFrom_51 : decode cX4_copyFrom 51 = .ok (.aload_n 1, 1) := by decide +kernel
theorem dX4_copyFrom_52 : decode cX4_copyFrom 52 = .ok (.getfield 28, 3) := by decide +kernel
theorem dX4_copyFrom_55 : decode cX4_copyFrom 55 = .ok (.putfield 28, 3) := by decide +kernel
theorem dX4_copyFrom_58 : decode cX4_copyFrom 58 = .ok (.aload_n 0, 1) := by decide +kernel
theorem dX4_copyFrom_59 : decode cX4_copyFrom 59 = .ok (.getfield 34, 3) := by decide +kernel
theorem dX4_copyFrom_62 : decode cX4_copyFrom 62 = .ok (.aload_n 1, 1) := by decide +kernel
theorem dX4_copyFrom_63 : decode cX4_copyFrom 63 = .ok (.getfield 34, 3) := by decide +kernel
theorem dX4_copyFrom_66 : decode cX4_copyFrom 66 = .ok (.invokevirtual 56, 3) := by decide +kernel
theorem dX4_copyFrom_69 : decode cX4_copyFrom 69 = .ok (.aload_n 0, 1) := by decide +kernel
theorem dX4_copyFrom_70 : decode cX4_copyFrom 70 = .ok (.getfield 41, 3) := by decide +kernel
theorem dX4_copyFrom_73 : decode cX4_copyFrom 73 = .ok (.aload_n 1, 1) := by decide +kernel
theorem dX4_copyFrom_74 : decode cX4_copyFrom 74 = .ok (.getfield 41, 3) := by decide +kernel
theorem dX4_copyFrom_77 : decode cX4_copyFrom 77 = .ok (.invokevirtual 59, 3) := by decide +kernel
theorem dX4_copyFrom_80 : decode cX4_copyFrom 80 = .ok (.aload_n 0, 1) := by decide +kernel
theorem dX4_copyFrom_81 : decode cX4_copyFrom 81 = .ok (.aload_n 1, 1) := by decide +kernel
theorem dX4_copyFrom_82 : decode cX4_copyFrom 82 = .ok (.getfield 45, 3) := by decide +kernel
theorem dX4_copyFrom_85 : decode cX4_copyFrom 85 = .ok (.putfield 45, 3) := by decide +kernel
theorem dX4_copyFrom_88 : decode cX4_copyFrom 88 = .ok (.return_, 1) := by decide +kernel
theorem dX4_restartLink_0 : decode cX4_restartLink 0 = .ok (.aload_n 0, 1) := by decide +kernel
theorem dX4_restartLink_1 : decode cX4_restartLink 1 = .ok (.getfield 12, 3) := by decide +kernel
theorem dX4_restartLink_4 : decode cX4_restartLink 4 = .ok (.iconst 0, 1) := by decide +kernel
theorem dX4_restartLink_5 : decode cX4_restartLink 5 = .ok (.putfield 62, 3) := by decide +kernel
theorem dX4_restartLink_8 : decode cX4_restartLink 8 = .ok (.aload_n 0, 1) := by decide +kernel
theorem dX4_restartLink_9 : decode cX4_restartLink 9 = .ok (.getfield 34, 3) := by decide +kernel
theorem dX4_restartLink_12 : decode cX4_restartLink 12 = .ok (.iconst 0, 1) := by decide +kernel
theorem dX4_restartLink_13 : decode cX4_restartLink 13 = .ok (.putfield 66, 3) := by decide +kernel
theorem dX4_restartLink_16 : decode cX4_restartLink 16 = .ok (.aload_n 0, 1) := by decide +kernel
theorem dX4_restartLink_17 : decode cX4_restartLink 17 = .ok (.iconst 0, 1) := by decide +kernel
theorem dX4_restartLink_18 : decode cX4_restartLink 18 = .ok (.putfield 28, 3) := by decide +kernel
theorem dX4_restartLink_21 : decode cX4_restartLink 21 = .ok (.aload_n 0, 1) := by decide +kernel
theorem dX4_restartLink_22 : decode cX4_restartLink 22 = .ok (.getfield 41, 3) := by decide +kernel
theorem dX4_restartLink_25 : decode cX4_restartLink 25 = .ok (.invokevirtual 69, 3) := by decide +kernel
theorem dX4_restartLink_28 : decode cX4_restartLink 28 = .ok (.return_, 1) := by decide +kernel
theorem dX4_sendMinor_0 : decode cX4_sendMinor 0 = .ok (.aload_n 0, 1) := by decide +kernel
theorem dX4_sendMinor_1 : decode cX4_sendMinor 1 = .ok (.getfield 34, 3) := by decide +kernel
theorem dX4_sendMinor_4 : decode cX4_sendMinor 4 = .ok (.sipush 235, 3) := by decide +kernel
theorem dX4_sendMinor_7 : decode cX4_sendMinor 7 = .ok (.invokevirtual 72, 3) := by decide +kernel
theorem dX4_sendMinor_10 : decode cX4_sendMinor 10 = .ok (.aload_n 0, 1) := by decide +kernel
theorem dX4_sendMinor_11 : decode cX4_sendMinor 11 = .ok (.getfield 34, 3) := by decide +kernel
theorem dX4_sendMinor_14 : decode cX4_sendMinor 14 = .ok (.sipush 144, 3) := by decide +kernel
theorem dX4_sendMinor_17 : decode cX4_sendMinor 17 = .ok (.invokevirtual 72, 3) := by decide +kernel
theorem dX4_sendMinor_20 : decode cX4_sendMinor 20 = .ok (.aload_n 0, 1) := by decide +kernel
theorem dX4_sendMinor_21 : decode cX4_sendMinor 21 = .ok (.getfield 34, 3) := by decide +kernel
theorem dX4_sendMinor_24 : decode cX4_sendMinor 24 = .ok (.aload_n 0, 1) := by decide +kernel
theorem dX4_sendMinor_25 : decode cX4_sendMinor 25 = .ok (.getfield 28, 3) := by decide +kernel
theorem dX4_sendMinor_28 : decode cX4_sendMinor 28 = .ok (.invokevirtual 72, 3) := by decide +kernel
theorem dX4_sendMinor_31 : decode cX4_sendMinor 31 = .ok (.iconst 3, 1) := by decide +kernel
theorem dX4_sendMinor_32 : decode cX4_sendMinor 32 = .ok (.istore_n 1, 1) := by decide +kernel
theorem dX4_sendMinor_33 : decode cX4_sendMinor 33 = .ok (.iload_n 1, 1) := by decide +kernel
theorem dX4_sendMinor_34 : decode cX4_sendMinor 34 = .ok (.aload_n 0, 1) := by decide +kernel
theorem dX4_sendMinor_35 : decode cX4_sendMinor 35 = .ok (.getfield 12, 3) := by decide +kernel
theorem dX4_sendMinor_38 : decode cX4_sendMinor 38 = .ok (.getfield 76, 3) := by decide +kernel
theorem dX4_sendMinor_41 : decode cX4_sendMinor 41 = .ok (.if_icmp .ge 51, 3) := by decide +kernel
theorem dX4_sendMinor_44 : decode cX4_sendMinor 44 = .ok (.aload_n 0, 1) := by decide +kernel
theorem dX4_sendMinor_45 : decode cX4_sendMinor 45 = .ok (.getfield 12, 3) := by decide +kernel
theorem dX4_sendMinor_48 : decode cX4_sendMinor 48 = .ok (.aload_n 0, 1) := by decide +kernel
theorem dX4_sendMinor_49 : decode cX4_sendMinor 49 = .ok (.getfield 28, 3) := by decide +kernel
theorem dX4_sendMinor_52 : decode cX4_sendMinor 52 = .ok (.iload_n 1, 1) := by decide +kernel
theorem dX4_sendMinor_53 : decode cX4_sendMinor 53 = .ok (.invokevirtual 79, 3) := by decide +kernel
theorem dX4_sendMinor_56 : decode cX4_sendMinor 56 = .ok (.istore_n 2, 1) := by decide +kernel
theorem dX4_sendMinor_57 : decode cX4_sendMinor 57 = .ok (.aload_n 0, 1) := by decide +kernel
theorem dX4_sendMinor_58 : decode cX4_sendMinor 58 = .ok (.getfield 34, 3) := by decide +kernel
theorem dX4_sendMinor_61 : decode cX4_sendMinor 61 = .ok (.aload_n 0, 1) := by decide +kernel
theorem dX4_sendMinor_62 : decode cX4_sendMinor 62 = .ok (.iload_n 2, 1) := by decide +kernel
theorem dX4_sendMinor_63 : decode cX4_sendMinor 63 = .ok (.invokevirtual 83, 3) := by decide +kernel
theorem dX4_sendMinor_66 : decode cX4_sendMinor 66 = .ok (.ifCond .eq 15, 3) := by decide +kernel
theorem dX4_sendMinor_69 : decode cX4_sendMinor 69 = .ok (.aload_n 0, 1) := by decide +kernel
theorem dX4_sendMinor_70 : decode cX4_sendMinor 70 = .ok (.getfield 20, 3) := by decide +kernel
theorem dX4_sendMinor_73 : decode cX4_sendMinor 73 = .ok (.iload_n 2, 1) := by decide +kernel
theorem dX4_sendMinor_74 : decode cX4_sendMinor 74 = .ok (.aaload, 1) := by decide +kernel
theorem dX4_sendMinor_75 : decode cX4_sendMinor 75 = .ok (.getfield 87, 3) := by decide +kernel
theorem dX4_sendMinor_78 : decode cX4_sendMinor 78 = .ok (.goto 5, 3) := by decide +kernel
theorem dX4_sendMinor_81 : decode cX4_sendMinor 81 = .ok (.bipush 85, 2) := by decide +kernel
theorem dX4_sendMinor_83 : decode cX4_sendMinor 83 = .ok (.invokevirtual 72, 3) := by decide +kernel
theorem dX4_sendMinor_86 : decode cX4_sendMinor 86 = .ok (.iinc 1 1, 3) := by decide +kernel
theorem dX4_sendMinor_89 : decode cX4_sendMinor 89 = .ok (.goto (-56), 3) := by decide +kernel
theorem dX4_sendMinor_92 : decode cX4_sendMinor 92 = .ok (.aload_n 0, 1) := by decide +kernel
theorem dX4_sendMinor_93 : decode cX4_sendMinor 93 = .ok (.aload_n 0, 1) := by decide +kernel
theorem dX4_sendMinor_94 : decode cX4_sendMinor 94 = .ok (.getfield 28, 3) := by decide +kernel
theorem dX4_sendMinor_97 : decode cX4_sendMinor 97 = .ok (.iconst 1, 1) := by decide +kernel
theorem dX4_sendMinor_98 : decode cX4_sendMinor 98 = .ok (.iadd, 1) := by decide +kernel
theorem dX4_sendMinor_99 : decode cX4_sendMinor 99 = .ok (.aload_n 0, 1) := by decide +kernel
theorem dX4_sendMinor_100 : decode cX4_sendMinor 100 = .ok (.getfield 12, 3) := by decide +kernel
theorem dX4_sendMinor_103 : decode cX4_sendMinor 103 = .ok (.getfield 90, 3) := by decide +kernel
theorem dX4_sendMinor_106 : decode cX4_sendMinor 106 = .ok (.if_icmp .ge 12, 3) := by decide +kernel
theorem dX4_sendMinor_109 : decode cX4_sendMinor 109 = .ok (.aload_n 0, 1) := by decide +kernel
theorem dX4_sendMinor_110 : decode cX4_sendMinor 110 = .ok (.getfield 28, 3) := by decide +kernel
theorem dX4_sendMinor_113 : decode cX4_sendMinor 113 = .ok (.iconst 1, 1) := by decide +kernel
theorem dX4_sendMinor_114 : decode cX4_sendMinor 114 = .ok (.iadd, 1) := by decide +kernel
theorem dX4_sendMinor_115 : decode cX4_sendMinor 115 = .ok (.goto 4, 3) := by decide +kernel
theorem dX4_sendMinor_118 : decode cX4_sendMinor 118 = .ok (.iconst 0, 1) := by decide +kernel
theorem dX4_sendMinor_119 : decode cX4_sendMinor 119 = .ok (.putfield 28, 3) := by decide +kernel
theorem dX4_sendMinor_122 : decode cX4_sendMinor 122 = .ok (.return_, 1) := by decide +kernel
theorem dX4_isParameter_0 : decode cX4_isParameter 0 = .ok (.iload_n 1, 1) := by decide +kernel
theorem dX4_isParameter_1 : decode cX4_isParameter 1 = .ok (.ifCond .lt 15, 3) := by decide +kernel
theorem dX4_isParameter_4 : decode cX4_isParameter 4 = .ok (.iload_n 1, 1) := by decide +kernel
theorem dX4_isParameter_5 : decode cX4_isParameter 5 = .ok (.aload_n 0, 1) := by decide +kernel
theorem dX4_isParameter_6 : decode cX4_isParameter 6 = .ok (.getfield 24, 3) := by decide +kernel
theorem dX4_isParameter_9 : decode cX4_isParameter 9 = .ok (.if_icmp .ge 7, 3) := by decide +kernel
theorem dX4_isParameter_12 : decode cX4_isParameter 12 = .ok (.iconst 1, 1) := by decide +kernel
theorem dX4_isParameter_13 : decode cX4_isParameter 13 = .ok (.goto 4, 3) := by decide +kernel
theorem dX4_isParameter_16 : decode cX4_isParameter 16 = .ok (.iconst 0, 1) := by decide +kernel
theorem dX4_isParameter_17 : decode cX4_isParameter 17 = .ok (.ireturn, 1) := by decide +kernel
theorem dX4_takeBits_0 : decode cX4_takeBits 0 = .ok (.aload_n 0, 1) := by decide +kernel
theorem dX4_takeBits_1 : decode cX4_takeBits 1 = .ok (.getfield 12, 3) := by decide +kernel
theorem dX4_takeBits_4 : decode cX4_takeBits 4 = .ok (.getfield 76, 3) := by decide +kernel
theorem dX4_takeBits_7 : decode cX4_takeBits 7 = .ok (.iconst 2, 1) := by decide +kernel
theorem dX4_takeBits_8 : decode cX4_takeBits 8 = .ok (.isub, 1) := by decide +kernel
theorem dX4_takeBits_9 : decode cX4_takeBits 9 = .ok (.bipush 8, 2) := by decide +kernel
theorem dX4_takeBits_11 : decode cX4_takeBits 11 = .ok (.imul, 1) := by decide +kernel
theorem dX4_takeBits_12 : decode cX4_takeBits 12 = .ok (.istore_n 2, 1) := by decide +kernel
theorem dX4_takeBits_13 : decode cX4_takeBits 13 = .ok (.iconst 0, 1) := by decide +kernel
theorem dX4_takeBits_14 : decode cX4_takeBits 14 = .ok (.istore_n 3, 1) := by decide +kernel
theorem dX4_takeBits_15 : decode cX4_takeBits 15 = .ok (.iload_n 3, 1) := by decide +kernel
theorem dX4_takeBits_16 : decode cX4_takeBits 16 = .ok (.iload_n 1, 1) := by decide +kernel
theorem dX4_takeBits_17 : decode cX4_takeBits 17 = .ok (.if_icmp .ge 33, 3) := by decide +kernel
theorem dX4_takeBits_20 : decode cX4_takeBits 20 = .ok (.aload_n 0, 1) := by decide +kernel
theorem dX4_takeBits_21 : decode cX4_takeBits 21 = .ok (.getfield 41, 3) := by decide +kernel
theorem dX4_takeBits_24 : decode cX4_takeBits 24 = .ok (.aload_n 0, 1) := by decide +kernel
theorem dX4_takeBits_25 : decode cX4_takeBits 25 = .ok (.getfield 34, 3) := by decide +kernel
theorem dX4_takeBits_28 : decode cX4_takeBits 28 = .ok (.getfield 93, 3) := by decide +kernel
theorem dX4_takeBits_31 : decode cX4_takeBits 31 = .ok (.iload_n 3, 1) := by decide +kernel
theorem dX4_takeBits_32 : decode cX4_takeBits 32 = .ok (.iaload, 1) := by decide +kernel
theorem dX4_takeBits_33 : decode cX4_takeBits 33 = .ok (.iload_n 2, 1) := by decide +kernel
theorem dX4_takeBits_34 : decode cX4_takeBits 34 = .ok (.invokevirtual 97, 3) := by decide +kernel
theorem dX4_takeBits_37 : decode cX4_takeBits 37 = .ok (.ifCond .eq 7, 3) := by decide +kernel
theorem dX4_takeBits_40 : decode cX4_takeBits 40 = .ok (.aload_n 0, 1) := by decide +kernel
theorem dX4_takeBits_41 : decode cX4_takeBits 41 = .ok (.invokevirtual 101, 3) := by decide +kernel
theorem dX4_takeBits_44 : decode cX4_takeBits 44 = .ok (.iinc 3 1, 3) := by decide +kernel
theorem dX4_takeBits_47 : decode cX4_takeBits 47 = .ok (.goto (-32), 3) := by decide +kernel
theorem dX4_takeBits_50 : decode cX4_takeBits 50 = .ok (.aload_n 0, 1) := by decide +kernel
theorem dX4_takeBits_51 : decode cX4_takeBits 51 = .ok (.getfield 34, 3) := by decide +kernel
theorem dX4_takeBits_54 : decode cX4_takeBits 54 = .ok (.iload_n 1, 1) := by decide +kernel
theorem dX4_takeBits_55 : decode cX4_takeBits 55 = .ok (.invokevirtual 104, 3) := by decide +kernel
theorem dX4_takeBits_58 : decode cX4_takeBits 58 = .ok (.return_, 1) := by decide +kernel
theorem dX4_deliver_0 : decode cX4_deliver 0 = .ok (.aload_n 0, 1) := by decide +kernel
theorem dX4_deliver_1 : decode cX4_deliver 1 = .ok (.getfield 41, 3) := by decide +kernel
theorem dX4_deliver_4 : decode cX4_deliver 4 = .ok (.getfield 107, 3) := by decide +kernel
theorem dX4_deliver_7 : decode cX4_deliver 7 = .ok (.iconst 0, 1) := by decide +kernel
theorem dX4_deliver_8 : decode cX4_deliver 8 = .ok (.dup2, 1) := by decide +kernel
theorem dX4_deliver_9 : decode cX4_deliver 9 = .ok (.iaload, 1) := by decide +kernel
theorem dX4_deliver_10 : decode cX4_deliver 10 = .ok (.iconst 1, 1) := by decide +kernel
theorem dX4_deliver_11 : decode cX4_deliver 11 = .ok (.iadd, 1) := by decide +kernel
theorem dX4_deliver_12 : decode cX4_deliver 12 = .ok (.iastore, 1) := by decide +kernel
theorem dX4_deliver_13 : decode cX4_deliver 13 = .ok (.aload_n 0, 1) := by decide +kernel
theorem dX4_deliver_14 : decode cX4_deliver 14 = .ok (.getfield 41, 3) := by decide +kernel
theorem dX4_deliver_17 : decode cX4_deliver 17 = .ok (.getfield 110, 3) := by decide +kernel
theorem dX4_deliver_20 : decode cX4_deliver 20 = .ok (.iconst 0, 1) := by decide +kernel
theorem dX4_deliver_21 : decode cX4_deliver 21 = .ok (.iaload, 1) := by decide +kernel
theorem dX4_deliver_22 : decode cX4_deliver 22 = .ok (.istore_n 1, 1) := by decide +kernel
theorem dX4_deliver_23 : decode cX4_deliver 23 = .ok (.iload_n 1, 1) := by decide +kernel
theorem dX4_deliver_24 : decode cX4_deliver 24 = .ok (.aload_n 0, 1) := by decide +kernel
theorem dX4_deliver_25 : decode cX4_deliver 25 = .ok (.getfield 12, 3) := by decide +kernel
theorem dX4_deliver_28 : decode cX4_deliver 28 = .ok (.getfield 90, 3) := by decide +kernel
theorem dX4_deliver_31 : decode cX4_deliver 31 = .ok (.if_icmp .lt 17, 3) := by decide +kernel
theorem dX4_deliver_34 : decode cX4_deliver 34 = .ok (.aload_n 0, 1) := by decide +kernel
theorem dX4_deliver_35 : decode cX4_deliver 35 = .ok (.getfield 41, 3) := by decide +kernel
theorem dX4_deliver_38 : decode cX4_deliver 38 = .ok (.getfield 107, 3) := by decide +kernel
theorem dX4_deliver_41 : decode cX4_deliver 41 = .ok (.iconst 1, 1) := by decide +kernel
theorem dX4_deliver_42 : decode cX4_deliver 42 = .ok (.dup2, 1) := by decide +kernel
theorem dX4_deliver_43 : decode cX4_deliver 43 = .ok (.iaload, 1) := by decide +kernel
theorem dX4_deliver_44 : decode cX4_deliver 44 = .ok (.iconst 1, 1) := by decide +kernel
theorem dX4_deliver_45 : decode cX4_deliver 45 = .ok (.iadd, 1) := by decide +kernel
theorem dX4_deliver_46 : decode cX4_deliver 46 = .ok (.iastore, 1) := by decide +kernel
theorem dX4_deliver_47 : decode cX4_deliver 47 = .ok (.return_, 1) := by decide +kernel
theorem dX4_deliver_48 : decode cX4_deliver 48 = .ok (.iconst 3, 1) := by decide +kernel
theorem dX4_deliver_49 : decode cX4_deliver 49 = .ok (.istore_n 2, 1) := by decide +kernel
theorem dX4_deliver_50 : decode cX4_deliver 50 = .ok (.iload_n 2, 1) := by decide +kernel
theorem dX4_deliver_51 : decode cX4_deliver 51 = .ok (.aload_n 0, 1) := by decide +kernel
theorem dX4_deliver_52 : decode cX4_deliver 52 = .ok (.getfield 12, 3) := by decide +kernel
theorem dX4_deliver_55 : decode cX4_deliver 55 = .ok (.getfield 76, 3) := by decide +kernel
theorem dX4_deliver_58 : decode cX4_deliver 58 = .ok (.if_icmp .ge 51, 3) := by decide +kernel
theorem dX4_deliver_61 : decode cX4_deliver 61 = .ok (.aload_n 0, 1) := by decide +kernel
theorem dX4_deliver_62 : decode cX4_deliver 62 = .ok (.getfield 12, 3) := by decide +kernel
theorem dX4_deliver_65 : decode cX4_deliver 65 = .ok (.iload_n 1, 1) := by decide +kernel
theorem dX4_deliver_66 : decode cX4_deliver 66 = .ok (.iload_n 2, 1) := by decide +kernel
theorem dX4_deliver_67 : decode cX4_deliver 67 = .ok (.invokevirtual 79, 3) := by decide +kernel
theorem dX4_deliver_70 : decode cX4_deliver 70 = .ok (.istore_n 3, 1) := by decide +kernel
theorem dX4_deliver_71 : decode cX4_deliver 71 = .ok (.aload_n 0, 1) := by decide +kernel
theorem dX4_deliver_72 : decode cX4_deliver 72 = .ok (.iload_n 3, 1) := by decide +kernel
theorem dX4_deliver_73 : decode cX4_deliver 73 = .ok (.invokevirtual 83, 3) := by decide +kernel
theorem dX4_deliver_76 : decode cX4_deliver 76 = .ok (.ifCond .eq 27, 3) := by decide +kernel
theorem dX4_deliver_79 : decode cX4_deliver 79 = .ok (.aload_n 0, 1) := by decide +kernel
theorem dX4_deliver_80 : decode cX4_deliver 80 = .ok (.getfield 20, 3) := by decide +kernel
theorem dX4_deliver_83 : decode cX4_deliver 83 = .ok (.iload_n 3, 1) := by decide +kernel
theorem dX4_deliver_84 : decode cX4_deliver 84 = .ok (.aaload, 1) := by decide +kernel
theorem dX4_deliver_85 : decode cX4_deliver 85 = .ok (.aload_n 0, 1) := by decide +kernel
theorem dX4_deliver_86 : decode cX4_deliver 86 = .ok (.getfield 41, 3) := by decide +kernel
theorem dX4_deliver_89 : decode cX4_deliver 89 = .ok (.getfield 110, 3) := by decide +kernel
theorem dX4_deliver_92 : decode cX4_deliver 92 = .ok (.iload_n 2, 1) := by decide +kernel
theorem dX4_deliver_93 : decode cX4_deliver 93 = .ok (.iconst 2, 1) := by decide +kernel
theorem dX4_deliver_94 : decode cX4_deliver 94 = .ok (.isub, 1) := by decide +kernel
theorem dX4_deliver_95 : decode cX4_deliver 95 = .ok (.iaload, 1) := by decide +kernel
theorem dX4_deliver_96 : decode cX4_deliver 96 = .ok (.aload_n 0, 1) := by decide +kernel
theorem dX4_deliver_97 : decode cX4_deliver 97 = .ok (.getfield 45, 3) := by decide +kernel
theorem dX4_deliver_100 : decode cX4_deliver 100 = .ok (.invokevirtual 113, 3) := by decide +kernel
theorem dX4_deliver_103 : decode cX4_deliver 103 = .ok (.iinc 2 1, 3) := by decide +kernel
theorem dX4_deliver_106 : decode cX4_deliver 106 = .ok (.goto (-56), 3) := by decide +kernel
theorem dX4_deliver_109 : decode cX4_deliver 109 = .ok (.return_, 1) := by decide +kernel
theorem dX4_mixInto_0 : decode cX4_mixInto 0 = .ok (.lload_n 1, 1) := by decide +kernel
theorem dX4_mixInto_1 : decode cX4_mixInto 1 = .ok (.aload_n 0, 1) := by decide +kernel
theorem dX4_mixInto_2 : decode cX4_mixInto 2 = .ok (.getfield 12, 3) := by decide +kernel
theorem dX4_mixInto_5 : decode cX4_mixInto 5 = .ok (.getfield 76, 3) := by decide +kernel
theorem dX4_mixInto_8 : decode cX4_mixInto 8 = .ok (.i2l, 1) := by decide +kernel
theorem dX4_mixInto_9 : decode cX4_mixInto 9 = .ok (.invokestatic 117, 3) := by decide +kernel
theorem dX4_mixInto_12 : decode cX4_mixInto 12 = .ok (.lstore_n 3, 1) := by decide +kernel
theorem dX4_mixInto_13 : decode cX4_mixInto 13 = .ok (.lload_n 3, 1) := by decide +kernel
theorem dX4_mixInto_14 : decode cX4_mixInto 14 = .ok (.aload_n 0, 1) := by decide +kernel
theorem dX4_mixInto_15 : decode cX4_mixInto 15 = .ok (.getfield 12, 3) := by decide +kernel
theorem dX4_mixInto_18 : decode cX4_mixInto 18 = .ok (.getfield 90, 3) := by decide +kernel
theorem dX4_mixInto_21 : decode cX4_mixInto 21 = .ok (.i2l, 1) := by decide +kernel
theorem dX4_mixInto_22 : decode cX4_mixInto 22 = .ok (.invokestatic 117, 3) := by decide +kernel
theorem dX4_mixInto_25 : decode cX4_mixInto 25 = .ok (.lstore_n 3, 1) := by decide +kernel
theorem dX4_mixInto_26 : decode cX4_mixInto 26 = .ok (.lload_n 3, 1) := by decide +kernel
theorem dX4_mixInto_27 : decode cX4_mixInto 27 = .ok (.aload_n 0, 1) := by decide +kernel
theorem dX4_mixInto_28 : decode cX4_mixInto 28 = .ok (.getfield 24, 3) := by decide +kernel
theorem dX4_mixInto_31 : decode cX4_mixInto 31 = .ok (.i2l, 1) := by decide +kernel
theorem dX4_mixInto_32 : decode cX4_mixInto 32 = .ok (.invokestatic 117, 3) := by decide +kernel
theorem dX4_mixInto_35 : decode cX4_mixInto 35 = .ok (.lstore_n 3, 1) := by decide +kernel
theorem dX4_mixInto_36 : decode cX4_mixInto 36 = .ok (.iconst 0, 1) := by decide +kernel
theorem dX4_mixInto_37 : decode cX4_mixInto 37 = .ok (.istore 5, 2) := by decide +kernel
theorem dX4_mixInto_39 : decode cX4_mixInto 39 = .ok (.iload 5, 2) := by decide +kernel
theorem dX4_mixInto_41 : decode cX4_mixInto 41 = .ok (.aload_n 0, 1) := by decide +kernel
theorem dX4_mixInto_42 : decode cX4_mixInto 42 = .ok (.getfield 24, 3) := by decide +kernel
theorem dX4_mixInto_45 : decode cX4_mixInto 45 = .ok (.if_icmp .ge 21, 3) := by decide +kernel
theorem dX4_mixInto_48 : decode cX4_mixInto 48 = .ok (.aload_n 0, 1) := by decide +kernel
theorem dX4_mixInto_49 : decode cX4_mixInto 49 = .ok (.getfield 20, 3) := by decide +kernel
theorem dX4_mixInto_52 : decode cX4_mixInto 52 = .ok (.iload 5, 2) := by decide +kernel
theorem dX4_mixInto_54 : decode cX4_mixInto 54 = .ok (.aaload, 1) := by decide +kernel
theorem dX4_mixInto_55 : decode cX4_mixInto 55 = .ok (.lload_n 3, 1) := by decide +kernel
theorem dX4_mixInto_56 : decode cX4_mixInto 56 = .ok (.invokevirtual 121, 3) := by decide +kernel
theorem dX4_mixInto_59 : decode cX4_mixInto 59 = .ok (.lstore_n 3, 1) := by decide +kernel
theorem dX4_mixInto_60 : decode cX4_mixInto 60 = .ok (.iinc 5 1, 3) := by decide +kernel
theorem dX4_mixInto_63 : decode cX4_mixInto 63 = .ok (.goto (-24), 3) := by decide +kernel
theorem dX4_mixInto_66 : decode cX4_mixInto 66 = .ok (.aload_n 0, 1) := by decide +kernel
theorem dX4_mixInto_67 : decode cX4_mixInto 67 = .ok (.getfield 12, 3) := by decide +kernel
theorem dX4_mixInto_70 : decode cX4_mixInto 70 = .ok (.lload_n 3, 1) := by decide +kernel
theorem dX4_mixInto_71 : decode cX4_mixInto 71 = .ok (.invokevirtual 125, 3) := by decide +kernel
theorem dX4_mixInto_74 : decode cX4_mixInto 74 = .ok (.lstore_n 3, 1) := by decide +kernel
theorem dX4_mixInto_75 : decode cX4_mixInto 75 = .ok (.lload_n 3, 1) := by decide +kernel
theorem dX4_mixInto_76 : decode cX4_mixInto 76 = .ok (.aload_n 0, 1) := by decide +kernel
theorem dX4_mixInto_77 : decode cX4_mixInto 77 = .ok (.getfield 28, 3) := by decide +kernel
theorem dX4_mixInto_80 : decode cX4_mixInto 80 = .ok (.i2l, 1) := by decide +kernel
theorem dX4_mixInto_81 : decode cX4_mixInto 81 = .ok (.invokestatic 117, 3) := by decide +kernel
theorem dX4_mixInto_84 : decode cX4_mixInto 84 = .ok (.lstore_n 3, 1) := by decide +kernel
theorem dX4_mixInto_85 : decode cX4_mixInto 85 = .ok (.aload_n 0, 1) := by decide +kernel
theorem dX4_mixInto_86 : decode cX4_mixInto 86 = .ok (.getfield 34, 3) := by decide +kernel
theorem dX4_mixInto_89 : decode cX4_mixInto 89 = .ok (.lload_n 3, 1) := by decide +kernel
theorem dX4_mixInto_90 : decode cX4_mixInto 90 = .ok (.invokevirtual 126, 3) := by decide +kernel
theorem dX4_mixInto_93 : decode cX4_mixInto 93 = .ok (.lstore_n 3, 1) := by decide +kernel
theorem dX4_mixInto_94 : decode cX4_mixInto 94 = .ok (.aload_n 0, 1) := by decide +kernel
theorem dX4_mixInto_95 : decode cX4_mixInto 95 = .ok (.getfield 41, 3) := by decide +kernel
theorem dX4_mixInto_98 : decode cX4_mixInto 98 = .ok (.lload_n 3, 1) := by decide +kernel
theorem dX4_mixInto_99 : decode cX4_mixInto 99 = .ok (.invokevirtual 127, 3) := by decide +kernel
theorem dX4_mixInto_102 : decode cX4_mixInto 102 = .ok (.lstore_n 3, 1) := by decide +kernel
theorem dX4_mixInto_103 : decode cX4_mixInto 103 = .ok (.lload_n 3, 1) := by decide +kernel
theorem dX4_mixInto_104 : decode cX4_mixInto 104 = .ok (.aload_n 0, 1) := by decide +kernel
theorem dX4_mixInto_105 : decode cX4_mixInto 105 = .ok (.getfield 45, 3) := by decide +kernel
theorem dX4_mixInto_108 : decode cX4_mixInto 108 = .ok (.i2l, 1) := by decide +kernel
theorem dX4_mixInto_109 : decode cX4_mixInto 109 = .ok (.invokestatic 117, 3) := by decide +kernel
theorem dX4_mixInto_112 : decode cX4_mixInto 112 = .ok (.lreturn, 1) := by decide +kernel
theorem dX5_init_0 : decode cX5_init 0 = .ok (.aload_n 0, 1) := by decide +kernel
theorem dX5_init_1 : decode cX5_init 1 = .ok (.invokespecial 3, 3) := by decide +kernel
theorem dX5_init_4 : decode cX5_init 4 = .ok (.aload_n 0, 1) := by decide +kernel
theorem dX5_init_5 : decode cX5_init 5 = .ok (.new 9, 3) := by decide +kernel
theorem dX5_init_8 : decode cX5_init 8 = .ok (.dup, 1) := by decide +kernel
theorem dX5_init_9 : decode cX5_init 9 = .ok (.invokespecial 11, 3) := by decide +kernel
theorem dX5_init_12 : decode cX5_init 12 = .ok (.putfield 12, 3) := by decide +kernel
theorem dX5_init_15 : decode cX5_init 15 = .ok (.aload_n 0, 1) := by decide +kernel
theorem dX5_init_16 : decode cX5_init 16 = .ok (.iconst 4, 1) := by decide +kernel
theorem dX5_init_17 : decode cX5_init 17 = .ok (.anewarray 9, 3) := by decide +kernel
theorem dX5_init_20 : decode cX5_init 20 = .ok (.putfield 16, 3) := by decide +kernel
theorem dX5_init_23 : decode cX5_init 23 = .ok (.iconst 0, 1) := by decide +kernel
theorem dX5_init_24 : decode cX5_init 24 = .ok (.istore_n 1, 1) := by decide +kernel
theorem dX5_init_25 : decode cX5_init 25 = .ok (.iload_n 1, 1) := by decide +kernel
theorem dX5_init_26 : decode cX5_init 26 = .ok (.aload_n 0, 1) := by decide +kernel
theorem dX5_init_27 : decode cX5_init 27 = .ok (.getfield 16, 3) := by decide +kernel
theorem dX5_init_30 : decode cX5_init 30 = .ok (.arraylength, 1) := by decide +kernel
theorem dX5_init_31 : decode cX5_init 31 = .ok (.if_icmp .ge 22, 3) := by decide +kernel
theorem dX5_init_34 : decode cX5_init 34 = .ok (.aload_n 0, 1) := by decide +kernel
theorem dX5_init_35 : decode cX5_init 35 = .ok (.getfield 16, 3) := by decide +kernel
theorem dX5_init_38 : decode cX5_init 38 = .ok (.iload_n 1, 1) := by decide +kernel
theorem dX5_init_39 : decode cX5_init 39 = .ok (.new 9, 3) := by decide +kernel
theorem dX5_init_42 : decode cX5_init 42 = .ok (.dup, 1) := by decide +kernel
theorem dX5_init_43 : decode cX5_init 43 = .ok (.invokespecial 11, 3) := by decide +kernel
theorem dX5_init_46 : decode cX5_init 46 = .ok (.aastore, 1) := by decide +kernel
theorem dX5_init_47 : decode cX5_init 47 = .ok (.iinc 1 1, 3) := by decide +kernel
theorem dX5_init_50 : decode cX5_init 50 = .ok (.goto (-25), 3) := by decide +kernel
theorem dX5_init_53 : decode cX5_init 53 = .ok (.aload_n 0, 1) := by decide +kernel
theorem dX5_init_54 : decode cX5_init 54 = .ok (.iconst 0, 1) := by decide +kernel
theorem dX5_init_55 : decode cX5_init 55 = .ok (.putfield 20, 3) := by decide +kernel
theorem dX5_init_58 : decode cX5_init 58 = .ok (.aload_n 0, 1) := by decide +kernel
theorem dX5_init_59 : decode cX5_init 59 = .ok (.iconst 0, 1) := by decide +kernel
theorem dX5_init_60 : decode cX5_init 60 = .ok (.putfield 24, 3) := by decide +kernel
theorem dX5_init_63 : decode cX5_init 63 = .ok (.aload_n 0, 1) := by decide +kernel
theorem dX5_init_64 : decode cX5_init 64 = .ok (.new 27, 3) := by decide +kernel
theorem dX5_init_67 : decode cX5_init 67 = .ok (.dup, 1) := by decide +kernel
theorem dX5_init_68 : decode cX5_init 68 = .ok (.invokespecial 29, 3) := by decide +kernel
theorem dX5_init_71 : decode cX5_init 71 = .ok (.putfield 30, 3) := by decide +kernel
theorem dX5_init_74 : decode cX5_init 74 = .ok (.return_, 1) := by decide +kernel
theorem dX5_setFrame_0 : decode cX5_setFrame 0 = .ok (.iload_n 1, 1) := by decide +kernel
theorem dX5_setFrame_1 : decode cX5_setFrame 1 = .ok (.bipush 6, 2) := by decide +kernel
theorem dX5_setFrame_3 : decode cX5_setFrame 3 = .ok (.if_icmp .lt 13, 3) := by decide +kernel
theorem dX5_setFrame_6 : decode cX5_setFrame 6 = .ok (.iload_n 1, 1) := by decide +kernel
theorem dX5_setFrame_7 : decode cX5_setFrame 7 = .ok (.bipush 16, 2) := by decide +kernel
theorem dX5_setFrame_9 : decode cX5_setFrame 9 = .ok (.if_icmp .gt 7, 3) := by decide +kernel
theorem dX5_setFrame_12 : decode cX5_setFrame 12 = .ok (.iconst 1, 1) := by decide +kernel
theorem dX5_setFrame_13 : decode cX5_setFrame 13 = .ok (.goto 4, 3) := by decide +kernel
theorem dX5_setFrame_16 : decode cX5_setFrame 16 = .ok (.iconst 0, 1) := by decide +kernel
theorem dX5_setFrame_17 : decode cX5_setFrame 17 = .ok (.invokestatic 34, 3) := by decide +kernel
theorem dX5_setFrame_20 : decode cX5_setFrame 20 = .ok (.iload_n 2, 1) := by decide +kernel
theorem dX5_setFrame_21 : decode cX5_setFrame 21 = .ok (.iconst 1, 1) := by decide +kernel
theorem dX5_setFrame_22 : decode cX5_setFrame 22 = .ok (.if_icmp .eq 19, 3) := by decide +kernel
theorem dX5_setFrame_25 : decode cX5_setFrame 25 = .ok (.iload_n 2, 1) := by decide +kernel
theorem dX5_setFrame_26 : decode cX5_setFrame 26 = .ok (.iconst 2, 1) := by decide +kernel
theorem dX5_setFrame_27 : decode cX5_setFrame 27 = .ok (.if_icmp .eq 14, 3) := by decide +kernel
theorem dX5_setFrame_30 : decode cX5_setFrame 30 = .ok (.iload_n 2, 1) := by decide +kernel
theorem dX5_setFrame_31 : decode cX5_setFrame 31 = .ok (.iconst 4, 1) := by decide +kernel
theorem dX5_setFrame_32 : decode cX5_setFrame 32 = .ok (.if_icmp .eq 9, 3) := by decide +kernel
theorem dX5_setFrame_35 : decode cX5_setFrame 35 = .ok (.iload_n 2, 1) := by decide +kernel
theorem dX5_setFrame_36 : decode cX5_setFrame 36 = .ok (.bipush 8, 2) := by decide +kernel
theorem dX5_setFrame_38 : decode cX5_setFrame 38 = .ok (.if_icmp .ne 7, 3) := by decide +kernel
theorem dX5_setFrame_41 : decode cX5_setFrame 41 = .ok (.iconst 1, 1) := by decide +kernel
theorem dX5_setFrame_42 : decode cX5_setFrame 42 = .ok (.goto 4, 3) := by decide +kernel
theorem dX5_setFrame_45 : decode cX5_setFrame 45 = .ok (.iconst 0, 1) := by decide +kernel
theorem dX5_setFrame_46 : decode cX5_setFrame 46 = .ok (.invokestatic 34, 3) := by decide +kernel
theorem dX5_setFrame_49 : decode cX5_setFrame 49 = .ok (.aload_n 0, 1) := by decide +kernel
theorem dX5_setFrame_50 : decode cX5_setFrame 50 = .ok (.invokevirtual 38, 3) := by decide +kernel
theorem dX5_setFrame_53 : decode cX5_setFrame 53 = .ok (.aload_n 0, 1) := by decide +kernel
theorem dX5_setFrame_54 : decode cX5_setFrame 54 = .ok (.getfield 12, 3) := by decide +kernel
theorem dX5_setFrame_57 : decode cX5_setFrame 57 = .ok (.getfield 41, 3) := by decide +kernel
theorem dX5_setFrame_60 : decode cX5_setFrame 60 = .ok (.iload_n 1, 1) := by decide +kernel
theorem dX5_setFrame_61 : decode cX5_setFrame 61 = .ok (.putfield 44, 3) := by decide +kernel
theorem dX5_setFrame_64 : decode cX5_setFrame 64 = .ok (.aload_n 0, 1) := by decide +kernel
theorem dX5_setFrame_65 : decode cX5_setFrame 65 = .ok (.getfield 12, 3) := by decide +kernel
theorem dX5_setFrame_68 : decode cX5_setFrame 68 = .ok (.getfield 41, 3) := by decide +kernel
theorem dX5_setFrame_71 : decode cX5_setFrame 71 = .ok (.iload_n 2, 1) := by decide +kernel
theorem dX5_setFrame_72 : decode cX5_setFrame 72 = .ok (.putfield 47, 3) := by decide +kernel
theorem dX5_setFrame_75 : decode cX5_setFrame 75 = .ok (.aload_n 0, 1) := by decide +kernel
theorem dX5_setFrame_76 : decode cX5_setFrame 76 = .ok (.getfield 12, 3) := by decide +kernel
theorem dX5_setFrame_79 : decode cX5_setFrame 79 = .ok (.invokevirtual 50, 3) := by decide +kernel
theorem dX5_setFrame_82 : decode cX5_setFrame 82 = .ok (.iload_n 1, 1) := by decide +kernel
theorem dX5_setFrame_83 : decode cX5_setFrame 83 = .ok (.iload_n 2, 1) := by decide +kernel
theorem dX5_setFrame_84 : decode cX5_setFrame 84 = .ok (.imul, 1) := by decide +kernel
theorem dX5_setFrame_85 : decode cX5_setFrame 85 = .ok (.ireturn, 1) := by decide +kernel
theorem dX5_addParameter_0 : decode cX5_addParameter 0 = .ok (.iload_n 1, 1) := by decide +kernel
theorem dX5_addParameter_1 : decode cX5_addParameter 1 = .ok (.iconst 1, 1) := by decide +kernel
theorem dX5_addParameter_2 : decode cX5_addParameter 2 = .ok (.if_icmp .lt 12, 3) := by decide +kernel
theorem dX5_addParameter_5 : decode cX5_addParameter 5 = .ok (.iload_n 1, 1) := by decide +kernel
theorem dX5_addParameter_6 : decode cX5_addParameter 6 = .ok (.iconst 4, 1) := by decide +kernel
theorem dX5_addParameter_7 : decode cX5_addParameter 7 = .ok (.if_icmp .gt 7, 3) := by decide +kernel
theorem dX5_addParameter_10 : decode cX5_addParameter 10 = .ok (.iconst 1, 1) := by decide +kernel
theorem dX5_addParameter_11 : decode cX5_addParameter 11 = .ok (.goto 4, 3) := by decide +kernel
theorem dX5_addParameter_14 : decode cX5_addParameter 14 = .ok (.iconst 0, 1) := by decide +kernel
theorem dX5_addParameter_15 : decode cX5_addParameter 15 = .ok (.istore_n 2, 1) := by decide +kernel
theorem dX5_addParameter_16 : decode cX5_addParameter 16 = .ok (.iload_n 1, 1) := by decide +kernel
theorem dX5_addParameter_17 : decode cX5_addParameter 17 = .ok (.bipush (-2), 2) := by decide +kernel
theorem dX5_addParameter_19 : decode cX5_addParameter 19 = .ok (.if_icmp .eq 15, 3) := by decide +kernel
theorem dX5_addParameter_22 : decode cX5_addParameter 22 = .ok (.iload_n 1, 1) := by decide +kernel
theorem dX5_addParameter_23 : decode cX5_addParameter 23 = .ok (.bipush (-4), 2) := by decide +kernel
theorem dX5_addParameter_25 : decode cX5_addParameter 25 = .ok (.if_icmp .eq 9, 3) := by decide +kernel
theorem dX5_addParameter_28 : decode cX5_addParameter 28 = .ok (.iload_n 1, 1) := by decide +kernel
theorem dX5_addParameter_29 : decode cX5_addParameter 29 = .ok (.bipush (-8), 2) := by decide +kernel
theorem dX5_addParameter_31 : decode cX5_addParameter 31 = .ok (.if_icmp .ne 7, 3) := by decide +kernel
theorem dX5_addParameter_34 : decode cX5_addParameter 34 = .ok (.iconst 1, 1) := by decide +kernel
theorem dX5_addParameter_35 : decode cX5_addParameter 35 = .ok (.goto 4, 3) := by decide +kernel
theorem dX5_addParameter_38 : decode cX5_addParameter 38 = .ok (.iconst 0, 1) := by decide +kernel
theorem dX5_addParameter_39 : decode cX5_addParameter 39 = .ok (.istore_n 3, 1) := by decide +kernel
theorem dX5_addParameter_40 : decode cX5_addParameter 40 = .ok (.iload_n 2, 1) := by decide +kernel
theorem dX5_addParameter_41 : decode cX5_addParameter 41 = .ok (.ifCond .ne 7, 3) := by decide +kernel
theorem dX5_addParameter_44 : decode cX5_addParameter 44 = .ok (.iload_n 3, 1) := by decide +kernel
theorem dX5_addParameter_45 : decode cX5_addParameter 45 = .ok (.ifCond .eq 7, 3) := by decide +kernel
theorem dX5_addParameter_48 : decode cX5_addParameter 48 = .ok (.iconst 1, 1) := by decide +kernel
theorem dX5_addParameter_49 : decode cX5_addParameter 49 = .ok (.goto 4, 3) := by decide +kernel
theorem dX5_addParameter_52 : decode cX5_addParameter 52 = .ok (.iconst 0, 1) := by decide +kernel
theorem dX5_addParameter_53 : decode cX5_addParameter 53 = .ok (.invokestatic 34, 3) := by decide +kernel
theorem dX5_addParameter_56 : decode cX5_addParameter 56 = .ok (.aload_n 0, 1) := by decide +kernel
theorem dX5_addParameter_57 : decode cX5_addParameter 57 = .ok (.getfield 12, 3) := by decide +kernel
theorem dX5_addParameter_60 : decode cX5_addParameter 60 = .ok (.getfield 53, 3) := by decide +kernel
theorem dX5_addParameter_63 : decode cX5_addParameter 63 = .ok (.bipush 12, 2) := by decide +kernel
theorem dX5_addParameter_65 : decode cX5_addParameter 65 = .ok (.if_icmp .ge 7, 3) := by decide +kernel
theorem dX5_addParameter_68 : decode cX5_addParameter 68 = .ok (.iconst 1, 1) := by decide +kernel
theorem dX5_addParameter_69 : decode cX5_addParameter 69 = .ok (.goto 4, 3) := by decide +kernel
theorem dX5_addParameter_72 : decode cX5_addParameter 72 = .ok (.iconst 0, 1) := by decide +kernel
theorem dX5_addParameter_73 : decode cX5_addParameter 73 = .ok (.invokestatic 56, 3) := by decide +kernel
theorem dX5_addParameter_76 : decode cX5_addParameter 76 = .ok (.aload_n 0, 1) := by decide +kernel
theorem dX5_addParameter_77 : decode cX5_addParameter 77 = .ok (.invokevirtual 38, 3) := by decide +kernel
theorem dX5_addParameter_80 : decode cX5_addParameter 80 = .ok (.aload_n 0, 1) := by decide +kernel
theorem dX5_addParameter_81 : decode cX5_addParameter 81 = .ok (.getfield 12, 3) := by decide +kernel
theorem dX5_addParameter_84 : decode cX5_addParameter 84 = .ok (.getfield 53, 3) := by decide +kernel
theorem dX5_addParameter_87 : decode cX5_addParameter 87 = .ok (.istore 4, 2) := by decide +kernel
theorem dX5_addParameter_89 : decode cX5_addParameter 89 = .ok (.aload_n 0, 1) := by decide +kernel
theorem dX5_addParameter_90 : decode cX5_addParameter 90 = .ok (.getfield 12, 3) := by decide +kernel
theorem dX5_addParameter_93 : decode cX5_addParameter 93 = .ok (.getfield 59, 3) := by decide +kernel
theorem dX5_addParameter_96 : decode cX5_addParameter 96 = .ok (.iload 4, 2) := by decide +kernel
theorem dX5_addParameter_98 : decode cX5_addParameter 98 = .ok (.aaload, 1) := by decide +kernel
theorem dX5_addParameter_99 : decode cX5_addParameter 99 = .ok (.iload_n 1, 1) := by decide +kernel
theorem dX5_addParameter_100 : decode cX5_addParameter 100 = .ok (.invokevirtual 63, 3) := by decide +kernel
theorem dX5_addParameter_103 : decode cX5_addParameter 103 = .ok (.aload_n 0, 1) := by decide +kernel
theorem dX5_addParameter_104 : decode cX5_addParameter 104 = .ok (.getfield 12, 3) := by decide +kernel
theorem dX5_addParameter_107 : decode cX5_addParameter 107 = .ok (.iload 4, 2) := by decide +kernel
theorem dX5_addParameter_109 : decode cX5_addParameter 109 = .ok (.iconst 1, 1) := by decide +kernel
theorem dX5_addParameter_110 : decode cX5_addParameter 110 = .ok (.iadd, 1) := by decide +kernel
theorem dX5_addParameter_111 : decode cX5_addParameter 111 = .ok (.putfield 53, 3) := by decide +kernel
theorem dX5_addParameter_114 : decode cX5_addParameter 114 = .ok (.aload_n 0, 1) := by decide +kernel
theorem dX5_addParameter_115 : decode cX5_addParameter 115 = .ok (.getfield 12, 3) := by decide +kernel
theorem dX5_addParameter_118 : decode cX5_addParameter 118 = .ok (.invokevirtual 50, 3) := by decide +kernel
theorem dX5_addParameter_121 : decode cX5_addParameter 121 = .ok (.iload 4, 2) := by decide +kernel
theorem dX5_addParameter_123 : decode cX5_addParameter 123 = .ok (.ireturn, 1) := by decide +kernel
theorem dX5_plan_0 : decode cX5_plan 0 = .ok (.aload_n 0, 1) := by decide +kernel
theorem dX5_plan_1 : decode cX5_plan 1 = .ok (.getfield 30, 3) := by decide +kernel
theorem dX5_plan_4 : decode cX5_plan 4 = .ok (.aload_n 0, 1) := by decide +kernel
theorem dX5_plan_5 : decode cX5_plan 5 = .ok (.getfield 12, 3) := by decide +kernel
theorem dX5_plan_8 : decode cX5_plan 8 = .ok (.getfield 41, 3) := by decide +kernel
theorem dX5_plan_11 : decode cX5_plan 11 = .ok (.invokevirtual 69, 3) := by decide +kernel
theorem dX5_plan_14 : decode cX5_plan 14 = .ok (.aload_n 0, 1) := by decide +kernel
theorem dX5_plan_15 : decode cX5_plan 15 = .ok (.getfield 30, 3) := by decide +kernel
theorem dX5_plan_18 : decode cX5_plan 18 = .ok (.invokevirtual 73, 3) := by decide +kernel
theorem dX5_plan_21 : decode cX5_plan 21 = .ok (.aload_n 0, 1) := by decide +kernel
theorem dX5_plan_22 : decode cX5_plan 22 = .ok (.invokevirtual 76, 3) := by decide +kernel
theorem dX5_plan_25 : decode cX5_plan 25 = .ok (.istore_n 1, 1) := by decide +kernel
theorem dX5_plan_26 : decode cX5_plan 26 = .ok (.iload_n 1, 1) := by decide +kernel
theorem dX5_plan_27 : decode cX5_plan 27 = .ok (.iconst (-1), 1) := by decide +kernel
theorem dX5_plan_28 : decode cX5_plan 28 = .ok (.if_icmp .eq 8, 3) := by decide +kernel
theorem dX5_plan_31 : decode cX5_plan 31 = .ok (.bipush (-10), 2) := by decide +kernel
theorem dX5_plan_33 : decode cX5_plan 33 = .ok (.iload_n 1, 1) := by decide +kernel
theorem dX5_plan_34 : decode cX5_plan 34 = .ok (.isub, 1) := by decide +kernel
theorem dX5_plan_35 : decode cX5_plan 35 = .ok (.ireturn, 1) := by decide +kernel
theorem dX5_plan_36 : decode cX5_plan 36 = .ok (.aload_n 0, 1) := by decide +kernel
theorem dX5_plan_37 : decode cX5_plan 37 = .ok (.invokevirtual 38, 3) := by decide +kernel
theorem dX5_plan_40 : decode cX5_plan 40 = .ok (.aload_n 0, 1) := by decide +kernel
theorem dX5_plan_41 : decode cX5_plan 41 = .ok (.getfield 30, 3) := by decide +kernel
theorem dX5_plan_44 : decode cX5_plan 44 = .ok (.iconst 1, 1) := by decide +kernel
theorem dX5_plan_45 : decode cX5_plan 45 = .ok (.putfield 80, 3) := by decide +kernel
theorem dX5_plan_48 : decode cX5_plan 48 = .ok (.aload_n 0, 1) := by decide +kernel
theorem dX5_plan_49 : decode cX5_plan 49 = .ok (.getfield 12, 3) := by decide +kernel
theorem dX5_plan_52 : decode cX5_plan 52 = .ok (.getfield 41, 3) := by decide +kernel
theorem dX5_plan_55 : decode cX5_plan 55 = .ok (.aload_n 0, 1) := by decide +kernel
theorem dX5_plan_56 : decode cX5_plan 56 = .ok (.getfield 30, 3) := by decide +kernel
theorem dX5_plan_59 : decode cX5_plan 59 = .ok (.invokevirtual 69, 3) := by decide +kernel
theorem dX5_plan_62 : decode cX5_plan 62 = .ok (.aload_n 0, 1) := by decide +kernel
theorem dX5_plan_63 : decode cX5_plan 63 = .ok (.getfield 30, 3) := by decide +kernel
theorem dX5_plan_66 : decode cX5_plan 66 = .ok (.getfield 84, 3) := by decide +kernel
theorem dX5_plan_69 : decode cX5_plan 69 = .ok (.ireturn, 1) := by decide +kernel
theorem dX5_samplesPerMajor_0 : decode cX5_samplesPerMajor 0 = .ok (.aload_n 0, 1) := by decide +kernel
theorem dX5_samplesPerMajor_1 : decode cX5_samplesPerMajor 1 = .ok (.iload_n 1, 1) := by decide +kernel
theorem dX5_samplesPerMajor_2 : decode cX5_samplesPerMajor 2 = .ok (.invokevirtual 87, 3) := by decide +kernel
theorem dX5_samplesPerMajor_5 : decode cX5_samplesPerMajor 5 = .ok (.aload_n 0, 1) := by decide +kernel
theorem dX5_samplesPerMajor_6 : decode cX5_samplesPerMajor 6 = .ok (.getfield 12, 3) := by decide +kernel
theorem dX5_samplesPerMajor_9 : decode cX5_samplesPerMajor 9 = .ok (.getfield 41, 3) := by decide +kernel
theorem dX5_samplesPerMajor_12 : decode cX5_samplesPerMajor 12 = .ok (.getfield 47, 3) := by decide +kernel
theorem dX5_samplesPerMajor_15 : decode cX5_samplesPerMajor 15 = .ok (.invokevirtual 91, 3) := by decide +kernel
theorem dX5_samplesPerMajor_18 : decode cX5_samplesPerMajor 18 = .ok (.ireturn, 1) := by decide +kernel
theorem dX5_slot_0 : decode cX5_slot 0 = .ok (.iload_n 1, 1) := by decide +kernel
theorem dX5_slot_1 : decode cX5_slot 1 = .ok (.aload_n 0, 1) := by decide +kernel
theorem dX5_slot_2 : decode cX5_slot 2 = .ok (.getfield 12, 3) := by decide +kernel
theorem dX5_slot_5 : decode cX5_slot 5 = .ok (.getfield 53, 3) := by decide +kernel
theorem dX5_slot_8 : decode cX5_slot 8 = .ok (.invokestatic 95, 3) := by decide +kernel
theorem dX5_slot_11 : decode cX5_slot 11 = .ok (.iload_n 3, 1) := by decide +kernel
theorem dX5_slot_12 : decode cX5_slot 12 = .ok (.ifCond .eq 8, 3) := by decide +kernel
theorem dX5_slot_15 : decode cX5_slot 15 = .ok (.iload_n 3, 1) := by decide +kernel
theorem dX5_slot_16 : decode cX5_slot 16 = .ok (.iconst 1, 1) := by decide +kernel
theorem dX5_slot_17 : decode cX5_slot 17 = .ok (.if_icmp .ne 7, 3) := by decide +kernel
theorem dX5_slot_20 : decode cX5_slot 20 = .ok (.iconst 1, 1) := by decide +kernel
theorem dX5_slot_21 : decode cX5_slot 21 = .ok (.goto 4, 3) := by decide +kernel
theorem dX5_slot_24 : decode cX5_slot 24 = .ok (.iconst 0, 1) := by decide +kernel
theorem dX5_slot_25 : decode cX5_slot 25 = .ok (.invokestatic 34, 3) := by decide +kernel
theorem dX5_slot_28 : decode cX5_slot 28 = .ok (.aload_n 0, 1) := by decide +kernel
theorem dX5_slot_29 : decode cX5_slot 29 = .ok (.getfield 12, 3) := by decide +kernel
theorem dX5_slot_32 : decode cX5_slot 32 = .ok (.getfield 41, 3) := by decide +kernel
theorem dX5_slot_35 : decode cX5_slot 35 = .ok (.getfield 80, 3) := by decide +kernel
theorem dX5_slot_38 : decode cX5_slot 38 = .ok (.invokestatic 56, 3) := by decide +kernel
theorem dX5_slot_41 : decode cX5_slot 41 = .ok (.aload_n 0, 1) := by decide +kernel
theorem dX5_slot_42 : decode cX5_slot 42 = .ok (.getfield 12, 3) := by decide +kernel
theorem dX5_slot_45 : decode cX5_slot 45 = .ok (.getfield 41, 3) := by decide +kernel
theorem dX5_slot_48 : decode cX5_slot 48 = .ok (.iload_n 1, 1) := by decide +kernel
theorem dX5_slot_49 : decode cX5_slot 49 = .ok (.iload_n 2, 1) := by decide +kernel
theorem dX5_slot_50 : decode cX5_slot 50 = .ok (.invokevirtual 99, 3) := by decide +kernel
theorem dX5_slot_53 : decode cX5_slot 53 = .ok (.istore 4, 2) := by decide +kernel
theorem dX5_slot_55 : decode cX5_slot 55 = .ok (.iload 4, 2) := by decide +kernel
theorem dX5_slot_57 : decode cX5_slot 57 = .ok (.iconst (-1), 1) := by decide +kernel
theorem dX5_slot_58 : decode cX5_slot 58 = .ok (.if_icmp .eq 7, 3) := by decide +kernel
theorem dX5_slot_61 : decode cX5_slot 61 = .ok (.iconst 1, 1) := by decide +kernel
theorem dX5_slot_62 : decode cX5_slot 62 = .ok (.goto 4, 3) := by decide +kernel
theorem dX5_slot_65 : decode cX5_slot 65 = .ok (.iconst 0, 1) := by decide +kernel
theorem dX5_slot_66 : decode cX5_slot 66 = .ok (.invokestatic 56, 3) := by decide +kernel
theorem dX5_slot_69 : decode cX5_slot 69 = .ok (.iload_n 3, 1) := by decide +kernel
theorem dX5_slot_70 : decode cX5_slot 70 = .ok (.ifCond .ne 11, 3) := by decide +kernel
theorem dX5_slot_73 : decode cX5_slot 73 = .ok (.iload 4, 2) := by decide +kernel
theorem dX5_slot_75 : decode cX5_slot 75 = .ok (.bipush 16, 2) := by decide +kernel
theorem dX5_slot_77 : decode cX5_slot 77 = .ok (.idiv, 1) := by decide +kernel
theorem dX5_slot_78 : decode cX5_slot 78 = .ok (.goto 8, 3) := by decide +kernel
theorem dX5_slot_81 : decode cX5_slot 81 = .ok (.iload 4, 2) := by decide +kernel
theorem dX5_slot_83 : decode cX5_slot 83 = .ok (.bipush 16, 2) := by decide +kernel
theorem dX5_slot_85 : decode cX5_slot 85 = .ok (.irem, 1) := by decide +kernel
theorem dX5_slot_86 : decode cX5_slot 86 = .ok (.ireturn, 1) := by decide +kernel
theorem dX5_ownerOf_0 : decode cX5_ownerOf 0 = .ok (.iload_n 1, 1) := by decide +kernel
theorem dX5_ownerOf_1 : decode cX5_ownerOf 1 = .ok (.aload_n 0, 1) := by decide +kernel
theorem dX5_ownerOf_2 : decode cX5_ownerOf 2 = .ok (.getfield 12, 3) := by decide +kernel
theorem dX5_ownerOf_5 : decode cX5_ownerOf 5 = .ok (.getfield 41, 3) := by decide +kernel
theorem dX5_ownerOf_8 : decode cX5_ownerOf 8 = .ok (.getfield 47, 3) := by decide +kernel
theorem dX5_ownerOf_11 : decode cX5_ownerOf 11 = .ok (.invokestatic 95, 3) := by decide +kernel
theorem dX5_ownerOf_14 : decode cX5_ownerOf 14 = .ok (.iload_n 2, 1) := by decide +kernel
theorem dX5_ownerOf_15 : decode cX5_ownerOf 15 = .ok (.aload_n 0, 1) := by decide +kernel
theorem dX5_ownerOf_16 : decode cX5_ownerOf 16 = .ok (.getfield 12, 3) := by decide +kernel
theorem dX5_ownerOf_19 : decode cX5_ownerOf 19 = .ok (.getfield 41, 3) := by decide +kernel
theorem dX5_ownerOf_22 : decode cX5_ownerOf 22 = .ok (.getfield 44, 3) := by decide +kernel
theorem dX5_ownerOf_25 : decode cX5_ownerOf 25 = .ok (.invokestatic 95, 3) := by decide +kernel
theorem dX5_ownerOf_28 : decode cX5_ownerOf 28 = .ok (.aload_n 0, 1) := by decide +kernel
theorem dX5_ownerOf_29 : decode cX5_ownerOf 29 = .ok (.getfield 12, 3) := by decide +kernel
theorem dX5_ownerOf_32 : decode cX5_ownerOf 32 = .ok (.getfield 41, 3) := by decide +kernel
theorem dX5_ownerOf_35 : decode cX5_ownerOf 35 = .ok (.getfield 80, 3) := by decide +kernel
theorem dX5_ownerOf_38 : decode cX5_ownerOf 38 = .ok (.invokestatic 56, 3) := by decide +kernel
theorem dX5_ownerOf_41 : decode cX5_ownerOf 41 = .ok (.aload_n 0, 1) := by decide +kernel
theorem dX5_ownerOf_42 : decode cX5_ownerOf 42 = .ok (.getfield 12, 3) := by decide +kernel
theorem dX5_ownerOf_45 : decode cX5_ownerOf 45 = .ok (.getfield 41, 3) := by decide +kernel
theorem dX5_ownerOf_48 : decode cX5_ownerOf 48 = .ok (.iload_n 1, 1) := by decide +kernel
theorem dX5_ownerOf_49 : decode cX5_ownerOf 49 = .ok (.iload_n 2, 1) := by decide +kernel
theorem dX5_ownerOf_50 : decode cX5_ownerOf 50 = .ok (.invokevirtual 103, 3) := by decide +kernel
theorem dX5_ownerOf_53 : decode cX5_ownerOf 53 = .ok (.ireturn, 1) := by decide +kernel
theorem dX5_efficiency_0 : decode cX5_efficiency 0 = .ok (.aload_n 0, 1) := by decide +kernel
theorem dX5_efficiency_1 : decode cX5_efficiency 1 = .ok (.getfield 12, 3) := by decide +kernel
theorem dX5_efficiency_4 : decode cX5_efficiency 4 = .ok (.getfield 41, 3) := by decide +kernel
theorem dX5_efficiency_7 : decode cX5_efficiency 7 = .ok (.getfield 80, 3) := by decide +kernel
theorem dX5_efficiency_10 : decode cX5_efficiency 10 = .ok (.invokestatic 56, 3) := by decide +kernel
theorem dX5_efficiency_13 : decode cX5_efficiency 13 = .ok (.aload_n 0, 1) := by decide +kernel
theorem dX5_efficiency_14 : decode cX5_efficiency 14 = .ok (.getfield 12, 3) := by decide +kernel
theorem dX5_efficiency_17 : decode cX5_efficiency 17 = .ok (.getfield 41, 3) := by decide +kernel
theorem dX5_efficiency_20 : decode cX5_efficiency 20 = .ok (.getfield 84, 3) := by decide +kernel
theorem dX5_efficiency_23 : decode cX5_efficiency 23 = .ok (.i2d, 1) := by decide +kernel
theorem dX5_efficiency_24 : decode cX5_efficiency 24 = .ok (.aload_n 0, 1) := by decide +kernel
theorem dX5_efficiency_25 : decode cX5_efficiency 25 = .ok (.getfield 12, 3) := by decide +kernel
theorem dX5_efficiency_28 : decode cX5_efficiency 28 = .ok (.getfield 41, 3) := by decide +kernel
theorem dX5_efficiency_31 : decode cX5_efficiency 31 = .ok (.getfield 44, 3) := by decide +kernel
theorem dX5_efficiency_34 : decode cX5_efficiency 34 = .ok (.aload_n 0, 1) := by decide +kernel
theorem dX5_efficiency_35 : decode cX5_efficiency 35 = .ok (.getfield 12, 3) := by decide +kernel
theorem dX5_efficiency_38 : decode cX5_efficiency 38 = .ok (.getfield 41, 3) := by decide +kernel
theorem dX5_efficiency_41 : decode cX5_efficiency 41 = .ok (.getfield 47, 3) := by decide +kernel
theorem dX5_efficiency_44 : decode cX5_efficiency 44 = .ok (.imul, 1) := by decide +kernel
theorem dX5_efficiency_45 : decode cX5_efficiency 45 = .ok (.i2d, 1) := by decide +kernel
theorem dX5_efficiency_46 : decode cX5_efficiency 46 = .ok (.ddiv, 1) := by decide +kernel
theorem dX5_efficiency_47 : decode cX5_efficiency 47 = .ok (.dreturn, 1) := by decide +kernel
theorem dX5_setValue_0 : decode cX5_setValue 0 = .ok (.aload_n 0, 1) := by decide +kernel
theorem dX5_setValue_1 : decode cX5_setValue 1 = .ok (.iload_n 1, 1) := by decide +kernel
theorem dX5_setValue_2 : decode cX5_setValue 2 = .ok (.invokevirtual 87, 3) := by decide +kernel
theorem dX5_setValue_5 : decode cX5_setValue 5 = .ok (.astore_n 3, 1) := by decide +kernel
theorem dX5_setValue_6 : decode cX5_setValue 6 = .ok (.iload_n 2, 1) := by decide +kernel
theorem dX5_setValue_7 : decode cX5_setValue 7 = .ok (.ifCond .lt 14, 3) := by decide +kernel
theorem dX5_setValue_10 : decode cX5_setValue 10 = .ok (.iload_n 2, 1) := by decide +kernel
theorem dX5_setValue_11 : decode cX5_setValue 11 = .ok (.sipush 255, 3) := by decide +kernel
theorem dX5_setValue_14 : decode cX5_setValue 14 = .ok (.if_icmp .gt 7, 3) := by decide +kernel
theorem dX5_setValue_17 : decode cX5_setValue 17 = .ok (.iconst 1, 1) := by decide +kernel
theorem dX5_setValue_18 : decode cX5_setValue 18 = .ok (.goto 4, 3) := by decide +kernel
theorem dX5_setValue_21 : decode cX5_setValue 21 = .ok (.iconst 0, 1) := by decide +kernel
theorem dX5_setValue_22 : decode cX5_setValue 22 = .ok (.invokestatic 34, 3) := by decide +kernel
theorem dX5_setValue_25 : decode cX5_setValue 25 = .ok (.aload_n 0, 1) := by decide +kernel
theorem dX5_setValue_26 : decode cX5_setValue 26 = .ok (.invokevirtual 38, 3) := by decide +kernel
theorem dX5_setValue_29 : decode cX5_setValue 29 = .ok (.aload_n 3, 1) := by decide +kernel
theorem dX5_setValue_30 : decode cX5_setValue 30 = .ok (.getfield 106, 3) := by decide +kernel
theorem dX5_setValue_33 : decode cX5_setValue 33 = .ok (.istore 4, 2) := by decide +kernel
theorem dX5_setValue_35 : decode cX5_setValue 35 = .ok (.aload_n 3, 1) := by decide +kernel
theorem dX5_setValue_36 : decode cX5_setValue 36 = .ok (.iload_n 2, 1) := by decide +kernel
theorem dX5_setValue_37 : decode cX5_setValue 37 = .ok (.putfield 106, 3) := by decide +kernel
theorem dX5_setValue_40 : decode cX5_setValue 40 = .ok (.iload 4, 2) := by decide +kernel
theorem dX5_setValue_42 : decode cX5_setValue 42 = .ok (.ireturn, 1) := by decide +kernel
theorem dX5_send_0 : decode cX5_send 0 = .ok (.iload_n 1, 1) := by decide +kernel
theorem dX5_send_1 : decode cX5_send 1 = .ok (.iconst 1, 1) := by decide +kernel
theorem dX5_send_2 : decode cX5_send 2 = .ok (.if_icmp .lt 13, 3) := by decide +kernel
theorem dX5_send_5 : decode cX5_send 5 = .ok (.iload_n 1, 1) := by decide +kernel
theorem dX5_send_6 : decode cX5_send 6 = .ok (.bipush 16, 2) := by decide +kernel
theorem dX5_send_8 : decode cX5_send 8 = .ok (.if_icmp .gt 7, 3) := by decide +kernel
theorem dX5_send_11 : decode cX5_send 11 = .ok (.iconst 1, 1) := by decide +kernel
theorem dX5_send_12 : decode cX5_send 12 = .ok (.goto 4, 3) := by decide +kernel
theorem dX5_send_15 : decode cX5_send 15 = .ok (.iconst 0, 1) := by decide +kernel
theorem dX5_send_16 : decode cX5_send 16 = .ok (.invokestatic 34, 3) := by decide +kernel
theorem dX5_send_19 : decode cX5_send 19 = .ok (.aload_n 0, 1) := by decide +kernel
theorem dX5_send_20 : decode cX5_send 20 = .ok (.getfield 12, 3) := by decide +kernel
theorem dX5_send_23 : decode cX5_send 23 = .ok (.getfield 41, 3) := by decide +kernel
theorem dX5_send_26 : decode cX5_send 26 = .ok (.getfield 80, 3) := by decide +kernel
theorem dX5_send_29 : decode cX5_send 29 = .ok (.invokestatic 56, 3) := by decide +kernel
theorem dX5_send_32 : decode cX5_send 32 = .ok (.aload_n 0, 1) := by decide +kernel
theorem dX5_send_33 : decode cX5_send 33 = .ok (.getfield 12, 3) := by decide +kernel
theorem dX5_send_36 : decode cX5_send 36 = .ok (.getfield 109, 3) := by decide +kernel
theorem dX5_send_39 : decode cX5_send 39 = .ok (.getfield 113, 3) := by decide +kernel
theorem dX5_send_42 : decode cX5_send 42 = .ok (.iload_n 1, 1) := by decide +kernel
theorem dX5_send_43 : decode cX5_send 43 = .ok (.aload_n 0, 1) := by decide +kernel
theorem dX5_send_44 : decode cX5_send 44 = .ok (.getfield 12, 3) := by decide +kernel
theorem dX5_send_47 : decode cX5_send 47 = .ok (.getfield 41, 3) := by decide +kernel
theorem dX5_send_50 : decode cX5_send 50 = .ok (.getfield 44, 3) := by decide +kernel
theorem dX5_send_53 : decode cX5_send 53 = .ok (.imul, 1) := by decide +kernel
theorem dX5_send_54 : decode cX5_send 54 = .ok (.bipush 8, 2) := by decide +kernel
theorem dX5_send_56 : decode cX5_send 56 = .ok (.imul, 1) := by decide +kernel
theorem dX5_send_57 : decode cX5_send 57 = .ok (.iadd, 1) := by decide +kernel
theorem dX5_send_58 : decode cX5_send 58 = .ok (.sipush 2048, 3) := by decide +kernel
theorem dX5_send_61 : decode cX5_send 61 = .ok (.if_icmp .gt 7, 3) := by decide +kernel
theorem dX5_send_64 : decode cX5_send 64 = .ok (.iconst 1, 1) := by decide +kernel
theorem dX5_send_65 : decode cX5_send 65 = .ok (.goto 4, 3) := by decide +kernel
theorem dX5_send_68 : decode cX5_send 68 = .ok (.iconst 0, 1) := by decide +kernel
theorem dX5_send_69 : decode cX5_send 69 = .ok (.invokestatic 56, 3) := by decide +kernel
theorem dX5_send_72 : decode cX5_send 72 = .ok (.aload_n 0, 1) := by decide +kernel
theorem dX5_send_73 : decode cX5_send 73 = .ok (.invokevirtual 38, 3) := by decide +kernel
theorem dX5_send_76 : decode cX5_send 76 = .ok (.iconst 0, 1) := by decide +kernel
theorem dX5_send_77 : decode cX5_send 77 = .ok (.istore_n 2, 1) := by decide +kernel
theorem dX5_send_78 : decode cX5_send 78 = .ok (.iload_n 2, 1) := by decide +kernel
theorem dX5_send_79 : decode cX5_send 79 = .ok (.iload_n 1, 1) := by decide +kernel
theorem dX5_send_80 : decode cX5_send 80 = .ok (.if_icmp .ge 16, 3) := by decide +kernel
theorem dX5_send_83 : decode cX5_send 83 = .ok (.aload_n 0, 1) := by decide +kernel
theorem dX5_send_84 : decode cX5_send 84 = .ok (.getfield 12, 3) := by decide +kernel
theorem dX5_send_87 : decode cX5_send 87 = .ok (.invokevirtual 118, 3) := by decide +kernel
theorem dX5_send_90 : decode cX5_send 90 = .ok (.iinc 2 1, 3) := by decide +kernel
theorem dX5_send_93 : decode cX5_send 93 = .ok (.goto (-15), 3) := by decide +kernel
theorem dX5_send_96 : decode cX5_send 96 = .ok (.aload_n 0, 1) := by decide +kernel
theorem dX5_send_97 : decode cX5_send 97 = .ok (.getfield 12, 3) := by decide +kernel
theorem dX5_send_100 : decode cX5_send 100 = .ok (.getfield 109, 3) := by decide +kernel
theorem dX5_send_103 : decode cX5_send 103 = .ok (.getfield 113, 3) := by decide +kernel
theorem dX5_send_106 : decode cX5_send 106 = .ok (.ireturn, 1) := by decide +kernel
theorem dX5_pending_0 : decode cX5_pending 0 = .ok (.aload_n 0, 1) := by decide +kernel
theorem dX5_pending_1 : decode cX5_pending 1 = .ok (.getfield 12, 3) := by decide +kernel
theorem dX5_pending_4 : decode cX5_pending 4 = .ok (.getfield 109, 3) := by decide +kernel
theorem dX5_pending_7 : decode cX5_pending 7 = .ok (.getfield 113, 3) := by decide +kernel
theorem dX5_pending_10 : decode cX5_pending 10 = .ok (.ireturn, 1) := by decide +kernel
theorem dX5_bit_0 : decode cX5_bit 0 = .ok (.iload_n 1, 1) := by decide +kernel
theorem dX5_bit_1 : decode cX5_bit 1 = .ok (.aload_n 0, 1) := by decide +kernel
theorem dX5_bit_2 : decode cX5_bit 2 = .ok (.getfield 12, 3) := by decide +kernel
theorem dX5_bit_5 : decode cX5_bit 5 = .ok (.getfield 109, 3) := by decide +kernel
theorem dX5_bit_8 : decode cX5_bit 8 = .ok (.getfield 113, 3) := by decide +kernel
theorem dX5_bit_11 : decode cX5_bit 11 = .ok (.invokestatic 95, 3) := by decide +kernel
theorem dX5_bit_14 : decode cX5_bit 14 = .ok (.aload_n 0, 1) := by decide +kernel
theorem dX5_bit_15 : decode cX5_bit 15 = .ok (.getfield 12, 3) := by decide +kernel
theorem dX5_bit_18 : decode cX5_bit 18 = .ok (.getfield 109, 3) := by decide +kernel
theorem dX5_bit_21 : decode cX5_bit 21 = .ok (.getfield 121, 3) := by decide +kernel
theorem dX5_bit_24 : decode cX5_bit 24 = .ok (.iload_n 1, 1) := by decide +kernel
theorem dX5_bit_25 : decode cX5_bit 25 = .ok (.iaload, 1) := by decide +kernel
theorem dX5_bit_26 : decode cX5_bit 26 = .ok (.ireturn, 1) := by decide +kernel
theorem dX5_disturb_0 : decode cX5_disturb 0 = .ok (.iload_n 1, 1) := by decide +kernel
theorem dX5_disturb_1 : decode cX5_disturb 1 = .ok (.ifCond .lt 12, 3) := by decide +kernel
theorem dX5_disturb_4 : decode cX5_disturb 4 = .ok (.iload_n 1, 1) := by decide +kernel
theorem dX5_disturb_5 : decode cX5_disturb 5 = .ok (.iconst 3, 1) := by decide +kernel
theorem dX5_disturb_6 : decode cX5_disturb 6 = .ok (.if_icmp .gt 7, 3) := by decide +kernel
theorem dX5_disturb_9 : decode cX5_disturb 9 = .ok (.iconst 1, 1) := by decide +kernel
theorem dX5_disturb_10 : decode cX5_disturb 10 = .ok (.goto 4, 3) := by decide +kernel
theorem dX5_disturb_13 : decode cX5_disturb 13 = .ok (.iconst 0, 1) := by decide +kernel
theorem dX5_disturb_14 : decode cX5_disturb 14 = .ok (.invokestatic 34, 3) := by decide +kernel
theorem dX5_disturb_17 : decode cX5_disturb 17 = .ok (.iload_n 2, 1) := by decide +kernel
theorem dX5_disturb_18 : decode cX5_disturb 18 = .ok (.aload_n 0, 1) := by decide +kernel
theorem dX5_disturb_19 : decode cX5_disturb 19 = .ok (.getfield 12, 3) := by decide +kernel
theorem dX5_disturb_22 : decode cX5_disturb 22 = .ok (.getfield 109, 3) := by decide +kernel
theorem dX5_disturb_25 : decode cX5_disturb 25 = .ok (.getfield 113, 3) := by decide +kernel
theorem dX5_disturb_28 : decode cX5_disturb 28 = .ok (.invokestatic 95, 3) := by decide +kernel
theorem dX5_disturb_31 : decode cX5_disturb 31 = .ok (.iload_n 1, 1) := by decide +kernel
theorem dX5_disturb_32 : decode cX5_disturb 32 = .ok (.iconst 2, 1) := by decide +kernel
theorem dX5_disturb_33 : decode cX5_disturb 33 = .ok (.if_icmp .eq 8, 3) := by decide +kernel
theorem dX5_disturb_36 : decode cX5_disturb 36 = .ok (.iload_n 1, 1) := by decide +kernel
theorem dX5_disturb_37 : decode cX5_disturb 37 = .ok (.iconst 3, 1) := by decide +kernel
theorem dX5_disturb_38 : decode cX5_disturb 38 = .ok (.if_icmp .ne 7, 3) := by decide +kernel
theorem dX5_disturb_41 : decode cX5_disturb 41 = .ok (.iconst 1, 1) := by decide +kernel
theorem dX5_disturb_42 : decode cX5_disturb 42 = .ok (.goto 4, 3) := by decide +kernel
theorem dX5_disturb_45 : decode cX5_disturb 45 = .ok (.iconst 0, 1) := by decide +kernel
theorem dX5_disturb_46 : decode cX5_disturb 46 = .ok (.istore_n 3, 1) := by decide +kernel
theorem dX5_disturb_47 : decode cX5_disturb 47 = .ok (.iload_n 3, 1) := by decide +kernel
theorem dX5_disturb_48 : decode cX5_disturb 48 = .ok (.ifCond .eq 19, 3) := by decide +kernel
theorem dX5_disturb_51 : decode cX5_disturb 51 = .ok (.aload_n 0, 1) := by decide +kernel
theorem dX5_disturb_52 : decode cX5_disturb 52 = .ok (.getfield 12, 3) := by decide +kernel
theorem dX5_disturb_55 : decode cX5_disturb 55 = .ok (.getfield 109, 3) := by decide +kernel
theorem dX5_disturb_58 : decode cX5_disturb 58 = .ok (.getfield 113, 3) := by decide +kernel
theorem dX5_disturb_61 : decode cX5_disturb 61 = .ok (.sipush 2048, 3) := by decide +kernel
theorem dX5_disturb_64 : decode cX5_disturb 64 = .ok (.if_icmp .ge 7, 3) := by decide +kernel
theorem dX5_disturb_67 : decode cX5_disturb 67 = .ok (.iconst 1, 1) := by decide +kernel
theorem dX5_disturb_68 : decode cX5_disturb 68 = .ok (.goto 4, 3) := by decide +kernel
theorem dX5_disturb_71 : decode cX5_disturb 71 = .ok (.iconst 0, 1) := by decide +kernel
theorem dX5_disturb_72 : decode cX5_disturb 72 = .ok (.invokestatic 56, 3) := by decide +kernel
theorem dX5_disturb_75 : decode cX5_disturb 75 = .ok (.aload_n 0, 1) := by decide +kernel
theorem dX5_disturb_76 : decode cX5_disturb 76 = .ok (.invokevirtual 38, 3) := by decide +kernel
theorem dX5_disturb_79 : decode cX5_disturb 79 = .ok (.iload_n 1, 1) := by decide +kernel
theorem dX5_disturb_80 : decode cX5_disturb 80 = .ok (.ifCond .ne 17, 3) := by decide +kernel
theorem dX5_disturb_83 : decode cX5_disturb 83 = .ok (.aload_n 0, 1) := by decide +kernel
theorem dX5_disturb_84 : decode cX5_disturb 84 = .ok (.getfield 12, 3) := by decide +kernel
theorem dX5_disturb_87 : decode cX5_disturb 87 = .ok (.getfield 109, 3) := by decide +kernel
theorem dX5_disturb_90 : decode cX5_disturb 90 = .ok (.iload_n 2, 1) := by decide +kernel
theorem dX5_disturb_91 : decode cX5_disturb 91 = .ok (.invokevirtual 125, 3) := by decide +kernel
theorem dX5_disturb_94 : decode cX5_disturb 94 = .ok (.goto 43, 3) := by decide +kernel
theorem dX5_disturb_97 : decode cX5_disturb 97 = .ok (.iload_n 1, 1) := by decide +kernel
theorem dX5_disturb_98 : decode cX5_disturb 98 = .ok (.iconst 1, 1) := by decide +kernel
theorem dX5_disturb_99 : decode cX5_disturb 99 = .ok (.if_icmp .ne 17, 3) := by decide +kernel
theorem dX5_disturb_102 : decode cX5_disturb 102 = .ok (.aload_n 0, 1) := by decide +kernel
theorem dX5_disturb_103 : decode cX5_disturb 103 = .ok (.getfield 12, 3) := by decide +kernel
theorem dX5_disturb_106 : decode cX5_disturb 106 = .ok (.getfield 109, 3) := by decide +kernel
theorem dX5_disturb_109 : decode cX5_disturb 109 = .ok (.iload_n 2, 1) := by decide +kernel
theorem dX5_disturb_110 : decode cX5_disturb 110 = .ok (.invokevirtual 128, 3) := by decide +kernel
theorem dX5_disturb_113 : decode cX5_disturb 113 = .ok (.goto 24, 3) := by decide +kernel
theorem dX5_disturb_116 : decode cX5_disturb 116 = .ok (.aload_n 0, 1) := by decide +kernel
theorem dX5_disturb_117 : decode cX5_disturb 117 = .ok (.getfield 12, 3) := by decide +kernel
theorem dX5_disturb_120 : decode cX5_disturb 120 = .ok (.getfield 109, 3) := by decide +kernel
theorem dX5_disturb_123 : decode cX5_disturb 123 = .ok (.iload_n 2, 1) := by decide +kernel
theorem dX5_disturb_124 : decode cX5_disturb 124 = .ok (.iload_n 1, 1) := by decide +kernel
theorem dX5_disturb_125 : decode cX5_disturb 125 = .ok (.iconst 3, 1) := by decide +kernel
theorem dX5_disturb_126 : decode cX5_disturb 126 = .ok (.if_icmp .ne 7, 3) := by decide +kernel
theorem dX5_disturb_129 : decode cX5_disturb 129 = .ok (.iconst 1, 1) := by decide +kernel
theorem dX5_disturb_130 : decode cX5_disturb 130 = .ok (.goto 4, 3) := by decide +kernel
theorem dX5_disturb_133 : decode cX5_disturb 133 = .ok (.iconst 0, 1) := by decide +kernel
theorem dX5_disturb_134 : decode cX5_disturb 134 = .ok (.invokevirtual 131, 3) := by decide +kernel
theorem dX5_disturb_137 : decode cX5_disturb 137 = .ok (.aload_n 0, 1) := by decide +kernel
theorem dX5_disturb_138 : decode cX5_disturb 138 = .ok (.getfield 12, 3) := by decide +kernel
theorem dX5_disturb_141 : decode cX5_disturb 141 = .ok (.getfield 109, 3) := by decide +kernel
theorem dX5_disturb_144 : decode cX5_disturb 144 = .ok (.getfield 113, 3) := by decide +kernel
theorem dX5_disturb_147 : decode cX5_disturb 147 = .ok (.ireturn, 1) := by decide +kernel
theorem dX5_receive_0 : decode cX5_receive 0 = .ok (.iload_n 1, 1) := by decide +kernel
theorem dX5_receive_1 : decode cX5_receive 1 = .ok (.iconst 1, 1) := by decide +kernel
theorem dX5_receive_2 : decode cX5_receive 2 = .ok (.if_icmp .lt 14, 3) := by decide +kernel
theorem dX5_receive_5 : decode cX5_receive 5 = .ok (.iload_n 1, 1) := by decide +kernel
theorem dX5_receive_6 : decode cX5_receive 6 = .ok (.sipush 2048, 3) := by decide +kernel
theorem dX5_receive_9 : decode cX5_receive 9 = .ok (.if_icmp .gt 7, 3) := by decide +kernel
theorem dX5_receive_12 : decode cX5_receive 12 = .ok (.iconst 1, 1) := by decide +kernel
theorem dX5_receive_13 : decode cX5_receive 13 = .ok (.goto 4, 3) := by decide +kernel
theorem dX5_receive_16 : decode cX5_receive 16 = .ok (.iconst 0, 1) := by decide +kernel
theorem dX5_receive_17 : decode cX5_receive 17 = .ok (.invokestatic 34, 3) := by decide +kernel
theorem dX5_receive_20 : decode cX5_receive 20 = .ok (.aload_n 0, 1) := by decide +kernel
theorem dX5_receive_21 : decode cX5_receive 21 = .ok (.getfield 12, 3) := by decide +kernel
theorem dX5_receive_24 : decode cX5_receive 24 = .ok (.getfield 41, 3) := by decide +kernel
theorem dX5_receive_27 : decode cX5_receive 27 = .ok (.getfield 80, 3) := by decide +kernel
theorem dX5_receive_30 : decode cX5_receive 30 = .ok (.invokestatic 56, 3) := by decide +kernel
theorem dX5_receive_33 : decode cX5_receive 33 = .ok (.iload_n 1, 1) := by decide +kernel
theorem dX5_receive_34 : decode cX5_receive 34 = .ok (.aload_n 0, 1) := by decide +kernel
theorem dX5_receive_35 : decode cX5_receive 35 = .ok (.getfield 12, 3) := by decide +kernel
theorem dX5_receive_38 : decode cX5_receive 38 = .ok (.getfield 109, 3) := by decide +kernel
theorem dX5_receive_41 : decode cX5_receive 41 = .ok (.getfield 113, 3) := by decide +kernel
theorem dX5_receive_44 : decode cX5_receive 44 = .ok (.if_icmp .gt 7, 3) := by decide +kernel
theorem dX5_receive_47 : decode cX5_receive 47 = .ok (.iconst 1, 1) := by decide +kernel
theorem dX5_receive_48 : decode cX5_receive 48 = .ok (.goto 4, 3) := by decide +kernel
theorem dX5_receive_51 : decode cX5_receive 51 = .ok (.iconst 0, 1) := by decide +kernel
theorem dX5_receive_52 : decode cX5_receive 52 = .ok (.invokestatic 56, 3) := by decide +kernel
theorem dX5_receive_55 : decode cX5_receive 55 = .ok (.aload_n 0, 1) := by decide +kernel
theorem dX5_receive_56 : decode cX5_receive 56 = .ok (.invokevirtual 38, 3) := by decide +kernel
theorem dX5_receive_59 : decode cX5_receive 59 = .ok (.aload_n 0, 1) := by decide +kernel
theorem dX5_receive_60 : decode cX5_receive 60 = .ok (.getfield 12, 3) := by decide +kernel
theorem dX5_receive_63 : decode cX5_receive 63 = .ok (.getfield 134, 3) := by decide +kernel
theorem dX5_receive_66 : decode cX5_receive 66 = .ok (.getfield 138, 3) := by decide +kernel
theorem dX5_receive_69 : decode cX5_receive 69 = .ok (.iconst 0, 1) := by decide +kernel
theorem dX5_receive_70 : decode cX5_receive 70 = .ok (.iaload, 1) := by decide +kernel
theorem dX5_receive_71 : decode cX5_receive 71 = .ok (.istore_n 2, 1) := by decide +kernel
theorem dX5_receive_72 : decode cX5_receive 72 = .ok (.aload_n 0, 1) := by decide +kernel
theorem dX5_receive_73 : decode cX5_receive 73 = .ok (.getfield 12, 3) := by decide +kernel
theorem dX5_receive_76 : decode cX5_receive 76 = .ok (.iload_n 1, 1) := by decide +kernel
theorem dX5_receive_77 : decode cX5_receive 77 = .ok (.invokevirtual 143, 3) := by decide +kernel
theorem dX5_receive_80 : decode cX5_receive 80 = .ok (.aload_n 0, 1) := by decide +kernel
theorem dX5_receive_81 : decode cX5_receive 81 = .ok (.getfield 12, 3) := by decide +kernel
theorem dX5_receive_84 : decode cX5_receive 84 = .ok (.getfield 134, 3) := by decide +kernel
theorem dX5_receive_87 : decode cX5_receive 87 = .ok (.getfield 138, 3) := by decide +kernel
theorem dX5_receive_90 : decode cX5_receive 90 = .ok (.iconst 0, 1) := by decide +kernel
theorem dX5_receive_91 : decode cX5_receive 91 = .ok (.iaload, 1) := by decide +kernel
theorem dX5_receive_92 : decode cX5_receive 92 = .ok (.iload_n 2, 1) := by decide +kernel
theorem dX5_receive_93 : decode cX5_receive 93 = .ok (.isub, 1) := by decide +kernel
theorem dX5_receive_94 : decode cX5_receive 94 = .ok (.ireturn, 1) := by decide +kernel
theorem dX5_receiverState_0 : decode cX5_receiverState 0 = .ok (.aload_n 0, 1) := by decide +kernel
theorem dX5_receiverState_1 : decode cX5_receiverState 1 = .ok (.getfield 12, 3) := by decide +kernel
theorem dX5_receiverState_4 : decode cX5_receiverState 4 = .ok (.getfield 134, 3) := by decide +kernel
theorem dX5_receiverState_7 : decode cX5_receiverState 7 = .ok (.getfield 146, 3) := by decide +kernel
theorem dX5_receiverState_10 : decode cX5_receiverState 10 = .ok (.ireturn, 1) := by decide +kernel
theorem dX5_received_0 : decode cX5_received 0 = .ok (.iload_n 1, 1) := by decide +kernel
theorem dX5_received_1 : decode cX5_received 1 = .ok (.ifCond .lt 13, 3) := by decide +kernel
theorem dX5_received_4 : decode cX5_received 4 = .ok (.iload_n 1, 1) := by decide +kernel
theorem dX5_received_5 : decode cX5_received 5 = .ok (.bipush 6, 2) := by decide +kernel
theorem dX5_received_7 : decode cX5_received 7 = .ok (.if_icmp .ge 7, 3) := by decide +kernel
theorem dX5_received_10 : decode cX5_received 10 = .ok (.iconst 1, 1) := by decide +kernel
theorem dX5_received_11 : decode cX5_received 11 = .ok (.goto 4, 3) := by decide +kernel
theorem dX5_received_14 : decode cX5_received 14 = .ok (.iconst 0, 1) := by decide +kernel
theorem dX5_received_15 : decode cX5_received 15 = .ok (.invokestatic 34, 3) := by decide +kernel
theorem dX5_received_18 : decode cX5_received 18 = .ok (.aload_n 0, 1) := by decide +kernel
theorem dX5_received_19 : decode cX5_received 19 = .ok (.getfield 12, 3) := by decide +kernel
theorem dX5_received_22 : decode cX5_received 22 = .ok (.getfield 134, 3) := by decide +kernel
theorem dX5_received_25 : decode cX5_received 25 = .ok (.getfield 138, 3) := by decide +kernel
theorem dX5_received_28 : decode cX5_received 28 = .ok (.iload_n 1, 1) := by decide +kernel
theorem dX5_received_29 : decode cX5_received 29 = .ok (.iaload, 1) := by decide +kernel
theorem dX5_received_30 : decode cX5_received 30 = .ok (.ireturn, 1) := by decide +kernel
theorem dX5_sample_0 : decode cX5_sample 0 = .ok (.aload_n 0, 1) := by decide +kernel
theorem dX5_sample_1 : decode cX5_sample 1 = .ok (.iload_n 1, 1) := by decide +kernel
theorem dX5_sample_2 : decode cX5_sample 2 = .ok (.invokevirtual 87, 3) := by decide +kernel
theorem dX5_sample_5 : decode cX5_sample 5 = .ok (.getfield 149, 3) := by decide +kernel
theorem dX5_sample_8 : decode cX5_sample 8 = .ok (.ireturn, 1) := by decide +kernel
theorem dX5_samples_0 : decode cX5_samples 0 = .ok (.aload_n 0, 1) := by decide +kernel
theorem dX5_samples_1 : decode cX5_samples 1 = .ok (.iload_n 1, 1) := by decide +kernel
theorem dX5_samples_2 : decode cX5_samples 2 = .ok (.invokevirtual 87, 3) := by decide +kernel
theorem dX5_samples_5 : decode cX5_samples 5 = .ok (.getfield 152, 3) := by decide +kernel
theorem dX5_samples_8 : decode cX5_samples 8 = .ok (.ireturn, 1) := by decide +kernel
theorem dX5_setMode_0 : decode cX5_setMode 0 = .ok (.iload_n 1, 1) := by decide +kernel
theorem dX5_setMode_1 : decode cX5_setMode 1 = .ok (.ifCond .lt 12, 3) := by decide +kernel
theorem dX5_setMode_4 : decode cX5_setMode 4 = .ok (.iload_n 1, 1) := by decide +kernel
theorem dX5_setMode_5 : decode cX5_setMode 5 = .ok (.iconst 3, 1) := by decide +kernel
theorem dX5_setMode_6 : decode cX5_setMode 6 = .ok (.if_icmp .ge 7, 3) := by decide +kernel
theorem dX5_setMode_9 : decode cX5_setMode 9 = .ok (.iconst 1, 1) := by decide +kernel
theorem dX5_setMode_10 : decode cX5_setMode 10 = .ok (.goto 4, 3) := by decide +kernel
theorem dX5_setMode_13 : decode cX5_setMode 13 = .ok (.iconst 0, 1) := by decide +kernel
theorem dX5_setMode_14 : decode cX5_setMode 14 = .ok (.invokestatic 34, 3) := by decide +kernel
theorem dX5_setMode_17 : decode cX5_setMode 17 = .ok (.aload_n 0, 1) := by decide +kernel
theorem dX5_setMode_18 : decode cX5_setMode 18 = .ok (.invokevirtual 38, 3) := by decide +kernel
theorem dX5_setMode_21 : decode cX5_setMode 21 = .ok (.aload_n 0, 1) := by decide +kernel
theorem dX5_setMode_22 : decode cX5_setMode 22 = .ok (.getfield 12, 3) := by decide +kernel
theorem dX5_setMode_25 : decode cX5_setMode 25 = .ok (.getfield 155, 3) := by decide +kernel
theorem dX5_setMode_28 : decode cX5_setMode 28 = .ok (.istore_n 2, 1) := by decide +kernel
theorem dX5_setMode_29 : decode cX5_setMode 29 = .ok (.aload_n 0, 1) := by decide +kernel
theorem dX5_setMode_30 : decode cX5_setMode 30 = .ok (.getfield 12, 3) := by decide +kernel
theorem dX5_setMode_33 : decode cX5_setMode 33 = .ok (.iload_n 1, 1) := by decide +kernel
theorem dX5_setMode_34 : decode cX5_setMode 34 = .ok (.putfield 155, 3) := by decide +kernel
theorem dX5_setMode_37 : decode cX5_setMode 37 = .ok (.iload_n 2, 1) := by decide +kernel
theorem dX5_setMode_38 : decode cX5_setMode 38 = .ok (.ireturn, 1) := by decide +kernel
theorem dX5_setLimits_0 : decode cX5_setLimits 0 = .ok (.aload_n 0, 1) := by decide +kernel
theorem dX5_setLimits_1 : decode cX5_setLimits 1 = .ok (.iload_n 1, 1) := by decide +kernel
theorem dX5_setLimits_2 : decode cX5_setLimits 2 = .ok (.invokevirtual 87, 3) := by decide +kernel
theorem dX5_setLimits_5 : decode cX5_setLimits 5 = .ok (.astore 5, 2) := by decide +kernel
theorem dX5_setLimits_7 : decode cX5_setLimits 7 = .ok (.iload_n 2, 1) := by decide +kernel
theorem dX5_setLimits_8 : decode cX5_setLimits 8 = .ok (.ifCond .lt 12, 3) := by decide +kernel
theorem dX5_setLimits_11 : decode cX5_setLimits 11 = .ok (.iload_n 2, 1) := by decide +kernel
theorem dX5_setLimits_12 : decode cX5_setLimits 12 = .ok (.iconst 3, 1) := by decide +kernel
theorem dX5_setLimits_13 : decode cX5_setLimits 13 = .ok (.if_icmp .ge 7, 3) := by decide +kernel
theorem dX5_setLimits_16 : decode cX5_setLimits 16 = .ok (.iconst 1, 1) := by decide +kernel
theorem dX5_setLimits_17 : decode cX5_setLimits 17 = .ok (.goto 4, 3) := by decide +kernel
theorem dX5_setLimits_20 : decode cX5_setLimits 20 = .ok (.iconst 0, 1) := by decide +kernel
theorem dX5_setLimits_21 : decode cX5_setLimits 21 = .ok (.invokestatic 34, 3) := by decide +kernel
theorem dX5_setLimits_24 : decode cX5_setLimits 24 = .ok (.iload_n 3, 1) := by decide +kernel
theorem dX5_setLimits_25 : decode cX5_setLimits 25 = .ok (.ifCond .lt 21, 3) := by decide +kernel
theorem dX5_setLimits_28 : decode cX5_setLimits 28 = .ok (.iload_n 3, 1) := by decide +kernel
theorem dX5_setLimits_29 : decode cX5_setLimits 29 = .ok (.iload 4, 2) := by decide +kernel
theorem dX5_setLimits_31 : decode cX5_setLimits 31 = .ok (.if_icmp .gt 15, 3) := by decide +kernel
theorem dX5_setLimits_34 : decode cX5_setLimits 34 = .ok (.iload 4, 2) := by decide +kernel
theorem dX5_setLimits_36 : decode cX5_setLimits 36 = .ok (.sipush 255, 3) := by decide +kernel
theorem dX5_setLimits_39 : decode cX5_setLimits 39 = .ok (.if_icmp .gt 7, 3) := by decide +kernel
theorem dX5_setLimits_42 : decode cX5_setLimits 42 = .ok (.iconst 1, 1) := by decide +kernel
theorem dX5_setLimits_43 : decode cX5_setLimits 43 = .ok (.goto 4, 3) := by decide +kernel
theorem dX5_setLimits_46 : decode cX5_setLimits 46 = .ok (.iconst 0, 1) := by decide +kernel
theorem dX5_setLimits_47 : decode cX5_setLimits 47 = .ok (.invokestatic 34, 3) := by decide +kernel
theorem dX5_setLimits_50 : decode cX5_setLimits 50 = .ok (.aload_n 0, 1) := by decide +kernel
theorem dX5_setLimits_51 : decode cX5_setLimits 51 = .ok (.invokevirtual 38, 3) := by decide +kernel
theorem dX5_setLimits_54 : decode cX5_setLimits 54 = .ok (.sipush 1000, 3) := by decide +kernel
theorem dX5_setLimits_57 : decode cX5_setLimits 57 = .ok (.aload 5, 2) := by decide +kernel
theorem dX5_setLimits_59 : decode cX5_setLimits 59 = .ok (.getfield 158, 3) := by decide +kernel
theorem dX5_setLimits_62 : decode cX5_setLimits 62 = .ok (.iload_n 2, 1) := by decide +kernel
theorem dX5_setLimits_63 : decode cX5_setLimits 63 = .ok (.iaload, 1) := by decide +kernel
theorem dX5_setLimits_64 : decode cX5_setLimits 64 = .ok (.imul, 1) := by decide +kernel
theorem dX5_setLimits_65 : decode cX5_setLimits 65 = .ok (.aload 5, 2) := by decide +kernel
theorem dX5_setLimits_67 : decode cX5_setLimits 67 = .ok (.getfield 161, 3) := by decide +kernel
theorem dX5_setLimits_70 : decode cX5_setLimits 70 = .ok (.iload_n 2, 1) := by decide +kernel
theorem dX5_setLimits_71 : decode cX5_setLimits 71 = .ok (.iaload, 1) := by decide +kernel
theorem dX5_setLimits_72 : decode cX5_setLimits 72 = .ok (.iadd, 1) := by decide +kernel
theorem dX5_setLimits_73 : decode cX5_setLimits 73 = .ok (.istore 6, 2) := by decide +kernel
theorem dX5_setLimits_75 : decode cX5_setLimits 75 = .ok (.aload 5, 2) := by decide +kernel
theorem dX5_setLimits_77 : decode cX5_setLimits 77 = .ok (.getfield 158, 3) := by decide +kernel
theorem dX5_setLimits_80 : decode cX5_setLimits 80 = .ok (.iload_n 2, 1) := by decide +kernel
theorem dX5_setLimits_81 : decode cX5_setLimits 81 = .ok (.iload_n 3, 1) := by decide +kernel
theorem dX5_setLimits_82 : decode cX5_setLimits 82 = .ok (.iastore, 1) := by decide +kernel
theorem dX5_setLimits_83 : decode cX5_setLimits 83 = .ok (.aload 5, 2) := by decide +kernel
theorem dX5_setLimits_85 : decode cX5_setLimits 85 = .ok (.getfield 161, 3) := by decide +kernel
theorem dX5_setLimits_88 : decode cX5_setLimits 88 = .ok (.iload_n 2, 1) := by decide +kernel
theorem dX5_setLimits_89 : decode cX5_setLimits 89 = .ok (.iload 4, 2) := by decide +kernel
theorem dX5_setLimits_91 : decode cX5_setLimits 91 = .ok (.iastore, 1) := by decide +kernel
theorem dX5_setLimits_92 : decode cX5_setLimits 92 = .ok (.iload 6, 2) := by decide +kernel
theorem dX5_setLimits_94 : decode cX5_setLimits 94 = .ok (.ireturn, 1) := by decide +kernel
theorem dX5_setPersistence_0 : decode cX5_setPersistence 0 = .ok (.aload_n 0, 1) := by decide +kernel
theorem dX5_setPersistence_1 : decode cX5_setPersistence 1 = .ok (.iload_n 1, 1) := by decide +kernel
theorem dX5_setPersistence_2 : decode cX5_setPersistence 2 = .ok (.invokevirtual 87, 3) := by decide +kernel
theorem dX5_setPersistence_5 : decode cX5_setPersistence 5 = .ok (.astore_n 3, 1) := by decide +kernel
theorem dX5_setPersistence_6 : decode cX5_setPersistence 6 = .ok (.iload_n 2, 1) := by decide +kernel
theorem dX5_setPersistence_7 : decode cX5_setPersistence 7 = .ok (.iconst 1, 1) := by decide +kernel
theorem dX5_setPersistence_8 : decode cX5_setPersistence 8 = .ok (.if_icmp .lt 12, 3) := by decide +kernel
theorem dX5_setPersistence_11 : decode cX5_setPersistence 11 = .ok (.iload_n 2, 1) := by decide +kernel
theorem dX5_setPersistence_12 : decode cX5_setPersistence 12 = .ok (.iconst 5, 1) := by decide +kernel
theorem dX5_setPersistence_13 : decode cX5_setPersistence 13 = .ok (.if_icmp .gt 7, 3) := by decide +kernel
theorem dX5_setPersistence_16 : decode cX5_setPersistence 16 = .ok (.iconst 1, 1) := by decide +kernel
theorem dX5_setPersistence_17 : decode cX5_setPersistence 17 = .ok (.goto 4, 3) := by decide +kernel
theorem dX5_setPersistence_20 : decode cX5_setPersistence 20 = .ok (.iconst 0, 1) := by decide +kernel
theorem dX5_setPersistence_21 : decode cX5_setPersistence 21 = .ok (.invokestatic 34, 3) := by decide +kernel
theorem dX5_setPersistence_24 : decode cX5_setPersistence 24 = .ok (.aload_n 0, 1) := by decide +kernel
theorem dX5_setPersistence_25 : decode cX5_setPersistence 25 = .ok (.invokevirtual 38, 3) := by decide +kernel
theorem dX5_setPersistence_28 : decode cX5_setPersistence 28 = .ok (.aload_n 3, 1) := by decide +kernel
theorem dX5_setPersistence_29 : decode cX5_setPersistence 29 = .ok (.getfield 164, 3) := by decide +kernel
theorem dX5_setPersistence_32 : decode cX5_setPersistence 32 = .ok (.istore 4, 2) := by decide +kernel
theorem dX5_setPersistence_34 : decode cX5_setPersistence 34 = .ok (.aload_n 3, 1) := by decide +kernel
theorem dX5_setPersistence_35 : decode cX5_setPersistence 35 = .ok (.iload_n 2, 1) := by decide +kernel
theorem dX5_setPersistence_36 : decode cX5_setPersistence 36 = .ok (.putfield 164, 3) := by decide +kernel
theorem dX5_setPersistence_39 : decode cX5_setPersistence 39 = .ok (.iload 4, 2) := by decide +kernel
theorem dX5_setPersistence_41 : decode cX5_setPersistence 41 = .ok (.ireturn, 1) := by decide +kernel
theorem dX5_hasAlarm_0 : decode cX5_hasAlarm 0 = .ok (.aload_n 0, 1) := by decide +kernel
theorem dX5_hasAlarm_1 : decode cX5_hasAlarm 1 = .ok (.iload_n 1, 1) := by decide +kernel
theorem dX5_hasAlarm_2 : decode cX5_hasAlarm 2 = .ok (.invokevirtual 87, 3) := by decide +kernel
theorem dX5_hasAlarm_5 : decode cX5_hasAlarm 5 = .ok (.getfield 167, 3) := by decide +kernel
theorem dX5_hasAlarm_8 : decode cX5_hasAlarm 8 = .ok (.ireturn, 1) := by decide +kernel
theorem dX5_alarms_0 : decode cX5_alarms 0 = .ok (.aload_n 0, 1) := by decide +kernel
theorem dX5_alarms_1 : decode cX5_alarms 1 = .ok (.iload_n 1, 1) := by decide +kernel
theorem dX5_alarms_2 : decode cX5_alarms 2 = .ok (.invokevirtual 87, 3) := by decide +kernel
theorem dX5_alarms_5 : decode cX5_alarms 5 = .ok (.getfield 170, 3) := by decide +kernel
theorem dX5_alarms_8 : decode cX5_alarms 8 = .ok (.ireturn, 1) := by decide +kernel
theorem dX5_undo_0 : decode cX5_undo 0 = .ok (.aload_n 0, 1) := by decide +kernel
theorem dX5_undo_1 : decode cX5_undo 1 = .ok (.getfield 20, 3) := by decide +kernel
theorem dX5_undo_4 : decode cX5_undo 4 = .ok (.ifCond .le 7, 3) := by decide +kernel
theorem dX5_undo_7 : decode cX5_undo 7 = .ok (.iconst 1, 1) := by decide +kernel
theorem dX5_undo_8 : decode cX5_undo 8 = .ok (.goto 4, 3) := by decide +kernel
theorem dX5_undo_11 : decode cX5_undo 11 = .ok (.iconst 0, 1) := by decide +kernel
theorem dX5_undo_12 : decode cX5_undo 12 = .ok (.invokestatic 56, 3) := by decide +kernel
theorem dX5_undo_15 : decode cX5_undo 15 = .ok (.aload_n 0, 1) := by decide +kernel
theorem dX5_undo_16 : decode cX5_undo 16 = .ok (.getfield 12, 3) := by decide +kernel
theorem dX5_undo_19 : decode cX5_undo 19 = .ok (.astore_n 1, 1) := by decide +kernel
theorem dX5_undo_20 : decode cX5_undo 20 = .ok (.aload_n 0, 1) := by decide +kernel
theorem dX5_undo_21 : decode cX5_undo 21 = .ok (.aload_n 0, 1) := by decide +kernel
theorem dX5_undo_22 : decode cX5_undo 22 = .ok (.getfield 16, 3) := by decide +kernel
theorem dX5_undo_25 : decode cX5_undo 25 = .ok (.aload_n 0, 1) := by decide +kernel
theorem dX5_undo_26 : decode cX5_undo 26 = .ok (.getfield 24, 3) := by decide +kernel
theorem dX5_undo_29 : decode cX5_undo 29 = .ok (.aaload, 1) := by decide +kernel
theorem dX5_undo_30 : decode cX5_undo 30 = .ok (.putfield 12, 3) := by decide +kernel
theorem dX5_undo_33 : decode cX5_undo 33 = .ok (.aload_n 0, 1) := by decide +kernel
theorem dX5_undo_34 : decode cX5_undo 34 = .ok (.getfield 16, 3) := by decide +kernel
theorem dX5_undo_37 : decode cX5_undo 37 = .ok (.aload_n 0, 1) := by decide +kernel
theorem dX5_undo_38 : decode cX5_undo 38 = .ok (.getfield 24, 3) := by decide +kernel
theorem dX5_undo_41 : decode cX5_undo 41 = .ok (.aload_n 1, 1) := by decide +kernel
theorem dX5_undo_42 : decode cX5_undo 42 = .ok (.aastore, 1) := by decide +kernel
theorem dX5_undo_43 : decode cX5_undo 43 = .ok (.aload_n 0, 1) := by decide +kernel
theorem dX5_undo_44 : decode cX5_undo 44 = .ok (.aload_n 0, 1) := by decide +kernel
theorem dX5_undo_45 : decode cX5_undo 45 = .ok (.getfield 24, 3) := by decide +kernel
theorem dX5_undo_48 : decode cX5_undo 48 = .ok (.iconst 4, 1) := by decide +kernel
theorem dX5_undo_49 : decode cX5_undo 49 = .ok (.iadd, 1) := by decide +kernel
theorem dX5_undo_50 : decode cX5_undo 50 = .ok (.iconst 1, 1) := by decide +kernel
theorem dX5_undo_51 : decode cX5_undo 51 = .ok (.isub, 1) := by decide +kernel
theorem dX5_undo_52 : decode cX5_undo 52 = .ok (.iconst 4, 1) := by decide +kernel
theorem dX5_undo_53 : decode cX5_undo 53 = .ok (.irem, 1) := by decide +kernel
theorem dX5_undo_54 : decode cX5_undo 54 = .ok (.putfield 24, 3) := by decide +kernel
theorem dX5_undo_57 : decode cX5_undo 57 = .ok (.aload_n 0, 1) := by decide +kernel
theorem dX5_undo_58 : decode cX5_undo 58 = .ok (.dup, 1) := by decide +kernel
theorem dX5_undo_59 : decode cX5_undo 59 = .ok (.getfield 20, 3) := by decide +kernel
theorem dX5_undo_62 : decode cX5_undo 62 = .ok (.iconst 1, 1) := by decide +kernel
theorem dX5_undo_63 : decode cX5_undo 63 = .ok (.isub, 1) := by decide +kernel
theorem dX5_undo_64 : decode cX5_undo 64 = .ok (.putfield 20, 3) := by decide +kernel
theorem dX5_undo_67 : decode cX5_undo 67 = .ok (.aload_n 0, 1) := by decide +kernel
theorem dX5_undo_68 : decode cX5_undo 68 = .ok (.getfield 20, 3) := by decide +kernel
theorem dX5_undo_71 : decode cX5_undo 71 = .ok (.ireturn, 1) := by decide +kernel
theorem dX5_digest_0 : decode cX5_digest 0 = .ok (.aload_n 0, 1) := by decide +kernel
theorem dX5_digest_1 : decode cX5_digest 1 = .ok (.getfield 12, 3) := by decide +kernel
theorem dX5_digest_4 : decode cX5_digest 4 = .ok (.ldc2_w 173, 3) := by decide +kernel
theorem dX5_digest_7 : decode cX5_digest 7 = .ok (.invokevirtual 175, 3) := by decide +kernel
theorem dX5_digest_10 : decode cX5_digest 10 = .ok (.aload_n 0, 1) := by decide +kernel
theorem dX5_digest_11 : decode cX5_digest 11 = .ok (.getfield 20, 3) := by decide +kernel
theorem dX5_digest_14 : decode cX5_digest 14 = .ok (.i2l, 1) := by decide +kernel
theorem dX5_digest_15 : decode cX5_digest 15 = .ok (.invokestatic 179, 3) := by decide +kernel
theorem dX5_digest_18 : decode cX5_digest 18 = .ok (.lreturn, 1) := by decide +kernel
theorem dX5_requireArgument_0 : decode cX5_requireArgument 0 = .ok (.iload_n 0, 1) := by decide +kernel
theorem dX5_requireArgument_1 : decode cX5_requireArgument 1 = .ok (.ifCond .ne 13, 3) := by decide +kernel
theorem dX5_requireArgument_4 : decode cX5_requireArgument 4 = .ok (.new 183, 3) := by decide +kernel
theorem dX5_requireArgument_7 : decode cX5_requireArgument 7 = .ok (.dup, 1) := by decide +kernel
theorem dX5_requireArgument_8 : decode cX5_requireArgument 8 = .ok (.ldc 185, 2) := by decide +kernel
theorem dX5_requireArgument_10 : decode cX5_requireArgument 10 = .ok (.invokespecial 187, 3) := by decide +kernel
theorem dX5_requireArgument_13 : decode cX5_requireArgument 13 = .ok (.athrow, 1) := by decide +kernel
theorem dX5_requireArgument_14 : decode cX5_requireArgument 14 = .ok (.return_, 1) := by decide +kernel
theorem dX5_requireState_0 : decode cX5_requireState 0 = .ok (.iload_n 0, 1) := by decide +kernel
theorem dX5_requireState_1 : decode cX5_requireState 1 = .ok (.ifCond .ne 13, 3) := by decide +kernel
theorem dX5_requireState_4 : decode cX5_requireState 4 = .ok (.new 190, 3) := by decide +kernel
theorem dX5_requireState_7 : decode cX5_requireState 7 = .ok (.dup, 1) := by decide +kernel
theorem dX5_requireState_8 : decode cX5_requireState 8 = .ok (.ldc 192, 2) := by decide +kernel
theorem dX5_requireState_10 : decode cX5_requireState 10 = .ok (.invokespecial 194, 3) := by decide +kernel
theorem dX5_requireState_13 : decode cX5_requireState 13 = .ok (.athrow, 1) := by decide +kernel
theorem dX5_requireState_14 : decode cX5_requireState 14 = .ok (.return_, 1) := by decide +kernel
theorem dX5_requireIndex_0 : decode cX5_requireIndex 0 = .ok (.iload_n 0, 1) := by decide +kernel
theorem dX5_requireIndex_1 : decode cX5_requireIndex 1 = .ok (.ifCond .lt 8, 3) := by decide +kernel
theorem dX5_requireIndex_4 : decode cX5_requireIndex 4 = .ok (.iload_n 0, 1) := by decide +kernel
theorem dX5_requireIndex_5 : decode cX5_requireIndex 5 = .ok (.iload_n 1, 1) := by decide +kernel
theorem dX5_requireIndex_6 : decode cX5_requireIndex 6 = .ok (.if_icmp .lt 13, 3) := by decide +kernel
theorem dX5_requireIndex_9 : decode cX5_requireIndex 9 = .ok (.new 195, 3) := by decide +kernel
theorem dX5_requireIndex_12 : decode cX5_requireIndex 12 = .ok (.dup, 1) := by decide +kernel
theorem dX5_requireIndex_13 : decode cX5_requireIndex 13 = .ok (.ldc 197, 2) := by decide +kernel
theorem dX5_requireIndex_15 : decode cX5_requireIndex 15 = .ok (.invokespecial 199, 3) := by decide +kernel
theorem dX5_requireIndex_18 : decode cX5_requireIndex 18 = .ok (.athrow, 1) := by decide +kernel
theorem dX5_requireIndex_19 : decode cX5_requireIndex 19 = .ok (.return_, 1) := by decide +kernel
theorem dX5_parameterAt_0 : decode cX5_parameterAt 0 = .ok (.iload_n 1, 1) := by decide +kernel
theorem dX5_parameterAt_1 : decode cX5_parameterAt 1 = .ok (.aload_n 0, 1) := by decide +kernel
theorem dX5_parameterAt_2 : decode cX5_parameterAt 2 = .ok (.getfield 12, 3) := by decide +kernel
theorem dX5_parameterAt_5 : decode cX5_parameterAt 5 = .ok (.getfield 53, 3) := by decide +kernel
theorem dX5_parameterAt_8 : decode cX5_parameterAt 8 = .ok (.invokestatic 95, 3) := by decide +kernel
theorem dX5_parameterAt_11 : decode cX5_parameterAt 11 = .ok (.aload_n 0, 1) := by decide +kernel
theorem dX5_parameterAt_12 : decode cX5_parameterAt 12 = .ok (.getfield 12, 3) := by decide +kernel
theorem dX5_parameterAt_15 : decode cX5_parameterAt 15 = .ok (.getfield 59, 3) := by decide +kernel
theorem dX5_parameterAt_18 : decode cX5_parameterAt 18 = .ok (.iload_n 1, 1) := by decide +kernel
theorem dX5_parameterAt_19 : decode cX5_parameterAt 19 = .ok (.aaload, 1) := by decide +kernel
theorem dX5_parameterAt_20 : decode cX5_parameterAt 20 = .ok (.areturn, 1) := by decide +kernel
theorem dX5_save_0 : decode cX5_save 0 = .ok (.aload_n 0, 1) := by decide +kernel
theorem dX5_save_1 : decode cX5_save 1 = .ok (.aload_n 0, 1) := by decide +kernel
theorem dX5_save_2 : decode cX5_save 2 = .ok (.getfield 24, 3) := by decide +kernel
theorem dX5_save_5 : decode cX5_save 5 = .ok (.iconst 1, 1) := by decide +kernel
theorem dX5_save_6 : decode cX5_save 6 = .ok (.iadd, 1) := by decide +kernel
theorem dX5_save_7 : decode cX5_save 7 = .ok (.iconst 4, 1) := by decide +kernel
theorem dX5_save_8 : decode cX5_save 8 = .ok (.irem, 1) := by decide +kernel
theorem dX5_save_9 : decode cX5_save 9 = .ok (.putfield 24, 3) := by decide +kernel
theorem dX5_save_12 : decode cX5_save 12 = .ok (.aload_n 0, 1) := by decide +kernel
theorem dX5_save_13 : decode cX5_save 13 = .ok (.getfield 16, 3) := by decide +kernel
theorem dX5_save_16 : decode cX5_save 16 = .ok (.aload_n 0, 1) := by decide +kernel
theorem dX5_save_17 : decode cX5_save 17 = .ok (.getfield 24, 3) := by decide +kernel
theorem dX5_save_20 : decode cX5_save 20 = .ok (.aaload, 1) := by decide +kernel
theorem dX5_save_21 : decode cX5_save 21 = .ok (.aload_n 0, 1) := by decide +kernel
theorem dX5_save_22 : decode cX5_save 22 = .ok (.getfield 12, 3) := by decide +kernel
theorem dX5_save_25 : decode cX5_save 25 = .ok (.invokevirtual 200, 3) := by decide +kernel
theorem dX5_save_28 : decode cX5_save 28 = .ok (.aload_n 0, 1) := by decide +kernel
theorem dX5_save_29 : decode cX5_save 29 = .ok (.getfield 20, 3) := by decide +kernel
theorem dX5_save_32 : decode cX5_save 32 = .ok (.iconst 4, 1) := by decide +kernel
theorem dX5_save_33 : decode cX5_save 33 = .ok (.if_icmp .ge 13, 3) := by decide +kernel
theorem dX5_save_36 : decode cX5_save 36 = .ok (.aload_n 0, 1) := by decide +kernel
theorem dX5_save_37 : decode cX5_save 37 = .ok (.dup, 1) := by decide +kernel
theorem dX5_save_38 : decode cX5_save 38 = .ok (.getfield 20, 3) := by decide +kernel
theorem dX5_save_41 : decode cX5_save 41 = .ok (.iconst 1, 1) := by decide +kernel
theorem dX5_save_42 : decode cX5_save 42 = .ok (.iadd, 1) := by decide +kernel
theorem dX5_save_43 : decode cX5_save 43 = .ok (.putfield 20, 3) := by decide +kernel
theorem dX5_save_46 : decode cX5_save 46 = .ok (.return_, 1) := by decide +kernel
theorem dX5_placeAll_0 : decode cX5_placeAll 0 = .ok (.bipush 32, 2) := by decide +kernel
theorem dX5_placeAll_2 : decode cX5_placeAll 2 = .ok (.istore_n 1, 1) := by decide +kernel
theorem dX5_placeAll_3 : decode cX5_placeAll 3 = .ok (.iload_n 1, 1) := by decide +kernel
theorem dX5_placeAll_4 : decode cX5_placeAll 4 = .ok (.ifCond .lt 70, 3) := by decide +kernel
theorem dX5_placeAll_7 : decode cX5_placeAll 7 = .ok (.iconst 0, 1) := by decide +kernel
theorem dX5_placeAll_8 : decode cX5_placeAll 8 = .ok (.istore_n 2, 1) := by decide +kernel
theorem dX5_placeAll_9 : decode cX5_placeAll 9 = .ok (.iload_n 2, 1) := by decide +kernel
theorem dX5_placeAll_10 : decode cX5_placeAll 10 = .ok (.aload_n 0, 1) := by decide +kernel
theorem dX5_placeAll_11 : decode cX5_placeAll 11 = .ok (.getfield 12, 3) := by decide +kernel
theorem dX5_placeAll_14 : decode cX5_placeAll 14 = .ok (.getfield 53, 3) := by decide +kernel
theorem dX5_placeAll_17 : decode cX5_placeAll 17 = .ok (.if_icmp .ge 51, 3) := by decide +kernel
theorem dX5_placeAll_20 : decode cX5_placeAll 20 = .ok (.aload_n 0, 1) := by decide +kernel
theorem dX5_placeAll_21 : decode cX5_placeAll 21 = .ok (.getfield 12, 3) := by decide +kernel
theorem dX5_placeAll_24 : decode cX5_placeAll 24 = .ok (.getfield 59, 3) := by decide +kernel
theorem dX5_placeAll_27 : decode cX5_placeAll 27 = .ok (.iload_n 2, 1) := by decide +kernel
theorem dX5_placeAll_28 : decode cX5_placeAll 28 = .ok (.aaload, 1) := by decide +kernel
theorem dX5_placeAll_29 : decode cX5_placeAll 29 = .ok (.astore_n 3, 1) := by decide +kernel
theorem dX5_placeAll_30 : decode cX5_placeAll 30 = .ok (.aload_n 3, 1) := by decide +kernel
theorem dX5_placeAll_31 : decode cX5_placeAll 31 = .ok (.aload_n 0, 1) := by decide +kernel
theorem dX5_placeAll_32 : decode cX5_placeAll 32 = .ok (.getfield 30, 3) := by decide +kernel
theorem dX5_placeAll_35 : decode cX5_placeAll 35 = .ok (.getfield 47, 3) := by decide +kernel
theorem dX5_placeAll_38 : decode cX5_placeAll 38 = .ok (.invokevirtual 91, 3) := by decide +kernel
theorem dX5_placeAll_41 : decode cX5_placeAll 41 = .ok (.iload_n 1, 1) := by decide +kernel
theorem dX5_placeAll_42 : decode cX5_placeAll 42 = .ok (.if_icmp .ne 20, 3) := by decide +kernel
theorem dX5_placeAll_45 : decode cX5_placeAll 45 = .ok (.aload_n 0, 1) := by decide +kernel
theorem dX5_placeAll_46 : decode cX5_placeAll 46 = .ok (.getfield 30, 3) := by decide +kernel
theorem dX5_placeAll_49 : decode cX5_placeAll 49 = .ok (.iload_n 2, 1) := by decide +kernel
theorem dX5_placeAll_50 : decode cX5_placeAll 50 = .ok (.aload_n 3, 1) := by decide +kernel
theorem dX5_placeAll_51 : decode cX5_placeAll 51 = .ok (.getfield 203, 3) := by decide +kernel
theorem dX5_placeAll_54 : decode cX5_placeAll 54 = .ok (.invokevirtual 206, 3) := by decide +kernel
theorem dX5_placeAll_57 : decode cX5_placeAll 57 = .ok (.ifCond .ne 5, 3) := by decide +kernel
theorem dX5_placeAll_60 : decode cX5_placeAll 60 = .ok (.iload_n 2, 1) := by decide +kernel
theorem dX5_placeAll_61 : decode cX5_placeAll 61 = .ok (.ireturn, 1) := by decide +kernel
theorem dX5_placeAll_62 : decode cX5_placeAll 62 = .ok (.iinc 2 1, 3) := by decide +kernel
theorem dX5_placeAll_65 : decode cX5_placeAll 65 = .ok (.goto (-56), 3) := by decide +kernel
theorem dX5_placeAll_68 : decode cX5_placeAll 68 = .ok (.iinc 1 (-1), 3) := by decide +kernel
theorem dX5_placeAll_71 : decode cX5_placeAll 71 = .ok (.goto (-68), 3) := by decide +kernel
theorem dX5_placeAll_74 : decode cX5_placeAll 74 = .ok (.iconst (-1), 1) := by decide +kernel
theorem dX5_placeAll_75 : decode cX5_placeAll 75 = .ok (.ireturn, 1) := by decide +kernel
theorem dX5_mix_0 : decode cX5_mix 0 = .ok (.ldc2_w 210, 3) := by decide +kernel
theorem dX5_mix_3 : decode cX5_mix 3 = .ok (.lload_n 0, 1) := by decide +kernel
theorem dX5_mix_4 : decode cX5_mix 4 = .ok (.lmul, 1) := by decide +kernel
theorem dX5_mix_5 : decode cX5_mix 5 = .ok (.lload_n 2, 1) := by decide +kernel
theorem dX5_mix_6 : decode cX5_mix 6 = .ok (.ladd, 1) := by decide +kernel
theorem dX5_mix_7 : decode cX5_mix 7 = .ok (.lreturn, 1) := by decide +kernel
theorem dJ7_fill_53178_0 : decode cJ7_fill_53178 0 = .ok (.iconst 0, 1) := by decide +kernel
theorem dJ7_fill_53178_1 : decode cJ7_fill_53178 1 = .ok (.istore_n 2, 1) := by decide +kernel
theorem dJ7_fill_53178_2 : decode cJ7_fill_53178 2 = .ok (.aload_n 0, 1) := by decide +kernel
theorem dJ7_fill_53178_3 : decode cJ7_fill_53178 3 = .ok (.arraylength, 1) := by decide +kernel
theorem dJ7_fill_53178_4 : decode cJ7_fill_53178 4 = .ok (.istore_n 3, 1) := by decide +kernel
theorem dJ7_fill_53178_5 : decode cJ7_fill_53178 5 = .ok (.iload_n 2, 1) := by decide +kernel
theorem dJ7_fill_53178_6 : decode cJ7_fill_53178 6 = .ok (.iload_n 3, 1) := by decide +kernel
theorem dJ7_fill_53178_7 : decode cJ7_fill_53178 7 = .ok (.if_icmp .ge 13, 3) := by decide +kernel
theorem dJ7_fill_53178_10 : decode cJ7_fill_53178 10 = .ok (.aload_n 0, 1) := by decide +kernel
theorem dJ7_fill_53178_11 : decode cJ7_fill_53178 11 = .ok (.iload_n 2, 1) := by decide +kernel
theorem dJ7_fill_53178_12 : decode cJ7_fill_53178 12 = .ok (.iload_n 1, 1) := by decide +kernel
theorem dJ7_fill_53178_13 : decode cJ7_fill_53178 13 = .ok (.iastore, 1) := by decide +kernel
theorem dJ7_fill_53178_14 : decode cJ7_fill_53178 14 = .ok (.iinc 2 1, 3) := by decide +kernel
theorem dJ7_fill_53178_17 : decode cJ7_fill_53178 17 = .ok (.goto (-12), 3) := by decide +kernel
theorem dJ7_fill_53178_20 : decode cJ7_fill_53178 20 = .ok (.return_, 1) := by decide +kernel
