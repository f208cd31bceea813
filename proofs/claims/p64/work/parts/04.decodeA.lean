/-! what each instruction is (gen8.py) -/
theorem dX0_init_0 : decode cX0_init 0 = .ok (.aload_n 0, 1) := by decide +kernel
theorem dX0_init_1 : decode cX0_init 1 = .ok (.invokespecial 3, 3) := by decide +kernel
theorem dX0_init_4 : decode cX0_init 4 = .ok (.aload_n 0, 1) := by decide +kernel
theorem dX0_init_5 : decode cX0_init 5 = .ok (.new 9, 3) := by decide +kernel
theorem dX0_init_8 : decode cX0_init 8 = .ok (.dup, 1) := by decide +kernel
theorem dX0_init_9 : decode cX0_init 9 = .ok (.bipush 20, 2) := by decide +kernel
theorem dX0_init_11 : decode cX0_init 11 = .ok (.invokespecial 11, 3) := by decide +kernel
theorem dX0_init_14 : decode cX0_init 14 = .ok (.putfield 14, 3) := by decide +kernel
theorem dX0_init_17 : decode cX0_init 17 = .ok (.aload_n 0, 1) := by decide +kernel
theorem dX0_init_18 : decode cX0_init 18 = .ok (.new 9, 3) := by decide +kernel
theorem dX0_init_21 : decode cX0_init 21 = .ok (.dup, 1) := by decide +kernel
theorem dX0_init_22 : decode cX0_init 22 = .ok (.bipush 20, 2) := by decide +kernel
theorem dX0_init_24 : decode cX0_init 24 = .ok (.invokespecial 11, 3) := by decide +kernel
theorem dX0_init_27 : decode cX0_init 27 = .ok (.putfield 20, 3) := by decide +kernel
theorem dX0_init_30 : decode cX0_init 30 = .ok (.return_, 1) := by decide +kernel
theorem dX0_empty_0 : decode cX0_empty 0 = .ok (.aload_n 0, 1) := by decide +kernel
theorem dX0_empty_1 : decode cX0_empty 1 = .ok (.iconst 0, 1) := by decide +kernel
theorem dX0_empty_2 : decode cX0_empty 2 = .ok (.putfield 23, 3) := by decide +kernel
theorem dX0_empty_5 : decode cX0_empty 5 = .ok (.return_, 1) := by decide +kernel
theorem dX0_insert_0 : decode cX0_insert 0 = .ok (.aload_n 0, 1) := by decide +kernel
theorem dX0_insert_1 : decode cX0_insert 1 = .ok (.getfield 23, 3) := by decide +kernel
theorem dX0_insert_4 : decode cX0_insert 4 = .ok (.istore_n 3, 1) := by decide +kernel
theorem dX0_insert_5 : decode cX0_insert 5 = .ok (.iload_n 3, 1) := by decide +kernel
theorem dX0_insert_6 : decode cX0_insert 6 = .ok (.ifCond .le 59, 3) := by decide +kernel
theorem dX0_insert_9 : decode cX0_insert 9 = .ok (.aload_n 0, 1) := by decide +kernel
theorem dX0_insert_10 : decode cX0_insert 10 = .ok (.getfield 20, 3) := by decide +kernel
theorem dX0_insert_13 : decode cX0_insert 13 = .ok (.iload_n 3, 1) := by decide +kernel
theorem dX0_insert_14 : decode cX0_insert 14 = .ok (.iconst 1, 1) := by decide +kernel
theorem dX0_insert_15 : decode cX0_insert 15 = .ok (.isub, 1) := by decide +kernel
theorem dX0_insert_16 : decode cX0_insert 16 = .ok (.invokevirtual 27, 3) := by decide +kernel
theorem dX0_insert_19 : decode cX0_insert 19 = .ok (.iload_n 2, 1) := by decide +kernel
theorem dX0_insert_20 : decode cX0_insert 20 = .ok (.if_icmp .le 45, 3) := by decide +kernel
theorem dX0_insert_23 : decode cX0_insert 23 = .ok (.aload_n 0, 1) := by decide +kernel
theorem dX0_insert_24 : decode cX0_insert 24 = .ok (.getfield 14, 3) := by decide +kernel
theorem dX0_insert_27 : decode cX0_insert 27 = .ok (.iload_n 3, 1) := by decide +kernel
theorem dX0_insert_28 : decode cX0_insert 28 = .ok (.aload_n 0, 1) := by decide +kernel
theorem dX0_insert_29 : decode cX0_insert 29 = .ok (.getfield 14, 3) := by decide +kernel
theorem dX0_insert_32 : decode cX0_insert 32 = .ok (.iload_n 3, 1) := by decide +kernel
theorem dX0_insert_33 : decode cX0_insert 33 = .ok (.iconst 1, 1) := by decide +kernel
theorem dX0_insert_34 : decode cX0_insert 34 = .ok (.isub, 1) := by decide +kernel
theorem dX0_insert_35 : decode cX0_insert 35 = .ok (.invokevirtual 27, 3) := by decide +kernel
theorem dX0_insert_38 : decode cX0_insert 38 = .ok (.invokevirtual 31, 3) := by decide +kernel
theorem dX0_insert_41 : decode cX0_insert 41 = .ok (.aload_n 0, 1) := by decide +kernel
theorem dX0_insert_42 : decode cX0_insert 42 = .ok (.getfield 20, 3) := by decide +kernel
theorem dX0_insert_45 : decode cX0_insert 45 = .ok (.iload_n 3, 1) := by decide +kernel
theorem dX0_insert_46 : decode cX0_insert 46 = .ok (.aload_n 0, 1) := by decide +kernel
theorem dX0_insert_47 : decode cX0_insert 47 = .ok (.getfield 20, 3) := by decide +kernel
theorem dX0_insert_50 : decode cX0_insert 50 = .ok (.iload_n 3, 1) := by decide +kernel
theorem dX0_insert_51 : decode cX0_insert 51 = .ok (.iconst 1, 1) := by decide +kernel
theorem dX0_insert_52 : decode cX0_insert 52 = .ok (.isub, 1) := by decide +kernel
theorem dX0_insert_53 : decode cX0_insert 53 = .ok (.invokevirtual 27, 3) := by decide +kernel
theorem dX0_insert_56 : decode cX0_insert 56 = .ok (.invokevirtual 31, 3) := by decide +kernel
theorem dX0_insert_59 : decode cX0_insert 59 = .ok (.iinc 3 (-1), 3) := by decide +kernel
theorem dX0_insert_62 : decode cX0_insert 62 = .ok (.goto (-57), 3) := by decide +kernel
theorem dX0_insert_65 : decode cX0_insert 65 = .ok (.aload_n 0, 1) := by decide +kernel
theorem dX0_insert_66 : decode cX0_insert 66 = .ok (.getfield 14, 3) := by decide +kernel
theorem dX0_insert_69 : decode cX0_insert 69 = .ok (.iload_n 3, 1) := by decide +kernel
theorem dX0_insert_70 : decode cX0_insert 70 = .ok (.iload_n 1, 1) := by decide +kernel
theorem dX0_insert_71 : decode cX0_insert 71 = .ok (.invokevirtual 31, 3) := by decide +kernel
theorem dX0_insert_74 : decode cX0_insert 74 = .ok (.aload_n 0, 1) := by decide +kernel
theorem dX0_insert_75 : decode cX0_insert 75 = .ok (.getfield 20, 3) := by decide +kernel
theorem dX0_insert_78 : decode cX0_insert 78 = .ok (.iload_n 3, 1) := by decide +kernel
theorem dX0_insert_79 : decode cX0_insert 79 = .ok (.iload_n 2, 1) := by decide +kernel
theorem dX0_insert_80 : decode cX0_insert 80 = .ok (.invokevirtual 31, 3) := by decide +kernel
theorem dX0_insert_83 : decode cX0_insert 83 = .ok (.aload_n 0, 1) := by decide +kernel
theorem dX0_insert_84 : decode cX0_insert 84 = .ok (.dup, 1) := by decide +kernel
theorem dX0_insert_85 : decode cX0_insert 85 = .ok (.getfield 23, 3) := by decide +kernel
theorem dX0_insert_88 : decode cX0_insert 88 = .ok (.iconst 1, 1) := by decide +kernel
theorem dX0_insert_89 : decode cX0_insert 89 = .ok (.iadd, 1) := by decide +kernel
theorem dX0_insert_90 : decode cX0_insert 90 = .ok (.putfield 23, 3) := by decide +kernel
theorem dX0_insert_93 : decode cX0_insert 93 = .ok (.return_, 1) := by decide +kernel
theorem dX1_init_0 : decode cX1_init 0 = .ok (.aload_n 0, 1) := by decide +kernel
theorem dX1_init_1 : decode cX1_init 1 = .ok (.invokespecial 3, 3) := by decide +kernel
theorem dX1_init_4 : decode cX1_init 4 = .ok (.aload_n 0, 1) := by decide +kernel
theorem dX1_init_5 : decode cX1_init 5 = .ok (.new 9, 3) := by decide +kernel
theorem dX1_init_8 : decode cX1_init 8 = .ok (.dup, 1) := by decide +kernel
theorem dX1_init_9 : decode cX1_init 9 = .ok (.bipush 48, 2) := by decide +kernel
theorem dX1_init_11 : decode cX1_init 11 = .ok (.invokespecial 11, 3) := by decide +kernel
theorem dX1_init_14 : decode cX1_init 14 = .ok (.putfield 14, 3) := by decide +kernel
theorem dX1_init_17 : decode cX1_init 17 = .ok (.aload_n 0, 1) := by decide +kernel
theorem dX1_init_18 : decode cX1_init 18 = .ok (.new 9, 3) := by decide +kernel
theorem dX1_init_21 : decode cX1_init 21 = .ok (.dup, 1) := by decide +kernel
theorem dX1_init_22 : decode cX1_init 22 = .ok (.bipush 8, 2) := by decide +kernel
theorem dX1_init_24 : decode cX1_init 24 = .ok (.invokespecial 11, 3) := by decide +kernel
theorem dX1_init_27 : decode cX1_init 27 = .ok (.putfield 20, 3) := by decide +kernel
theorem dX1_init_30 : decode cX1_init 30 = .ok (.aload_n 0, 1) := by decide +kernel
theorem dX1_init_31 : decode cX1_init 31 = .ok (.new 9, 3) := by decide +kernel
theorem dX1_init_34 : decode cX1_init 34 = .ok (.dup, 1) := by decide +kernel
theorem dX1_init_35 : decode cX1_init 35 = .ok (.bipush 8, 2) := by decide +kernel
theorem dX1_init_37 : decode cX1_init 37 = .ok (.invokespecial 11, 3) := by decide +kernel
theorem dX1_init_40 : decode cX1_init 40 = .ok (.putfield 23, 3) := by decide +kernel
theorem dX1_init_43 : decode cX1_init 43 = .ok (.return_, 1) := by decide +kernel
theorem dX1_empty_0 : decode cX1_empty 0 = .ok (.aload_n 0, 1) := by decide +kernel
theorem dX1_empty_1 : decode cX1_empty 1 = .ok (.iconst 0, 1) := by decide +kernel
theorem dX1_empty_2 : decode cX1_empty 2 = .ok (.putfield 26, 3) := by decide +kernel
theorem dX1_empty_5 : decode cX1_empty 5 = .ok (.return_, 1) := by decide +kernel
theorem dX1_copyFrom_0 : decode cX1_copyFrom 0 = .ok (.aload_n 0, 1) := by decide +kernel
theorem dX1_copyFrom_1 : decode cX1_copyFrom 1 = .ok (.aload_n 1, 1) := by decide +kernel
theorem dX1_copyFrom_2 : decode cX1_copyFrom 2 = .ok (.getfield 26, 3) := by decide +kernel
theorem dX1_copyFrom_5 : decode cX1_copyFrom 5 = .ok (.putfield 26, 3) := by decide +kernel
theorem dX1_copyFrom_8 : decode cX1_copyFrom 8 = .ok (.aload_n 0, 1) := by decide +kernel
theorem dX1_copyFrom_9 : decode cX1_copyFrom 9 = .ok (.getfield 14, 3) := by decide +kernel
theorem dX1_copyFrom_12 : decode cX1_copyFrom 12 = .ok (.aload_n 1, 1) := by decide +kernel
theorem dX1_copyFrom_13 : decode cX1_copyFrom 13 = .ok (.getfield 14, 3) := by decide +kernel
theorem dX1_copyFrom_16 : decode cX1_copyFrom 16 = .ok (.invokevirtual 30, 3) := by decide +kernel
theorem dX1_copyFrom_19 : decode cX1_copyFrom 19 = .ok (.aload_n 0, 1) := by decide +kernel
theorem dX1_copyFrom_20 : decode cX1_copyFrom 20 = .ok (.getfield 20, 3) := by decide +kernel
theorem dX1_copyFrom_23 : decode cX1_copyFrom 23 = .ok (.aload_n 1, 1) := by decide +kernel
theorem dX1_copyFrom_24 : decode cX1_copyFrom 24 = .ok (.getfield 20, 3) := by decide +kernel
theorem dX1_copyFrom_27 : decode cX1_copyFrom 27 = .ok (.invokevirtual 30, 3) := by decide +kernel
theorem dX1_copyFrom_30 : decode cX1_copyFrom 30 = .ok (.aload_n 0, 1) := by decide +kernel
theorem dX1_copyFrom_31 : decode cX1_copyFrom 31 = .ok (.getfield 23, 3) := by decide +kernel
theorem dX1_copyFrom_34 : decode cX1_copyFrom 34 = .ok (.aload_n 1, 1) := by decide +kernel
theorem dX1_copyFrom_35 : decode cX1_copyFrom 35 = .ok (.getfield 23, 3) := by decide +kernel
theorem dX1_copyFrom_38 : decode cX1_copyFrom 38 = .ok (.invokevirtual 30, 3) := by decide +kernel
theorem dX1_copyFrom_41 : decode cX1_copyFrom 41 = .ok (.return_, 1) := by decide +kernel
theorem dX1_hasProduct_0 : decode cX1_hasProduct 0 = .ok (.iload_n 1, 1) := by decide +kernel
theorem dX1_hasProduct_1 : decode cX1_hasProduct 1 = .ok (.ifCond .lt 15, 3) := by decide +kernel
theorem dX1_hasProduct_4 : decode cX1_hasProduct 4 = .ok (.iload_n 1, 1) := by decide +kernel
theorem dX1_hasProduct_5 : decode cX1_hasProduct 5 = .ok (.aload_n 0, 1) := by decide +kernel
theorem dX1_hasProduct_6 : decode cX1_hasProduct 6 = .ok (.getfield 26, 3) := by decide +kernel
theorem dX1_hasProduct_9 : decode cX1_hasProduct 9 = .ok (.if_icmp .ge 7, 3) := by decide +kernel
theorem dX1_hasProduct_12 : decode cX1_hasProduct 12 = .ok (.iconst 1, 1) := by decide +kernel
theorem dX1_hasProduct_13 : decode cX1_hasProduct 13 = .ok (.goto 4, 3) := by decide +kernel
theorem dX1_hasProduct_16 : decode cX1_hasProduct 16 = .ok (.iconst 0, 1) := by decide +kernel
theorem dX1_hasProduct_17 : decode cX1_hasProduct 17 = .ok (.ireturn, 1) := by decide +kernel
theorem dX1_addProduct_0 : decode cX1_addProduct 0 = .ok (.aload_n 0, 1) := by decide +kernel
theorem dX1_addProduct_1 : decode cX1_addProduct 1 = .ok (.invokevirtual 34, 3) := by decide +kernel
theorem dX1_addProduct_4 : decode cX1_addProduct 4 = .ok (.iconst 0, 1) := by decide +kernel
theorem dX1_addProduct_5 : decode cX1_addProduct 5 = .ok (.istore_n 3, 1) := by decide +kernel
theorem dX1_addProduct_6 : decode cX1_addProduct 6 = .ok (.iload_n 3, 1) := by decide +kernel
theorem dX1_addProduct_7 : decode cX1_addProduct 7 = .ok (.aload_n 1, 1) := by decide +kernel
theorem dX1_addProduct_8 : decode cX1_addProduct 8 = .ok (.invokevirtual 37, 3) := by decide +kernel
theorem dX1_addProduct_11 : decode cX1_addProduct 11 = .ok (.if_icmp .ge 18, 3) := by decide +kernel
theorem dX1_addProduct_14 : decode cX1_addProduct 14 = .ok (.aload_n 0, 1) := by decide +kernel
theorem dX1_addProduct_15 : decode cX1_addProduct 15 = .ok (.aload_n 1, 1) := by decide +kernel
theorem dX1_addProduct_16 : decode cX1_addProduct 16 = .ok (.iload_n 3, 1) := by decide +kernel
theorem dX1_addProduct_17 : decode cX1_addProduct 17 = .ok (.invokevirtual 43, 3) := by decide +kernel
theorem dX1_addProduct_20 : decode cX1_addProduct 20 = .ok (.invokevirtual 47, 3) := by decide +kernel
theorem dX1_addProduct_23 : decode cX1_addProduct 23 = .ok (.iinc 3 1, 3) := by decide +kernel
theorem dX1_addProduct_26 : decode cX1_addProduct 26 = .ok (.goto (-20), 3) := by decide +kernel
theorem dX1_addProduct_29 : decode cX1_addProduct 29 = .ok (.aload_n 0, 1) := by decide +kernel
theorem dX1_addProduct_30 : decode cX1_addProduct 30 = .ok (.iload_n 2, 1) := by decide +kernel
theorem dX1_addProduct_31 : decode cX1_addProduct 31 = .ok (.invokevirtual 50, 3) := by decide +kernel
theorem dX1_addProduct_34 : decode cX1_addProduct 34 = .ok (.return_, 1) := by decide +kernel
theorem dX1_addNameless_0 : decode cX1_addNameless 0 = .ok (.aload_n 0, 1) := by decide +kernel
theorem dX1_addNameless_1 : decode cX1_addNameless 1 = .ok (.getfield 26, 3) := by decide +kernel
theorem dX1_addNameless_4 : decode cX1_addNameless 4 = .ok (.bipush 8, 2) := by decide +kernel
theorem dX1_addNameless_6 : decode cX1_addNameless 6 = .ok (.if_icmp .ge 37, 3) := by decide +kernel
theorem dX1_addNameless_9 : decode cX1_addNameless 9 = .ok (.aload_n 0, 1) := by decide +kernel
theorem dX1_addNameless_10 : decode cX1_addNameless 10 = .ok (.getfield 20, 3) := by decide +kernel
theorem dX1_addNameless_13 : decode cX1_addNameless 13 = .ok (.aload_n 0, 1) := by decide +kernel
theorem dX1_addNameless_14 : decode cX1_addNameless 14 = .ok (.getfield 26, 3) := by decide +kernel
theorem dX1_addNameless_17 : decode cX1_addNameless 17 = .ok (.iconst 0, 1) := by decide +kernel
theorem dX1_addNameless_18 : decode cX1_addNameless 18 = .ok (.invokevirtual 53, 3) := by decide +kernel
theorem dX1_addNameless_21 : decode cX1_addNameless 21 = .ok (.aload_n 0, 1) := by decide +kernel
theorem dX1_addNameless_22 : decode cX1_addNameless 22 = .ok (.getfield 23, 3) := by decide +kernel
theorem dX1_addNameless_25 : decode cX1_addNameless 25 = .ok (.aload_n 0, 1) := by decide +kernel
theorem dX1_addNameless_26 : decode cX1_addNameless 26 = .ok (.getfield 26, 3) := by decide +kernel
theorem dX1_addNameless_29 : decode cX1_addNameless 29 = .ok (.iconst 0, 1) := by decide +kernel
theorem dX1_addNameless_30 : decode cX1_addNameless 30 = .ok (.invokevirtual 53, 3) := by decide +kernel
theorem dX1_addNameless_33 : decode cX1_addNameless 33 = .ok (.aload_n 0, 1) := by decide +kernel
theorem dX1_addNameless_34 : decode cX1_addNameless 34 = .ok (.dup, 1) := by decide +kernel
theorem dX1_addNameless_35 : decode cX1_addNameless 35 = .ok (.getfield 26, 3) := by decide +kernel
theorem dX1_addNameless_38 : decode cX1_addNameless 38 = .ok (.iconst 1, 1) := by decide +kernel
theorem dX1_addNameless_39 : decode cX1_addNameless 39 = .ok (.iadd, 1) := by decide +kernel
theorem dX1_addNameless_40 : decode cX1_addNameless 40 = .ok (.putfield 26, 3) := by decide +kernel
theorem dX1_addNameless_43 : decode cX1_addNameless 43 = .ok (.return_, 1) := by decide +kernel
theorem dX1_addLetter_0 : decode cX1_addLetter 0 = .ok (.aload_n 0, 1) := by decide +kernel
theorem dX1_addLetter_1 : decode cX1_addLetter 1 = .ok (.getfield 26, 3) := by decide +kernel
theorem dX1_addLetter_4 : decode cX1_addLetter 4 = .ok (.iconst 1, 1) := by decide +kernel
theorem dX1_addLetter_5 : decode cX1_addLetter 5 = .ok (.isub, 1) := by decide +kernel
theorem dX1_addLetter_6 : decode cX1_addLetter 6 = .ok (.istore_n 2, 1) := by decide +kernel
theorem dX1_addLetter_7 : decode cX1_addLetter 7 = .ok (.aload_n 0, 1) := by decide +kernel
theorem dX1_addLetter_8 : decode cX1_addLetter 8 = .ok (.getfield 20, 3) := by decide +kernel
theorem dX1_addLetter_11 : decode cX1_addLetter 11 = .ok (.iload_n 2, 1) := by decide +kernel
theorem dX1_addLetter_12 : decode cX1_addLetter 12 = .ok (.invokevirtual 57, 3) := by decide +kernel
theorem dX1_addLetter_15 : decode cX1_addLetter 15 = .ok (.istore_n 3, 1) := by decide +kernel
theorem dX1_addLetter_16 : decode cX1_addLetter 16 = .ok (.iload_n 3, 1) := by decide +kernel
theorem dX1_addLetter_17 : decode cX1_addLetter 17 = .ok (.bipush 6, 2) := by decide +kernel
theorem dX1_addLetter_19 : decode cX1_addLetter 19 = .ok (.if_icmp .ge 28, 3) := by decide +kernel
theorem dX1_addLetter_22 : decode cX1_addLetter 22 = .ok (.aload_n 0, 1) := by decide +kernel
theorem dX1_addLetter_23 : decode cX1_addLetter 23 = .ok (.getfield 14, 3) := by decide +kernel
theorem dX1_addLetter_26 : decode cX1_addLetter 26 = .ok (.iload_n 2, 1) := by decide +kernel
theorem dX1_addLetter_27 : decode cX1_addLetter 27 = .ok (.bipush 6, 2) := by decide +kernel
theorem dX1_addLetter_29 : decode cX1_addLetter 29 = .ok (.imul, 1) := by decide +kernel
theorem dX1_addLetter_30 : decode cX1_addLetter 30 = .ok (.iload_n 3, 1) := by decide +kernel
theorem dX1_addLetter_31 : decode cX1_addLetter 31 = .ok (.iadd, 1) := by decide +kernel
theorem dX1_addLetter_32 : decode cX1_addLetter 32 = .ok (.iload_n 1, 1) := by decide +kernel
theorem dX1_addLetter_33 : decode cX1_addLetter 33 = .ok (.invokevirtual 53, 3) := by decide +kernel
theorem dX1_addLetter_36 : decode cX1_addLetter 36 = .ok (.aload_n 0, 1) := by decide +kernel
theorem dX1_addLetter_37 : decode cX1_addLetter 37 = .ok (.getfield 20, 3) := by decide +kernel
theorem dX1_addLetter_40 : decode cX1_addLetter 40 = .ok (.iload_n 2, 1) := by decide +kernel
theorem dX1_addLetter_41 : decode cX1_addLetter 41 = .ok (.iload_n 3, 1) := by decide +kernel
theorem dX1_addLetter_42 : decode cX1_addLetter 42 = .ok (.iconst 1, 1) := by decide +kernel
theorem dX1_addLetter_43 : decode cX1_addLetter 43 = .ok (.iadd, 1) := by decide +kernel
theorem dX1_addLetter_44 : decode cX1_addLetter 44 = .ok (.invokevirtual 53, 3) := by decide +kernel
theorem dX1_addLetter_47 : decode cX1_addLetter 47 = .ok (.return_, 1) := by decide +kernel
theorem dX1_setMinimum_0 : decode cX1_setMinimum 0 = .ok (.aload_n 0, 1) := by decide +kernel
theorem dX1_setMinimum_1 : decode cX1_setMinimum 1 = .ok (.getfield 23, 3) := by decide +kernel
theorem dX1_setMinimum_4 : decode cX1_setMinimum 4 = .ok (.aload_n 0, 1) := by decide +kernel
theorem dX1_setMinimum_5 : decode cX1_setMinimum 5 = .ok (.getfield 26, 3) := by decide +kernel
theorem dX1_setMinimum_8 : decode cX1_setMinimum 8 = .ok (.iconst 1, 1) := by decide +kernel
theorem dX1_setMinimum_9 : decode cX1_setMinimum 9 = .ok (.isub, 1) := by decide +kernel
theorem dX1_setMinimum_10 : decode cX1_setMinimum 10 = .ok (.iload_n 1, 1) := by decide +kernel
theorem dX1_setMinimum_11 : decode cX1_setMinimum 11 = .ok (.invokevirtual 53, 3) := by decide +kernel
theorem dX1_setMinimum_14 : decode cX1_setMinimum 14 = .ok (.return_, 1) := by decide +kernel
theorem dX1_numberOf_0 : decode cX1_numberOf 0 = .ok (.iconst 0, 1) := by decide +kernel
theorem dX1_numberOf_1 : decode cX1_numberOf 1 = .ok (.istore 4, 2) := by decide +kernel
theorem dX1_numberOf_3 : decode cX1_numberOf 3 = .ok (.iload 4, 2) := by decide +kernel
theorem dX1_numberOf_5 : decode cX1_numberOf 5 = .ok (.aload_n 0, 1) := by decide +kernel
theorem dX1_numberOf_6 : decode cX1_numberOf 6 = .ok (.getfield 26, 3) := by decide +kernel
theorem dX1_numberOf_9 : decode cX1_numberOf 9 = .ok (.if_icmp .ge 36, 3) := by decide +kernel
theorem dX1_numberOf_12 : decode cX1_numberOf 12 = .ok (.aload_n 0, 1) := by decide +kernel
theorem dX1_numberOf_13 : decode cX1_numberOf 13 = .ok (.getfield 20, 3) := by decide +kernel
theorem dX1_numberOf_16 : decode cX1_numberOf 16 = .ok (.iload 4, 2) := by decide +kernel
theorem dX1_numberOf_18 : decode cX1_numberOf 18 = .ok (.invokevirtual 57, 3) := by decide +kernel
theorem dX1_numberOf_21 : decode cX1_numberOf 21 = .ok (.iload_n 3, 1) := by decide +kernel
theorem dX1_numberOf_22 : decode cX1_numberOf 22 = .ok (.if_icmp .ne 17, 3) := by decide +kernel
theorem dX1_numberOf_25 : decode cX1_numberOf 25 = .ok (.aload_n 0, 1) := by decide +kernel
theorem dX1_numberOf_26 : decode cX1_numberOf 26 = .ok (.iload 4, 2) := by decide +kernel
theorem dX1_numberOf_28 : decode cX1_numberOf 28 = .ok (.aload_n 1, 1) := by decide +kernel
theorem dX1_numberOf_29 : decode cX1_numberOf 29 = .ok (.iload_n 2, 1) := by decide +kernel
theorem dX1_numberOf_30 : decode cX1_numberOf 30 = .ok (.invokevirtual 61, 3) := by decide +kernel
theorem dX1_numberOf_33 : decode cX1_numberOf 33 = .ok (.ifCond .eq 6, 3) := by decide +kernel
theorem dX1_numberOf_36 : decode cX1_numberOf 36 = .ok (.iload 4, 2) := by decide +kernel
theorem dX1_numberOf_38 : decode cX1_numberOf 38 = .ok (.ireturn, 1) := by decide +kernel
theorem dX1_numberOf_39 : decode cX1_numberOf 39 = .ok (.iinc 4 1, 3) := by decide +kernel
theorem dX1_numberOf_42 : decode cX1_numberOf 42 = .ok (.goto (-39), 3) := by decide +kernel
theorem dX1_numberOf_45 : decode cX1_numberOf 45 = .ok (.iconst (-1), 1) := by decide +kernel
theorem dX1_numberOf_46 : decode cX1_numberOf 46 = .ok (.ireturn, 1) := by decide +kernel
theorem dX1_hasLetters_0 : decode cX1_hasLetters 0 = .ok (.iconst 0, 1) := by decide +kernel
theorem dX1_hasLetters_1 : decode cX1_hasLetters 1 = .ok (.istore 4, 2) := by decide +kernel
theorem dX1_hasLetters_3 : decode cX1_hasLetters 3 = .ok (.iload 4, 2) := by decide +kernel
theorem dX1_hasLetters_5 : decode cX1_hasLetters 5 = .ok (.aload_n 0, 1) := by decide +kernel
theorem dX1_hasLetters_6 : decode cX1_hasLetters 6 = .ok (.getfield 20, 3) := by decide +kernel
theorem dX1_hasLetters_9 : decode cX1_hasLetters 9 = .ok (.iload_n 1, 1) := by decide +kernel
theorem dX1_hasLetters_10 : decode cX1_hasLetters 10 = .ok (.invokevirtual 57, 3) := by decide +kernel
theorem dX1_hasLetters_13 : decode cX1_hasLetters 13 = .ok (.if_icmp .ge 36, 3) := by decide +kernel
theorem dX1_hasLetters_16 : decode cX1_hasLetters 16 = .ok (.aload_n 0, 1) := by decide +kernel
theorem dX1_hasLetters_17 : decode cX1_hasLetters 17 = .ok (.getfield 14, 3) := by decide +kernel
theorem dX1_hasLetters_20 : decode cX1_hasLetters 20 = .ok (.iload_n 1, 1) := by decide +kernel
theorem dX1_hasLetters_21 : decode cX1_hasLetters 21 = .ok (.bipush 6, 2) := by decide +kernel
theorem dX1_hasLetters_23 : decode cX1_hasLetters 23 = .ok (.imul, 1) := by decide +kernel
theorem dX1_hasLetters_24 : decode cX1_hasLetters 24 = .ok (.iload 4, 2) := by decide +kernel
theorem dX1_hasLetters_26 : decode cX1_hasLetters 26 = .ok (.iadd, 1) := by decide +kernel
theorem dX1_hasLetters_27 : decode cX1_hasLetters 27 = .ok (.invokevirtual 57, 3) := by decide +kernel
theorem dX1_hasLetters_30 : decode cX1_hasLetters 30 = .ok (.aload_n 2, 1) := by decide +kernel
theorem dX1_hasLetters_31 : decode cX1_hasLetters 31 = .ok (.iload_n 3, 1) := by decide +kernel
theorem dX1_hasLetters_32 : decode cX1_hasLetters 32 = .ok (.iload 4, 2) := by decide +kernel
theorem dX1_hasLetters_34 : decode cX1_hasLetters 34 = .ok (.iadd, 1) := by decide +kernel
theorem dX1_hasLetters_35 : decode cX1_hasLetters 35 = .ok (.invokevirtual 65, 3) := by decide +kernel
theorem dX1_hasLetters_38 : decode cX1_hasLetters 38 = .ok (.if_icmp .eq 5, 3) := by decide +kernel
theorem dX1_hasLetters_41 : decode cX1_hasLetters 41 = .ok (.iconst 0, 1) := by decide +kernel
theorem dX1_hasLetters_42 : decode cX1_hasLetters 42 = .ok (.ireturn, 1) := by decide +kernel
theorem dX1_hasLetters_43 : decode cX1_hasLetters 43 = .ok (.iinc 4 1, 3) := by decide +kernel
theorem dX1_hasLetters_46 : decode cX1_hasLetters 46 = .ok (.goto (-43), 3) := by decide +kernel
theorem dX1_hasLetters_49 : decode cX1_hasLetters 49 = .ok (.iconst 1, 1) := by decide +kernel
theorem dX1_hasLetters_50 : decode cX1_hasLetters 50 = .ok (.ireturn, 1) := by decide +kernel
theorem dX2_init_0 : decode cX2_init 0 = .ok (.aload_n 0, 1) := by decide +kernel
theorem dX2_init_1 : decode cX2_init 1 = .ok (.invokespecial 3, 3) := by decide +kernel
theorem dX2_init_4 : decode cX2_init 4 = .ok (.aload_n 0, 1) := by decide +kernel
theorem dX2_init_5 : decode cX2_init 5 = .ok (.new 9, 3) := by decide +kernel
theorem dX2_init_8 : decode cX2_init 8 = .ok (.dup, 1) := by decide +kernel
theorem dX2_init_9 : decode cX2_init 9 = .ok (.bipush 6, 2) := by decide +kernel
theorem dX2_init_11 : decode cX2_init 11 = .ok (.invokespecial 11, 3) := by decide +kernel
theorem dX2_init_14 : decode cX2_init 14 = .ok (.putfield 14, 3) := by decide +kernel
theorem dX2_init_17 : decode cX2_init 17 = .ok (.return_, 1) := by decide +kernel
theorem dX2_forget_0 : decode cX2_forget 0 = .ok (.aload_n 0, 1) := by decide +kernel
theorem dX2_forget_1 : decode cX2_forget 1 = .ok (.iconst 0, 1) := by decide +kernel
theorem dX2_forget_2 : decode cX2_forget 2 = .ok (.putfield 20, 3) := by decide +kernel
theorem dX2_forget_5 : decode cX2_forget 5 = .ok (.return_, 1) := by decide +kernel
theorem dX2_remember_0 : decode cX2_remember 0 = .ok (.aload_n 0, 1) := by decide +kernel
theorem dX2_remember_1 : decode cX2_remember 1 = .ok (.getfield 14, 3) := by decide +kernel
theorem dX2_remember_4 : decode cX2_remember 4 = .ok (.aload_n 0, 1) := by decide +kernel
theorem dX2_remember_5 : decode cX2_remember 5 = .ok (.getfield 24, 3) := by decide +kernel
theorem dX2_remember_8 : decode cX2_remember 8 = .ok (.aload_n 1, 1) := by decide +kernel
theorem dX2_remember_9 : decode cX2_remember 9 = .ok (.invokevirtual 27, 3) := by decide +kernel
theorem dX2_remember_12 : decode cX2_remember 12 = .ok (.aload_n 0, 1) := by decide +kernel
theorem dX2_remember_13 : decode cX2_remember 13 = .ok (.aload_n 0, 1) := by decide +kernel
theorem dX2_remember_14 : decode cX2_remember 14 = .ok (.getfield 24, 3) := by decide +kernel
theorem dX2_remember_17 : decode cX2_remember 17 = .ok (.iconst 1, 1) := by decide +kernel
theorem dX2_remember_18 : decode cX2_remember 18 = .ok (.iadd, 1) := by decide +kernel
theorem dX2_remember_19 : decode cX2_remember 19 = .ok (.bipush 6, 2) := by decide +kernel
theorem dX2_remember_21 : decode cX2_remember 21 = .ok (.irem, 1) := by decide +kernel
theorem dX2_remember_22 : decode cX2_remember 22 = .ok (.putfield 24, 3) := by decide +kernel
theorem dX2_remember_25 : decode cX2_remember 25 = .ok (.aload_n 0, 1) := by decide +kernel
theorem dX2_remember_26 : decode cX2_remember 26 = .ok (.bipush 6, 2) := by decide +kernel
theorem dX2_remember_28 : decode cX2_remember 28 = .ok (.aload_n 0, 1) := by decide +kernel
theorem dX2_remember_29 : decode cX2_remember 29 = .ok (.getfield 20, 3) := by decide +kernel
theorem dX2_remember_32 : decode cX2_remember 32 = .ok (.iconst 1, 1) := by decide +kernel
theorem dX2_remember_33 : decode cX2_remember 33 = .ok (.iadd, 1) := by decide +kernel
theorem dX2_remember_34 : decode cX2_remember 34 = .ok (.invokestatic 31, 3) := by decide +kernel
theorem dX2_remember_37 : decode cX2_remember 37 = .ok (.putfield 20, 3) := by decide +kernel
theorem dX2_remember_40 : decode cX2_remember 40 = .ok (.return_, 1) := by decide +kernel
theorem dX3_init_0 : decode cX3_init 0 = .ok (.aload_n 0, 1) := by decide +kernel
theorem dX3_init_1 : decode cX3_init 1 = .ok (.invokespecial 3, 3) := by decide +kernel
theorem dX3_init_4 : decode cX3_init 4 = .ok (.aload_n 0, 1) := by decide +kernel
theorem dX3_init_5 : decode cX3_init 5 = .ok (.new 9, 3) := by decide +kernel
theorem dX3_init_8 : decode cX3_init 8 = .ok (.dup, 1) := by decide +kernel
theorem dX3_init_9 : decode cX3_init 9 = .ok (.invokespecial 11, 3) := by decide +kernel
theorem dX3_init_12 : decode cX3_init 12 = .ok (.putfield 12, 3) := by decide +kernel
theorem dX3_init_15 : decode cX3_init 15 = .ok (.aload_n 0, 1) := by decide +kernel
theorem dX3_init_16 : decode cX3_init 16 = .ok (.iconst (-1), 1) := by decide +kernel
theorem dX3_init_17 : decode cX3_init 17 = .ok (.putfield 18, 3) := by decide +kernel
theorem dX3_init_20 : decode cX3_init 20 = .ok (.return_, 1) := by decide +kernel
theorem dX3_parseSetup_0 : decode cX3_parseSetup 0 = .ok (.aload_n 0, 1) := by decide +kernel
theorem dX3_parseSetup_1 : decode cX3_parseSetup 1 = .ok (.aload_n 1, 1) := by decide +kernel
theorem dX3_parseSetup_2 : decode cX3_parseSetup 2 = .ok (.invokevirtual 22, 3) := by decide +kernel
theorem dX3_parseSetup_5 : decode cX3_parseSetup 5 = .ok (.aload_n 2, 1) := by decide +kernel
theorem dX3_parseSetup_6 : decode cX3_parseSetup 6 = .ok (.invokevirtual 26, 3) := by decide +kernel
theorem dX3_parseSetup_9 : decode cX3_parseSetup 9 = .ok (.aload_n 3, 1) := by decide +kernel
theorem dX3_parseSetup_10 : decode cX3_parseSetup 10 = .ok (.invokevirtual 31, 3) := by decide +kernel
theorem dX3_parseSetup_13 : decode cX3_parseSetup 13 = .ok (.aload_n 0, 1) := by decide +kernel
theorem dX3_parseSetup_14 : decode cX3_parseSetup 14 = .ok (.ldc 34, 2) := by decide +kernel
theorem dX3_parseSetup_16 : decode cX3_parseSetup 16 = .ok (.invokevirtual 36, 3) := by decide +kernel
theorem dX3_parseSetup_19 : decode cX3_parseSetup 19 = .ok (.ifCond .eq 18, 3) := by decide +kernel
theorem dX3_parseSetup_22 : decode cX3_parseSetup 22 = .ok (.aload_n 0, 1) := by decide +kernel
theorem dX3_parseSetup_23 : decode cX3_parseSetup 23 = .ok (.invokevirtual 40, 3) := by decide +kernel
theorem dX3_parseSetup_26 : decode cX3_parseSetup 26 = .ok (.ifCond .eq 11, 3) := by decide +kernel
theorem dX3_parseSetup_29 : decode cX3_parseSetup 29 = .ok (.aload_n 0, 1) := by decide +kernel
theorem dX3_parseSetup_30 : decode cX3_parseSetup 30 = .ok (.aload_n 2, 1) := by decide +kernel
theorem dX3_parseSetup_31 : decode cX3_parseSetup 31 = .ok (.invokevirtual 44, 3) := by decide +kernel
theorem dX3_parseSetup_34 : decode cX3_parseSetup 34 = .ok (.ifCond .ne 5, 3) := by decide +kernel
theorem dX3_parseSetup_37 : decode cX3_parseSetup 37 = .ok (.iconst 0, 1) := by decide +kernel
theorem dX3_parseSetup_38 : decode cX3_parseSetup 38 = .ok (.ireturn, 1) := by decide +kernel
theorem dX3_parseSetup_39 : decode cX3_parseSetup 39 = .ok (.iconst 1, 1) := by decide +kernel
theorem dX3_parseSetup_40 : decode cX3_parseSetup 40 = .ok (.istore 4, 2) := by decide +kernel
theorem dX3_parseSetup_42 : decode cX3_parseSetup 42 = .ok (.iload 4, 2) := by decide +kernel
theorem dX3_parseSetup_44 : decode cX3_parseSetup 44 = .ok (.bipush 8, 2) := by decide +kernel
theorem dX3_parseSetup_46 : decode cX3_parseSetup 46 = .ok (.if_icmp .ge 31, 3) := by decide +kernel
theorem dX3_parseSetup_49 : decode cX3_parseSetup 49 = .ok (.aload_n 0, 1) := by decide +kernel
theorem dX3_parseSetup_50 : decode cX3_parseSetup 50 = .ok (.getfield 12, 3) := by decide +kernel
theorem dX3_parseSetup_53 : decode cX3_parseSetup 53 = .ok (.ldc 48, 2) := by decide +kernel
theorem dX3_parseSetup_55 : decode cX3_parseSetup 55 = .ok (.invokevirtual 50, 3) := by decide +kernel
theorem dX3_parseSetup_58 : decode cX3_parseSetup 58 = .ok (.ifCond .eq 19, 3) := by decide +kernel
theorem dX3_parseSetup_61 : decode cX3_parseSetup 61 = .ok (.aload_n 0, 1) := by decide +kernel
theorem dX3_parseSetup_62 : decode cX3_parseSetup 62 = .ok (.aload_n 2, 1) := by decide +kernel
theorem dX3_parseSetup_63 : decode cX3_parseSetup 63 = .ok (.invokevirtual 44, 3) := by decide +kernel
theorem dX3_parseSetup_66 : decode cX3_parseSetup 66 = .ok (.ifCond .ne 5, 3) := by decide +kernel
theorem dX3_parseSetup_69 : decode cX3_parseSetup 69 = .ok (.iconst 0, 1) := by decide +kernel
theorem dX3_parseSetup_70 : decode cX3_parseSetup 70 = .ok (.ireturn, 1) := by decide +kernel
theorem dX3_parseSetup_71 : decode cX3_parseSetup 71 = .ok (.iinc 4 1, 3) := by decide +kernel
theorem dX3_parseSetup_74 : decode cX3_parseSetup 74 = .ok (.goto (-32), 3) := by decide +kernel
theorem dX3_parseSetup_77 : decode cX3_parseSetup 77 = .ok (.aload_n 0, 1) := by decide +kernel
theorem dX3_parseSetup_78 : decode cX3_parseSetup 78 = .ok (.getfield 12, 3) := by decide +kernel
theorem dX3_parseSetup_81 : decode cX3_parseSetup 81 = .ok (.ldc 48, 2) := by decide +kernel
theorem dX3_parseSetup_83 : decode cX3_parseSetup 83 = .ok (.invokevirtual 50, 3) := by decide +kernel
theorem dX3_parseSetup_86 : decode cX3_parseSetup 86 = .ok (.ifCond .eq 9, 3) := by decide +kernel
theorem dX3_parseSetup_89 : decode cX3_parseSetup 89 = .ok (.aload_n 0, 1) := by decide +kernel
theorem dX3_parseSetup_90 : decode cX3_parseSetup 90 = .ok (.iconst 4, 1) := by decide +kernel
theorem dX3_parseSetup_91 : decode cX3_parseSetup 91 = .ok (.invokevirtual 53, 3) := by decide +kernel
theorem dX3_parseSetup_94 : decode cX3_parseSetup 94 = .ok (.ireturn, 1) := by decide +kernel
theorem dX3_parseSetup_95 : decode cX3_parseSetup 95 = .ok (.iconst 0, 1) := by decide +kernel
theorem dX3_parseSetup_96 : decode cX3_parseSetup 96 = .ok (.istore 4, 2) := by decide +kernel
theorem dX3_parseSetup_98 : decode cX3_parseSetup 98 = .ok (.iload 4, 2) := by decide +kernel
theorem dX3_parseSetup_100 : decode cX3_parseSetup 100 = .ok (.bipush 20, 2) := by decide +kernel
theorem dX3_parseSetup_102 : decode cX3_parseSetup 102 = .ok (.if_icmp .ge 32, 3) := by decide +kernel
theorem dX3_parseSetup_105 : decode cX3_parseSetup 105 = .ok (.aload_n 0, 1) := by decide +kernel
theorem dX3_parseSetup_106 : decode cX3_parseSetup 106 = .ok (.getfield 12, 3) := by decide +kernel
theorem dX3_parseSetup_109 : decode cX3_parseSetup 109 = .ok (.ldc 57, 2) := by decide +kernel
theorem dX3_parseSetup_111 : decode cX3_parseSetup 111 = .ok (.invokevirtual 50, 3) := by decide +kernel
theorem dX3_parseSetup_114 : decode cX3_parseSetup 114 = .ok (.ifCond .eq 20, 3) := by decide +kernel
theorem dX3_parseSetup_117 : decode cX3_parseSetup 117 = .ok (.aload_n 0, 1) := by decide +kernel
theorem dX3_parseSetup_118 : decode cX3_parseSetup 118 = .ok (.aload_n 2, 1) := by decide +kernel
theorem dX3_parseSetup_119 : decode cX3_parseSetup 119 = .ok (.aload_n 3, 1) := by decide +kernel
theorem dX3_parseSetup_120 : decode cX3_parseSetup 120 = .ok (.invokevirtual 59, 3) := by decide +kernel
theorem dX3_parseSetup_123 : decode cX3_parseSetup 123 = .ok (.ifCond .ne 5, 3) := by decide +kernel
theorem dX3_parseSetup_126 : decode cX3_parseSetup 126 = .ok (.iconst 0, 1) := by decide +kernel
theorem dX3_parseSetup_127 : decode cX3_parseSetup 127 = .ok (.ireturn, 1) := by decide +kernel
theorem dX3_parseSetup_128 : decode cX3_parseSetup 128 = .ok (.iinc 4 1, 3) := by decide +kernel
theorem dX3_parseSetup_131 : decode cX3_parseSetup 131 = .ok (.goto (-33), 3) := by decide +kernel
theorem dX3_parseSetup_134 : decode cX3_parseSetup 134 = .ok (.aload_n 0, 1) := by decide +kernel
theorem dX3_parseSetup_135 : decode cX3_parseSetup 135 = .ok (.getfield 12, 3) := by decide +kernel
theorem dX3_parseSetup_138 : decode cX3_parseSetup 138 = .ok (.ldc 57, 2) := by decide +kernel
theorem dX3_parseSetup_140 : decode cX3_parseSetup 140 = .ok (.invokevirtual 50, 3) := by decide +kernel
theorem dX3_parseSetup_143 : decode cX3_parseSetup 143 = .ok (.ifCond .eq 9, 3) := by decide +kernel
theorem dX3_parseSetup_146 : decode cX3_parseSetup 146 = .ok (.aload_n 0, 1) := by decide +kernel
theorem dX3_parseSetup_147 : decode cX3_parseSetup 147 = .ok (.iconst 4, 1) := by decide +kernel
theorem dX3_parseSetup_148 : decode cX3_parseSetup 148 = .ok (.invokevirtual 53, 3) := by decide +kernel
theorem dX3_parseSetup_151 : decode cX3_parseSetup 151 = .ok (.ireturn, 1) := by decide +kernel
theorem dX3_parseSetup_152 : decode cX3_parseSetup 152 = .ok (.aload_n 0, 1) := by decide +kernel
theorem dX3_parseSetup_153 : decode cX3_parseSetup 153 = .ok (.getfield 12, 3) := by decide +kernel
theorem dX3_parseSetup_156 : decode cX3_parseSetup 156 = .ok (.getfield 63, 3) := by decide +kernel
theorem dX3_parseSetup_159 : decode cX3_parseSetup 159 = .ok (.ifCond .eq 11, 3) := by decide +kernel
theorem dX3_parseSetup_162 : decode cX3_parseSetup 162 = .ok (.aload_n 0, 1) := by decide +kernel
theorem dX3_parseSetup_163 : decode cX3_parseSetup 163 = .ok (.iconst 1, 1) := by decide +kernel
theorem dX3_parseSetup_164 : decode cX3_parseSetup 164 = .ok (.invokevirtual 53, 3) := by decide +kernel
theorem dX3_parseSetup_167 : decode cX3_parseSetup 167 = .ok (.ifCond .eq 7, 3) := by decide +kernel
theorem dX3_parseSetup_170 : decode cX3_parseSetup 170 = .ok (.iconst 1, 1) := by decide +kernel
theorem dX3_parseSetup_171 : decode cX3_parseSetup 171 = .ok (.goto 4, 3) := by decide +kernel
theorem dX3_parseSetup_174 : decode cX3_parseSetup 174 = .ok (.iconst 0, 1) := by decide +kernel
theorem dX3_parseSetup_175 : decode cX3_parseSetup 175 = .ok (.ireturn, 1) := by decide +kernel
theorem dX3_begin_0 : decode cX3_begin 0 = .ok (.aload_n 0, 1) := by decide +kernel
theorem dX3_begin_1 : decode cX3_begin 1 = .ok (.iconst 0, 1) := by decide +kernel
theorem dX3_begin_2 : decode cX3_begin 2 = .ok (.putfield 77, 3) := by decide +kernel
theorem dX3_begin_5 : decode cX3_begin 5 = .ok (.aload_n 0, 1) := by decide +kernel
theorem dX3_begin_6 : decode cX3_begin 6 = .ok (.iconst (-1), 1) := by decide +kernel
theorem dX3_begin_7 : decode cX3_begin 7 = .ok (.putfield 18, 3) := by decide +kernel
theorem dX3_begin_10 : decode cX3_begin 10 = .ok (.aload_n 0, 1) := by decide +kernel
theorem dX3_begin_11 : decode cX3_begin 11 = .ok (.getfield 12, 3) := by decide +kernel
theorem dX3_begin_14 : decode cX3_begin 14 = .ok (.aload_n 1, 1) := by decide +kernel
theorem dX3_begin_15 : decode cX3_begin 15 = .ok (.invokevirtual 80, 3) := by decide +kernel
theorem dX3_begin_18 : decode cX3_begin 18 = .ok (.return_, 1) := by decide +kernel
theorem dX3_fail_0 : decode cX3_fail 0 = .ok (.aload_n 0, 1) := by decide +kernel
theorem dX3_fail_1 : decode cX3_fail 1 = .ok (.iload_n 1, 1) := by decide +kernel
theorem dX3_fail_2 : decode cX3_fail 2 = .ok (.putfield 77, 3) := by decide +kernel
theorem dX3_fail_5 : decode cX3_fail 5 = .ok (.aload_n 0, 1) := by decide +kernel
theorem dX3_fail_6 : decode cX3_fail 6 = .ok (.aload_n 0, 1) := by decide +kernel
theorem dX3_fail_7 : decode cX3_fail 7 = .ok (.getfield 12, 3) := by decide +kernel
theorem dX3_fail_10 : decode cX3_fail 10 = .ok (.getfield 83, 3) := by decide +kernel
theorem dX3_fail_13 : decode cX3_fail 13 = .ok (.putfield 18, 3) := by decide +kernel
theorem dX3_fail_16 : decode cX3_fail 16 = .ok (.iconst 0, 1) := by decide +kernel
theorem dX3_fail_17 : decode cX3_fail 17 = .ok (.ireturn, 1) := by decide +kernel
theorem dX3_takeWord_0 : decode cX3_takeWord 0 = .ok (.aload_n 0, 1) := by decide +kernel
theorem dX3_takeWord_1 : decode cX3_takeWord 1 = .ok (.getfield 12, 3) := by decide +kernel
theorem dX3_takeWord_4 : decode cX3_takeWord 4 = .ok (.aload_n 1, 1) := by decide +kernel
theorem dX3_takeWord_5 : decode cX3_takeWord 5 = .ok (.invokevirtual 50, 3) := by decide +kernel
theorem dX3_takeWord_8 : decode cX3_takeWord 8 = .ok (.ifCond .ne 9, 3) := by decide +kernel
theorem dX3_takeWord_11 : decode cX3_takeWord 11 = .ok (.aload_n 0, 1) := by decide +kernel
theorem dX3_takeWord_12 : decode cX3_takeWord 12 = .ok (.iconst 1, 1) := by decide +kernel
theorem dX3_takeWord_13 : decode cX3_takeWord 13 = .ok (.invokevirtual 53, 3) := by decide +kernel
theorem dX3_takeWord_16 : decode cX3_takeWord 16 = .ok (.ireturn, 1) := by decide +kernel
theorem dX3_takeWord_17 : decode cX3_takeWord 17 = .ok (.aload_n 0, 1) := by decide +kernel
theorem dX3_takeWord_18 : decode cX3_takeWord 18 = .ok (.getfield 12, 3) := by decide +kernel
theorem dX3_takeWord_21 : decode cX3_takeWord 21 = .ok (.invokevirtual 86, 3) := by decide +kernel
theorem dX3_takeWord_24 : decode cX3_takeWord 24 = .ok (.iconst 1, 1) := by decide +kernel
theorem dX3_takeWord_25 : decode cX3_takeWord 25 = .ok (.ireturn, 1) := by decide +kernel
theorem dX3_takeSemicolon_0 : decode cX3_takeSemicolon 0 = .ok (.aload_n 0, 1) := by decide +kernel
theorem dX3_takeSemicolon_1 : decode cX3_takeSemicolon 1 = .ok (.getfield 12, 3) := by decide +kernel
theorem dX3_takeSemicolon_4 : decode cX3_takeSemicolon 4 = .ok (.getfield 63, 3) := by decide +kernel
theorem dX3_takeSemicolon_7 : decode cX3_takeSemicolon 7 = .ok (.iconst 3, 1) := by decide +kernel
theorem dX3_takeSemicolon_8 : decode cX3_takeSemicolon 8 = .ok (.if_icmp .eq 9, 3) := by decide +kernel
theorem dX3_takeSemicolon_11 : decode cX3_takeSemicolon 11 = .ok (.aload_n 0, 1) := by decide +kernel
theorem dX3_takeSemicolon_12 : decode cX3_takeSemicolon 12 = .ok (.iconst 1, 1) := by decide +kernel
theorem dX3_takeSemicolon_13 : decode cX3_takeSemicolon 13 = .ok (.invokevirtual 53, 3) := by decide +kernel
theorem dX3_takeSemicolon_16 : decode cX3_takeSemicolon 16 = .ok (.ireturn, 1) := by decide +kernel
theorem dX3_takeSemicolon_17 : decode cX3_takeSemicolon 17 = .ok (.aload_n 0, 1) := by decide +kernel
theorem dX3_takeSemicolon_18 : decode cX3_takeSemicolon 18 = .ok (.getfield 12, 3) := by decide +kernel
theorem dX3_takeSemicolon_21 : decode cX3_takeSemicolon 21 = .ok (.invokevirtual 86, 3) := by decide +kernel
theorem dX3_takeSemicolon_24 : decode cX3_takeSemicolon 24 = .ok (.iconst 1, 1) := by decide +kernel
theorem dX3_takeSemicolon_25 : decode cX3_takeSemicolon 25 = .ok (.ireturn, 1) := by decide +kernel
theorem dX3_takeNumber_0 : decode cX3_takeNumber 0 = .ok (.aload_n 0, 1) := by decide +kernel
theorem dX3_takeNumber_1 : decode cX3_takeNumber 1 = .ok (.getfield 12, 3) := by decide +kernel
theorem dX3_takeNumber_4 : decode cX3_takeNumber 4 = .ok (.getfield 63, 3) := by decide +kernel
theorem dX3_takeNumber_7 : decode cX3_takeNumber 7 = .ok (.iconst 2, 1) := by decide +kernel
theorem dX3_takeNumber_8 : decode cX3_takeNumber 8 = .ok (.if_icmp .eq 11, 3) := by decide +kernel
theorem dX3_takeNumber_11 : decode cX3_takeNumber 11 = .ok (.aload_n 0, 1) := by decide +kernel
theorem dX3_takeNumber_12 : decode cX3_takeNumber 12 = .ok (.iconst 1, 1) := by decide +kernel
theorem dX3_takeNumber_13 : decode cX3_takeNumber 13 = .ok (.invokevirtual 53, 3) := by decide +kernel
theorem dX3_takeNumber_16 : decode cX3_takeNumber 16 = .ok (.pop, 1) := by decide +kernel
theorem dX3_takeNumber_17 : decode cX3_takeNumber 17 = .ok (.iconst (-1), 1) := by decide +kernel
theorem dX3_takeNumber_18 : decode cX3_takeNumber 18 = .ok (.ireturn, 1) := by decide +kernel
theorem dX3_takeNumber_19 : decode cX3_takeNumber 19 = .ok (.aload_n 0, 1) := by decide +kernel
theorem dX3_takeNumber_20 : decode cX3_takeNumber 20 = .ok (.getfield 12, 3) := by decide +kernel
theorem dX3_takeNumber_23 : decode cX3_takeNumber 23 = .ok (.getfield 89, 3) := by decide +kernel
theorem dX3_takeNumber_26 : decode cX3_takeNumber 26 = .ok (.istore_n 3, 1) := by decide +kernel
theorem dX3_takeNumber_27 : decode cX3_takeNumber 27 = .ok (.iload_n 3, 1) := by decide +kernel
theorem dX3_takeNumber_28 : decode cX3_takeNumber 28 = .ok (.iload_n 1, 1) := by decide +kernel
theorem dX3_takeNumber_29 : decode cX3_takeNumber 29 = .ok (.iload_n 2, 1) := by decide +kernel
theorem dX3_takeNumber_30 : decode cX3_takeNumber 30 = .ok (.invokestatic 92, 3) := by decide +kernel
theorem dX3_takeNumber_33 : decode cX3_takeNumber 33 = .ok (.ifCond .eq 11, 3) := by decide +kernel
theorem dX3_takeNumber_36 : decode cX3_takeNumber 36 = .ok (.aload_n 0, 1) := by decide +kernel
theorem dX3_takeNumber_37 : decode cX3_takeNumber 37 = .ok (.iconst 2, 1) := by decide +kernel
theorem dX3_takeNumber_38 : decode cX3_takeNumber 38 = .ok (.invokevirtual 53, 3) := by decide +kernel
theorem dX3_takeNumber_41 : decode cX3_takeNumber 41 = .ok (.pop, 1) := by decide +kernel
theorem dX3_takeNumber_42 : decode cX3_takeNumber 42 = .ok (.iconst (-1), 1) := by decide +kernel
theorem dX3_takeNumber_43 : decode cX3_takeNumber 43 = .ok (.ireturn, 1) := by decide +kernel
theorem dX3_takeNumber_44 : decode cX3_takeNumber 44 = .ok (.aload_n 0, 1) := by decide +kernel
theorem dX3_takeNumber_45 : decode cX3_takeNumber 45 = .ok (.getfield 12, 3) := by decide +kernel
theorem dX3_takeNumber_48 : decode cX3_takeNumber 48 = .ok (.invokevirtual 86, 3) := by decide +kernel
theorem dX3_takeNumber_51 : decode cX3_takeNumber 51 = .ok (.iload_n 3, 1) := by decide +kernel
theorem dX3_takeNumber_52 : decode cX3_takeNumber 52 = .ok (.ireturn, 1) := by decide +kernel
theorem dX3_takeKnownName_0 : decode cX3_takeKnownName 0 = .ok (.aload_n 0, 1) := by decide +kernel
theorem dX3_takeKnownName_1 : decode cX3_takeKnownName 1 = .ok (.getfield 12, 3) := by decide +kernel
theorem dX3_takeKnownName_4 : decode cX3_takeKnownName 4 = .ok (.getfield 63, 3) := by decide +kernel
theorem dX3_takeKnownName_7 : decode cX3_takeKnownName 7 = .ok (.iconst 1, 1) := by decide +kernel
theorem dX3_takeKnownName_8 : decode cX3_takeKnownName 8 = .ok (.if_icmp .eq 11, 3) := by decide +kernel
theorem dX3_takeKnownName_11 : decode cX3_takeKnownName 11 = .ok (.aload_n 0, 1) := by decide +kernel
theorem dX3_takeKnownName_12 : decode cX3_takeKnownName 12 = .ok (.iconst 1, 1) := by decide +kernel
theorem dX3_takeKnownName_13 : decode cX3_takeKnownName 13 = .ok (.invokevirtual 53, 3) := by decide +kernel
theorem dX3_takeKnownName_16 : decode cX3_takeKnownName 16 = .ok (.pop, 1) := by decide +kernel
theorem dX3_takeKnownName_17 : decode cX3_takeKnownName 17 = .ok (.iconst (-1), 1) := by decide +kernel
theorem dX3_takeKnownName_18 : decode cX3_takeKnownName 18 = .ok (.ireturn, 1) := by decide +kernel
theorem dX3_takeKnownName_19 : decode cX3_takeKnownName 19 = .ok (.aload_n 1, 1) := by decide +kernel
theorem dX3_takeKnownName_20 : decode cX3_takeKnownName 20 = .ok (.aload_n 0, 1) := by decide +kernel
theorem dX3_takeKnownName_21 : decode cX3_takeKnownName 21 = .ok (.getfield 12, 3) := by decide +kernel
theorem dX3_takeKnownName_24 : decode cX3_takeKnownName 24 = .ok (.getfield 96, 3) := by decide +kernel
theorem dX3_takeKnownName_27 : decode cX3_takeKnownName 27 = .ok (.aload_n 0, 1) := by decide +kernel
theorem dX3_takeKnownName_28 : decode cX3_takeKnownName 28 = .ok (.getfield 12, 3) := by decide +kernel
theorem dX3_takeKnownName_31 : decode cX3_takeKnownName 31 = .ok (.getfield 83, 3) := by decide +kernel
theorem dX3_takeKnownName_34 : decode cX3_takeKnownName 34 = .ok (.aload_n 0, 1) := by decide +kernel
theorem dX3_takeKnownName_35 : decode cX3_takeKnownName 35 = .ok (.getfield 12, 3) := by decide +kernel
theorem dX3_takeKnownName_38 : decode cX3_takeKnownName 38 = .ok (.invokevirtual 100, 3) := by decide +kernel
theorem dX3_takeKnownName_41 : decode cX3_takeKnownName 41 = .ok (.invokevirtual 103, 3) := by decide +kernel
theorem dX3_takeKnownName_44 : decode cX3_takeKnownName 44 = .ok (.istore_n 2, 1) := by decide +kernel
theorem dX3_takeKnownName_45 : decode cX3_takeKnownName 45 = .ok (.iload_n 2, 1) := by decide +kernel
theorem dX3_takeKnownName_46 : decode cX3_takeKnownName 46 = .ok (.iconst (-1), 1) := by decide +kernel
theorem dX3_takeKnownName_47 : decode cX3_takeKnownName 47 = .ok (.if_icmp .ne 11, 3) := by decide +kernel
theorem dX3_takeKnownName_50 : decode cX3_takeKnownName 50 = .ok (.aload_n 0, 1) := by decide +kernel
theorem dX3_takeKnownName_51 : decode cX3_takeKnownName 51 = .ok (.iconst 3, 1) := by decide +kernel
theorem dX3_takeKnownName_52 : decode cX3_takeKnownName 52 = .ok (.invokevirtual 53, 3) := by decide +kernel
theorem dX3_takeKnownName_55 : decode cX3_takeKnownName 55 = .ok (.pop, 1) := by decide +kernel
theorem dX3_takeKnownName_56 : decode cX3_takeKnownName 56 = .ok (.iconst (-1), 1) := by decide +kernel
theorem dX3_takeKnownName_57 : decode cX3_takeKnownName 57 = .ok (.ireturn, 1) := by decide +kernel
theorem dX3_takeKnownName_58 : decode cX3_takeKnownName 58 = .ok (.aload_n 0, 1) := by decide +kernel
theorem dX3_takeKnownName_59 : decode cX3_takeKnownName 59 = .ok (.getfield 12, 3) := by decide +kernel
theorem dX3_takeKnownName_62 : decode cX3_takeKnownName 62 = .ok (.invokevirtual 86, 3) := by decide +kernel
theorem dX3_takeKnownName_65 : decode cX3_takeKnownName 65 = .ok (.iload_n 2, 1) := by decide +kernel
theorem dX3_takeKnownName_66 : decode cX3_takeKnownName 66 = .ok (.ireturn, 1) := by decide +kernel
theorem dX3_takeNewName_0 : decode cX3_takeNewName 0 = .ok (.aload_n 0, 1) := by decide +kernel
theorem dX3_takeNewName_1 : decode cX3_takeNewName 1 = .ok (.getfield 12, 3) := by decide +kernel
theorem dX3_takeNewName_4 : decode cX3_takeNewName 4 = .ok (.getfield 63, 3) := by decide +kernel
theorem dX3_takeNewName_7 : decode cX3_takeNewName 7 = .ok (.iconst 1, 1) := by decide +kernel
theorem dX3_takeNewName_8 : decode cX3_takeNewName 8 = .ok (.if_icmp .eq 9, 3) := by decide +kernel
theorem dX3_takeNewName_11 : decode cX3_takeNewName 11 = .ok (.aload_n 0, 1) := by decide +kernel
theorem dX3_takeNewName_12 : decode cX3_takeNewName 12 = .ok (.iconst 1, 1) := by decide +kernel
theorem dX3_takeNewName_13 : decode cX3_takeNewName 13 = .ok (.invokevirtual 53, 3) := by decide +kernel
theorem dX3_takeNewName_16 : decode cX3_takeNewName 16 = .ok (.ireturn, 1) := by decide +kernel
theorem dX3_takeNewName_17 : decode cX3_takeNewName 17 = .ok (.aload_n 1, 1) := by decide +kernel
theorem dX3_takeNewName_18 : decode cX3_takeNewName 18 = .ok (.aload_n 0, 1) := by decide +kernel
theorem dX3_takeNewName_19 : decode cX3_takeNewName 19 = .ok (.getfield 12, 3) := by decide +kernel
theorem dX3_takeNewName_22 : decode cX3_takeNewName 22 = .ok (.getfield 96, 3) := by decide +kernel
theorem dX3_takeNewName_25 : decode cX3_takeNewName 25 = .ok (.aload_n 0, 1) := by decide +kernel
theorem dX3_takeNewName_26 : decode cX3_takeNewName 26 = .ok (.getfield 12, 3) := by decide +kernel
theorem dX3_takeNewName_29 : decode cX3_takeNewName 29 = .ok (.getfield 83, 3) := by decide +kernel
theorem dX3_takeNewName_32 : decode cX3_takeNewName 32 = .ok (.aload_n 0, 1) := by decide +kernel
theorem dX3_takeNewName_33 : decode cX3_takeNewName 33 = .ok (.getfield 12, 3) := by decide +kernel
theorem dX3_takeNewName_36 : decode cX3_takeNewName 36 = .ok (.invokevirtual 100, 3) := by decide +kernel
theorem dX3_takeNewName_39 : decode cX3_takeNewName 39 = .ok (.invokevirtual 103, 3) := by decide +kernel
theorem dX3_takeNewName_42 : decode cX3_takeNewName 42 = .ok (.iconst (-1), 1) := by decide +kernel
theorem dX3_takeNewName_43 : decode cX3_takeNewName 43 = .ok (.if_icmp .eq 7, 3) := by decide +kernel
theorem dX3_takeNewName_46 : decode cX3_takeNewName 46 = .ok (.iconst 1, 1) := by decide +kernel
theorem dX3_takeNewName_47 : decode cX3_takeNewName 47 = .ok (.goto 4, 3) := by decide +kernel
theorem dX3_takeNewName_50 : decode cX3_takeNewName 50 = .ok (.iconst 0, 1) := by decide +kernel
theorem dX3_takeNewName_51 : decode cX3_takeNewName 51 = .ok (.istore_n 2, 1) := by decide +kernel
theorem dX3_takeNewName_52 : decode cX3_takeNewName 52 = .ok (.iload_n 2, 1) := by decide +kernel
theorem dX3_takeNewName_53 : decode cX3_takeNewName 53 = .ok (.ifCond .ne 15, 3) := by decide +kernel
theorem dX3_takeNewName_56 : decode cX3_takeNewName 56 = .ok (.aload_n 0, 1) := by decide +kernel
theorem dX3_takeNewName_57 : decode cX3_takeNewName 57 = .ok (.getfield 12, 3) := by decide +kernel
theorem dX3_takeNewName_60 : decode cX3_takeNewName 60 = .ok (.invokevirtual 100, 3) := by decide +kernel
theorem dX3_takeNewName_63 : decode cX3_takeNewName 63 = .ok (.bipush 6, 2) := by decide +kernel
theorem dX3_takeNewName_65 : decode cX3_takeNewName 65 = .ok (.if_icmp .le 9, 3) := by decide +kernel
theorem dX3_takeNewName_68 : decode cX3_takeNewName 68 = .ok (.aload_n 0, 1) := by decide +kernel
theorem dX3_takeNewName_69 : decode cX3_takeNewName 69 = .ok (.iconst 3, 1) := by decide +kernel
theorem dX3_takeNewName_70 : decode cX3_takeNewName 70 = .ok (.invokevirtual 53, 3) := by decide +kernel
theorem dX3_takeNewName_73 : decode cX3_takeNewName 73 = .ok (.ireturn, 1) := by decide +kernel
theorem dX3_takeNewName_74 : decode cX3_takeNewName 74 = .ok (.aload_n 1, 1) := by decide +kernel
theorem dX3_takeNewName_75 : decode cX3_takeNewName 75 = .ok (.invokevirtual 107, 3) := by decide +kernel
theorem dX3_takeNewName_78 : decode cX3_takeNewName 78 = .ok (.aload_n 0, 1) := by decide +kernel
theorem dX3_takeNewName_79 : decode cX3_takeNewName 79 = .ok (.getfield 12, 3) := by decide +kernel
theorem dX3_takeNewName_82 : decode cX3_takeNewName 82 = .ok (.getfield 83, 3) := by decide +kernel
theorem dX3_takeNewName_85 : decode cX3_takeNewName 85 = .ok (.istore_n 3, 1) := by decide +kernel
theorem dX3_takeNewName_86 : decode cX3_takeNewName 86 = .ok (.iload_n 3, 1) := by decide +kernel
theorem dX3_takeNewName_87 : decode cX3_takeNewName 87 = .ok (.aload_n 0, 1) := by decide +kernel
theorem dX3_takeNewName_88 : decode cX3_takeNewName 88 = .ok (.getfield 12, 3) := by decide +kernel
theorem dX3_takeNewName_91 : decode cX3_takeNewName 91 = .ok (.getfield 110, 3) := by decide +kernel
theorem dX3_takeNewName_94 : decode cX3_takeNewName 94 = .ok (.if_icmp .ge 24, 3) := by decide +kernel
theorem dX3_takeNewName_97 : decode cX3_takeNewName 97 = .ok (.aload_n 1, 1) := by decide +kernel
theorem dX3_takeNewName_98 : decode cX3_takeNewName 98 = .ok (.aload_n 0, 1) := by decide +kernel
theorem dX3_takeNewName_99 : decode cX3_takeNewName 99 = .ok (.getfield 12, 3) := by decide +kernel
theorem dX3_takeNewName_102 : decode cX3_takeNewName 102 = .ok (.getfield 96, 3) := by decide +kernel
theorem dX3_takeNewName_105 : decode cX3_takeNewName 105 = .ok (.iload_n 3, 1) := by decide +kernel
theorem dX3_takeNewName_106 : decode cX3_takeNewName 106 = .ok (.invokevirtual 113, 3) := by decide +kernel
theorem dX3_takeNewName_109 : decode cX3_takeNewName 109 = .ok (.invokevirtual 119, 3) := by decide +kernel
theorem dX3_takeNewName_112 : decode cX3_takeNewName 112 = .ok (.iinc 3 1, 3) := by decide +kernel
theorem dX3_takeNewName_115 : decode cX3_takeNewName 115 = .ok (.goto (-29), 3) := by decide +kernel
theorem dX3_takeNewName_118 : decode cX3_takeNewName 118 = .ok (.aload_n 0, 1) := by decide +kernel
theorem dX3_takeNewName_119 : decode cX3_takeNewName 119 = .ok (.getfield 12, 3) := by decide +kernel
theorem dX3_takeNewName_122 : decode cX3_takeNewName 122 = .ok (.invokevirtual 86, 3) := by decide +kernel
theorem dX3_takeNewName_125 : decode cX3_takeNewName 125 = .ok (.iconst 1, 1) := by decide +kernel
theorem dX3_takeNewName_126 : decode cX3_takeNewName 126 = .ok (.ireturn, 1) := by decide +kernel
theorem dX3_takeProduct_0 : decode cX3_takeProduct 0 = .ok (.aload_n 0, 1) := by decide +kernel
theorem dX3_takeProduct_1 : decode cX3_takeProduct 1 = .ok (.ldc 48, 2) := by decide +kernel
theorem dX3_takeProduct_3 : decode cX3_takeProduct 3 = .ok (.invokevirtual 36, 3) := by decide +kernel
theorem dX3_takeProduct_6 : decode cX3_takeProduct 6 = .ok (.ifCond .eq 11, 3) := by decide +kernel
theorem dX3_takeProduct_9 : decode cX3_takeProduct 9 = .ok (.aload_n 0, 1) := by decide +kernel
theorem dX3_takeProduct_10 : decode cX3_takeProduct 10 = .ok (.aload_n 1, 1) := by decide +kernel
theorem dX3_takeProduct_11 : decode cX3_takeProduct 11 = .ok (.invokevirtual 123, 3) := by decide +kernel
theorem dX3_takeProduct_14 : decode cX3_takeProduct 14 = .ok (.ifCond .ne 5, 3) := by decide +kernel
theorem dX3_takeProduct_17 : decode cX3_takeProduct 17 = .ok (.iconst 0, 1) := by decide +kernel
theorem dX3_takeProduct_18 : decode cX3_takeProduct 18 = .ok (.ireturn, 1) := by decide +kernel
theorem dX3_takeProduct_19 : decode cX3_takeProduct 19 = .ok (.aload_n 0, 1) := by decide +kernel
theorem dX3_takeProduct_20 : decode cX3_takeProduct 20 = .ok (.iconst 0, 1) := by decide +kernel
theorem dX3_takeProduct_21 : decode cX3_takeProduct 21 = .ok (.sipush 999, 3) := by decide +kernel
theorem dX3_takeProduct_24 : decode cX3_takeProduct 24 = .ok (.invokevirtual 126, 3) := by decide +kernel
theorem dX3_takeProduct_27 : decode cX3_takeProduct 27 = .ok (.istore_n 2, 1) := by decide +kernel
theorem dX3_takeProduct_28 : decode cX3_takeProduct 28 = .ok (.iload_n 2, 1) := by decide +kernel
theorem dX3_takeProduct_29 : decode cX3_takeProduct 29 = .ok (.iconst (-1), 1) := by decide +kernel
theorem dX3_takeProduct_30 : decode cX3_takeProduct 30 = .ok (.if_icmp .ne 5, 3) := by decide +kernel
theorem dX3_takeProduct_33 : decode cX3_takeProduct 33 = .ok (.iconst 0, 1) := by decide +kernel
theorem dX3_takeProduct_34 : decode cX3_takeProduct 34 = .ok (.ireturn, 1) := by decide +kernel
theorem dX3_takeProduct_35 : decode cX3_takeProduct 35 = .ok (.aload_n 1, 1) := by decide +kernel
theorem dX3_takeProduct_36 : decode cX3_takeProduct 36 = .ok (.iload_n 2, 1) := by decide +kernel
theorem dX3_takeProduct_37 : decode cX3_takeProduct 37 = .ok (.invokevirtual 130, 3) := by decide +kernel
theorem dX3_takeProduct_40 : decode cX3_takeProduct 40 = .ok (.aload_n 0, 1) := by decide +kernel
theorem dX3_takeProduct_41 : decode cX3_takeProduct 41 = .ok (.invokevirtual 40, 3) := by decide +kernel
theorem dX3_takeProduct_44 : decode cX3_takeProduct 44 = .ok (.ireturn, 1) := by decide +kernel
theorem dX3_takeBatch_0 : decode cX3_takeBatch 0 = .ok (.aload_n 0, 1) := by decide +kernel
theorem dX3_takeBatch_1 : decode cX3_takeBatch 1 = .ok (.ldc 57, 2) := by decide +kernel
theorem dX3_takeBatch_3 : decode cX3_takeBatch 3 = .ok (.invokevirtual 36, 3) := by decide +kernel
theorem dX3_takeBatch_6 : decode cX3_takeBatch 6 = .ok (.ifCond .ne 5, 3) := by decide +kernel
theorem dX3_takeBatch_9 : decode cX3_takeBatch 9 = .ok (.iconst 0, 1) := by decide +kernel
theorem dX3_takeBatch_10 : decode cX3_takeBatch 10 = .ok (.ireturn, 1) := by decide +kernel
theorem dX3_takeBatch_11 : decode cX3_takeBatch 11 = .ok (.aload_n 0, 1) := by decide +kernel
theorem dX3_takeBatch_12 : decode cX3_takeBatch 12 = .ok (.aload_n 1, 1) := by decide +kernel
theorem dX3_takeBatch_13 : decode cX3_takeBatch 13 = .ok (.invokevirtual 133, 3) := by decide +kernel
theorem dX3_takeBatch_16 : decode cX3_takeBatch 16 = .ok (.istore_n 3, 1) := by decide +kernel
theorem dX3_takeBatch_17 : decode cX3_takeBatch 17 = .ok (.iload_n 3, 1) := by decide +kernel
theorem dX3_takeBatch_18 : decode cX3_takeBatch 18 = .ok (.iconst (-1), 1) := by decide +kernel
theorem dX3_takeBatch_19 : decode cX3_takeBatch 19 = .ok (.if_icmp .ne 5, 3) := by decide +kernel
theorem dX3_takeBatch_22 : decode cX3_takeBatch 22 = .ok (.iconst 0, 1) := by decide +kernel
theorem dX3_takeBatch_23 : decode cX3_takeBatch 23 = .ok (.ireturn, 1) := by decide +kernel
theorem dX3_takeBatch_24 : decode cX3_takeBatch 24 = .ok (.aload_n 0, 1) := by decide +kernel
theorem dX3_takeBatch_25 : decode cX3_takeBatch 25 = .ok (.iconst 1, 1) := by decide +kernel
theorem dX3_takeBatch_26 : decode cX3_takeBatch 26 = .ok (.sipush 999, 3) := by decide +kernel
theorem dX3_takeBatch_29 : decode cX3_takeBatch 29 = .ok (.invokevirtual 126, 3) := by decide +kernel
theorem dX3_takeBatch_32 : decode cX3_takeBatch 32 = .ok (.istore 4, 2) := by decide +kernel
theorem dX3_takeBatch_34 : decode cX3_takeBatch 34 = .ok (.iload 4, 2) := by decide +kernel
theorem dX3_takeBatch_36 : decode cX3_takeBatch 36 = .ok (.iconst (-1), 1) := by decide +kernel
theorem dX3_takeBatch_37 : decode cX3_takeBatch 37 = .ok (.if_icmp .ne 5, 3) := by decide +kernel
theorem dX3_takeBatch_40 : decode cX3_takeBatch 40 = .ok (.iconst 0, 1) := by decide +kernel
theorem dX3_takeBatch_41 : decode cX3_takeBatch 41 = .ok (.ireturn, 1) := by decide +kernel
theorem dX3_takeBatch_42 : decode cX3_takeBatch 42 = .ok (.aload_n 0, 1) := by decide +kernel
theorem dX3_takeBatch_43 : decode cX3_takeBatch 43 = .ok (.iconst 0, 1) := by decide +kernel
theorem dX3_takeBatch_44 : decode cX3_takeBatch 44 = .ok (.sipush 9999, 3) := by decide +kernel
theorem dX3_takeBatch_47 : decode cX3_takeBatch 47 = .ok (.invokevirtual 126, 3) := by decide +kernel
theorem dX3_takeBatch_50 : decode cX3_takeBatch 50 = .ok (.istore 5, 2) := by decide +kernel
theorem dX3_takeBatch_52 : decode cX3_takeBatch 52 = .ok (.iload 5, 2) := by decide +kernel
theorem dX3_takeBatch_54 : decode cX3_takeBatch 54 = .ok (.iconst (-1), 1) := by decide +kernel
theorem dX3_takeBatch_55 : decode cX3_takeBatch 55 = .ok (.if_icmp .ne 5, 3) := by decide +kernel
theorem dX3_takeBatch_58 : decode cX3_takeBatch 58 = .ok (.iconst 0, 1) := by decide +kernel
theorem dX3_takeBatch_59 : decode cX3_takeBatch 59 = .ok (.ireturn, 1) := by decide +kernel
theorem dX3_takeBatch_60 : decode cX3_takeBatch 60 = .ok (.aload_n 0, 1) := by decide +kernel
theorem dX3_takeBatch_61 : decode cX3_takeBatch 61 = .ok (.iconst 1, 1) := by decide +kernel
theorem dX3_takeBatch_62 : decode cX3_takeBatch 62 = .ok (.sipush 999, 3) := by decide +kernel
theorem dX3_takeBatch_65 : decode cX3_takeBatch 65 = .ok (.invokevirtual 126, 3) := by decide +kernel
theorem dX3_takeBatch_68 : decode cX3_takeBatch 68 = .ok (.istore 6, 2) := by decide +kernel
theorem dX3_takeBatch_70 : decode cX3_takeBatch 70 = .ok (.iload 6, 2) := by decide +kernel
theorem dX3_takeBatch_72 : decode cX3_takeBatch 72 = .ok (.iconst (-1), 1) := by decide +kernel
theorem dX3_takeBatch_73 : decode cX3_takeBatch 73 = .ok (.if_icmp .ne 5, 3) := by decide +kernel
theorem dX3_takeBatch_76 : decode cX3_takeBatch 76 = .ok (.iconst 0, 1) := by decide +kernel
theorem dX3_takeBatch_77 : decode cX3_takeBatch 77 = .ok (.ireturn, 1) := by decide +kernel
theorem dX3_takeBatch_78 : decode cX3_takeBatch 78 = .ok (.aload_n 2, 1) := by decide +kernel
theorem dX3_takeBatch_79 : decode cX3_takeBatch 79 = .ok (.iload_n 3, 1) := by decide +kernel
theorem dX3_takeBatch_80 : decode cX3_takeBatch 80 = .ok (.iload 4, 2) := by decide +kernel
theorem dX3_takeBatch_82 : decode cX3_takeBatch 82 = .ok (.iload 5, 2) := by decide +kernel
theorem dX3_takeBatch_84 : decode cX3_takeBatch 84 = .ok (.iload 6, 2) := by decide +kernel
theorem dX3_takeBatch_86 : decode cX3_takeBatch 86 = .ok (.invokevirtual 137, 3) := by decide +kernel
theorem dX3_takeBatch_89 : decode cX3_takeBatch 89 = .ok (.pop, 1) := by decide +kernel
theorem dX3_takeBatch_90 : decode cX3_takeBatch 90 = .ok (.aload_n 0, 1) := by decide +kernel
theorem dX3_takeBatch_91 : decode cX3_takeBatch 91 = .ok (.invokevirtual 40, 3) := by decide +kernel
theorem dX3_takeBatch_94 : decode cX3_takeBatch 94 = .ok (.ireturn, 1) := by decide +kernel
theorem dX4_init_0 : decode cX4_init 0 = .ok (.aload_n 0, 1) := by decide +kernel
theorem dX4_init_1 : decode cX4_init 1 = .ok (.invokespecial 1, 3) := by decide +kernel
theorem dX4_init_4 : decode cX4_init 4 = .ok (.aload_n 0, 1) := by decide +kernel
theorem dX4_init_5 : decode cX4_init 5 = .ok (.iconst 0, 1) := by decide +kernel
theorem dX4_init_6 : decode cX4_init 6 = .ok (.iload_n 1, 1) := by decide +kernel
theorem dX4_init_7 : decode cX4_init 7 = .ok (.invokestatic 7, 3) := by decide +kernel
theorem dX4_init_10 : decode cX4_init 10 = .ok (.newarray .int, 2) := by decide +kernel
theorem dX4_init_12 : decode cX4_init 12 = .ok (.putfield 13, 3) := by decide +kernel
theorem dX4_init_15 : decode cX4_init 15 = .ok (.return_, 1) := by decide +kernel
theorem dX4_get_0 : decode cX4_get 0 = .ok (.iload_n 1, 1) := by decide +kernel
theorem dX4_get_1 : decode cX4_get 1 = .ok (.ifCond .lt 21, 3) := by decide +kernel
theorem dX4_get_4 : decode cX4_get 4 = .ok (.iload_n 1, 1) := by decide +kernel
theorem dX4_get_5 : decode cX4_get 5 = .ok (.aload_n 0, 1) := by decide +kernel
theorem dX4_get_6 : decode cX4_get 6 = .ok (.getfield 13, 3) := by decide +kernel
theorem dX4_get_9 : decode cX4_get 9 = .ok (.arraylength, 1) := by decide +kernel
theorem dX4_get_10 : decode cX4_get 10 = .ok (.if_icmp .ge 12, 3) := by decide +kernel
theorem dX4_get_13 : decode cX4_get 13 = .ok (.aload_n 0, 1) := by decide +kernel
theorem dX4_get_14 : decode cX4_get 14 = .ok (.getfield 13, 3) := by decide +kernel
theorem dX4_get_17 : decode cX4_get 17 = .ok (.iload_n 1, 1) := by decide +kernel
theorem dX4_get_18 : decode cX4_get 18 = .ok (.iaload, 1) := by decide +kernel
theorem dX4_get_19 : decode cX4_get 19 = .ok (.goto 4, 3) := by decide +kernel
theorem dX4_get_22 : decode cX4_get 22 = .ok (.iconst 0, 1) := by decide +kernel
theorem dX4_get_23 : decode cX4_get 23 = .ok (.ireturn, 1) := by decide +kernel
theorem dX4_put_0 : decode cX4_put 0 = .ok (.iload_n 1, 1) := by decide +kernel
theorem dX4_put_1 : decode cX4_put 1 = .ok (.ifCond .lt 19, 3) := by decide +kernel
theorem dX4_put_4 : decode cX4_put 4 = .ok (.iload_n 1, 1) := by decide +kernel
theorem dX4_put_5 : decode cX4_put 5 = .ok (.aload_n 0, 1) := by decide +kernel
theorem dX4_put_6 : decode cX4_put 6 = .ok (.getfield 13, 3) := by decide +kernel
theorem dX4_put_9 : decode cX4_put 9 = .ok (.arraylength, 1) := by decide +kernel
theorem dX4_put_10 : decode cX4_put 10 = .ok (.if_icmp .ge 10, 3) := by decide +kernel
theorem dX4_put_13 : decode cX4_put 13 = .ok (.aload_n 0, 1) := by decide +kernel
theorem dX4_put_14 : decode cX4_put 14 = .ok (.getfield 13, 3) := by decide +kernel
theorem dX4_put_17 : decode cX4_put 17 = .ok (.iload_n 1, 1) := by decide +kernel
theorem dX4_put_18 : decode cX4_put 18 = .ok (.iload_n 2, 1) := by decide +kernel
theorem dX4_put_19 : decode cX4_put 19 = .ok (.iastore, 1) := by decide +kernel
theorem dX4_put_20 : decode cX4_put 20 = .ok (.return_, 1) := by decide +kernel
theorem dX4_add_0 : decode cX4_add 0 = .ok (.iload_n 1, 1) := by decide +kernel
theorem dX4_add_1 : decode cX4_add 1 = .ok (.ifCond .lt 22, 3) := by decide +kernel
theorem dX4_add_4 : decode cX4_add 4 = .ok (.iload_n 1, 1) := by decide +kernel
theorem dX4_add_5 : decode cX4_add 5 = .ok (.aload_n 0, 1) := by decide +kernel
theorem dX4_add_6 : decode cX4_add 6 = .ok (.getfield 13, 3) := by decide +kernel
theorem dX4_add_9 : decode cX4_add 9 = .ok (.arraylength, 1) := by decide +kernel
theorem dX4_add_10 : decode cX4_add 10 = .ok (.if_icmp .ge 13, 3) := by decide +kernel
theorem dX4_add_13 : decode cX4_add 13 = .ok (.aload_n 0, 1) := by decide +kernel
theorem dX4_add_14 : decode cX4_add 14 = .ok (.getfield 13, 3) := by decide +kernel
theorem dX4_add_17 : decode cX4_add 17 = .ok (.iload_n 1, 1) := by decide +kernel
theorem dX4_add_18 : decode cX4_add 18 = .ok (.dup2, 1) := by decide +kernel
theorem dX4_add_19 : decode cX4_add 19 = .ok (.iaload, 1) := by decide +kernel
theorem dX4_add_20 : decode cX4_add 20 = .ok (.iload_n 2, 1) := by decide +kernel
theorem dX4_add_21 : decode cX4_add 21 = .ok (.iadd, 1) := by decide +kernel
theorem dX4_add_22 : decode cX4_add 22 = .ok (.iastore, 1) := by decide +kernel
theorem dX4_add_23 : decode cX4_add 23 = .ok (.return_, 1) := by decide +kernel
theorem dX4_zero_0 : decode cX4_zero 0 = .ok (.iconst 0, 1) := by decide +kernel
theorem dX4_zero_1 : decode cX4_zero 1 = .ok (.istore_n 1, 1) := by decide +kernel
theorem dX4_zero_2 : decode cX4_zero 2 = .ok (.iload_n 1, 1) := by decide +kernel
theorem dX4_zero_3 : decode cX4_zero 3 = .ok (.aload_n 0, 1) := by decide +kernel
theorem dX4_zero_4 : decode cX4_zero 4 = .ok (.getfield 13, 3) := by decide +kernel
theorem dX4_zero_7 : decode cX4_zero 7 = .ok (.arraylength, 1) := by decide +kernel
theorem dX4_zero_8 : decode cX4_zero 8 = .ok (.if_icmp .ge 16, 3) := by decide +kernel
theorem dX4_zero_11 : decode cX4_zero 11 = .ok (.aload_n 0, 1) := by decide +kernel
theorem dX4_zero_12 : decode cX4_zero 12 = .ok (.getfield 13, 3) := by decide +kernel
theorem dX4_zero_15 : decode cX4_zero 15 = .ok (.iload_n 1, 1) := by decide +kernel
theorem dX4_zero_16 : decode cX4_zero 16 = .ok (.iconst 0, 1) := by decide +kernel
theorem dX4_zero_17 : decode cX4_zero 17 = .ok (.iastore, 1) := by decide +kernel
theorem dX4_zero_18 : decode cX4_zero 18 = .ok (.iinc 1 1, 3) := by decide +kernel
theorem dX4_zero_21 : decode cX4_zero 21 = .ok (.goto (-19), 3) := by decide +kernel
theorem dX4_zero_24 : decode cX4_zero 24 = .ok (.return_, 1) := by decide +kernel
theorem dX4_copyFrom_0 : decode cX4_copyFrom 0 = .ok (.aload_n 1, 1) := by decide +kernel
theorem dX4_copyFrom_1 : decode cX4_copyFrom 1 = .ok (.getfield 13, 3) := by decide +kernel
theorem dX4_copyFrom_4 : decode cX4_copyFrom 4 = .ok (.iconst 0, 1) := by decide +kernel
theorem dX4_copyFrom_5 : decode cX4_copyFrom 5 = .ok (.aload_n 0, 1) := by decide +kernel
theorem dX4_copyFrom_6 : decode cX4_copyFrom 6 = .ok (.getfield 13, 3) := by decide +kernel
theorem dX4_copyFrom_9 : decode cX4_copyFrom 9 = .ok (.iconst 0, 1) := by decide +kernel
theorem dX4_copyFrom_10 : decode cX4_copyFrom 10 = .ok (.aload_n 1, 1) := by decide +kernel
theorem dX4_copyFrom_11 : decode cX4_copyFrom 11 = .ok (.getfield 13, 3) := by decide +kernel
theorem dX4_copyFrom_14 : decode cX4_copyFrom 14 = .ok (.arraylength, 1) := by decide +kernel
theorem dX4_copyFrom_15 : decode cX4_copyFrom 15 = .ok (.aload_n 0, 1) := by decide +kernel
theorem dX4_copyFrom_16 : decode cX4_copyFrom 16 = .ok (.getfield 13, 3) := by decide +kernel
theorem dX4_copyFrom_19 : decode cX4_copyFrom 19 = .ok (.arraylength, 1) := by decide +kernel
theorem dX4_copyFrom_20 : decode cX4_copyFrom 20 = .ok (.invokestatic 19, 3) := by decide +kernel
theorem dX4_copyFrom_23 : decode cX4_copyFrom 23 = .ok (.invokestatic 22, 3) := by decide +kernel
theorem dX4_copyFrom_26 : decode cX4_copyFrom 26 = .ok (.return_, 1) := by decide +kernel
theorem dX5_init_0 : decode cX5_init 0 = .ok (.aload_n 0, 1) := by decide +kernel
theorem dX5_init_1 : decode cX5_init 1 = .ok (.invokespecial 3, 3) := by decide +kernel
theorem dX5_init_4 : decode cX5_init 4 = .ok (.aload_n 0, 1) := by decide +kernel
theorem dX5_init_5 : decode cX5_init 5 = .ok (.new 9, 3) := by decide +kernel
theorem dX5_init_8 : decode cX5_init 8 = .ok (.dup, 1) := by decide +kernel
theorem dX5_init_9 : decode cX5_init 9 = .ok (.bipush 30, 2) := by decide +kernel
theorem dX5_init_11 : decode cX5_init 11 = .ok (.invokespecial 11, 3) := by decide +kernel
theorem dX5_init_14 : decode cX5_init 14 = .ok (.putfield 14, 3) := by decide +kernel
theorem dX5_init_17 : decode cX5_init 17 = .ok (.aload_n 0, 1) := by decide +kernel
theorem dX5_init_18 : decode cX5_init 18 = .ok (.new 9, 3) := by decide +kernel
theorem dX5_init_21 : decode cX5_init 21 = .ok (.dup, 1) := by decide +kernel
theorem dX5_init_22 : decode cX5_init 22 = .ok (.bipush 120, 2) := by decide +kernel
theorem dX5_init_24 : decode cX5_init 24 = .ok (.invokespecial 11, 3) := by decide +kernel
theorem dX5_init_27 : decode cX5_init 27 = .ok (.putfield 20, 3) := by decide +kernel
theorem dX5_init_30 : decode cX5_init 30 = .ok (.return_, 1) := by decide +kernel
theorem dX6_init_0 : decode cX6_init 0 = .ok (.aload_n 0, 1) := by decide +kernel
theorem dX6_init_1 : decode cX6_init 1 = .ok (.invokespecial 1, 3) := by decide +kernel
theorem dX6_init_4 : decode cX6_init 4 = .ok (.aload_n 0, 1) := by decide +kernel
theorem dX6_init_5 : decode cX6_init 5 = .ok (.iconst 0, 1) := by decide +kernel
theorem dX6_init_6 : decode cX6_init 6 = .ok (.iload_n 1, 1) := by decide +kernel
theorem dX6_init_7 : decode cX6_init 7 = .ok (.invokestatic 7, 3) := by decide +kernel
theorem dX6_init_10 : decode cX6_init 10 = .ok (.anewarray 13, 3) := by decide +kernel
theorem dX6_init_13 : decode cX6_init 13 = .ok (.putfield 15, 3) := by decide +kernel
theorem dX6_init_16 : decode cX6_init 16 = .ok (.aload_n 0, 1) := by decide +kernel
theorem dX6_init_17 : decode cX6_init 17 = .ok (.new 21, 3) := by decide +kernel
theorem dX6_init_20 : decode cX6_init 20 = .ok (.dup, 1) := by decide +kernel
theorem dX6_init_21 : decode cX6_init 21 = .ok (.iload_n 1, 1) := by decide +kernel
theorem dX6_init_22 : decode cX6_init 22 = .ok (.invokespecial 23, 3) := by decide +kernel
theorem dX6_init_25 : decode cX6_init 25 = .ok (.putfield 26, 3) := by decide +kernel
theorem dX6_init_28 : decode cX6_init 28 = .ok (.iconst 0, 1) := by decide +kernel
theorem dX6_init_29 : decode cX6_init 29 = .ok (.istore_n 2, 1) := by decide +kernel
theorem dX6_init_30 : decode cX6_init 30 = .ok (.iload_n 2, 1) := by decide +kernel
theorem dX6_init_31 : decode cX6_init 31 = .ok (.aload_n 0, 1) := by decide +kernel
theorem dX6_init_32 : decode cX6_init 32 = .ok (.getfield 15, 3) := by decide +kernel
theorem dX6_init_35 : decode cX6_init 35 = .ok (.arraylength, 1) := by decide +kernel
theorem dX6_init_36 : decode cX6_init 36 = .ok (.if_icmp .ge 22, 3) := by decide +kernel
theorem dX6_init_39 : decode cX6_init 39 = .ok (.aload_n 0, 1) := by decide +kernel
theorem dX6_init_40 : decode cX6_init 40 = .ok (.getfield 15, 3) := by decide +kernel
theorem dX6_init_43 : decode cX6_init 43 = .ok (.iload_n 2, 1) := by decide +kernel
theorem dX6_init_44 : decode cX6_init 44 = .ok (.new 13, 3) := by decide +kernel
theorem dX6_init_47 : decode cX6_init 47 = .ok (.dup, 1) := by decide +kernel
theorem dX6_init_48 : decode cX6_init 48 = .ok (.invokespecial 30, 3) := by decide +kernel
theorem dX6_init_51 : decode cX6_init 51 = .ok (.aastore, 1) := by decide +kernel
theorem dX6_init_52 : decode cX6_init 52 = .ok (.iinc 2 1, 3) := by decide +kernel
theorem dX6_init_55 : decode cX6_init 55 = .ok (.goto (-25), 3) := by decide +kernel
theorem dX6_init_58 : decode cX6_init 58 = .ok (.return_, 1) := by decide +kernel
theorem dX6_empty_0 : decode cX6_empty 0 = .ok (.aload_n 0, 1) := by decide +kernel
theorem dX6_empty_1 : decode cX6_empty 1 = .ok (.getfield 26, 3) := by decide +kernel
theorem dX6_empty_4 : decode cX6_empty 4 = .ok (.invokevirtual 31, 3) := by decide +kernel
theorem dX6_empty_7 : decode cX6_empty 7 = .ok (.return_, 1) := by decide +kernel
theorem dX6_store_0 : decode cX6_store 0 = .ok (.iload_n 1, 1) := by decide +kernel
theorem dX6_store_1 : decode cX6_store 1 = .ok (.ifCond .lt 40, 3) := by decide +kernel
theorem dX6_store_4 : decode cX6_store 4 = .ok (.iload_n 1, 1) := by decide +kernel
theorem dX6_store_5 : decode cX6_store 5 = .ok (.aload_n 0, 1) := by decide +kernel
theorem dX6_store_6 : decode cX6_store 6 = .ok (.getfield 15, 3) := by decide +kernel
theorem dX6_store_9 : decode cX6_store 9 = .ok (.arraylength, 1) := by decide +kernel
theorem dX6_store_10 : decode cX6_store 10 = .ok (.if_icmp .ge 31, 3) := by decide +kernel
theorem dX6_store_13 : decode cX6_store 13 = .ok (.aload_n 0, 1) := by decide +kernel
theorem dX6_store_14 : decode cX6_store 14 = .ok (.getfield 15, 3) := by decide +kernel
theorem dX6_store_17 : decode cX6_store 17 = .ok (.iload_n 1, 1) := by decide +kernel
theorem dX6_store_18 : decode cX6_store 18 = .ok (.aaload, 1) := by decide +kernel
theorem dX6_store_19 : decode cX6_store 19 = .ok (.ifnull 22, 3) := by decide +kernel
theorem dX6_store_22 : decode cX6_store 22 = .ok (.aload_n 0, 1) := by decide +kernel
theorem dX6_store_23 : decode cX6_store 23 = .ok (.getfield 15, 3) := by decide +kernel
theorem dX6_store_26 : decode cX6_store 26 = .ok (.iload_n 1, 1) := by decide +kernel
theorem dX6_store_27 : decode cX6_store 27 = .ok (.aaload, 1) := by decide +kernel
theorem dX6_store_28 : decode cX6_store 28 = .ok (.aload_n 2, 1) := by decide +kernel
theorem dX6_store_29 : decode cX6_store 29 = .ok (.invokevirtual 38, 3) := by decide +kernel
theorem dX6_store_32 : decode cX6_store 32 = .ok (.aload_n 0, 1) := by decide +kernel
theorem dX6_store_33 : decode cX6_store 33 = .ok (.getfield 26, 3) := by decide +kernel
theorem dX6_store_36 : decode cX6_store 36 = .ok (.iload_n 1, 1) := by decide +kernel
theorem dX6_store_37 : decode cX6_store 37 = .ok (.iconst 1, 1) := by decide +kernel
theorem dX6_store_38 : decode cX6_store 38 = .ok (.invokevirtual 42, 3) := by decide +kernel
theorem dX6_store_41 : decode cX6_store 41 = .ok (.return_, 1) := by decide +kernel
theorem dX7_init_0 : decode cX7_init 0 = .ok (.aload_n 0, 1) := by decide +kernel
theorem dX7_init_1 : decode cX7_init 1 = .ok (.invokespecial 3, 3) := by decide +kernel
theorem dX7_init_4 : decode cX7_init 4 = .ok (.aload_n 0, 1) := by decide +kernel
theorem dX7_init_5 : decode cX7_init 5 = .ok (.new 9, 3) := by decide +kernel
theorem dX7_init_8 : decode cX7_init 8 = .ok (.dup, 1) := by decide +kernel
theorem dX7_init_9 : decode cX7_init 9 = .ok (.bipush 20, 2) := by decide +kernel
theorem dX7_init_11 : decode cX7_init 11 = .ok (.invokespecial 11, 3) := by decide +kernel
theorem dX7_init_14 : decode cX7_init 14 = .ok (.putfield 14, 3) := by decide +kernel
theorem dX7_init_17 : decode cX7_init 17 = .ok (.aload_n 0, 1) := by decide +kernel
theorem dX7_init_18 : decode cX7_init 18 = .ok (.new 9, 3) := by decide +kernel
theorem dX7_init_21 : decode cX7_init 21 = .ok (.dup, 1) := by decide +kernel
theorem dX7_init_22 : decode cX7_init 22 = .ok (.bipush 20, 2) := by decide +kernel
theorem dX7_init_24 : decode cX7_init 24 = .ok (.invokespecial 11, 3) := by decide +kernel
theorem dX7_init_27 : decode cX7_init 27 = .ok (.putfield 20, 3) := by decide +kernel
theorem dX7_init_30 : decode cX7_init 30 = .ok (.aload_n 0, 1) := by decide +kernel
theorem dX7_init_31 : decode cX7_init 31 = .ok (.new 9, 3) := by decide +kernel
theorem dX7_init_34 : decode cX7_init 34 = .ok (.dup, 1) := by decide +kernel
theorem dX7_init_35 : decode cX7_init 35 = .ok (.bipush 20, 2) := by decide +kernel
theorem dX7_init_37 : decode cX7_init 37 = .ok (.invokespecial 11, 3) := by decide +kernel
theorem dX7_init_40 : decode cX7_init 40 = .ok (.putfield 23, 3) := by decide +kernel
theorem dX7_init_43 : decode cX7_init 43 = .ok (.aload_n 0, 1) := by decide +kernel
theorem dX7_init_44 : decode cX7_init 44 = .ok (.new 9, 3) := by decide +kernel
theorem dX7_init_47 : decode cX7_init 47 = .ok (.dup, 1) := by decide +kernel
theorem dX7_init_48 : decode cX7_init 48 = .ok (.bipush 20, 2) := by decide +kernel
theorem dX7_init_50 : decode cX7_init 50 = .ok (.invokespecial 11, 3) := by decide +kernel
theorem dX7_init_53 : decode cX7_init 53 = .ok (.putfield 26, 3) := by decide +kernel
theorem dX7_init_56 : decode cX7_init 56 = .ok (.aload_n 0, 1) := by decide +kernel
theorem dX7_init_57 : decode cX7_init 57 = .ok (.new 9, 3) := by decide +kernel
theorem dX7_init_60 : decode cX7_init 60 = .ok (.dup, 1) := by decide +kernel
theorem dX7_init_61 : decode cX7_init 61 = .ok (.bipush 20, 2) := by decide +kernel
theorem dX7_init_63 : decode cX7_init 63 = .ok (.invokespecial 11, 3) := by decide +kernel
theorem dX7_init_66 : decode cX7_init 66 = .ok (.putfield 29, 3) := by decide +kernel
theorem dX7_init_69 : decode cX7_init 69 = .ok (.aload_n 0, 1) := by decide +kernel
theorem dX7_init_70 : decode cX7_init 70 = .ok (.new 9, 3) := by decide +kernel
theorem dX7_init_73 : decode cX7_init 73 = .ok (.dup, 1) := by decide +kernel
theorem dX7_init_74 : decode cX7_init 74 = .ok (.bipush 10, 2) := by decide +kernel
theorem dX7_init_76 : decode cX7_init 76 = .ok (.invokespecial 11, 3) := by decide +kernel
theorem dX7_init_79 : decode cX7_init 79 = .ok (.putfield 32, 3) := by decide +kernel
theorem dX7_init_82 : decode cX7_init 82 = .ok (.aload_n 0, 1) := by decide +kernel
theorem dX7_init_83 : decode cX7_init 83 = .ok (.new 9, 3) := by decide +kernel
theorem dX7_init_86 : decode cX7_init 86 = .ok (.dup, 1) := by decide +kernel
theorem dX7_init_87 : decode cX7_init 87 = .ok (.bipush 10, 2) := by decide +kernel
theorem dX7_init_89 : decode cX7_init 89 = .ok (.invokespecial 11, 3) := by decide +kernel
theorem dX7_init_92 : decode cX7_init 92 = .ok (.putfield 35, 3) := by decide +kernel
theorem dX7_init_95 : decode cX7_init 95 = .ok (.aload_n 0, 1) := by decide +kernel
theorem dX7_init_96 : decode cX7_init 96 = .ok (.new 9, 3) := by decide +kernel
theorem dX7_init_99 : decode cX7_init 99 = .ok (.dup, 1) := by decide +kernel
theorem dX7_init_100 : decode cX7_init 100 = .ok (.bipush 10, 2) := by decide +kernel
theorem dX7_init_102 : decode cX7_init 102 = .ok (.invokespecial 11, 3) := by decide +kernel
theorem dX7_init_105 : decode cX7_init 105 = .ok (.putfield 38, 3) := by decide +kernel
theorem dX7_init_108 : decode cX7_init 108 = .ok (.aload_n 0, 1) := by decide +kernel
theorem dX7_init_109 : decode cX7_init 109 = .ok (.new 9, 3) := by decide +kernel
theorem dX7_init_112 : decode cX7_init 112 = .ok (.dup, 1) := by decide +kernel
theorem dX7_init_113 : decode cX7_init 113 = .ok (.bipush 10, 2) := by decide +kernel
theorem dX7_init_115 : decode cX7_init 115 = .ok (.invokespecial 11, 3) := by decide +kernel
theorem dX7_init_118 : decode cX7_init 118 = .ok (.putfield 41, 3) := by decide +kernel
theorem dX7_init_121 : decode cX7_init 121 = .ok (.aload_n 0, 1) := by decide +kernel
theorem dX7_init_122 : decode cX7_init 122 = .ok (.new 9, 3) := by decide +kernel
theorem dX7_init_125 : decode cX7_init 125 = .ok (.dup, 1) := by decide +kernel
theorem dX7_init_126 : decode cX7_init 126 = .ok (.sipush 200, 3) := by decide +kernel
theorem dX7_init_129 : decode cX7_init 129 = .ok (.invokespecial 11, 3) := by decide +kernel
theorem dX7_init_132 : decode cX7_init 132 = .ok (.putfield 44, 3) := by decide +kernel
theorem dX7_init_135 : decode cX7_init 135 = .ok (.aload_n 0, 1) := by decide +kernel
theorem dX7_init_136 : decode cX7_init 136 = .ok (.new 9, 3) := by decide +kernel
theorem dX7_init_139 : decode cX7_init 139 = .ok (.dup, 1) := by decide +kernel
theorem dX7_init_140 : decode cX7_init 140 = .ok (.bipush 8, 2) := by decide +kernel
theorem dX7_init_142 : decode cX7_init 142 = .ok (.invokespecial 11, 3) := by decide +kernel
theorem dX7_init_145 : decode cX7_init 145 = .ok (.putfield 47, 3) := by decide +kernel
theorem dX7_init_148 : decode cX7_init 148 = .ok (.aload_n 0, 1) := by decide +kernel
theorem dX7_init_149 : decode cX7_init 149 = .ok (.new 9, 3) := by decide +kernel
theorem dX7_init_152 : decode cX7_init 152 = .ok (.dup, 1) := by decide +kernel
theorem dX7_init_153 : decode cX7_init 153 = .ok (.bipush 8, 2) := by decide +kernel
theorem dX7_init_155 : decode cX7_init 155 = .ok (.invokespecial 11, 3) := by decide +kernel
theorem dX7_init_158 : decode cX7_init 158 = .ok (.putfield 50, 3) := by decide +kernel
theorem dX7_init_161 : decode cX7_init 161 = .ok (.aload_n 0, 1) := by decide +kernel
theorem dX7_init_162 : decode cX7_init 162 = .ok (.new 9, 3) := by decide +kernel
theorem dX7_init_165 : decode cX7_init 165 = .ok (.dup, 1) := by decide +kernel
theorem dX7_init_166 : decode cX7_init 166 = .ok (.bipush 8, 2) := by decide +kernel
theorem dX7_init_168 : decode cX7_init 168 = .ok (.invokespecial 11, 3) := by decide +kernel
theorem dX7_init_171 : decode cX7_init 171 = .ok (.putfield 53, 3) := by decide +kernel
theorem dX7_init_174 : decode cX7_init 174 = .ok (.aload_n 0, 1) := by decide +kernel
theorem dX7_init_175 : decode cX7_init 175 = .ok (.new 9, 3) := by decide +kernel
theorem dX7_init_178 : decode cX7_init 178 = .ok (.dup, 1) := by decide +kernel
theorem dX7_init_179 : decode cX7_init 179 = .ok (.bipush 8, 2) := by decide +kernel
theorem dX7_init_181 : decode cX7_init 181 = .ok (.invokespecial 11, 3) := by decide +kernel
theorem dX7_init_184 : decode cX7_init 184 = .ok (.putfield 56, 3) := by decide +kernel
theorem dX7_init_187 : decode cX7_init 187 = .ok (.aload_n 0, 1) := by decide +kernel
theorem dX7_init_188 : decode cX7_init 188 = .ok (.new 9, 3) := by decide +kernel
theorem dX7_init_191 : decode cX7_init 191 = .ok (.dup, 1) := by decide +kernel
theorem dX7_init_192 : decode cX7_init 192 = .ok (.bipush 8, 2) := by decide +kernel
theorem dX7_init_194 : decode cX7_init 194 = .ok (.invokespecial 11, 3) := by decide +kernel
theorem dX7_init_197 : decode cX7_init 197 = .ok (.putfield 59, 3) := by decide +kernel
theorem dX7_init_200 : decode cX7_init 200 = .ok (.return_, 1) := by decide +kernel
theorem dX7_empty_0 : decode cX7_empty 0 = .ok (.aload_n 0, 1) := by decide +kernel
theorem dX7_empty_1 : decode cX7_empty 1 = .ok (.iconst 0, 1) := by decide +kernel
theorem dX7_empty_2 : decode cX7_empty 2 = .ok (.putfield 62, 3) := by decide +kernel
theorem dX7_empty_5 : decode cX7_empty 5 = .ok (.aload_n 0, 1) := by decide +kernel
theorem dX7_empty_6 : decode cX7_empty 6 = .ok (.iconst 0, 1) := by decide +kernel
theorem dX7_empty_7 : decode cX7_empty 7 = .ok (.putfield 66, 3) := by decide +kernel
theorem dX7_empty_10 : decode cX7_empty 10 = .ok (.aload_n 0, 1) := by decide +kernel
theorem dX7_empty_11 : decode cX7_empty 11 = .ok (.iconst 0, 1) := by decide +kernel
theorem dX7_empty_12 : decode cX7_empty 12 = .ok (.putfield 69, 3) := by decide +kernel
theorem dX7_empty_15 : decode cX7_empty 15 = .ok (.aload_n 0, 1) := by decide +kernel
theorem dX7_empty_16 : decode cX7_empty 16 = .ok (.getfield 47, 3) := by decide +kernel
theorem dX7_empty_19 : decode cX7_empty 19 = .ok (.invokevirtual 72, 3) := by decide +kernel
theorem dX7_empty_22 : decode cX7_empty 22 = .ok (.aload_n 0, 1) := by decide +kernel
theorem dX7_empty_23 : decode cX7_empty 23 = .ok (.getfield 50, 3) := by decide +kernel
theorem dX7_empty_26 : decode cX7_empty 26 = .ok (.invokevirtual 72, 3) := by decide +kernel
theorem dX7_empty_29 : decode cX7_empty 29 = .ok (.aload_n 0, 1) := by decide +kernel
theorem dX7_empty_30 : decode cX7_empty 30 = .ok (.getfield 53, 3) := by decide +kernel
theorem dX7_empty_33 : decode cX7_empty 33 = .ok (.invokevirtual 72, 3) := by decide +kernel
theorem dX7_empty_36 : decode cX7_empty 36 = .ok (.aload_n 0, 1) := by decide +kernel
theorem dX7_empty_37 : decode cX7_empty 37 = .ok (.getfield 56, 3) := by decide +kernel
theorem dX7_empty_40 : decode cX7_empty 40 = .ok (.invokevirtual 72, 3) := by decide +kernel
theorem dX7_empty_43 : decode cX7_empty 43 = .ok (.aload_n 0, 1) := by decide +kernel
theorem dX7_empty_44 : decode cX7_empty 44 = .ok (.getfield 59, 3) := by decide +kernel
theorem dX7_empty_47 : decode cX7_empty 47 = .ok (.invokevirtual 72, 3) := by decide +kernel
theorem dX7_empty_50 : decode cX7_empty 50 = .ok (.return_, 1) := by decide +kernel
theorem dX7_copyFrom_0 : decode cX7_copyFrom 0 = .ok (.aload_n 0, 1) := by decide +kernel
theorem dX7_copyFrom_1 : decode cX7_copyFrom 1 = .ok (.aload_n 1, 1) := by decide +kernel
theorem dX7_copyFrom_2 : decode cX7_copyFrom 2 = .ok (.getfield 62, 3) := by decide +kernel
theorem dX7_copyFrom_5 : decode cX7_copyFrom 5 = .ok (.putfield 62, 3) := by decide +kernel
theorem dX7_copyFrom_8 : decode cX7_copyFrom 8 = .ok (.aload_n 0, 1) := by decide +kernel
theorem dX7_copyFrom_9 : decode cX7_copyFrom 9 = .ok (.aload_n 1, 1) := by decide +kernel
theorem dX7_copyFrom_10 : decode cX7_copyFrom 10 = .ok (.getfield 66, 3) := by decide +kernel
theorem dX7_copyFrom_13 : decode cX7_copyFrom 13 = .ok (.putfield 66, 3) := by decide +kernel
theorem dX7_copyFrom_16 : decode cX7_copyFrom 16 = .ok (.aload_n 0, 1) := by decide +kernel
theorem dX7_copyFrom_17 : decode cX7_copyFrom 17 = .ok (.getfield 14, 3) := by decide +kernel
theorem dX7_copyFrom_20 : decode cX7_copyFrom 20 = .ok (.aload_n 1, 1) := by decide +kernel
theorem dX7_copyFrom_21 : decode cX7_copyFrom 21 = .ok (.getfield 14, 3) := by decide +kernel
theorem dX7_copyFrom_24 : decode cX7_copyFrom 24 = .ok (.invokevirtual 75, 3) := by decide +kernel
theorem dX7_copyFrom_27 : decode cX7_copyFrom 27 = .ok (.aload_n 0, 1) := by decide +kernel
theorem dX7_copyFrom_28 : decode cX7_copyFrom 28 = .ok (.getfield 20, 3) := by decide +kernel
theorem dX7_copyFrom_31 : decode cX7_copyFrom 31 = .ok (.aload_n 1, 1) := by decide +kernel
theorem dX7_copyFrom_32 : decode cX7_copyFrom 32 = .ok (.getfield 20, 3) := by decide +kernel
theorem dX7_copyFrom_35 : decode cX7_copyFrom 35 = .ok (.invokevirtual 75, 3) := by decide +kernel
theorem dX7_copyFrom_38 : decode cX7_copyFrom 38 = .ok (.aload_n 0, 1) := by decide +kernel
theorem dX7_copyFrom_39 : decode cX7_copyFrom 39 = .ok (.getfield 23, 3) := by decide +kernel
theorem dX7_copyFrom_42 : decode cX7_copyFrom 42 = .ok (.aload_n 1, 1) := by decide +kernel
theorem dX7_copyFrom_43 : decode cX7_copyFrom 43 = .ok (.getfield 23, 3) := by decide +kernel
theorem dX7_copyFrom_46 : decode cX7_copyFrom 46 = .ok (.invokevirtual 75, 3) := by decide +kernel
theorem dX7_copyFrom_49 : decode cX7_copyFrom 49 = .ok (.aload_n 0, 1) := by decide +kernel
theorem dX7_copyFrom_50 : decode cX7_copyFrom 50 = .ok (.getfield 26, 3) := by decide +kernel
theorem dX7_copyFrom_53 : decode cX7_copyFrom 53 = .ok (.aload_n 1, 1) := by decide +kernel
theorem dX7_copyFrom_54 : decode cX7_copyFrom 54 = .ok (.getfield 26, 3) := by decide +kernel
theorem dX7_copyFrom_57 : decode cX7_copyFrom 57 = .ok (.invokevirtual 75, 3) := by decide +kernel
theorem dX7_copyFrom_60 : decode cX7_copyFrom 60 = .ok (.aload_n 0, 1) := by decide +kernel
theorem dX7_copyFrom_61 : decode cX7_copyFrom 61 = .ok (.getfield 29, 3) := by decide +kernel
theorem dX7_copyFrom_64 : decode cX7_copyFrom 64 = .ok (.aload_n 1, 1) := by decide +kernel
theorem dX7_copyFrom_65 : decode cX7_copyFrom 65 = .ok (.getfield 29, 3) := by decide +kernel
theorem dX7_copyFrom_68 : decode cX7_copyFrom 68 = .ok (.invokevirtual 75, 3) := by decide +kernel
theorem dX7_copyFrom_71 : decode cX7_copyFrom 71 = .ok (.aload_n 0, 1) := by decide +kernel
theorem dX7_copyFrom_72 : decode cX7_copyFrom 72 = .ok (.aload_n 1, 1) := by decide +kernel
theorem dX7_copyFrom_73 : decode cX7_copyFrom 73 = .ok (.getfield 69, 3) := by decide +kernel
theorem dX7_copyFrom_76 : decode cX7_copyFrom 76 = .ok (.putfield 69, 3) := by decide +kernel
theorem dX7_copyFrom_79 : decode cX7_copyFrom 79 = .ok (.aload_n 0, 1) := by decide +kernel
theorem dX7_copyFrom_80 : decode cX7_copyFrom 80 = .ok (.getfield 32, 3) := by decide +kernel
theorem dX7_copyFrom_83 : decode cX7_copyFrom 83 = .ok (.aload_n 1, 1) := by decide +kernel
theorem dX7_copyFrom_84 : decode cX7_copyFrom 84 = .ok (.getfield 32, 3) := by decide +kernel
theorem dX7_copyFrom_87 : decode cX7_copyFrom 87 = .ok (.invokevirtual 75, 3) := by decide +kernel
theorem dX7_copyFrom_90 : decode cX7_copyFrom 90 = .ok (.aload_n 0, 1) := by decide +kernel
theorem dX7_copyFrom_91 : decode cX7_copyFrom 91 = .ok (.getfield 35, 3) := by decide +kernel
theorem dX7_copyFrom_94 : decode cX7_copyFrom 94 = .ok (.aload_n 1, 1) := by decide +kernel
theorem dX7_copyFrom_95 : decode cX7_copyFrom 95 = .ok (.getfield 35, 3) := by decide +kernel
theorem dX7_copyFrom_98 : decode cX7_copyFrom 98 = .ok (.invokevirtual 75, 3) := by decide +kernel
theorem dX7_copyFrom_101 : decode cX7_copyFrom 101 = .ok (.aload_n 0, 1) := by decide +kernel
theorem dX7_copyFrom_102 : decode cX7_copyFrom 102 = .ok (.getfield 38, 3) := by decide +kernel
theorem dX7_copyFrom_105 : decode cX7_copyFrom 105 = .ok (.aload_n 1, 1) := by decide +kernel
theorem dX7_copyFrom_106 : decode cX7_copyFrom 106 = .ok (.getfield 38, 3) := by decide +kernel
theorem dX7_copyFrom_109 : decode cX7_copyFrom 109 = .ok (.invokevirtual 75, 3) := by decide +kernel
theorem dX7_copyFrom_112 : decode cX7_copyFrom 112 = .ok (.aload_n 0, 1) := by decide +kernel
theorem dX7_copyFrom_113 : decode cX7_copyFrom 113 = .ok (.getfield 41, 3) := by decide +kernel
theorem dX7_copyFrom_116 : decode cX7_copyFrom 116 = .ok (.aload_n 1, 1) := by decide +kernel
theorem dX7_copyFrom_117 : decode cX7_copyFrom 117 = .ok (.getfield 41, 3) := by decide +kernel
theorem dX7_copyFrom_120 : decode cX7_copyFrom 120 = .ok (.invokevirtual 75, 3) := by decide +kernel
theorem dX7_copyFrom_123 : decode cX7_copyFrom 123 = .ok (.aload_n 0, 1) := by decide +kernel
theorem dX7_copyFrom_124 : decode cX7_copyFrom 124 = .ok (.getfield 44, 3) := by decide +kernel
theorem dX7_copyFrom_127 : decode cX7_copyFrom 127 = .ok (.aload_n 1, 1) := by decide +kernel
theorem dX7_copyFrom_128 : decode cX7_copyFrom 128 = .ok (.getfield 44, 3) := by decide +kernel
theorem dX7_copyFrom_131 : decode cX7_copyFrom 131 = .ok (.invokevirtual 75, 3) := by decide +kernel
theorem dX7_copyFrom_134 : decode cX7_copyFrom 134 = .ok (.aload_n 0, 1) := by decide +kernel
theorem dX7_copyFrom_135 : decode cX7_copyFrom 135 = .ok (.getfield 47, 3) := by decide +kernel
theorem dX7_copyFrom_138 : decode cX7_copyFrom 138 = .ok (.aload_n 1, 1) := by decide +kernel
theorem dX7_copyFrom_139 : decode cX7_copyFrom 139 = .ok (.getfield 47, 3) := by decide +kernel
theorem dX7_copyFrom_142 : decode cX7_copyFrom 142 = .ok (.invokevirtual 75, 3) := by decide +kernel
theorem dX7_copyFrom_145 : decode cX7_copyFrom 145 = .ok (.aload_n 0, 1) := by decide +kernel
theorem dX7_copyFrom_146 : decode cX7_copyFrom 146 = .ok (.getfield 50, 3) := by decide +kernel
theorem dX7_copyFrom_149 : decode cX7_copyFrom 149 = .ok (.aload_n 1, 1) := by decide +kernel
theorem dX7_copyFrom_150 : decode cX7_copyFrom 150 = .ok (.getfield 50, 3) := by decide +kernel
theorem dX7_copyFrom_153 : decode cX7_copyFrom 153 = .ok (.invokevirtual 75, 3) := by decide +kernel
theorem dX7_copyFrom_156 : decode cX7_copyFrom 156 = .ok (.aload_n 0, 1) := by decide +kernel
theorem dX7_copyFrom_157 : decode cX7_copyFrom 157 = .ok (.getfield 53, 3) := by decide +kernel
theorem dX7_copyFrom_160 : decode cX7_copyFrom 160 = .ok (.aload_n 1, 1) := by decide +kernel
theorem dX7_copyFrom_161 : decode cX7_copyFrom 161 = .ok (.getfield 53, 3) := by decide +kernel
theorem dX7_copyFrom_164 : decode cX7_copyFrom 164 = .ok (.invokevirtual 75, 3) := by decide +kernel
theorem dX7_copyFrom_167 : decode cX7_copyFrom 167 = .ok (.aload_n 0, 1) := by decide +kernel
theorem dX7_copyFrom_168 : decode cX7_copyFrom 168 = .ok (.getfield 56, 3) := by decide +kernel
theorem dX7_copyFrom_171 : decode cX7_copyFrom 171 = .ok (.aload_n 1, 1) := by decide +kernel
theorem dX7_copyFrom_172 : decode cX7_copyFrom 172 = .ok (.getfield 56, 3) := by decide +kernel
theorem dX7_copyFrom_175 : decode cX7_copyFrom 175 = .ok (.invokevirtual 75, 3) := by decide +kernel
theorem dX7_copyFrom_178 : decode cX7_copyFrom 178 = .ok (.aload_n 0, 1) := by decide +kernel
theorem dX7_copyFrom_179 : decode cX7_copyFrom 179 = .ok (.getfield 59, 3) := by decide +kernel
theorem dX7_copyFrom_182 : decode cX7_copyFrom 182 = .ok (.aload_n 1, 1) := by decide +kernel
theorem dX7_copyFrom_183 : decode cX7_copyFrom 183 = .ok (.getfield 59, 3) := by decide +kernel
theorem dX7_copyFrom_186 : decode cX7_copyFrom 186 = .ok (.invokevirtual 75, 3) := by decide +kernel
theorem dX7_copyFrom_189 : decode cX7_copyFrom 189 = .ok (.return_, 1) := by decide +kernel
theorem dX7_hasBatch_0 : decode cX7_hasBatch 0 = .ok (.iload_n 1, 1) := by decide +kernel
theorem dX7_hasBatch_1 : decode cX7_hasBatch 1 = .ok (.ifCond .lt 15, 3) := by decide +kernel
theorem dX7_hasBatch_4 : decode cX7_hasBatch 4 = .ok (.iload_n 1, 1) := by decide +kernel
theorem dX7_hasBatch_5 : decode cX7_hasBatch 5 = .ok (.aload_n 0, 1) := by decide +kernel
theorem dX7_hasBatch_6 : decode cX7_hasBatch 6 = .ok (.getfield 66, 3) := by decide +kernel
theorem dX7_hasBatch_9 : decode cX7_hasBatch 9 = .ok (.if_icmp .ge 7, 3) := by decide +kernel
theorem dX7_hasBatch_12 : decode cX7_hasBatch 12 = .ok (.iconst 1, 1) := by decide +kernel
theorem dX7_hasBatch_13 : decode cX7_hasBatch 13 = .ok (.goto 4, 3) := by decide +kernel
theorem dX7_hasBatch_16 : decode cX7_hasBatch 16 = .ok (.iconst 0, 1) := by decide +kernel
theorem dX7_hasBatch_17 : decode cX7_hasBatch 17 = .ok (.ireturn, 1) := by decide +kernel
theorem dX7_hasExpired_0 : decode cX7_hasExpired 0 = .ok (.aload_n 0, 1) := by decide +kernel
theorem dX7_hasExpired_1 : decode cX7_hasExpired 1 = .ok (.getfield 26, 3) := by decide +kernel
theorem dX7_hasExpired_4 : decode cX7_hasExpired 4 = .ok (.iload_n 1, 1) := by decide +kernel
theorem dX7_hasExpired_5 : decode cX7_hasExpired 5 = .ok (.invokevirtual 79, 3) := by decide +kernel
theorem dX7_hasExpired_8 : decode cX7_hasExpired 8 = .ok (.aload_n 0, 1) := by decide +kernel
theorem dX7_hasExpired_9 : decode cX7_hasExpired 9 = .ok (.getfield 62, 3) := by decide +kernel
theorem dX7_hasExpired_12 : decode cX7_hasExpired 12 = .ok (.if_icmp .ge 7, 3) := by decide +kernel
theorem dX7_hasExpired_15 : decode cX7_hasExpired 15 = .ok (.iconst 1, 1) := by decide +kernel
theorem dX7_hasExpired_16 : decode cX7_hasExpired 16 = .ok (.goto 4, 3) := by decide +kernel
theorem dX7_hasExpired_19 : decode cX7_hasExpired 19 = .ok (.iconst 0, 1) := by decide +kernel
theorem dX7_hasExpired_20 : decode cX7_hasExpired 20 = .ok (.ireturn, 1) := by decide +kernel
theorem dX7_isOf_0 : decode cX7_isOf 0 = .ok (.aload_n 0, 1) := by decide +kernel
theorem dX7_isOf_1 : decode cX7_isOf 1 = .ok (.getfield 14, 3) := by decide +kernel
theorem dX7_isOf_4 : decode cX7_isOf 4 = .ok (.iload_n 1, 1) := by decide +kernel
theorem dX7_isOf_5 : decode cX7_isOf 5 = .ok (.invokevirtual 79, 3) := by decide +kernel
theorem dX7_isOf_8 : decode cX7_isOf 8 = .ok (.iload_n 2, 1) := by decide +kernel
theorem dX7_isOf_9 : decode cX7_isOf 9 = .ok (.if_icmp .ne 7, 3) := by decide +kernel
theorem dX7_isOf_12 : decode cX7_isOf 12 = .ok (.iconst 1, 1) := by decide +kernel
theorem dX7_isOf_13 : decode cX7_isOf 13 = .ok (.goto 4, 3) := by decide +kernel
theorem dX7_isOf_16 : decode cX7_isOf 16 = .ok (.iconst 0, 1) := by decide +kernel
theorem dX7_isOf_17 : decode cX7_isOf 17 = .ok (.ireturn, 1) := by decide +kernel
theorem dX7_lastsUntil_0 : decode cX7_lastsUntil 0 = .ok (.aload_n 0, 1) := by decide +kernel
theorem dX7_lastsUntil_1 : decode cX7_lastsUntil 1 = .ok (.getfield 26, 3) := by decide +kernel
theorem dX7_lastsUntil_4 : decode cX7_lastsUntil 4 = .ok (.iload_n 1, 1) := by decide +kernel
theorem dX7_lastsUntil_5 : decode cX7_lastsUntil 5 = .ok (.invokevirtual 79, 3) := by decide +kernel
theorem dX7_lastsUntil_8 : decode cX7_lastsUntil 8 = .ok (.iload_n 2, 1) := by decide +kernel
theorem dX7_lastsUntil_9 : decode cX7_lastsUntil 9 = .ok (.if_icmp .lt 7, 3) := by decide +kernel
theorem dX7_lastsUntil_12 : decode cX7_lastsUntil 12 = .ok (.iconst 1, 1) := by decide +kernel
theorem dX7_lastsUntil_13 : decode cX7_lastsUntil 13 = .ok (.goto 4, 3) := by decide +kernel
theorem dX7_lastsUntil_16 : decode cX7_lastsUntil 16 = .ok (.iconst 0, 1) := by decide +kernel
theorem dX7_lastsUntil_17 : decode cX7_lastsUntil 17 = .ok (.ireturn, 1) := by decide +kernel
theorem dX7_freeUnitsIn_0 : decode cX7_freeUnitsIn 0 = .ok (.aload_n 0, 1) := by decide +kernel
theorem dX7_freeUnitsIn_1 : decode cX7_freeUnitsIn 1 = .ok (.getfield 20, 3) := by decide +kernel
theorem dX7_freeUnitsIn_4 : decode cX7_freeUnitsIn 4 = .ok (.iload_n 1, 1) := by decide +kernel
theorem dX7_freeUnitsIn_5 : decode cX7_freeUnitsIn 5 = .ok (.invokevirtual 79, 3) := by decide +kernel
theorem dX7_freeUnitsIn_8 : decode cX7_freeUnitsIn 8 = .ok (.aload_n 0, 1) := by decide +kernel
theorem dX7_freeUnitsIn_9 : decode cX7_freeUnitsIn 9 = .ok (.getfield 23, 3) := by decide +kernel
theorem dX7_freeUnitsIn_12 : decode cX7_freeUnitsIn 12 = .ok (.iload_n 1, 1) := by decide +kernel
theorem dX7_freeUnitsIn_13 : decode cX7_freeUnitsIn 13 = .ok (.invokevirtual 79, 3) := by decide +kernel
theorem dX7_freeUnitsIn_16 : decode cX7_freeUnitsIn 16 = .ok (.isub, 1) := by decide +kernel
theorem dX7_freeUnitsIn_17 : decode cX7_freeUnitsIn 17 = .ok (.ireturn, 1) := by decide +kernel
theorem dX7_collectIssueOrder_0 : decode cX7_collectIssueOrder 0 = .ok (.aload_n 1, 1) := by decide +kernel
theorem dX7_collectIssueOrder_1 : decode cX7_collectIssueOrder 1 = .ok (.invokevirtual 83, 3) := by decide +kernel
theorem dX7_collectIssueOrder_4 : decode cX7_collectIssueOrder 4 = .ok (.iconst 0, 1) := by decide +kernel
theorem dX7_collectIssueOrder_5 : decode cX7_collectIssueOrder 5 = .ok (.istore 4, 2) := by decide +kernel
theorem dX7_collectIssueOrder_7 : decode cX7_collectIssueOrder 7 = .ok (.iload 4, 2) := by decide +kernel
theorem dX7_collectIssueOrder_9 : decode cX7_collectIssueOrder 9 = .ok (.aload_n 0, 1) := by decide +kernel
theorem dX7_collectIssueOrder_10 : decode cX7_collectIssueOrder 10 = .ok (.getfield 66, 3) := by decide +kernel
theorem dX7_collectIssueOrder_13 : decode cX7_collectIssueOrder 13 = .ok (.if_icmp .ge 53, 3) := by decide +kernel
theorem dX7_collectIssueOrder_16 : decode cX7_collectIssueOrder 16 = .ok (.aload_n 0, 1) := by decide +kernel
theorem dX7_collectIssueOrder_17 : decode cX7_collectIssueOrder 17 = .ok (.iload 4, 2) := by decide +kernel
theorem dX7_collectIssueOrder_19 : decode cX7_collectIssueOrder 19 = .ok (.iload_n 2, 1) := by decide +kernel
theorem dX7_collectIssueOrder_20 : decode cX7_collectIssueOrder 20 = .ok (.invokevirtual 88, 3) := by decide +kernel
theorem dX7_collectIssueOrder_23 : decode cX7_collectIssueOrder 23 = .ok (.ifCond .eq 37, 3) := by decide +kernel
theorem dX7_collectIssueOrder_26 : decode cX7_collectIssueOrder 26 = .ok (.aload_n 0, 1) := by decide +kernel
theorem dX7_collectIssueOrder_27 : decode cX7_collectIssueOrder 27 = .ok (.iload 4, 2) := by decide +kernel
theorem dX7_collectIssueOrder_29 : decode cX7_collectIssueOrder 29 = .ok (.iload_n 3, 1) := by decide +kernel
theorem dX7_collectIssueOrder_30 : decode cX7_collectIssueOrder 30 = .ok (.invokevirtual 92, 3) := by decide +kernel
theorem dX7_collectIssueOrder_33 : decode cX7_collectIssueOrder 33 = .ok (.ifCond .eq 27, 3) := by decide +kernel
theorem dX7_collectIssueOrder_36 : decode cX7_collectIssueOrder 36 = .ok (.aload_n 0, 1) := by decide +kernel
theorem dX7_collectIssueOrder_37 : decode cX7_collectIssueOrder 37 = .ok (.iload 4, 2) := by decide +kernel
theorem dX7_collectIssueOrder_39 : decode cX7_collectIssueOrder 39 = .ok (.invokevirtual 95, 3) := by decide +kernel
theorem dX7_collectIssueOrder_42 : decode cX7_collectIssueOrder 42 = .ok (.ifCond .le 18, 3) := by decide +kernel
theorem dX7_collectIssueOrder_45 : decode cX7_collectIssueOrder 45 = .ok (.aload_n 1, 1) := by decide +kernel
theorem dX7_collectIssueOrder_46 : decode cX7_collectIssueOrder 46 = .ok (.iload 4, 2) := by decide +kernel
theorem dX7_collectIssueOrder_48 : decode cX7_collectIssueOrder 48 = .ok (.aload_n 0, 1) := by decide +kernel
theorem dX7_collectIssueOrder_49 : decode cX7_collectIssueOrder 49 = .ok (.getfield 26, 3) := by decide +kernel
theorem dX7_collectIssueOrder_52 : decode cX7_collectIssueOrder 52 = .ok (.iload 4, 2) := by decide +kernel
theorem dX7_collectIssueOrder_54 : decode cX7_collectIssueOrder 54 = .ok (.invokevirtual 79, 3) := by decide +kernel
theorem dX7_collectIssueOrder_57 : decode cX7_collectIssueOrder 57 = .ok (.invokevirtual 98, 3) := by decide +kernel
theorem dX7_collectIssueOrder_60 : decode cX7_collectIssueOrder 60 = .ok (.iinc 4 1, 3) := by decide +kernel
theorem dX7_collectIssueOrder_63 : decode cX7_collectIssueOrder 63 = .ok (.goto (-56), 3) := by decide +kernel
theorem dX7_collectIssueOrder_66 : decode cX7_collectIssueOrder 66 = .ok (.return_, 1) := by decide +kernel
theorem dX7_costOfTaking_0 : decode cX7_costOfTaking 0 = .ok (.iconst 0, 1) := by decide +kernel
theorem dX7_costOfTaking_1 : decode cX7_costOfTaking 1 = .ok (.istore_n 3, 1) := by decide +kernel
theorem dX7_costOfTaking_2 : decode cX7_costOfTaking 2 = .ok (.iload_n 2, 1) := by decide +kernel
theorem dX7_costOfTaking_3 : decode cX7_costOfTaking 3 = .ok (.istore 4, 2) := by decide +kernel
theorem dX7_costOfTaking_5 : decode cX7_costOfTaking 5 = .ok (.iconst 0, 1) := by decide +kernel
theorem dX7_costOfTaking_6 : decode cX7_costOfTaking 6 = .ok (.istore 5, 2) := by decide +kernel
theorem dX7_costOfTaking_8 : decode cX7_costOfTaking 8 = .ok (.iload 5, 2) := by decide +kernel
theorem dX7_costOfTaking_10 : decode cX7_costOfTaking 10 = .ok (.aload_n 1, 1) := by decide +kernel
theorem dX7_costOfTaking_11 : decode cX7_costOfTaking 11 = .ok (.getfield 102, 3) := by decide +kernel
theorem dX7_costOfTaking_14 : decode cX7_costOfTaking 14 = .ok (.if_icmp .ge 60, 3) := by decide +kernel
theorem dX7_costOfTaking_17 : decode cX7_costOfTaking 17 = .ok (.iload 4, 2) := by decide +kernel
theorem dX7_costOfTaking_19 : decode cX7_costOfTaking 19 = .ok (.ifCond .le 55, 3) := by decide +kernel
theorem dX7_costOfTaking_22 : decode cX7_costOfTaking 22 = .ok (.aload_n 1, 1) := by decide +kernel
theorem dX7_costOfTaking_23 : decode cX7_costOfTaking 23 = .ok (.getfield 105, 3) := by decide +kernel
theorem dX7_costOfTaking_26 : decode cX7_costOfTaking 26 = .ok (.iload 5, 2) := by decide +kernel
theorem dX7_costOfTaking_28 : decode cX7_costOfTaking 28 = .ok (.invokevirtual 79, 3) := by decide +kernel
theorem dX7_costOfTaking_31 : decode cX7_costOfTaking 31 = .ok (.istore 6, 2) := by decide +kernel
theorem dX7_costOfTaking_33 : decode cX7_costOfTaking 33 = .ok (.iload 4, 2) := by decide +kernel
theorem dX7_costOfTaking_35 : decode cX7_costOfTaking 35 = .ok (.aload_n 0, 1) := by decide +kernel
theorem dX7_costOfTaking_36 : decode cX7_costOfTaking 36 = .ok (.iload 6, 2) := by decide +kernel
theorem dX7_costOfTaking_38 : decode cX7_costOfTaking 38 = .ok (.invokevirtual 95, 3) := by decide +kernel
theorem dX7_costOfTaking_41 : decode cX7_costOfTaking 41 = .ok (.invokestatic 107, 3) := by decide +kernel
theorem dX7_costOfTaking_44 : decode cX7_costOfTaking 44 = .ok (.istore 7, 2) := by decide +kernel
theorem dX7_costOfTaking_46 : decode cX7_costOfTaking 46 = .ok (.iload_n 3, 1) := by decide +kernel
theorem dX7_costOfTaking_47 : decode cX7_costOfTaking 47 = .ok (.iload 7, 2) := by decide +kernel
theorem dX7_costOfTaking_49 : decode cX7_costOfTaking 49 = .ok (.aload_n 0, 1) := by decide +kernel
theorem dX7_costOfTaking_50 : decode cX7_costOfTaking 50 = .ok (.getfield 29, 3) := by decide +kernel
theorem dX7_costOfTaking_53 : decode cX7_costOfTaking 53 = .ok (.iload 6, 2) := by decide +kernel
theorem dX7_costOfTaking_55 : decode cX7_costOfTaking 55 = .ok (.invokevirtual 79, 3) := by decide +kernel
theorem dX7_costOfTaking_58 : decode cX7_costOfTaking 58 = .ok (.imul, 1) := by decide +kernel
theorem dX7_costOfTaking_59 : decode cX7_costOfTaking 59 = .ok (.iadd, 1) := by decide +kernel
theorem dX7_costOfTaking_60 : decode cX7_costOfTaking 60 = .ok (.istore_n 3, 1) := by decide +kernel
theorem dX7_costOfTaking_61 : decode cX7_costOfTaking 61 = .ok (.iload 4, 2) := by decide +kernel
theorem dX7_costOfTaking_63 : decode cX7_costOfTaking 63 = .ok (.iload 7, 2) := by decide +kernel
theorem dX7_costOfTaking_65 : decode cX7_costOfTaking 65 = .ok (.isub, 1) := by decide +kernel
theorem dX7_costOfTaking_66 : decode cX7_costOfTaking 66 = .ok (.istore 4, 2) := by decide +kernel
theorem dX7_costOfTaking_68 : decode cX7_costOfTaking 68 = .ok (.iinc 5 1, 3) := by decide +kernel
theorem dX7_costOfTaking_71 : decode cX7_costOfTaking 71 = .ok (.goto (-63), 3) := by decide +kernel
theorem dX7_costOfTaking_74 : decode cX7_costOfTaking 74 = .ok (.iload_n 3, 1) := by decide +kernel
theorem dX7_costOfTaking_75 : decode cX7_costOfTaking 75 = .ok (.ireturn, 1) := by decide +kernel
theorem dX7_unitsOf_0 : decode cX7_unitsOf 0 = .ok (.iconst 0, 1) := by decide +kernel
theorem dX7_unitsOf_1 : decode cX7_unitsOf 1 = .ok (.istore_n 2, 1) := by decide +kernel
theorem dX7_unitsOf_2 : decode cX7_unitsOf 2 = .ok (.iconst 0, 1) := by decide +kernel
theorem dX7_unitsOf_3 : decode cX7_unitsOf 3 = .ok (.istore_n 3, 1) := by decide +kernel
theorem dX7_unitsOf_4 : decode cX7_unitsOf 4 = .ok (.iload_n 3, 1) := by decide +kernel
theorem dX7_unitsOf_5 : decode cX7_unitsOf 5 = .ok (.aload_n 0, 1) := by decide +kernel
theorem dX7_unitsOf_6 : decode cX7_unitsOf 6 = .ok (.getfield 66, 3) := by decide +kernel
theorem dX7_unitsOf_9 : decode cX7_unitsOf 9 = .ok (.if_icmp .ge 29, 3) := by decide +kernel
theorem dX7_unitsOf_12 : decode cX7_unitsOf 12 = .ok (.aload_n 0, 1) := by decide +kernel
theorem dX7_unitsOf_13 : decode cX7_unitsOf 13 = .ok (.iload_n 3, 1) := by decide +kernel
theorem dX7_unitsOf_14 : decode cX7_unitsOf 14 = .ok (.iload_n 1, 1) := by decide +kernel
theorem dX7_unitsOf_15 : decode cX7_unitsOf 15 = .ok (.invokevirtual 88, 3) := by decide +kernel
theorem dX7_unitsOf_18 : decode cX7_unitsOf 18 = .ok (.ifCond .eq 14, 3) := by decide +kernel
theorem dX7_unitsOf_21 : decode cX7_unitsOf 21 = .ok (.iload_n 2, 1) := by decide +kernel
theorem dX7_unitsOf_22 : decode cX7_unitsOf 22 = .ok (.aload_n 0, 1) := by decide +kernel
theorem dX7_unitsOf_23 : decode cX7_unitsOf 23 = .ok (.getfield 20, 3) := by decide +kernel
theorem dX7_unitsOf_26 : decode cX7_unitsOf 26 = .ok (.iload_n 3, 1) := by decide +kernel
theorem dX7_unitsOf_27 : decode cX7_unitsOf 27 = .ok (.invokevirtual 79, 3) := by decide +kernel
theorem dX7_unitsOf_30 : decode cX7_unitsOf 30 = .ok (.iadd, 1) := by decide +kernel
theorem dX7_unitsOf_31 : decode cX7_unitsOf 31 = .ok (.istore_n 2, 1) := by decide +kernel
theorem dX7_unitsOf_32 : decode cX7_unitsOf 32 = .ok (.iinc 3 1, 3) := by decide +kernel
theorem dX7_unitsOf_35 : decode cX7_unitsOf 35 = .ok (.goto (-31), 3) := by decide +kernel
theorem dX7_unitsOf_38 : decode cX7_unitsOf 38 = .ok (.iload_n 2, 1) := by decide +kernel
theorem dX7_unitsOf_39 : decode cX7_unitsOf 39 = .ok (.ireturn, 1) := by decide +kernel
theorem dX7_availableUnits_0 : decode cX7_availableUnits 0 = .ok (.iconst 0, 1) := by decide +kernel
theorem dX7_availableUnits_1 : decode cX7_availableUnits 1 = .ok (.istore_n 3, 1) := by decide +kernel
theorem dX7_availableUnits_2 : decode cX7_availableUnits 2 = .ok (.iconst 0, 1) := by decide +kernel
theorem dX7_availableUnits_3 : decode cX7_availableUnits 3 = .ok (.istore 4, 2) := by decide +kernel
theorem dX7_availableUnits_5 : decode cX7_availableUnits 5 = .ok (.iload 4, 2) := by decide +kernel
theorem dX7_availableUnits_7 : decode cX7_availableUnits 7 = .ok (.aload_n 0, 1) := by decide +kernel
theorem dX7_availableUnits_8 : decode cX7_availableUnits 8 = .ok (.getfield 66, 3) := by decide +kernel
theorem dX7_availableUnits_11 : decode cX7_availableUnits 11 = .ok (.if_icmp .ge 38, 3) := by decide +kernel
theorem dX7_availableUnits_14 : decode cX7_availableUnits 14 = .ok (.aload_n 0, 1) := by decide +kernel
theorem dX7_availableUnits_15 : decode cX7_availableUnits 15 = .ok (.iload 4, 2) := by decide +kernel
theorem dX7_availableUnits_17 : decode cX7_availableUnits 17 = .ok (.iload_n 1, 1) := by decide +kernel
theorem dX7_availableUnits_18 : decode cX7_availableUnits 18 = .ok (.invokevirtual 88, 3) := by decide +kernel
theorem dX7_availableUnits_21 : decode cX7_availableUnits 21 = .ok (.ifCond .eq 22, 3) := by decide +kernel
theorem dX7_availableUnits_24 : decode cX7_availableUnits 24 = .ok (.aload_n 0, 1) := by decide +kernel
theorem dX7_availableUnits_25 : decode cX7_availableUnits 25 = .ok (.iload 4, 2) := by decide +kernel
theorem dX7_availableUnits_27 : decode cX7_availableUnits 27 = .ok (.iload_n 2, 1) := by decide +kernel
theorem dX7_availableUnits_28 : decode cX7_availableUnits 28 = .ok (.invokevirtual 92, 3) := by decide +kernel
theorem dX7_availableUnits_31 : decode cX7_availableUnits 31 = .ok (.ifCond .eq 12, 3) := by decide +kernel
theorem dX7_availableUnits_34 : decode cX7_availableUnits 34 = .ok (.iload_n 3, 1) := by decide +kernel
theorem dX7_availableUnits_35 : decode cX7_availableUnits 35 = .ok (.aload_n 0, 1) := by decide +kernel
theorem dX7_availableUnits_36 : decode cX7_availableUnits 36 = .ok (.iload 4, 2) := by decide +kernel
theorem dX7_availableUnits_38 : decode cX7_availableUnits 38 = .ok (.invokevirtual 95, 3) := by decide +kernel
theorem dX7_availableUnits_41 : decode cX7_availableUnits 41 = .ok (.iadd, 1) := by decide +kernel
theorem dX7_availableUnits_42 : decode cX7_availableUnits 42 = .ok (.istore_n 3, 1) := by decide +kernel
theorem dX7_availableUnits_43 : decode cX7_availableUnits 43 = .ok (.iinc 4 1, 3) := by decide +kernel
theorem dX7_availableUnits_46 : decode cX7_availableUnits 46 = .ok (.goto (-41), 3) := by decide +kernel
theorem dX7_availableUnits_49 : decode cX7_availableUnits 49 = .ok (.iload_n 3, 1) := by decide +kernel
theorem dX7_availableUnits_50 : decode cX7_availableUnits 50 = .ok (.ireturn, 1) := by decide +kernel
theorem dX7_unitsByAccounts_0 : decode cX7_unitsByAccounts 0 = .ok (.aload_n 0, 1) := by decide +kernel
theorem dX7_unitsByAccounts_1 : decode cX7_unitsByAccounts 1 = .ok (.getfield 50, 3) := by decide +kernel
theorem dX7_unitsByAccounts_4 : decode cX7_unitsByAccounts 4 = .ok (.iload_n 1, 1) := by decide +kernel
theorem dX7_unitsByAccounts_5 : decode cX7_unitsByAccounts 5 = .ok (.invokevirtual 79, 3) := by decide +kernel
theorem dX7_unitsByAccounts_8 : decode cX7_unitsByAccounts 8 = .ok (.aload_n 0, 1) := by decide +kernel
theorem dX7_unitsByAccounts_9 : decode cX7_unitsByAccounts 9 = .ok (.getfield 53, 3) := by decide +kernel
theorem dX7_unitsByAccounts_12 : decode cX7_unitsByAccounts 12 = .ok (.iload_n 1, 1) := by decide +kernel
theorem dX7_unitsByAccounts_13 : decode cX7_unitsByAccounts 13 = .ok (.invokevirtual 79, 3) := by decide +kernel
theorem dX7_unitsByAccounts_16 : decode cX7_unitsByAccounts 16 = .ok (.iadd, 1) := by decide +kernel
theorem dX7_unitsByAccounts_17 : decode cX7_unitsByAccounts 17 = .ok (.aload_n 0, 1) := by decide +kernel
theorem dX7_unitsByAccounts_18 : decode cX7_unitsByAccounts 18 = .ok (.getfield 56, 3) := by decide +kernel
theorem dX7_unitsByAccounts_21 : decode cX7_unitsByAccounts 21 = .ok (.iload_n 1, 1) := by decide +kernel
theorem dX7_unitsByAccounts_22 : decode cX7_unitsByAccounts 22 = .ok (.invokevirtual 79, 3) := by decide +kernel
theorem dX7_unitsByAccounts_25 : decode cX7_unitsByAccounts 25 = .ok (.iadd, 1) := by decide +kernel
theorem dX7_unitsByAccounts_26 : decode cX7_unitsByAccounts 26 = .ok (.istore_n 2, 1) := by decide +kernel
theorem dX7_unitsByAccounts_27 : decode cX7_unitsByAccounts 27 = .ok (.aload_n 0, 1) := by decide +kernel
theorem dX7_unitsByAccounts_28 : decode cX7_unitsByAccounts 28 = .ok (.getfield 47, 3) := by decide +kernel
theorem dX7_unitsByAccounts_31 : decode cX7_unitsByAccounts 31 = .ok (.iload_n 1, 1) := by decide +kernel
theorem dX7_unitsByAccounts_32 : decode cX7_unitsByAccounts 32 = .ok (.invokevirtual 79, 3) := by decide +kernel
theorem dX7_unitsByAccounts_35 : decode cX7_unitsByAccounts 35 = .ok (.iload_n 2, 1) := by decide +kernel
theorem dX7_unitsByAccounts_36 : decode cX7_unitsByAccounts 36 = .ok (.isub, 1) := by decide +kernel
theorem dX7_unitsByAccounts_37 : decode cX7_unitsByAccounts 37 = .ok (.aload_n 0, 1) := by decide +kernel
theorem dX7_unitsByAccounts_38 : decode cX7_unitsByAccounts 38 = .ok (.getfield 59, 3) := by decide +kernel
theorem dX7_unitsByAccounts_41 : decode cX7_unitsByAccounts 41 = .ok (.iload_n 1, 1) := by decide +kernel
theorem dX7_unitsByAccounts_42 : decode cX7_unitsByAccounts 42 = .ok (.invokevirtual 79, 3) := by decide +kernel
theorem dX7_unitsByAccounts_45 : decode cX7_unitsByAccounts 45 = .ok (.iadd, 1) := by decide +kernel
theorem dX7_unitsByAccounts_46 : decode cX7_unitsByAccounts 46 = .ok (.ireturn, 1) := by decide +kernel
theorem dX7_hasReservation_0 : decode cX7_hasReservation 0 = .ok (.iload_n 1, 1) := by decide +kernel
theorem dX7_hasReservation_1 : decode cX7_hasReservation 1 = .ok (.ifCond .lt 15, 3) := by decide +kernel
theorem dX7_hasReservation_4 : decode cX7_hasReservation 4 = .ok (.iload_n 1, 1) := by decide +kernel
theorem dX7_hasReservation_5 : decode cX7_hasReservation 5 = .ok (.aload_n 0, 1) := by decide +kernel
theorem dX7_hasReservation_6 : decode cX7_hasReservation 6 = .ok (.getfield 69, 3) := by decide +kernel
theorem dX7_hasReservation_9 : decode cX7_hasReservation 9 = .ok (.if_icmp .ge 7, 3) := by decide +kernel
theorem dX7_hasReservation_12 : decode cX7_hasReservation 12 = .ok (.iconst 1, 1) := by decide +kernel
theorem dX7_hasReservation_13 : decode cX7_hasReservation 13 = .ok (.goto 4, 3) := by decide +kernel
theorem dX7_hasReservation_16 : decode cX7_hasReservation 16 = .ok (.iconst 0, 1) := by decide +kernel
theorem dX7_hasReservation_17 : decode cX7_hasReservation 17 = .ok (.ireturn, 1) := by decide +kernel
theorem dX7_isPending_0 : decode cX7_isPending 0 = .ok (.aload_n 0, 1) := by decide +kernel
theorem dX7_isPending_1 : decode cX7_isPending 1 = .ok (.getfield 41, 3) := by decide +kernel
theorem dX7_isPending_4 : decode cX7_isPending 4 = .ok (.iload_n 1, 1) := by decide +kernel
theorem dX7_isPending_5 : decode cX7_isPending 5 = .ok (.invokevirtual 79, 3) := by decide +kernel
theorem dX7_isPending_8 : decode cX7_isPending 8 = .ok (.ifCond .ne 7, 3) := by decide +kernel
theorem dX7_isPending_11 : decode cX7_isPending 11 = .ok (.iconst 1, 1) := by decide +kernel
theorem dX7_isPending_12 : decode cX7_isPending 12 = .ok (.goto 4, 3) := by decide +kernel
theorem dX7_isPending_15 : decode cX7_isPending 15 = .ok (.iconst 0, 1) := by decide +kernel
theorem dX7_isPending_16 : decode cX7_isPending 16 = .ok (.ireturn, 1) := by decide +kernel
theorem dX7_allocatedUnits_0 : decode cX7_allocatedUnits 0 = .ok (.aload_n 0, 1) := by decide +kernel
theorem dX7_allocatedUnits_1 : decode cX7_allocatedUnits 1 = .ok (.getfield 44, 3) := by decide +kernel
theorem dX7_allocatedUnits_4 : decode cX7_allocatedUnits 4 = .ok (.iload_n 1, 1) := by decide +kernel
theorem dX7_allocatedUnits_5 : decode cX7_allocatedUnits 5 = .ok (.bipush 20, 2) := by decide +kernel
theorem dX7_allocatedUnits_7 : decode cX7_allocatedUnits 7 = .ok (.imul, 1) := by decide +kernel
theorem dX7_allocatedUnits_8 : decode cX7_allocatedUnits 8 = .ok (.iload_n 2, 1) := by decide +kernel
theorem dX7_allocatedUnits_9 : decode cX7_allocatedUnits 9 = .ok (.iadd, 1) := by decide +kernel
theorem dX7_allocatedUnits_10 : decode cX7_allocatedUnits 10 = .ok (.invokevirtual 79, 3) := by decide +kernel
theorem dX7_allocatedUnits_13 : decode cX7_allocatedUnits 13 = .ok (.ireturn, 1) := by decide +kernel
theorem dX7_missingUnits_0 : decode cX7_missingUnits 0 = .ok (.aload_n 0, 1) := by decide +kernel
theorem dX7_missingUnits_1 : decode cX7_missingUnits 1 = .ok (.iload_n 1, 1) := by decide +kernel
theorem dX7_missingUnits_2 : decode cX7_missingUnits 2 = .ok (.invokevirtual 113, 3) := by decide +kernel
theorem dX7_missingUnits_5 : decode cX7_missingUnits 5 = .ok (.ifCond .eq 20, 3) := by decide +kernel
theorem dX7_missingUnits_8 : decode cX7_missingUnits 8 = .ok (.aload_n 0, 1) := by decide +kernel
theorem dX7_missingUnits_9 : decode cX7_missingUnits 9 = .ok (.getfield 35, 3) := by decide +kernel
theorem dX7_missingUnits_12 : decode cX7_missingUnits 12 = .ok (.iload_n 1, 1) := by decide +kernel
theorem dX7_missingUnits_13 : decode cX7_missingUnits 13 = .ok (.invokevirtual 79, 3) := by decide +kernel
theorem dX7_missingUnits_16 : decode cX7_missingUnits 16 = .ok (.aload_n 0, 1) := by decide +kernel
theorem dX7_missingUnits_17 : decode cX7_missingUnits 17 = .ok (.iload_n 1, 1) := by decide +kernel
theorem dX7_missingUnits_18 : decode cX7_missingUnits 18 = .ok (.invokevirtual 117, 3) := by decide +kernel
theorem dX7_missingUnits_21 : decode cX7_missingUnits 21 = .ok (.isub, 1) := by decide +kernel
theorem dX7_missingUnits_22 : decode cX7_missingUnits 22 = .ok (.goto 4, 3) := by decide +kernel
theorem dX7_missingUnits_25 : decode cX7_missingUnits 25 = .ok (.iconst 0, 1) := by decide +kernel
theorem dX7_missingUnits_26 : decode cX7_missingUnits 26 = .ok (.ireturn, 1) := by decide +kernel
theorem dX7_shippingObstacle_0 : decode cX7_shippingObstacle 0 = .ok (.aload_n 0, 1) := by decide +kernel
theorem dX7_shippingObstacle_1 : decode cX7_shippingObstacle 1 = .ok (.iload_n 1, 1) := by decide +kernel
theorem dX7_shippingObstacle_2 : decode cX7_shippingObstacle 2 = .ok (.invokevirtual 113, 3) := by decide +kernel
theorem dX7_shippingObstacle_5 : decode cX7_shippingObstacle 5 = .ok (.ifCond .ne 5, 3) := by decide +kernel
theorem dX7_shippingObstacle_8 : decode cX7_shippingObstacle 8 = .ok (.iconst 1, 1) := by decide +kernel
theorem dX7_shippingObstacle_9 : decode cX7_shippingObstacle 9 = .ok (.ireturn, 1) := by decide +kernel
theorem dX7_shippingObstacle_10 : decode cX7_shippingObstacle 10 = .ok (.aload_n 0, 1) := by decide +kernel
theorem dX7_shippingObstacle_11 : decode cX7_shippingObstacle 11 = .ok (.iload_n 1, 1) := by decide +kernel
theorem dX7_shippingObstacle_12 : decode cX7_shippingObstacle 12 = .ok (.invokevirtual 120, 3) := by decide +kernel
theorem dX7_shippingObstacle_15 : decode cX7_shippingObstacle 15 = .ok (.ifCond .le 5, 3) := by decide +kernel
theorem dX7_shippingObstacle_18 : decode cX7_shippingObstacle 18 = .ok (.iconst 2, 1) := by decide +kernel
theorem dX7_shippingObstacle_19 : decode cX7_shippingObstacle 19 = .ok (.ireturn, 1) := by decide +kernel
theorem dX7_shippingObstacle_20 : decode cX7_shippingObstacle 20 = .ok (.aload_n 0, 1) := by decide +kernel
theorem dX7_shippingObstacle_21 : decode cX7_shippingObstacle 21 = .ok (.iload_n 1, 1) := by decide +kernel
theorem dX7_shippingObstacle_22 : decode cX7_shippingObstacle 22 = .ok (.aload_n 0, 1) := by decide +kernel
theorem dX7_shippingObstacle_23 : decode cX7_shippingObstacle 23 = .ok (.getfield 62, 3) := by decide +kernel
theorem dX7_shippingObstacle_26 : decode cX7_shippingObstacle 26 = .ok (.invokevirtual 123, 3) := by decide +kernel
theorem dX7_shippingObstacle_29 : decode cX7_shippingObstacle 29 = .ok (.ifCond .eq 7, 3) := by decide +kernel
theorem dX7_shippingObstacle_32 : decode cX7_shippingObstacle 32 = .ok (.iconst 3, 1) := by decide +kernel
theorem dX7_shippingObstacle_33 : decode cX7_shippingObstacle 33 = .ok (.goto 4, 3) := by decide +kernel
theorem dX7_shippingObstacle_36 : decode cX7_shippingObstacle 36 = .ok (.iconst 0, 1) := by decide +kernel
theorem dX7_shippingObstacle_37 : decode cX7_shippingObstacle 37 = .ok (.ireturn, 1) := by decide +kernel
theorem dX7_holdsExpiringBefore_0 : decode cX7_holdsExpiringBefore 0 = .ok (.iconst 0, 1) := by decide +kernel
theorem dX7_holdsExpiringBefore_1 : decode cX7_holdsExpiringBefore 1 = .ok (.istore_n 3, 1) := by decide +kernel
theorem dX7_holdsExpiringBefore_2 : decode cX7_holdsExpiringBefore 2 = .ok (.iload_n 3, 1) := by decide +kernel
theorem dX7_holdsExpiringBefore_3 : decode cX7_holdsExpiringBefore 3 = .ok (.aload_n 0, 1) := by decide +kernel
theorem dX7_holdsExpiringBefore_4 : decode cX7_holdsExpiringBefore 4 = .ok (.getfield 66, 3) := by decide +kernel
theorem dX7_holdsExpiringBefore_7 : decode cX7_holdsExpiringBefore 7 = .ok (.if_icmp .ge 29, 3) := by decide +kernel
theorem dX7_holdsExpiringBefore_10 : decode cX7_holdsExpiringBefore 10 = .ok (.aload_n 0, 1) := by decide +kernel
theorem dX7_holdsExpiringBefore_11 : decode cX7_holdsExpiringBefore 11 = .ok (.iload_n 1, 1) := by decide +kernel
theorem dX7_holdsExpiringBefore_12 : decode cX7_holdsExpiringBefore 12 = .ok (.iload_n 3, 1) := by decide +kernel
theorem dX7_holdsExpiringBefore_13 : decode cX7_holdsExpiringBefore 13 = .ok (.invokevirtual 129, 3) := by decide +kernel
theorem dX7_holdsExpiringBefore_16 : decode cX7_holdsExpiringBefore 16 = .ok (.ifCond .le 14, 3) := by decide +kernel
theorem dX7_holdsExpiringBefore_19 : decode cX7_holdsExpiringBefore 19 = .ok (.aload_n 0, 1) := by decide +kernel
theorem dX7_holdsExpiringBefore_20 : decode cX7_holdsExpiringBefore 20 = .ok (.iload_n 3, 1) := by decide +kernel
theorem dX7_holdsExpiringBefore_21 : decode cX7_holdsExpiringBefore 21 = .ok (.iload_n 2, 1) := by decide +kernel
theorem dX7_holdsExpiringBefore_22 : decode cX7_holdsExpiringBefore 22 = .ok (.invokevirtual 92, 3) := by decide +kernel
theorem dX7_holdsExpiringBefore_25 : decode cX7_holdsExpiringBefore 25 = .ok (.ifCond .ne 5, 3) := by decide +kernel
theorem dX7_holdsExpiringBefore_28 : decode cX7_holdsExpiringBefore 28 = .ok (.iconst 1, 1) := by decide +kernel
theorem dX7_holdsExpiringBefore_29 : decode cX7_holdsExpiringBefore 29 = .ok (.ireturn, 1) := by decide +kernel
theorem dX7_holdsExpiringBefore_30 : decode cX7_holdsExpiringBefore 30 = .ok (.iinc 3 1, 3) := by decide +kernel
theorem dX7_holdsExpiringBefore_33 : decode cX7_holdsExpiringBefore 33 = .ok (.goto (-31), 3) := by decide +kernel
theorem dX7_holdsExpiringBefore_36 : decode cX7_holdsExpiringBefore 36 = .ok (.iconst 0, 1) := by decide +kernel
theorem dX7_holdsExpiringBefore_37 : decode cX7_holdsExpiringBefore 37 = .ok (.ireturn, 1) := by decide +kernel
theorem dX7_allUnitsAllocated_0 : decode cX7_allUnitsAllocated 0 = .ok (.iconst 0, 1) := by decide +kernel
theorem dX7_allUnitsAllocated_1 : decode cX7_allUnitsAllocated 1 = .ok (.istore_n 2, 1) := by decide +kernel
theorem dX7_allUnitsAllocated_2 : decode cX7_allUnitsAllocated 2 = .ok (.iconst 0, 1) := by decide +kernel
theorem dX7_allUnitsAllocated_3 : decode cX7_allUnitsAllocated 3 = .ok (.istore_n 3, 1) := by decide +kernel
theorem dX7_allUnitsAllocated_4 : decode cX7_allUnitsAllocated 4 = .ok (.iload_n 3, 1) := by decide +kernel
theorem dX7_allUnitsAllocated_5 : decode cX7_allUnitsAllocated 5 = .ok (.aload_n 0, 1) := by decide +kernel
theorem dX7_allUnitsAllocated_6 : decode cX7_allUnitsAllocated 6 = .ok (.getfield 66, 3) := by decide +kernel
theorem dX7_allUnitsAllocated_9 : decode cX7_allUnitsAllocated 9 = .ok (.if_icmp .ge 25, 3) := by decide +kernel
theorem dX7_allUnitsAllocated_12 : decode cX7_allUnitsAllocated 12 = .ok (.iload_n 2, 1) := by decide +kernel
theorem dX7_allUnitsAllocated_13 : decode cX7_allUnitsAllocated 13 = .ok (.aload_n 0, 1) := by decide +kernel
theorem dX7_allUnitsAllocated_14 : decode cX7_allUnitsAllocated 14 = .ok (.getfield 44, 3) := by decide +kernel
theorem dX7_allUnitsAllocated_17 : decode cX7_allUnitsAllocated 17 = .ok (.iload_n 1, 1) := by decide +kernel
theorem dX7_allUnitsAllocated_18 : decode cX7_allUnitsAllocated 18 = .ok (.bipush 20, 2) := by decide +kernel
theorem dX7_allUnitsAllocated_20 : decode cX7_allUnitsAllocated 20 = .ok (.imul, 1) := by decide +kernel
theorem dX7_allUnitsAllocated_21 : decode cX7_allUnitsAllocated 21 = .ok (.iload_n 3, 1) := by decide +kernel
theorem dX7_allUnitsAllocated_22 : decode cX7_allUnitsAllocated 22 = .ok (.iadd, 1) := by decide +kernel
theorem dX7_allUnitsAllocated_23 : decode cX7_allUnitsAllocated 23 = .ok (.invokevirtual 79, 3) := by decide +kernel
theorem dX7_allUnitsAllocated_26 : decode cX7_allUnitsAllocated 26 = .ok (.iadd, 1) := by decide +kernel
theorem dX7_allUnitsAllocated_27 : decode cX7_allUnitsAllocated 27 = .ok (.istore_n 2, 1) := by decide +kernel
theorem dX7_allUnitsAllocated_28 : decode cX7_allUnitsAllocated 28 = .ok (.iinc 3 1, 3) := by decide +kernel
theorem dX7_allUnitsAllocated_31 : decode cX7_allUnitsAllocated 31 = .ok (.goto (-27), 3) := by decide +kernel
theorem dX7_allUnitsAllocated_34 : decode cX7_allUnitsAllocated 34 = .ok (.iload_n 2, 1) := by decide +kernel
theorem dX7_allUnitsAllocated_35 : decode cX7_allUnitsAllocated 35 = .ok (.ireturn, 1) := by decide +kernel
theorem dX7_addBatch_0 : decode cX7_addBatch 0 = .ok (.aload_n 0, 1) := by decide +kernel
theorem dX7_addBatch_1 : decode cX7_addBatch 1 = .ok (.getfield 66, 3) := by decide +kernel
theorem dX7_addBatch_4 : decode cX7_addBatch 4 = .ok (.istore 5, 2) := by decide +kernel
theorem dX7_addBatch_6 : decode cX7_addBatch 6 = .ok (.aload_n 0, 1) := by decide +kernel
theorem dX7_addBatch_7 : decode cX7_addBatch 7 = .ok (.getfield 14, 3) := by decide +kernel
theorem dX7_addBatch_10 : decode cX7_addBatch 10 = .ok (.iload 5, 2) := by decide +kernel
theorem dX7_addBatch_12 : decode cX7_addBatch 12 = .ok (.iload_n 1, 1) := by decide +kernel
theorem dX7_addBatch_13 : decode cX7_addBatch 13 = .ok (.invokevirtual 132, 3) := by decide +kernel
theorem dX7_addBatch_16 : decode cX7_addBatch 16 = .ok (.aload_n 0, 1) := by decide +kernel
theorem dX7_addBatch_17 : decode cX7_addBatch 17 = .ok (.getfield 20, 3) := by decide +kernel
theorem dX7_addBatch_20 : decode cX7_addBatch 20 = .ok (.iload 5, 2) := by decide +kernel
theorem dX7_addBatch_22 : decode cX7_addBatch 22 = .ok (.iload_n 2, 1) := by decide +kernel
theorem dX7_addBatch_23 : decode cX7_addBatch 23 = .ok (.invokevirtual 132, 3) := by decide +kernel
theorem dX7_addBatch_26 : decode cX7_addBatch 26 = .ok (.aload_n 0, 1) := by decide +kernel
theorem dX7_addBatch_27 : decode cX7_addBatch 27 = .ok (.getfield 23, 3) := by decide +kernel
theorem dX7_addBatch_30 : decode cX7_addBatch 30 = .ok (.iload 5, 2) := by decide +kernel
theorem dX7_addBatch_32 : decode cX7_addBatch 32 = .ok (.iconst 0, 1) := by decide +kernel
theorem dX7_addBatch_33 : decode cX7_addBatch 33 = .ok (.invokevirtual 132, 3) := by decide +kernel
theorem dX7_addBatch_36 : decode cX7_addBatch 36 = .ok (.aload_n 0, 1) := by decide +kernel
theorem dX7_addBatch_37 : decode cX7_addBatch 37 = .ok (.getfield 26, 3) := by decide +kernel
theorem dX7_addBatch_40 : decode cX7_addBatch 40 = .ok (.iload 5, 2) := by decide +kernel
theorem dX7_addBatch_42 : decode cX7_addBatch 42 = .ok (.iload_n 3, 1) := by decide +kernel
theorem dX7_addBatch_43 : decode cX7_addBatch 43 = .ok (.invokevirtual 132, 3) := by decide +kernel
theorem dX7_addBatch_46 : decode cX7_addBatch 46 = .ok (.aload_n 0, 1) := by decide +kernel
theorem dX7_addBatch_47 : decode cX7_addBatch 47 = .ok (.getfield 29, 3) := by decide +kernel
theorem dX7_addBatch_50 : decode cX7_addBatch 50 = .ok (.iload 5, 2) := by decide +kernel
theorem dX7_addBatch_52 : decode cX7_addBatch 52 = .ok (.iload 4, 2) := by decide +kernel
theorem dX7_addBatch_54 : decode cX7_addBatch 54 = .ok (.invokevirtual 132, 3) := by decide +kernel
theorem dX7_addBatch_57 : decode cX7_addBatch 57 = .ok (.aload_n 0, 1) := by decide +kernel
theorem dX7_addBatch_58 : decode cX7_addBatch 58 = .ok (.dup, 1) := by decide +kernel
theorem dX7_addBatch_59 : decode cX7_addBatch 59 = .ok (.getfield 66, 3) := by decide +kernel
theorem dX7_addBatch_62 : decode cX7_addBatch 62 = .ok (.iconst 1, 1) := by decide +kernel
theorem dX7_addBatch_63 : decode cX7_addBatch 63 = .ok (.iadd, 1) := by decide +kernel
theorem dX7_addBatch_64 : decode cX7_addBatch 64 = .ok (.putfield 66, 3) := by decide +kernel
theorem dX7_addBatch_67 : decode cX7_addBatch 67 = .ok (.aload_n 0, 1) := by decide +kernel
theorem dX7_addBatch_68 : decode cX7_addBatch 68 = .ok (.getfield 47, 3) := by decide +kernel
theorem dX7_addBatch_71 : decode cX7_addBatch 71 = .ok (.iload_n 1, 1) := by decide +kernel
theorem dX7_addBatch_72 : decode cX7_addBatch 72 = .ok (.iload_n 2, 1) := by decide +kernel
theorem dX7_addBatch_73 : decode cX7_addBatch 73 = .ok (.invokevirtual 135, 3) := by decide +kernel
theorem dX7_addBatch_76 : decode cX7_addBatch 76 = .ok (.iload 5, 2) := by decide +kernel
theorem dX7_addBatch_78 : decode cX7_addBatch 78 = .ok (.ireturn, 1) := by decide +kernel
theorem dX7_issueUnits_0 : decode cX7_issueUnits 0 = .ok (.aload_n 0, 1) := by decide +kernel
theorem dX7_issueUnits_1 : decode cX7_issueUnits 1 = .ok (.aload_n 1, 1) := by decide +kernel
theorem dX7_issueUnits_2 : decode cX7_issueUnits 2 = .ok (.iload_n 2, 1) := by decide +kernel
theorem dX7_issueUnits_3 : decode cX7_issueUnits 3 = .ok (.aload_n 0, 1) := by decide +kernel
theorem dX7_issueUnits_4 : decode cX7_issueUnits 4 = .ok (.getfield 62, 3) := by decide +kernel
theorem dX7_issueUnits_7 : decode cX7_issueUnits 7 = .ok (.invokevirtual 138, 3) := by decide +kernel
theorem dX7_issueUnits_10 : decode cX7_issueUnits 10 = .ok (.aload_n 0, 1) := by decide +kernel
theorem dX7_issueUnits_11 : decode cX7_issueUnits 11 = .ok (.aload_n 1, 1) := by decide +kernel
theorem dX7_issueUnits_12 : decode cX7_issueUnits 12 = .ok (.iload_n 3, 1) := by decide +kernel
theorem dX7_issueUnits_13 : decode cX7_issueUnits 13 = .ok (.invokevirtual 142, 3) := by decide +kernel
theorem dX7_issueUnits_16 : decode cX7_issueUnits 16 = .ok (.istore 4, 2) := by decide +kernel
theorem dX7_issueUnits_18 : decode cX7_issueUnits 18 = .ok (.iload_n 3, 1) := by decide +kernel
theorem dX7_issueUnits_19 : decode cX7_issueUnits 19 = .ok (.istore 5, 2) := by decide +kernel
theorem dX7_issueUnits_21 : decode cX7_issueUnits 21 = .ok (.iconst 0, 1) := by decide +kernel
theorem dX7_issueUnits_22 : decode cX7_issueUnits 22 = .ok (.istore 6, 2) := by decide +kernel
theorem dX7_issueUnits_24 : decode cX7_issueUnits 24 = .ok (.iload 6, 2) := by decide +kernel
theorem dX7_issueUnits_26 : decode cX7_issueUnits 26 = .ok (.aload_n 1, 1) := by decide +kernel
theorem dX7_issueUnits_27 : decode cX7_issueUnits 27 = .ok (.getfield 102, 3) := by decide +kernel
theorem dX7_issueUnits_30 : decode cX7_issueUnits 30 = .ok (.if_icmp .ge 57, 3) := by decide +kernel
theorem dX7_issueUnits_33 : decode cX7_issueUnits 33 = .ok (.iload 5, 2) := by decide +kernel
theorem dX7_issueUnits_35 : decode cX7_issueUnits 35 = .ok (.ifCond .le 52, 3) := by decide +kernel
theorem dX7_issueUnits_38 : decode cX7_issueUnits 38 = .ok (.aload_n 1, 1) := by decide +kernel
theorem dX7_issueUnits_39 : decode cX7_issueUnits 39 = .ok (.getfield 105, 3) := by decide +kernel
theorem dX7_issueUnits_42 : decode cX7_issueUnits 42 = .ok (.iload 6, 2) := by decide +kernel
theorem dX7_issueUnits_44 : decode cX7_issueUnits 44 = .ok (.invokevirtual 79, 3) := by decide +kernel
theorem dX7_issueUnits_47 : decode cX7_issueUnits 47 = .ok (.istore 7, 2) := by decide +kernel
theorem dX7_issueUnits_49 : decode cX7_issueUnits 49 = .ok (.iload 5, 2) := by decide +kernel
theorem dX7_issueUnits_51 : decode cX7_issueUnits 51 = .ok (.aload_n 0, 1) := by decide +kernel
theorem dX7_issueUnits_52 : decode cX7_issueUnits 52 = .ok (.iload 7, 2) := by decide +kernel
theorem dX7_issueUnits_54 : decode cX7_issueUnits 54 = .ok (.invokevirtual 95, 3) := by decide +kernel
theorem dX7_issueUnits_57 : decode cX7_issueUnits 57 = .ok (.invokestatic 107, 3) := by decide +kernel
theorem dX7_issueUnits_60 : decode cX7_issueUnits 60 = .ok (.istore 8, 2) := by decide +kernel
theorem dX7_issueUnits_62 : decode cX7_issueUnits 62 = .ok (.aload_n 0, 1) := by decide +kernel
theorem dX7_issueUnits_63 : decode cX7_issueUnits 63 = .ok (.getfield 20, 3) := by decide +kernel
theorem dX7_issueUnits_66 : decode cX7_issueUnits 66 = .ok (.iload 7, 2) := by decide +kernel
theorem dX7_issueUnits_68 : decode cX7_issueUnits 68 = .ok (.iload 8, 2) := by decide +kernel
theorem dX7_issueUnits_70 : decode cX7_issueUnits 70 = .ok (.ineg, 1) := by decide +kernel
theorem dX7_issueUnits_71 : decode cX7_issueUnits 71 = .ok (.invokevirtual 135, 3) := by decide +kernel
theorem dX7_issueUnits_74 : decode cX7_issueUnits 74 = .ok (.iload 5, 2) := by decide +kernel
theorem dX7_issueUnits_76 : decode cX7_issueUnits 76 = .ok (.iload 8, 2) := by decide +kernel
theorem dX7_issueUnits_78 : decode cX7_issueUnits 78 = .ok (.isub, 1) := by decide +kernel
theorem dX7_issueUnits_79 : decode cX7_issueUnits 79 = .ok (.istore 5, 2) := by decide +kernel
theorem dX7_issueUnits_81 : decode cX7_issueUnits 81 = .ok (.iinc 6 1, 3) := by decide +kernel
theorem dX7_issueUnits_84 : decode cX7_issueUnits 84 = .ok (.goto (-60), 3) := by decide +kernel
theorem dX7_issueUnits_87 : decode cX7_issueUnits 87 = .ok (.aload_n 0, 1) := by decide +kernel
theorem dX7_issueUnits_88 : decode cX7_issueUnits 88 = .ok (.getfield 50, 3) := by decide +kernel
theorem dX7_issueUnits_91 : decode cX7_issueUnits 91 = .ok (.iload_n 2, 1) := by decide +kernel
theorem dX7_issueUnits_92 : decode cX7_issueUnits 92 = .ok (.iload_n 3, 1) := by decide +kernel
theorem dX7_issueUnits_93 : decode cX7_issueUnits 93 = .ok (.invokevirtual 135, 3) := by decide +kernel
theorem dX7_issueUnits_96 : decode cX7_issueUnits 96 = .ok (.iload 4, 2) := by decide +kernel
theorem dX7_issueUnits_98 : decode cX7_issueUnits 98 = .ok (.ireturn, 1) := by decide +kernel
theorem dX7_addReservation_0 : decode cX7_addReservation 0 = .ok (.aload_n 0, 1) := by decide +kernel
theorem dX7_addReservation_1 : decode cX7_addReservation 1 = .ok (.getfield 69, 3) := by decide +kernel
theorem dX7_addReservation_4 : decode cX7_addReservation 4 = .ok (.istore 5, 2) := by decide +kernel
theorem dX7_addReservation_6 : decode cX7_addReservation 6 = .ok (.aload_n 0, 1) := by decide +kernel
theorem dX7_addReservation_7 : decode cX7_addReservation 7 = .ok (.getfield 32, 3) := by decide +kernel
theorem dX7_addReservation_10 : decode cX7_addReservation 10 = .ok (.iload 5, 2) := by decide +kernel
theorem dX7_addReservation_12 : decode cX7_addReservation 12 = .ok (.iload_n 2, 1) := by decide +kernel
theorem dX7_addReservation_13 : decode cX7_addReservation 13 = .ok (.invokevirtual 132, 3) := by decide +kernel
theorem dX7_addReservation_16 : decode cX7_addReservation 16 = .ok (.aload_n 0, 1) := by decide +kernel
theorem dX7_addReservation_17 : decode cX7_addReservation 17 = .ok (.getfield 35, 3) := by decide +kernel
theorem dX7_addReservation_20 : decode cX7_addReservation 20 = .ok (.iload 5, 2) := by decide +kernel
theorem dX7_addReservation_22 : decode cX7_addReservation 22 = .ok (.iload_n 3, 1) := by decide +kernel
theorem dX7_addReservation_23 : decode cX7_addReservation 23 = .ok (.invokevirtual 132, 3) := by decide +kernel
theorem dX7_addReservation_26 : decode cX7_addReservation 26 = .ok (.aload_n 0, 1) := by decide +kernel
theorem dX7_addReservation_27 : decode cX7_addReservation 27 = .ok (.getfield 38, 3) := by decide +kernel
theorem dX7_addReservation_30 : decode cX7_addReservation 30 = .ok (.iload 5, 2) := by decide +kernel
theorem dX7_addReservation_32 : decode cX7_addReservation 32 = .ok (.iload 4, 2) := by decide +kernel
theorem dX7_addReservation_34 : decode cX7_addReservation 34 = .ok (.invokevirtual 132, 3) := by decide +kernel
theorem dX7_addReservation_37 : decode cX7_addReservation 37 = .ok (.aload_n 0, 1) := by decide +kernel
theorem dX7_addReservation_38 : decode cX7_addReservation 38 = .ok (.getfield 41, 3) := by decide +kernel
theorem dX7_addReservation_41 : decode cX7_addReservation 41 = .ok (.iload 5, 2) := by decide +kernel
theorem dX7_addReservation_43 : decode cX7_addReservation 43 = .ok (.iconst 0, 1) := by decide +kernel
theorem dX7_addReservation_44 : decode cX7_addReservation 44 = .ok (.invokevirtual 132, 3) := by decide +kernel
theorem dX7_addReservation_47 : decode cX7_addReservation 47 = .ok (.iconst 0, 1) := by decide +kernel
theorem dX7_addReservation_48 : decode cX7_addReservation 48 = .ok (.istore 6, 2) := by decide +kernel
theorem dX7_addReservation_50 : decode cX7_addReservation 50 = .ok (.iload 6, 2) := by decide +kernel
theorem dX7_addReservation_52 : decode cX7_addReservation 52 = .ok (.bipush 20, 2) := by decide +kernel
theorem dX7_addReservation_54 : decode cX7_addReservation 54 = .ok (.if_icmp .ge 25, 3) := by decide +kernel
theorem dX7_addReservation_57 : decode cX7_addReservation 57 = .ok (.aload_n 0, 1) := by decide +kernel
theorem dX7_addReservation_58 : decode cX7_addReservation 58 = .ok (.getfield 44, 3) := by decide +kernel
theorem dX7_addReservation_61 : decode cX7_addReservation 61 = .ok (.iload 5, 2) := by decide +kernel
theorem dX7_addReservation_63 : decode cX7_addReservation 63 = .ok (.bipush 20, 2) := by decide +kernel
theorem dX7_addReservation_65 : decode cX7_addReservation 65 = .ok (.imul, 1) := by decide +kernel
theorem dX7_addReservation_66 : decode cX7_addReservation 66 = .ok (.iload 6, 2) := by decide +kernel
theorem dX7_addReservation_68 : decode cX7_addReservation 68 = .ok (.iadd, 1) := by decide +kernel
theorem dX7_addReservation_69 : decode cX7_addReservation 69 = .ok (.iconst 0, 1) := by decide +kernel
theorem dX7_addReservation_70 : decode cX7_addReservation 70 = .ok (.invokevirtual 132, 3) := by decide +kernel
theorem dX7_addReservation_73 : decode cX7_addReservation 73 = .ok (.iinc 6 1, 3) := by decide +kernel
theorem dX7_addReservation_76 : decode cX7_addReservation 76 = .ok (.goto (-26), 3) := by decide +kernel
theorem dX7_addReservation_79 : decode cX7_addReservation 79 = .ok (.aload_n 0, 1) := by decide +kernel
theorem dX7_addReservation_80 : decode cX7_addReservation 80 = .ok (.dup, 1) := by decide +kernel
theorem dX7_addReservation_81 : decode cX7_addReservation 81 = .ok (.getfield 69, 3) := by decide +kernel
theorem dX7_addReservation_84 : decode cX7_addReservation 84 = .ok (.iconst 1, 1) := by decide +kernel
theorem dX7_addReservation_85 : decode cX7_addReservation 85 = .ok (.iadd, 1) := by decide +kernel
theorem dX7_addReservation_86 : decode cX7_addReservation 86 = .ok (.putfield 69, 3) := by decide +kernel
theorem dX7_addReservation_89 : decode cX7_addReservation 89 = .ok (.aload_n 0, 1) := by decide +kernel
theorem dX7_addReservation_90 : decode cX7_addReservation 90 = .ok (.aload_n 1, 1) := by decide +kernel
theorem dX7_addReservation_91 : decode cX7_addReservation 91 = .ok (.iload 5, 2) := by decide +kernel
theorem dX7_addReservation_93 : decode cX7_addReservation 93 = .ok (.invokevirtual 146, 3) := by decide +kernel
theorem dX7_addReservation_96 : decode cX7_addReservation 96 = .ok (.pop, 1) := by decide +kernel
theorem dX7_addReservation_97 : decode cX7_addReservation 97 = .ok (.iload 5, 2) := by decide +kernel
theorem dX7_addReservation_99 : decode cX7_addReservation 99 = .ok (.ireturn, 1) := by decide +kernel
theorem dX7_refillReservation_0 : decode cX7_refillReservation 0 = .ok (.aload_n 0, 1) := by decide +kernel
theorem dX7_refillReservation_1 : decode cX7_refillReservation 1 = .ok (.getfield 38, 3) := by decide +kernel
theorem dX7_refillReservation_4 : decode cX7_refillReservation 4 = .ok (.iload_n 2, 1) := by decide +kernel
theorem dX7_refillReservation_5 : decode cX7_refillReservation 5 = .ok (.invokevirtual 79, 3) := by decide +kernel
theorem dX7_refillReservation_8 : decode cX7_refillReservation 8 = .ok (.aload_n 0, 1) := by decide +kernel
theorem dX7_refillReservation_9 : decode cX7_refillReservation 9 = .ok (.getfield 62, 3) := by decide +kernel
theorem dX7_refillReservation_12 : decode cX7_refillReservation 12 = .ok (.invokestatic 126, 3) := by decide +kernel
theorem dX7_refillReservation_15 : decode cX7_refillReservation 15 = .ok (.istore_n 3, 1) := by decide +kernel
theorem dX7_refillReservation_16 : decode cX7_refillReservation 16 = .ok (.aload_n 0, 1) := by decide +kernel
theorem dX7_refillReservation_17 : decode cX7_refillReservation 17 = .ok (.aload_n 1, 1) := by decide +kernel
theorem dX7_refillReservation_18 : decode cX7_refillReservation 18 = .ok (.aload_n 0, 1) := by decide +kernel
theorem dX7_refillReservation_19 : decode cX7_refillReservation 19 = .ok (.getfield 32, 3) := by decide +kernel
theorem dX7_refillReservation_22 : decode cX7_refillReservation 22 = .ok (.iload_n 2, 1) := by decide +kernel
theorem dX7_refillReservation_23 : decode cX7_refillReservation 23 = .ok (.invokevirtual 79, 3) := by decide +kernel
theorem dX7_refillReservation_26 : decode cX7_refillReservation 26 = .ok (.iload_n 3, 1) := by decide +kernel
theorem dX7_refillReservation_27 : decode cX7_refillReservation 27 = .ok (.invokevirtual 138, 3) := by decide +kernel
theorem dX7_refillReservation_30 : decode cX7_refillReservation 30 = .ok (.aload_n 0, 1) := by decide +kernel
theorem dX7_refillReservation_31 : decode cX7_refillReservation 31 = .ok (.iload_n 2, 1) := by decide +kernel
theorem dX7_refillReservation_32 : decode cX7_refillReservation 32 = .ok (.invokevirtual 120, 3) := by decide +kernel
theorem dX7_refillReservation_35 : decode cX7_refillReservation 35 = .ok (.istore 4, 2) := by decide +kernel
theorem dX7_refillReservation_37 : decode cX7_refillReservation 37 = .ok (.iload 4, 2) := by decide +kernel
theorem dX7_refillReservation_39 : decode cX7_refillReservation 39 = .ok (.istore 5, 2) := by decide +kernel
theorem dX7_refillReservation_41 : decode cX7_refillReservation 41 = .ok (.iconst 0, 1) := by decide +kernel
theorem dX7_refillReservation_42 : decode cX7_refillReservation 42 = .ok (.istore 6, 2) := by decide +kernel
theorem dX7_refillReservation_44 : decode cX7_refillReservation 44 = .ok (.iload 6, 2) := by decide +kernel
theorem dX7_refillReservation_46 : decode cX7_refillReservation 46 = .ok (.aload_n 1, 1) := by decide +kernel
theorem dX7_refillReservation_47 : decode cX7_refillReservation 47 = .ok (.getfield 102, 3) := by decide +kernel
theorem dX7_refillReservation_50 : decode cX7_refillReservation 50 = .ok (.if_icmp .ge 72, 3) := by decide +kernel
theorem dX7_refillReservation_53 : decode cX7_refillReservation 53 = .ok (.iload 5, 2) := by decide +kernel
theorem dX7_refillReservation_55 : decode cX7_refillReservation 55 = .ok (.ifCond .le 67, 3) := by decide +kernel
theorem dX7_refillReservation_58 : decode cX7_refillReservation 58 = .ok (.aload_n 1, 1) := by decide +kernel
theorem dX7_refillReservation_59 : decode cX7_refillReservation 59 = .ok (.getfield 105, 3) := by decide +kernel
theorem dX7_refillReservation_62 : decode cX7_refillReservation 62 = .ok (.iload 6, 2) := by decide +kernel
theorem dX7_refillReservation_64 : decode cX7_refillReservation 64 = .ok (.invokevirtual 79, 3) := by decide +kernel
theorem dX7_refillReservation_67 : decode cX7_refillReservation 67 = .ok (.istore 7, 2) := by decide +kernel
theorem dX7_refillReservation_69 : decode cX7_refillReservation 69 = .ok (.iload 5, 2) := by decide +kernel
theorem dX7_refillReservation_71 : decode cX7_refillReservation 71 = .ok (.aload_n 0, 1) := by decide +kernel
theorem dX7_refillReservation_72 : decode cX7_refillReservation 72 = .ok (.iload 7, 2) := by decide +kernel
theorem dX7_refillReservation_74 : decode cX7_refillReservation 74 = .ok (.invokevirtual 95, 3) := by decide +kernel
theorem dX7_refillReservation_77 : decode cX7_refillReservation 77 = .ok (.invokestatic 107, 3) := by decide +kernel
theorem dX7_refillReservation_80 : decode cX7_refillReservation 80 = .ok (.istore 8, 2) := by decide +kernel
theorem dX7_refillReservation_82 : decode cX7_refillReservation 82 = .ok (.aload_n 0, 1) := by decide +kernel
theorem dX7_refillReservation_83 : decode cX7_refillReservation 83 = .ok (.getfield 44, 3) := by decide +kernel
theorem dX7_refillReservation_86 : decode cX7_refillReservation 86 = .ok (.iload_n 2, 1) := by decide +kernel
theorem dX7_refillReservation_87 : decode cX7_refillReservation 87 = .ok (.bipush 20, 2) := by decide +kernel
theorem dX7_refillReservation_89 : decode cX7_refillReservation 89 = .ok (.imul, 1) := by decide +kernel
theorem dX7_refillReservation_90 : decode cX7_refillReservation 90 = .ok (.iload 7, 2) := by decide +kernel
theorem dX7_refillReservation_92 : decode cX7_refillReservation 92 = .ok (.iadd, 1) := by decide +kernel
theorem dX7_refillReservation_93 : decode cX7_refillReservation 93 = .ok (.iload 8, 2) := by decide +kernel
theorem dX7_refillReservation_95 : decode cX7_refillReservation 95 = .ok (.invokevirtual 135, 3) := by decide +kernel
theorem dX7_refillReservation_98 : decode cX7_refillReservation 98 = .ok (.aload_n 0, 1) := by decide +kernel
theorem dX7_refillReservation_99 : decode cX7_refillReservation 99 = .ok (.getfield 23, 3) := by decide +kernel
theorem dX7_refillReservation_102 : decode cX7_refillReservation 102 = .ok (.iload 7, 2) := by decide +kernel
theorem dX7_refillReservation_104 : decode cX7_refillReservation 104 = .ok (.iload 8, 2) := by decide +kernel
theorem dX7_refillReservation_106 : decode cX7_refillReservation 106 = .ok (.invokevirtual 135, 3) := by decide +kernel
theorem dX7_refillReservation_109 : decode cX7_refillReservation 109 = .ok (.iload 5, 2) := by decide +kernel
theorem dX7_refillReservation_111 : decode cX7_refillReservation 111 = .ok (.iload 8, 2) := by decide +kernel
theorem dX7_refillReservation_113 : decode cX7_refillReservation 113 = .ok (.isub, 1) := by decide +kernel
theorem dX7_refillReservation_114 : decode cX7_refillReservation 114 = .ok (.istore 5, 2) := by decide +kernel
theorem dX7_refillReservation_116 : decode cX7_refillReservation 116 = .ok (.iinc 6 1, 3) := by decide +kernel
theorem dX7_refillReservation_119 : decode cX7_refillReservation 119 = .ok (.goto (-75), 3) := by decide +kernel
theorem dX7_refillReservation_122 : decode cX7_refillReservation 122 = .ok (.iload 4, 2) := by decide +kernel
theorem dX7_refillReservation_124 : decode cX7_refillReservation 124 = .ok (.iload 5, 2) := by decide +kernel
theorem dX7_refillReservation_126 : decode cX7_refillReservation 126 = .ok (.isub, 1) := by decide +kernel
theorem dX7_refillReservation_127 : decode cX7_refillReservation 127 = .ok (.ireturn, 1) := by decide +kernel
theorem dX7_shipReservation_0 : decode cX7_shipReservation 0 = .ok (.iconst 0, 1) := by decide +kernel
theorem dX7_shipReservation_1 : decode cX7_shipReservation 1 = .ok (.istore_n 2, 1) := by decide +kernel
theorem dX7_shipReservation_2 : decode cX7_shipReservation 2 = .ok (.iconst 0, 1) := by decide +kernel
theorem dX7_shipReservation_3 : decode cX7_shipReservation 3 = .ok (.istore_n 3, 1) := by decide +kernel
theorem dX7_shipReservation_4 : decode cX7_shipReservation 4 = .ok (.iload_n 3, 1) := by decide +kernel
theorem dX7_shipReservation_5 : decode cX7_shipReservation 5 = .ok (.aload_n 0, 1) := by decide +kernel
theorem dX7_shipReservation_6 : decode cX7_shipReservation 6 = .ok (.getfield 66, 3) := by decide +kernel
theorem dX7_shipReservation_9 : decode cX7_shipReservation 9 = .ok (.if_icmp .ge 42, 3) := by decide +kernel
theorem dX7_shipReservation_12 : decode cX7_shipReservation 12 = .ok (.aload_n 0, 1) := by decide +kernel
theorem dX7_shipReservation_13 : decode cX7_shipReservation 13 = .ok (.iload_n 1, 1) := by decide +kernel
theorem dX7_shipReservation_14 : decode cX7_shipReservation 14 = .ok (.iload_n 3, 1) := by decide +kernel
theorem dX7_shipReservation_15 : decode cX7_shipReservation 15 = .ok (.invokevirtual 129, 3) := by decide +kernel
theorem dX7_shipReservation_18 : decode cX7_shipReservation 18 = .ok (.istore 4, 2) := by decide +kernel
theorem dX7_shipReservation_20 : decode cX7_shipReservation 20 = .ok (.aload_n 0, 1) := by decide +kernel
theorem dX7_shipReservation_21 : decode cX7_shipReservation 21 = .ok (.getfield 20, 3) := by decide +kernel
theorem dX7_shipReservation_24 : decode cX7_shipReservation 24 = .ok (.iload_n 3, 1) := by decide +kernel
theorem dX7_shipReservation_25 : decode cX7_shipReservation 25 = .ok (.iload 4, 2) := by decide +kernel
theorem dX7_shipReservation_27 : decode cX7_shipReservation 27 = .ok (.ineg, 1) := by decide +kernel
theorem dX7_shipReservation_28 : decode cX7_shipReservation 28 = .ok (.invokevirtual 135, 3) := by decide +kernel
theorem dX7_shipReservation_31 : decode cX7_shipReservation 31 = .ok (.iload_n 2, 1) := by decide +kernel
theorem dX7_shipReservation_32 : decode cX7_shipReservation 32 = .ok (.iload 4, 2) := by decide +kernel
theorem dX7_shipReservation_34 : decode cX7_shipReservation 34 = .ok (.aload_n 0, 1) := by decide +kernel
theorem dX7_shipReservation_35 : decode cX7_shipReservation 35 = .ok (.getfield 29, 3) := by decide +kernel
theorem dX7_shipReservation_38 : decode cX7_shipReservation 38 = .ok (.iload_n 3, 1) := by decide +kernel
theorem dX7_shipReservation_39 : decode cX7_shipReservation 39 = .ok (.invokevirtual 79, 3) := by decide +kernel
theorem dX7_shipReservation_42 : decode cX7_shipReservation 42 = .ok (.imul, 1) := by decide +kernel
theorem dX7_shipReservation_43 : decode cX7_shipReservation 43 = .ok (.iadd, 1) := by decide +kernel
theorem dX7_shipReservation_44 : decode cX7_shipReservation 44 = .ok (.istore_n 2, 1) := by decide +kernel
theorem dX7_shipReservation_45 : decode cX7_shipReservation 45 = .ok (.iinc 3 1, 3) := by decide +kernel
theorem dX7_shipReservation_48 : decode cX7_shipReservation 48 = .ok (.goto (-44), 3) := by decide +kernel
theorem dX7_shipReservation_51 : decode cX7_shipReservation 51 = .ok (.aload_n 0, 1) := by decide +kernel
theorem dX7_shipReservation_52 : decode cX7_shipReservation 52 = .ok (.getfield 53, 3) := by decide +kernel
theorem dX7_shipReservation_55 : decode cX7_shipReservation 55 = .ok (.aload_n 0, 1) := by decide +kernel
theorem dX7_shipReservation_56 : decode cX7_shipReservation 56 = .ok (.getfield 32, 3) := by decide +kernel
theorem dX7_shipReservation_59 : decode cX7_shipReservation 59 = .ok (.iload_n 1, 1) := by decide +kernel
theorem dX7_shipReservation_60 : decode cX7_shipReservation 60 = .ok (.invokevirtual 79, 3) := by decide +kernel
theorem dX7_shipReservation_63 : decode cX7_shipReservation 63 = .ok (.aload_n 0, 1) := by decide +kernel
theorem dX7_shipReservation_64 : decode cX7_shipReservation 64 = .ok (.iload_n 1, 1) := by decide +kernel
theorem dX7_shipReservation_65 : decode cX7_shipReservation 65 = .ok (.invokevirtual 117, 3) := by decide +kernel
theorem dX7_shipReservation_68 : decode cX7_shipReservation 68 = .ok (.invokevirtual 135, 3) := by decide +kernel
theorem dX7_shipReservation_71 : decode cX7_shipReservation 71 = .ok (.aload_n 0, 1) := by decide +kernel
theorem dX7_shipReservation_72 : decode cX7_shipReservation 72 = .ok (.iload_n 1, 1) := by decide +kernel
theorem dX7_shipReservation_73 : decode cX7_shipReservation 73 = .ok (.iconst 1, 1) := by decide +kernel
theorem dX7_shipReservation_74 : decode cX7_shipReservation 74 = .ok (.invokevirtual 149, 3) := by decide +kernel
theorem dX7_shipReservation_77 : decode cX7_shipReservation 77 = .ok (.iload_n 2, 1) := by decide +kernel
theorem dX7_shipReservation_78 : decode cX7_shipReservation 78 = .ok (.ireturn, 1) := by decide +kernel
theorem dX7_cancelReservation_0 : decode cX7_cancelReservation 0 = .ok (.aload_n 0, 1) := by decide +kernel
theorem dX7_cancelReservation_1 : decode cX7_cancelReservation 1 = .ok (.iload_n 1, 1) := by decide +kernel
theorem dX7_cancelReservation_2 : decode cX7_cancelReservation 2 = .ok (.iconst 2, 1) := by decide +kernel
theorem dX7_cancelReservation_3 : decode cX7_cancelReservation 3 = .ok (.invokevirtual 149, 3) := by decide +kernel
theorem dX7_cancelReservation_6 : decode cX7_cancelReservation 6 = .ok (.aload_n 0, 1) := by decide +kernel
theorem dX7_cancelReservation_7 : decode cX7_cancelReservation 7 = .ok (.iload_n 1, 1) := by decide +kernel
theorem dX7_cancelReservation_8 : decode cX7_cancelReservation 8 = .ok (.invokevirtual 117, 3) := by decide +kernel
theorem dX7_cancelReservation_11 : decode cX7_cancelReservation 11 = .ok (.ireturn, 1) := by decide +kernel
theorem dX7_close_0 : decode cX7_close 0 = .ok (.aload_n 0, 1) := by decide +kernel
theorem dX7_close_1 : decode cX7_close 1 = .ok (.getfield 41, 3) := by decide +kernel
theorem dX7_close_4 : decode cX7_close 4 = .ok (.iload_n 1, 1) := by decide +kernel
theorem dX7_close_5 : decode cX7_close 5 = .ok (.iload_n 2, 1) := by decide +kernel
theorem dX7_close_6 : decode cX7_close 6 = .ok (.invokevirtual 132, 3) := by decide +kernel
theorem dX7_close_9 : decode cX7_close 9 = .ok (.iconst 0, 1) := by decide +kernel
theorem dX7_close_10 : decode cX7_close 10 = .ok (.istore_n 3, 1) := by decide +kernel
theorem dX7_close_11 : decode cX7_close 11 = .ok (.iload_n 3, 1) := by decide +kernel
theorem dX7_close_12 : decode cX7_close 12 = .ok (.aload_n 0, 1) := by decide +kernel
theorem dX7_close_13 : decode cX7_close 13 = .ok (.getfield 66, 3) := by decide +kernel
theorem dX7_close_16 : decode cX7_close 16 = .ok (.if_icmp .ge 24, 3) := by decide +kernel
theorem dX7_close_19 : decode cX7_close 19 = .ok (.aload_n 0, 1) := by decide +kernel
theorem dX7_close_20 : decode cX7_close 20 = .ok (.getfield 23, 3) := by decide +kernel
theorem dX7_close_23 : decode cX7_close 23 = .ok (.iload_n 3, 1) := by decide +kernel
theorem dX7_close_24 : decode cX7_close 24 = .ok (.aload_n 0, 1) := by decide +kernel
theorem dX7_close_25 : decode cX7_close 25 = .ok (.iload_n 1, 1) := by decide +kernel
theorem dX7_close_26 : decode cX7_close 26 = .ok (.iload_n 3, 1) := by decide +kernel
theorem dX7_close_27 : decode cX7_close 27 = .ok (.invokevirtual 129, 3) := by decide +kernel
theorem dX7_close_30 : decode cX7_close 30 = .ok (.ineg, 1) := by decide +kernel
theorem dX7_close_31 : decode cX7_close 31 = .ok (.invokevirtual 135, 3) := by decide +kernel
theorem dX7_close_34 : decode cX7_close 34 = .ok (.iinc 3 1, 3) := by decide +kernel
theorem dX7_close_37 : decode cX7_close 37 = .ok (.goto (-26), 3) := by decide +kernel
theorem dX7_close_40 : decode cX7_close 40 = .ok (.return_, 1) := by decide +kernel
theorem dX7_countBatch_0 : decode cX7_countBatch 0 = .ok (.iload_n 2, 1) := by decide +kernel
theorem dX7_countBatch_1 : decode cX7_countBatch 1 = .ok (.aload_n 0, 1) := by decide +kernel
theorem dX7_countBatch_2 : decode cX7_countBatch 2 = .ok (.getfield 20, 3) := by decide +kernel
theorem dX7_countBatch_5 : decode cX7_countBatch 5 = .ok (.iload_n 1, 1) := by decide +kernel
theorem dX7_countBatch_6 : decode cX7_countBatch 6 = .ok (.invokevirtual 79, 3) := by decide +kernel
theorem dX7_countBatch_9 : decode cX7_countBatch 9 = .ok (.isub, 1) := by decide +kernel
theorem dX7_countBatch_10 : decode cX7_countBatch 10 = .ok (.istore_n 3, 1) := by decide +kernel
theorem dX7_countBatch_11 : decode cX7_countBatch 11 = .ok (.aload_n 0, 1) := by decide +kernel
theorem dX7_countBatch_12 : decode cX7_countBatch 12 = .ok (.getfield 20, 3) := by decide +kernel
theorem dX7_countBatch_15 : decode cX7_countBatch 15 = .ok (.iload_n 1, 1) := by decide +kernel
theorem dX7_countBatch_16 : decode cX7_countBatch 16 = .ok (.iload_n 2, 1) := by decide +kernel
theorem dX7_countBatch_17 : decode cX7_countBatch 17 = .ok (.invokevirtual 132, 3) := by decide +kernel
theorem dX7_countBatch_20 : decode cX7_countBatch 20 = .ok (.aload_n 0, 1) := by decide +kernel
theorem dX7_countBatch_21 : decode cX7_countBatch 21 = .ok (.getfield 59, 3) := by decide +kernel
theorem dX7_countBatch_24 : decode cX7_countBatch 24 = .ok (.aload_n 0, 1) := by decide +kernel
theorem dX7_countBatch_25 : decode cX7_countBatch 25 = .ok (.getfield 14, 3) := by decide +kernel
theorem dX7_countBatch_28 : decode cX7_countBatch 28 = .ok (.iload_n 1, 1) := by decide +kernel
theorem dX7_countBatch_29 : decode cX7_countBatch 29 = .ok (.invokevirtual 79, 3) := by decide +kernel
theorem dX7_countBatch_32 : decode cX7_countBatch 32 = .ok (.iload_n 3, 1) := by decide +kernel
theorem dX7_countBatch_33 : decode cX7_countBatch 33 = .ok (.invokevirtual 135, 3) := by decide +kernel
theorem dX7_countBatch_36 : decode cX7_countBatch 36 = .ok (.iload_n 3, 1) := by decide +kernel
theorem dX7_countBatch_37 : decode cX7_countBatch 37 = .ok (.ireturn, 1) := by decide +kernel
theorem dX7_writeOffExpiredBatches_0 : decode cX7_writeOffExpiredBatches 0 = .ok (.iconst 0, 1) := by decide +kernel
theorem dX7_writeOffExpiredBatches_1 : decode cX7_writeOffExpiredBatches 1 = .ok (.istore_n 1, 1) := by decide +kernel
theorem dX7_writeOffExpiredBatches_2 : decode cX7_writeOffExpiredBatches 2 = .ok (.iconst 0, 1) := by decide +kernel
theorem dX7_writeOffExpiredBatches_3 : decode cX7_writeOffExpiredBatches 3 = .ok (.istore_n 2, 1) := by decide +kernel
theorem dX7_writeOffExpiredBatches_4 : decode cX7_writeOffExpiredBatches 4 = .ok (.iload_n 2, 1) := by decide +kernel
theorem dX7_writeOffExpiredBatches_5 : decode cX7_writeOffExpiredBatches 5 = .ok (.aload_n 0, 1) := by decide +kernel
theorem dX7_writeOffExpiredBatches_6 : decode cX7_writeOffExpiredBatches 6 = .ok (.getfield 66, 3) := by decide +kernel
theorem dX7_writeOffExpiredBatches_9 : decode cX7_writeOffExpiredBatches 9 = .ok (.if_icmp .ge 33, 3) := by decide +kernel
theorem dX7_writeOffExpiredBatches_12 : decode cX7_writeOffExpiredBatches 12 = .ok (.aload_n 0, 1) := by decide +kernel
theorem dX7_writeOffExpiredBatches_13 : decode cX7_writeOffExpiredBatches 13 = .ok (.iload_n 2, 1) := by decide +kernel
theorem dX7_writeOffExpiredBatches_14 : decode cX7_writeOffExpiredBatches 14 = .ok (.invokevirtual 152, 3) := by decide +kernel
theorem dX7_writeOffExpiredBatches_17 : decode cX7_writeOffExpiredBatches 17 = .ok (.ifCond .eq 19, 3) := by decide +kernel
theorem dX7_writeOffExpiredBatches_20 : decode cX7_writeOffExpiredBatches 20 = .ok (.iload_n 1, 1) := by decide +kernel
theorem dX7_writeOffExpiredBatches_21 : decode cX7_writeOffExpiredBatches 21 = .ok (.aload_n 0, 1) := by decide +kernel
theorem dX7_writeOffExpiredBatches_22 : decode cX7_writeOffExpiredBatches 22 = .ok (.getfield 20, 3) := by decide +kernel
theorem dX7_writeOffExpiredBatches_25 : decode cX7_writeOffExpiredBatches 25 = .ok (.iload_n 2, 1) := by decide +kernel
theorem dX7_writeOffExpiredBatches_26 : decode cX7_writeOffExpiredBatches 26 = .ok (.invokevirtual 79, 3) := by decide +kernel
theorem dX7_writeOffExpiredBatches_29 : decode cX7_writeOffExpiredBatches 29 = .ok (.iadd, 1) := by decide +kernel
theorem dX7_writeOffExpiredBatches_30 : decode cX7_writeOffExpiredBatches 30 = .ok (.istore_n 1, 1) := by decide +kernel
theorem dX7_writeOffExpiredBatches_31 : decode cX7_writeOffExpiredBatches 31 = .ok (.aload_n 0, 1) := by decide +kernel
theorem dX7_writeOffExpiredBatches_32 : decode cX7_writeOffExpiredBatches 32 = .ok (.iload_n 2, 1) := by decide +kernel
theorem dX7_writeOffExpiredBatches_33 : decode cX7_writeOffExpiredBatches 33 = .ok (.invokevirtual 155, 3) := by decide +kernel
theorem dX7_writeOffExpiredBatches_36 : decode cX7_writeOffExpiredBatches 36 = .ok (.iinc 2 1, 3) := by decide +kernel
theorem dX7_writeOffExpiredBatches_39 : decode cX7_writeOffExpiredBatches 39 = .ok (.goto (-35), 3) := by decide +kernel
theorem dX7_writeOffExpiredBatches_42 : decode cX7_writeOffExpiredBatches 42 = .ok (.iload_n 1, 1) := by decide +kernel
theorem dX7_writeOffExpiredBatches_43 : decode cX7_writeOffExpiredBatches 43 = .ok (.ireturn, 1) := by decide +kernel
theorem dX7_writeOff_0 : decode cX7_writeOff 0 = .ok (.aload_n 0, 1) := by decide +kernel
theorem dX7_writeOff_1 : decode cX7_writeOff 1 = .ok (.getfield 56, 3) := by decide +kernel
theorem dX7_writeOff_4 : decode cX7_writeOff 4 = .ok (.aload_n 0, 1) := by decide +kernel
theorem dX7_writeOff_5 : decode cX7_writeOff 5 = .ok (.getfield 14, 3) := by decide +kernel
theorem dX7_writeOff_8 : decode cX7_writeOff 8 = .ok (.iload_n 1, 1) := by decide +kernel
theorem dX7_writeOff_9 : decode cX7_writeOff 9 = .ok (.invokevirtual 79, 3) := by decide +kernel
theorem dX7_writeOff_12 : decode cX7_writeOff 12 = .ok (.aload_n 0, 1) := by decide +kernel
theorem dX7_writeOff_13 : decode cX7_writeOff 13 = .ok (.getfield 20, 3) := by decide +kernel
theorem dX7_writeOff_16 : decode cX7_writeOff 16 = .ok (.iload_n 1, 1) := by decide +kernel
theorem dX7_writeOff_17 : decode cX7_writeOff 17 = .ok (.invokevirtual 79, 3) := by decide +kernel
theorem dX7_writeOff_20 : decode cX7_writeOff 20 = .ok (.invokevirtual 135, 3) := by decide +kernel
theorem dX7_writeOff_23 : decode cX7_writeOff 23 = .ok (.aload_n 0, 1) := by decide +kernel
theorem dX7_writeOff_24 : decode cX7_writeOff 24 = .ok (.getfield 20, 3) := by decide +kernel
theorem dX7_writeOff_27 : decode cX7_writeOff 27 = .ok (.iload_n 1, 1) := by decide +kernel
theorem dX7_writeOff_28 : decode cX7_writeOff 28 = .ok (.iconst 0, 1) := by decide +kernel
theorem dX7_writeOff_29 : decode cX7_writeOff 29 = .ok (.invokevirtual 132, 3) := by decide +kernel
theorem dX7_writeOff_32 : decode cX7_writeOff 32 = .ok (.aload_n 0, 1) := by decide +kernel
theorem dX7_writeOff_33 : decode cX7_writeOff 33 = .ok (.getfield 23, 3) := by decide +kernel
theorem dX7_writeOff_36 : decode cX7_writeOff 36 = .ok (.iload_n 1, 1) := by decide +kernel
theorem dX7_writeOff_37 : decode cX7_writeOff 37 = .ok (.iconst 0, 1) := by decide +kernel
theorem dX7_writeOff_38 : decode cX7_writeOff 38 = .ok (.invokevirtual 132, 3) := by decide +kernel
theorem dX7_writeOff_41 : decode cX7_writeOff 41 = .ok (.iconst 0, 1) := by decide +kernel
theorem dX7_writeOff_42 : decode cX7_writeOff 42 = .ok (.istore_n 2, 1) := by decide +kernel
theorem dX7_writeOff_43 : decode cX7_writeOff 43 = .ok (.iload_n 2, 1) := by decide +kernel
theorem dX7_writeOff_44 : decode cX7_writeOff 44 = .ok (.aload_n 0, 1) := by decide +kernel
theorem dX7_writeOff_45 : decode cX7_writeOff 45 = .ok (.getfield 69, 3) := by decide +kernel
theorem dX7_writeOff_48 : decode cX7_writeOff 48 = .ok (.if_icmp .ge 31, 3) := by decide +kernel
theorem dX7_writeOff_51 : decode cX7_writeOff 51 = .ok (.aload_n 0, 1) := by decide +kernel
theorem dX7_writeOff_52 : decode cX7_writeOff 52 = .ok (.iload_n 2, 1) := by decide +kernel
theorem dX7_writeOff_53 : decode cX7_writeOff 53 = .ok (.invokevirtual 113, 3) := by decide +kernel
theorem dX7_writeOff_56 : decode cX7_writeOff 56 = .ok (.ifCond .eq 17, 3) := by decide +kernel
theorem dX7_writeOff_59 : decode cX7_writeOff 59 = .ok (.aload_n 0, 1) := by decide +kernel
theorem dX7_writeOff_60 : decode cX7_writeOff 60 = .ok (.getfield 44, 3) := by decide +kernel
theorem dX7_writeOff_63 : decode cX7_writeOff 63 = .ok (.iload_n 2, 1) := by decide +kernel
theorem dX7_writeOff_64 : decode cX7_writeOff 64 = .ok (.bipush 20, 2) := by decide +kernel
theorem dX7_writeOff_66 : decode cX7_writeOff 66 = .ok (.imul, 1) := by decide +kernel
theorem dX7_writeOff_67 : decode cX7_writeOff 67 = .ok (.iload_n 1, 1) := by decide +kernel
theorem dX7_writeOff_68 : decode cX7_writeOff 68 = .ok (.iadd, 1) := by decide +kernel
theorem dX7_writeOff_69 : decode cX7_writeOff 69 = .ok (.iconst 0, 1) := by decide +kernel
theorem dX7_writeOff_70 : decode cX7_writeOff 70 = .ok (.invokevirtual 132, 3) := by decide +kernel
theorem dX7_writeOff_73 : decode cX7_writeOff 73 = .ok (.iinc 2 1, 3) := by decide +kernel
theorem dX7_writeOff_76 : decode cX7_writeOff 76 = .ok (.goto (-33), 3) := by decide +kernel
theorem dX7_writeOff_79 : decode cX7_writeOff 79 = .ok (.return_, 1) := by decide +kernel
theorem dX7_advance_0 : decode cX7_advance 0 = .ok (.aload_n 0, 1) := by decide +kernel
theorem dX7_advance_1 : decode cX7_advance 1 = .ok (.getfield 62, 3) := by decide +kernel
theorem dX7_advance_4 : decode cX7_advance 4 = .ok (.istore_n 2, 1) := by decide +kernel
theorem dX7_advance_5 : decode cX7_advance 5 = .ok (.aload_n 0, 1) := by decide +kernel
theorem dX7_advance_6 : decode cX7_advance 6 = .ok (.dup, 1) := by decide +kernel
theorem dX7_advance_7 : decode cX7_advance 7 = .ok (.getfield 62, 3) := by decide +kernel
theorem dX7_advance_10 : decode cX7_advance 10 = .ok (.iload_n 1, 1) := by decide +kernel
theorem dX7_advance_11 : decode cX7_advance 11 = .ok (.iadd, 1) := by decide +kernel
theorem dX7_advance_12 : decode cX7_advance 12 = .ok (.putfield 62, 3) := by decide +kernel
theorem dX7_advance_15 : decode cX7_advance 15 = .ok (.iconst 0, 1) := by decide +kernel
theorem dX7_advance_16 : decode cX7_advance 16 = .ok (.istore_n 3, 1) := by decide +kernel
theorem dX7_advance_17 : decode cX7_advance 17 = .ok (.iconst 0, 1) := by decide +kernel
theorem dX7_advance_18 : decode cX7_advance 18 = .ok (.istore 4, 2) := by decide +kernel
theorem dX7_advance_20 : decode cX7_advance 20 = .ok (.iload 4, 2) := by decide +kernel
theorem dX7_advance_22 : decode cX7_advance 22 = .ok (.aload_n 0, 1) := by decide +kernel
theorem dX7_advance_23 : decode cX7_advance 23 = .ok (.getfield 66, 3) := by decide +kernel
theorem dX7_advance_26 : decode cX7_advance 26 = .ok (.if_icmp .ge 46, 3) := by decide +kernel
theorem dX7_advance_29 : decode cX7_advance 29 = .ok (.aload_n 0, 1) := by decide +kernel
theorem dX7_advance_30 : decode cX7_advance 30 = .ok (.getfield 20, 3) := by decide +kernel
theorem dX7_advance_33 : decode cX7_advance 33 = .ok (.iload 4, 2) := by decide +kernel
theorem dX7_advance_35 : decode cX7_advance 35 = .ok (.invokevirtual 79, 3) := by decide +kernel
theorem dX7_advance_38 : decode cX7_advance 38 = .ok (.ifCond .le 28, 3) := by decide +kernel
theorem dX7_advance_41 : decode cX7_advance 41 = .ok (.aload_n 0, 1) := by decide +kernel
theorem dX7_advance_42 : decode cX7_advance 42 = .ok (.getfield 26, 3) := by decide +kernel
theorem dX7_advance_45 : decode cX7_advance 45 = .ok (.iload 4, 2) := by decide +kernel
theorem dX7_advance_47 : decode cX7_advance 47 = .ok (.invokevirtual 79, 3) := by decide +kernel
theorem dX7_advance_50 : decode cX7_advance 50 = .ok (.iload_n 2, 1) := by decide +kernel
theorem dX7_advance_51 : decode cX7_advance 51 = .ok (.if_icmp .lt 15, 3) := by decide +kernel
theorem dX7_advance_54 : decode cX7_advance 54 = .ok (.aload_n 0, 1) := by decide +kernel
theorem dX7_advance_55 : decode cX7_advance 55 = .ok (.iload 4, 2) := by decide +kernel
theorem dX7_advance_57 : decode cX7_advance 57 = .ok (.invokevirtual 152, 3) := by decide +kernel
theorem dX7_advance_60 : decode cX7_advance 60 = .ok (.ifCond .eq 6, 3) := by decide +kernel
theorem dX7_advance_63 : decode cX7_advance 63 = .ok (.iinc 3 1, 3) := by decide +kernel
theorem dX7_advance_66 : decode cX7_advance 66 = .ok (.iinc 4 1, 3) := by decide +kernel
theorem dX7_advance_69 : decode cX7_advance 69 = .ok (.goto (-49), 3) := by decide +kernel
theorem dX7_advance_72 : decode cX7_advance 72 = .ok (.iload_n 3, 1) := by decide +kernel
theorem dX7_advance_73 : decode cX7_advance 73 = .ok (.ireturn, 1) := by decide +kernel
theorem dX8_init_0 : decode cX8_init 0 = .ok (.aload_n 0, 1) := by decide +kernel
theorem dX8_init_1 : decode cX8_init 1 = .ok (.invokespecial 3, 3) := by decide +kernel
theorem dX8_init_4 : decode cX8_init 4 = .ok (.aload_n 0, 1) := by decide +kernel
theorem dX8_init_5 : decode cX8_init 5 = .ok (.iconst 0, 1) := by decide +kernel
theorem dX8_init_6 : decode cX8_init 6 = .ok (.iload_n 1, 1) := by decide +kernel
theorem dX8_init_7 : decode cX8_init 7 = .ok (.invokestatic 9, 3) := by decide +kernel
theorem dX8_init_10 : decode cX8_init 10 = .ok (.newarray .byte, 2) := by decide +kernel
theorem dX8_init_12 : decode cX8_init 12 = .ok (.putfield 15, 3) := by decide +kernel
theorem dX8_init_15 : decode cX8_init 15 = .ok (.return_, 1) := by decide +kernel
theorem dX8_byteAt_0 : decode cX8_byteAt 0 = .ok (.iload_n 1, 1) := by decide +kernel
theorem dX8_byteAt_1 : decode cX8_byteAt 1 = .ok (.ifCond .lt 33, 3) := by decide +kernel
theorem dX8_byteAt_4 : decode cX8_byteAt 4 = .ok (.iload_n 1, 1) := by decide +kernel
theorem dX8_byteAt_5 : decode cX8_byteAt 5 = .ok (.aload_n 0, 1) := by decide +kernel
theorem dX8_byteAt_6 : decode cX8_byteAt 6 = .ok (.getfield 21, 3) := by decide +kernel
theorem dX8_byteAt_9 : decode cX8_byteAt 9 = .ok (.if_icmp .ge 25, 3) := by decide +kernel
theorem dX8_byteAt_12 : decode cX8_byteAt 12 = .ok (.iload_n 1, 1) := by decide +kernel
theorem dX8_byteAt_13 : decode cX8_byteAt 13 = .ok (.aload_n 0, 1) := by decide +kernel
theorem dX8_byteAt_14 : decode cX8_byteAt 14 = .ok (.getfield 15, 3) := by decide +kernel
theorem dX8_byteAt_17 : decode cX8_byteAt 17 = .ok (.arraylength, 1) := by decide +kernel
theorem dX8_byteAt_18 : decode cX8_byteAt 18 = .ok (.if_icmp .ge 16, 3) := by decide +kernel
theorem dX8_byteAt_21 : decode cX8_byteAt 21 = .ok (.aload_n 0, 1) := by decide +kernel
theorem dX8_byteAt_22 : decode cX8_byteAt 22 = .ok (.getfield 15, 3) := by decide +kernel
theorem dX8_byteAt_25 : decode cX8_byteAt 25 = .ok (.iload_n 1, 1) := by decide +kernel
theorem dX8_byteAt_26 : decode cX8_byteAt 26 = .ok (.baload, 1) := by decide +kernel
theorem dX8_byteAt_27 : decode cX8_byteAt 27 = .ok (.sipush 255, 3) := by decide +kernel
theorem dX8_byteAt_30 : decode cX8_byteAt 30 = .ok (.iand, 1) := by decide +kernel
theorem dX8_byteAt_31 : decode cX8_byteAt 31 = .ok (.goto 4, 3) := by decide +kernel
theorem dX8_byteAt_34 : decode cX8_byteAt 34 = .ok (.iconst (-1), 1) := by decide +kernel
theorem dX8_byteAt_35 : decode cX8_byteAt 35 = .ok (.ireturn, 1) := by decide +kernel
theorem dX8_addByte_0 : decode cX8_addByte 0 = .ok (.aload_n 0, 1) := by decide +kernel
theorem dX8_addByte_1 : decode cX8_addByte 1 = .ok (.getfield 21, 3) := by decide +kernel
theorem dX8_addByte_4 : decode cX8_addByte 4 = .ok (.ifCond .lt 36, 3) := by decide +kernel
theorem dX8_addByte_7 : decode cX8_addByte 7 = .ok (.aload_n 0, 1) := by decide +kernel
theorem dX8_addByte_8 : decode cX8_addByte 8 = .ok (.getfield 21, 3) := by decide +kernel
theorem dX8_addByte_11 : decode cX8_addByte 11 = .ok (.aload_n 0, 1) := by decide +kernel
theorem dX8_addByte_12 : decode cX8_addByte 12 = .ok (.getfield 15, 3) := by decide +kernel
theorem dX8_addByte_15 : decode cX8_addByte 15 = .ok (.arraylength, 1) := by decide +kernel
theorem dX8_addByte_16 : decode cX8_addByte 16 = .ok (.if_icmp .ge 24, 3) := by decide +kernel
theorem dX8_addByte_19 : decode cX8_addByte 19 = .ok (.aload_n 0, 1) := by decide +kernel
theorem dX8_addByte_20 : decode cX8_addByte 20 = .ok (.getfield 15, 3) := by decide +kernel
theorem dX8_addByte_23 : decode cX8_addByte 23 = .ok (.aload_n 0, 1) := by decide +kernel
theorem dX8_addByte_24 : decode cX8_addByte 24 = .ok (.getfield 21, 3) := by decide +kernel
theorem dX8_addByte_27 : decode cX8_addByte 27 = .ok (.iload_n 1, 1) := by decide +kernel
theorem dX8_addByte_28 : decode cX8_addByte 28 = .ok (.i2b, 1) := by decide +kernel
theorem dX8_addByte_29 : decode cX8_addByte 29 = .ok (.bastore, 1) := by decide +kernel
theorem dX8_addByte_30 : decode cX8_addByte 30 = .ok (.aload_n 0, 1) := by decide +kernel
theorem dX8_addByte_31 : decode cX8_addByte 31 = .ok (.dup, 1) := by decide +kernel
theorem dX8_addByte_32 : decode cX8_addByte 32 = .ok (.getfield 21, 3) := by decide +kernel
theorem dX8_addByte_35 : decode cX8_addByte 35 = .ok (.iconst 1, 1) := by decide +kernel
theorem dX8_addByte_36 : decode cX8_addByte 36 = .ok (.iadd, 1) := by decide +kernel
theorem dX8_addByte_37 : decode cX8_addByte 37 = .ok (.putfield 21, 3) := by decide +kernel
theorem dX8_addByte_40 : decode cX8_addByte 40 = .ok (.return_, 1) := by decide +kernel
theorem dX8_addBytesOf_0 : decode cX8_addBytesOf 0 = .ok (.aload_n 0, 1) := by decide +kernel
theorem dX8_addBytesOf_1 : decode cX8_addBytesOf 1 = .ok (.iload_n 1, 1) := by decide +kernel
theorem dX8_addBytesOf_2 : decode cX8_addBytesOf 2 = .ok (.bipush 24, 2) := by decide +kernel
theorem dX8_addBytesOf_4 : decode cX8_addBytesOf 4 = .ok (.iushr, 1) := by decide +kernel
theorem dX8_addBytesOf_5 : decode cX8_addBytesOf 5 = .ok (.invokevirtual 25, 3) := by decide +kernel
theorem dX8_addBytesOf_8 : decode cX8_addBytesOf 8 = .ok (.aload_n 0, 1) := by decide +kernel
theorem dX8_addBytesOf_9 : decode cX8_addBytesOf 9 = .ok (.iload_n 1, 1) := by decide +kernel
theorem dX8_addBytesOf_10 : decode cX8_addBytesOf 10 = .ok (.bipush 16, 2) := by decide +kernel
theorem dX8_addBytesOf_12 : decode cX8_addBytesOf 12 = .ok (.iushr, 1) := by decide +kernel
theorem dX8_addBytesOf_13 : decode cX8_addBytesOf 13 = .ok (.invokevirtual 25, 3) := by decide +kernel
theorem dX8_addBytesOf_16 : decode cX8_addBytesOf 16 = .ok (.aload_n 0, 1) := by decide +kernel
theorem dX8_addBytesOf_17 : decode cX8_addBytesOf 17 = .ok (.iload_n 1, 1) := by decide +kernel
theorem dX8_addBytesOf_18 : decode cX8_addBytesOf 18 = .ok (.bipush 8, 2) := by decide +kernel
theorem dX8_addBytesOf_20 : decode cX8_addBytesOf 20 = .ok (.iushr, 1) := by decide +kernel
theorem dX8_addBytesOf_21 : decode cX8_addBytesOf 21 = .ok (.invokevirtual 25, 3) := by decide +kernel
theorem dX8_addBytesOf_24 : decode cX8_addBytesOf 24 = .ok (.aload_n 0, 1) := by decide +kernel
theorem dX8_addBytesOf_25 : decode cX8_addBytesOf 25 = .ok (.iload_n 1, 1) := by decide +kernel
theorem dX8_addBytesOf_26 : decode cX8_addBytesOf 26 = .ok (.invokevirtual 25, 3) := by decide +kernel
theorem dX8_addBytesOf_29 : decode cX8_addBytesOf 29 = .ok (.return_, 1) := by decide +kernel
theorem dX8_cutTo_0 : decode cX8_cutTo 0 = .ok (.aload_n 0, 1) := by decide +kernel
theorem dX8_cutTo_1 : decode cX8_cutTo 1 = .ok (.iconst 0, 1) := by decide +kernel
theorem dX8_cutTo_2 : decode cX8_cutTo 2 = .ok (.aload_n 0, 1) := by decide +kernel
theorem dX8_cutTo_3 : decode cX8_cutTo 3 = .ok (.getfield 21, 3) := by decide +kernel
theorem dX8_cutTo_6 : decode cX8_cutTo 6 = .ok (.iload_n 1, 1) := by decide +kernel
theorem dX8_cutTo_7 : decode cX8_cutTo 7 = .ok (.invokestatic 29, 3) := by decide +kernel
theorem dX8_cutTo_10 : decode cX8_cutTo 10 = .ok (.invokestatic 9, 3) := by decide +kernel
theorem dX8_cutTo_13 : decode cX8_cutTo 13 = .ok (.putfield 21, 3) := by decide +kernel
theorem dX8_cutTo_16 : decode cX8_cutTo 16 = .ok (.return_, 1) := by decide +kernel
theorem dX9_init_0 : decode cX9_init 0 = .ok (.aload_n 0, 1) := by decide +kernel
theorem dX9_init_1 : decode cX9_init 1 = .ok (.invokespecial 3, 3) := by decide +kernel
theorem dX9_init_4 : decode cX9_init 4 = .ok (.aload_n 0, 1) := by decide +kernel
theorem dX9_init_5 : decode cX9_init 5 = .ok (.new 9, 3) := by decide +kernel
theorem dX9_init_8 : decode cX9_init 8 = .ok (.dup, 1) := by decide +kernel
theorem dX9_init_9 : decode cX9_init 9 = .ok (.iconst 0, 1) := by decide +kernel
theorem dX9_init_10 : decode cX9_init 10 = .ok (.invokespecial 11, 3) := by decide +kernel
theorem dX9_init_13 : decode cX9_init 13 = .ok (.putfield 14, 3) := by decide +kernel
theorem dX9_init_16 : decode cX9_init 16 = .ok (.return_, 1) := by decide +kernel
theorem dX9_startWith_0 : decode cX9_startWith 0 = .ok (.aload_n 0, 1) := by decide +kernel
theorem dX9_startWith_1 : decode cX9_startWith 1 = .ok (.aload_n 1, 1) := by decide +kernel
theorem dX9_startWith_2 : decode cX9_startWith 2 = .ok (.putfield 14, 3) := by decide +kernel
theorem dX9_startWith_5 : decode cX9_startWith 5 = .ok (.aload_n 0, 1) := by decide +kernel
theorem dX9_startWith_6 : decode cX9_startWith 6 = .ok (.iconst 0, 1) := by decide +kernel
theorem dX9_startWith_7 : decode cX9_startWith 7 = .ok (.putfield 20, 3) := by decide +kernel
theorem dX9_startWith_10 : decode cX9_startWith 10 = .ok (.aload_n 0, 1) := by decide +kernel
theorem dX9_startWith_11 : decode cX9_startWith 11 = .ok (.invokevirtual 24, 3) := by decide +kernel
theorem dX9_startWith_14 : decode cX9_startWith 14 = .ok (.return_, 1) := by decide +kernel
theorem dX9_readToken_0 : decode cX9_readToken 0 = .ok (.aload_n 0, 1) := by decide +kernel
theorem dX9_readToken_1 : decode cX9_readToken 1 = .ok (.getfield 20, 3) := by decide +kernel
theorem dX9_readToken_4 : decode cX9_readToken 4 = .ok (.aload_n 0, 1) := by decide +kernel
theorem dX9_readToken_5 : decode cX9_readToken 5 = .ok (.getfield 14, 3) := by decide +kernel
theorem dX9_readToken_8 : decode cX9_readToken 8 = .ok (.getfield 27, 3) := by decide +kernel
theorem dX9_readToken_11 : decode cX9_readToken 11 = .ok (.if_icmp .ge 33, 3) := by decide +kernel
theorem dX9_readToken_14 : decode cX9_readToken 14 = .ok (.aload_n 0, 1) := by decide +kernel
theorem dX9_readToken_15 : decode cX9_readToken 15 = .ok (.getfield 14, 3) := by decide +kernel
theorem dX9_readToken_18 : decode cX9_readToken 18 = .ok (.aload_n 0, 1) := by decide +kernel
theorem dX9_readToken_19 : decode cX9_readToken 19 = .ok (.getfield 20, 3) := by decide +kernel
theorem dX9_readToken_22 : decode cX9_readToken 22 = .ok (.invokevirtual 30, 3) := by decide +kernel
theorem dX9_readToken_25 : decode cX9_readToken 25 = .ok (.invokestatic 34, 3) := by decide +kernel
theorem dX9_readToken_28 : decode cX9_readToken 28 = .ok (.ifCond .eq 16, 3) := by decide +kernel
theorem dX9_readToken_31 : decode cX9_readToken 31 = .ok (.aload_n 0, 1) := by decide +kernel
theorem dX9_readToken_32 : decode cX9_readToken 32 = .ok (.dup, 1) := by decide +kernel
theorem dX9_readToken_33 : decode cX9_readToken 33 = .ok (.getfield 20, 3) := by decide +kernel
theorem dX9_readToken_36 : decode cX9_readToken 36 = .ok (.iconst 1, 1) := by decide +kernel
theorem dX9_readToken_37 : decode cX9_readToken 37 = .ok (.iadd, 1) := by decide +kernel
theorem dX9_readToken_38 : decode cX9_readToken 38 = .ok (.putfield 20, 3) := by decide +kernel
theorem dX9_readToken_41 : decode cX9_readToken 41 = .ok (.goto (-41), 3) := by decide +kernel
theorem dX9_readToken_44 : decode cX9_readToken 44 = .ok (.aload_n 0, 1) := by decide +kernel
theorem dX9_readToken_45 : decode cX9_readToken 45 = .ok (.aload_n 0, 1) := by decide +kernel
theorem dX9_readToken_46 : decode cX9_readToken 46 = .ok (.getfield 20, 3) := by decide +kernel
theorem dX9_readToken_49 : decode cX9_readToken 49 = .ok (.putfield 38, 3) := by decide +kernel
theorem dX9_readToken_52 : decode cX9_readToken 52 = .ok (.aload_n 0, 1) := by decide +kernel
theorem dX9_readToken_53 : decode cX9_readToken 53 = .ok (.getfield 14, 3) := by decide +kernel
theorem dX9_readToken_56 : decode cX9_readToken 56 = .ok (.aload_n 0, 1) := by decide +kernel
theorem dX9_readToken_57 : decode cX9_readToken 57 = .ok (.getfield 38, 3) := by decide +kernel
theorem dX9_readToken_60 : decode cX9_readToken 60 = .ok (.invokevirtual 30, 3) := by decide +kernel
theorem dX9_readToken_63 : decode cX9_readToken 63 = .ok (.istore_n 1, 1) := by decide +kernel
theorem dX9_readToken_64 : decode cX9_readToken 64 = .ok (.iload_n 1, 1) := by decide +kernel
theorem dX9_readToken_65 : decode cX9_readToken 65 = .ok (.iconst (-1), 1) := by decide +kernel
theorem dX9_readToken_66 : decode cX9_readToken 66 = .ok (.if_icmp .ne 11, 3) := by decide +kernel
theorem dX9_readToken_69 : decode cX9_readToken 69 = .ok (.aload_n 0, 1) := by decide +kernel
theorem dX9_readToken_70 : decode cX9_readToken 70 = .ok (.iconst 0, 1) := by decide +kernel
theorem dX9_readToken_71 : decode cX9_readToken 71 = .ok (.putfield 41, 3) := by decide +kernel
theorem dX9_readToken_74 : decode cX9_readToken 74 = .ok (.goto 56, 3) := by decide +kernel
theorem dX9_readToken_77 : decode cX9_readToken 77 = .ok (.iload_n 1, 1) := by decide +kernel
theorem dX9_readToken_78 : decode cX9_readToken 78 = .ok (.invokestatic 44, 3) := by decide +kernel
theorem dX9_readToken_81 : decode cX9_readToken 81 = .ok (.ifCond .eq 10, 3) := by decide +kernel
theorem dX9_readToken_84 : decode cX9_readToken 84 = .ok (.aload_n 0, 1) := by decide +kernel
theorem dX9_readToken_85 : decode cX9_readToken 85 = .ok (.invokevirtual 47, 3) := by decide +kernel
theorem dX9_readToken_88 : decode cX9_readToken 88 = .ok (.goto 42, 3) := by decide +kernel
theorem dX9_readToken_91 : decode cX9_readToken 91 = .ok (.iload_n 1, 1) := by decide +kernel
theorem dX9_readToken_92 : decode cX9_readToken 92 = .ok (.invokestatic 50, 3) := by decide +kernel
theorem dX9_readToken_95 : decode cX9_readToken 95 = .ok (.ifCond .eq 10, 3) := by decide +kernel
theorem dX9_readToken_98 : decode cX9_readToken 98 = .ok (.aload_n 0, 1) := by decide +kernel
theorem dX9_readToken_99 : decode cX9_readToken 99 = .ok (.invokevirtual 53, 3) := by decide +kernel
theorem dX9_readToken_102 : decode cX9_readToken 102 = .ok (.goto 28, 3) := by decide +kernel
theorem dX9_readToken_105 : decode cX9_readToken 105 = .ok (.aload_n 0, 1) := by decide +kernel
theorem dX9_readToken_106 : decode cX9_readToken 106 = .ok (.dup, 1) := by decide +kernel
theorem dX9_readToken_107 : decode cX9_readToken 107 = .ok (.getfield 20, 3) := by decide +kernel
theorem dX9_readToken_110 : decode cX9_readToken 110 = .ok (.iconst 1, 1) := by decide +kernel
theorem dX9_readToken_111 : decode cX9_readToken 111 = .ok (.iadd, 1) := by decide +kernel
theorem dX9_readToken_112 : decode cX9_readToken 112 = .ok (.putfield 20, 3) := by decide +kernel
theorem dX9_readToken_115 : decode cX9_readToken 115 = .ok (.aload_n 0, 1) := by decide +kernel
theorem dX9_readToken_116 : decode cX9_readToken 116 = .ok (.iload_n 1, 1) := by decide +kernel
theorem dX9_readToken_117 : decode cX9_readToken 117 = .ok (.bipush 59, 2) := by decide +kernel
theorem dX9_readToken_119 : decode cX9_readToken 119 = .ok (.if_icmp .ne 7, 3) := by decide +kernel
theorem dX9_readToken_122 : decode cX9_readToken 122 = .ok (.iconst 3, 1) := by decide +kernel
theorem dX9_readToken_123 : decode cX9_readToken 123 = .ok (.goto 4, 3) := by decide +kernel
theorem dX9_readToken_126 : decode cX9_readToken 126 = .ok (.iconst 4, 1) := by decide +kernel
theorem dX9_readToken_127 : decode cX9_readToken 127 = .ok (.putfield 41, 3) := by decide +kernel
theorem dX9_readToken_130 : decode cX9_readToken 130 = .ok (.return_, 1) := by decide +kernel
theorem dX9_readWord_0 : decode cX9_readWord 0 = .ok (.aload_n 0, 1) := by decide +kernel
theorem dX9_readWord_1 : decode cX9_readWord 1 = .ok (.getfield 20, 3) := by decide +kernel
theorem dX9_readWord_4 : decode cX9_readWord 4 = .ok (.aload_n 0, 1) := by decide +kernel
theorem dX9_readWord_5 : decode cX9_readWord 5 = .ok (.getfield 14, 3) := by decide +kernel
theorem dX9_readWord_8 : decode cX9_readWord 8 = .ok (.getfield 27, 3) := by decide +kernel
theorem dX9_readWord_11 : decode cX9_readWord 11 = .ok (.if_icmp .ge 33, 3) := by decide +kernel
theorem dX9_readWord_14 : decode cX9_readWord 14 = .ok (.aload_n 0, 1) := by decide +kernel
theorem dX9_readWord_15 : decode cX9_readWord 15 = .ok (.getfield 14, 3) := by decide +kernel
theorem dX9_readWord_18 : decode cX9_readWord 18 = .ok (.aload_n 0, 1) := by decide +kernel
theorem dX9_readWord_19 : decode cX9_readWord 19 = .ok (.getfield 20, 3) := by decide +kernel
theorem dX9_readWord_22 : decode cX9_readWord 22 = .ok (.invokevirtual 30, 3) := by decide +kernel
theorem dX9_readWord_25 : decode cX9_readWord 25 = .ok (.invokestatic 44, 3) := by decide +kernel
theorem dX9_readWord_28 : decode cX9_readWord 28 = .ok (.ifCond .eq 16, 3) := by decide +kernel
theorem dX9_readWord_31 : decode cX9_readWord 31 = .ok (.aload_n 0, 1) := by decide +kernel
theorem dX9_readWord_32 : decode cX9_readWord 32 = .ok (.dup, 1) := by decide +kernel
theorem dX9_readWord_33 : decode cX9_readWord 33 = .ok (.getfield 20, 3) := by decide +kernel
theorem dX9_readWord_36 : decode cX9_readWord 36 = .ok (.iconst 1, 1) := by decide +kernel
theorem dX9_readWord_37 : decode cX9_readWord 37 = .ok (.iadd, 1) := by decide +kernel
theorem dX9_readWord_38 : decode cX9_readWord 38 = .ok (.putfield 20, 3) := by decide +kernel
theorem dX9_readWord_41 : decode cX9_readWord 41 = .ok (.goto (-41), 3) := by decide +kernel
theorem dX9_readWord_44 : decode cX9_readWord 44 = .ok (.aload_n 0, 1) := by decide +kernel
theorem dX9_readWord_45 : decode cX9_readWord 45 = .ok (.aload_n 0, 1) := by decide +kernel
theorem dX9_readWord_46 : decode cX9_readWord 46 = .ok (.invokevirtual 56, 3) := by decide +kernel
theorem dX9_readWord_49 : decode cX9_readWord 49 = .ok (.bipush 9, 2) := by decide +kernel
theorem dX9_readWord_51 : decode cX9_readWord 51 = .ok (.if_icmp .gt 7, 3) := by decide +kernel
theorem dX9_readWord_54 : decode cX9_readWord 54 = .ok (.iconst 1, 1) := by decide +kernel
theorem dX9_readWord_55 : decode cX9_readWord 55 = .ok (.goto 4, 3) := by decide +kernel
theorem dX9_readWord_58 : decode cX9_readWord 58 = .ok (.iconst 4, 1) := by decide +kernel
theorem dX9_readWord_59 : decode cX9_readWord 59 = .ok (.putfield 41, 3) := by decide +kernel
theorem dX9_readWord_62 : decode cX9_readWord 62 = .ok (.return_, 1) := by decide +kernel
theorem dX9_readNumber_0 : decode cX9_readNumber 0 = .ok (.aload_n 0, 1) := by decide +kernel
theorem dX9_readNumber_1 : decode cX9_readNumber 1 = .ok (.iconst 0, 1) := by decide +kernel
theorem dX9_readNumber_2 : decode cX9_readNumber 2 = .ok (.putfield 60, 3) := by decide +kernel
theorem dX9_readNumber_5 : decode cX9_readNumber 5 = .ok (.aload_n 0, 1) := by decide +kernel
theorem dX9_readNumber_6 : decode cX9_readNumber 6 = .ok (.getfield 20, 3) := by decide +kernel
theorem dX9_readNumber_9 : decode cX9_readNumber 9 = .ok (.aload_n 0, 1) := by decide +kernel
theorem dX9_readNumber_10 : decode cX9_readNumber 10 = .ok (.getfield 14, 3) := by decide +kernel
theorem dX9_readNumber_13 : decode cX9_readNumber 13 = .ok (.getfield 27, 3) := by decide +kernel
theorem dX9_readNumber_16 : decode cX9_readNumber 16 = .ok (.if_icmp .ge 59, 3) := by decide +kernel
theorem dX9_readNumber_19 : decode cX9_readNumber 19 = .ok (.aload_n 0, 1) := by decide +kernel
theorem dX9_readNumber_20 : decode cX9_readNumber 20 = .ok (.getfield 14, 3) := by decide +kernel
theorem dX9_readNumber_23 : decode cX9_readNumber 23 = .ok (.aload_n 0, 1) := by decide +kernel
theorem dX9_readNumber_24 : decode cX9_readNumber 24 = .ok (.getfield 20, 3) := by decide +kernel
theorem dX9_readNumber_27 : decode cX9_readNumber 27 = .ok (.invokevirtual 30, 3) := by decide +kernel
theorem dX9_readNumber_30 : decode cX9_readNumber 30 = .ok (.invokestatic 50, 3) := by decide +kernel
theorem dX9_readNumber_33 : decode cX9_readNumber 33 = .ok (.ifCond .eq 42, 3) := by decide +kernel
theorem dX9_readNumber_36 : decode cX9_readNumber 36 = .ok (.aload_n 0, 1) := by decide +kernel
theorem dX9_readNumber_37 : decode cX9_readNumber 37 = .ok (.aload_n 0, 1) := by decide +kernel
theorem dX9_readNumber_38 : decode cX9_readNumber 38 = .ok (.getfield 60, 3) := by decide +kernel
theorem dX9_readNumber_41 : decode cX9_readNumber 41 = .ok (.bipush 10, 2) := by decide +kernel
theorem dX9_readNumber_43 : decode cX9_readNumber 43 = .ok (.imul, 1) := by decide +kernel
theorem dX9_readNumber_44 : decode cX9_readNumber 44 = .ok (.aload_n 0, 1) := by decide +kernel
theorem dX9_readNumber_45 : decode cX9_readNumber 45 = .ok (.getfield 14, 3) := by decide +kernel
theorem dX9_readNumber_48 : decode cX9_readNumber 48 = .ok (.aload_n 0, 1) := by decide +kernel
theorem dX9_readNumber_49 : decode cX9_readNumber 49 = .ok (.getfield 20, 3) := by decide +kernel
theorem dX9_readNumber_52 : decode cX9_readNumber 52 = .ok (.invokevirtual 30, 3) := by decide +kernel
theorem dX9_readNumber_55 : decode cX9_readNumber 55 = .ok (.iadd, 1) := by decide +kernel
theorem dX9_readNumber_56 : decode cX9_readNumber 56 = .ok (.bipush 48, 2) := by decide +kernel
theorem dX9_readNumber_58 : decode cX9_readNumber 58 = .ok (.isub, 1) := by decide +kernel
theorem dX9_readNumber_59 : decode cX9_readNumber 59 = .ok (.putfield 60, 3) := by decide +kernel
theorem dX9_readNumber_62 : decode cX9_readNumber 62 = .ok (.aload_n 0, 1) := by decide +kernel
theorem dX9_readNumber_63 : decode cX9_readNumber 63 = .ok (.dup, 1) := by decide +kernel
theorem dX9_readNumber_64 : decode cX9_readNumber 64 = .ok (.getfield 20, 3) := by decide +kernel
theorem dX9_readNumber_67 : decode cX9_readNumber 67 = .ok (.iconst 1, 1) := by decide +kernel
theorem dX9_readNumber_68 : decode cX9_readNumber 68 = .ok (.iadd, 1) := by decide +kernel
theorem dX9_readNumber_69 : decode cX9_readNumber 69 = .ok (.putfield 20, 3) := by decide +kernel
theorem dX9_readNumber_72 : decode cX9_readNumber 72 = .ok (.goto (-67), 3) := by decide +kernel
theorem dX9_readNumber_75 : decode cX9_readNumber 75 = .ok (.aload_n 0, 1) := by decide +kernel
theorem dX9_readNumber_76 : decode cX9_readNumber 76 = .ok (.aload_n 0, 1) := by decide +kernel
theorem dX9_readNumber_77 : decode cX9_readNumber 77 = .ok (.invokevirtual 56, 3) := by decide +kernel
theorem dX9_readNumber_80 : decode cX9_readNumber 80 = .ok (.iconst 4, 1) := by decide +kernel
theorem dX9_readNumber_81 : decode cX9_readNumber 81 = .ok (.if_icmp .gt 7, 3) := by decide +kernel
theorem dX9_readNumber_84 : decode cX9_readNumber 84 = .ok (.iconst 2, 1) := by decide +kernel
theorem dX9_readNumber_85 : decode cX9_readNumber 85 = .ok (.goto 4, 3) := by decide +kernel
theorem dX9_readNumber_88 : decode cX9_readNumber 88 = .ok (.iconst 4, 1) := by decide +kernel
theorem dX9_readNumber_89 : decode cX9_readNumber 89 = .ok (.putfield 41, 3) := by decide +kernel
theorem dX9_readNumber_92 : decode cX9_readNumber 92 = .ok (.return_, 1) := by decide +kernel
theorem dX9_size_0 : decode cX9_size 0 = .ok (.aload_n 0, 1) := by decide +kernel
theorem dX9_size_1 : decode cX9_size 1 = .ok (.getfield 20, 3) := by decide +kernel
theorem dX9_size_4 : decode cX9_size 4 = .ok (.aload_n 0, 1) := by decide +kernel
theorem dX9_size_5 : decode cX9_size 5 = .ok (.getfield 38, 3) := by decide +kernel
theorem dX9_size_8 : decode cX9_size 8 = .ok (.isub, 1) := by decide +kernel
theorem dX9_size_9 : decode cX9_size 9 = .ok (.ireturn, 1) := by decide +kernel
theorem dX9_isWord_0 : decode cX9_isWord 0 = .ok (.aload_n 0, 1) := by decide +kernel
theorem dX9_isWord_1 : decode cX9_isWord 1 = .ok (.getfield 41, 3) := by decide +kernel
theorem dX9_isWord_4 : decode cX9_isWord 4 = .ok (.iconst 1, 1) := by decide +kernel
theorem dX9_isWord_5 : decode cX9_isWord 5 = .ok (.if_icmp .ne 14, 3) := by decide +kernel
theorem dX9_isWord_8 : decode cX9_isWord 8 = .ok (.aload_n 0, 1) := by decide +kernel
theorem dX9_isWord_9 : decode cX9_isWord 9 = .ok (.invokevirtual 56, 3) := by decide +kernel
theorem dX9_isWord_12 : decode cX9_isWord 12 = .ok (.aload_n 1, 1) := by decide +kernel
theorem dX9_isWord_13 : decode cX9_isWord 13 = .ok (.invokevirtual 63, 3) := by decide +kernel
theorem dX9_isWord_16 : decode cX9_isWord 16 = .ok (.if_icmp .eq 5, 3) := by decide +kernel
theorem dX9_isWord_19 : decode cX9_isWord 19 = .ok (.iconst 0, 1) := by decide +kernel
theorem dX9_isWord_20 : decode cX9_isWord 20 = .ok (.ireturn, 1) := by decide +kernel
theorem dX9_isWord_21 : decode cX9_isWord 21 = .ok (.iconst 0, 1) := by decide +kernel
theorem dX9_isWord_22 : decode cX9_isWord 22 = .ok (.istore_n 2, 1) := by decide +kernel
theorem dX9_isWord_23 : decode cX9_isWord 23 = .ok (.iload_n 2, 1) := by decide +kernel
theorem dX9_isWord_24 : decode cX9_isWord 24 = .ok (.aload_n 1, 1) := by decide +kernel
theorem dX9_isWord_25 : decode cX9_isWord 25 = .ok (.invokevirtual 63, 3) := by decide +kernel
theorem dX9_isWord_28 : decode cX9_isWord 28 = .ok (.if_icmp .ge 32, 3) := by decide +kernel
theorem dX9_isWord_31 : decode cX9_isWord 31 = .ok (.aload_n 0, 1) := by decide +kernel
theorem dX9_isWord_32 : decode cX9_isWord 32 = .ok (.getfield 14, 3) := by decide +kernel
theorem dX9_isWord_35 : decode cX9_isWord 35 = .ok (.aload_n 0, 1) := by decide +kernel
theorem dX9_isWord_36 : decode cX9_isWord 36 = .ok (.getfield 38, 3) := by decide +kernel
theorem dX9_isWord_39 : decode cX9_isWord 39 = .ok (.iload_n 2, 1) := by decide +kernel
theorem dX9_isWord_40 : decode cX9_isWord 40 = .ok (.iadd, 1) := by decide +kernel
theorem dX9_isWord_41 : decode cX9_isWord 41 = .ok (.invokevirtual 30, 3) := by decide +kernel
theorem dX9_isWord_44 : decode cX9_isWord 44 = .ok (.aload_n 1, 1) := by decide +kernel
theorem dX9_isWord_45 : decode cX9_isWord 45 = .ok (.iload_n 2, 1) := by decide +kernel
theorem dX9_isWord_46 : decode cX9_isWord 46 = .ok (.invokevirtual 67, 3) := by decide +kernel
theorem dX9_isWord_49 : decode cX9_isWord 49 = .ok (.if_icmp .eq 5, 3) := by decide +kernel
theorem dX9_isWord_52 : decode cX9_isWord 52 = .ok (.iconst 0, 1) := by decide +kernel
theorem dX9_isWord_53 : decode cX9_isWord 53 = .ok (.ireturn, 1) := by decide +kernel
theorem dX9_isWord_54 : decode cX9_isWord 54 = .ok (.iinc 2 1, 3) := by decide +kernel
theorem dX9_isWord_57 : decode cX9_isWord 57 = .ok (.goto (-34), 3) := by decide +kernel
theorem dX9_isWord_60 : decode cX9_isWord 60 = .ok (.iconst 1, 1) := by decide +kernel
theorem dX9_isWord_61 : decode cX9_isWord 61 = .ok (.ireturn, 1) := by decide +kernel
theorem dX9_isSpace_0 : decode cX9_isSpace 0 = .ok (.iload_n 0, 1) := by decide +kernel
theorem dX9_isSpace_1 : decode cX9_isSpace 1 = .ok (.bipush 32, 2) := by decide +kernel
theorem dX9_isSpace_3 : decode cX9_isSpace 3 = .ok (.if_icmp .eq 9, 3) := by decide +kernel
theorem dX9_isSpace_6 : decode cX9_isSpace 6 = .ok (.iload_n 0, 1) := by decide +kernel
theorem dX9_isSpace_7 : decode cX9_isSpace 7 = .ok (.bipush 10, 2) := by decide +kernel
theorem dX9_isSpace_9 : decode cX9_isSpace 9 = .ok (.if_icmp .ne 7, 3) := by decide +kernel
theorem dX9_isSpace_12 : decode cX9_isSpace 12 = .ok (.iconst 1, 1) := by decide +kernel
theorem dX9_isSpace_13 : decode cX9_isSpace 13 = .ok (.goto 4, 3) := by decide +kernel
theorem dX9_isSpace_16 : decode cX9_isSpace 16 = .ok (.iconst 0, 1) := by decide +kernel
theorem dX9_isSpace_17 : decode cX9_isSpace 17 = .ok (.ireturn, 1) := by decide +kernel
theorem dX9_isLetter_0 : decode cX9_isLetter 0 = .ok (.iload_n 0, 1) := by decide +kernel
theorem dX9_isLetter_1 : decode cX9_isLetter 1 = .ok (.bipush 97, 2) := by decide +kernel
theorem dX9_isLetter_3 : decode cX9_isLetter 3 = .ok (.if_icmp .lt 13, 3) := by decide +kernel
theorem dX9_isLetter_6 : decode cX9_isLetter 6 = .ok (.iload_n 0, 1) := by decide +kernel
theorem dX9_isLetter_7 : decode cX9_isLetter 7 = .ok (.bipush 122, 2) := by decide +kernel
theorem dX9_isLetter_9 : decode cX9_isLetter 9 = .ok (.if_icmp .gt 7, 3) := by decide +kernel
theorem dX9_isLetter_12 : decode cX9_isLetter 12 = .ok (.iconst 1, 1) := by decide +kernel
theorem dX9_isLetter_13 : decode cX9_isLetter 13 = .ok (.goto 4, 3) := by decide +kernel
theorem dX9_isLetter_16 : decode cX9_isLetter 16 = .ok (.iconst 0, 1) := by decide +kernel
theorem dX9_isLetter_17 : decode cX9_isLetter 17 = .ok (.ireturn, 1) := by decide +kernel
theorem dX9_isDigit_0 : decode cX9_isDigit 0 = .ok (.iload_n 0, 1) := by decide +kernel
theorem dX9_isDigit_1 : decode cX9_isDigit 1 = .ok (.bipush 48, 2) := by decide +kernel
theorem dX9_isDigit_3 : decode cX9_isDigit 3 = .ok (.if_icmp .lt 13, 3) := by decide +kernel
theorem dX9_isDigit_6 : decode cX9_isDigit 6 = .ok (.iload_n 0, 1) := by decide +kernel
theorem dX9_isDigit_7 : decode cX9_isDigit 7 = .ok (.bipush 57, 2) := by decide +kernel
theorem dX9_isDigit_9 : decode cX9_isDigit 9 = .ok (.if_icmp .gt 7, 3) := by decide +kernel
theorem dX9_isDigit_12 : decode cX9_isDigit 12 = .ok (.iconst 1, 1) := by decide +kernel
theorem dX9_isDigit_13 : decode cX9_isDigit 13 = .ok (.goto 4, 3) := by decide +kernel
theorem dX9_isDigit_16 : decode cX9_isDigit 16 = .ok (.iconst 0, 1) := by decide +kernel
theorem dX9_isDigit_17 : decode cX9_isDigit 17 = .ok (.ireturn, 1) := by decide +kernel
