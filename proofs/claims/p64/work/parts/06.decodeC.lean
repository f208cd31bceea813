/-! what each instruction is (gen8.py) -/
theorem dX11_init_0 : decode cX11_init 0 = .ok (.aload_n 0, 1) := by decide +kernel
theorem dX11_init_1 : decode cX11_init 1 = .ok (.invokespecial 1, 3) := by decide +kernel
theorem dX11_init_4 : decode cX11_init 4 = .ok (.aload_n 0, 1) := by decide +kernel
theorem dX11_init_5 : decode cX11_init 5 = .ok (.bipush 20, 2) := by decide +kernel
theorem dX11_init_7 : decode cX11_init 7 = .ok (.newarray .int, 2) := by decide +kernel
theorem dX11_init_9 : decode cX11_init 9 = .ok (.putfield 7, 3) := by decide +kernel
theorem dX11_init_12 : decode cX11_init 12 = .ok (.aload_n 0, 1) := by decide +kernel
theorem dX11_init_13 : decode cX11_init 13 = .ok (.bipush 10, 2) := by decide +kernel
theorem dX11_init_15 : decode cX11_init 15 = .ok (.bipush 20, 2) := by decide +kernel
theorem dX11_init_17 : decode cX11_init 17 = .ok (.multianewarray 13 2, 4) := by decide +kernel
theorem dX11_init_21 : decode cX11_init 21 = .ok (.putfield 15, 3) := by decide +kernel
theorem dX11_init_24 : decode cX11_init 24 = .ok (.aload_n 0, 1) := by decide +kernel
theorem dX11_init_25 : decode cX11_init 25 = .ok (.aload_n 1, 1) := by decide +kernel
theorem dX11_init_26 : decode cX11_init 26 = .ok (.putfield 18, 3) := by decide +kernel
theorem dX11_init_29 : decode cX11_init 29 = .ok (.return_, 1) := by decide +kernel
theorem dX11_read_0 : decode cX11_read 0 = .ok (.aload_n 0, 1) := by decide +kernel
theorem dX11_read_1 : decode cX11_read 1 = .ok (.aload_n 0, 1) := by decide +kernel
theorem dX11_read_2 : decode cX11_read 2 = .ok (.getfield 18, 3) := by decide +kernel
theorem dX11_read_5 : decode cX11_read 5 = .ok (.invokevirtual 22, 3) := by decide +kernel
theorem dX11_read_8 : decode cX11_read 8 = .ok (.putfield 28, 3) := by decide +kernel
theorem dX11_read_11 : decode cX11_read 11 = .ok (.aload_n 0, 1) := by decide +kernel
theorem dX11_read_12 : decode cX11_read 12 = .ok (.aload_n 0, 1) := by decide +kernel
theorem dX11_read_13 : decode cX11_read 13 = .ok (.getfield 18, 3) := by decide +kernel
theorem dX11_read_16 : decode cX11_read 16 = .ok (.invokevirtual 32, 3) := by decide +kernel
theorem dX11_read_19 : decode cX11_read 19 = .ok (.putfield 35, 3) := by decide +kernel
theorem dX11_read_22 : decode cX11_read 22 = .ok (.iconst 0, 1) := by decide +kernel
theorem dX11_read_23 : decode cX11_read 23 = .ok (.istore_n 1, 1) := by decide +kernel
theorem dX11_read_24 : decode cX11_read 24 = .ok (.iload_n 1, 1) := by decide +kernel
theorem dX11_read_25 : decode cX11_read 25 = .ok (.aload_n 0, 1) := by decide +kernel
theorem dX11_read_26 : decode cX11_read 26 = .ok (.getfield 28, 3) := by decide +kernel
theorem dX11_read_29 : decode cX11_read 29 = .ok (.if_icmp .ge 56, 3) := by decide +kernel
theorem dX11_read_32 : decode cX11_read 32 = .ok (.aload_n 0, 1) := by decide +kernel
theorem dX11_read_33 : decode cX11_read 33 = .ok (.getfield 7, 3) := by decide +kernel
theorem dX11_read_36 : decode cX11_read 36 = .ok (.iload_n 1, 1) := by decide +kernel
theorem dX11_read_37 : decode cX11_read 37 = .ok (.aload_n 0, 1) := by decide +kernel
theorem dX11_read_38 : decode cX11_read 38 = .ok (.getfield 18, 3) := by decide +kernel
theorem dX11_read_41 : decode cX11_read 41 = .ok (.iload_n 1, 1) := by decide +kernel
theorem dX11_read_42 : decode cX11_read 42 = .ok (.invokevirtual 38, 3) := by decide +kernel
theorem dX11_read_45 : decode cX11_read 45 = .ok (.iastore, 1) := by decide +kernel
theorem dX11_read_46 : decode cX11_read 46 = .ok (.iconst 0, 1) := by decide +kernel
theorem dX11_read_47 : decode cX11_read 47 = .ok (.istore_n 2, 1) := by decide +kernel
theorem dX11_read_48 : decode cX11_read 48 = .ok (.iload_n 2, 1) := by decide +kernel
theorem dX11_read_49 : decode cX11_read 49 = .ok (.aload_n 0, 1) := by decide +kernel
theorem dX11_read_50 : decode cX11_read 50 = .ok (.getfield 35, 3) := by decide +kernel
theorem dX11_read_53 : decode cX11_read 53 = .ok (.if_icmp .ge 26, 3) := by decide +kernel
theorem dX11_read_56 : decode cX11_read 56 = .ok (.aload_n 0, 1) := by decide +kernel
theorem dX11_read_57 : decode cX11_read 57 = .ok (.getfield 15, 3) := by decide +kernel
theorem dX11_read_60 : decode cX11_read 60 = .ok (.iload_n 2, 1) := by decide +kernel
theorem dX11_read_61 : decode cX11_read 61 = .ok (.aaload, 1) := by decide +kernel
theorem dX11_read_62 : decode cX11_read 62 = .ok (.iload_n 1, 1) := by decide +kernel
theorem dX11_read_63 : decode cX11_read 63 = .ok (.aload_n 0, 1) := by decide +kernel
theorem dX11_read_64 : decode cX11_read 64 = .ok (.getfield 18, 3) := by decide +kernel
theorem dX11_read_67 : decode cX11_read 67 = .ok (.iload_n 2, 1) := by decide +kernel
theorem dX11_read_68 : decode cX11_read 68 = .ok (.iload_n 1, 1) := by decide +kernel
theorem dX11_read_69 : decode cX11_read 69 = .ok (.invokevirtual 41, 3) := by decide +kernel
theorem dX11_read_72 : decode cX11_read 72 = .ok (.iastore, 1) := by decide +kernel
theorem dX11_read_73 : decode cX11_read 73 = .ok (.iinc 2 1, 3) := by decide +kernel
theorem dX11_read_76 : decode cX11_read 76 = .ok (.goto (-28), 3) := by decide +kernel
theorem dX11_read_79 : decode cX11_read 79 = .ok (.iinc 1 1, 3) := by decide +kernel
theorem dX11_read_82 : decode cX11_read 82 = .ok (.goto (-58), 3) := by decide +kernel
theorem dX11_read_85 : decode cX11_read 85 = .ok (.return_, 1) := by decide +kernel
theorem dX11_held_0 : decode cX11_held 0 = .ok (.iconst 0, 1) := by decide +kernel
theorem dX11_held_1 : decode cX11_held 1 = .ok (.istore_n 2, 1) := by decide +kernel
theorem dX11_held_2 : decode cX11_held 2 = .ok (.iconst 0, 1) := by decide +kernel
theorem dX11_held_3 : decode cX11_held 3 = .ok (.istore_n 3, 1) := by decide +kernel
theorem dX11_held_4 : decode cX11_held 4 = .ok (.iload_n 3, 1) := by decide +kernel
theorem dX11_held_5 : decode cX11_held 5 = .ok (.aload_n 0, 1) := by decide +kernel
theorem dX11_held_6 : decode cX11_held 6 = .ok (.getfield 35, 3) := by decide +kernel
theorem dX11_held_9 : decode cX11_held 9 = .ok (.if_icmp .ge 35, 3) := by decide +kernel
theorem dX11_held_12 : decode cX11_held 12 = .ok (.iload_n 2, 1) := by decide +kernel
theorem dX11_held_13 : decode cX11_held 13 = .ok (.aload_n 0, 1) := by decide +kernel
theorem dX11_held_14 : decode cX11_held 14 = .ok (.getfield 18, 3) := by decide +kernel
theorem dX11_held_17 : decode cX11_held 17 = .ok (.iload_n 3, 1) := by decide +kernel
theorem dX11_held_18 : decode cX11_held 18 = .ok (.invokevirtual 45, 3) := by decide +kernel
theorem dX11_held_21 : decode cX11_held 21 = .ok (.ifCond .eq 14, 3) := by decide +kernel
theorem dX11_held_24 : decode cX11_held 24 = .ok (.aload_n 0, 1) := by decide +kernel
theorem dX11_held_25 : decode cX11_held 25 = .ok (.getfield 15, 3) := by decide +kernel
theorem dX11_held_28 : decode cX11_held 28 = .ok (.iload_n 3, 1) := by decide +kernel
theorem dX11_held_29 : decode cX11_held 29 = .ok (.aaload, 1) := by decide +kernel
theorem dX11_held_30 : decode cX11_held 30 = .ok (.iload_n 1, 1) := by decide +kernel
theorem dX11_held_31 : decode cX11_held 31 = .ok (.iaload, 1) := by decide +kernel
theorem dX11_held_32 : decode cX11_held 32 = .ok (.goto 4, 3) := by decide +kernel
theorem dX11_held_35 : decode cX11_held 35 = .ok (.iconst 0, 1) := by decide +kernel
theorem dX11_held_36 : decode cX11_held 36 = .ok (.iadd, 1) := by decide +kernel
theorem dX11_held_37 : decode cX11_held 37 = .ok (.istore_n 2, 1) := by decide +kernel
theorem dX11_held_38 : decode cX11_held 38 = .ok (.iinc 3 1, 3) := by decide +kernel
theorem dX11_held_41 : decode cX11_held 41 = .ok (.goto (-37), 3) := by decide +kernel
theorem dX11_held_44 : decode cX11_held 44 = .ok (.iload_n 2, 1) := by decide +kernel
theorem dX11_held_45 : decode cX11_held 45 = .ok (.ireturn, 1) := by decide +kernel
theorem dX11_next_0 : decode cX11_next 0 = .ok (.iconst (-1), 1) := by decide +kernel
theorem dX11_next_1 : decode cX11_next 1 = .ok (.istore_n 3, 1) := by decide +kernel
theorem dX11_next_2 : decode cX11_next 2 = .ok (.aload_n 0, 1) := by decide +kernel
theorem dX11_next_3 : decode cX11_next 3 = .ok (.getfield 28, 3) := by decide +kernel
theorem dX11_next_6 : decode cX11_next 6 = .ok (.iconst 1, 1) := by decide +kernel
theorem dX11_next_7 : decode cX11_next 7 = .ok (.isub, 1) := by decide +kernel
theorem dX11_next_8 : decode cX11_next 8 = .ok (.istore 4, 2) := by decide +kernel
theorem dX11_next_10 : decode cX11_next 10 = .ok (.iload 4, 2) := by decide +kernel
theorem dX11_next_12 : decode cX11_next 12 = .ok (.ifCond .lt 90, 3) := by decide +kernel
theorem dX11_next_15 : decode cX11_next 15 = .ok (.aload_n 0, 1) := by decide +kernel
theorem dX11_next_16 : decode cX11_next 16 = .ok (.getfield 18, 3) := by decide +kernel
theorem dX11_next_19 : decode cX11_next 19 = .ok (.iload 4, 2) := by decide +kernel
theorem dX11_next_21 : decode cX11_next 21 = .ok (.invokevirtual 49, 3) := by decide +kernel
theorem dX11_next_24 : decode cX11_next 24 = .ok (.iload_n 1, 1) := by decide +kernel
theorem dX11_next_25 : decode cX11_next 25 = .ok (.if_icmp .ne 36, 3) := by decide +kernel
theorem dX11_next_28 : decode cX11_next 28 = .ok (.aload_n 0, 1) := by decide +kernel
theorem dX11_next_29 : decode cX11_next 29 = .ok (.getfield 18, 3) := by decide +kernel
theorem dX11_next_32 : decode cX11_next 32 = .ok (.iload 4, 2) := by decide +kernel
theorem dX11_next_34 : decode cX11_next 34 = .ok (.invokevirtual 52, 3) := by decide +kernel
theorem dX11_next_37 : decode cX11_next 37 = .ok (.iload_n 2, 1) := by decide +kernel
theorem dX11_next_38 : decode cX11_next 38 = .ok (.if_icmp .lt 23, 3) := by decide +kernel
theorem dX11_next_41 : decode cX11_next 41 = .ok (.aload_n 0, 1) := by decide +kernel
theorem dX11_next_42 : decode cX11_next 42 = .ok (.getfield 7, 3) := by decide +kernel
theorem dX11_next_45 : decode cX11_next 45 = .ok (.iload 4, 2) := by decide +kernel
theorem dX11_next_47 : decode cX11_next 47 = .ok (.iaload, 1) := by decide +kernel
theorem dX11_next_48 : decode cX11_next 48 = .ok (.aload_n 0, 1) := by decide +kernel
theorem dX11_next_49 : decode cX11_next 49 = .ok (.iload 4, 2) := by decide +kernel
theorem dX11_next_51 : decode cX11_next 51 = .ok (.invokevirtual 55, 3) := by decide +kernel
theorem dX11_next_54 : decode cX11_next 54 = .ok (.if_icmp .le 7, 3) := by decide +kernel
theorem dX11_next_57 : decode cX11_next 57 = .ok (.iconst 1, 1) := by decide +kernel
theorem dX11_next_58 : decode cX11_next 58 = .ok (.goto 4, 3) := by decide +kernel
theorem dX11_next_61 : decode cX11_next 61 = .ok (.iconst 0, 1) := by decide +kernel
theorem dX11_next_62 : decode cX11_next 62 = .ok (.istore 5, 2) := by decide +kernel
theorem dX11_next_64 : decode cX11_next 64 = .ok (.iload 5, 2) := by decide +kernel
theorem dX11_next_66 : decode cX11_next 66 = .ok (.ifCond .eq 30, 3) := by decide +kernel
theorem dX11_next_69 : decode cX11_next 69 = .ok (.iload_n 3, 1) := by decide +kernel
theorem dX11_next_70 : decode cX11_next 70 = .ok (.ifCond .lt 23, 3) := by decide +kernel
theorem dX11_next_73 : decode cX11_next 73 = .ok (.aload_n 0, 1) := by decide +kernel
theorem dX11_next_74 : decode cX11_next 74 = .ok (.getfield 18, 3) := by decide +kernel
theorem dX11_next_77 : decode cX11_next 77 = .ok (.iload 4, 2) := by decide +kernel
theorem dX11_next_79 : decode cX11_next 79 = .ok (.invokevirtual 52, 3) := by decide +kernel
theorem dX11_next_82 : decode cX11_next 82 = .ok (.aload_n 0, 1) := by decide +kernel
theorem dX11_next_83 : decode cX11_next 83 = .ok (.getfield 18, 3) := by decide +kernel
theorem dX11_next_86 : decode cX11_next 86 = .ok (.iload_n 3, 1) := by decide +kernel
theorem dX11_next_87 : decode cX11_next 87 = .ok (.invokevirtual 52, 3) := by decide +kernel
theorem dX11_next_90 : decode cX11_next 90 = .ok (.if_icmp .gt 6, 3) := by decide +kernel
theorem dX11_next_93 : decode cX11_next 93 = .ok (.iload 4, 2) := by decide +kernel
theorem dX11_next_95 : decode cX11_next 95 = .ok (.istore_n 3, 1) := by decide +kernel
theorem dX11_next_96 : decode cX11_next 96 = .ok (.iinc 4 (-1), 3) := by decide +kernel
theorem dX11_next_99 : decode cX11_next 99 = .ok (.goto (-89), 3) := by decide +kernel
theorem dX11_next_102 : decode cX11_next 102 = .ok (.iload_n 3, 1) := by decide +kernel
theorem dX11_next_103 : decode cX11_next 103 = .ok (.ireturn, 1) := by decide +kernel
theorem dX11_free_0 : decode cX11_free 0 = .ok (.iconst 0, 1) := by decide +kernel
theorem dX11_free_1 : decode cX11_free 1 = .ok (.istore_n 3, 1) := by decide +kernel
theorem dX11_free_2 : decode cX11_free 2 = .ok (.iconst 0, 1) := by decide +kernel
theorem dX11_free_3 : decode cX11_free 3 = .ok (.istore 4, 2) := by decide +kernel
theorem dX11_free_5 : decode cX11_free 5 = .ok (.iload 4, 2) := by decide +kernel
theorem dX11_free_7 : decode cX11_free 7 = .ok (.aload_n 0, 1) := by decide +kernel
theorem dX11_free_8 : decode cX11_free 8 = .ok (.getfield 28, 3) := by decide +kernel
theorem dX11_free_11 : decode cX11_free 11 = .ok (.if_icmp .ge 56, 3) := by decide +kernel
theorem dX11_free_14 : decode cX11_free 14 = .ok (.iload_n 3, 1) := by decide +kernel
theorem dX11_free_15 : decode cX11_free 15 = .ok (.aload_n 0, 1) := by decide +kernel
theorem dX11_free_16 : decode cX11_free 16 = .ok (.getfield 18, 3) := by decide +kernel
theorem dX11_free_19 : decode cX11_free 19 = .ok (.iload 4, 2) := by decide +kernel
theorem dX11_free_21 : decode cX11_free 21 = .ok (.invokevirtual 49, 3) := by decide +kernel
theorem dX11_free_24 : decode cX11_free 24 = .ok (.iload_n 1, 1) := by decide +kernel
theorem dX11_free_25 : decode cX11_free 25 = .ok (.if_icmp .ne 33, 3) := by decide +kernel
theorem dX11_free_28 : decode cX11_free 28 = .ok (.aload_n 0, 1) := by decide +kernel
theorem dX11_free_29 : decode cX11_free 29 = .ok (.getfield 18, 3) := by decide +kernel
theorem dX11_free_32 : decode cX11_free 32 = .ok (.iload 4, 2) := by decide +kernel
theorem dX11_free_34 : decode cX11_free 34 = .ok (.invokevirtual 52, 3) := by decide +kernel
theorem dX11_free_37 : decode cX11_free 37 = .ok (.iload_n 2, 1) := by decide +kernel
theorem dX11_free_38 : decode cX11_free 38 = .ok (.if_icmp .lt 20, 3) := by decide +kernel
theorem dX11_free_41 : decode cX11_free 41 = .ok (.aload_n 0, 1) := by decide +kernel
theorem dX11_free_42 : decode cX11_free 42 = .ok (.getfield 7, 3) := by decide +kernel
theorem dX11_free_45 : decode cX11_free 45 = .ok (.iload 4, 2) := by decide +kernel
theorem dX11_free_47 : decode cX11_free 47 = .ok (.iaload, 1) := by decide +kernel
theorem dX11_free_48 : decode cX11_free 48 = .ok (.aload_n 0, 1) := by decide +kernel
theorem dX11_free_49 : decode cX11_free 49 = .ok (.iload 4, 2) := by decide +kernel
theorem dX11_free_51 : decode cX11_free 51 = .ok (.invokevirtual 55, 3) := by decide +kernel
theorem dX11_free_54 : decode cX11_free 54 = .ok (.isub, 1) := by decide +kernel
theorem dX11_free_55 : decode cX11_free 55 = .ok (.goto 4, 3) := by decide +kernel
theorem dX11_free_58 : decode cX11_free 58 = .ok (.iconst 0, 1) := by decide +kernel
theorem dX11_free_59 : decode cX11_free 59 = .ok (.iadd, 1) := by decide +kernel
theorem dX11_free_60 : decode cX11_free 60 = .ok (.istore_n 3, 1) := by decide +kernel
theorem dX11_free_61 : decode cX11_free 61 = .ok (.iinc 4 1, 3) := by decide +kernel
theorem dX11_free_64 : decode cX11_free 64 = .ok (.goto (-59), 3) := by decide +kernel
theorem dX11_free_67 : decode cX11_free 67 = .ok (.iload_n 3, 1) := by decide +kernel
theorem dX11_free_68 : decode cX11_free 68 = .ok (.ireturn, 1) := by decide +kernel
theorem dX11_issue_0 : decode cX11_issue 0 = .ok (.iconst 0, 1) := by decide +kernel
theorem dX11_issue_1 : decode cX11_issue 1 = .ok (.istore_n 3, 1) := by decide +kernel
theorem dX11_issue_2 : decode cX11_issue 2 = .ok (.iconst 0, 1) := by decide +kernel
theorem dX11_issue_3 : decode cX11_issue 3 = .ok (.istore 4, 2) := by decide +kernel
theorem dX11_issue_5 : decode cX11_issue 5 = .ok (.iload 4, 2) := by decide +kernel
theorem dX11_issue_7 : decode cX11_issue 7 = .ok (.iload_n 2, 1) := by decide +kernel
theorem dX11_issue_8 : decode cX11_issue 8 = .ok (.if_icmp .ge 46, 3) := by decide +kernel
theorem dX11_issue_11 : decode cX11_issue 11 = .ok (.aload_n 0, 1) := by decide +kernel
theorem dX11_issue_12 : decode cX11_issue 12 = .ok (.iload_n 1, 1) := by decide +kernel
theorem dX11_issue_13 : decode cX11_issue 13 = .ok (.aload_n 0, 1) := by decide +kernel
theorem dX11_issue_14 : decode cX11_issue 14 = .ok (.getfield 18, 3) := by decide +kernel
theorem dX11_issue_17 : decode cX11_issue 17 = .ok (.invokevirtual 58, 3) := by decide +kernel
theorem dX11_issue_20 : decode cX11_issue 20 = .ok (.invokevirtual 61, 3) := by decide +kernel
theorem dX11_issue_23 : decode cX11_issue 23 = .ok (.istore 5, 2) := by decide +kernel
theorem dX11_issue_25 : decode cX11_issue 25 = .ok (.aload_n 0, 1) := by decide +kernel
theorem dX11_issue_26 : decode cX11_issue 26 = .ok (.getfield 7, 3) := by decide +kernel
theorem dX11_issue_29 : decode cX11_issue 29 = .ok (.iload 5, 2) := by decide +kernel
theorem dX11_issue_31 : decode cX11_issue 31 = .ok (.dup2, 1) := by decide +kernel
theorem dX11_issue_32 : decode cX11_issue 32 = .ok (.iaload, 1) := by decide +kernel
theorem dX11_issue_33 : decode cX11_issue 33 = .ok (.iconst 1, 1) := by decide +kernel
theorem dX11_issue_34 : decode cX11_issue 34 = .ok (.isub, 1) := by decide +kernel
theorem dX11_issue_35 : decode cX11_issue 35 = .ok (.iastore, 1) := by decide +kernel
theorem dX11_issue_36 : decode cX11_issue 36 = .ok (.iload_n 3, 1) := by decide +kernel
theorem dX11_issue_37 : decode cX11_issue 37 = .ok (.aload_n 0, 1) := by decide +kernel
theorem dX11_issue_38 : decode cX11_issue 38 = .ok (.getfield 18, 3) := by decide +kernel
theorem dX11_issue_41 : decode cX11_issue 41 = .ok (.iload 5, 2) := by decide +kernel
theorem dX11_issue_43 : decode cX11_issue 43 = .ok (.invokevirtual 64, 3) := by decide +kernel
theorem dX11_issue_46 : decode cX11_issue 46 = .ok (.iadd, 1) := by decide +kernel
theorem dX11_issue_47 : decode cX11_issue 47 = .ok (.istore_n 3, 1) := by decide +kernel
theorem dX11_issue_48 : decode cX11_issue 48 = .ok (.iinc 4 1, 3) := by decide +kernel
theorem dX11_issue_51 : decode cX11_issue 51 = .ok (.goto (-46), 3) := by decide +kernel
theorem dX11_issue_54 : decode cX11_issue 54 = .ok (.iload_n 3, 1) := by decide +kernel
theorem dX11_issue_55 : decode cX11_issue 55 = .ok (.ireturn, 1) := by decide +kernel
theorem dX11_allocate_0 : decode cX11_allocate 0 = .ok (.iconst 0, 1) := by decide +kernel
theorem dX11_allocate_1 : decode cX11_allocate 1 = .ok (.istore 5, 2) := by decide +kernel
theorem dX11_allocate_3 : decode cX11_allocate 3 = .ok (.aload_n 0, 1) := by decide +kernel
theorem dX11_allocate_4 : decode cX11_allocate 4 = .ok (.iload_n 2, 1) := by decide +kernel
theorem dX11_allocate_5 : decode cX11_allocate 5 = .ok (.iload 4, 2) := by decide +kernel
theorem dX11_allocate_7 : decode cX11_allocate 7 = .ok (.invokevirtual 61, 3) := by decide +kernel
theorem dX11_allocate_10 : decode cX11_allocate 10 = .ok (.istore 6, 2) := by decide +kernel
theorem dX11_allocate_12 : decode cX11_allocate 12 = .ok (.iload 6, 2) := by decide +kernel
theorem dX11_allocate_14 : decode cX11_allocate 14 = .ok (.ifCond .lt 37, 3) := by decide +kernel
theorem dX11_allocate_17 : decode cX11_allocate 17 = .ok (.iload 5, 2) := by decide +kernel
theorem dX11_allocate_19 : decode cX11_allocate 19 = .ok (.iload_n 3, 1) := by decide +kernel
theorem dX11_allocate_20 : decode cX11_allocate 20 = .ok (.if_icmp .ge 31, 3) := by decide +kernel
theorem dX11_allocate_23 : decode cX11_allocate 23 = .ok (.aload_n 0, 1) := by decide +kernel
theorem dX11_allocate_24 : decode cX11_allocate 24 = .ok (.getfield 15, 3) := by decide +kernel
theorem dX11_allocate_27 : decode cX11_allocate 27 = .ok (.iload_n 1, 1) := by decide +kernel
theorem dX11_allocate_28 : decode cX11_allocate 28 = .ok (.aaload, 1) := by decide +kernel
theorem dX11_allocate_29 : decode cX11_allocate 29 = .ok (.iload 6, 2) := by decide +kernel
theorem dX11_allocate_31 : decode cX11_allocate 31 = .ok (.dup2, 1) := by decide +kernel
theorem dX11_allocate_32 : decode cX11_allocate 32 = .ok (.iaload, 1) := by decide +kernel
theorem dX11_allocate_33 : decode cX11_allocate 33 = .ok (.iconst 1, 1) := by decide +kernel
theorem dX11_allocate_34 : decode cX11_allocate 34 = .ok (.iadd, 1) := by decide +kernel
theorem dX11_allocate_35 : decode cX11_allocate 35 = .ok (.iastore, 1) := by decide +kernel
theorem dX11_allocate_36 : decode cX11_allocate 36 = .ok (.iinc 5 1, 3) := by decide +kernel
theorem dX11_allocate_39 : decode cX11_allocate 39 = .ok (.aload_n 0, 1) := by decide +kernel
theorem dX11_allocate_40 : decode cX11_allocate 40 = .ok (.iload_n 2, 1) := by decide +kernel
theorem dX11_allocate_41 : decode cX11_allocate 41 = .ok (.iload 4, 2) := by decide +kernel
theorem dX11_allocate_43 : decode cX11_allocate 43 = .ok (.invokevirtual 61, 3) := by decide +kernel
theorem dX11_allocate_46 : decode cX11_allocate 46 = .ok (.istore 6, 2) := by decide +kernel
theorem dX11_allocate_48 : decode cX11_allocate 48 = .ok (.goto (-36), 3) := by decide +kernel
theorem dX11_allocate_51 : decode cX11_allocate 51 = .ok (.iload 5, 2) := by decide +kernel
theorem dX11_allocate_53 : decode cX11_allocate 53 = .ok (.ireturn, 1) := by decide +kernel
theorem dX11_agrees_0 : decode cX11_agrees 0 = .ok (.iconst 0, 1) := by decide +kernel
theorem dX11_agrees_1 : decode cX11_agrees 1 = .ok (.istore_n 1, 1) := by decide +kernel
theorem dX11_agrees_2 : decode cX11_agrees 2 = .ok (.iload_n 1, 1) := by decide +kernel
theorem dX11_agrees_3 : decode cX11_agrees 3 = .ok (.aload_n 0, 1) := by decide +kernel
theorem dX11_agrees_4 : decode cX11_agrees 4 = .ok (.getfield 28, 3) := by decide +kernel
theorem dX11_agrees_7 : decode cX11_agrees 7 = .ok (.if_icmp .ge 96, 3) := by decide +kernel
theorem dX11_agrees_10 : decode cX11_agrees 10 = .ok (.aload_n 0, 1) := by decide +kernel
theorem dX11_agrees_11 : decode cX11_agrees 11 = .ok (.getfield 18, 3) := by decide +kernel
theorem dX11_agrees_14 : decode cX11_agrees 14 = .ok (.iload_n 1, 1) := by decide +kernel
theorem dX11_agrees_15 : decode cX11_agrees 15 = .ok (.invokevirtual 38, 3) := by decide +kernel
theorem dX11_agrees_18 : decode cX11_agrees 18 = .ok (.aload_n 0, 1) := by decide +kernel
theorem dX11_agrees_19 : decode cX11_agrees 19 = .ok (.getfield 7, 3) := by decide +kernel
theorem dX11_agrees_22 : decode cX11_agrees 22 = .ok (.iload_n 1, 1) := by decide +kernel
theorem dX11_agrees_23 : decode cX11_agrees 23 = .ok (.iaload, 1) := by decide +kernel
theorem dX11_agrees_24 : decode cX11_agrees 24 = .ok (.if_icmp .ne 33, 3) := by decide +kernel
theorem dX11_agrees_27 : decode cX11_agrees 27 = .ok (.aload_n 0, 1) := by decide +kernel
theorem dX11_agrees_28 : decode cX11_agrees 28 = .ok (.getfield 18, 3) := by decide +kernel
theorem dX11_agrees_31 : decode cX11_agrees 31 = .ok (.iload_n 1, 1) := by decide +kernel
theorem dX11_agrees_32 : decode cX11_agrees 32 = .ok (.invokevirtual 67, 3) := by decide +kernel
theorem dX11_agrees_35 : decode cX11_agrees 35 = .ok (.aload_n 0, 1) := by decide +kernel
theorem dX11_agrees_36 : decode cX11_agrees 36 = .ok (.iload_n 1, 1) := by decide +kernel
theorem dX11_agrees_37 : decode cX11_agrees 37 = .ok (.invokevirtual 55, 3) := by decide +kernel
theorem dX11_agrees_40 : decode cX11_agrees 40 = .ok (.if_icmp .ne 17, 3) := by decide +kernel
theorem dX11_agrees_43 : decode cX11_agrees 43 = .ok (.aload_n 0, 1) := by decide +kernel
theorem dX11_agrees_44 : decode cX11_agrees 44 = .ok (.getfield 7, 3) := by decide +kernel
theorem dX11_agrees_47 : decode cX11_agrees 47 = .ok (.iload_n 1, 1) := by decide +kernel
theorem dX11_agrees_48 : decode cX11_agrees 48 = .ok (.iaload, 1) := by decide +kernel
theorem dX11_agrees_49 : decode cX11_agrees 49 = .ok (.aload_n 0, 1) := by decide +kernel
theorem dX11_agrees_50 : decode cX11_agrees 50 = .ok (.iload_n 1, 1) := by decide +kernel
theorem dX11_agrees_51 : decode cX11_agrees 51 = .ok (.invokevirtual 55, 3) := by decide +kernel
theorem dX11_agrees_54 : decode cX11_agrees 54 = .ok (.if_icmp .ge 5, 3) := by decide +kernel
theorem dX11_agrees_57 : decode cX11_agrees 57 = .ok (.iconst 0, 1) := by decide +kernel
theorem dX11_agrees_58 : decode cX11_agrees 58 = .ok (.ireturn, 1) := by decide +kernel
theorem dX11_agrees_59 : decode cX11_agrees 59 = .ok (.iconst 0, 1) := by decide +kernel
theorem dX11_agrees_60 : decode cX11_agrees 60 = .ok (.istore_n 2, 1) := by decide +kernel
theorem dX11_agrees_61 : decode cX11_agrees 61 = .ok (.iload_n 2, 1) := by decide +kernel
theorem dX11_agrees_62 : decode cX11_agrees 62 = .ok (.aload_n 0, 1) := by decide +kernel
theorem dX11_agrees_63 : decode cX11_agrees 63 = .ok (.getfield 35, 3) := by decide +kernel
theorem dX11_agrees_66 : decode cX11_agrees 66 = .ok (.if_icmp .ge 31, 3) := by decide +kernel
theorem dX11_agrees_69 : decode cX11_agrees 69 = .ok (.aload_n 0, 1) := by decide +kernel
theorem dX11_agrees_70 : decode cX11_agrees 70 = .ok (.getfield 18, 3) := by decide +kernel
theorem dX11_agrees_73 : decode cX11_agrees 73 = .ok (.iload_n 2, 1) := by decide +kernel
theorem dX11_agrees_74 : decode cX11_agrees 74 = .ok (.iload_n 1, 1) := by decide +kernel
theorem dX11_agrees_75 : decode cX11_agrees 75 = .ok (.invokevirtual 41, 3) := by decide +kernel
theorem dX11_agrees_78 : decode cX11_agrees 78 = .ok (.aload_n 0, 1) := by decide +kernel
theorem dX11_agrees_79 : decode cX11_agrees 79 = .ok (.getfield 15, 3) := by decide +kernel
theorem dX11_agrees_82 : decode cX11_agrees 82 = .ok (.iload_n 2, 1) := by decide +kernel
theorem dX11_agrees_83 : decode cX11_agrees 83 = .ok (.aaload, 1) := by decide +kernel
theorem dX11_agrees_84 : decode cX11_agrees 84 = .ok (.iload_n 1, 1) := by decide +kernel
theorem dX11_agrees_85 : decode cX11_agrees 85 = .ok (.iaload, 1) := by decide +kernel
theorem dX11_agrees_86 : decode cX11_agrees 86 = .ok (.if_icmp .eq 5, 3) := by decide +kernel
theorem dX11_agrees_89 : decode cX11_agrees 89 = .ok (.iconst 0, 1) := by decide +kernel
theorem dX11_agrees_90 : decode cX11_agrees 90 = .ok (.ireturn, 1) := by decide +kernel
theorem dX11_agrees_91 : decode cX11_agrees 91 = .ok (.iinc 2 1, 3) := by decide +kernel
theorem dX11_agrees_94 : decode cX11_agrees 94 = .ok (.goto (-33), 3) := by decide +kernel
theorem dX11_agrees_97 : decode cX11_agrees 97 = .ok (.iinc 1 1, 3) := by decide +kernel
theorem dX11_agrees_100 : decode cX11_agrees 100 = .ok (.goto (-98), 3) := by decide +kernel
theorem dX11_agrees_103 : decode cX11_agrees 103 = .ok (.iconst 0, 1) := by decide +kernel
theorem dX11_agrees_104 : decode cX11_agrees 104 = .ok (.istore_n 1, 1) := by decide +kernel
theorem dX11_agrees_105 : decode cX11_agrees 105 = .ok (.iload_n 1, 1) := by decide +kernel
theorem dX11_agrees_106 : decode cX11_agrees 106 = .ok (.aload_n 0, 1) := by decide +kernel
theorem dX11_agrees_107 : decode cX11_agrees 107 = .ok (.getfield 35, 3) := by decide +kernel
theorem dX11_agrees_110 : decode cX11_agrees 110 = .ok (.if_icmp .ge 87, 3) := by decide +kernel
theorem dX11_agrees_113 : decode cX11_agrees 113 = .ok (.iconst 0, 1) := by decide +kernel
theorem dX11_agrees_114 : decode cX11_agrees 114 = .ok (.istore_n 2, 1) := by decide +kernel
theorem dX11_agrees_115 : decode cX11_agrees 115 = .ok (.iconst 0, 1) := by decide +kernel
theorem dX11_agrees_116 : decode cX11_agrees 116 = .ok (.istore_n 3, 1) := by decide +kernel
theorem dX11_agrees_117 : decode cX11_agrees 117 = .ok (.iload_n 3, 1) := by decide +kernel
theorem dX11_agrees_118 : decode cX11_agrees 118 = .ok (.aload_n 0, 1) := by decide +kernel
theorem dX11_agrees_119 : decode cX11_agrees 119 = .ok (.getfield 28, 3) := by decide +kernel
theorem dX11_agrees_122 : decode cX11_agrees 122 = .ok (.if_icmp .ge 20, 3) := by decide +kernel
theorem dX11_agrees_125 : decode cX11_agrees 125 = .ok (.iload_n 2, 1) := by decide +kernel
theorem dX11_agrees_126 : decode cX11_agrees 126 = .ok (.aload_n 0, 1) := by decide +kernel
theorem dX11_agrees_127 : decode cX11_agrees 127 = .ok (.getfield 15, 3) := by decide +kernel
theorem dX11_agrees_130 : decode cX11_agrees 130 = .ok (.iload_n 1, 1) := by decide +kernel
theorem dX11_agrees_131 : decode cX11_agrees 131 = .ok (.aaload, 1) := by decide +kernel
theorem dX11_agrees_132 : decode cX11_agrees 132 = .ok (.iload_n 3, 1) := by decide +kernel
theorem dX11_agrees_133 : decode cX11_agrees 133 = .ok (.iaload, 1) := by decide +kernel
theorem dX11_agrees_134 : decode cX11_agrees 134 = .ok (.iadd, 1) := by decide +kernel
theorem dX11_agrees_135 : decode cX11_agrees 135 = .ok (.istore_n 2, 1) := by decide +kernel
theorem dX11_agrees_136 : decode cX11_agrees 136 = .ok (.iinc 3 1, 3) := by decide +kernel
theorem dX11_agrees_139 : decode cX11_agrees 139 = .ok (.goto (-22), 3) := by decide +kernel
theorem dX11_agrees_142 : decode cX11_agrees 142 = .ok (.aload_n 0, 1) := by decide +kernel
theorem dX11_agrees_143 : decode cX11_agrees 143 = .ok (.getfield 18, 3) := by decide +kernel
theorem dX11_agrees_146 : decode cX11_agrees 146 = .ok (.iload_n 1, 1) := by decide +kernel
theorem dX11_agrees_147 : decode cX11_agrees 147 = .ok (.invokevirtual 70, 3) := by decide +kernel
theorem dX11_agrees_150 : decode cX11_agrees 150 = .ok (.aload_n 0, 1) := by decide +kernel
theorem dX11_agrees_151 : decode cX11_agrees 151 = .ok (.getfield 18, 3) := by decide +kernel
theorem dX11_agrees_154 : decode cX11_agrees 154 = .ok (.iload_n 1, 1) := by decide +kernel
theorem dX11_agrees_155 : decode cX11_agrees 155 = .ok (.invokevirtual 45, 3) := by decide +kernel
theorem dX11_agrees_158 : decode cX11_agrees 158 = .ok (.ifCond .eq 16, 3) := by decide +kernel
theorem dX11_agrees_161 : decode cX11_agrees 161 = .ok (.aload_n 0, 1) := by decide +kernel
theorem dX11_agrees_162 : decode cX11_agrees 162 = .ok (.getfield 18, 3) := by decide +kernel
theorem dX11_agrees_165 : decode cX11_agrees 165 = .ok (.iload_n 1, 1) := by decide +kernel
theorem dX11_agrees_166 : decode cX11_agrees 166 = .ok (.invokevirtual 73, 3) := by decide +kernel
theorem dX11_agrees_169 : decode cX11_agrees 169 = .ok (.iload_n 2, 1) := by decide +kernel
theorem dX11_agrees_170 : decode cX11_agrees 170 = .ok (.isub, 1) := by decide +kernel
theorem dX11_agrees_171 : decode cX11_agrees 171 = .ok (.goto 4, 3) := by decide +kernel
theorem dX11_agrees_174 : decode cX11_agrees 174 = .ok (.iconst 0, 1) := by decide +kernel
theorem dX11_agrees_175 : decode cX11_agrees 175 = .ok (.if_icmp .ne 14, 3) := by decide +kernel
theorem dX11_agrees_178 : decode cX11_agrees 178 = .ok (.aload_n 0, 1) := by decide +kernel
theorem dX11_agrees_179 : decode cX11_agrees 179 = .ok (.getfield 18, 3) := by decide +kernel
theorem dX11_agrees_182 : decode cX11_agrees 182 = .ok (.iload_n 1, 1) := by decide +kernel
theorem dX11_agrees_183 : decode cX11_agrees 183 = .ok (.invokevirtual 70, 3) := by decide +kernel
theorem dX11_agrees_186 : decode cX11_agrees 186 = .ok (.ifCond .ge 5, 3) := by decide +kernel
theorem dX11_agrees_189 : decode cX11_agrees 189 = .ok (.iconst 0, 1) := by decide +kernel
theorem dX11_agrees_190 : decode cX11_agrees 190 = .ok (.ireturn, 1) := by decide +kernel
theorem dX11_agrees_191 : decode cX11_agrees 191 = .ok (.iinc 1 1, 3) := by decide +kernel
theorem dX11_agrees_194 : decode cX11_agrees 194 = .ok (.goto (-89), 3) := by decide +kernel
theorem dX11_agrees_197 : decode cX11_agrees 197 = .ok (.aload_n 0, 1) := by decide +kernel
theorem dX11_agrees_198 : decode cX11_agrees 198 = .ok (.getfield 18, 3) := by decide +kernel
theorem dX11_agrees_201 : decode cX11_agrees 201 = .ok (.invokevirtual 22, 3) := by decide +kernel
theorem dX11_agrees_204 : decode cX11_agrees 204 = .ok (.aload_n 0, 1) := by decide +kernel
theorem dX11_agrees_205 : decode cX11_agrees 205 = .ok (.getfield 28, 3) := by decide +kernel
theorem dX11_agrees_208 : decode cX11_agrees 208 = .ok (.if_icmp .ne 31, 3) := by decide +kernel
theorem dX11_agrees_211 : decode cX11_agrees 211 = .ok (.aload_n 0, 1) := by decide +kernel
theorem dX11_agrees_212 : decode cX11_agrees 212 = .ok (.getfield 18, 3) := by decide +kernel
theorem dX11_agrees_215 : decode cX11_agrees 215 = .ok (.invokevirtual 32, 3) := by decide +kernel
theorem dX11_agrees_218 : decode cX11_agrees 218 = .ok (.aload_n 0, 1) := by decide +kernel
theorem dX11_agrees_219 : decode cX11_agrees 219 = .ok (.getfield 35, 3) := by decide +kernel
theorem dX11_agrees_222 : decode cX11_agrees 222 = .ok (.if_icmp .ne 17, 3) := by decide +kernel
theorem dX11_agrees_225 : decode cX11_agrees 225 = .ok (.aload_n 0, 1) := by decide +kernel
theorem dX11_agrees_226 : decode cX11_agrees 226 = .ok (.getfield 18, 3) := by decide +kernel
theorem dX11_agrees_229 : decode cX11_agrees 229 = .ok (.invokevirtual 76, 3) := by decide +kernel
theorem dX11_agrees_232 : decode cX11_agrees 232 = .ok (.ifCond .ne 7, 3) := by decide +kernel
theorem dX11_agrees_235 : decode cX11_agrees 235 = .ok (.iconst 1, 1) := by decide +kernel
theorem dX11_agrees_236 : decode cX11_agrees 236 = .ok (.goto 4, 3) := by decide +kernel
theorem dX11_agrees_239 : decode cX11_agrees 239 = .ok (.iconst 0, 1) := by decide +kernel
theorem dX11_agrees_240 : decode cX11_agrees 240 = .ok (.ireturn, 1) := by decide +kernel
theorem dL_pick_0 : decode cL_pick 0 = .ok (.iload_n 1, 1) := by decide +kernel
theorem dL_pick_1 : decode cL_pick 1 = .ok (.aload_n 0, 1) := by decide +kernel
theorem dL_pick_2 : decode cL_pick 2 = .ok (.arraylength, 1) := by decide +kernel
theorem dL_pick_3 : decode cL_pick 3 = .ok (.if_icmp .ge 14, 3) := by decide +kernel
theorem dL_pick_6 : decode cL_pick 6 = .ok (.aload_n 0, 1) := by decide +kernel
theorem dL_pick_7 : decode cL_pick 7 = .ok (.iload_n 1, 1) := by decide +kernel
theorem dL_pick_8 : decode cL_pick 8 = .ok (.iaload, 1) := by decide +kernel
theorem dL_pick_9 : decode cL_pick 9 = .ok (.ldc 7, 2) := by decide +kernel
theorem dL_pick_11 : decode cL_pick 11 = .ok (.iand, 1) := by decide +kernel
theorem dL_pick_12 : decode cL_pick 12 = .ok (.iload_n 2, 1) := by decide +kernel
theorem dL_pick_13 : decode cL_pick 13 = .ok (.irem, 1) := by decide +kernel
theorem dL_pick_14 : decode cL_pick 14 = .ok (.goto 4, 3) := by decide +kernel
theorem dL_pick_17 : decode cL_pick 17 = .ok (.iconst 0, 1) := by decide +kernel
theorem dL_pick_18 : decode cL_pick 18 = .ok (.ireturn, 1) := by decide +kernel
theorem dL_word_0 : decode cL_word 0 = .ok (.iconst 0, 1) := by decide +kernel
theorem dL_word_1 : decode cL_word 1 = .ok (.istore_n 2, 1) := by decide +kernel
theorem dL_word_2 : decode cL_word 2 = .ok (.iload_n 1, 1) := by decide +kernel
theorem dL_word_3 : decode cL_word 3 = .ok (.istore_n 3, 1) := by decide +kernel
theorem dL_word_4 : decode cL_word 4 = .ok (.iload_n 3, 1) := by decide +kernel
theorem dL_word_5 : decode cL_word 5 = .ok (.iload_n 1, 1) := by decide +kernel
theorem dL_word_6 : decode cL_word 6 = .ok (.iconst 4, 1) := by decide +kernel
theorem dL_word_7 : decode cL_word 7 = .ok (.iadd, 1) := by decide +kernel
theorem dL_word_8 : decode cL_word 8 = .ok (.if_icmp .ge 33, 3) := by decide +kernel
theorem dL_word_11 : decode cL_word 11 = .ok (.iload_n 2, 1) := by decide +kernel
theorem dL_word_12 : decode cL_word 12 = .ok (.bipush 8, 2) := by decide +kernel
theorem dL_word_14 : decode cL_word 14 = .ok (.ishl, 1) := by decide +kernel
theorem dL_word_15 : decode cL_word 15 = .ok (.iload_n 3, 1) := by decide +kernel
theorem dL_word_16 : decode cL_word 16 = .ok (.aload_n 0, 1) := by decide +kernel
theorem dL_word_17 : decode cL_word 17 = .ok (.invokevirtual 8, 3) := by decide +kernel
theorem dL_word_20 : decode cL_word 20 = .ok (.if_icmp .ge 11, 3) := by decide +kernel
theorem dL_word_23 : decode cL_word 23 = .ok (.aload_n 0, 1) := by decide +kernel
theorem dL_word_24 : decode cL_word 24 = .ok (.iload_n 3, 1) := by decide +kernel
theorem dL_word_25 : decode cL_word 25 = .ok (.invokevirtual 14, 3) := by decide +kernel
theorem dL_word_28 : decode cL_word 28 = .ok (.goto 5, 3) := by decide +kernel
theorem dL_word_31 : decode cL_word 31 = .ok (.bipush 32, 2) := by decide +kernel
theorem dL_word_33 : decode cL_word 33 = .ok (.ior, 1) := by decide +kernel
theorem dL_word_34 : decode cL_word 34 = .ok (.istore_n 2, 1) := by decide +kernel
theorem dL_word_35 : decode cL_word 35 = .ok (.iinc 3 1, 3) := by decide +kernel
theorem dL_word_38 : decode cL_word 38 = .ok (.goto (-34), 3) := by decide +kernel
theorem dL_word_41 : decode cL_word 41 = .ok (.iload_n 2, 1) := by decide +kernel
theorem dL_word_42 : decode cL_word 42 = .ok (.ireturn, 1) := by decide +kernel
theorem dL_say_0 : decode cL_say 0 = .ok (.aload_n 0, 1) := by decide +kernel
theorem dL_say_1 : decode cL_say 1 = .ok (.iconst 0, 1) := by decide +kernel
theorem dL_say_2 : decode cL_say 2 = .ok (.invokevirtual 18, 3) := by decide +kernel
theorem dL_say_5 : decode cL_say 5 = .ok (.pop, 1) := by decide +kernel
theorem dL_say_6 : decode cL_say 6 = .ok (.iconst 0, 1) := by decide +kernel
theorem dL_say_7 : decode cL_say 7 = .ok (.istore_n 2, 1) := by decide +kernel
theorem dL_say_8 : decode cL_say 8 = .ok (.iload_n 2, 1) := by decide +kernel
theorem dL_say_9 : decode cL_say 9 = .ok (.aload_n 1, 1) := by decide +kernel
theorem dL_say_10 : decode cL_say 10 = .ok (.invokevirtual 8, 3) := by decide +kernel
theorem dL_say_13 : decode cL_say 13 = .ok (.if_icmp .ge 50, 3) := by decide +kernel
theorem dL_say_16 : decode cL_say 16 = .ok (.aload_n 0, 1) := by decide +kernel
theorem dL_say_17 : decode cL_say 17 = .ok (.aload_n 1, 1) := by decide +kernel
theorem dL_say_18 : decode cL_say 18 = .ok (.iload_n 2, 1) := by decide +kernel
theorem dL_say_19 : decode cL_say 19 = .ok (.invokestatic 24, 3) := by decide +kernel
theorem dL_say_22 : decode cL_say 22 = .ok (.aload_n 1, 1) := by decide +kernel
theorem dL_say_23 : decode cL_say 23 = .ok (.iload_n 2, 1) := by decide +kernel
theorem dL_say_24 : decode cL_say 24 = .ok (.iconst 4, 1) := by decide +kernel
theorem dL_say_25 : decode cL_say 25 = .ok (.iadd, 1) := by decide +kernel
theorem dL_say_26 : decode cL_say 26 = .ok (.invokestatic 24, 3) := by decide +kernel
theorem dL_say_29 : decode cL_say 29 = .ok (.aload_n 1, 1) := by decide +kernel
theorem dL_say_30 : decode cL_say 30 = .ok (.iload_n 2, 1) := by decide +kernel
theorem dL_say_31 : decode cL_say 31 = .ok (.bipush 8, 2) := by decide +kernel
theorem dL_say_33 : decode cL_say 33 = .ok (.iadd, 1) := by decide +kernel
theorem dL_say_34 : decode cL_say 34 = .ok (.invokestatic 24, 3) := by decide +kernel
theorem dL_say_37 : decode cL_say 37 = .ok (.aload_n 1, 1) := by decide +kernel
theorem dL_say_38 : decode cL_say 38 = .ok (.iload_n 2, 1) := by decide +kernel
theorem dL_say_39 : decode cL_say 39 = .ok (.bipush 12, 2) := by decide +kernel
theorem dL_say_41 : decode cL_say 41 = .ok (.iadd, 1) := by decide +kernel
theorem dL_say_42 : decode cL_say 42 = .ok (.invokestatic 24, 3) := by decide +kernel
theorem dL_say_45 : decode cL_say 45 = .ok (.aload_n 1, 1) := by decide +kernel
theorem dL_say_46 : decode cL_say 46 = .ok (.iload_n 2, 1) := by decide +kernel
theorem dL_say_47 : decode cL_say 47 = .ok (.bipush 16, 2) := by decide +kernel
theorem dL_say_49 : decode cL_say 49 = .ok (.iadd, 1) := by decide +kernel
theorem dL_say_50 : decode cL_say 50 = .ok (.invokestatic 24, 3) := by decide +kernel
theorem dL_say_53 : decode cL_say 53 = .ok (.invokevirtual 30, 3) := by decide +kernel
theorem dL_say_56 : decode cL_say 56 = .ok (.pop, 1) := by decide +kernel
theorem dL_say_57 : decode cL_say 57 = .ok (.iinc 2 20, 3) := by decide +kernel
theorem dL_say_60 : decode cL_say 60 = .ok (.goto (-52), 3) := by decide +kernel
theorem dL_say_63 : decode cL_say 63 = .ok (.aload_n 0, 1) := by decide +kernel
theorem dL_say_64 : decode cL_say 64 = .ok (.aload_n 1, 1) := by decide +kernel
theorem dL_say_65 : decode cL_say 65 = .ok (.invokevirtual 8, 3) := by decide +kernel
theorem dL_say_68 : decode cL_say 68 = .ok (.invokevirtual 18, 3) := by decide +kernel
theorem dL_say_71 : decode cL_say 71 = .ok (.aload_n 1, 1) := by decide +kernel
theorem dL_say_72 : decode cL_say 72 = .ok (.invokevirtual 8, 3) := by decide +kernel
theorem dL_say_75 : decode cL_say 75 = .ok (.if_icmp .ne 7, 3) := by decide +kernel
theorem dL_say_78 : decode cL_say 78 = .ok (.iconst 1, 1) := by decide +kernel
theorem dL_say_79 : decode cL_say 79 = .ok (.goto 4, 3) := by decide +kernel
theorem dL_say_82 : decode cL_say 82 = .ok (.iconst 0, 1) := by decide +kernel
theorem dL_say_83 : decode cL_say 83 = .ok (.ireturn, 1) := by decide +kernel
theorem dL_setup_0 : decode cL_setup 0 = .ok (.new 34, 3) := by decide +kernel
theorem dL_setup_3 : decode cL_setup 3 = .ok (.dup, 1) := by decide +kernel
theorem dL_setup_4 : decode cL_setup 4 = .ok (.ldc 36, 2) := by decide +kernel
theorem dL_setup_6 : decode cL_setup 6 = .ok (.invokespecial 38, 3) := by decide +kernel
theorem dL_setup_9 : decode cL_setup 9 = .ok (.astore_n 3, 1) := by decide +kernel
theorem dL_setup_10 : decode cL_setup 10 = .ok (.iconst 0, 1) := by decide +kernel
theorem dL_setup_11 : decode cL_setup 11 = .ok (.istore 4, 2) := by decide +kernel
theorem dL_setup_13 : decode cL_setup 13 = .ok (.iload 4, 2) := by decide +kernel
theorem dL_setup_15 : decode cL_setup 15 = .ok (.iload_n 1, 1) := by decide +kernel
theorem dL_setup_16 : decode cL_setup 16 = .ok (.if_icmp .ge 48, 3) := by decide +kernel
theorem dL_setup_19 : decode cL_setup 19 = .ok (.aload_n 3, 1) := by decide +kernel
theorem dL_setup_20 : decode cL_setup 20 = .ok (.ldc 41, 2) := by decide +kernel
theorem dL_setup_22 : decode cL_setup 22 = .ok (.invokevirtual 43, 3) := by decide +kernel
theorem dL_setup_25 : decode cL_setup 25 = .ok (.bipush 97, 2) := by decide +kernel
theorem dL_setup_27 : decode cL_setup 27 = .ok (.iload 4, 2) := by decide +kernel
theorem dL_setup_29 : decode cL_setup 29 = .ok (.iadd, 1) := by decide +kernel
theorem dL_setup_30 : decode cL_setup 30 = .ok (.i2c, 1) := by decide +kernel
theorem dL_setup_31 : decode cL_setup 31 = .ok (.invokevirtual 46, 3) := by decide +kernel
theorem dL_setup_34 : decode cL_setup 34 = .ok (.bipush 32, 2) := by decide +kernel
theorem dL_setup_36 : decode cL_setup 36 = .ok (.invokevirtual 46, 3) := by decide +kernel
theorem dL_setup_39 : decode cL_setup 39 = .ok (.aload_n 0, 1) := by decide +kernel
theorem dL_setup_40 : decode cL_setup 40 = .ok (.iconst 2, 1) := by decide +kernel
theorem dL_setup_41 : decode cL_setup 41 = .ok (.iload 4, 2) := by decide +kernel
theorem dL_setup_43 : decode cL_setup 43 = .ok (.iadd, 1) := by decide +kernel
theorem dL_setup_44 : decode cL_setup 44 = .ok (.bipush 40, 2) := by decide +kernel
theorem dL_setup_46 : decode cL_setup 46 = .ok (.invokestatic 49, 3) := by decide +kernel
theorem dL_setup_49 : decode cL_setup 49 = .ok (.invokevirtual 53, 3) := by decide +kernel
theorem dL_setup_52 : decode cL_setup 52 = .ok (.bipush 59, 2) := by decide +kernel
theorem dL_setup_54 : decode cL_setup 54 = .ok (.invokevirtual 46, 3) := by decide +kernel
theorem dL_setup_57 : decode cL_setup 57 = .ok (.pop, 1) := by decide +kernel
theorem dL_setup_58 : decode cL_setup 58 = .ok (.iinc 4 1, 3) := by decide +kernel
theorem dL_setup_61 : decode cL_setup 61 = .ok (.goto (-48), 3) := by decide +kernel
theorem dL_setup_64 : decode cL_setup 64 = .ok (.iconst 0, 1) := by decide +kernel
theorem dL_setup_65 : decode cL_setup 65 = .ok (.istore 4, 2) := by decide +kernel
theorem dL_setup_67 : decode cL_setup 67 = .ok (.iload 4, 2) := by decide +kernel
theorem dL_setup_69 : decode cL_setup 69 = .ok (.iload_n 2, 1) := by decide +kernel
theorem dL_setup_70 : decode cL_setup 70 = .ok (.if_icmp .ge 99, 3) := by decide +kernel
theorem dL_setup_73 : decode cL_setup 73 = .ok (.aload_n 0, 1) := by decide +kernel
theorem dL_setup_74 : decode cL_setup 74 = .ok (.bipush 7, 2) := by decide +kernel
theorem dL_setup_76 : decode cL_setup 76 = .ok (.iload 4, 2) := by decide +kernel
theorem dL_setup_78 : decode cL_setup 78 = .ok (.iadd, 1) := by decide +kernel
theorem dL_setup_79 : decode cL_setup 79 = .ok (.ldc 56, 2) := by decide +kernel
theorem dL_setup_81 : decode cL_setup 81 = .ok (.invokestatic 49, 3) := by decide +kernel
theorem dL_setup_84 : decode cL_setup 84 = .ok (.istore 5, 2) := by decide +kernel
theorem dL_setup_86 : decode cL_setup 86 = .ok (.aload_n 3, 1) := by decide +kernel
theorem dL_setup_87 : decode cL_setup 87 = .ok (.ldc 57, 2) := by decide +kernel
theorem dL_setup_89 : decode cL_setup 89 = .ok (.invokevirtual 43, 3) := by decide +kernel
theorem dL_setup_92 : decode cL_setup 92 = .ok (.bipush 97, 2) := by decide +kernel
theorem dL_setup_94 : decode cL_setup 94 = .ok (.iload 5, 2) := by decide +kernel
theorem dL_setup_96 : decode cL_setup 96 = .ok (.iload_n 1, 1) := by decide +kernel
theorem dL_setup_97 : decode cL_setup 97 = .ok (.irem, 1) := by decide +kernel
theorem dL_setup_98 : decode cL_setup 98 = .ok (.iadd, 1) := by decide +kernel
theorem dL_setup_99 : decode cL_setup 99 = .ok (.i2c, 1) := by decide +kernel
theorem dL_setup_100 : decode cL_setup 100 = .ok (.invokevirtual 46, 3) := by decide +kernel
theorem dL_setup_103 : decode cL_setup 103 = .ok (.bipush 32, 2) := by decide +kernel
theorem dL_setup_105 : decode cL_setup 105 = .ok (.invokevirtual 46, 3) := by decide +kernel
theorem dL_setup_108 : decode cL_setup 108 = .ok (.iconst 1, 1) := by decide +kernel
theorem dL_setup_109 : decode cL_setup 109 = .ok (.iload 5, 2) := by decide +kernel
theorem dL_setup_111 : decode cL_setup 111 = .ok (.bipush 8, 2) := by decide +kernel
theorem dL_setup_113 : decode cL_setup 113 = .ok (.idiv, 1) := by decide +kernel
theorem dL_setup_114 : decode cL_setup 114 = .ok (.bipush 20, 2) := by decide +kernel
theorem dL_setup_116 : decode cL_setup 116 = .ok (.irem, 1) := by decide +kernel
theorem dL_setup_117 : decode cL_setup 117 = .ok (.iadd, 1) := by decide +kernel
theorem dL_setup_118 : decode cL_setup 118 = .ok (.invokevirtual 53, 3) := by decide +kernel
theorem dL_setup_121 : decode cL_setup 121 = .ok (.bipush 32, 2) := by decide +kernel
theorem dL_setup_123 : decode cL_setup 123 = .ok (.invokevirtual 46, 3) := by decide +kernel
theorem dL_setup_126 : decode cL_setup 126 = .ok (.iload 5, 2) := by decide +kernel
theorem dL_setup_128 : decode cL_setup 128 = .ok (.sipush 256, 3) := by decide +kernel
theorem dL_setup_131 : decode cL_setup 131 = .ok (.idiv, 1) := by decide +kernel
theorem dL_setup_132 : decode cL_setup 132 = .ok (.bipush 16, 2) := by decide +kernel
theorem dL_setup_134 : decode cL_setup 134 = .ok (.irem, 1) := by decide +kernel
theorem dL_setup_135 : decode cL_setup 135 = .ok (.invokevirtual 53, 3) := by decide +kernel
theorem dL_setup_138 : decode cL_setup 138 = .ok (.bipush 32, 2) := by decide +kernel
theorem dL_setup_140 : decode cL_setup 140 = .ok (.invokevirtual 46, 3) := by decide +kernel
theorem dL_setup_143 : decode cL_setup 143 = .ok (.iconst 1, 1) := by decide +kernel
theorem dL_setup_144 : decode cL_setup 144 = .ok (.iload 5, 2) := by decide +kernel
theorem dL_setup_146 : decode cL_setup 146 = .ok (.sipush 8192, 3) := by decide +kernel
theorem dL_setup_149 : decode cL_setup 149 = .ok (.idiv, 1) := by decide +kernel
theorem dL_setup_150 : decode cL_setup 150 = .ok (.bipush 30, 2) := by decide +kernel
theorem dL_setup_152 : decode cL_setup 152 = .ok (.irem, 1) := by decide +kernel
theorem dL_setup_153 : decode cL_setup 153 = .ok (.iadd, 1) := by decide +kernel
theorem dL_setup_154 : decode cL_setup 154 = .ok (.invokevirtual 53, 3) := by decide +kernel
theorem dL_setup_157 : decode cL_setup 157 = .ok (.bipush 59, 2) := by decide +kernel
theorem dL_setup_159 : decode cL_setup 159 = .ok (.invokevirtual 46, 3) := by decide +kernel
theorem dL_setup_162 : decode cL_setup 162 = .ok (.pop, 1) := by decide +kernel
theorem dL_setup_163 : decode cL_setup 163 = .ok (.iinc 4 1, 3) := by decide +kernel
theorem dL_setup_166 : decode cL_setup 166 = .ok (.goto (-99), 3) := by decide +kernel
theorem dL_setup_169 : decode cL_setup 169 = .ok (.aload_n 3, 1) := by decide +kernel
theorem dL_setup_170 : decode cL_setup 170 = .ok (.invokevirtual 59, 3) := by decide +kernel
theorem dL_setup_173 : decode cL_setup 173 = .ok (.areturn, 1) := by decide +kernel
theorem dL_act_0 : decode cL_act 0 = .ok (.iload_n 1, 1) := by decide +kernel
theorem dL_act_1 : decode cL_act 1 = .ok (.bipush 16, 2) := by decide +kernel
theorem dL_act_3 : decode cL_act 3 = .ok (.idiv, 1) := by decide +kernel
theorem dL_act_4 : decode cL_act 4 = .ok (.aload_n 0, 1) := by decide +kernel
theorem dL_act_5 : decode cL_act 5 = .ok (.invokevirtual 63, 3) := by decide +kernel
theorem dL_act_8 : decode cL_act 8 = .ok (.irem, 1) := by decide +kernel
theorem dL_act_9 : decode cL_act 9 = .ok (.istore_n 2, 1) := by decide +kernel
theorem dL_act_10 : decode cL_act 10 = .ok (.iconst 1, 1) := by decide +kernel
theorem dL_act_11 : decode cL_act 11 = .ok (.iload_n 1, 1) := by decide +kernel
theorem dL_act_12 : decode cL_act 12 = .ok (.sipush 128, 3) := by decide +kernel
theorem dL_act_15 : decode cL_act 15 = .ok (.idiv, 1) := by decide +kernel
theorem dL_act_16 : decode cL_act 16 = .ok (.bipush 15, 2) := by decide +kernel
theorem dL_act_18 : decode cL_act 18 = .ok (.irem, 1) := by decide +kernel
theorem dL_act_19 : decode cL_act 19 = .ok (.iadd, 1) := by decide +kernel
theorem dL_act_20 : decode cL_act 20 = .ok (.istore_n 3, 1) := by decide +kernel
theorem dL_act_21 : decode cL_act 21 = .ok (.aload_n 0, 1) := by decide +kernel
theorem dL_act_22 : decode cL_act 22 = .ok (.invokevirtual 66, 3) := by decide +kernel
theorem dL_act_25 : decode cL_act 25 = .ok (.ifCond .ne 7, 3) := by decide +kernel
theorem dL_act_28 : decode cL_act 28 = .ok (.iconst (-1), 1) := by decide +kernel
theorem dL_act_29 : decode cL_act 29 = .ok (.goto 12, 3) := by decide +kernel
theorem dL_act_32 : decode cL_act 32 = .ok (.iload_n 1, 1) := by decide +kernel
theorem dL_act_33 : decode cL_act 33 = .ok (.bipush 16, 2) := by decide +kernel
theorem dL_act_35 : decode cL_act 35 = .ok (.idiv, 1) := by decide +kernel
theorem dL_act_36 : decode cL_act 36 = .ok (.aload_n 0, 1) := by decide +kernel
theorem dL_act_37 : decode cL_act 37 = .ok (.invokevirtual 66, 3) := by decide +kernel
theorem dL_act_40 : decode cL_act 40 = .ok (.irem, 1) := by decide +kernel
theorem dL_act_41 : decode cL_act 41 = .ok (.istore 4, 2) := by decide +kernel
theorem dL_act_43 : decode cL_act 43 = .ok (.aload_n 0, 1) := by decide +kernel
theorem dL_act_44 : decode cL_act 44 = .ok (.invokevirtual 69, 3) := by decide +kernel
theorem dL_act_47 : decode cL_act 47 = .ok (.ifCond .ne 7, 3) := by decide +kernel
theorem dL_act_50 : decode cL_act 50 = .ok (.iconst (-1), 1) := by decide +kernel
theorem dL_act_51 : decode cL_act 51 = .ok (.goto 12, 3) := by decide +kernel
theorem dL_act_54 : decode cL_act 54 = .ok (.iload_n 1, 1) := by decide +kernel
theorem dL_act_55 : decode cL_act 55 = .ok (.bipush 16, 2) := by decide +kernel
theorem dL_act_57 : decode cL_act 57 = .ok (.idiv, 1) := by decide +kernel
theorem dL_act_58 : decode cL_act 58 = .ok (.aload_n 0, 1) := by decide +kernel
theorem dL_act_59 : decode cL_act 59 = .ok (.invokevirtual 69, 3) := by decide +kernel
theorem dL_act_62 : decode cL_act 62 = .ok (.irem, 1) := by decide +kernel
theorem dL_act_63 : decode cL_act 63 = .ok (.istore 5, 2) := by decide +kernel
theorem dL_act_65 : decode cL_act 65 = .ok (.iload_n 1, 1) := by decide +kernel
theorem dL_act_66 : decode cL_act 66 = .ok (.bipush 13, 2) := by decide +kernel
theorem dL_act_68 : decode cL_act 68 = .ok (.irem, 1) := by decide +kernel
theorem dL_act_69 : decode cL_act 69 = .ok (.tableswitch 304 0 11 #[63, 63, 104, 104, 127, 127, 127, 174, 198, 232, 256, 296], 63) := by decide +kernel
theorem dL_act_132 : decode cL_act 132 = .ok (.aload_n 0, 1) := by decide +kernel
theorem dL_act_133 : decode cL_act 133 = .ok (.invokevirtual 69, 3) := by decide +kernel
theorem dL_act_136 : decode cL_act 136 = .ok (.bipush 18, 2) := by decide +kernel
theorem dL_act_138 : decode cL_act 138 = .ok (.if_icmp .ge 249, 3) := by decide +kernel
theorem dL_act_141 : decode cL_act 141 = .ok (.aload_n 0, 1) := by decide +kernel
theorem dL_act_142 : decode cL_act 142 = .ok (.iload_n 2, 1) := by decide +kernel
theorem dL_act_143 : decode cL_act 143 = .ok (.iload_n 3, 1) := by decide +kernel
theorem dL_act_144 : decode cL_act 144 = .ok (.aload_n 0, 1) := by decide +kernel
theorem dL_act_145 : decode cL_act 145 = .ok (.invokevirtual 72, 3) := by decide +kernel
theorem dL_act_148 : decode cL_act 148 = .ok (.iload_n 1, 1) := by decide +kernel
theorem dL_act_149 : decode cL_act 149 = .ok (.sipush 2048, 3) := by decide +kernel
theorem dL_act_152 : decode cL_act 152 = .ok (.idiv, 1) := by decide +kernel
theorem dL_act_153 : decode cL_act 153 = .ok (.bipush 16, 2) := by decide +kernel
theorem dL_act_155 : decode cL_act 155 = .ok (.irem, 1) := by decide +kernel
theorem dL_act_156 : decode cL_act 156 = .ok (.iadd, 1) := by decide +kernel
theorem dL_act_157 : decode cL_act 157 = .ok (.iconst 1, 1) := by decide +kernel
theorem dL_act_158 : decode cL_act 158 = .ok (.iload_n 1, 1) := by decide +kernel
theorem dL_act_159 : decode cL_act 159 = .ok (.ldc 75, 2) := by decide +kernel
theorem dL_act_161 : decode cL_act 161 = .ok (.idiv, 1) := by decide +kernel
theorem dL_act_162 : decode cL_act 162 = .ok (.bipush 30, 2) := by decide +kernel
theorem dL_act_164 : decode cL_act 164 = .ok (.irem, 1) := by decide +kernel
theorem dL_act_165 : decode cL_act 165 = .ok (.iadd, 1) := by decide +kernel
theorem dL_act_166 : decode cL_act 166 = .ok (.invokevirtual 76, 3) := by decide +kernel
theorem dL_act_169 : decode cL_act 169 = .ok (.pop, 1) := by decide +kernel
theorem dL_act_170 : decode cL_act 170 = .ok (.goto 217, 3) := by decide +kernel
theorem dL_act_173 : decode cL_act 173 = .ok (.aload_n 0, 1) := by decide +kernel
theorem dL_act_174 : decode cL_act 174 = .ok (.iload_n 2, 1) := by decide +kernel
theorem dL_act_175 : decode cL_act 175 = .ok (.aload_n 0, 1) := by decide +kernel
theorem dL_act_176 : decode cL_act 176 = .ok (.invokevirtual 72, 3) := by decide +kernel
theorem dL_act_179 : decode cL_act 179 = .ok (.invokevirtual 80, 3) := by decide +kernel
theorem dL_act_182 : decode cL_act 182 = .ok (.iload_n 3, 1) := by decide +kernel
theorem dL_act_183 : decode cL_act 183 = .ok (.if_icmp .lt 204, 3) := by decide +kernel
theorem dL_act_186 : decode cL_act 186 = .ok (.aload_n 0, 1) := by decide +kernel
theorem dL_act_187 : decode cL_act 187 = .ok (.iload_n 2, 1) := by decide +kernel
theorem dL_act_188 : decode cL_act 188 = .ok (.iload_n 3, 1) := by decide +kernel
theorem dL_act_189 : decode cL_act 189 = .ok (.invokevirtual 84, 3) := by decide +kernel
theorem dL_act_192 : decode cL_act 192 = .ok (.pop, 1) := by decide +kernel
theorem dL_act_193 : decode cL_act 193 = .ok (.goto 194, 3) := by decide +kernel
theorem dL_act_196 : decode cL_act 196 = .ok (.aload_n 0, 1) := by decide +kernel
theorem dL_act_197 : decode cL_act 197 = .ok (.invokevirtual 72, 3) := by decide +kernel
theorem dL_act_200 : decode cL_act 200 = .ok (.iload_n 1, 1) := by decide +kernel
theorem dL_act_201 : decode cL_act 201 = .ok (.sipush 2048, 3) := by decide +kernel
theorem dL_act_204 : decode cL_act 204 = .ok (.idiv, 1) := by decide +kernel
theorem dL_act_205 : decode cL_act 205 = .ok (.bipush 10, 2) := by decide +kernel
theorem dL_act_207 : decode cL_act 207 = .ok (.irem, 1) := by decide +kernel
theorem dL_act_208 : decode cL_act 208 = .ok (.iadd, 1) := by decide +kernel
theorem dL_act_209 : decode cL_act 209 = .ok (.istore 6, 2) := by decide +kernel
theorem dL_act_211 : decode cL_act 211 = .ok (.aload_n 0, 1) := by decide +kernel
theorem dL_act_212 : decode cL_act 212 = .ok (.invokevirtual 66, 3) := by decide +kernel
theorem dL_act_215 : decode cL_act 215 = .ok (.bipush 10, 2) := by decide +kernel
theorem dL_act_217 : decode cL_act 217 = .ok (.if_icmp .ge 170, 3) := by decide +kernel
theorem dL_act_220 : decode cL_act 220 = .ok (.aload_n 0, 1) := by decide +kernel
theorem dL_act_221 : decode cL_act 221 = .ok (.iload_n 2, 1) := by decide +kernel
theorem dL_act_222 : decode cL_act 222 = .ok (.iload 6, 2) := by decide +kernel
theorem dL_act_224 : decode cL_act 224 = .ok (.invokevirtual 80, 3) := by decide +kernel
theorem dL_act_227 : decode cL_act 227 = .ok (.iload_n 3, 1) := by decide +kernel
theorem dL_act_228 : decode cL_act 228 = .ok (.if_icmp .lt 159, 3) := by decide +kernel
theorem dL_act_231 : decode cL_act 231 = .ok (.aload_n 0, 1) := by decide +kernel
theorem dL_act_232 : decode cL_act 232 = .ok (.iload_n 2, 1) := by decide +kernel
theorem dL_act_233 : decode cL_act 233 = .ok (.iload_n 3, 1) := by decide +kernel
theorem dL_act_234 : decode cL_act 234 = .ok (.iload 6, 2) := by decide +kernel
theorem dL_act_236 : decode cL_act 236 = .ok (.invokevirtual 87, 3) := by decide +kernel
theorem dL_act_239 : decode cL_act 239 = .ok (.pop, 1) := by decide +kernel
theorem dL_act_240 : decode cL_act 240 = .ok (.goto 147, 3) := by decide +kernel
theorem dL_act_243 : decode cL_act 243 = .ok (.iload 4, 2) := by decide +kernel
theorem dL_act_245 : decode cL_act 245 = .ok (.ifCond .lt 142, 3) := by decide +kernel
theorem dL_act_248 : decode cL_act 248 = .ok (.aload_n 0, 1) := by decide +kernel
theorem dL_act_249 : decode cL_act 249 = .ok (.iload 4, 2) := by decide +kernel
theorem dL_act_251 : decode cL_act 251 = .ok (.invokevirtual 91, 3) := by decide +kernel
theorem dL_act_254 : decode cL_act 254 = .ok (.ifCond .ne 133, 3) := by decide +kernel
theorem dL_act_257 : decode cL_act 257 = .ok (.aload_n 0, 1) := by decide +kernel
theorem dL_act_258 : decode cL_act 258 = .ok (.iload 4, 2) := by decide +kernel
theorem dL_act_260 : decode cL_act 260 = .ok (.invokevirtual 94, 3) := by decide +kernel
theorem dL_act_263 : decode cL_act 263 = .ok (.pop, 1) := by decide +kernel
theorem dL_act_264 : decode cL_act 264 = .ok (.goto 123, 3) := by decide +kernel
theorem dL_act_267 : decode cL_act 267 = .ok (.iload 4, 2) := by decide +kernel
theorem dL_act_269 : decode cL_act 269 = .ok (.ifCond .lt 118, 3) := by decide +kernel
theorem dL_act_272 : decode cL_act 272 = .ok (.aload_n 0, 1) := by decide +kernel
theorem dL_act_273 : decode cL_act 273 = .ok (.iload 4, 2) := by decide +kernel
theorem dL_act_275 : decode cL_act 275 = .ok (.invokevirtual 97, 3) := by decide +kernel
theorem dL_act_278 : decode cL_act 278 = .ok (.ifCond .eq 109, 3) := by decide +kernel
theorem dL_act_281 : decode cL_act 281 = .ok (.iload_n 1, 1) := by decide +kernel
theorem dL_act_282 : decode cL_act 282 = .ok (.sipush 2048, 3) := by decide +kernel
theorem dL_act_285 : decode cL_act 285 = .ok (.idiv, 1) := by decide +kernel
theorem dL_act_286 : decode cL_act 286 = .ok (.iconst 2, 1) := by decide +kernel
theorem dL_act_287 : decode cL_act 287 = .ok (.irem, 1) := by decide +kernel
theorem dL_act_288 : decode cL_act 288 = .ok (.ifCond .ne 99, 3) := by decide +kernel
theorem dL_act_291 : decode cL_act 291 = .ok (.aload_n 0, 1) := by decide +kernel
theorem dL_act_292 : decode cL_act 292 = .ok (.iload 4, 2) := by decide +kernel
theorem dL_act_294 : decode cL_act 294 = .ok (.invokevirtual 101, 3) := by decide +kernel
theorem dL_act_297 : decode cL_act 297 = .ok (.pop, 1) := by decide +kernel
theorem dL_act_298 : decode cL_act 298 = .ok (.goto 89, 3) := by decide +kernel
theorem dL_act_301 : decode cL_act 301 = .ok (.iload 4, 2) := by decide +kernel
theorem dL_act_303 : decode cL_act 303 = .ok (.ifCond .lt 84, 3) := by decide +kernel
theorem dL_act_306 : decode cL_act 306 = .ok (.aload_n 0, 1) := by decide +kernel
theorem dL_act_307 : decode cL_act 307 = .ok (.iload 4, 2) := by decide +kernel
theorem dL_act_309 : decode cL_act 309 = .ok (.invokevirtual 97, 3) := by decide +kernel
theorem dL_act_312 : decode cL_act 312 = .ok (.ifCond .eq 75, 3) := by decide +kernel
theorem dL_act_315 : decode cL_act 315 = .ok (.aload_n 0, 1) := by decide +kernel
theorem dL_act_316 : decode cL_act 316 = .ok (.iload 4, 2) := by decide +kernel
theorem dL_act_318 : decode cL_act 318 = .ok (.invokevirtual 104, 3) := by decide +kernel
theorem dL_act_321 : decode cL_act 321 = .ok (.pop, 1) := by decide +kernel
theorem dL_act_322 : decode cL_act 322 = .ok (.goto 65, 3) := by decide +kernel
theorem dL_act_325 : decode cL_act 325 = .ok (.iload 5, 2) := by decide +kernel
theorem dL_act_327 : decode cL_act 327 = .ok (.ifCond .lt 60, 3) := by decide +kernel
theorem dL_act_330 : decode cL_act 330 = .ok (.iload_n 1, 1) := by decide +kernel
theorem dL_act_331 : decode cL_act 331 = .ok (.sipush 2048, 3) := by decide +kernel
theorem dL_act_334 : decode cL_act 334 = .ok (.idiv, 1) := by decide +kernel
theorem dL_act_335 : decode cL_act 335 = .ok (.bipush 25, 2) := by decide +kernel
theorem dL_act_337 : decode cL_act 337 = .ok (.irem, 1) := by decide +kernel
theorem dL_act_338 : decode cL_act 338 = .ok (.aload_n 0, 1) := by decide +kernel
theorem dL_act_339 : decode cL_act 339 = .ok (.iload 5, 2) := by decide +kernel
theorem dL_act_341 : decode cL_act 341 = .ok (.invokevirtual 107, 3) := by decide +kernel
theorem dL_act_344 : decode cL_act 344 = .ok (.if_icmp .lt 43, 3) := by decide +kernel
theorem dL_act_347 : decode cL_act 347 = .ok (.aload_n 0, 1) := by decide +kernel
theorem dL_act_348 : decode cL_act 348 = .ok (.iload 5, 2) := by decide +kernel
theorem dL_act_350 : decode cL_act 350 = .ok (.iload_n 1, 1) := by decide +kernel
theorem dL_act_351 : decode cL_act 351 = .ok (.sipush 2048, 3) := by decide +kernel
theorem dL_act_354 : decode cL_act 354 = .ok (.idiv, 1) := by decide +kernel
theorem dL_act_355 : decode cL_act 355 = .ok (.bipush 25, 2) := by decide +kernel
theorem dL_act_357 : decode cL_act 357 = .ok (.irem, 1) := by decide +kernel
theorem dL_act_358 : decode cL_act 358 = .ok (.invokevirtual 110, 3) := by decide +kernel
theorem dL_act_361 : decode cL_act 361 = .ok (.pop, 1) := by decide +kernel
theorem dL_act_362 : decode cL_act 362 = .ok (.goto 25, 3) := by decide +kernel
theorem dL_act_365 : decode cL_act 365 = .ok (.aload_n 0, 1) := by decide +kernel
theorem dL_act_366 : decode cL_act 366 = .ok (.invokevirtual 113, 3) := by decide +kernel
theorem dL_act_369 : decode cL_act 369 = .ok (.pop, 1) := by decide +kernel
theorem dL_act_370 : decode cL_act 370 = .ok (.goto 17, 3) := by decide +kernel
theorem dL_act_373 : decode cL_act 373 = .ok (.aload_n 0, 1) := by decide +kernel
theorem dL_act_374 : decode cL_act 374 = .ok (.iconst 1, 1) := by decide +kernel
theorem dL_act_375 : decode cL_act 375 = .ok (.iload_n 1, 1) := by decide +kernel
theorem dL_act_376 : decode cL_act 376 = .ok (.sipush 2048, 3) := by decide +kernel
theorem dL_act_379 : decode cL_act 379 = .ok (.idiv, 1) := by decide +kernel
theorem dL_act_380 : decode cL_act 380 = .ok (.iconst 4, 1) := by decide +kernel
theorem dL_act_381 : decode cL_act 381 = .ok (.irem, 1) := by decide +kernel
theorem dL_act_382 : decode cL_act 382 = .ok (.iadd, 1) := by decide +kernel
theorem dL_act_383 : decode cL_act 383 = .ok (.invokevirtual 116, 3) := by decide +kernel
theorem dL_act_386 : decode cL_act 386 = .ok (.pop, 1) := by decide +kernel
theorem dL_act_387 : decode cL_act 387 = .ok (.return_, 1) := by decide +kernel
