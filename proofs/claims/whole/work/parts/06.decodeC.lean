/-! what each instruction is (gen8.py) -/
theorem dX11_thrown_0 : decode cX11_thrown 0 = .ok (.aload_n 0, 1) := by decide +kernel
theorem dX11_thrown_1 : decode cX11_thrown 1 = .ok (.getfield 1, 3) := by decide +kernel
theorem dX11_thrown_4 : decode cX11_thrown 4 = .ok (.ireturn, 1) := by decide +kernel
theorem dX11_init_0 : decode cX11_init 0 = .ok (.aload_n 0, 1) := by decide +kernel
theorem dX11_init_1 : decode cX11_init 1 = .ok (.invokespecial 7, 3) := by decide +kernel
theorem dX11_init_4 : decode cX11_init 4 = .ok (.aload_n 0, 1) := by decide +kernel
theorem dX11_init_5 : decode cX11_init 5 = .ok (.sipush 4200, 3) := by decide +kernel
theorem dX11_init_8 : decode cX11_init 8 = .ok (.newarray .int, 2) := by decide +kernel
theorem dX11_init_10 : decode cX11_init 10 = .ok (.putfield 13, 3) := by decide +kernel
theorem dX11_init_13 : decode cX11_init 13 = .ok (.aload_n 0, 1) := by decide +kernel
theorem dX11_init_14 : decode cX11_init 14 = .ok (.iconst 2, 1) := by decide +kernel
theorem dX11_init_15 : decode cX11_init 15 = .ok (.newarray .boolean, 2) := by decide +kernel
theorem dX11_init_17 : decode cX11_init 17 = .ok (.putfield 17, 3) := by decide +kernel
theorem dX11_init_20 : decode cX11_init 20 = .ok (.aload_n 0, 1) := by decide +kernel
theorem dX11_init_21 : decode cX11_init 21 = .ok (.iconst 0, 1) := by decide +kernel
theorem dX11_init_22 : decode cX11_init 22 = .ok (.putfield 21, 3) := by decide +kernel
theorem dX11_init_25 : decode cX11_init 25 = .ok (.aload_n 0, 1) := by decide +kernel
theorem dX11_init_26 : decode cX11_init 26 = .ok (.sipush 600, 3) := by decide +kernel
theorem dX11_init_29 : decode cX11_init 29 = .ok (.newarray .int, 2) := by decide +kernel
theorem dX11_init_31 : decode cX11_init 31 = .ok (.putfield 24, 3) := by decide +kernel
theorem dX11_init_34 : decode cX11_init 34 = .ok (.aload_n 0, 1) := by decide +kernel
theorem dX11_init_35 : decode cX11_init 35 = .ok (.iconst 0, 1) := by decide +kernel
theorem dX11_init_36 : decode cX11_init 36 = .ok (.putfield 27, 3) := by decide +kernel
theorem dX11_init_39 : decode cX11_init 39 = .ok (.aload_n 0, 1) := by decide +kernel
theorem dX11_init_40 : decode cX11_init 40 = .ok (.iconst 0, 1) := by decide +kernel
theorem dX11_init_41 : decode cX11_init 41 = .ok (.putfield 30, 3) := by decide +kernel
theorem dX11_init_44 : decode cX11_init 44 = .ok (.aload_n 0, 1) := by decide +kernel
theorem dX11_init_45 : decode cX11_init 45 = .ok (.iconst (-1), 1) := by decide +kernel
theorem dX11_init_46 : decode cX11_init 46 = .ok (.putfield 33, 3) := by decide +kernel
theorem dX11_init_49 : decode cX11_init 49 = .ok (.aload_n 0, 1) := by decide +kernel
theorem dX11_init_50 : decode cX11_init 50 = .ok (.sipush 300, 3) := by decide +kernel
theorem dX11_init_53 : decode cX11_init 53 = .ok (.newarray .int, 2) := by decide +kernel
theorem dX11_init_55 : decode cX11_init 55 = .ok (.putfield 36, 3) := by decide +kernel
theorem dX11_init_58 : decode cX11_init 58 = .ok (.aload_n 0, 1) := by decide +kernel
theorem dX11_init_59 : decode cX11_init 59 = .ok (.iconst 0, 1) := by decide +kernel
theorem dX11_init_60 : decode cX11_init 60 = .ok (.putfield 39, 3) := by decide +kernel
theorem dX11_init_63 : decode cX11_init 63 = .ok (.aload_n 0, 1) := by decide +kernel
theorem dX11_init_64 : decode cX11_init 64 = .ok (.iconst 0, 1) := by decide +kernel
theorem dX11_init_65 : decode cX11_init 65 = .ok (.putfield 1, 3) := by decide +kernel
theorem dX11_init_68 : decode cX11_init 68 = .ok (.aload_n 0, 1) := by decide +kernel
theorem dX11_init_69 : decode cX11_init 69 = .ok (.iconst 0, 1) := by decide +kernel
theorem dX11_init_70 : decode cX11_init 70 = .ok (.putfield 42, 3) := by decide +kernel
theorem dX11_init_73 : decode cX11_init 73 = .ok (.aload_n 0, 1) := by decide +kernel
theorem dX11_init_74 : decode cX11_init 74 = .ok (.iconst 0, 1) := by decide +kernel
theorem dX11_init_75 : decode cX11_init 75 = .ok (.putfield 45, 3) := by decide +kernel
theorem dX11_init_78 : decode cX11_init 78 = .ok (.aload_n 0, 1) := by decide +kernel
theorem dX11_init_79 : decode cX11_init 79 = .ok (.iconst 0, 1) := by decide +kernel
theorem dX11_init_80 : decode cX11_init 80 = .ok (.putfield 48, 3) := by decide +kernel
theorem dX11_init_83 : decode cX11_init 83 = .ok (.aload_n 0, 1) := by decide +kernel
theorem dX11_init_84 : decode cX11_init 84 = .ok (.iconst 0, 1) := by decide +kernel
theorem dX11_init_85 : decode cX11_init 85 = .ok (.putfield 51, 3) := by decide +kernel
theorem dX11_init_88 : decode cX11_init 88 = .ok (.aload_n 0, 1) := by decide +kernel
theorem dX11_init_89 : decode cX11_init 89 = .ok (.sipush 150, 3) := by decide +kernel
theorem dX11_init_92 : decode cX11_init 92 = .ok (.newarray .int, 2) := by decide +kernel
theorem dX11_init_94 : decode cX11_init 94 = .ok (.putfield 54, 3) := by decide +kernel
theorem dX11_init_97 : decode cX11_init 97 = .ok (.ldc 57, 2) := by decide +kernel
theorem dX11_init_99 : decode cX11_init 99 = .ok (.astore_n 1, 1) := by decide +kernel
theorem dX11_init_100 : decode cX11_init 100 = .ok (.iconst 0, 1) := by decide +kernel
theorem dX11_init_101 : decode cX11_init 101 = .ok (.istore_n 2, 1) := by decide +kernel
theorem dX11_init_102 : decode cX11_init 102 = .ok (.iload_n 2, 1) := by decide +kernel
theorem dX11_init_103 : decode cX11_init 103 = .ok (.aload_n 1, 1) := by decide +kernel
theorem dX11_init_104 : decode cX11_init 104 = .ok (.invokevirtual 59, 3) := by decide +kernel
theorem dX11_init_107 : decode cX11_init 107 = .ok (.if_icmp .ge 20, 3) := by decide +kernel
theorem dX11_init_110 : decode cX11_init 110 = .ok (.aload_n 0, 1) := by decide +kernel
theorem dX11_init_111 : decode cX11_init 111 = .ok (.getfield 24, 3) := by decide +kernel
theorem dX11_init_114 : decode cX11_init 114 = .ok (.iload_n 2, 1) := by decide +kernel
theorem dX11_init_115 : decode cX11_init 115 = .ok (.aload_n 1, 1) := by decide +kernel
theorem dX11_init_116 : decode cX11_init 116 = .ok (.iload_n 2, 1) := by decide +kernel
theorem dX11_init_117 : decode cX11_init 117 = .ok (.invokevirtual 64, 3) := by decide +kernel
theorem dX11_init_120 : decode cX11_init 120 = .ok (.iastore, 1) := by decide +kernel
theorem dX11_init_121 : decode cX11_init 121 = .ok (.iinc 2 1, 3) := by decide +kernel
theorem dX11_init_124 : decode cX11_init 124 = .ok (.goto (-22), 3) := by decide +kernel
theorem dX11_init_127 : decode cX11_init 127 = .ok (.aload_n 0, 1) := by decide +kernel
theorem dX11_init_128 : decode cX11_init 128 = .ok (.aload_n 1, 1) := by decide +kernel
theorem dX11_init_129 : decode cX11_init 129 = .ok (.invokevirtual 59, 3) := by decide +kernel
theorem dX11_init_132 : decode cX11_init 132 = .ok (.putfield 27, 3) := by decide +kernel
theorem dX11_init_135 : decode cX11_init 135 = .ok (.aload_n 0, 1) := by decide +kernel
theorem dX11_init_136 : decode cX11_init 136 = .ok (.invokevirtual 68, 3) := by decide +kernel
theorem dX11_init_139 : decode cX11_init 139 = .ok (.aload_n 0, 1) := by decide +kernel
theorem dX11_init_140 : decode cX11_init 140 = .ok (.invokevirtual 71, 3) := by decide +kernel
theorem dX11_init_143 : decode cX11_init 143 = .ok (.pop, 1) := by decide +kernel
theorem dX11_init_144 : decode cX11_init 144 = .ok (.aload_n 0, 1) := by decide +kernel
theorem dX11_init_145 : decode cX11_init 145 = .ok (.iconst 0, 1) := by decide +kernel
theorem dX11_init_146 : decode cX11_init 146 = .ok (.putfield 27, 3) := by decide +kernel
theorem dX11_init_149 : decode cX11_init 149 = .ok (.return_, 1) := by decide +kernel
theorem dX11_fails_0 : decode cX11_fails 0 = .ok (.aload_n 0, 1) := by decide +kernel
theorem dX11_fails_1 : decode cX11_fails 1 = .ok (.iload_n 1, 1) := by decide +kernel
theorem dX11_fails_2 : decode cX11_fails 2 = .ok (.ifCond .eq 7, 3) := by decide +kernel
theorem dX11_fails_5 : decode cX11_fails 5 = .ok (.iconst 1, 1) := by decide +kernel
theorem dX11_fails_6 : decode cX11_fails 6 = .ok (.goto 20, 3) := by decide +kernel
theorem dX11_fails_9 : decode cX11_fails 9 = .ok (.iload_n 2, 1) := by decide +kernel
theorem dX11_fails_10 : decode cX11_fails 10 = .ok (.ifCond .eq 7, 3) := by decide +kernel
theorem dX11_fails_13 : decode cX11_fails 13 = .ok (.iconst 2, 1) := by decide +kernel
theorem dX11_fails_14 : decode cX11_fails 14 = .ok (.goto 12, 3) := by decide +kernel
theorem dX11_fails_17 : decode cX11_fails 17 = .ok (.iload_n 3, 1) := by decide +kernel
theorem dX11_fails_18 : decode cX11_fails 18 = .ok (.ifCond .eq 7, 3) := by decide +kernel
theorem dX11_fails_21 : decode cX11_fails 21 = .ok (.iconst 3, 1) := by decide +kernel
theorem dX11_fails_22 : decode cX11_fails 22 = .ok (.goto 4, 3) := by decide +kernel
theorem dX11_fails_25 : decode cX11_fails 25 = .ok (.iconst 0, 1) := by decide +kernel
theorem dX11_fails_26 : decode cX11_fails 26 = .ok (.putfield 1, 3) := by decide +kernel
theorem dX11_fails_29 : decode cX11_fails 29 = .ok (.aload_n 0, 1) := by decide +kernel
theorem dX11_fails_30 : decode cX11_fails 30 = .ok (.getfield 1, 3) := by decide +kernel
theorem dX11_fails_33 : decode cX11_fails 33 = .ok (.ifCond .le 7, 3) := by decide +kernel
theorem dX11_fails_36 : decode cX11_fails 36 = .ok (.iconst 1, 1) := by decide +kernel
theorem dX11_fails_37 : decode cX11_fails 37 = .ok (.goto 4, 3) := by decide +kernel
theorem dX11_fails_40 : decode cX11_fails 40 = .ok (.iconst 0, 1) := by decide +kernel
theorem dX11_fails_41 : decode cX11_fails 41 = .ok (.ireturn, 1) := by decide +kernel
theorem dX11_in_0 : decode cX11_in 0 = .ok (.iload_n 0, 1) := by decide +kernel
theorem dX11_in_1 : decode cX11_in 1 = .ok (.iload_n 1, 1) := by decide +kernel
theorem dX11_in_2 : decode cX11_in 2 = .ok (.if_icmp .lt 12, 3) := by decide +kernel
theorem dX11_in_5 : decode cX11_in 5 = .ok (.iload_n 0, 1) := by decide +kernel
theorem dX11_in_6 : decode cX11_in 6 = .ok (.iload_n 2, 1) := by decide +kernel
theorem dX11_in_7 : decode cX11_in 7 = .ok (.if_icmp .gt 7, 3) := by decide +kernel
theorem dX11_in_10 : decode cX11_in 10 = .ok (.iconst 1, 1) := by decide +kernel
theorem dX11_in_11 : decode cX11_in 11 = .ok (.goto 4, 3) := by decide +kernel
theorem dX11_in_14 : decode cX11_in 14 = .ok (.iconst 0, 1) := by decide +kernel
theorem dX11_in_15 : decode cX11_in 15 = .ok (.ireturn, 1) := by decide +kernel
theorem dX11_isProduct_0 : decode cX11_isProduct 0 = .ok (.iload_n 1, 1) := by decide +kernel
theorem dX11_isProduct_1 : decode cX11_isProduct 1 = .ok (.iconst 0, 1) := by decide +kernel
theorem dX11_isProduct_2 : decode cX11_isProduct 2 = .ok (.aload_n 0, 1) := by decide +kernel
theorem dX11_isProduct_3 : decode cX11_isProduct 3 = .ok (.getfield 13, 3) := by decide +kernel
theorem dX11_isProduct_6 : decode cX11_isProduct 6 = .ok (.iconst 1, 1) := by decide +kernel
theorem dX11_isProduct_7 : decode cX11_isProduct 7 = .ok (.iaload, 1) := by decide +kernel
theorem dX11_isProduct_8 : decode cX11_isProduct 8 = .ok (.iconst 1, 1) := by decide +kernel
theorem dX11_isProduct_9 : decode cX11_isProduct 9 = .ok (.isub, 1) := by decide +kernel
theorem dX11_isProduct_10 : decode cX11_isProduct 10 = .ok (.invokestatic 75, 3) := by decide +kernel
theorem dX11_isProduct_13 : decode cX11_isProduct 13 = .ok (.ireturn, 1) := by decide +kernel
theorem dX11_isBatch_0 : decode cX11_isBatch 0 = .ok (.iload_n 1, 1) := by decide +kernel
theorem dX11_isBatch_1 : decode cX11_isBatch 1 = .ok (.iconst 0, 1) := by decide +kernel
theorem dX11_isBatch_2 : decode cX11_isBatch 2 = .ok (.aload_n 0, 1) := by decide +kernel
theorem dX11_isBatch_3 : decode cX11_isBatch 3 = .ok (.getfield 13, 3) := by decide +kernel
theorem dX11_isBatch_6 : decode cX11_isBatch 6 = .ok (.iconst 2, 1) := by decide +kernel
theorem dX11_isBatch_7 : decode cX11_isBatch 7 = .ok (.iaload, 1) := by decide +kernel
theorem dX11_isBatch_8 : decode cX11_isBatch 8 = .ok (.iconst 1, 1) := by decide +kernel
theorem dX11_isBatch_9 : decode cX11_isBatch 9 = .ok (.isub, 1) := by decide +kernel
theorem dX11_isBatch_10 : decode cX11_isBatch 10 = .ok (.invokestatic 75, 3) := by decide +kernel
theorem dX11_isBatch_13 : decode cX11_isBatch 13 = .ok (.ireturn, 1) := by decide +kernel
theorem dX11_isReservation_0 : decode cX11_isReservation 0 = .ok (.iload_n 1, 1) := by decide +kernel
theorem dX11_isReservation_1 : decode cX11_isReservation 1 = .ok (.iconst 0, 1) := by decide +kernel
theorem dX11_isReservation_2 : decode cX11_isReservation 2 = .ok (.aload_n 0, 1) := by decide +kernel
theorem dX11_isReservation_3 : decode cX11_isReservation 3 = .ok (.getfield 13, 3) := by decide +kernel
theorem dX11_isReservation_6 : decode cX11_isReservation 6 = .ok (.iconst 3, 1) := by decide +kernel
theorem dX11_isReservation_7 : decode cX11_isReservation 7 = .ok (.iaload, 1) := by decide +kernel
theorem dX11_isReservation_8 : decode cX11_isReservation 8 = .ok (.iconst 1, 1) := by decide +kernel
theorem dX11_isReservation_9 : decode cX11_isReservation 9 = .ok (.isub, 1) := by decide +kernel
theorem dX11_isReservation_10 : decode cX11_isReservation 10 = .ok (.invokestatic 75, 3) := by decide +kernel
theorem dX11_isReservation_13 : decode cX11_isReservation 13 = .ok (.ireturn, 1) := by decide +kernel
theorem dX11_ofProduct_0 : decode cX11_ofProduct 0 = .ok (.aload_n 0, 1) := by decide +kernel
theorem dX11_ofProduct_1 : decode cX11_ofProduct 1 = .ok (.getfield 13, 3) := by decide +kernel
theorem dX11_ofProduct_4 : decode cX11_ofProduct 4 = .ok (.iconst 4, 1) := by decide +kernel
theorem dX11_ofProduct_5 : decode cX11_ofProduct 5 = .ok (.iload_n 1, 1) := by decide +kernel
theorem dX11_ofProduct_6 : decode cX11_ofProduct 6 = .ok (.bipush 12, 2) := by decide +kernel
theorem dX11_ofProduct_8 : decode cX11_ofProduct 8 = .ok (.imul, 1) := by decide +kernel
theorem dX11_ofProduct_9 : decode cX11_ofProduct 9 = .ok (.iadd, 1) := by decide +kernel
theorem dX11_ofProduct_10 : decode cX11_ofProduct 10 = .ok (.iload_n 2, 1) := by decide +kernel
theorem dX11_ofProduct_11 : decode cX11_ofProduct 11 = .ok (.iadd, 1) := by decide +kernel
theorem dX11_ofProduct_12 : decode cX11_ofProduct 12 = .ok (.iaload, 1) := by decide +kernel
theorem dX11_ofProduct_13 : decode cX11_ofProduct 13 = .ok (.ireturn, 1) := by decide +kernel
theorem dX11_note_0 : decode cX11_note 0 = .ok (.aload_n 0, 1) := by decide +kernel
theorem dX11_note_1 : decode cX11_note 1 = .ok (.getfield 13, 3) := by decide +kernel
theorem dX11_note_4 : decode cX11_note 4 = .ok (.iconst 4, 1) := by decide +kernel
theorem dX11_note_5 : decode cX11_note 5 = .ok (.iload_n 1, 1) := by decide +kernel
theorem dX11_note_6 : decode cX11_note 6 = .ok (.bipush 12, 2) := by decide +kernel
theorem dX11_note_8 : decode cX11_note 8 = .ok (.imul, 1) := by decide +kernel
theorem dX11_note_9 : decode cX11_note 9 = .ok (.iadd, 1) := by decide +kernel
theorem dX11_note_10 : decode cX11_note 10 = .ok (.iload_n 2, 1) := by decide +kernel
theorem dX11_note_11 : decode cX11_note 11 = .ok (.iadd, 1) := by decide +kernel
theorem dX11_note_12 : decode cX11_note 12 = .ok (.dup2, 1) := by decide +kernel
theorem dX11_note_13 : decode cX11_note 13 = .ok (.iaload, 1) := by decide +kernel
theorem dX11_note_14 : decode cX11_note 14 = .ok (.iload_n 3, 1) := by decide +kernel
theorem dX11_note_15 : decode cX11_note 15 = .ok (.iadd, 1) := by decide +kernel
theorem dX11_note_16 : decode cX11_note 16 = .ok (.iastore, 1) := by decide +kernel
theorem dX11_note_17 : decode cX11_note 17 = .ok (.return_, 1) := by decide +kernel
theorem dX11_ofBatch_0 : decode cX11_ofBatch 0 = .ok (.aload_n 0, 1) := by decide +kernel
theorem dX11_ofBatch_1 : decode cX11_ofBatch 1 = .ok (.getfield 13, 3) := by decide +kernel
theorem dX11_ofBatch_4 : decode cX11_ofBatch 4 = .ok (.bipush 100, 2) := by decide +kernel
theorem dX11_ofBatch_6 : decode cX11_ofBatch 6 = .ok (.iload_n 1, 1) := by decide +kernel
theorem dX11_ofBatch_7 : decode cX11_ofBatch 7 = .ok (.iconst 4, 1) := by decide +kernel
theorem dX11_ofBatch_8 : decode cX11_ofBatch 8 = .ok (.imul, 1) := by decide +kernel
theorem dX11_ofBatch_9 : decode cX11_ofBatch 9 = .ok (.iadd, 1) := by decide +kernel
theorem dX11_ofBatch_10 : decode cX11_ofBatch 10 = .ok (.iload_n 2, 1) := by decide +kernel
theorem dX11_ofBatch_11 : decode cX11_ofBatch 11 = .ok (.iadd, 1) := by decide +kernel
theorem dX11_ofBatch_12 : decode cX11_ofBatch 12 = .ok (.iaload, 1) := by decide +kernel
theorem dX11_ofBatch_13 : decode cX11_ofBatch 13 = .ok (.ireturn, 1) := by decide +kernel
theorem dX11_setBatch_0 : decode cX11_setBatch 0 = .ok (.aload_n 0, 1) := by decide +kernel
theorem dX11_setBatch_1 : decode cX11_setBatch 1 = .ok (.getfield 13, 3) := by decide +kernel
theorem dX11_setBatch_4 : decode cX11_setBatch 4 = .ok (.bipush 100, 2) := by decide +kernel
theorem dX11_setBatch_6 : decode cX11_setBatch 6 = .ok (.iload_n 1, 1) := by decide +kernel
theorem dX11_setBatch_7 : decode cX11_setBatch 7 = .ok (.iconst 4, 1) := by decide +kernel
theorem dX11_setBatch_8 : decode cX11_setBatch 8 = .ok (.imul, 1) := by decide +kernel
theorem dX11_setBatch_9 : decode cX11_setBatch 9 = .ok (.iadd, 1) := by decide +kernel
theorem dX11_setBatch_10 : decode cX11_setBatch 10 = .ok (.iload_n 2, 1) := by decide +kernel
theorem dX11_setBatch_11 : decode cX11_setBatch 11 = .ok (.iadd, 1) := by decide +kernel
theorem dX11_setBatch_12 : decode cX11_setBatch 12 = .ok (.iload_n 3, 1) := by decide +kernel
theorem dX11_setBatch_13 : decode cX11_setBatch 13 = .ok (.iastore, 1) := by decide +kernel
theorem dX11_setBatch_14 : decode cX11_setBatch 14 = .ok (.return_, 1) := by decide +kernel
theorem dX11_ofReservation_0 : decode cX11_ofReservation 0 = .ok (.aload_n 0, 1) := by decide +kernel
theorem dX11_ofReservation_1 : decode cX11_ofReservation 1 = .ok (.getfield 13, 3) := by decide +kernel
theorem dX11_ofReservation_4 : decode cX11_ofReservation 4 = .ok (.sipush 180, 3) := by decide +kernel
theorem dX11_ofReservation_7 : decode cX11_ofReservation 7 = .ok (.iload_n 1, 1) := by decide +kernel
theorem dX11_ofReservation_8 : decode cX11_ofReservation 8 = .ok (.bipush 24, 2) := by decide +kernel
theorem dX11_ofReservation_10 : decode cX11_ofReservation 10 = .ok (.imul, 1) := by decide +kernel
theorem dX11_ofReservation_11 : decode cX11_ofReservation 11 = .ok (.iadd, 1) := by decide +kernel
theorem dX11_ofReservation_12 : decode cX11_ofReservation 12 = .ok (.iload_n 2, 1) := by decide +kernel
theorem dX11_ofReservation_13 : decode cX11_ofReservation 13 = .ok (.iadd, 1) := by decide +kernel
theorem dX11_ofReservation_14 : decode cX11_ofReservation 14 = .ok (.iaload, 1) := by decide +kernel
theorem dX11_ofReservation_15 : decode cX11_ofReservation 15 = .ok (.ireturn, 1) := by decide +kernel
theorem dX11_setReservation_0 : decode cX11_setReservation 0 = .ok (.aload_n 0, 1) := by decide +kernel
theorem dX11_setReservation_1 : decode cX11_setReservation 1 = .ok (.getfield 13, 3) := by decide +kernel
theorem dX11_setReservation_4 : decode cX11_setReservation 4 = .ok (.sipush 180, 3) := by decide +kernel
theorem dX11_setReservation_7 : decode cX11_setReservation 7 = .ok (.iload_n 1, 1) := by decide +kernel
theorem dX11_setReservation_8 : decode cX11_setReservation 8 = .ok (.bipush 24, 2) := by decide +kernel
theorem dX11_setReservation_10 : decode cX11_setReservation 10 = .ok (.imul, 1) := by decide +kernel
theorem dX11_setReservation_11 : decode cX11_setReservation 11 = .ok (.iadd, 1) := by decide +kernel
theorem dX11_setReservation_12 : decode cX11_setReservation 12 = .ok (.iload_n 2, 1) := by decide +kernel
theorem dX11_setReservation_13 : decode cX11_setReservation 13 = .ok (.iadd, 1) := by decide +kernel
theorem dX11_setReservation_14 : decode cX11_setReservation 14 = .ok (.iload_n 3, 1) := by decide +kernel
theorem dX11_setReservation_15 : decode cX11_setReservation 15 = .ok (.iastore, 1) := by decide +kernel
theorem dX11_setReservation_16 : decode cX11_setReservation 16 = .ok (.return_, 1) := by decide +kernel
theorem dX11_copyBlock_0 : decode cX11_copyBlock 0 = .ok (.iconst 0, 1) := by decide +kernel
theorem dX11_copyBlock_1 : decode cX11_copyBlock 1 = .ok (.istore_n 3, 1) := by decide +kernel
theorem dX11_copyBlock_2 : decode cX11_copyBlock 2 = .ok (.iload_n 3, 1) := by decide +kernel
theorem dX11_copyBlock_3 : decode cX11_copyBlock 3 = .ok (.sipush 420, 3) := by decide +kernel
theorem dX11_copyBlock_6 : decode cX11_copyBlock 6 = .ok (.if_icmp .ge 33, 3) := by decide +kernel
theorem dX11_copyBlock_9 : decode cX11_copyBlock 9 = .ok (.aload_n 0, 1) := by decide +kernel
theorem dX11_copyBlock_10 : decode cX11_copyBlock 10 = .ok (.getfield 13, 3) := by decide +kernel
theorem dX11_copyBlock_13 : decode cX11_copyBlock 13 = .ok (.iload_n 2, 1) := by decide +kernel
theorem dX11_copyBlock_14 : decode cX11_copyBlock 14 = .ok (.sipush 420, 3) := by decide +kernel
theorem dX11_copyBlock_17 : decode cX11_copyBlock 17 = .ok (.imul, 1) := by decide +kernel
theorem dX11_copyBlock_18 : decode cX11_copyBlock 18 = .ok (.iload_n 3, 1) := by decide +kernel
theorem dX11_copyBlock_19 : decode cX11_copyBlock 19 = .ok (.iadd, 1) := by decide +kernel
theorem dX11_copyBlock_20 : decode cX11_copyBlock 20 = .ok (.aload_n 0, 1) := by decide +kernel
theorem dX11_copyBlock_21 : decode cX11_copyBlock 21 = .ok (.getfield 13, 3) := by decide +kernel
theorem dX11_copyBlock_24 : decode cX11_copyBlock 24 = .ok (.iload_n 1, 1) := by decide +kernel
theorem dX11_copyBlock_25 : decode cX11_copyBlock 25 = .ok (.sipush 420, 3) := by decide +kernel
theorem dX11_copyBlock_28 : decode cX11_copyBlock 28 = .ok (.imul, 1) := by decide +kernel
theorem dX11_copyBlock_29 : decode cX11_copyBlock 29 = .ok (.iload_n 3, 1) := by decide +kernel
theorem dX11_copyBlock_30 : decode cX11_copyBlock 30 = .ok (.iadd, 1) := by decide +kernel
theorem dX11_copyBlock_31 : decode cX11_copyBlock 31 = .ok (.iaload, 1) := by decide +kernel
theorem dX11_copyBlock_32 : decode cX11_copyBlock 32 = .ok (.iastore, 1) := by decide +kernel
theorem dX11_copyBlock_33 : decode cX11_copyBlock 33 = .ok (.iinc 3 1, 3) := by decide +kernel
theorem dX11_copyBlock_36 : decode cX11_copyBlock 36 = .ok (.goto (-34), 3) := by decide +kernel
theorem dX11_copyBlock_39 : decode cX11_copyBlock 39 = .ok (.return_, 1) := by decide +kernel
theorem dX11_remember_0 : decode cX11_remember 0 = .ok (.aload_n 0, 1) := by decide +kernel
theorem dX11_remember_1 : decode cX11_remember 1 = .ok (.getfield 21, 3) := by decide +kernel
theorem dX11_remember_4 : decode cX11_remember 4 = .ok (.bipush 6, 2) := by decide +kernel
theorem dX11_remember_6 : decode cX11_remember 6 = .ok (.if_icmp .ne 35, 3) := by decide +kernel
theorem dX11_remember_9 : decode cX11_remember 9 = .ok (.iconst 1, 1) := by decide +kernel
theorem dX11_remember_10 : decode cX11_remember 10 = .ok (.istore_n 2, 1) := by decide +kernel
theorem dX11_remember_11 : decode cX11_remember 11 = .ok (.iload_n 2, 1) := by decide +kernel
theorem dX11_remember_12 : decode cX11_remember 12 = .ok (.bipush 6, 2) := by decide +kernel
theorem dX11_remember_14 : decode cX11_remember 14 = .ok (.if_icmp .ge 17, 3) := by decide +kernel
theorem dX11_remember_17 : decode cX11_remember 17 = .ok (.aload_n 0, 1) := by decide +kernel
theorem dX11_remember_18 : decode cX11_remember 18 = .ok (.iload_n 2, 1) := by decide +kernel
theorem dX11_remember_19 : decode cX11_remember 19 = .ok (.iconst 1, 1) := by decide +kernel
theorem dX11_remember_20 : decode cX11_remember 20 = .ok (.iadd, 1) := by decide +kernel
theorem dX11_remember_21 : decode cX11_remember 21 = .ok (.iload_n 2, 1) := by decide +kernel
theorem dX11_remember_22 : decode cX11_remember 22 = .ok (.invokevirtual 79, 3) := by decide +kernel
theorem dX11_remember_25 : decode cX11_remember 25 = .ok (.iinc 2 1, 3) := by decide +kernel
theorem dX11_remember_28 : decode cX11_remember 28 = .ok (.goto (-17), 3) := by decide +kernel
theorem dX11_remember_31 : decode cX11_remember 31 = .ok (.aload_n 0, 1) := by decide +kernel
theorem dX11_remember_32 : decode cX11_remember 32 = .ok (.dup, 1) := by decide +kernel
theorem dX11_remember_33 : decode cX11_remember 33 = .ok (.getfield 21, 3) := by decide +kernel
theorem dX11_remember_36 : decode cX11_remember 36 = .ok (.iconst 1, 1) := by decide +kernel
theorem dX11_remember_37 : decode cX11_remember 37 = .ok (.isub, 1) := by decide +kernel
theorem dX11_remember_38 : decode cX11_remember 38 = .ok (.putfield 21, 3) := by decide +kernel
theorem dX11_remember_41 : decode cX11_remember 41 = .ok (.aload_n 0, 1) := by decide +kernel
theorem dX11_remember_42 : decode cX11_remember 42 = .ok (.dup, 1) := by decide +kernel
theorem dX11_remember_43 : decode cX11_remember 43 = .ok (.getfield 21, 3) := by decide +kernel
theorem dX11_remember_46 : decode cX11_remember 46 = .ok (.iconst 1, 1) := by decide +kernel
theorem dX11_remember_47 : decode cX11_remember 47 = .ok (.iadd, 1) := by decide +kernel
theorem dX11_remember_48 : decode cX11_remember 48 = .ok (.putfield 21, 3) := by decide +kernel
theorem dX11_remember_51 : decode cX11_remember 51 = .ok (.aload_n 0, 1) := by decide +kernel
theorem dX11_remember_52 : decode cX11_remember 52 = .ok (.iload_n 1, 1) := by decide +kernel
theorem dX11_remember_53 : decode cX11_remember 53 = .ok (.aload_n 0, 1) := by decide +kernel
theorem dX11_remember_54 : decode cX11_remember 54 = .ok (.getfield 21, 3) := by decide +kernel
theorem dX11_remember_57 : decode cX11_remember 57 = .ok (.invokevirtual 79, 3) := by decide +kernel
theorem dX11_remember_60 : decode cX11_remember 60 = .ok (.return_, 1) := by decide +kernel
theorem dX11_isOpenOne_0 : decode cX11_isOpenOne 0 = .ok (.aload_n 0, 1) := by decide +kernel
theorem dX11_isOpenOne_1 : decode cX11_isOpenOne 1 = .ok (.iload_n 1, 1) := by decide +kernel
theorem dX11_isOpenOne_2 : decode cX11_isOpenOne 2 = .ok (.iconst 3, 1) := by decide +kernel
theorem dX11_isOpenOne_3 : decode cX11_isOpenOne 3 = .ok (.invokevirtual 83, 3) := by decide +kernel
theorem dX11_isOpenOne_6 : decode cX11_isOpenOne 6 = .ok (.ifCond .ne 7, 3) := by decide +kernel
theorem dX11_isOpenOne_9 : decode cX11_isOpenOne 9 = .ok (.iconst 1, 1) := by decide +kernel
theorem dX11_isOpenOne_10 : decode cX11_isOpenOne 10 = .ok (.goto 4, 3) := by decide +kernel
theorem dX11_isOpenOne_13 : decode cX11_isOpenOne 13 = .ok (.iconst 0, 1) := by decide +kernel
theorem dX11_isOpenOne_14 : decode cX11_isOpenOne 14 = .ok (.ireturn, 1) := by decide +kernel
theorem dX11_held_0 : decode cX11_held 0 = .ok (.iconst 0, 1) := by decide +kernel
theorem dX11_held_1 : decode cX11_held 1 = .ok (.istore_n 2, 1) := by decide +kernel
theorem dX11_held_2 : decode cX11_held 2 = .ok (.iconst 0, 1) := by decide +kernel
theorem dX11_held_3 : decode cX11_held 3 = .ok (.istore_n 3, 1) := by decide +kernel
theorem dX11_held_4 : decode cX11_held 4 = .ok (.iload_n 3, 1) := by decide +kernel
theorem dX11_held_5 : decode cX11_held 5 = .ok (.aload_n 0, 1) := by decide +kernel
theorem dX11_held_6 : decode cX11_held 6 = .ok (.getfield 13, 3) := by decide +kernel
theorem dX11_held_9 : decode cX11_held 9 = .ok (.iconst 3, 1) := by decide +kernel
theorem dX11_held_10 : decode cX11_held 10 = .ok (.iaload, 1) := by decide +kernel
theorem dX11_held_11 : decode cX11_held 11 = .ok (.if_icmp .ge 32, 3) := by decide +kernel
theorem dX11_held_14 : decode cX11_held 14 = .ok (.iload_n 2, 1) := by decide +kernel
theorem dX11_held_15 : decode cX11_held 15 = .ok (.aload_n 0, 1) := by decide +kernel
theorem dX11_held_16 : decode cX11_held 16 = .ok (.iload_n 3, 1) := by decide +kernel
theorem dX11_held_17 : decode cX11_held 17 = .ok (.invokevirtual 87, 3) := by decide +kernel
theorem dX11_held_20 : decode cX11_held 20 = .ok (.ifCond .eq 14, 3) := by decide +kernel
theorem dX11_held_23 : decode cX11_held 23 = .ok (.aload_n 0, 1) := by decide +kernel
theorem dX11_held_24 : decode cX11_held 24 = .ok (.iload_n 3, 1) := by decide +kernel
theorem dX11_held_25 : decode cX11_held 25 = .ok (.iconst 4, 1) := by decide +kernel
theorem dX11_held_26 : decode cX11_held 26 = .ok (.iload_n 1, 1) := by decide +kernel
theorem dX11_held_27 : decode cX11_held 27 = .ok (.iadd, 1) := by decide +kernel
theorem dX11_held_28 : decode cX11_held 28 = .ok (.invokevirtual 83, 3) := by decide +kernel
theorem dX11_held_31 : decode cX11_held 31 = .ok (.goto 4, 3) := by decide +kernel
theorem dX11_held_34 : decode cX11_held 34 = .ok (.iconst 0, 1) := by decide +kernel
theorem dX11_held_35 : decode cX11_held 35 = .ok (.iadd, 1) := by decide +kernel
theorem dX11_held_36 : decode cX11_held 36 = .ok (.istore_n 2, 1) := by decide +kernel
theorem dX11_held_37 : decode cX11_held 37 = .ok (.iinc 3 1, 3) := by decide +kernel
theorem dX11_held_40 : decode cX11_held 40 = .ok (.goto (-36), 3) := by decide +kernel
theorem dX11_held_43 : decode cX11_held 43 = .ok (.iload_n 2, 1) := by decide +kernel
theorem dX11_held_44 : decode cX11_held 44 = .ok (.ireturn, 1) := by decide +kernel
theorem dX11_free_0 : decode cX11_free 0 = .ok (.aload_n 0, 1) := by decide +kernel
theorem dX11_free_1 : decode cX11_free 1 = .ok (.iload_n 1, 1) := by decide +kernel
theorem dX11_free_2 : decode cX11_free 2 = .ok (.iconst 1, 1) := by decide +kernel
theorem dX11_free_3 : decode cX11_free 3 = .ok (.invokevirtual 91, 3) := by decide +kernel
theorem dX11_free_6 : decode cX11_free 6 = .ok (.aload_n 0, 1) := by decide +kernel
theorem dX11_free_7 : decode cX11_free 7 = .ok (.iload_n 1, 1) := by decide +kernel
theorem dX11_free_8 : decode cX11_free 8 = .ok (.invokevirtual 94, 3) := by decide +kernel
theorem dX11_free_11 : decode cX11_free 11 = .ok (.isub, 1) := by decide +kernel
theorem dX11_free_12 : decode cX11_free 12 = .ok (.ireturn, 1) := by decide +kernel
theorem dX11_isPast_0 : decode cX11_isPast 0 = .ok (.aload_n 0, 1) := by decide +kernel
theorem dX11_isPast_1 : decode cX11_isPast 1 = .ok (.iload_n 1, 1) := by decide +kernel
theorem dX11_isPast_2 : decode cX11_isPast 2 = .ok (.iconst 2, 1) := by decide +kernel
theorem dX11_isPast_3 : decode cX11_isPast 3 = .ok (.invokevirtual 91, 3) := by decide +kernel
theorem dX11_isPast_6 : decode cX11_isPast 6 = .ok (.aload_n 0, 1) := by decide +kernel
theorem dX11_isPast_7 : decode cX11_isPast 7 = .ok (.getfield 13, 3) := by decide +kernel
theorem dX11_isPast_10 : decode cX11_isPast 10 = .ok (.iconst 0, 1) := by decide +kernel
theorem dX11_isPast_11 : decode cX11_isPast 11 = .ok (.iaload, 1) := by decide +kernel
theorem dX11_isPast_12 : decode cX11_isPast 12 = .ok (.if_icmp .ge 7, 3) := by decide +kernel
theorem dX11_isPast_15 : decode cX11_isPast 15 = .ok (.iconst 1, 1) := by decide +kernel
theorem dX11_isPast_16 : decode cX11_isPast 16 = .ok (.goto 4, 3) := by decide +kernel
theorem dX11_isPast_19 : decode cX11_isPast 19 = .ok (.iconst 0, 1) := by decide +kernel
theorem dX11_isPast_20 : decode cX11_isPast 20 = .ok (.ireturn, 1) := by decide +kernel
theorem dX11_isOf_0 : decode cX11_isOf 0 = .ok (.aload_n 0, 1) := by decide +kernel
theorem dX11_isOf_1 : decode cX11_isOf 1 = .ok (.iload_n 1, 1) := by decide +kernel
theorem dX11_isOf_2 : decode cX11_isOf 2 = .ok (.iconst 0, 1) := by decide +kernel
theorem dX11_isOf_3 : decode cX11_isOf 3 = .ok (.invokevirtual 91, 3) := by decide +kernel
theorem dX11_isOf_6 : decode cX11_isOf 6 = .ok (.iload_n 2, 1) := by decide +kernel
theorem dX11_isOf_7 : decode cX11_isOf 7 = .ok (.if_icmp .ne 7, 3) := by decide +kernel
theorem dX11_isOf_10 : decode cX11_isOf 10 = .ok (.iconst 1, 1) := by decide +kernel
theorem dX11_isOf_11 : decode cX11_isOf 11 = .ok (.goto 4, 3) := by decide +kernel
theorem dX11_isOf_14 : decode cX11_isOf 14 = .ok (.iconst 0, 1) := by decide +kernel
theorem dX11_isOf_15 : decode cX11_isOf 15 = .ok (.ireturn, 1) := by decide +kernel
theorem dX11_canTake_0 : decode cX11_canTake 0 = .ok (.aload_n 0, 1) := by decide +kernel
theorem dX11_canTake_1 : decode cX11_canTake 1 = .ok (.iload_n 1, 1) := by decide +kernel
theorem dX11_canTake_2 : decode cX11_canTake 2 = .ok (.iload_n 2, 1) := by decide +kernel
theorem dX11_canTake_3 : decode cX11_canTake 3 = .ok (.invokevirtual 98, 3) := by decide +kernel
theorem dX11_canTake_6 : decode cX11_canTake 6 = .ok (.ifCond .eq 25, 3) := by decide +kernel
theorem dX11_canTake_9 : decode cX11_canTake 9 = .ok (.aload_n 0, 1) := by decide +kernel
theorem dX11_canTake_10 : decode cX11_canTake 10 = .ok (.iload_n 1, 1) := by decide +kernel
theorem dX11_canTake_11 : decode cX11_canTake 11 = .ok (.iconst 2, 1) := by decide +kernel
theorem dX11_canTake_12 : decode cX11_canTake 12 = .ok (.invokevirtual 91, 3) := by decide +kernel
theorem dX11_canTake_15 : decode cX11_canTake 15 = .ok (.iload_n 3, 1) := by decide +kernel
theorem dX11_canTake_16 : decode cX11_canTake 16 = .ok (.if_icmp .lt 15, 3) := by decide +kernel
theorem dX11_canTake_19 : decode cX11_canTake 19 = .ok (.aload_n 0, 1) := by decide +kernel
theorem dX11_canTake_20 : decode cX11_canTake 20 = .ok (.iload_n 1, 1) := by decide +kernel
theorem dX11_canTake_21 : decode cX11_canTake 21 = .ok (.invokevirtual 102, 3) := by decide +kernel
theorem dX11_canTake_24 : decode cX11_canTake 24 = .ok (.ifCond .le 7, 3) := by decide +kernel
theorem dX11_canTake_27 : decode cX11_canTake 27 = .ok (.iconst 1, 1) := by decide +kernel
theorem dX11_canTake_28 : decode cX11_canTake 28 = .ok (.goto 4, 3) := by decide +kernel
theorem dX11_canTake_31 : decode cX11_canTake 31 = .ok (.iconst 0, 1) := by decide +kernel
theorem dX11_canTake_32 : decode cX11_canTake 32 = .ok (.ireturn, 1) := by decide +kernel
theorem dX11_available_0 : decode cX11_available 0 = .ok (.iconst 0, 1) := by decide +kernel
theorem dX11_available_1 : decode cX11_available 1 = .ok (.istore_n 3, 1) := by decide +kernel
theorem dX11_available_2 : decode cX11_available 2 = .ok (.iconst 0, 1) := by decide +kernel
theorem dX11_available_3 : decode cX11_available 3 = .ok (.istore 4, 2) := by decide +kernel
theorem dX11_available_5 : decode cX11_available 5 = .ok (.iload 4, 2) := by decide +kernel
theorem dX11_available_7 : decode cX11_available 7 = .ok (.aload_n 0, 1) := by decide +kernel
theorem dX11_available_8 : decode cX11_available 8 = .ok (.getfield 13, 3) := by decide +kernel
theorem dX11_available_11 : decode cX11_available 11 = .ok (.iconst 2, 1) := by decide +kernel
theorem dX11_available_12 : decode cX11_available 12 = .ok (.iaload, 1) := by decide +kernel
theorem dX11_available_13 : decode cX11_available 13 = .ok (.if_icmp .ge 33, 3) := by decide +kernel
theorem dX11_available_16 : decode cX11_available 16 = .ok (.iload_n 3, 1) := by decide +kernel
theorem dX11_available_17 : decode cX11_available 17 = .ok (.aload_n 0, 1) := by decide +kernel
theorem dX11_available_18 : decode cX11_available 18 = .ok (.iload 4, 2) := by decide +kernel
theorem dX11_available_20 : decode cX11_available 20 = .ok (.iload_n 1, 1) := by decide +kernel
theorem dX11_available_21 : decode cX11_available 21 = .ok (.iload_n 2, 1) := by decide +kernel
theorem dX11_available_22 : decode cX11_available 22 = .ok (.invokevirtual 105, 3) := by decide +kernel
theorem dX11_available_25 : decode cX11_available 25 = .ok (.ifCond .eq 12, 3) := by decide +kernel
theorem dX11_available_28 : decode cX11_available 28 = .ok (.aload_n 0, 1) := by decide +kernel
theorem dX11_available_29 : decode cX11_available 29 = .ok (.iload 4, 2) := by decide +kernel
theorem dX11_available_31 : decode cX11_available 31 = .ok (.invokevirtual 102, 3) := by decide +kernel
theorem dX11_available_34 : decode cX11_available 34 = .ok (.goto 4, 3) := by decide +kernel
theorem dX11_available_37 : decode cX11_available 37 = .ok (.iconst 0, 1) := by decide +kernel
theorem dX11_available_38 : decode cX11_available 38 = .ok (.iadd, 1) := by decide +kernel
theorem dX11_available_39 : decode cX11_available 39 = .ok (.istore_n 3, 1) := by decide +kernel
theorem dX11_available_40 : decode cX11_available 40 = .ok (.iinc 4 1, 3) := by decide +kernel
theorem dX11_available_43 : decode cX11_available 43 = .ok (.goto (-38), 3) := by decide +kernel
theorem dX11_available_46 : decode cX11_available 46 = .ok (.iload_n 3, 1) := by decide +kernel
theorem dX11_available_47 : decode cX11_available 47 = .ok (.ireturn, 1) := by decide +kernel
theorem dX11_firstBatch_0 : decode cX11_firstBatch 0 = .ok (.iconst (-1), 1) := by decide +kernel
theorem dX11_firstBatch_1 : decode cX11_firstBatch 1 = .ok (.istore_n 3, 1) := by decide +kernel
theorem dX11_firstBatch_2 : decode cX11_firstBatch 2 = .ok (.iconst 0, 1) := by decide +kernel
theorem dX11_firstBatch_3 : decode cX11_firstBatch 3 = .ok (.istore 4, 2) := by decide +kernel
theorem dX11_firstBatch_5 : decode cX11_firstBatch 5 = .ok (.iload 4, 2) := by decide +kernel
theorem dX11_firstBatch_7 : decode cX11_firstBatch 7 = .ok (.aload_n 0, 1) := by decide +kernel
theorem dX11_firstBatch_8 : decode cX11_firstBatch 8 = .ok (.getfield 13, 3) := by decide +kernel
theorem dX11_firstBatch_11 : decode cX11_firstBatch 11 = .ok (.iconst 2, 1) := by decide +kernel
theorem dX11_firstBatch_12 : decode cX11_firstBatch 12 = .ok (.iaload, 1) := by decide +kernel
theorem dX11_firstBatch_13 : decode cX11_firstBatch 13 = .ok (.if_icmp .ge 44, 3) := by decide +kernel
theorem dX11_firstBatch_16 : decode cX11_firstBatch 16 = .ok (.aload_n 0, 1) := by decide +kernel
theorem dX11_firstBatch_17 : decode cX11_firstBatch 17 = .ok (.iload 4, 2) := by decide +kernel
theorem dX11_firstBatch_19 : decode cX11_firstBatch 19 = .ok (.iload_n 1, 1) := by decide +kernel
theorem dX11_firstBatch_20 : decode cX11_firstBatch 20 = .ok (.iload_n 2, 1) := by decide +kernel
theorem dX11_firstBatch_21 : decode cX11_firstBatch 21 = .ok (.invokevirtual 105, 3) := by decide +kernel
theorem dX11_firstBatch_24 : decode cX11_firstBatch 24 = .ok (.ifCond .eq 27, 3) := by decide +kernel
theorem dX11_firstBatch_27 : decode cX11_firstBatch 27 = .ok (.iload_n 3, 1) := by decide +kernel
theorem dX11_firstBatch_28 : decode cX11_firstBatch 28 = .ok (.iconst (-1), 1) := by decide +kernel
theorem dX11_firstBatch_29 : decode cX11_firstBatch 29 = .ok (.if_icmp .eq 19, 3) := by decide +kernel
theorem dX11_firstBatch_32 : decode cX11_firstBatch 32 = .ok (.aload_n 0, 1) := by decide +kernel
theorem dX11_firstBatch_33 : decode cX11_firstBatch 33 = .ok (.iload 4, 2) := by decide +kernel
theorem dX11_firstBatch_35 : decode cX11_firstBatch 35 = .ok (.iconst 2, 1) := by decide +kernel
theorem dX11_firstBatch_36 : decode cX11_firstBatch 36 = .ok (.invokevirtual 91, 3) := by decide +kernel
theorem dX11_firstBatch_39 : decode cX11_firstBatch 39 = .ok (.aload_n 0, 1) := by decide +kernel
theorem dX11_firstBatch_40 : decode cX11_firstBatch 40 = .ok (.iload_n 3, 1) := by decide +kernel
theorem dX11_firstBatch_41 : decode cX11_firstBatch 41 = .ok (.iconst 2, 1) := by decide +kernel
theorem dX11_firstBatch_42 : decode cX11_firstBatch 42 = .ok (.invokevirtual 91, 3) := by decide +kernel
theorem dX11_firstBatch_45 : decode cX11_firstBatch 45 = .ok (.if_icmp .ge 6, 3) := by decide +kernel
theorem dX11_firstBatch_48 : decode cX11_firstBatch 48 = .ok (.iload 4, 2) := by decide +kernel
theorem dX11_firstBatch_50 : decode cX11_firstBatch 50 = .ok (.istore_n 3, 1) := by decide +kernel
theorem dX11_firstBatch_51 : decode cX11_firstBatch 51 = .ok (.iinc 4 1, 3) := by decide +kernel
theorem dX11_firstBatch_54 : decode cX11_firstBatch 54 = .ok (.goto (-49), 3) := by decide +kernel
theorem dX11_firstBatch_57 : decode cX11_firstBatch 57 = .ok (.iload_n 3, 1) := by decide +kernel
theorem dX11_firstBatch_58 : decode cX11_firstBatch 58 = .ok (.ireturn, 1) := by decide +kernel
theorem dX11_takeOut_0 : decode cX11_takeOut 0 = .ok (.iconst 0, 1) := by decide +kernel
theorem dX11_takeOut_1 : decode cX11_takeOut 1 = .ok (.istore 4, 2) := by decide +kernel
theorem dX11_takeOut_3 : decode cX11_takeOut 3 = .ok (.iload_n 2, 1) := by decide +kernel
theorem dX11_takeOut_4 : decode cX11_takeOut 4 = .ok (.istore 5, 2) := by decide +kernel
theorem dX11_takeOut_6 : decode cX11_takeOut 6 = .ok (.aload_n 0, 1) := by decide +kernel
theorem dX11_takeOut_7 : decode cX11_takeOut 7 = .ok (.iload_n 1, 1) := by decide +kernel
theorem dX11_takeOut_8 : decode cX11_takeOut 8 = .ok (.iload_n 3, 1) := by decide +kernel
theorem dX11_takeOut_9 : decode cX11_takeOut 9 = .ok (.invokevirtual 108, 3) := by decide +kernel
theorem dX11_takeOut_12 : decode cX11_takeOut 12 = .ok (.istore 6, 2) := by decide +kernel
theorem dX11_takeOut_14 : decode cX11_takeOut 14 = .ok (.iload 5, 2) := by decide +kernel
theorem dX11_takeOut_16 : decode cX11_takeOut 16 = .ok (.ifCond .le 92, 3) := by decide +kernel
theorem dX11_takeOut_19 : decode cX11_takeOut 19 = .ok (.iload 6, 2) := by decide +kernel
theorem dX11_takeOut_21 : decode cX11_takeOut 21 = .ok (.iconst (-1), 1) := by decide +kernel
theorem dX11_takeOut_22 : decode cX11_takeOut 22 = .ok (.if_icmp .eq 86, 3) := by decide +kernel
theorem dX11_takeOut_25 : decode cX11_takeOut 25 = .ok (.aload_n 0, 1) := by decide +kernel
theorem dX11_takeOut_26 : decode cX11_takeOut 26 = .ok (.iload 6, 2) := by decide +kernel
theorem dX11_takeOut_28 : decode cX11_takeOut 28 = .ok (.invokevirtual 102, 3) := by decide +kernel
theorem dX11_takeOut_31 : decode cX11_takeOut 31 = .ok (.iload 5, 2) := by decide +kernel
theorem dX11_takeOut_33 : decode cX11_takeOut 33 = .ok (.if_icmp .ge 12, 3) := by decide +kernel
theorem dX11_takeOut_36 : decode cX11_takeOut 36 = .ok (.aload_n 0, 1) := by decide +kernel
theorem dX11_takeOut_37 : decode cX11_takeOut 37 = .ok (.iload 6, 2) := by decide +kernel
theorem dX11_takeOut_39 : decode cX11_takeOut 39 = .ok (.invokevirtual 102, 3) := by decide +kernel
theorem dX11_takeOut_42 : decode cX11_takeOut 42 = .ok (.goto 5, 3) := by decide +kernel
theorem dX11_takeOut_45 : decode cX11_takeOut 45 = .ok (.iload 5, 2) := by decide +kernel
theorem dX11_takeOut_47 : decode cX11_takeOut 47 = .ok (.istore 7, 2) := by decide +kernel
theorem dX11_takeOut_49 : decode cX11_takeOut 49 = .ok (.aload_n 0, 1) := by decide +kernel
theorem dX11_takeOut_50 : decode cX11_takeOut 50 = .ok (.iload 6, 2) := by decide +kernel
theorem dX11_takeOut_52 : decode cX11_takeOut 52 = .ok (.iconst 1, 1) := by decide +kernel
theorem dX11_takeOut_53 : decode cX11_takeOut 53 = .ok (.aload_n 0, 1) := by decide +kernel
theorem dX11_takeOut_54 : decode cX11_takeOut 54 = .ok (.iload 6, 2) := by decide +kernel
theorem dX11_takeOut_56 : decode cX11_takeOut 56 = .ok (.iconst 1, 1) := by decide +kernel
theorem dX11_takeOut_57 : decode cX11_takeOut 57 = .ok (.invokevirtual 91, 3) := by decide +kernel
theorem dX11_takeOut_60 : decode cX11_takeOut 60 = .ok (.iload 7, 2) := by decide +kernel
theorem dX11_takeOut_62 : decode cX11_takeOut 62 = .ok (.isub, 1) := by decide +kernel
theorem dX11_takeOut_63 : decode cX11_takeOut 63 = .ok (.invokevirtual 111, 3) := by decide +kernel
theorem dX11_takeOut_66 : decode cX11_takeOut 66 = .ok (.aload_n 0, 1) := by decide +kernel
theorem dX11_takeOut_67 : decode cX11_takeOut 67 = .ok (.iload_n 1, 1) := by decide +kernel
theorem dX11_takeOut_68 : decode cX11_takeOut 68 = .ok (.bipush 9, 2) := by decide +kernel
theorem dX11_takeOut_70 : decode cX11_takeOut 70 = .ok (.iload 7, 2) := by decide +kernel
theorem dX11_takeOut_72 : decode cX11_takeOut 72 = .ok (.invokevirtual 115, 3) := by decide +kernel
theorem dX11_takeOut_75 : decode cX11_takeOut 75 = .ok (.iload 4, 2) := by decide +kernel
theorem dX11_takeOut_77 : decode cX11_takeOut 77 = .ok (.iload 7, 2) := by decide +kernel
theorem dX11_takeOut_79 : decode cX11_takeOut 79 = .ok (.aload_n 0, 1) := by decide +kernel
theorem dX11_takeOut_80 : decode cX11_takeOut 80 = .ok (.iload 6, 2) := by decide +kernel
theorem dX11_takeOut_82 : decode cX11_takeOut 82 = .ok (.iconst 3, 1) := by decide +kernel
theorem dX11_takeOut_83 : decode cX11_takeOut 83 = .ok (.invokevirtual 91, 3) := by decide +kernel
theorem dX11_takeOut_86 : decode cX11_takeOut 86 = .ok (.imul, 1) := by decide +kernel
theorem dX11_takeOut_87 : decode cX11_takeOut 87 = .ok (.iadd, 1) := by decide +kernel
theorem dX11_takeOut_88 : decode cX11_takeOut 88 = .ok (.istore 4, 2) := by decide +kernel
theorem dX11_takeOut_90 : decode cX11_takeOut 90 = .ok (.iload 5, 2) := by decide +kernel
theorem dX11_takeOut_92 : decode cX11_takeOut 92 = .ok (.iload 7, 2) := by decide +kernel
theorem dX11_takeOut_94 : decode cX11_takeOut 94 = .ok (.isub, 1) := by decide +kernel
theorem dX11_takeOut_95 : decode cX11_takeOut 95 = .ok (.istore 5, 2) := by decide +kernel
theorem dX11_takeOut_97 : decode cX11_takeOut 97 = .ok (.aload_n 0, 1) := by decide +kernel
theorem dX11_takeOut_98 : decode cX11_takeOut 98 = .ok (.iload_n 1, 1) := by decide +kernel
theorem dX11_takeOut_99 : decode cX11_takeOut 99 = .ok (.iload_n 3, 1) := by decide +kernel
theorem dX11_takeOut_100 : decode cX11_takeOut 100 = .ok (.invokevirtual 108, 3) := by decide +kernel
theorem dX11_takeOut_103 : decode cX11_takeOut 103 = .ok (.istore 6, 2) := by decide +kernel
theorem dX11_takeOut_105 : decode cX11_takeOut 105 = .ok (.goto (-91), 3) := by decide +kernel
theorem dX11_takeOut_108 : decode cX11_takeOut 108 = .ok (.iload 4, 2) := by decide +kernel
theorem dX11_takeOut_110 : decode cX11_takeOut 110 = .ok (.ireturn, 1) := by decide +kernel
theorem dX11_allocate_0 : decode cX11_allocate 0 = .ok (.aload_n 0, 1) := by decide +kernel
theorem dX11_allocate_1 : decode cX11_allocate 1 = .ok (.iload_n 1, 1) := by decide +kernel
theorem dX11_allocate_2 : decode cX11_allocate 2 = .ok (.iconst 0, 1) := by decide +kernel
theorem dX11_allocate_3 : decode cX11_allocate 3 = .ok (.invokevirtual 83, 3) := by decide +kernel
theorem dX11_allocate_6 : decode cX11_allocate 6 = .ok (.istore 4, 2) := by decide +kernel
theorem dX11_allocate_8 : decode cX11_allocate 8 = .ok (.iload_n 2, 1) := by decide +kernel
theorem dX11_allocate_9 : decode cX11_allocate 9 = .ok (.istore 5, 2) := by decide +kernel
theorem dX11_allocate_11 : decode cX11_allocate 11 = .ok (.aload_n 0, 1) := by decide +kernel
theorem dX11_allocate_12 : decode cX11_allocate 12 = .ok (.iload 4, 2) := by decide +kernel
theorem dX11_allocate_14 : decode cX11_allocate 14 = .ok (.iload_n 3, 1) := by decide +kernel
theorem dX11_allocate_15 : decode cX11_allocate 15 = .ok (.invokevirtual 108, 3) := by decide +kernel
theorem dX11_allocate_18 : decode cX11_allocate 18 = .ok (.istore 6, 2) := by decide +kernel
theorem dX11_allocate_20 : decode cX11_allocate 20 = .ok (.iload 5, 2) := by decide +kernel
theorem dX11_allocate_22 : decode cX11_allocate 22 = .ok (.ifCond .le 73, 3) := by decide +kernel
theorem dX11_allocate_25 : decode cX11_allocate 25 = .ok (.iload 6, 2) := by decide +kernel
theorem dX11_allocate_27 : decode cX11_allocate 27 = .ok (.iconst (-1), 1) := by decide +kernel
theorem dX11_allocate_28 : decode cX11_allocate 28 = .ok (.if_icmp .eq 67, 3) := by decide +kernel
theorem dX11_allocate_31 : decode cX11_allocate 31 = .ok (.aload_n 0, 1) := by decide +kernel
theorem dX11_allocate_32 : decode cX11_allocate 32 = .ok (.iload 6, 2) := by decide +kernel
theorem dX11_allocate_34 : decode cX11_allocate 34 = .ok (.invokevirtual 102, 3) := by decide +kernel
theorem dX11_allocate_37 : decode cX11_allocate 37 = .ok (.iload 5, 2) := by decide +kernel
theorem dX11_allocate_39 : decode cX11_allocate 39 = .ok (.if_icmp .ge 12, 3) := by decide +kernel
theorem dX11_allocate_42 : decode cX11_allocate 42 = .ok (.aload_n 0, 1) := by decide +kernel
theorem dX11_allocate_43 : decode cX11_allocate 43 = .ok (.iload 6, 2) := by decide +kernel
theorem dX11_allocate_45 : decode cX11_allocate 45 = .ok (.invokevirtual 102, 3) := by decide +kernel
theorem dX11_allocate_48 : decode cX11_allocate 48 = .ok (.goto 5, 3) := by decide +kernel
theorem dX11_allocate_51 : decode cX11_allocate 51 = .ok (.iload 5, 2) := by decide +kernel
theorem dX11_allocate_53 : decode cX11_allocate 53 = .ok (.istore 7, 2) := by decide +kernel
theorem dX11_allocate_55 : decode cX11_allocate 55 = .ok (.aload_n 0, 1) := by decide +kernel
theorem dX11_allocate_56 : decode cX11_allocate 56 = .ok (.iload_n 1, 1) := by decide +kernel
theorem dX11_allocate_57 : decode cX11_allocate 57 = .ok (.iconst 4, 1) := by decide +kernel
theorem dX11_allocate_58 : decode cX11_allocate 58 = .ok (.iload 6, 2) := by decide +kernel
theorem dX11_allocate_60 : decode cX11_allocate 60 = .ok (.iadd, 1) := by decide +kernel
theorem dX11_allocate_61 : decode cX11_allocate 61 = .ok (.aload_n 0, 1) := by decide +kernel
theorem dX11_allocate_62 : decode cX11_allocate 62 = .ok (.iload_n 1, 1) := by decide +kernel
theorem dX11_allocate_63 : decode cX11_allocate 63 = .ok (.iconst 4, 1) := by decide +kernel
theorem dX11_allocate_64 : decode cX11_allocate 64 = .ok (.iload 6, 2) := by decide +kernel
theorem dX11_allocate_66 : decode cX11_allocate 66 = .ok (.iadd, 1) := by decide +kernel
theorem dX11_allocate_67 : decode cX11_allocate 67 = .ok (.invokevirtual 83, 3) := by decide +kernel
theorem dX11_allocate_70 : decode cX11_allocate 70 = .ok (.iload 7, 2) := by decide +kernel
theorem dX11_allocate_72 : decode cX11_allocate 72 = .ok (.iadd, 1) := by decide +kernel
theorem dX11_allocate_73 : decode cX11_allocate 73 = .ok (.invokevirtual 118, 3) := by decide +kernel
theorem dX11_allocate_76 : decode cX11_allocate 76 = .ok (.iload 5, 2) := by decide +kernel
theorem dX11_allocate_78 : decode cX11_allocate 78 = .ok (.iload 7, 2) := by decide +kernel
theorem dX11_allocate_80 : decode cX11_allocate 80 = .ok (.isub, 1) := by decide +kernel
theorem dX11_allocate_81 : decode cX11_allocate 81 = .ok (.istore 5, 2) := by decide +kernel
theorem dX11_allocate_83 : decode cX11_allocate 83 = .ok (.aload_n 0, 1) := by decide +kernel
theorem dX11_allocate_84 : decode cX11_allocate 84 = .ok (.iload 4, 2) := by decide +kernel
theorem dX11_allocate_86 : decode cX11_allocate 86 = .ok (.iload_n 3, 1) := by decide +kernel
theorem dX11_allocate_87 : decode cX11_allocate 87 = .ok (.invokevirtual 108, 3) := by decide +kernel
theorem dX11_allocate_90 : decode cX11_allocate 90 = .ok (.istore 6, 2) := by decide +kernel
theorem dX11_allocate_92 : decode cX11_allocate 92 = .ok (.goto (-72), 3) := by decide +kernel
theorem dX11_allocate_95 : decode cX11_allocate 95 = .ok (.iload_n 2, 1) := by decide +kernel
theorem dX11_allocate_96 : decode cX11_allocate 96 = .ok (.iload 5, 2) := by decide +kernel
theorem dX11_allocate_98 : decode cX11_allocate 98 = .ok (.isub, 1) := by decide +kernel
theorem dX11_allocate_99 : decode cX11_allocate 99 = .ok (.ireturn, 1) := by decide +kernel
theorem dX11_allocated_0 : decode cX11_allocated 0 = .ok (.iconst 0, 1) := by decide +kernel
theorem dX11_allocated_1 : decode cX11_allocated 1 = .ok (.istore_n 2, 1) := by decide +kernel
theorem dX11_allocated_2 : decode cX11_allocated 2 = .ok (.iconst 0, 1) := by decide +kernel
theorem dX11_allocated_3 : decode cX11_allocated 3 = .ok (.istore_n 3, 1) := by decide +kernel
theorem dX11_allocated_4 : decode cX11_allocated 4 = .ok (.iload_n 3, 1) := by decide +kernel
theorem dX11_allocated_5 : decode cX11_allocated 5 = .ok (.aload_n 0, 1) := by decide +kernel
theorem dX11_allocated_6 : decode cX11_allocated 6 = .ok (.getfield 13, 3) := by decide +kernel
theorem dX11_allocated_9 : decode cX11_allocated 9 = .ok (.iconst 2, 1) := by decide +kernel
theorem dX11_allocated_10 : decode cX11_allocated 10 = .ok (.iaload, 1) := by decide +kernel
theorem dX11_allocated_11 : decode cX11_allocated 11 = .ok (.if_icmp .ge 20, 3) := by decide +kernel
theorem dX11_allocated_14 : decode cX11_allocated 14 = .ok (.iload_n 2, 1) := by decide +kernel
theorem dX11_allocated_15 : decode cX11_allocated 15 = .ok (.aload_n 0, 1) := by decide +kernel
theorem dX11_allocated_16 : decode cX11_allocated 16 = .ok (.iload_n 1, 1) := by decide +kernel
theorem dX11_allocated_17 : decode cX11_allocated 17 = .ok (.iconst 4, 1) := by decide +kernel
theorem dX11_allocated_18 : decode cX11_allocated 18 = .ok (.iload_n 3, 1) := by decide +kernel
theorem dX11_allocated_19 : decode cX11_allocated 19 = .ok (.iadd, 1) := by decide +kernel
theorem dX11_allocated_20 : decode cX11_allocated 20 = .ok (.invokevirtual 83, 3) := by decide +kernel
theorem dX11_allocated_23 : decode cX11_allocated 23 = .ok (.iadd, 1) := by decide +kernel
theorem dX11_allocated_24 : decode cX11_allocated 24 = .ok (.istore_n 2, 1) := by decide +kernel
theorem dX11_allocated_25 : decode cX11_allocated 25 = .ok (.iinc 3 1, 3) := by decide +kernel
theorem dX11_allocated_28 : decode cX11_allocated 28 = .ok (.goto (-24), 3) := by decide +kernel
theorem dX11_allocated_31 : decode cX11_allocated 31 = .ok (.iload_n 2, 1) := by decide +kernel
theorem dX11_allocated_32 : decode cX11_allocated 32 = .ok (.ireturn, 1) := by decide +kernel
theorem dX11_lacking_0 : decode cX11_lacking 0 = .ok (.aload_n 0, 1) := by decide +kernel
theorem dX11_lacking_1 : decode cX11_lacking 1 = .ok (.iload_n 1, 1) := by decide +kernel
theorem dX11_lacking_2 : decode cX11_lacking 2 = .ok (.invokevirtual 87, 3) := by decide +kernel
theorem dX11_lacking_5 : decode cX11_lacking 5 = .ok (.ifCond .eq 18, 3) := by decide +kernel
theorem dX11_lacking_8 : decode cX11_lacking 8 = .ok (.aload_n 0, 1) := by decide +kernel
theorem dX11_lacking_9 : decode cX11_lacking 9 = .ok (.iload_n 1, 1) := by decide +kernel
theorem dX11_lacking_10 : decode cX11_lacking 10 = .ok (.iconst 1, 1) := by decide +kernel
theorem dX11_lacking_11 : decode cX11_lacking 11 = .ok (.invokevirtual 83, 3) := by decide +kernel
theorem dX11_lacking_14 : decode cX11_lacking 14 = .ok (.aload_n 0, 1) := by decide +kernel
theorem dX11_lacking_15 : decode cX11_lacking 15 = .ok (.iload_n 1, 1) := by decide +kernel
theorem dX11_lacking_16 : decode cX11_lacking 16 = .ok (.invokevirtual 121, 3) := by decide +kernel
theorem dX11_lacking_19 : decode cX11_lacking 19 = .ok (.isub, 1) := by decide +kernel
theorem dX11_lacking_20 : decode cX11_lacking 20 = .ok (.goto 4, 3) := by decide +kernel
theorem dX11_lacking_23 : decode cX11_lacking 23 = .ok (.iconst 0, 1) := by decide +kernel
theorem dX11_lacking_24 : decode cX11_lacking 24 = .ok (.ireturn, 1) := by decide +kernel
theorem dX11_writeOff_0 : decode cX11_writeOff 0 = .ok (.iconst 0, 1) := by decide +kernel
theorem dX11_writeOff_1 : decode cX11_writeOff 1 = .ok (.istore_n 1, 1) := by decide +kernel
theorem dX11_writeOff_2 : decode cX11_writeOff 2 = .ok (.iconst 0, 1) := by decide +kernel
theorem dX11_writeOff_3 : decode cX11_writeOff 3 = .ok (.istore_n 2, 1) := by decide +kernel
theorem dX11_writeOff_4 : decode cX11_writeOff 4 = .ok (.iload_n 2, 1) := by decide +kernel
theorem dX11_writeOff_5 : decode cX11_writeOff 5 = .ok (.aload_n 0, 1) := by decide +kernel
theorem dX11_writeOff_6 : decode cX11_writeOff 6 = .ok (.getfield 13, 3) := by decide +kernel
theorem dX11_writeOff_9 : decode cX11_writeOff 9 = .ok (.iconst 2, 1) := by decide +kernel
theorem dX11_writeOff_10 : decode cX11_writeOff 10 = .ok (.iaload, 1) := by decide +kernel
theorem dX11_writeOff_11 : decode cX11_writeOff 11 = .ok (.if_icmp .ge 89, 3) := by decide +kernel
theorem dX11_writeOff_14 : decode cX11_writeOff 14 = .ok (.aload_n 0, 1) := by decide +kernel
theorem dX11_writeOff_15 : decode cX11_writeOff 15 = .ok (.iload_n 2, 1) := by decide +kernel
theorem dX11_writeOff_16 : decode cX11_writeOff 16 = .ok (.invokevirtual 124, 3) := by decide +kernel
theorem dX11_writeOff_19 : decode cX11_writeOff 19 = .ok (.ifCond .ne 6, 3) := by decide +kernel
theorem dX11_writeOff_22 : decode cX11_writeOff 22 = .ok (.goto 72, 3) := by decide +kernel
theorem dX11_writeOff_25 : decode cX11_writeOff 25 = .ok (.iload_n 1, 1) := by decide +kernel
theorem dX11_writeOff_26 : decode cX11_writeOff 26 = .ok (.aload_n 0, 1) := by decide +kernel
theorem dX11_writeOff_27 : decode cX11_writeOff 27 = .ok (.iload_n 2, 1) := by decide +kernel
theorem dX11_writeOff_28 : decode cX11_writeOff 28 = .ok (.iconst 1, 1) := by decide +kernel
theorem dX11_writeOff_29 : decode cX11_writeOff 29 = .ok (.invokevirtual 91, 3) := by decide +kernel
theorem dX11_writeOff_32 : decode cX11_writeOff 32 = .ok (.iadd, 1) := by decide +kernel
theorem dX11_writeOff_33 : decode cX11_writeOff 33 = .ok (.istore_n 1, 1) := by decide +kernel
theorem dX11_writeOff_34 : decode cX11_writeOff 34 = .ok (.aload_n 0, 1) := by decide +kernel
theorem dX11_writeOff_35 : decode cX11_writeOff 35 = .ok (.aload_n 0, 1) := by decide +kernel
theorem dX11_writeOff_36 : decode cX11_writeOff 36 = .ok (.iload_n 2, 1) := by decide +kernel
theorem dX11_writeOff_37 : decode cX11_writeOff 37 = .ok (.iconst 0, 1) := by decide +kernel
theorem dX11_writeOff_38 : decode cX11_writeOff 38 = .ok (.invokevirtual 91, 3) := by decide +kernel
theorem dX11_writeOff_41 : decode cX11_writeOff 41 = .ok (.bipush 10, 2) := by decide +kernel
theorem dX11_writeOff_43 : decode cX11_writeOff 43 = .ok (.aload_n 0, 1) := by decide +kernel
theorem dX11_writeOff_44 : decode cX11_writeOff 44 = .ok (.iload_n 2, 1) := by decide +kernel
theorem dX11_writeOff_45 : decode cX11_writeOff 45 = .ok (.iconst 1, 1) := by decide +kernel
theorem dX11_writeOff_46 : decode cX11_writeOff 46 = .ok (.invokevirtual 91, 3) := by decide +kernel
theorem dX11_writeOff_49 : decode cX11_writeOff 49 = .ok (.invokevirtual 115, 3) := by decide +kernel
theorem dX11_writeOff_52 : decode cX11_writeOff 52 = .ok (.aload_n 0, 1) := by decide +kernel
theorem dX11_writeOff_53 : decode cX11_writeOff 53 = .ok (.iload_n 2, 1) := by decide +kernel
theorem dX11_writeOff_54 : decode cX11_writeOff 54 = .ok (.iconst 1, 1) := by decide +kernel
theorem dX11_writeOff_55 : decode cX11_writeOff 55 = .ok (.iconst 0, 1) := by decide +kernel
theorem dX11_writeOff_56 : decode cX11_writeOff 56 = .ok (.invokevirtual 111, 3) := by decide +kernel
theorem dX11_writeOff_59 : decode cX11_writeOff 59 = .ok (.iconst 0, 1) := by decide +kernel
theorem dX11_writeOff_60 : decode cX11_writeOff 60 = .ok (.istore_n 3, 1) := by decide +kernel
theorem dX11_writeOff_61 : decode cX11_writeOff 61 = .ok (.iload_n 3, 1) := by decide +kernel
theorem dX11_writeOff_62 : decode cX11_writeOff 62 = .ok (.aload_n 0, 1) := by decide +kernel
theorem dX11_writeOff_63 : decode cX11_writeOff 63 = .ok (.getfield 13, 3) := by decide +kernel
theorem dX11_writeOff_66 : decode cX11_writeOff 66 = .ok (.iconst 3, 1) := by decide +kernel
theorem dX11_writeOff_67 : decode cX11_writeOff 67 = .ok (.iaload, 1) := by decide +kernel
theorem dX11_writeOff_68 : decode cX11_writeOff 68 = .ok (.if_icmp .ge 26, 3) := by decide +kernel
theorem dX11_writeOff_71 : decode cX11_writeOff 71 = .ok (.aload_n 0, 1) := by decide +kernel
theorem dX11_writeOff_72 : decode cX11_writeOff 72 = .ok (.iload_n 3, 1) := by decide +kernel
theorem dX11_writeOff_73 : decode cX11_writeOff 73 = .ok (.invokevirtual 87, 3) := by decide +kernel
theorem dX11_writeOff_76 : decode cX11_writeOff 76 = .ok (.ifCond .eq 12, 3) := by decide +kernel
theorem dX11_writeOff_79 : decode cX11_writeOff 79 = .ok (.aload_n 0, 1) := by decide +kernel
theorem dX11_writeOff_80 : decode cX11_writeOff 80 = .ok (.iload_n 3, 1) := by decide +kernel
theorem dX11_writeOff_81 : decode cX11_writeOff 81 = .ok (.iconst 4, 1) := by decide +kernel
theorem dX11_writeOff_82 : decode cX11_writeOff 82 = .ok (.iload_n 2, 1) := by decide +kernel
theorem dX11_writeOff_83 : decode cX11_writeOff 83 = .ok (.iadd, 1) := by decide +kernel
theorem dX11_writeOff_84 : decode cX11_writeOff 84 = .ok (.iconst 0, 1) := by decide +kernel
theorem dX11_writeOff_85 : decode cX11_writeOff 85 = .ok (.invokevirtual 118, 3) := by decide +kernel
theorem dX11_writeOff_88 : decode cX11_writeOff 88 = .ok (.iinc 3 1, 3) := by decide +kernel
theorem dX11_writeOff_91 : decode cX11_writeOff 91 = .ok (.goto (-30), 3) := by decide +kernel
theorem dX11_writeOff_94 : decode cX11_writeOff 94 = .ok (.iinc 2 1, 3) := by decide +kernel
theorem dX11_writeOff_97 : decode cX11_writeOff 97 = .ok (.goto (-93), 3) := by decide +kernel
theorem dX11_writeOff_100 : decode cX11_writeOff 100 = .ok (.iload_n 1, 1) := by decide +kernel
theorem dX11_writeOff_101 : decode cX11_writeOff 101 = .ok (.ireturn, 1) := by decide +kernel
theorem dX11_stock_0 : decode cX11_stock 0 = .ok (.iconst 0, 1) := by decide +kernel
theorem dX11_stock_1 : decode cX11_stock 1 = .ok (.istore_n 2, 1) := by decide +kernel
theorem dX11_stock_2 : decode cX11_stock 2 = .ok (.iconst 0, 1) := by decide +kernel
theorem dX11_stock_3 : decode cX11_stock 3 = .ok (.istore_n 3, 1) := by decide +kernel
theorem dX11_stock_4 : decode cX11_stock 4 = .ok (.iload_n 3, 1) := by decide +kernel
theorem dX11_stock_5 : decode cX11_stock 5 = .ok (.aload_n 0, 1) := by decide +kernel
theorem dX11_stock_6 : decode cX11_stock 6 = .ok (.getfield 13, 3) := by decide +kernel
theorem dX11_stock_9 : decode cX11_stock 9 = .ok (.iconst 2, 1) := by decide +kernel
theorem dX11_stock_10 : decode cX11_stock 10 = .ok (.iaload, 1) := by decide +kernel
theorem dX11_stock_11 : decode cX11_stock 11 = .ok (.if_icmp .ge 31, 3) := by decide +kernel
theorem dX11_stock_14 : decode cX11_stock 14 = .ok (.iload_n 2, 1) := by decide +kernel
theorem dX11_stock_15 : decode cX11_stock 15 = .ok (.aload_n 0, 1) := by decide +kernel
theorem dX11_stock_16 : decode cX11_stock 16 = .ok (.iload_n 3, 1) := by decide +kernel
theorem dX11_stock_17 : decode cX11_stock 17 = .ok (.iload_n 1, 1) := by decide +kernel
theorem dX11_stock_18 : decode cX11_stock 18 = .ok (.invokevirtual 98, 3) := by decide +kernel
theorem dX11_stock_21 : decode cX11_stock 21 = .ok (.ifCond .eq 12, 3) := by decide +kernel
theorem dX11_stock_24 : decode cX11_stock 24 = .ok (.aload_n 0, 1) := by decide +kernel
theorem dX11_stock_25 : decode cX11_stock 25 = .ok (.iload_n 3, 1) := by decide +kernel
theorem dX11_stock_26 : decode cX11_stock 26 = .ok (.iconst 1, 1) := by decide +kernel
theorem dX11_stock_27 : decode cX11_stock 27 = .ok (.invokevirtual 91, 3) := by decide +kernel
theorem dX11_stock_30 : decode cX11_stock 30 = .ok (.goto 4, 3) := by decide +kernel
theorem dX11_stock_33 : decode cX11_stock 33 = .ok (.iconst 0, 1) := by decide +kernel
theorem dX11_stock_34 : decode cX11_stock 34 = .ok (.iadd, 1) := by decide +kernel
theorem dX11_stock_35 : decode cX11_stock 35 = .ok (.istore_n 2, 1) := by decide +kernel
theorem dX11_stock_36 : decode cX11_stock 36 = .ok (.iinc 3 1, 3) := by decide +kernel
theorem dX11_stock_39 : decode cX11_stock 39 = .ok (.goto (-35), 3) := by decide +kernel
theorem dX11_stock_42 : decode cX11_stock 42 = .ok (.iload_n 2, 1) := by decide +kernel
theorem dX11_stock_43 : decode cX11_stock 43 = .ok (.ireturn, 1) := by decide +kernel
theorem dX11_worth_0 : decode cX11_worth 0 = .ok (.iconst 0, 1) := by decide +kernel
theorem dX11_worth_1 : decode cX11_worth 1 = .ok (.istore_n 2, 1) := by decide +kernel
theorem dX11_worth_2 : decode cX11_worth 2 = .ok (.iconst 0, 1) := by decide +kernel
theorem dX11_worth_3 : decode cX11_worth 3 = .ok (.istore_n 3, 1) := by decide +kernel
theorem dX11_worth_4 : decode cX11_worth 4 = .ok (.iload_n 3, 1) := by decide +kernel
theorem dX11_worth_5 : decode cX11_worth 5 = .ok (.aload_n 0, 1) := by decide +kernel
theorem dX11_worth_6 : decode cX11_worth 6 = .ok (.getfield 13, 3) := by decide +kernel
theorem dX11_worth_9 : decode cX11_worth 9 = .ok (.iconst 2, 1) := by decide +kernel
theorem dX11_worth_10 : decode cX11_worth 10 = .ok (.iaload, 1) := by decide +kernel
theorem dX11_worth_11 : decode cX11_worth 11 = .ok (.if_icmp .ge 38, 3) := by decide +kernel
theorem dX11_worth_14 : decode cX11_worth 14 = .ok (.iload_n 2, 1) := by decide +kernel
theorem dX11_worth_15 : decode cX11_worth 15 = .ok (.aload_n 0, 1) := by decide +kernel
theorem dX11_worth_16 : decode cX11_worth 16 = .ok (.iload_n 3, 1) := by decide +kernel
theorem dX11_worth_17 : decode cX11_worth 17 = .ok (.iload_n 1, 1) := by decide +kernel
theorem dX11_worth_18 : decode cX11_worth 18 = .ok (.invokevirtual 98, 3) := by decide +kernel
theorem dX11_worth_21 : decode cX11_worth 21 = .ok (.ifCond .eq 19, 3) := by decide +kernel
theorem dX11_worth_24 : decode cX11_worth 24 = .ok (.aload_n 0, 1) := by decide +kernel
theorem dX11_worth_25 : decode cX11_worth 25 = .ok (.iload_n 3, 1) := by decide +kernel
theorem dX11_worth_26 : decode cX11_worth 26 = .ok (.iconst 1, 1) := by decide +kernel
theorem dX11_worth_27 : decode cX11_worth 27 = .ok (.invokevirtual 91, 3) := by decide +kernel
theorem dX11_worth_30 : decode cX11_worth 30 = .ok (.aload_n 0, 1) := by decide +kernel
theorem dX11_worth_31 : decode cX11_worth 31 = .ok (.iload_n 3, 1) := by decide +kernel
theorem dX11_worth_32 : decode cX11_worth 32 = .ok (.iconst 3, 1) := by decide +kernel
theorem dX11_worth_33 : decode cX11_worth 33 = .ok (.invokevirtual 91, 3) := by decide +kernel
theorem dX11_worth_36 : decode cX11_worth 36 = .ok (.imul, 1) := by decide +kernel
theorem dX11_worth_37 : decode cX11_worth 37 = .ok (.goto 4, 3) := by decide +kernel
theorem dX11_worth_40 : decode cX11_worth 40 = .ok (.iconst 0, 1) := by decide +kernel
theorem dX11_worth_41 : decode cX11_worth 41 = .ok (.iadd, 1) := by decide +kernel
theorem dX11_worth_42 : decode cX11_worth 42 = .ok (.istore_n 2, 1) := by decide +kernel
theorem dX11_worth_43 : decode cX11_worth 43 = .ok (.iinc 3 1, 3) := by decide +kernel
theorem dX11_worth_46 : decode cX11_worth 46 = .ok (.goto (-42), 3) := by decide +kernel
theorem dX11_worth_49 : decode cX11_worth 49 = .ok (.iload_n 2, 1) := by decide +kernel
theorem dX11_worth_50 : decode cX11_worth 50 = .ok (.ireturn, 1) := by decide +kernel
theorem dX11_toOrder_0 : decode cX11_toOrder 0 = .ok (.aload_n 0, 1) := by decide +kernel
theorem dX11_toOrder_1 : decode cX11_toOrder 1 = .ok (.iload_n 1, 1) := by decide +kernel
theorem dX11_toOrder_2 : decode cX11_toOrder 2 = .ok (.bipush 7, 2) := by decide +kernel
theorem dX11_toOrder_4 : decode cX11_toOrder 4 = .ok (.invokevirtual 127, 3) := by decide +kernel
theorem dX11_toOrder_7 : decode cX11_toOrder 7 = .ok (.aload_n 0, 1) := by decide +kernel
theorem dX11_toOrder_8 : decode cX11_toOrder 8 = .ok (.iload_n 1, 1) := by decide +kernel
theorem dX11_toOrder_9 : decode cX11_toOrder 9 = .ok (.aload_n 0, 1) := by decide +kernel
theorem dX11_toOrder_10 : decode cX11_toOrder 10 = .ok (.getfield 13, 3) := by decide +kernel
theorem dX11_toOrder_13 : decode cX11_toOrder 13 = .ok (.iconst 0, 1) := by decide +kernel
theorem dX11_toOrder_14 : decode cX11_toOrder 14 = .ok (.iaload, 1) := by decide +kernel
theorem dX11_toOrder_15 : decode cX11_toOrder 15 = .ok (.invokevirtual 130, 3) := by decide +kernel
theorem dX11_toOrder_18 : decode cX11_toOrder 18 = .ok (.isub, 1) := by decide +kernel
theorem dX11_toOrder_19 : decode cX11_toOrder 19 = .ok (.istore_n 2, 1) := by decide +kernel
theorem dX11_toOrder_20 : decode cX11_toOrder 20 = .ok (.iload_n 2, 1) := by decide +kernel
theorem dX11_toOrder_21 : decode cX11_toOrder 21 = .ok (.ifCond .le 7, 3) := by decide +kernel
theorem dX11_toOrder_24 : decode cX11_toOrder 24 = .ok (.iload_n 2, 1) := by decide +kernel
theorem dX11_toOrder_25 : decode cX11_toOrder 25 = .ok (.goto 4, 3) := by decide +kernel
theorem dX11_toOrder_28 : decode cX11_toOrder 28 = .ok (.iconst 0, 1) := by decide +kernel
theorem dX11_toOrder_29 : decode cX11_toOrder 29 = .ok (.ireturn, 1) := by decide +kernel
theorem dX11_shippingReason_0 : decode cX11_shippingReason 0 = .ok (.aload_n 0, 1) := by decide +kernel
theorem dX11_shippingReason_1 : decode cX11_shippingReason 1 = .ok (.iload_n 1, 1) := by decide +kernel
theorem dX11_shippingReason_2 : decode cX11_shippingReason 2 = .ok (.invokevirtual 87, 3) := by decide +kernel
theorem dX11_shippingReason_5 : decode cX11_shippingReason 5 = .ok (.ifCond .ne 5, 3) := by decide +kernel
theorem dX11_shippingReason_8 : decode cX11_shippingReason 8 = .ok (.iconst 1, 1) := by decide +kernel
theorem dX11_shippingReason_9 : decode cX11_shippingReason 9 = .ok (.ireturn, 1) := by decide +kernel
theorem dX11_shippingReason_10 : decode cX11_shippingReason 10 = .ok (.aload_n 0, 1) := by decide +kernel
theorem dX11_shippingReason_11 : decode cX11_shippingReason 11 = .ok (.iload_n 1, 1) := by decide +kernel
theorem dX11_shippingReason_12 : decode cX11_shippingReason 12 = .ok (.invokevirtual 133, 3) := by decide +kernel
theorem dX11_shippingReason_15 : decode cX11_shippingReason 15 = .ok (.ifCond .le 5, 3) := by decide +kernel
theorem dX11_shippingReason_18 : decode cX11_shippingReason 18 = .ok (.iconst 2, 1) := by decide +kernel
theorem dX11_shippingReason_19 : decode cX11_shippingReason 19 = .ok (.ireturn, 1) := by decide +kernel
theorem dX11_shippingReason_20 : decode cX11_shippingReason 20 = .ok (.iconst 0, 1) := by decide +kernel
theorem dX11_shippingReason_21 : decode cX11_shippingReason 21 = .ok (.istore_n 2, 1) := by decide +kernel
theorem dX11_shippingReason_22 : decode cX11_shippingReason 22 = .ok (.iload_n 2, 1) := by decide +kernel
theorem dX11_shippingReason_23 : decode cX11_shippingReason 23 = .ok (.aload_n 0, 1) := by decide +kernel
theorem dX11_shippingReason_24 : decode cX11_shippingReason 24 = .ok (.getfield 13, 3) := by decide +kernel
theorem dX11_shippingReason_27 : decode cX11_shippingReason 27 = .ok (.iconst 2, 1) := by decide +kernel
theorem dX11_shippingReason_28 : decode cX11_shippingReason 28 = .ok (.iaload, 1) := by decide +kernel
theorem dX11_shippingReason_29 : decode cX11_shippingReason 29 = .ok (.if_icmp .ge 30, 3) := by decide +kernel
theorem dX11_shippingReason_32 : decode cX11_shippingReason 32 = .ok (.aload_n 0, 1) := by decide +kernel
theorem dX11_shippingReason_33 : decode cX11_shippingReason 33 = .ok (.iload_n 1, 1) := by decide +kernel
theorem dX11_shippingReason_34 : decode cX11_shippingReason 34 = .ok (.iconst 4, 1) := by decide +kernel
theorem dX11_shippingReason_35 : decode cX11_shippingReason 35 = .ok (.iload_n 2, 1) := by decide +kernel
theorem dX11_shippingReason_36 : decode cX11_shippingReason 36 = .ok (.iadd, 1) := by decide +kernel
theorem dX11_shippingReason_37 : decode cX11_shippingReason 37 = .ok (.invokevirtual 83, 3) := by decide +kernel
theorem dX11_shippingReason_40 : decode cX11_shippingReason 40 = .ok (.ifCond .le 13, 3) := by decide +kernel
theorem dX11_shippingReason_43 : decode cX11_shippingReason 43 = .ok (.aload_n 0, 1) := by decide +kernel
theorem dX11_shippingReason_44 : decode cX11_shippingReason 44 = .ok (.iload_n 2, 1) := by decide +kernel
theorem dX11_shippingReason_45 : decode cX11_shippingReason 45 = .ok (.invokevirtual 124, 3) := by decide +kernel
theorem dX11_shippingReason_48 : decode cX11_shippingReason 48 = .ok (.ifCond .eq 5, 3) := by decide +kernel
theorem dX11_shippingReason_51 : decode cX11_shippingReason 51 = .ok (.iconst 3, 1) := by decide +kernel
theorem dX11_shippingReason_52 : decode cX11_shippingReason 52 = .ok (.ireturn, 1) := by decide +kernel
theorem dX11_shippingReason_53 : decode cX11_shippingReason 53 = .ok (.iinc 2 1, 3) := by decide +kernel
theorem dX11_shippingReason_56 : decode cX11_shippingReason 56 = .ok (.goto (-34), 3) := by decide +kernel
theorem dX11_shippingReason_59 : decode cX11_shippingReason 59 = .ok (.iconst 0, 1) := by decide +kernel
theorem dX11_shippingReason_60 : decode cX11_shippingReason 60 = .ok (.ireturn, 1) := by decide +kernel
theorem dX11_receiveIt_0 : decode cX11_receiveIt 0 = .ok (.aload_n 0, 1) := by decide +kernel
theorem dX11_receiveIt_1 : decode cX11_receiveIt 1 = .ok (.getfield 13, 3) := by decide +kernel
theorem dX11_receiveIt_4 : decode cX11_receiveIt 4 = .ok (.iconst 2, 1) := by decide +kernel
theorem dX11_receiveIt_5 : decode cX11_receiveIt 5 = .ok (.iaload, 1) := by decide +kernel
theorem dX11_receiveIt_6 : decode cX11_receiveIt 6 = .ok (.istore 5, 2) := by decide +kernel
theorem dX11_receiveIt_8 : decode cX11_receiveIt 8 = .ok (.aload_n 0, 1) := by decide +kernel
theorem dX11_receiveIt_9 : decode cX11_receiveIt 9 = .ok (.iload 5, 2) := by decide +kernel
theorem dX11_receiveIt_11 : decode cX11_receiveIt 11 = .ok (.iconst 0, 1) := by decide +kernel
theorem dX11_receiveIt_12 : decode cX11_receiveIt 12 = .ok (.iload_n 1, 1) := by decide +kernel
theorem dX11_receiveIt_13 : decode cX11_receiveIt 13 = .ok (.invokevirtual 111, 3) := by decide +kernel
theorem dX11_receiveIt_16 : decode cX11_receiveIt 16 = .ok (.aload_n 0, 1) := by decide +kernel
theorem dX11_receiveIt_17 : decode cX11_receiveIt 17 = .ok (.iload 5, 2) := by decide +kernel
theorem dX11_receiveIt_19 : decode cX11_receiveIt 19 = .ok (.iconst 1, 1) := by decide +kernel
theorem dX11_receiveIt_20 : decode cX11_receiveIt 20 = .ok (.iload_n 2, 1) := by decide +kernel
theorem dX11_receiveIt_21 : decode cX11_receiveIt 21 = .ok (.invokevirtual 111, 3) := by decide +kernel
theorem dX11_receiveIt_24 : decode cX11_receiveIt 24 = .ok (.aload_n 0, 1) := by decide +kernel
theorem dX11_receiveIt_25 : decode cX11_receiveIt 25 = .ok (.iload 5, 2) := by decide +kernel
theorem dX11_receiveIt_27 : decode cX11_receiveIt 27 = .ok (.iconst 2, 1) := by decide +kernel
theorem dX11_receiveIt_28 : decode cX11_receiveIt 28 = .ok (.iload_n 3, 1) := by decide +kernel
theorem dX11_receiveIt_29 : decode cX11_receiveIt 29 = .ok (.invokevirtual 111, 3) := by decide +kernel
theorem dX11_receiveIt_32 : decode cX11_receiveIt 32 = .ok (.aload_n 0, 1) := by decide +kernel
theorem dX11_receiveIt_33 : decode cX11_receiveIt 33 = .ok (.iload 5, 2) := by decide +kernel
theorem dX11_receiveIt_35 : decode cX11_receiveIt 35 = .ok (.iconst 3, 1) := by decide +kernel
theorem dX11_receiveIt_36 : decode cX11_receiveIt 36 = .ok (.iload 4, 2) := by decide +kernel
theorem dX11_receiveIt_38 : decode cX11_receiveIt 38 = .ok (.invokevirtual 111, 3) := by decide +kernel
theorem dX11_receiveIt_41 : decode cX11_receiveIt 41 = .ok (.aload_n 0, 1) := by decide +kernel
theorem dX11_receiveIt_42 : decode cX11_receiveIt 42 = .ok (.iload_n 1, 1) := by decide +kernel
theorem dX11_receiveIt_43 : decode cX11_receiveIt 43 = .ok (.bipush 8, 2) := by decide +kernel
theorem dX11_receiveIt_45 : decode cX11_receiveIt 45 = .ok (.iload_n 2, 1) := by decide +kernel
theorem dX11_receiveIt_46 : decode cX11_receiveIt 46 = .ok (.invokevirtual 115, 3) := by decide +kernel
theorem dX11_receiveIt_49 : decode cX11_receiveIt 49 = .ok (.iconst 0, 1) := by decide +kernel
theorem dX11_receiveIt_50 : decode cX11_receiveIt 50 = .ok (.istore 6, 2) := by decide +kernel
theorem dX11_receiveIt_52 : decode cX11_receiveIt 52 = .ok (.iload 6, 2) := by decide +kernel
theorem dX11_receiveIt_54 : decode cX11_receiveIt 54 = .ok (.bipush 10, 2) := by decide +kernel
theorem dX11_receiveIt_56 : decode cX11_receiveIt 56 = .ok (.if_icmp .ge 20, 3) := by decide +kernel
theorem dX11_receiveIt_59 : decode cX11_receiveIt 59 = .ok (.aload_n 0, 1) := by decide +kernel
theorem dX11_receiveIt_60 : decode cX11_receiveIt 60 = .ok (.iload 6, 2) := by decide +kernel
theorem dX11_receiveIt_62 : decode cX11_receiveIt 62 = .ok (.iconst 4, 1) := by decide +kernel
theorem dX11_receiveIt_63 : decode cX11_receiveIt 63 = .ok (.iload 5, 2) := by decide +kernel
theorem dX11_receiveIt_65 : decode cX11_receiveIt 65 = .ok (.iadd, 1) := by decide +kernel
theorem dX11_receiveIt_66 : decode cX11_receiveIt 66 = .ok (.iconst 0, 1) := by decide +kernel
theorem dX11_receiveIt_67 : decode cX11_receiveIt 67 = .ok (.invokevirtual 118, 3) := by decide +kernel
theorem dX11_receiveIt_70 : decode cX11_receiveIt 70 = .ok (.iinc 6 1, 3) := by decide +kernel
theorem dX11_receiveIt_73 : decode cX11_receiveIt 73 = .ok (.goto (-21), 3) := by decide +kernel
theorem dX11_receiveIt_76 : decode cX11_receiveIt 76 = .ok (.aload_n 0, 1) := by decide +kernel
theorem dX11_receiveIt_77 : decode cX11_receiveIt 77 = .ok (.getfield 13, 3) := by decide +kernel
theorem dX11_receiveIt_80 : decode cX11_receiveIt 80 = .ok (.iconst 2, 1) := by decide +kernel
theorem dX11_receiveIt_81 : decode cX11_receiveIt 81 = .ok (.dup2, 1) := by decide +kernel
theorem dX11_receiveIt_82 : decode cX11_receiveIt 82 = .ok (.iaload, 1) := by decide +kernel
theorem dX11_receiveIt_83 : decode cX11_receiveIt 83 = .ok (.iconst 1, 1) := by decide +kernel
theorem dX11_receiveIt_84 : decode cX11_receiveIt 84 = .ok (.iadd, 1) := by decide +kernel
theorem dX11_receiveIt_85 : decode cX11_receiveIt 85 = .ok (.iastore, 1) := by decide +kernel
theorem dX11_receiveIt_86 : decode cX11_receiveIt 86 = .ok (.iload 5, 2) := by decide +kernel
theorem dX11_receiveIt_88 : decode cX11_receiveIt 88 = .ok (.ireturn, 1) := by decide +kernel
theorem dX11_reserveIt_0 : decode cX11_reserveIt 0 = .ok (.aload_n 0, 1) := by decide +kernel
theorem dX11_reserveIt_1 : decode cX11_reserveIt 1 = .ok (.getfield 13, 3) := by decide +kernel
theorem dX11_reserveIt_4 : decode cX11_reserveIt 4 = .ok (.iconst 3, 1) := by decide +kernel
theorem dX11_reserveIt_5 : decode cX11_reserveIt 5 = .ok (.iaload, 1) := by decide +kernel
theorem dX11_reserveIt_6 : decode cX11_reserveIt 6 = .ok (.istore 4, 2) := by decide +kernel
theorem dX11_reserveIt_8 : decode cX11_reserveIt 8 = .ok (.iconst 0, 1) := by decide +kernel
theorem dX11_reserveIt_9 : decode cX11_reserveIt 9 = .ok (.istore 5, 2) := by decide +kernel
theorem dX11_reserveIt_11 : decode cX11_reserveIt 11 = .ok (.iload 5, 2) := by decide +kernel
theorem dX11_reserveIt_13 : decode cX11_reserveIt 13 = .ok (.bipush 24, 2) := by decide +kernel
theorem dX11_reserveIt_15 : decode cX11_reserveIt 15 = .ok (.if_icmp .ge 18, 3) := by decide +kernel
theorem dX11_reserveIt_18 : decode cX11_reserveIt 18 = .ok (.aload_n 0, 1) := by decide +kernel
theorem dX11_reserveIt_19 : decode cX11_reserveIt 19 = .ok (.iload 4, 2) := by decide +kernel
theorem dX11_reserveIt_21 : decode cX11_reserveIt 21 = .ok (.iload 5, 2) := by decide +kernel
theorem dX11_reserveIt_23 : decode cX11_reserveIt 23 = .ok (.iconst 0, 1) := by decide +kernel
theorem dX11_reserveIt_24 : decode cX11_reserveIt 24 = .ok (.invokevirtual 118, 3) := by decide +kernel
theorem dX11_reserveIt_27 : decode cX11_reserveIt 27 = .ok (.iinc 5 1, 3) := by decide +kernel
theorem dX11_reserveIt_30 : decode cX11_reserveIt 30 = .ok (.goto (-19), 3) := by decide +kernel
theorem dX11_reserveIt_33 : decode cX11_reserveIt 33 = .ok (.aload_n 0, 1) := by decide +kernel
theorem dX11_reserveIt_34 : decode cX11_reserveIt 34 = .ok (.iload 4, 2) := by decide +kernel
theorem dX11_reserveIt_36 : decode cX11_reserveIt 36 = .ok (.iconst 0, 1) := by decide +kernel
theorem dX11_reserveIt_37 : decode cX11_reserveIt 37 = .ok (.iload_n 1, 1) := by decide +kernel
theorem dX11_reserveIt_38 : decode cX11_reserveIt 38 = .ok (.invokevirtual 118, 3) := by decide +kernel
theorem dX11_reserveIt_41 : decode cX11_reserveIt 41 = .ok (.aload_n 0, 1) := by decide +kernel
theorem dX11_reserveIt_42 : decode cX11_reserveIt 42 = .ok (.iload 4, 2) := by decide +kernel
theorem dX11_reserveIt_44 : decode cX11_reserveIt 44 = .ok (.iconst 1, 1) := by decide +kernel
theorem dX11_reserveIt_45 : decode cX11_reserveIt 45 = .ok (.iload_n 2, 1) := by decide +kernel
theorem dX11_reserveIt_46 : decode cX11_reserveIt 46 = .ok (.invokevirtual 118, 3) := by decide +kernel
theorem dX11_reserveIt_49 : decode cX11_reserveIt 49 = .ok (.aload_n 0, 1) := by decide +kernel
theorem dX11_reserveIt_50 : decode cX11_reserveIt 50 = .ok (.iload 4, 2) := by decide +kernel
theorem dX11_reserveIt_52 : decode cX11_reserveIt 52 = .ok (.iconst 2, 1) := by decide +kernel
theorem dX11_reserveIt_53 : decode cX11_reserveIt 53 = .ok (.iload_n 3, 1) := by decide +kernel
theorem dX11_reserveIt_54 : decode cX11_reserveIt 54 = .ok (.invokevirtual 118, 3) := by decide +kernel
theorem dX11_reserveIt_57 : decode cX11_reserveIt 57 = .ok (.aload_n 0, 1) := by decide +kernel
theorem dX11_reserveIt_58 : decode cX11_reserveIt 58 = .ok (.iload 4, 2) := by decide +kernel
theorem dX11_reserveIt_60 : decode cX11_reserveIt 60 = .ok (.iconst 3, 1) := by decide +kernel
theorem dX11_reserveIt_61 : decode cX11_reserveIt 61 = .ok (.iconst 0, 1) := by decide +kernel
theorem dX11_reserveIt_62 : decode cX11_reserveIt 62 = .ok (.invokevirtual 118, 3) := by decide +kernel
theorem dX11_reserveIt_65 : decode cX11_reserveIt 65 = .ok (.aload_n 0, 1) := by decide +kernel
theorem dX11_reserveIt_66 : decode cX11_reserveIt 66 = .ok (.getfield 13, 3) := by decide +kernel
theorem dX11_reserveIt_69 : decode cX11_reserveIt 69 = .ok (.iconst 3, 1) := by decide +kernel
theorem dX11_reserveIt_70 : decode cX11_reserveIt 70 = .ok (.dup2, 1) := by decide +kernel
theorem dX11_reserveIt_71 : decode cX11_reserveIt 71 = .ok (.iaload, 1) := by decide +kernel
theorem dX11_reserveIt_72 : decode cX11_reserveIt 72 = .ok (.iconst 1, 1) := by decide +kernel
theorem dX11_reserveIt_73 : decode cX11_reserveIt 73 = .ok (.iadd, 1) := by decide +kernel
theorem dX11_reserveIt_74 : decode cX11_reserveIt 74 = .ok (.iastore, 1) := by decide +kernel
theorem dX11_reserveIt_75 : decode cX11_reserveIt 75 = .ok (.aload_n 0, 1) := by decide +kernel
theorem dX11_reserveIt_76 : decode cX11_reserveIt 76 = .ok (.iload 4, 2) := by decide +kernel
theorem dX11_reserveIt_78 : decode cX11_reserveIt 78 = .ok (.iload_n 2, 1) := by decide +kernel
theorem dX11_reserveIt_79 : decode cX11_reserveIt 79 = .ok (.iload_n 3, 1) := by decide +kernel
theorem dX11_reserveIt_80 : decode cX11_reserveIt 80 = .ok (.invokevirtual 136, 3) := by decide +kernel
theorem dX11_reserveIt_83 : decode cX11_reserveIt 83 = .ok (.pop, 1) := by decide +kernel
theorem dX11_reserveIt_84 : decode cX11_reserveIt 84 = .ok (.iload 4, 2) := by decide +kernel
theorem dX11_reserveIt_86 : decode cX11_reserveIt 86 = .ok (.ireturn, 1) := by decide +kernel
theorem dX11_shipIt_0 : decode cX11_shipIt 0 = .ok (.iconst 0, 1) := by decide +kernel
theorem dX11_shipIt_1 : decode cX11_shipIt 1 = .ok (.istore_n 2, 1) := by decide +kernel
theorem dX11_shipIt_2 : decode cX11_shipIt 2 = .ok (.iconst 0, 1) := by decide +kernel
theorem dX11_shipIt_3 : decode cX11_shipIt 3 = .ok (.istore_n 3, 1) := by decide +kernel
theorem dX11_shipIt_4 : decode cX11_shipIt 4 = .ok (.iload_n 3, 1) := by decide +kernel
theorem dX11_shipIt_5 : decode cX11_shipIt 5 = .ok (.aload_n 0, 1) := by decide +kernel
theorem dX11_shipIt_6 : decode cX11_shipIt 6 = .ok (.getfield 13, 3) := by decide +kernel
theorem dX11_shipIt_9 : decode cX11_shipIt 9 = .ok (.iconst 2, 1) := by decide +kernel
theorem dX11_shipIt_10 : decode cX11_shipIt 10 = .ok (.iaload, 1) := by decide +kernel
theorem dX11_shipIt_11 : decode cX11_shipIt 11 = .ok (.if_icmp .ge 46, 3) := by decide +kernel
theorem dX11_shipIt_14 : decode cX11_shipIt 14 = .ok (.aload_n 0, 1) := by decide +kernel
theorem dX11_shipIt_15 : decode cX11_shipIt 15 = .ok (.iload_n 1, 1) := by decide +kernel
theorem dX11_shipIt_16 : decode cX11_shipIt 16 = .ok (.iconst 4, 1) := by decide +kernel
theorem dX11_shipIt_17 : decode cX11_shipIt 17 = .ok (.iload_n 3, 1) := by decide +kernel
theorem dX11_shipIt_18 : decode cX11_shipIt 18 = .ok (.iadd, 1) := by decide +kernel
theorem dX11_shipIt_19 : decode cX11_shipIt 19 = .ok (.invokevirtual 83, 3) := by decide +kernel
theorem dX11_shipIt_22 : decode cX11_shipIt 22 = .ok (.istore 4, 2) := by decide +kernel
theorem dX11_shipIt_24 : decode cX11_shipIt 24 = .ok (.aload_n 0, 1) := by decide +kernel
theorem dX11_shipIt_25 : decode cX11_shipIt 25 = .ok (.iload_n 3, 1) := by decide +kernel
theorem dX11_shipIt_26 : decode cX11_shipIt 26 = .ok (.iconst 1, 1) := by decide +kernel
theorem dX11_shipIt_27 : decode cX11_shipIt 27 = .ok (.aload_n 0, 1) := by decide +kernel
theorem dX11_shipIt_28 : decode cX11_shipIt 28 = .ok (.iload_n 3, 1) := by decide +kernel
theorem dX11_shipIt_29 : decode cX11_shipIt 29 = .ok (.iconst 1, 1) := by decide +kernel
theorem dX11_shipIt_30 : decode cX11_shipIt 30 = .ok (.invokevirtual 91, 3) := by decide +kernel
theorem dX11_shipIt_33 : decode cX11_shipIt 33 = .ok (.iload 4, 2) := by decide +kernel
theorem dX11_shipIt_35 : decode cX11_shipIt 35 = .ok (.isub, 1) := by decide +kernel
theorem dX11_shipIt_36 : decode cX11_shipIt 36 = .ok (.invokevirtual 111, 3) := by decide +kernel
theorem dX11_shipIt_39 : decode cX11_shipIt 39 = .ok (.iload_n 2, 1) := by decide +kernel
theorem dX11_shipIt_40 : decode cX11_shipIt 40 = .ok (.iload 4, 2) := by decide +kernel
theorem dX11_shipIt_42 : decode cX11_shipIt 42 = .ok (.aload_n 0, 1) := by decide +kernel
theorem dX11_shipIt_43 : decode cX11_shipIt 43 = .ok (.iload_n 3, 1) := by decide +kernel
theorem dX11_shipIt_44 : decode cX11_shipIt 44 = .ok (.iconst 3, 1) := by decide +kernel
theorem dX11_shipIt_45 : decode cX11_shipIt 45 = .ok (.invokevirtual 91, 3) := by decide +kernel
theorem dX11_shipIt_48 : decode cX11_shipIt 48 = .ok (.imul, 1) := by decide +kernel
theorem dX11_shipIt_49 : decode cX11_shipIt 49 = .ok (.iadd, 1) := by decide +kernel
theorem dX11_shipIt_50 : decode cX11_shipIt 50 = .ok (.istore_n 2, 1) := by decide +kernel
theorem dX11_shipIt_51 : decode cX11_shipIt 51 = .ok (.iinc 3 1, 3) := by decide +kernel
theorem dX11_shipIt_54 : decode cX11_shipIt 54 = .ok (.goto (-50), 3) := by decide +kernel
theorem dX11_shipIt_57 : decode cX11_shipIt 57 = .ok (.aload_n 0, 1) := by decide +kernel
theorem dX11_shipIt_58 : decode cX11_shipIt 58 = .ok (.aload_n 0, 1) := by decide +kernel
theorem dX11_shipIt_59 : decode cX11_shipIt 59 = .ok (.iload_n 1, 1) := by decide +kernel
theorem dX11_shipIt_60 : decode cX11_shipIt 60 = .ok (.iconst 0, 1) := by decide +kernel
theorem dX11_shipIt_61 : decode cX11_shipIt 61 = .ok (.invokevirtual 83, 3) := by decide +kernel
theorem dX11_shipIt_64 : decode cX11_shipIt 64 = .ok (.bipush 9, 2) := by decide +kernel
theorem dX11_shipIt_66 : decode cX11_shipIt 66 = .ok (.aload_n 0, 1) := by decide +kernel
theorem dX11_shipIt_67 : decode cX11_shipIt 67 = .ok (.iload_n 1, 1) := by decide +kernel
theorem dX11_shipIt_68 : decode cX11_shipIt 68 = .ok (.invokevirtual 121, 3) := by decide +kernel
theorem dX11_shipIt_71 : decode cX11_shipIt 71 = .ok (.invokevirtual 115, 3) := by decide +kernel
theorem dX11_shipIt_74 : decode cX11_shipIt 74 = .ok (.aload_n 0, 1) := by decide +kernel
theorem dX11_shipIt_75 : decode cX11_shipIt 75 = .ok (.iload_n 1, 1) := by decide +kernel
theorem dX11_shipIt_76 : decode cX11_shipIt 76 = .ok (.iconst 3, 1) := by decide +kernel
theorem dX11_shipIt_77 : decode cX11_shipIt 77 = .ok (.iconst 1, 1) := by decide +kernel
theorem dX11_shipIt_78 : decode cX11_shipIt 78 = .ok (.invokevirtual 118, 3) := by decide +kernel
theorem dX11_shipIt_81 : decode cX11_shipIt 81 = .ok (.iload_n 2, 1) := by decide +kernel
theorem dX11_shipIt_82 : decode cX11_shipIt 82 = .ok (.ireturn, 1) := by decide +kernel
theorem dX11_cancelIt_0 : decode cX11_cancelIt 0 = .ok (.aload_n 0, 1) := by decide +kernel
theorem dX11_cancelIt_1 : decode cX11_cancelIt 1 = .ok (.iload_n 1, 1) := by decide +kernel
theorem dX11_cancelIt_2 : decode cX11_cancelIt 2 = .ok (.iconst 3, 1) := by decide +kernel
theorem dX11_cancelIt_3 : decode cX11_cancelIt 3 = .ok (.iconst 2, 1) := by decide +kernel
theorem dX11_cancelIt_4 : decode cX11_cancelIt 4 = .ok (.invokevirtual 118, 3) := by decide +kernel
theorem dX11_cancelIt_7 : decode cX11_cancelIt 7 = .ok (.aload_n 0, 1) := by decide +kernel
theorem dX11_cancelIt_8 : decode cX11_cancelIt 8 = .ok (.iload_n 1, 1) := by decide +kernel
theorem dX11_cancelIt_9 : decode cX11_cancelIt 9 = .ok (.invokevirtual 121, 3) := by decide +kernel
theorem dX11_cancelIt_12 : decode cX11_cancelIt 12 = .ok (.ireturn, 1) := by decide +kernel
theorem dX11_refillIt_0 : decode cX11_refillIt 0 = .ok (.aload_n 0, 1) := by decide +kernel
theorem dX11_refillIt_1 : decode cX11_refillIt 1 = .ok (.iload_n 1, 1) := by decide +kernel
theorem dX11_refillIt_2 : decode cX11_refillIt 2 = .ok (.iconst 2, 1) := by decide +kernel
theorem dX11_refillIt_3 : decode cX11_refillIt 3 = .ok (.invokevirtual 83, 3) := by decide +kernel
theorem dX11_refillIt_6 : decode cX11_refillIt 6 = .ok (.istore_n 2, 1) := by decide +kernel
theorem dX11_refillIt_7 : decode cX11_refillIt 7 = .ok (.aload_n 0, 1) := by decide +kernel
theorem dX11_refillIt_8 : decode cX11_refillIt 8 = .ok (.iload_n 1, 1) := by decide +kernel
theorem dX11_refillIt_9 : decode cX11_refillIt 9 = .ok (.aload_n 0, 1) := by decide +kernel
theorem dX11_refillIt_10 : decode cX11_refillIt 10 = .ok (.iload_n 1, 1) := by decide +kernel
theorem dX11_refillIt_11 : decode cX11_refillIt 11 = .ok (.invokevirtual 133, 3) := by decide +kernel
theorem dX11_refillIt_14 : decode cX11_refillIt 14 = .ok (.iload_n 2, 1) := by decide +kernel
theorem dX11_refillIt_15 : decode cX11_refillIt 15 = .ok (.aload_n 0, 1) := by decide +kernel
theorem dX11_refillIt_16 : decode cX11_refillIt 16 = .ok (.getfield 13, 3) := by decide +kernel
theorem dX11_refillIt_19 : decode cX11_refillIt 19 = .ok (.iconst 0, 1) := by decide +kernel
theorem dX11_refillIt_20 : decode cX11_refillIt 20 = .ok (.iaload, 1) := by decide +kernel
theorem dX11_refillIt_21 : decode cX11_refillIt 21 = .ok (.if_icmp .le 7, 3) := by decide +kernel
theorem dX11_refillIt_24 : decode cX11_refillIt 24 = .ok (.iload_n 2, 1) := by decide +kernel
theorem dX11_refillIt_25 : decode cX11_refillIt 25 = .ok (.goto 9, 3) := by decide +kernel
theorem dX11_refillIt_28 : decode cX11_refillIt 28 = .ok (.aload_n 0, 1) := by decide +kernel
theorem dX11_refillIt_29 : decode cX11_refillIt 29 = .ok (.getfield 13, 3) := by decide +kernel
theorem dX11_refillIt_32 : decode cX11_refillIt 32 = .ok (.iconst 0, 1) := by decide +kernel
theorem dX11_refillIt_33 : decode cX11_refillIt 33 = .ok (.iaload, 1) := by decide +kernel
theorem dX11_refillIt_34 : decode cX11_refillIt 34 = .ok (.invokevirtual 136, 3) := by decide +kernel
theorem dX11_refillIt_37 : decode cX11_refillIt 37 = .ok (.ireturn, 1) := by decide +kernel
theorem dX11_countIt_0 : decode cX11_countIt 0 = .ok (.iload_n 2, 1) := by decide +kernel
theorem dX11_countIt_1 : decode cX11_countIt 1 = .ok (.aload_n 0, 1) := by decide +kernel
theorem dX11_countIt_2 : decode cX11_countIt 2 = .ok (.iload_n 1, 1) := by decide +kernel
theorem dX11_countIt_3 : decode cX11_countIt 3 = .ok (.iconst 1, 1) := by decide +kernel
theorem dX11_countIt_4 : decode cX11_countIt 4 = .ok (.invokevirtual 91, 3) := by decide +kernel
theorem dX11_countIt_7 : decode cX11_countIt 7 = .ok (.isub, 1) := by decide +kernel
theorem dX11_countIt_8 : decode cX11_countIt 8 = .ok (.istore_n 3, 1) := by decide +kernel
theorem dX11_countIt_9 : decode cX11_countIt 9 = .ok (.aload_n 0, 1) := by decide +kernel
theorem dX11_countIt_10 : decode cX11_countIt 10 = .ok (.iload_n 1, 1) := by decide +kernel
theorem dX11_countIt_11 : decode cX11_countIt 11 = .ok (.iconst 1, 1) := by decide +kernel
theorem dX11_countIt_12 : decode cX11_countIt 12 = .ok (.iload_n 2, 1) := by decide +kernel
theorem dX11_countIt_13 : decode cX11_countIt 13 = .ok (.invokevirtual 111, 3) := by decide +kernel
theorem dX11_countIt_16 : decode cX11_countIt 16 = .ok (.aload_n 0, 1) := by decide +kernel
theorem dX11_countIt_17 : decode cX11_countIt 17 = .ok (.aload_n 0, 1) := by decide +kernel
theorem dX11_countIt_18 : decode cX11_countIt 18 = .ok (.iload_n 1, 1) := by decide +kernel
theorem dX11_countIt_19 : decode cX11_countIt 19 = .ok (.iconst 0, 1) := by decide +kernel
theorem dX11_countIt_20 : decode cX11_countIt 20 = .ok (.invokevirtual 91, 3) := by decide +kernel
theorem dX11_countIt_23 : decode cX11_countIt 23 = .ok (.bipush 11, 2) := by decide +kernel
theorem dX11_countIt_25 : decode cX11_countIt 25 = .ok (.iload_n 3, 1) := by decide +kernel
theorem dX11_countIt_26 : decode cX11_countIt 26 = .ok (.invokevirtual 115, 3) := by decide +kernel
theorem dX11_countIt_29 : decode cX11_countIt 29 = .ok (.iload_n 3, 1) := by decide +kernel
theorem dX11_countIt_30 : decode cX11_countIt 30 = .ok (.ireturn, 1) := by decide +kernel
theorem dX11_pastBatches_0 : decode cX11_pastBatches 0 = .ok (.iconst 0, 1) := by decide +kernel
theorem dX11_pastBatches_1 : decode cX11_pastBatches 1 = .ok (.istore_n 1, 1) := by decide +kernel
theorem dX11_pastBatches_2 : decode cX11_pastBatches 2 = .ok (.iconst 0, 1) := by decide +kernel
theorem dX11_pastBatches_3 : decode cX11_pastBatches 3 = .ok (.istore_n 2, 1) := by decide +kernel
theorem dX11_pastBatches_4 : decode cX11_pastBatches 4 = .ok (.iload_n 2, 1) := by decide +kernel
theorem dX11_pastBatches_5 : decode cX11_pastBatches 5 = .ok (.aload_n 0, 1) := by decide +kernel
theorem dX11_pastBatches_6 : decode cX11_pastBatches 6 = .ok (.getfield 13, 3) := by decide +kernel
theorem dX11_pastBatches_9 : decode cX11_pastBatches 9 = .ok (.iconst 2, 1) := by decide +kernel
theorem dX11_pastBatches_10 : decode cX11_pastBatches 10 = .ok (.iaload, 1) := by decide +kernel
theorem dX11_pastBatches_11 : decode cX11_pastBatches 11 = .ok (.if_icmp .ge 34, 3) := by decide +kernel
theorem dX11_pastBatches_14 : decode cX11_pastBatches 14 = .ok (.iload_n 1, 1) := by decide +kernel
theorem dX11_pastBatches_15 : decode cX11_pastBatches 15 = .ok (.aload_n 0, 1) := by decide +kernel
theorem dX11_pastBatches_16 : decode cX11_pastBatches 16 = .ok (.iload_n 2, 1) := by decide +kernel
theorem dX11_pastBatches_17 : decode cX11_pastBatches 17 = .ok (.invokevirtual 124, 3) := by decide +kernel
theorem dX11_pastBatches_20 : decode cX11_pastBatches 20 = .ok (.ifCond .eq 16, 3) := by decide +kernel
theorem dX11_pastBatches_23 : decode cX11_pastBatches 23 = .ok (.aload_n 0, 1) := by decide +kernel
theorem dX11_pastBatches_24 : decode cX11_pastBatches 24 = .ok (.iload_n 2, 1) := by decide +kernel
theorem dX11_pastBatches_25 : decode cX11_pastBatches 25 = .ok (.iconst 1, 1) := by decide +kernel
theorem dX11_pastBatches_26 : decode cX11_pastBatches 26 = .ok (.invokevirtual 91, 3) := by decide +kernel
theorem dX11_pastBatches_29 : decode cX11_pastBatches 29 = .ok (.ifCond .le 7, 3) := by decide +kernel
theorem dX11_pastBatches_32 : decode cX11_pastBatches 32 = .ok (.iconst 1, 1) := by decide +kernel
theorem dX11_pastBatches_33 : decode cX11_pastBatches 33 = .ok (.goto 4, 3) := by decide +kernel
theorem dX11_pastBatches_36 : decode cX11_pastBatches 36 = .ok (.iconst 0, 1) := by decide +kernel
theorem dX11_pastBatches_37 : decode cX11_pastBatches 37 = .ok (.iadd, 1) := by decide +kernel
theorem dX11_pastBatches_38 : decode cX11_pastBatches 38 = .ok (.istore_n 1, 1) := by decide +kernel
theorem dX11_pastBatches_39 : decode cX11_pastBatches 39 = .ok (.iinc 2 1, 3) := by decide +kernel
theorem dX11_pastBatches_42 : decode cX11_pastBatches 42 = .ok (.goto (-38), 3) := by decide +kernel
theorem dX11_pastBatches_45 : decode cX11_pastBatches 45 = .ok (.iload_n 1, 1) := by decide +kernel
theorem dX11_pastBatches_46 : decode cX11_pastBatches 46 = .ok (.ireturn, 1) := by decide +kernel
theorem dX11_daysIt_0 : decode cX11_daysIt 0 = .ok (.aload_n 0, 1) := by decide +kernel
theorem dX11_daysIt_1 : decode cX11_daysIt 1 = .ok (.invokevirtual 140, 3) := by decide +kernel
theorem dX11_daysIt_4 : decode cX11_daysIt 4 = .ok (.istore_n 2, 1) := by decide +kernel
theorem dX11_daysIt_5 : decode cX11_daysIt 5 = .ok (.aload_n 0, 1) := by decide +kernel
theorem dX11_daysIt_6 : decode cX11_daysIt 6 = .ok (.getfield 13, 3) := by decide +kernel
theorem dX11_daysIt_9 : decode cX11_daysIt 9 = .ok (.iconst 0, 1) := by decide +kernel
theorem dX11_daysIt_10 : decode cX11_daysIt 10 = .ok (.dup2, 1) := by decide +kernel
theorem dX11_daysIt_11 : decode cX11_daysIt 11 = .ok (.iaload, 1) := by decide +kernel
theorem dX11_daysIt_12 : decode cX11_daysIt 12 = .ok (.iload_n 1, 1) := by decide +kernel
theorem dX11_daysIt_13 : decode cX11_daysIt 13 = .ok (.iadd, 1) := by decide +kernel
theorem dX11_daysIt_14 : decode cX11_daysIt 14 = .ok (.iastore, 1) := by decide +kernel
theorem dX11_daysIt_15 : decode cX11_daysIt 15 = .ok (.aload_n 0, 1) := by decide +kernel
theorem dX11_daysIt_16 : decode cX11_daysIt 16 = .ok (.invokevirtual 140, 3) := by decide +kernel
theorem dX11_daysIt_19 : decode cX11_daysIt 19 = .ok (.iload_n 2, 1) := by decide +kernel
theorem dX11_daysIt_20 : decode cX11_daysIt 20 = .ok (.isub, 1) := by decide +kernel
theorem dX11_daysIt_21 : decode cX11_daysIt 21 = .ok (.ireturn, 1) := by decide +kernel
theorem dX11_canIssue_0 : decode cX11_canIssue 0 = .ok (.aload_n 0, 1) := by decide +kernel
theorem dX11_canIssue_1 : decode cX11_canIssue 1 = .ok (.iload_n 1, 1) := by decide +kernel
theorem dX11_canIssue_2 : decode cX11_canIssue 2 = .ok (.aload_n 0, 1) := by decide +kernel
theorem dX11_canIssue_3 : decode cX11_canIssue 3 = .ok (.getfield 13, 3) := by decide +kernel
theorem dX11_canIssue_6 : decode cX11_canIssue 6 = .ok (.iconst 0, 1) := by decide +kernel
theorem dX11_canIssue_7 : decode cX11_canIssue 7 = .ok (.iaload, 1) := by decide +kernel
theorem dX11_canIssue_8 : decode cX11_canIssue 8 = .ok (.invokevirtual 130, 3) := by decide +kernel
theorem dX11_canIssue_11 : decode cX11_canIssue 11 = .ok (.iload_n 2, 1) := by decide +kernel
theorem dX11_canIssue_12 : decode cX11_canIssue 12 = .ok (.if_icmp .lt 7, 3) := by decide +kernel
theorem dX11_canIssue_15 : decode cX11_canIssue 15 = .ok (.iconst 1, 1) := by decide +kernel
theorem dX11_canIssue_16 : decode cX11_canIssue 16 = .ok (.goto 4, 3) := by decide +kernel
theorem dX11_canIssue_19 : decode cX11_canIssue 19 = .ok (.iconst 0, 1) := by decide +kernel
theorem dX11_canIssue_20 : decode cX11_canIssue 20 = .ok (.ireturn, 1) := by decide +kernel
theorem dX11_canReserve_0 : decode cX11_canReserve 0 = .ok (.aload_n 0, 1) := by decide +kernel
theorem dX11_canReserve_1 : decode cX11_canReserve 1 = .ok (.getfield 13, 3) := by decide +kernel
theorem dX11_canReserve_4 : decode cX11_canReserve 4 = .ok (.iconst 3, 1) := by decide +kernel
theorem dX11_canReserve_5 : decode cX11_canReserve 5 = .ok (.iaload, 1) := by decide +kernel
theorem dX11_canReserve_6 : decode cX11_canReserve 6 = .ok (.bipush 10, 2) := by decide +kernel
theorem dX11_canReserve_8 : decode cX11_canReserve 8 = .ok (.if_icmp .ge 17, 3) := by decide +kernel
theorem dX11_canReserve_11 : decode cX11_canReserve 11 = .ok (.aload_n 0, 1) := by decide +kernel
theorem dX11_canReserve_12 : decode cX11_canReserve 12 = .ok (.iload_n 1, 1) := by decide +kernel
theorem dX11_canReserve_13 : decode cX11_canReserve 13 = .ok (.iload_n 3, 1) := by decide +kernel
theorem dX11_canReserve_14 : decode cX11_canReserve 14 = .ok (.invokevirtual 130, 3) := by decide +kernel
theorem dX11_canReserve_17 : decode cX11_canReserve 17 = .ok (.iload_n 2, 1) := by decide +kernel
theorem dX11_canReserve_18 : decode cX11_canReserve 18 = .ok (.if_icmp .lt 7, 3) := by decide +kernel
theorem dX11_canReserve_21 : decode cX11_canReserve 21 = .ok (.iconst 1, 1) := by decide +kernel
theorem dX11_canReserve_22 : decode cX11_canReserve 22 = .ok (.goto 4, 3) := by decide +kernel
theorem dX11_canReserve_25 : decode cX11_canReserve 25 = .ok (.iconst 0, 1) := by decide +kernel
theorem dX11_canReserve_26 : decode cX11_canReserve 26 = .ok (.ireturn, 1) := by decide +kernel
theorem dX11_isBatchData_0 : decode cX11_isBatchData 0 = .ok (.iload_n 0, 1) := by decide +kernel
theorem dX11_isBatchData_1 : decode cX11_isBatchData 1 = .ok (.iconst 1, 1) := by decide +kernel
theorem dX11_isBatchData_2 : decode cX11_isBatchData 2 = .ok (.sipush 999, 3) := by decide +kernel
theorem dX11_isBatchData_5 : decode cX11_isBatchData 5 = .ok (.invokestatic 75, 3) := by decide +kernel
theorem dX11_isBatchData_8 : decode cX11_isBatchData 8 = .ok (.ifCond .eq 29, 3) := by decide +kernel
theorem dX11_isBatchData_11 : decode cX11_isBatchData 11 = .ok (.iload_n 1, 1) := by decide +kernel
theorem dX11_isBatchData_12 : decode cX11_isBatchData 12 = .ok (.iconst 0, 1) := by decide +kernel
theorem dX11_isBatchData_13 : decode cX11_isBatchData 13 = .ok (.sipush 9999, 3) := by decide +kernel
theorem dX11_isBatchData_16 : decode cX11_isBatchData 16 = .ok (.invokestatic 75, 3) := by decide +kernel
theorem dX11_isBatchData_19 : decode cX11_isBatchData 19 = .ok (.ifCond .eq 18, 3) := by decide +kernel
theorem dX11_isBatchData_22 : decode cX11_isBatchData 22 = .ok (.iload_n 2, 1) := by decide +kernel
theorem dX11_isBatchData_23 : decode cX11_isBatchData 23 = .ok (.iconst 1, 1) := by decide +kernel
theorem dX11_isBatchData_24 : decode cX11_isBatchData 24 = .ok (.sipush 999, 3) := by decide +kernel
theorem dX11_isBatchData_27 : decode cX11_isBatchData 27 = .ok (.invokestatic 75, 3) := by decide +kernel
theorem dX11_isBatchData_30 : decode cX11_isBatchData 30 = .ok (.ifCond .eq 7, 3) := by decide +kernel
theorem dX11_isBatchData_33 : decode cX11_isBatchData 33 = .ok (.iconst 1, 1) := by decide +kernel
theorem dX11_isBatchData_34 : decode cX11_isBatchData 34 = .ok (.goto 4, 3) := by decide +kernel
theorem dX11_isBatchData_37 : decode cX11_isBatchData 37 = .ok (.iconst 0, 1) := by decide +kernel
theorem dX11_isBatchData_38 : decode cX11_isBatchData 38 = .ok (.ireturn, 1) := by decide +kernel
theorem dX11_appendWord_0 : decode cX11_appendWord 0 = .ok (.bipush 24, 2) := by decide +kernel
theorem dX11_appendWord_2 : decode cX11_appendWord 2 = .ok (.istore_n 2, 1) := by decide +kernel
theorem dX11_appendWord_3 : decode cX11_appendWord 3 = .ok (.iload_n 2, 1) := by decide +kernel
theorem dX11_appendWord_4 : decode cX11_appendWord 4 = .ok (.ifCond .lt 35, 3) := by decide +kernel
theorem dX11_appendWord_7 : decode cX11_appendWord 7 = .ok (.aload_n 0, 1) := by decide +kernel
theorem dX11_appendWord_8 : decode cX11_appendWord 8 = .ok (.getfield 24, 3) := by decide +kernel
theorem dX11_appendWord_11 : decode cX11_appendWord 11 = .ok (.aload_n 0, 1) := by decide +kernel
theorem dX11_appendWord_12 : decode cX11_appendWord 12 = .ok (.getfield 27, 3) := by decide +kernel
theorem dX11_appendWord_15 : decode cX11_appendWord 15 = .ok (.iload_n 1, 1) := by decide +kernel
theorem dX11_appendWord_16 : decode cX11_appendWord 16 = .ok (.iload_n 2, 1) := by decide +kernel
theorem dX11_appendWord_17 : decode cX11_appendWord 17 = .ok (.ishr, 1) := by decide +kernel
theorem dX11_appendWord_18 : decode cX11_appendWord 18 = .ok (.sipush 255, 3) := by decide +kernel
theorem dX11_appendWord_21 : decode cX11_appendWord 21 = .ok (.iand, 1) := by decide +kernel
theorem dX11_appendWord_22 : decode cX11_appendWord 22 = .ok (.iastore, 1) := by decide +kernel
theorem dX11_appendWord_23 : decode cX11_appendWord 23 = .ok (.aload_n 0, 1) := by decide +kernel
theorem dX11_appendWord_24 : decode cX11_appendWord 24 = .ok (.dup, 1) := by decide +kernel
theorem dX11_appendWord_25 : decode cX11_appendWord 25 = .ok (.getfield 27, 3) := by decide +kernel
theorem dX11_appendWord_28 : decode cX11_appendWord 28 = .ok (.iconst 1, 1) := by decide +kernel
theorem dX11_appendWord_29 : decode cX11_appendWord 29 = .ok (.iadd, 1) := by decide +kernel
theorem dX11_appendWord_30 : decode cX11_appendWord 30 = .ok (.putfield 27, 3) := by decide +kernel
theorem dX11_appendWord_33 : decode cX11_appendWord 33 = .ok (.iinc 2 (-8), 3) := by decide +kernel
theorem dX11_appendWord_36 : decode cX11_appendWord 36 = .ok (.goto (-33), 3) := by decide +kernel
theorem dX11_appendWord_39 : decode cX11_appendWord 39 = .ok (.return_, 1) := by decide +kernel
theorem dX11_append_0 : decode cX11_append 0 = .ok (.aload_n 0, 1) := by decide +kernel
theorem dX11_append_1 : decode cX11_append 1 = .ok (.aload_n 0, 1) := by decide +kernel
theorem dX11_append_2 : decode cX11_append 2 = .ok (.getfield 27, 3) := by decide +kernel
theorem dX11_append_5 : decode cX11_append 5 = .ok (.bipush 20, 2) := by decide +kernel
theorem dX11_append_7 : decode cX11_append 7 = .ok (.iadd, 1) := by decide +kernel
theorem dX11_append_8 : decode cX11_append 8 = .ok (.sipush 600, 3) := by decide +kernel
theorem dX11_append_11 : decode cX11_append 11 = .ok (.if_icmp .le 7, 3) := by decide +kernel
theorem dX11_append_14 : decode cX11_append 14 = .ok (.iconst 1, 1) := by decide +kernel
theorem dX11_append_15 : decode cX11_append 15 = .ok (.goto 4, 3) := by decide +kernel
theorem dX11_append_18 : decode cX11_append 18 = .ok (.iconst 0, 1) := by decide +kernel
theorem dX11_append_19 : decode cX11_append 19 = .ok (.iconst 0, 1) := by decide +kernel
theorem dX11_append_20 : decode cX11_append 20 = .ok (.iconst 0, 1) := by decide +kernel
theorem dX11_append_21 : decode cX11_append 21 = .ok (.invokevirtual 143, 3) := by decide +kernel
theorem dX11_append_24 : decode cX11_append 24 = .ok (.ifCond .eq 5, 3) := by decide +kernel
theorem dX11_append_27 : decode cX11_append 27 = .ok (.iconst 0, 1) := by decide +kernel
theorem dX11_append_28 : decode cX11_append 28 = .ok (.ireturn, 1) := by decide +kernel
theorem dX11_append_29 : decode cX11_append 29 = .ok (.aload_n 0, 1) := by decide +kernel
theorem dX11_append_30 : decode cX11_append 30 = .ok (.iload_n 1, 1) := by decide +kernel
theorem dX11_append_31 : decode cX11_append 31 = .ok (.invokevirtual 147, 3) := by decide +kernel
theorem dX11_append_34 : decode cX11_append 34 = .ok (.aload_n 0, 1) := by decide +kernel
theorem dX11_append_35 : decode cX11_append 35 = .ok (.iload_n 2, 1) := by decide +kernel
theorem dX11_append_36 : decode cX11_append 36 = .ok (.invokevirtual 147, 3) := by decide +kernel
theorem dX11_append_39 : decode cX11_append 39 = .ok (.aload_n 0, 1) := by decide +kernel
theorem dX11_append_40 : decode cX11_append 40 = .ok (.iload_n 3, 1) := by decide +kernel
theorem dX11_append_41 : decode cX11_append 41 = .ok (.invokevirtual 147, 3) := by decide +kernel
theorem dX11_append_44 : decode cX11_append 44 = .ok (.aload_n 0, 1) := by decide +kernel
theorem dX11_append_45 : decode cX11_append 45 = .ok (.iload 4, 2) := by decide +kernel
theorem dX11_append_47 : decode cX11_append 47 = .ok (.invokevirtual 147, 3) := by decide +kernel
theorem dX11_append_50 : decode cX11_append 50 = .ok (.aload_n 0, 1) := by decide +kernel
theorem dX11_append_51 : decode cX11_append 51 = .ok (.iload 5, 2) := by decide +kernel
theorem dX11_append_53 : decode cX11_append 53 = .ok (.invokevirtual 147, 3) := by decide +kernel
theorem dX11_append_56 : decode cX11_append 56 = .ok (.aload_n 0, 1) := by decide +kernel
theorem dX11_append_57 : decode cX11_append 57 = .ok (.getfield 27, 3) := by decide +kernel
theorem dX11_append_60 : decode cX11_append 60 = .ok (.ireturn, 1) := by decide +kernel
theorem dX11_truncate_0 : decode cX11_truncate 0 = .ok (.aload_n 0, 1) := by decide +kernel
theorem dX11_truncate_1 : decode cX11_truncate 1 = .ok (.iload_n 1, 1) := by decide +kernel
theorem dX11_truncate_2 : decode cX11_truncate 2 = .ok (.iconst 0, 1) := by decide +kernel
theorem dX11_truncate_3 : decode cX11_truncate 3 = .ok (.aload_n 0, 1) := by decide +kernel
theorem dX11_truncate_4 : decode cX11_truncate 4 = .ok (.getfield 27, 3) := by decide +kernel
theorem dX11_truncate_7 : decode cX11_truncate 7 = .ok (.invokestatic 75, 3) := by decide +kernel
theorem dX11_truncate_10 : decode cX11_truncate 10 = .ok (.ifCond .ne 7, 3) := by decide +kernel
theorem dX11_truncate_13 : decode cX11_truncate 13 = .ok (.iconst 1, 1) := by decide +kernel
theorem dX11_truncate_14 : decode cX11_truncate 14 = .ok (.goto 4, 3) := by decide +kernel
theorem dX11_truncate_17 : decode cX11_truncate 17 = .ok (.iconst 0, 1) := by decide +kernel
theorem dX11_truncate_18 : decode cX11_truncate 18 = .ok (.iconst 0, 1) := by decide +kernel
theorem dX11_truncate_19 : decode cX11_truncate 19 = .ok (.iconst 0, 1) := by decide +kernel
theorem dX11_truncate_20 : decode cX11_truncate 20 = .ok (.invokevirtual 143, 3) := by decide +kernel
theorem dX11_truncate_23 : decode cX11_truncate 23 = .ok (.ifCond .eq 5, 3) := by decide +kernel
theorem dX11_truncate_26 : decode cX11_truncate 26 = .ok (.iconst 0, 1) := by decide +kernel
theorem dX11_truncate_27 : decode cX11_truncate 27 = .ok (.ireturn, 1) := by decide +kernel
theorem dX11_truncate_28 : decode cX11_truncate 28 = .ok (.aload_n 0, 1) := by decide +kernel
theorem dX11_truncate_29 : decode cX11_truncate 29 = .ok (.iload_n 1, 1) := by decide +kernel
theorem dX11_truncate_30 : decode cX11_truncate 30 = .ok (.putfield 27, 3) := by decide +kernel
theorem dX11_truncate_33 : decode cX11_truncate 33 = .ok (.iload_n 1, 1) := by decide +kernel
theorem dX11_truncate_34 : decode cX11_truncate 34 = .ok (.ireturn, 1) := by decide +kernel
theorem dX11_isSmall_0 : decode cX11_isSmall 0 = .ok (.iload_n 0, 1) := by decide +kernel
theorem dX11_isSmall_1 : decode cX11_isSmall 1 = .ok (.bipush 97, 2) := by decide +kernel
theorem dX11_isSmall_3 : decode cX11_isSmall 3 = .ok (.if_icmp .lt 13, 3) := by decide +kernel
theorem dX11_isSmall_6 : decode cX11_isSmall 6 = .ok (.iload_n 0, 1) := by decide +kernel
theorem dX11_isSmall_7 : decode cX11_isSmall 7 = .ok (.bipush 122, 2) := by decide +kernel
theorem dX11_isSmall_9 : decode cX11_isSmall 9 = .ok (.if_icmp .gt 7, 3) := by decide +kernel
theorem dX11_isSmall_12 : decode cX11_isSmall 12 = .ok (.iconst 1, 1) := by decide +kernel
theorem dX11_isSmall_13 : decode cX11_isSmall 13 = .ok (.goto 4, 3) := by decide +kernel
theorem dX11_isSmall_16 : decode cX11_isSmall 16 = .ok (.iconst 0, 1) := by decide +kernel
theorem dX11_isSmall_17 : decode cX11_isSmall 17 = .ok (.ireturn, 1) := by decide +kernel
theorem dX11_isDigit_0 : decode cX11_isDigit 0 = .ok (.iload_n 0, 1) := by decide +kernel
theorem dX11_isDigit_1 : decode cX11_isDigit 1 = .ok (.bipush 48, 2) := by decide +kernel
theorem dX11_isDigit_3 : decode cX11_isDigit 3 = .ok (.if_icmp .lt 13, 3) := by decide +kernel
theorem dX11_isDigit_6 : decode cX11_isDigit 6 = .ok (.iload_n 0, 1) := by decide +kernel
theorem dX11_isDigit_7 : decode cX11_isDigit 7 = .ok (.bipush 57, 2) := by decide +kernel
theorem dX11_isDigit_9 : decode cX11_isDigit 9 = .ok (.if_icmp .gt 7, 3) := by decide +kernel
theorem dX11_isDigit_12 : decode cX11_isDigit 12 = .ok (.iconst 1, 1) := by decide +kernel
theorem dX11_isDigit_13 : decode cX11_isDigit 13 = .ok (.goto 4, 3) := by decide +kernel
theorem dX11_isDigit_16 : decode cX11_isDigit 16 = .ok (.iconst 0, 1) := by decide +kernel
theorem dX11_isDigit_17 : decode cX11_isDigit 17 = .ok (.ireturn, 1) := by decide +kernel
theorem dX11_token_0 : decode cX11_token 0 = .ok (.aload_n 0, 1) := by decide +kernel
theorem dX11_token_1 : decode cX11_token 1 = .ok (.getfield 42, 3) := by decide +kernel
theorem dX11_token_4 : decode cX11_token 4 = .ok (.aload_n 0, 1) := by decide +kernel
theorem dX11_token_5 : decode cX11_token 5 = .ok (.getfield 27, 3) := by decide +kernel
theorem dX11_token_8 : decode cX11_token 8 = .ok (.if_icmp .ge 44, 3) := by decide +kernel
theorem dX11_token_11 : decode cX11_token 11 = .ok (.aload_n 0, 1) := by decide +kernel
theorem dX11_token_12 : decode cX11_token 12 = .ok (.getfield 24, 3) := by decide +kernel
theorem dX11_token_15 : decode cX11_token 15 = .ok (.aload_n 0, 1) := by decide +kernel
theorem dX11_token_16 : decode cX11_token 16 = .ok (.getfield 42, 3) := by decide +kernel
theorem dX11_token_19 : decode cX11_token 19 = .ok (.iaload, 1) := by decide +kernel
theorem dX11_token_20 : decode cX11_token 20 = .ok (.bipush 32, 2) := by decide +kernel
theorem dX11_token_22 : decode cX11_token 22 = .ok (.if_icmp .eq 17, 3) := by decide +kernel
theorem dX11_token_25 : decode cX11_token 25 = .ok (.aload_n 0, 1) := by decide +kernel
theorem dX11_token_26 : decode cX11_token 26 = .ok (.getfield 24, 3) := by decide +kernel
theorem dX11_token_29 : decode cX11_token 29 = .ok (.aload_n 0, 1) := by decide +kernel
theorem dX11_token_30 : decode cX11_token 30 = .ok (.getfield 42, 3) := by decide +kernel
theorem dX11_token_33 : decode cX11_token 33 = .ok (.iaload, 1) := by decide +kernel
theorem dX11_token_34 : decode cX11_token 34 = .ok (.bipush 10, 2) := by decide +kernel
theorem dX11_token_36 : decode cX11_token 36 = .ok (.if_icmp .ne 16, 3) := by decide +kernel
theorem dX11_token_39 : decode cX11_token 39 = .ok (.aload_n 0, 1) := by decide +kernel
theorem dX11_token_40 : decode cX11_token 40 = .ok (.dup, 1) := by decide +kernel
theorem dX11_token_41 : decode cX11_token 41 = .ok (.getfield 42, 3) := by decide +kernel
theorem dX11_token_44 : decode cX11_token 44 = .ok (.iconst 1, 1) := by decide +kernel
theorem dX11_token_45 : decode cX11_token 45 = .ok (.iadd, 1) := by decide +kernel
theorem dX11_token_46 : decode cX11_token 46 = .ok (.putfield 42, 3) := by decide +kernel
theorem dX11_token_49 : decode cX11_token 49 = .ok (.goto (-49), 3) := by decide +kernel
theorem dX11_token_52 : decode cX11_token 52 = .ok (.aload_n 0, 1) := by decide +kernel
theorem dX11_token_53 : decode cX11_token 53 = .ok (.aload_n 0, 1) := by decide +kernel
theorem dX11_token_54 : decode cX11_token 54 = .ok (.getfield 42, 3) := by decide +kernel
theorem dX11_token_57 : decode cX11_token 57 = .ok (.putfield 48, 3) := by decide +kernel
theorem dX11_token_60 : decode cX11_token 60 = .ok (.aload_n 0, 1) := by decide +kernel
theorem dX11_token_61 : decode cX11_token 61 = .ok (.getfield 42, 3) := by decide +kernel
theorem dX11_token_64 : decode cX11_token 64 = .ok (.aload_n 0, 1) := by decide +kernel
theorem dX11_token_65 : decode cX11_token 65 = .ok (.getfield 27, 3) := by decide +kernel
theorem dX11_token_68 : decode cX11_token 68 = .ok (.if_icmp .ne 9, 3) := by decide +kernel
theorem dX11_token_71 : decode cX11_token 71 = .ok (.aload_n 0, 1) := by decide +kernel
theorem dX11_token_72 : decode cX11_token 72 = .ok (.iconst 0, 1) := by decide +kernel
theorem dX11_token_73 : decode cX11_token 73 = .ok (.putfield 45, 3) := by decide +kernel
theorem dX11_token_76 : decode cX11_token 76 = .ok (.return_, 1) := by decide +kernel
theorem dX11_token_77 : decode cX11_token 77 = .ok (.aload_n 0, 1) := by decide +kernel
theorem dX11_token_78 : decode cX11_token 78 = .ok (.getfield 24, 3) := by decide +kernel
theorem dX11_token_81 : decode cX11_token 81 = .ok (.aload_n 0, 1) := by decide +kernel
theorem dX11_token_82 : decode cX11_token 82 = .ok (.getfield 42, 3) := by decide +kernel
theorem dX11_token_85 : decode cX11_token 85 = .ok (.iaload, 1) := by decide +kernel
theorem dX11_token_86 : decode cX11_token 86 = .ok (.invokestatic 151, 3) := by decide +kernel
theorem dX11_token_89 : decode cX11_token 89 = .ok (.ifCond .eq 66, 3) := by decide +kernel
theorem dX11_token_92 : decode cX11_token 92 = .ok (.aload_n 0, 1) := by decide +kernel
theorem dX11_token_93 : decode cX11_token 93 = .ok (.getfield 42, 3) := by decide +kernel
theorem dX11_token_96 : decode cX11_token 96 = .ok (.aload_n 0, 1) := by decide +kernel
theorem dX11_token_97 : decode cX11_token 97 = .ok (.getfield 27, 3) := by decide +kernel
theorem dX11_token_100 : decode cX11_token 100 = .ok (.if_icmp .ge 31, 3) := by decide +kernel
theorem dX11_token_103 : decode cX11_token 103 = .ok (.aload_n 0, 1) := by decide +kernel
theorem dX11_token_104 : decode cX11_token 104 = .ok (.getfield 24, 3) := by decide +kernel
theorem dX11_token_107 : decode cX11_token 107 = .ok (.aload_n 0, 1) := by decide +kernel
theorem dX11_token_108 : decode cX11_token 108 = .ok (.getfield 42, 3) := by decide +kernel
theorem dX11_token_111 : decode cX11_token 111 = .ok (.iaload, 1) := by decide +kernel
theorem dX11_token_112 : decode cX11_token 112 = .ok (.invokestatic 151, 3) := by decide +kernel
theorem dX11_token_115 : decode cX11_token 115 = .ok (.ifCond .eq 16, 3) := by decide +kernel
theorem dX11_token_118 : decode cX11_token 118 = .ok (.aload_n 0, 1) := by decide +kernel
theorem dX11_token_119 : decode cX11_token 119 = .ok (.dup, 1) := by decide +kernel
theorem dX11_token_120 : decode cX11_token 120 = .ok (.getfield 42, 3) := by decide +kernel
theorem dX11_token_123 : decode cX11_token 123 = .ok (.iconst 1, 1) := by decide +kernel
theorem dX11_token_124 : decode cX11_token 124 = .ok (.iadd, 1) := by decide +kernel
theorem dX11_token_125 : decode cX11_token 125 = .ok (.putfield 42, 3) := by decide +kernel
theorem dX11_token_128 : decode cX11_token 128 = .ok (.goto (-36), 3) := by decide +kernel
theorem dX11_token_131 : decode cX11_token 131 = .ok (.aload_n 0, 1) := by decide +kernel
theorem dX11_token_132 : decode cX11_token 132 = .ok (.aload_n 0, 1) := by decide +kernel
theorem dX11_token_133 : decode cX11_token 133 = .ok (.getfield 42, 3) := by decide +kernel
theorem dX11_token_136 : decode cX11_token 136 = .ok (.aload_n 0, 1) := by decide +kernel
theorem dX11_token_137 : decode cX11_token 137 = .ok (.getfield 48, 3) := by decide +kernel
theorem dX11_token_140 : decode cX11_token 140 = .ok (.isub, 1) := by decide +kernel
theorem dX11_token_141 : decode cX11_token 141 = .ok (.bipush 9, 2) := by decide +kernel
theorem dX11_token_143 : decode cX11_token 143 = .ok (.if_icmp .le 7, 3) := by decide +kernel
theorem dX11_token_146 : decode cX11_token 146 = .ok (.iconst 4, 1) := by decide +kernel
theorem dX11_token_147 : decode cX11_token 147 = .ok (.goto 4, 3) := by decide +kernel
theorem dX11_token_150 : decode cX11_token 150 = .ok (.iconst 1, 1) := by decide +kernel
theorem dX11_token_151 : decode cX11_token 151 = .ok (.putfield 45, 3) := by decide +kernel
theorem dX11_token_154 : decode cX11_token 154 = .ok (.return_, 1) := by decide +kernel
theorem dX11_token_155 : decode cX11_token 155 = .ok (.aload_n 0, 1) := by decide +kernel
theorem dX11_token_156 : decode cX11_token 156 = .ok (.getfield 24, 3) := by decide +kernel
theorem dX11_token_159 : decode cX11_token 159 = .ok (.aload_n 0, 1) := by decide +kernel
theorem dX11_token_160 : decode cX11_token 160 = .ok (.getfield 42, 3) := by decide +kernel
theorem dX11_token_163 : decode cX11_token 163 = .ok (.iaload, 1) := by decide +kernel
theorem dX11_token_164 : decode cX11_token 164 = .ok (.invokestatic 154, 3) := by decide +kernel
theorem dX11_token_167 : decode cX11_token 167 = .ok (.ifCond .eq 107, 3) := by decide +kernel
theorem dX11_token_170 : decode cX11_token 170 = .ok (.aload_n 0, 1) := by decide +kernel
theorem dX11_token_171 : decode cX11_token 171 = .ok (.iconst 0, 1) := by decide +kernel
theorem dX11_token_172 : decode cX11_token 172 = .ok (.putfield 51, 3) := by decide +kernel
theorem dX11_token_175 : decode cX11_token 175 = .ok (.aload_n 0, 1) := by decide +kernel
theorem dX11_token_176 : decode cX11_token 176 = .ok (.getfield 42, 3) := by decide +kernel
theorem dX11_token_179 : decode cX11_token 179 = .ok (.aload_n 0, 1) := by decide +kernel
theorem dX11_token_180 : decode cX11_token 180 = .ok (.getfield 27, 3) := by decide +kernel
theorem dX11_token_183 : decode cX11_token 183 = .ok (.if_icmp .ge 68, 3) := by decide +kernel
theorem dX11_token_186 : decode cX11_token 186 = .ok (.aload_n 0, 1) := by decide +kernel
theorem dX11_token_187 : decode cX11_token 187 = .ok (.getfield 24, 3) := by decide +kernel
theorem dX11_token_190 : decode cX11_token 190 = .ok (.aload_n 0, 1) := by decide +kernel
theorem dX11_token_191 : decode cX11_token 191 = .ok (.getfield 42, 3) := by decide +kernel
theorem dX11_token_194 : decode cX11_token 194 = .ok (.iaload, 1) := by decide +kernel
theorem dX11_token_195 : decode cX11_token 195 = .ok (.invokestatic 154, 3) := by decide +kernel
theorem dX11_token_198 : decode cX11_token 198 = .ok (.ifCond .eq 53, 3) := by decide +kernel
theorem dX11_token_201 : decode cX11_token 201 = .ok (.aload_n 0, 1) := by decide +kernel
theorem dX11_token_202 : decode cX11_token 202 = .ok (.getfield 42, 3) := by decide +kernel
theorem dX11_token_205 : decode cX11_token 205 = .ok (.aload_n 0, 1) := by decide +kernel
theorem dX11_token_206 : decode cX11_token 206 = .ok (.getfield 48, 3) := by decide +kernel
theorem dX11_token_209 : decode cX11_token 209 = .ok (.isub, 1) := by decide +kernel
theorem dX11_token_210 : decode cX11_token 210 = .ok (.iconst 4, 1) := by decide +kernel
theorem dX11_token_211 : decode cX11_token 211 = .ok (.if_icmp .ge 27, 3) := by decide +kernel
theorem dX11_token_214 : decode cX11_token 214 = .ok (.aload_n 0, 1) := by decide +kernel
theorem dX11_token_215 : decode cX11_token 215 = .ok (.aload_n 0, 1) := by decide +kernel
theorem dX11_token_216 : decode cX11_token 216 = .ok (.getfield 51, 3) := by decide +kernel
theorem dX11_token_219 : decode cX11_token 219 = .ok (.bipush 10, 2) := by decide +kernel
theorem dX11_token_221 : decode cX11_token 221 = .ok (.imul, 1) := by decide +kernel
theorem dX11_token_222 : decode cX11_token 222 = .ok (.aload_n 0, 1) := by decide +kernel
theorem dX11_token_223 : decode cX11_token 223 = .ok (.getfield 24, 3) := by decide +kernel
theorem dX11_token_226 : decode cX11_token 226 = .ok (.aload_n 0, 1) := by decide +kernel
theorem dX11_token_227 : decode cX11_token 227 = .ok (.getfield 42, 3) := by decide +kernel
theorem dX11_token_230 : decode cX11_token 230 = .ok (.iaload, 1) := by decide +kernel
theorem dX11_token_231 : decode cX11_token 231 = .ok (.iadd, 1) := by decide +kernel
theorem dX11_token_232 : decode cX11_token 232 = .ok (.bipush 48, 2) := by decide +kernel
theorem dX11_token_234 : decode cX11_token 234 = .ok (.isub, 1) := by decide +kernel
theorem dX11_token_235 : decode cX11_token 235 = .ok (.putfield 51, 3) := by decide +kernel
theorem dX11_token_238 : decode cX11_token 238 = .ok (.aload_n 0, 1) := by decide +kernel
theorem dX11_token_239 : decode cX11_token 239 = .ok (.dup, 1) := by decide +kernel
theorem dX11_token_240 : decode cX11_token 240 = .ok (.getfield 42, 3) := by decide +kernel
theorem dX11_token_243 : decode cX11_token 243 = .ok (.iconst 1, 1) := by decide +kernel
theorem dX11_token_244 : decode cX11_token 244 = .ok (.iadd, 1) := by decide +kernel
theorem dX11_token_245 : decode cX11_token 245 = .ok (.putfield 42, 3) := by decide +kernel
theorem dX11_token_248 : decode cX11_token 248 = .ok (.goto (-73), 3) := by decide +kernel
theorem dX11_token_251 : decode cX11_token 251 = .ok (.aload_n 0, 1) := by decide +kernel
theorem dX11_token_252 : decode cX11_token 252 = .ok (.aload_n 0, 1) := by decide +kernel
theorem dX11_token_253 : decode cX11_token 253 = .ok (.getfield 42, 3) := by decide +kernel
theorem dX11_token_256 : decode cX11_token 256 = .ok (.aload_n 0, 1) := by decide +kernel
theorem dX11_token_257 : decode cX11_token 257 = .ok (.getfield 48, 3) := by decide +kernel
theorem dX11_token_260 : decode cX11_token 260 = .ok (.isub, 1) := by decide +kernel
theorem dX11_token_261 : decode cX11_token 261 = .ok (.iconst 4, 1) := by decide +kernel
theorem dX11_token_262 : decode cX11_token 262 = .ok (.if_icmp .le 7, 3) := by decide +kernel
theorem dX11_token_265 : decode cX11_token 265 = .ok (.iconst 4, 1) := by decide +kernel
theorem dX11_token_266 : decode cX11_token 266 = .ok (.goto 4, 3) := by decide +kernel
theorem dX11_token_269 : decode cX11_token 269 = .ok (.iconst 2, 1) := by decide +kernel
theorem dX11_token_270 : decode cX11_token 270 = .ok (.putfield 45, 3) := by decide +kernel
theorem dX11_token_273 : decode cX11_token 273 = .ok (.return_, 1) := by decide +kernel
theorem dX11_token_274 : decode cX11_token 274 = .ok (.aload_n 0, 1) := by decide +kernel
theorem dX11_token_275 : decode cX11_token 275 = .ok (.aload_n 0, 1) := by decide +kernel
theorem dX11_token_276 : decode cX11_token 276 = .ok (.getfield 24, 3) := by decide +kernel
theorem dX11_token_279 : decode cX11_token 279 = .ok (.aload_n 0, 1) := by decide +kernel
theorem dX11_token_280 : decode cX11_token 280 = .ok (.getfield 42, 3) := by decide +kernel
theorem dX11_token_283 : decode cX11_token 283 = .ok (.iaload, 1) := by decide +kernel
theorem dX11_token_284 : decode cX11_token 284 = .ok (.bipush 59, 2) := by decide +kernel
theorem dX11_token_286 : decode cX11_token 286 = .ok (.if_icmp .ne 7, 3) := by decide +kernel
theorem dX11_token_289 : decode cX11_token 289 = .ok (.iconst 3, 1) := by decide +kernel
theorem dX11_token_290 : decode cX11_token 290 = .ok (.goto 4, 3) := by decide +kernel
theorem dX11_token_293 : decode cX11_token 293 = .ok (.iconst 4, 1) := by decide +kernel
theorem dX11_token_294 : decode cX11_token 294 = .ok (.putfield 45, 3) := by decide +kernel
theorem dX11_token_297 : decode cX11_token 297 = .ok (.aload_n 0, 1) := by decide +kernel
theorem dX11_token_298 : decode cX11_token 298 = .ok (.dup, 1) := by decide +kernel
theorem dX11_token_299 : decode cX11_token 299 = .ok (.getfield 42, 3) := by decide +kernel
theorem dX11_token_302 : decode cX11_token 302 = .ok (.iconst 1, 1) := by decide +kernel
theorem dX11_token_303 : decode cX11_token 303 = .ok (.iadd, 1) := by decide +kernel
theorem dX11_token_304 : decode cX11_token 304 = .ok (.putfield 42, 3) := by decide +kernel
theorem dX11_token_307 : decode cX11_token 307 = .ok (.return_, 1) := by decide +kernel
theorem dX11_begin_0 : decode cX11_begin 0 = .ok (.aload_n 0, 1) := by decide +kernel
theorem dX11_begin_1 : decode cX11_begin 1 = .ok (.iconst 0, 1) := by decide +kernel
theorem dX11_begin_2 : decode cX11_begin 2 = .ok (.putfield 30, 3) := by decide +kernel
theorem dX11_begin_5 : decode cX11_begin 5 = .ok (.aload_n 0, 1) := by decide +kernel
theorem dX11_begin_6 : decode cX11_begin 6 = .ok (.iconst (-1), 1) := by decide +kernel
theorem dX11_begin_7 : decode cX11_begin 7 = .ok (.putfield 33, 3) := by decide +kernel
theorem dX11_begin_10 : decode cX11_begin 10 = .ok (.aload_n 0, 1) := by decide +kernel
theorem dX11_begin_11 : decode cX11_begin 11 = .ok (.iconst 0, 1) := by decide +kernel
theorem dX11_begin_12 : decode cX11_begin 12 = .ok (.putfield 42, 3) := by decide +kernel
theorem dX11_begin_15 : decode cX11_begin 15 = .ok (.aload_n 0, 1) := by decide +kernel
theorem dX11_begin_16 : decode cX11_begin 16 = .ok (.invokevirtual 157, 3) := by decide +kernel
theorem dX11_begin_19 : decode cX11_begin 19 = .ok (.return_, 1) := by decide +kernel
theorem dX11_wrong_0 : decode cX11_wrong 0 = .ok (.aload_n 0, 1) := by decide +kernel
theorem dX11_wrong_1 : decode cX11_wrong 1 = .ok (.iload_n 1, 1) := by decide +kernel
theorem dX11_wrong_2 : decode cX11_wrong 2 = .ok (.putfield 30, 3) := by decide +kernel
theorem dX11_wrong_5 : decode cX11_wrong 5 = .ok (.aload_n 0, 1) := by decide +kernel
theorem dX11_wrong_6 : decode cX11_wrong 6 = .ok (.aload_n 0, 1) := by decide +kernel
theorem dX11_wrong_7 : decode cX11_wrong 7 = .ok (.getfield 48, 3) := by decide +kernel
theorem dX11_wrong_10 : decode cX11_wrong 10 = .ok (.putfield 33, 3) := by decide +kernel
theorem dX11_wrong_13 : decode cX11_wrong 13 = .ok (.iconst 0, 1) := by decide +kernel
theorem dX11_wrong_14 : decode cX11_wrong 14 = .ok (.ireturn, 1) := by decide +kernel
theorem dX11_isWord_0 : decode cX11_isWord 0 = .ok (.aload_n 0, 1) := by decide +kernel
theorem dX11_isWord_1 : decode cX11_isWord 1 = .ok (.getfield 45, 3) := by decide +kernel
theorem dX11_isWord_4 : decode cX11_isWord 4 = .ok (.iconst 1, 1) := by decide +kernel
theorem dX11_isWord_5 : decode cX11_isWord 5 = .ok (.if_icmp .ne 19, 3) := by decide +kernel
theorem dX11_isWord_8 : decode cX11_isWord 8 = .ok (.aload_n 0, 1) := by decide +kernel
theorem dX11_isWord_9 : decode cX11_isWord 9 = .ok (.getfield 42, 3) := by decide +kernel
theorem dX11_isWord_12 : decode cX11_isWord 12 = .ok (.aload_n 0, 1) := by decide +kernel
theorem dX11_isWord_13 : decode cX11_isWord 13 = .ok (.getfield 48, 3) := by decide +kernel
theorem dX11_isWord_16 : decode cX11_isWord 16 = .ok (.isub, 1) := by decide +kernel
theorem dX11_isWord_17 : decode cX11_isWord 17 = .ok (.aload_n 1, 1) := by decide +kernel
theorem dX11_isWord_18 : decode cX11_isWord 18 = .ok (.invokevirtual 59, 3) := by decide +kernel
theorem dX11_isWord_21 : decode cX11_isWord 21 = .ok (.if_icmp .eq 5, 3) := by decide +kernel
theorem dX11_isWord_24 : decode cX11_isWord 24 = .ok (.iconst 0, 1) := by decide +kernel
theorem dX11_isWord_25 : decode cX11_isWord 25 = .ok (.ireturn, 1) := by decide +kernel
theorem dX11_isWord_26 : decode cX11_isWord 26 = .ok (.iconst 0, 1) := by decide +kernel
theorem dX11_isWord_27 : decode cX11_isWord 27 = .ok (.istore_n 2, 1) := by decide +kernel
theorem dX11_isWord_28 : decode cX11_isWord 28 = .ok (.iload_n 2, 1) := by decide +kernel
theorem dX11_isWord_29 : decode cX11_isWord 29 = .ok (.aload_n 1, 1) := by decide +kernel
theorem dX11_isWord_30 : decode cX11_isWord 30 = .ok (.invokevirtual 59, 3) := by decide +kernel
theorem dX11_isWord_33 : decode cX11_isWord 33 = .ok (.if_icmp .ge 30, 3) := by decide +kernel
theorem dX11_isWord_36 : decode cX11_isWord 36 = .ok (.aload_n 0, 1) := by decide +kernel
theorem dX11_isWord_37 : decode cX11_isWord 37 = .ok (.getfield 24, 3) := by decide +kernel
theorem dX11_isWord_40 : decode cX11_isWord 40 = .ok (.aload_n 0, 1) := by decide +kernel
theorem dX11_isWord_41 : decode cX11_isWord 41 = .ok (.getfield 48, 3) := by decide +kernel
theorem dX11_isWord_44 : decode cX11_isWord 44 = .ok (.iload_n 2, 1) := by decide +kernel
theorem dX11_isWord_45 : decode cX11_isWord 45 = .ok (.iadd, 1) := by decide +kernel
theorem dX11_isWord_46 : decode cX11_isWord 46 = .ok (.iaload, 1) := by decide +kernel
theorem dX11_isWord_47 : decode cX11_isWord 47 = .ok (.aload_n 1, 1) := by decide +kernel
theorem dX11_isWord_48 : decode cX11_isWord 48 = .ok (.iload_n 2, 1) := by decide +kernel
theorem dX11_isWord_49 : decode cX11_isWord 49 = .ok (.invokevirtual 64, 3) := by decide +kernel
theorem dX11_isWord_52 : decode cX11_isWord 52 = .ok (.if_icmp .eq 5, 3) := by decide +kernel
theorem dX11_isWord_55 : decode cX11_isWord 55 = .ok (.iconst 0, 1) := by decide +kernel
theorem dX11_isWord_56 : decode cX11_isWord 56 = .ok (.ireturn, 1) := by decide +kernel
theorem dX11_isWord_57 : decode cX11_isWord 57 = .ok (.iinc 2 1, 3) := by decide +kernel
theorem dX11_isWord_60 : decode cX11_isWord 60 = .ok (.goto (-32), 3) := by decide +kernel
theorem dX11_isWord_63 : decode cX11_isWord 63 = .ok (.iconst 1, 1) := by decide +kernel
theorem dX11_isWord_64 : decode cX11_isWord 64 = .ok (.ireturn, 1) := by decide +kernel
theorem dX11_semicolon_0 : decode cX11_semicolon 0 = .ok (.aload_n 0, 1) := by decide +kernel
theorem dX11_semicolon_1 : decode cX11_semicolon 1 = .ok (.getfield 45, 3) := by decide +kernel
theorem dX11_semicolon_4 : decode cX11_semicolon 4 = .ok (.iconst 3, 1) := by decide +kernel
theorem dX11_semicolon_5 : decode cX11_semicolon 5 = .ok (.if_icmp .eq 9, 3) := by decide +kernel
theorem dX11_semicolon_8 : decode cX11_semicolon 8 = .ok (.aload_n 0, 1) := by decide +kernel
theorem dX11_semicolon_9 : decode cX11_semicolon 9 = .ok (.iconst 1, 1) := by decide +kernel
theorem dX11_semicolon_10 : decode cX11_semicolon 10 = .ok (.invokevirtual 160, 3) := by decide +kernel
theorem dX11_semicolon_13 : decode cX11_semicolon 13 = .ok (.ireturn, 1) := by decide +kernel
theorem dX11_semicolon_14 : decode cX11_semicolon 14 = .ok (.aload_n 0, 1) := by decide +kernel
theorem dX11_semicolon_15 : decode cX11_semicolon 15 = .ok (.invokevirtual 157, 3) := by decide +kernel
theorem dX11_semicolon_18 : decode cX11_semicolon 18 = .ok (.iconst 1, 1) := by decide +kernel
theorem dX11_semicolon_19 : decode cX11_semicolon 19 = .ok (.ireturn, 1) := by decide +kernel
theorem dX11_productNamed_0 : decode cX11_productNamed 0 = .ok (.iconst 0, 1) := by decide +kernel
theorem dX11_productNamed_1 : decode cX11_productNamed 1 = .ok (.istore_n 3, 1) := by decide +kernel
theorem dX11_productNamed_2 : decode cX11_productNamed 2 = .ok (.iload_n 3, 1) := by decide +kernel
theorem dX11_productNamed_3 : decode cX11_productNamed 3 = .ok (.aload_n 0, 1) := by decide +kernel
theorem dX11_productNamed_4 : decode cX11_productNamed 4 = .ok (.getfield 13, 3) := by decide +kernel
theorem dX11_productNamed_7 : decode cX11_productNamed 7 = .ok (.iconst 1, 1) := by decide +kernel
theorem dX11_productNamed_8 : decode cX11_productNamed 8 = .ok (.iaload, 1) := by decide +kernel
theorem dX11_productNamed_9 : decode cX11_productNamed 9 = .ok (.if_icmp .ge 81, 3) := by decide +kernel
theorem dX11_productNamed_12 : decode cX11_productNamed 12 = .ok (.aload_n 0, 1) := by decide +kernel
theorem dX11_productNamed_13 : decode cX11_productNamed 13 = .ok (.iload_n 3, 1) := by decide +kernel
theorem dX11_productNamed_14 : decode cX11_productNamed 14 = .ok (.iconst 0, 1) := by decide +kernel
theorem dX11_productNamed_15 : decode cX11_productNamed 15 = .ok (.invokevirtual 127, 3) := by decide +kernel
theorem dX11_productNamed_18 : decode cX11_productNamed 18 = .ok (.iload_n 2, 1) := by decide +kernel
theorem dX11_productNamed_19 : decode cX11_productNamed 19 = .ok (.if_icmp .ne 7, 3) := by decide +kernel
theorem dX11_productNamed_22 : decode cX11_productNamed 22 = .ok (.iconst 1, 1) := by decide +kernel
theorem dX11_productNamed_23 : decode cX11_productNamed 23 = .ok (.goto 4, 3) := by decide +kernel
theorem dX11_productNamed_26 : decode cX11_productNamed 26 = .ok (.iconst 0, 1) := by decide +kernel
theorem dX11_productNamed_27 : decode cX11_productNamed 27 = .ok (.istore 4, 2) := by decide +kernel
theorem dX11_productNamed_29 : decode cX11_productNamed 29 = .ok (.iconst 0, 1) := by decide +kernel
theorem dX11_productNamed_30 : decode cX11_productNamed 30 = .ok (.istore 5, 2) := by decide +kernel
theorem dX11_productNamed_32 : decode cX11_productNamed 32 = .ok (.iload 4, 2) := by decide +kernel
theorem dX11_productNamed_34 : decode cX11_productNamed 34 = .ok (.ifCond .eq 43, 3) := by decide +kernel
theorem dX11_productNamed_37 : decode cX11_productNamed 37 = .ok (.iload 5, 2) := by decide +kernel
theorem dX11_productNamed_39 : decode cX11_productNamed 39 = .ok (.iload_n 2, 1) := by decide +kernel
theorem dX11_productNamed_40 : decode cX11_productNamed 40 = .ok (.if_icmp .ge 37, 3) := by decide +kernel
theorem dX11_productNamed_43 : decode cX11_productNamed 43 = .ok (.aload_n 0, 1) := by decide +kernel
theorem dX11_productNamed_44 : decode cX11_productNamed 44 = .ok (.iload_n 3, 1) := by decide +kernel
theorem dX11_productNamed_45 : decode cX11_productNamed 45 = .ok (.iconst 1, 1) := by decide +kernel
theorem dX11_productNamed_46 : decode cX11_productNamed 46 = .ok (.iload 5, 2) := by decide +kernel
theorem dX11_productNamed_48 : decode cX11_productNamed 48 = .ok (.iadd, 1) := by decide +kernel
theorem dX11_productNamed_49 : decode cX11_productNamed 49 = .ok (.invokevirtual 127, 3) := by decide +kernel
theorem dX11_productNamed_52 : decode cX11_productNamed 52 = .ok (.aload_n 0, 1) := by decide +kernel
theorem dX11_productNamed_53 : decode cX11_productNamed 53 = .ok (.getfield 24, 3) := by decide +kernel
theorem dX11_productNamed_56 : decode cX11_productNamed 56 = .ok (.iload_n 1, 1) := by decide +kernel
theorem dX11_productNamed_57 : decode cX11_productNamed 57 = .ok (.iload 5, 2) := by decide +kernel
theorem dX11_productNamed_59 : decode cX11_productNamed 59 = .ok (.iadd, 1) := by decide +kernel
theorem dX11_productNamed_60 : decode cX11_productNamed 60 = .ok (.iaload, 1) := by decide +kernel
theorem dX11_productNamed_61 : decode cX11_productNamed 61 = .ok (.if_icmp .ne 7, 3) := by decide +kernel
theorem dX11_productNamed_64 : decode cX11_productNamed 64 = .ok (.iconst 1, 1) := by decide +kernel
theorem dX11_productNamed_65 : decode cX11_productNamed 65 = .ok (.goto 4, 3) := by decide +kernel
theorem dX11_productNamed_68 : decode cX11_productNamed 68 = .ok (.iconst 0, 1) := by decide +kernel
theorem dX11_productNamed_69 : decode cX11_productNamed 69 = .ok (.istore 4, 2) := by decide +kernel
theorem dX11_productNamed_71 : decode cX11_productNamed 71 = .ok (.iinc 5 1, 3) := by decide +kernel
theorem dX11_productNamed_74 : decode cX11_productNamed 74 = .ok (.goto (-42), 3) := by decide +kernel
theorem dX11_productNamed_77 : decode cX11_productNamed 77 = .ok (.iload 4, 2) := by decide +kernel
theorem dX11_productNamed_79 : decode cX11_productNamed 79 = .ok (.ifCond .eq 5, 3) := by decide +kernel
theorem dX11_productNamed_82 : decode cX11_productNamed 82 = .ok (.iload_n 3, 1) := by decide +kernel
theorem dX11_productNamed_83 : decode cX11_productNamed 83 = .ok (.ireturn, 1) := by decide +kernel
theorem dX11_productNamed_84 : decode cX11_productNamed 84 = .ok (.iinc 3 1, 3) := by decide +kernel
theorem dX11_productNamed_87 : decode cX11_productNamed 87 = .ok (.goto (-85), 3) := by decide +kernel
theorem dX11_productNamed_90 : decode cX11_productNamed 90 = .ok (.iconst (-1), 1) := by decide +kernel
theorem dX11_productNamed_91 : decode cX11_productNamed 91 = .ok (.ireturn, 1) := by decide +kernel
theorem dX11_isShortWord_0 : decode cX11_isShortWord 0 = .ok (.aload_n 0, 1) := by decide +kernel
theorem dX11_isShortWord_1 : decode cX11_isShortWord 1 = .ok (.getfield 45, 3) := by decide +kernel
theorem dX11_isShortWord_4 : decode cX11_isShortWord 4 = .ok (.iconst 1, 1) := by decide +kernel
theorem dX11_isShortWord_5 : decode cX11_isShortWord 5 = .ok (.if_icmp .eq 9, 3) := by decide +kernel
theorem dX11_isShortWord_8 : decode cX11_isShortWord 8 = .ok (.aload_n 0, 1) := by decide +kernel
theorem dX11_isShortWord_9 : decode cX11_isShortWord 9 = .ok (.iconst 1, 1) := by decide +kernel
theorem dX11_isShortWord_10 : decode cX11_isShortWord 10 = .ok (.invokevirtual 160, 3) := by decide +kernel
theorem dX11_isShortWord_13 : decode cX11_isShortWord 13 = .ok (.ireturn, 1) := by decide +kernel
theorem dX11_isShortWord_14 : decode cX11_isShortWord 14 = .ok (.aload_n 0, 1) := by decide +kernel
theorem dX11_isShortWord_15 : decode cX11_isShortWord 15 = .ok (.getfield 42, 3) := by decide +kernel
theorem dX11_isShortWord_18 : decode cX11_isShortWord 18 = .ok (.aload_n 0, 1) := by decide +kernel
theorem dX11_isShortWord_19 : decode cX11_isShortWord 19 = .ok (.getfield 48, 3) := by decide +kernel
theorem dX11_isShortWord_22 : decode cX11_isShortWord 22 = .ok (.isub, 1) := by decide +kernel
theorem dX11_isShortWord_23 : decode cX11_isShortWord 23 = .ok (.bipush 6, 2) := by decide +kernel
theorem dX11_isShortWord_25 : decode cX11_isShortWord 25 = .ok (.if_icmp .le 11, 3) := by decide +kernel
theorem dX11_isShortWord_28 : decode cX11_isShortWord 28 = .ok (.aload_n 0, 1) := by decide +kernel
theorem dX11_isShortWord_29 : decode cX11_isShortWord 29 = .ok (.iconst 3, 1) := by decide +kernel
theorem dX11_isShortWord_30 : decode cX11_isShortWord 30 = .ok (.invokevirtual 160, 3) := by decide +kernel
theorem dX11_isShortWord_33 : decode cX11_isShortWord 33 = .ok (.ifCond .eq 7, 3) := by decide +kernel
theorem dX11_isShortWord_36 : decode cX11_isShortWord 36 = .ok (.iconst 1, 1) := by decide +kernel
theorem dX11_isShortWord_37 : decode cX11_isShortWord 37 = .ok (.goto 4, 3) := by decide +kernel
theorem dX11_isShortWord_40 : decode cX11_isShortWord 40 = .ok (.iconst 0, 1) := by decide +kernel
theorem dX11_isShortWord_41 : decode cX11_isShortWord 41 = .ok (.ireturn, 1) := by decide +kernel
theorem dX11_parseRanged_0 : decode cX11_parseRanged 0 = .ok (.aload_n 0, 1) := by decide +kernel
theorem dX11_parseRanged_1 : decode cX11_parseRanged 1 = .ok (.getfield 45, 3) := by decide +kernel
theorem dX11_parseRanged_4 : decode cX11_parseRanged 4 = .ok (.iconst 2, 1) := by decide +kernel
theorem dX11_parseRanged_5 : decode cX11_parseRanged 5 = .ok (.if_icmp .eq 9, 3) := by decide +kernel
theorem dX11_parseRanged_8 : decode cX11_parseRanged 8 = .ok (.aload_n 0, 1) := by decide +kernel
theorem dX11_parseRanged_9 : decode cX11_parseRanged 9 = .ok (.iconst 1, 1) := by decide +kernel
theorem dX11_parseRanged_10 : decode cX11_parseRanged 10 = .ok (.invokevirtual 160, 3) := by decide +kernel
theorem dX11_parseRanged_13 : decode cX11_parseRanged 13 = .ok (.ireturn, 1) := by decide +kernel
theorem dX11_parseRanged_14 : decode cX11_parseRanged 14 = .ok (.aload_n 0, 1) := by decide +kernel
theorem dX11_parseRanged_15 : decode cX11_parseRanged 15 = .ok (.getfield 51, 3) := by decide +kernel
theorem dX11_parseRanged_18 : decode cX11_parseRanged 18 = .ok (.iload_n 2, 1) := by decide +kernel
theorem dX11_parseRanged_19 : decode cX11_parseRanged 19 = .ok (.iload_n 3, 1) := by decide +kernel
theorem dX11_parseRanged_20 : decode cX11_parseRanged 20 = .ok (.invokestatic 75, 3) := by decide +kernel
theorem dX11_parseRanged_23 : decode cX11_parseRanged 23 = .ok (.ifCond .ne 9, 3) := by decide +kernel
theorem dX11_parseRanged_26 : decode cX11_parseRanged 26 = .ok (.aload_n 0, 1) := by decide +kernel
theorem dX11_parseRanged_27 : decode cX11_parseRanged 27 = .ok (.iconst 2, 1) := by decide +kernel
theorem dX11_parseRanged_28 : decode cX11_parseRanged 28 = .ok (.invokevirtual 160, 3) := by decide +kernel
theorem dX11_parseRanged_31 : decode cX11_parseRanged 31 = .ok (.ireturn, 1) := by decide +kernel
theorem dX11_parseRanged_32 : decode cX11_parseRanged 32 = .ok (.aload_n 0, 1) := by decide +kernel
theorem dX11_parseRanged_33 : decode cX11_parseRanged 33 = .ok (.getfield 13, 3) := by decide +kernel
theorem dX11_parseRanged_36 : decode cX11_parseRanged 36 = .ok (.iload_n 1, 1) := by decide +kernel
theorem dX11_parseRanged_37 : decode cX11_parseRanged 37 = .ok (.aload_n 0, 1) := by decide +kernel
theorem dX11_parseRanged_38 : decode cX11_parseRanged 38 = .ok (.getfield 51, 3) := by decide +kernel
theorem dX11_parseRanged_41 : decode cX11_parseRanged 41 = .ok (.iastore, 1) := by decide +kernel
theorem dX11_parseRanged_42 : decode cX11_parseRanged 42 = .ok (.aload_n 0, 1) := by decide +kernel
theorem dX11_parseRanged_43 : decode cX11_parseRanged 43 = .ok (.invokevirtual 157, 3) := by decide +kernel
theorem dX11_parseRanged_46 : decode cX11_parseRanged 46 = .ok (.iconst 1, 1) := by decide +kernel
theorem dX11_parseRanged_47 : decode cX11_parseRanged 47 = .ok (.ireturn, 1) := by decide +kernel
theorem dX11_parseNewProduct_0 : decode cX11_parseNewProduct 0 = .ok (.aload_n 0, 1) := by decide +kernel
theorem dX11_parseNewProduct_1 : decode cX11_parseNewProduct 1 = .ok (.getfield 13, 3) := by decide +kernel
theorem dX11_parseNewProduct_4 : decode cX11_parseNewProduct 4 = .ok (.iconst 1, 1) := by decide +kernel
theorem dX11_parseNewProduct_5 : decode cX11_parseNewProduct 5 = .ok (.iaload, 1) := by decide +kernel
theorem dX11_parseNewProduct_6 : decode cX11_parseNewProduct 6 = .ok (.bipush 8, 2) := by decide +kernel
theorem dX11_parseNewProduct_8 : decode cX11_parseNewProduct 8 = .ok (.if_icmp .ne 9, 3) := by decide +kernel
theorem dX11_parseNewProduct_11 : decode cX11_parseNewProduct 11 = .ok (.aload_n 0, 1) := by decide +kernel
theorem dX11_parseNewProduct_12 : decode cX11_parseNewProduct 12 = .ok (.iconst 4, 1) := by decide +kernel
theorem dX11_parseNewProduct_13 : decode cX11_parseNewProduct 13 = .ok (.invokevirtual 160, 3) := by decide +kernel
theorem dX11_parseNewProduct_16 : decode cX11_parseNewProduct 16 = .ok (.ireturn, 1) := by decide +kernel
theorem dX11_parseNewProduct_17 : decode cX11_parseNewProduct 17 = .ok (.aload_n 0, 1) := by decide +kernel
theorem dX11_parseNewProduct_18 : decode cX11_parseNewProduct 18 = .ok (.invokevirtual 157, 3) := by decide +kernel
theorem dX11_parseNewProduct_21 : decode cX11_parseNewProduct 21 = .ok (.aload_n 0, 1) := by decide +kernel
theorem dX11_parseNewProduct_22 : decode cX11_parseNewProduct 22 = .ok (.invokevirtual 163, 3) := by decide +kernel
theorem dX11_parseNewProduct_25 : decode cX11_parseNewProduct 25 = .ok (.ifCond .ne 5, 3) := by decide +kernel
theorem dX11_parseNewProduct_28 : decode cX11_parseNewProduct 28 = .ok (.iconst 0, 1) := by decide +kernel
theorem dX11_parseNewProduct_29 : decode cX11_parseNewProduct 29 = .ok (.ireturn, 1) := by decide +kernel
theorem dX11_parseNewProduct_30 : decode cX11_parseNewProduct 30 = .ok (.aload_n 0, 1) := by decide +kernel
theorem dX11_parseNewProduct_31 : decode cX11_parseNewProduct 31 = .ok (.aload_n 0, 1) := by decide +kernel
theorem dX11_parseNewProduct_32 : decode cX11_parseNewProduct 32 = .ok (.getfield 48, 3) := by decide +kernel
theorem dX11_parseNewProduct_35 : decode cX11_parseNewProduct 35 = .ok (.aload_n 0, 1) := by decide +kernel
theorem dX11_parseNewProduct_36 : decode cX11_parseNewProduct 36 = .ok (.getfield 42, 3) := by decide +kernel
theorem dX11_parseNewProduct_39 : decode cX11_parseNewProduct 39 = .ok (.aload_n 0, 1) := by decide +kernel
theorem dX11_parseNewProduct_40 : decode cX11_parseNewProduct 40 = .ok (.getfield 48, 3) := by decide +kernel
theorem dX11_parseNewProduct_43 : decode cX11_parseNewProduct 43 = .ok (.isub, 1) := by decide +kernel
theorem dX11_parseNewProduct_44 : decode cX11_parseNewProduct 44 = .ok (.invokevirtual 166, 3) := by decide +kernel
theorem dX11_parseNewProduct_47 : decode cX11_parseNewProduct 47 = .ok (.iconst (-1), 1) := by decide +kernel
theorem dX11_parseNewProduct_48 : decode cX11_parseNewProduct 48 = .ok (.if_icmp .eq 9, 3) := by decide +kernel
theorem dX11_parseNewProduct_51 : decode cX11_parseNewProduct 51 = .ok (.aload_n 0, 1) := by decide +kernel
theorem dX11_parseNewProduct_52 : decode cX11_parseNewProduct 52 = .ok (.iconst 3, 1) := by decide +kernel
theorem dX11_parseNewProduct_53 : decode cX11_parseNewProduct 53 = .ok (.invokevirtual 160, 3) := by decide +kernel
theorem dX11_parseNewProduct_56 : decode cX11_parseNewProduct 56 = .ok (.ireturn, 1) := by decide +kernel
theorem dX11_parseNewProduct_57 : decode cX11_parseNewProduct 57 = .ok (.iconst 4, 1) := by decide +kernel
theorem dX11_parseNewProduct_58 : decode cX11_parseNewProduct 58 = .ok (.aload_n 0, 1) := by decide +kernel
theorem dX11_parseNewProduct_59 : decode cX11_parseNewProduct 59 = .ok (.getfield 13, 3) := by decide +kernel
theorem dX11_parseNewProduct_62 : decode cX11_parseNewProduct 62 = .ok (.iconst 1, 1) := by decide +kernel
theorem dX11_parseNewProduct_63 : decode cX11_parseNewProduct 63 = .ok (.iaload, 1) := by decide +kernel
theorem dX11_parseNewProduct_64 : decode cX11_parseNewProduct 64 = .ok (.bipush 12, 2) := by decide +kernel
theorem dX11_parseNewProduct_66 : decode cX11_parseNewProduct 66 = .ok (.imul, 1) := by decide +kernel
theorem dX11_parseNewProduct_67 : decode cX11_parseNewProduct 67 = .ok (.iadd, 1) := by decide +kernel
theorem dX11_parseNewProduct_68 : decode cX11_parseNewProduct 68 = .ok (.istore_n 1, 1) := by decide +kernel
theorem dX11_parseNewProduct_69 : decode cX11_parseNewProduct 69 = .ok (.aload_n 0, 1) := by decide +kernel
theorem dX11_parseNewProduct_70 : decode cX11_parseNewProduct 70 = .ok (.getfield 13, 3) := by decide +kernel
theorem dX11_parseNewProduct_73 : decode cX11_parseNewProduct 73 = .ok (.iload_n 1, 1) := by decide +kernel
theorem dX11_parseNewProduct_74 : decode cX11_parseNewProduct 74 = .ok (.aload_n 0, 1) := by decide +kernel
theorem dX11_parseNewProduct_75 : decode cX11_parseNewProduct 75 = .ok (.getfield 42, 3) := by decide +kernel
theorem dX11_parseNewProduct_78 : decode cX11_parseNewProduct 78 = .ok (.aload_n 0, 1) := by decide +kernel
theorem dX11_parseNewProduct_79 : decode cX11_parseNewProduct 79 = .ok (.getfield 48, 3) := by decide +kernel
theorem dX11_parseNewProduct_82 : decode cX11_parseNewProduct 82 = .ok (.isub, 1) := by decide +kernel
theorem dX11_parseNewProduct_83 : decode cX11_parseNewProduct 83 = .ok (.iastore, 1) := by decide +kernel
theorem dX11_parseNewProduct_84 : decode cX11_parseNewProduct 84 = .ok (.aload_n 0, 1) := by decide +kernel
theorem dX11_parseNewProduct_85 : decode cX11_parseNewProduct 85 = .ok (.getfield 48, 3) := by decide +kernel
theorem dX11_parseNewProduct_88 : decode cX11_parseNewProduct 88 = .ok (.istore_n 2, 1) := by decide +kernel
theorem dX11_parseNewProduct_89 : decode cX11_parseNewProduct 89 = .ok (.iload_n 2, 1) := by decide +kernel
theorem dX11_parseNewProduct_90 : decode cX11_parseNewProduct 90 = .ok (.aload_n 0, 1) := by decide +kernel
theorem dX11_parseNewProduct_91 : decode cX11_parseNewProduct 91 = .ok (.getfield 42, 3) := by decide +kernel
theorem dX11_parseNewProduct_94 : decode cX11_parseNewProduct 94 = .ok (.if_icmp .ge 30, 3) := by decide +kernel
theorem dX11_parseNewProduct_97 : decode cX11_parseNewProduct 97 = .ok (.aload_n 0, 1) := by decide +kernel
theorem dX11_parseNewProduct_98 : decode cX11_parseNewProduct 98 = .ok (.getfield 13, 3) := by decide +kernel
theorem dX11_parseNewProduct_101 : decode cX11_parseNewProduct 101 = .ok (.iload_n 1, 1) := by decide +kernel
theorem dX11_parseNewProduct_102 : decode cX11_parseNewProduct 102 = .ok (.iconst 1, 1) := by decide +kernel
theorem dX11_parseNewProduct_103 : decode cX11_parseNewProduct 103 = .ok (.iadd, 1) := by decide +kernel
theorem dX11_parseNewProduct_104 : decode cX11_parseNewProduct 104 = .ok (.iload_n 2, 1) := by decide +kernel
theorem dX11_parseNewProduct_105 : decode cX11_parseNewProduct 105 = .ok (.iadd, 1) := by decide +kernel
theorem dX11_parseNewProduct_106 : decode cX11_parseNewProduct 106 = .ok (.aload_n 0, 1) := by decide +kernel
theorem dX11_parseNewProduct_107 : decode cX11_parseNewProduct 107 = .ok (.getfield 48, 3) := by decide +kernel
theorem dX11_parseNewProduct_110 : decode cX11_parseNewProduct 110 = .ok (.isub, 1) := by decide +kernel
theorem dX11_parseNewProduct_111 : decode cX11_parseNewProduct 111 = .ok (.aload_n 0, 1) := by decide +kernel
theorem dX11_parseNewProduct_112 : decode cX11_parseNewProduct 112 = .ok (.getfield 24, 3) := by decide +kernel
theorem dX11_parseNewProduct_115 : decode cX11_parseNewProduct 115 = .ok (.iload_n 2, 1) := by decide +kernel
theorem dX11_parseNewProduct_116 : decode cX11_parseNewProduct 116 = .ok (.iaload, 1) := by decide +kernel
theorem dX11_parseNewProduct_117 : decode cX11_parseNewProduct 117 = .ok (.iastore, 1) := by decide +kernel
theorem dX11_parseNewProduct_118 : decode cX11_parseNewProduct 118 = .ok (.iinc 2 1, 3) := by decide +kernel
theorem dX11_parseNewProduct_121 : decode cX11_parseNewProduct 121 = .ok (.goto (-32), 3) := by decide +kernel
theorem dX11_parseNewProduct_124 : decode cX11_parseNewProduct 124 = .ok (.aload_n 0, 1) := by decide +kernel
theorem dX11_parseNewProduct_125 : decode cX11_parseNewProduct 125 = .ok (.invokevirtual 157, 3) := by decide +kernel
theorem dX11_parseNewProduct_128 : decode cX11_parseNewProduct 128 = .ok (.aload_n 0, 1) := by decide +kernel
theorem dX11_parseNewProduct_129 : decode cX11_parseNewProduct 129 = .ok (.iload_n 1, 1) := by decide +kernel
theorem dX11_parseNewProduct_130 : decode cX11_parseNewProduct 130 = .ok (.bipush 7, 2) := by decide +kernel
theorem dX11_parseNewProduct_132 : decode cX11_parseNewProduct 132 = .ok (.iadd, 1) := by decide +kernel
theorem dX11_parseNewProduct_133 : decode cX11_parseNewProduct 133 = .ok (.iconst 0, 1) := by decide +kernel
theorem dX11_parseNewProduct_134 : decode cX11_parseNewProduct 134 = .ok (.sipush 999, 3) := by decide +kernel
theorem dX11_parseNewProduct_137 : decode cX11_parseNewProduct 137 = .ok (.invokevirtual 169, 3) := by decide +kernel
theorem dX11_parseNewProduct_140 : decode cX11_parseNewProduct 140 = .ok (.ifCond .eq 10, 3) := by decide +kernel
theorem dX11_parseNewProduct_143 : decode cX11_parseNewProduct 143 = .ok (.aload_n 0, 1) := by decide +kernel
theorem dX11_parseNewProduct_144 : decode cX11_parseNewProduct 144 = .ok (.invokevirtual 172, 3) := by decide +kernel
theorem dX11_parseNewProduct_147 : decode cX11_parseNewProduct 147 = .ok (.ifCond .ne 5, 3) := by decide +kernel
theorem dX11_parseNewProduct_150 : decode cX11_parseNewProduct 150 = .ok (.iconst 0, 1) := by decide +kernel
theorem dX11_parseNewProduct_151 : decode cX11_parseNewProduct 151 = .ok (.ireturn, 1) := by decide +kernel
theorem dX11_parseNewProduct_152 : decode cX11_parseNewProduct 152 = .ok (.aload_n 0, 1) := by decide +kernel
theorem dX11_parseNewProduct_153 : decode cX11_parseNewProduct 153 = .ok (.getfield 13, 3) := by decide +kernel
theorem dX11_parseNewProduct_156 : decode cX11_parseNewProduct 156 = .ok (.iconst 1, 1) := by decide +kernel
theorem dX11_parseNewProduct_157 : decode cX11_parseNewProduct 157 = .ok (.dup2, 1) := by decide +kernel
theorem dX11_parseNewProduct_158 : decode cX11_parseNewProduct 158 = .ok (.iaload, 1) := by decide +kernel
theorem dX11_parseNewProduct_159 : decode cX11_parseNewProduct 159 = .ok (.iconst 1, 1) := by decide +kernel
theorem dX11_parseNewProduct_160 : decode cX11_parseNewProduct 160 = .ok (.iadd, 1) := by decide +kernel
theorem dX11_parseNewProduct_161 : decode cX11_parseNewProduct 161 = .ok (.iastore, 1) := by decide +kernel
theorem dX11_parseNewProduct_162 : decode cX11_parseNewProduct 162 = .ok (.iconst 1, 1) := by decide +kernel
theorem dX11_parseNewProduct_163 : decode cX11_parseNewProduct 163 = .ok (.ireturn, 1) := by decide +kernel
theorem dX11_parseNewBatch_0 : decode cX11_parseNewBatch 0 = .ok (.aload_n 0, 1) := by decide +kernel
theorem dX11_parseNewBatch_1 : decode cX11_parseNewBatch 1 = .ok (.getfield 13, 3) := by decide +kernel
theorem dX11_parseNewBatch_4 : decode cX11_parseNewBatch 4 = .ok (.iconst 2, 1) := by decide +kernel
theorem dX11_parseNewBatch_5 : decode cX11_parseNewBatch 5 = .ok (.iaload, 1) := by decide +kernel
theorem dX11_parseNewBatch_6 : decode cX11_parseNewBatch 6 = .ok (.bipush 20, 2) := by decide +kernel
theorem dX11_parseNewBatch_8 : decode cX11_parseNewBatch 8 = .ok (.if_icmp .ne 9, 3) := by decide +kernel
theorem dX11_parseNewBatch_11 : decode cX11_parseNewBatch 11 = .ok (.aload_n 0, 1) := by decide +kernel
theorem dX11_parseNewBatch_12 : decode cX11_parseNewBatch 12 = .ok (.iconst 4, 1) := by decide +kernel
theorem dX11_parseNewBatch_13 : decode cX11_parseNewBatch 13 = .ok (.invokevirtual 160, 3) := by decide +kernel
theorem dX11_parseNewBatch_16 : decode cX11_parseNewBatch 16 = .ok (.ireturn, 1) := by decide +kernel
theorem dX11_parseNewBatch_17 : decode cX11_parseNewBatch 17 = .ok (.aload_n 0, 1) := by decide +kernel
theorem dX11_parseNewBatch_18 : decode cX11_parseNewBatch 18 = .ok (.invokevirtual 157, 3) := by decide +kernel
theorem dX11_parseNewBatch_21 : decode cX11_parseNewBatch 21 = .ok (.aload_n 0, 1) := by decide +kernel
theorem dX11_parseNewBatch_22 : decode cX11_parseNewBatch 22 = .ok (.invokevirtual 163, 3) := by decide +kernel
theorem dX11_parseNewBatch_25 : decode cX11_parseNewBatch 25 = .ok (.ifCond .ne 5, 3) := by decide +kernel
theorem dX11_parseNewBatch_28 : decode cX11_parseNewBatch 28 = .ok (.iconst 0, 1) := by decide +kernel
theorem dX11_parseNewBatch_29 : decode cX11_parseNewBatch 29 = .ok (.ireturn, 1) := by decide +kernel
theorem dX11_parseNewBatch_30 : decode cX11_parseNewBatch 30 = .ok (.aload_n 0, 1) := by decide +kernel
theorem dX11_parseNewBatch_31 : decode cX11_parseNewBatch 31 = .ok (.aload_n 0, 1) := by decide +kernel
theorem dX11_parseNewBatch_32 : decode cX11_parseNewBatch 32 = .ok (.getfield 48, 3) := by decide +kernel
theorem dX11_parseNewBatch_35 : decode cX11_parseNewBatch 35 = .ok (.aload_n 0, 1) := by decide +kernel
theorem dX11_parseNewBatch_36 : decode cX11_parseNewBatch 36 = .ok (.getfield 42, 3) := by decide +kernel
theorem dX11_parseNewBatch_39 : decode cX11_parseNewBatch 39 = .ok (.aload_n 0, 1) := by decide +kernel
theorem dX11_parseNewBatch_40 : decode cX11_parseNewBatch 40 = .ok (.getfield 48, 3) := by decide +kernel
theorem dX11_parseNewBatch_43 : decode cX11_parseNewBatch 43 = .ok (.isub, 1) := by decide +kernel
theorem dX11_parseNewBatch_44 : decode cX11_parseNewBatch 44 = .ok (.invokevirtual 166, 3) := by decide +kernel
theorem dX11_parseNewBatch_47 : decode cX11_parseNewBatch 47 = .ok (.istore_n 1, 1) := by decide +kernel
theorem dX11_parseNewBatch_48 : decode cX11_parseNewBatch 48 = .ok (.iload_n 1, 1) := by decide +kernel
theorem dX11_parseNewBatch_49 : decode cX11_parseNewBatch 49 = .ok (.iconst (-1), 1) := by decide +kernel
theorem dX11_parseNewBatch_50 : decode cX11_parseNewBatch 50 = .ok (.if_icmp .ne 9, 3) := by decide +kernel
theorem dX11_parseNewBatch_53 : decode cX11_parseNewBatch 53 = .ok (.aload_n 0, 1) := by decide +kernel
theorem dX11_parseNewBatch_54 : decode cX11_parseNewBatch 54 = .ok (.iconst 3, 1) := by decide +kernel
theorem dX11_parseNewBatch_55 : decode cX11_parseNewBatch 55 = .ok (.invokevirtual 160, 3) := by decide +kernel
theorem dX11_parseNewBatch_58 : decode cX11_parseNewBatch 58 = .ok (.ireturn, 1) := by decide +kernel
theorem dX11_parseNewBatch_59 : decode cX11_parseNewBatch 59 = .ok (.aload_n 0, 1) := by decide +kernel
theorem dX11_parseNewBatch_60 : decode cX11_parseNewBatch 60 = .ok (.invokevirtual 157, 3) := by decide +kernel
theorem dX11_parseNewBatch_63 : decode cX11_parseNewBatch 63 = .ok (.bipush 100, 2) := by decide +kernel
theorem dX11_parseNewBatch_65 : decode cX11_parseNewBatch 65 = .ok (.aload_n 0, 1) := by decide +kernel
theorem dX11_parseNewBatch_66 : decode cX11_parseNewBatch 66 = .ok (.getfield 13, 3) := by decide +kernel
theorem dX11_parseNewBatch_69 : decode cX11_parseNewBatch 69 = .ok (.iconst 2, 1) := by decide +kernel
theorem dX11_parseNewBatch_70 : decode cX11_parseNewBatch 70 = .ok (.iaload, 1) := by decide +kernel
theorem dX11_parseNewBatch_71 : decode cX11_parseNewBatch 71 = .ok (.iconst 4, 1) := by decide +kernel
theorem dX11_parseNewBatch_72 : decode cX11_parseNewBatch 72 = .ok (.imul, 1) := by decide +kernel
theorem dX11_parseNewBatch_73 : decode cX11_parseNewBatch 73 = .ok (.iadd, 1) := by decide +kernel
theorem dX11_parseNewBatch_74 : decode cX11_parseNewBatch 74 = .ok (.istore_n 2, 1) := by decide +kernel
theorem dX11_parseNewBatch_75 : decode cX11_parseNewBatch 75 = .ok (.aload_n 0, 1) := by decide +kernel
theorem dX11_parseNewBatch_76 : decode cX11_parseNewBatch 76 = .ok (.iload_n 2, 1) := by decide +kernel
theorem dX11_parseNewBatch_77 : decode cX11_parseNewBatch 77 = .ok (.iconst 1, 1) := by decide +kernel
theorem dX11_parseNewBatch_78 : decode cX11_parseNewBatch 78 = .ok (.iadd, 1) := by decide +kernel
theorem dX11_parseNewBatch_79 : decode cX11_parseNewBatch 79 = .ok (.iconst 1, 1) := by decide +kernel
theorem dX11_parseNewBatch_80 : decode cX11_parseNewBatch 80 = .ok (.sipush 999, 3) := by decide +kernel
theorem dX11_parseNewBatch_83 : decode cX11_parseNewBatch 83 = .ok (.invokevirtual 169, 3) := by decide +kernel
theorem dX11_parseNewBatch_86 : decode cX11_parseNewBatch 86 = .ok (.ifCond .eq 38, 3) := by decide +kernel
theorem dX11_parseNewBatch_89 : decode cX11_parseNewBatch 89 = .ok (.aload_n 0, 1) := by decide +kernel
theorem dX11_parseNewBatch_90 : decode cX11_parseNewBatch 90 = .ok (.iload_n 2, 1) := by decide +kernel
theorem dX11_parseNewBatch_91 : decode cX11_parseNewBatch 91 = .ok (.iconst 2, 1) := by decide +kernel
theorem dX11_parseNewBatch_92 : decode cX11_parseNewBatch 92 = .ok (.iadd, 1) := by decide +kernel
theorem dX11_parseNewBatch_93 : decode cX11_parseNewBatch 93 = .ok (.iconst 0, 1) := by decide +kernel
theorem dX11_parseNewBatch_94 : decode cX11_parseNewBatch 94 = .ok (.sipush 9999, 3) := by decide +kernel
theorem dX11_parseNewBatch_97 : decode cX11_parseNewBatch 97 = .ok (.invokevirtual 169, 3) := by decide +kernel
theorem dX11_parseNewBatch_100 : decode cX11_parseNewBatch 100 = .ok (.ifCond .eq 24, 3) := by decide +kernel
theorem dX11_parseNewBatch_103 : decode cX11_parseNewBatch 103 = .ok (.aload_n 0, 1) := by decide +kernel
theorem dX11_parseNewBatch_104 : decode cX11_parseNewBatch 104 = .ok (.iload_n 2, 1) := by decide +kernel
theorem dX11_parseNewBatch_105 : decode cX11_parseNewBatch 105 = .ok (.iconst 3, 1) := by decide +kernel
theorem dX11_parseNewBatch_106 : decode cX11_parseNewBatch 106 = .ok (.iadd, 1) := by decide +kernel
theorem dX11_parseNewBatch_107 : decode cX11_parseNewBatch 107 = .ok (.iconst 1, 1) := by decide +kernel
theorem dX11_parseNewBatch_108 : decode cX11_parseNewBatch 108 = .ok (.sipush 999, 3) := by decide +kernel
theorem dX11_parseNewBatch_111 : decode cX11_parseNewBatch 111 = .ok (.invokevirtual 169, 3) := by decide +kernel
theorem dX11_parseNewBatch_114 : decode cX11_parseNewBatch 114 = .ok (.ifCond .eq 10, 3) := by decide +kernel
theorem dX11_parseNewBatch_117 : decode cX11_parseNewBatch 117 = .ok (.aload_n 0, 1) := by decide +kernel
theorem dX11_parseNewBatch_118 : decode cX11_parseNewBatch 118 = .ok (.invokevirtual 172, 3) := by decide +kernel
theorem dX11_parseNewBatch_121 : decode cX11_parseNewBatch 121 = .ok (.ifCond .ne 5, 3) := by decide +kernel
theorem dX11_parseNewBatch_124 : decode cX11_parseNewBatch 124 = .ok (.iconst 0, 1) := by decide +kernel
theorem dX11_parseNewBatch_125 : decode cX11_parseNewBatch 125 = .ok (.ireturn, 1) := by decide +kernel
theorem dX11_parseNewBatch_126 : decode cX11_parseNewBatch 126 = .ok (.aload_n 0, 1) := by decide +kernel
theorem dX11_parseNewBatch_127 : decode cX11_parseNewBatch 127 = .ok (.iload_n 1, 1) := by decide +kernel
theorem dX11_parseNewBatch_128 : decode cX11_parseNewBatch 128 = .ok (.aload_n 0, 1) := by decide +kernel
theorem dX11_parseNewBatch_129 : decode cX11_parseNewBatch 129 = .ok (.getfield 13, 3) := by decide +kernel
theorem dX11_parseNewBatch_132 : decode cX11_parseNewBatch 132 = .ok (.iload_n 2, 1) := by decide +kernel
theorem dX11_parseNewBatch_133 : decode cX11_parseNewBatch 133 = .ok (.iconst 1, 1) := by decide +kernel
theorem dX11_parseNewBatch_134 : decode cX11_parseNewBatch 134 = .ok (.iadd, 1) := by decide +kernel
theorem dX11_parseNewBatch_135 : decode cX11_parseNewBatch 135 = .ok (.iaload, 1) := by decide +kernel
theorem dX11_parseNewBatch_136 : decode cX11_parseNewBatch 136 = .ok (.aload_n 0, 1) := by decide +kernel
theorem dX11_parseNewBatch_137 : decode cX11_parseNewBatch 137 = .ok (.getfield 13, 3) := by decide +kernel
theorem dX11_parseNewBatch_140 : decode cX11_parseNewBatch 140 = .ok (.iload_n 2, 1) := by decide +kernel
theorem dX11_parseNewBatch_141 : decode cX11_parseNewBatch 141 = .ok (.iconst 2, 1) := by decide +kernel
theorem dX11_parseNewBatch_142 : decode cX11_parseNewBatch 142 = .ok (.iadd, 1) := by decide +kernel
theorem dX11_parseNewBatch_143 : decode cX11_parseNewBatch 143 = .ok (.iaload, 1) := by decide +kernel
theorem dX11_parseNewBatch_144 : decode cX11_parseNewBatch 144 = .ok (.aload_n 0, 1) := by decide +kernel
theorem dX11_parseNewBatch_145 : decode cX11_parseNewBatch 145 = .ok (.getfield 13, 3) := by decide +kernel
theorem dX11_parseNewBatch_148 : decode cX11_parseNewBatch 148 = .ok (.iload_n 2, 1) := by decide +kernel
theorem dX11_parseNewBatch_149 : decode cX11_parseNewBatch 149 = .ok (.iconst 3, 1) := by decide +kernel
theorem dX11_parseNewBatch_150 : decode cX11_parseNewBatch 150 = .ok (.iadd, 1) := by decide +kernel
theorem dX11_parseNewBatch_151 : decode cX11_parseNewBatch 151 = .ok (.iaload, 1) := by decide +kernel
theorem dX11_parseNewBatch_152 : decode cX11_parseNewBatch 152 = .ok (.invokevirtual 175, 3) := by decide +kernel
theorem dX11_parseNewBatch_155 : decode cX11_parseNewBatch 155 = .ok (.pop, 1) := by decide +kernel
theorem dX11_parseNewBatch_156 : decode cX11_parseNewBatch 156 = .ok (.iconst 1, 1) := by decide +kernel
theorem dX11_parseNewBatch_157 : decode cX11_parseNewBatch 157 = .ok (.ireturn, 1) := by decide +kernel
theorem dX11_parseSetup_0 : decode cX11_parseSetup 0 = .ok (.iconst 0, 1) := by decide +kernel
theorem dX11_parseSetup_1 : decode cX11_parseSetup 1 = .ok (.istore_n 1, 1) := by decide +kernel
theorem dX11_parseSetup_2 : decode cX11_parseSetup 2 = .ok (.iload_n 1, 1) := by decide +kernel
theorem dX11_parseSetup_3 : decode cX11_parseSetup 3 = .ok (.sipush 420, 3) := by decide +kernel
theorem dX11_parseSetup_6 : decode cX11_parseSetup 6 = .ok (.if_icmp .ge 16, 3) := by decide +kernel
theorem dX11_parseSetup_9 : decode cX11_parseSetup 9 = .ok (.aload_n 0, 1) := by decide +kernel
theorem dX11_parseSetup_10 : decode cX11_parseSetup 10 = .ok (.getfield 13, 3) := by decide +kernel
theorem dX11_parseSetup_13 : decode cX11_parseSetup 13 = .ok (.iload_n 1, 1) := by decide +kernel
theorem dX11_parseSetup_14 : decode cX11_parseSetup 14 = .ok (.iconst 0, 1) := by decide +kernel
theorem dX11_parseSetup_15 : decode cX11_parseSetup 15 = .ok (.iastore, 1) := by decide +kernel
theorem dX11_parseSetup_16 : decode cX11_parseSetup 16 = .ok (.iinc 1 1, 3) := by decide +kernel
theorem dX11_parseSetup_19 : decode cX11_parseSetup 19 = .ok (.goto (-17), 3) := by decide +kernel
theorem dX11_parseSetup_22 : decode cX11_parseSetup 22 = .ok (.aload_n 0, 1) := by decide +kernel
theorem dX11_parseSetup_23 : decode cX11_parseSetup 23 = .ok (.ldc 179, 2) := by decide +kernel
theorem dX11_parseSetup_25 : decode cX11_parseSetup 25 = .ok (.invokevirtual 181, 3) := by decide +kernel
theorem dX11_parseSetup_28 : decode cX11_parseSetup 28 = .ok (.ifCond .ne 9, 3) := by decide +kernel
theorem dX11_parseSetup_31 : decode cX11_parseSetup 31 = .ok (.aload_n 0, 1) := by decide +kernel
theorem dX11_parseSetup_32 : decode cX11_parseSetup 32 = .ok (.iconst 1, 1) := by decide +kernel
theorem dX11_parseSetup_33 : decode cX11_parseSetup 33 = .ok (.invokevirtual 160, 3) := by decide +kernel
theorem dX11_parseSetup_36 : decode cX11_parseSetup 36 = .ok (.ireturn, 1) := by decide +kernel
theorem dX11_parseSetup_37 : decode cX11_parseSetup 37 = .ok (.aload_n 0, 1) := by decide +kernel
theorem dX11_parseSetup_38 : decode cX11_parseSetup 38 = .ok (.invokevirtual 157, 3) := by decide +kernel
theorem dX11_parseSetup_41 : decode cX11_parseSetup 41 = .ok (.aload_n 0, 1) := by decide +kernel
theorem dX11_parseSetup_42 : decode cX11_parseSetup 42 = .ok (.invokevirtual 172, 3) := by decide +kernel
theorem dX11_parseSetup_45 : decode cX11_parseSetup 45 = .ok (.ifCond .ne 5, 3) := by decide +kernel
theorem dX11_parseSetup_48 : decode cX11_parseSetup 48 = .ok (.iconst 0, 1) := by decide +kernel
theorem dX11_parseSetup_49 : decode cX11_parseSetup 49 = .ok (.ireturn, 1) := by decide +kernel
theorem dX11_parseSetup_50 : decode cX11_parseSetup 50 = .ok (.aload_n 0, 1) := by decide +kernel
theorem dX11_parseSetup_51 : decode cX11_parseSetup 51 = .ok (.ldc 185, 2) := by decide +kernel
theorem dX11_parseSetup_53 : decode cX11_parseSetup 53 = .ok (.invokevirtual 181, 3) := by decide +kernel
theorem dX11_parseSetup_56 : decode cX11_parseSetup 56 = .ok (.ifCond .ne 9, 3) := by decide +kernel
theorem dX11_parseSetup_59 : decode cX11_parseSetup 59 = .ok (.aload_n 0, 1) := by decide +kernel
theorem dX11_parseSetup_60 : decode cX11_parseSetup 60 = .ok (.iconst 1, 1) := by decide +kernel
theorem dX11_parseSetup_61 : decode cX11_parseSetup 61 = .ok (.invokevirtual 160, 3) := by decide +kernel
theorem dX11_parseSetup_64 : decode cX11_parseSetup 64 = .ok (.ireturn, 1) := by decide +kernel
theorem dX11_parseSetup_65 : decode cX11_parseSetup 65 = .ok (.aload_n 0, 1) := by decide +kernel
theorem dX11_parseSetup_66 : decode cX11_parseSetup 66 = .ok (.ldc 185, 2) := by decide +kernel
theorem dX11_parseSetup_68 : decode cX11_parseSetup 68 = .ok (.invokevirtual 181, 3) := by decide +kernel
theorem dX11_parseSetup_71 : decode cX11_parseSetup 71 = .ok (.ifCond .eq 12, 3) := by decide +kernel
theorem dX11_parseSetup_74 : decode cX11_parseSetup 74 = .ok (.aload_n 0, 1) := by decide +kernel
theorem dX11_parseSetup_75 : decode cX11_parseSetup 75 = .ok (.invokevirtual 187, 3) := by decide +kernel
theorem dX11_parseSetup_78 : decode cX11_parseSetup 78 = .ok (.ifCond .ne (-13), 3) := by decide +kernel
theorem dX11_parseSetup_81 : decode cX11_parseSetup 81 = .ok (.iconst 0, 1) := by decide +kernel
theorem dX11_parseSetup_82 : decode cX11_parseSetup 82 = .ok (.ireturn, 1) := by decide +kernel
theorem dX11_parseSetup_83 : decode cX11_parseSetup 83 = .ok (.aload_n 0, 1) := by decide +kernel
theorem dX11_parseSetup_84 : decode cX11_parseSetup 84 = .ok (.ldc 190, 2) := by decide +kernel
theorem dX11_parseSetup_86 : decode cX11_parseSetup 86 = .ok (.invokevirtual 181, 3) := by decide +kernel
theorem dX11_parseSetup_89 : decode cX11_parseSetup 89 = .ok (.ifCond .eq 12, 3) := by decide +kernel
theorem dX11_parseSetup_92 : decode cX11_parseSetup 92 = .ok (.aload_n 0, 1) := by decide +kernel
theorem dX11_parseSetup_93 : decode cX11_parseSetup 93 = .ok (.invokevirtual 192, 3) := by decide +kernel
theorem dX11_parseSetup_96 : decode cX11_parseSetup 96 = .ok (.ifCond .ne (-13), 3) := by decide +kernel
theorem dX11_parseSetup_99 : decode cX11_parseSetup 99 = .ok (.iconst 0, 1) := by decide +kernel
theorem dX11_parseSetup_100 : decode cX11_parseSetup 100 = .ok (.ireturn, 1) := by decide +kernel
theorem dX11_parseSetup_101 : decode cX11_parseSetup 101 = .ok (.aload_n 0, 1) := by decide +kernel
theorem dX11_parseSetup_102 : decode cX11_parseSetup 102 = .ok (.getfield 45, 3) := by decide +kernel
theorem dX11_parseSetup_105 : decode cX11_parseSetup 105 = .ok (.ifCond .eq 11, 3) := by decide +kernel
theorem dX11_parseSetup_108 : decode cX11_parseSetup 108 = .ok (.aload_n 0, 1) := by decide +kernel
theorem dX11_parseSetup_109 : decode cX11_parseSetup 109 = .ok (.iconst 1, 1) := by decide +kernel
theorem dX11_parseSetup_110 : decode cX11_parseSetup 110 = .ok (.invokevirtual 160, 3) := by decide +kernel
theorem dX11_parseSetup_113 : decode cX11_parseSetup 113 = .ok (.ifCond .eq 7, 3) := by decide +kernel
theorem dX11_parseSetup_116 : decode cX11_parseSetup 116 = .ok (.iconst 1, 1) := by decide +kernel
theorem dX11_parseSetup_117 : decode cX11_parseSetup 117 = .ok (.goto 4, 3) := by decide +kernel
theorem dX11_parseSetup_120 : decode cX11_parseSetup 120 = .ok (.iconst 0, 1) := by decide +kernel
theorem dX11_parseSetup_121 : decode cX11_parseSetup 121 = .ok (.ireturn, 1) := by decide +kernel
theorem dX11_load_0 : decode cX11_load 0 = .ok (.aload_n 0, 1) := by decide +kernel
theorem dX11_load_1 : decode cX11_load 1 = .ok (.iconst 0, 1) := by decide +kernel
theorem dX11_load_2 : decode cX11_load 2 = .ok (.bipush 9, 2) := by decide +kernel
theorem dX11_load_4 : decode cX11_load 4 = .ok (.invokevirtual 79, 3) := by decide +kernel
theorem dX11_load_7 : decode cX11_load 7 = .ok (.aload_n 0, 1) := by decide +kernel
theorem dX11_load_8 : decode cX11_load 8 = .ok (.invokevirtual 68, 3) := by decide +kernel
theorem dX11_load_11 : decode cX11_load 11 = .ok (.aload_n 0, 1) := by decide +kernel
theorem dX11_load_12 : decode cX11_load 12 = .ok (.invokevirtual 71, 3) := by decide +kernel
theorem dX11_load_15 : decode cX11_load 15 = .ok (.istore_n 1, 1) := by decide +kernel
theorem dX11_load_16 : decode cX11_load 16 = .ok (.aload_n 0, 1) := by decide +kernel
theorem dX11_load_17 : decode cX11_load 17 = .ok (.iconst 0, 1) := by decide +kernel
theorem dX11_load_18 : decode cX11_load 18 = .ok (.putfield 27, 3) := by decide +kernel
theorem dX11_load_21 : decode cX11_load 21 = .ok (.iload_n 1, 1) := by decide +kernel
theorem dX11_load_22 : decode cX11_load 22 = .ok (.ifCond .ne 10, 3) := by decide +kernel
theorem dX11_load_25 : decode cX11_load 25 = .ok (.aload_n 0, 1) := by decide +kernel
theorem dX11_load_26 : decode cX11_load 26 = .ok (.bipush 9, 2) := by decide +kernel
theorem dX11_load_28 : decode cX11_load 28 = .ok (.iconst 0, 1) := by decide +kernel
theorem dX11_load_29 : decode cX11_load 29 = .ok (.invokevirtual 79, 3) := by decide +kernel
theorem dX11_load_32 : decode cX11_load 32 = .ok (.aload_n 0, 1) := by decide +kernel
theorem dX11_load_33 : decode cX11_load 33 = .ok (.iload_n 1, 1) := by decide +kernel
theorem dX11_load_34 : decode cX11_load 34 = .ok (.ifCond .ne 7, 3) := by decide +kernel
theorem dX11_load_37 : decode cX11_load 37 = .ok (.iconst 1, 1) := by decide +kernel
theorem dX11_load_38 : decode cX11_load 38 = .ok (.goto 4, 3) := by decide +kernel
theorem dX11_load_41 : decode cX11_load 41 = .ok (.iconst 0, 1) := by decide +kernel
theorem dX11_load_42 : decode cX11_load 42 = .ok (.iconst 0, 1) := by decide +kernel
theorem dX11_load_43 : decode cX11_load 43 = .ok (.iconst 0, 1) := by decide +kernel
theorem dX11_load_44 : decode cX11_load 44 = .ok (.invokevirtual 143, 3) := by decide +kernel
theorem dX11_load_47 : decode cX11_load 47 = .ok (.ifCond .eq 5, 3) := by decide +kernel
theorem dX11_load_50 : decode cX11_load 50 = .ok (.iconst 0, 1) := by decide +kernel
theorem dX11_load_51 : decode cX11_load 51 = .ok (.ireturn, 1) := by decide +kernel
theorem dX11_load_52 : decode cX11_load 52 = .ok (.aload_n 0, 1) := by decide +kernel
theorem dX11_load_53 : decode cX11_load 53 = .ok (.iconst 0, 1) := by decide +kernel
theorem dX11_load_54 : decode cX11_load 54 = .ok (.putfield 21, 3) := by decide +kernel
theorem dX11_load_57 : decode cX11_load 57 = .ok (.aload_n 0, 1) := by decide +kernel
theorem dX11_load_58 : decode cX11_load 58 = .ok (.getfield 17, 3) := by decide +kernel
theorem dX11_load_61 : decode cX11_load 61 = .ok (.iconst 0, 1) := by decide +kernel
theorem dX11_load_62 : decode cX11_load 62 = .ok (.iconst 0, 1) := by decide +kernel
theorem dX11_load_63 : decode cX11_load 63 = .ok (.bastore, 1) := by decide +kernel
theorem dX11_load_64 : decode cX11_load 64 = .ok (.aload_n 0, 1) := by decide +kernel
theorem dX11_load_65 : decode cX11_load 65 = .ok (.getfield 17, 3) := by decide +kernel
theorem dX11_load_68 : decode cX11_load 68 = .ok (.iconst 1, 1) := by decide +kernel
theorem dX11_load_69 : decode cX11_load 69 = .ok (.iconst 0, 1) := by decide +kernel
theorem dX11_load_70 : decode cX11_load 70 = .ok (.bastore, 1) := by decide +kernel
theorem dX11_load_71 : decode cX11_load 71 = .ok (.aload_n 0, 1) := by decide +kernel
theorem dX11_load_72 : decode cX11_load 72 = .ok (.getfield 13, 3) := by decide +kernel
theorem dX11_load_75 : decode cX11_load 75 = .ok (.iconst 1, 1) := by decide +kernel
theorem dX11_load_76 : decode cX11_load 76 = .ok (.iaload, 1) := by decide +kernel
theorem dX11_load_77 : decode cX11_load 77 = .ok (.ireturn, 1) := by decide +kernel
theorem dX11_nameOf_0 : decode cX11_nameOf 0 = .ok (.iload_n 0, 1) := by decide +kernel
theorem dX11_nameOf_1 : decode cX11_nameOf 1 = .ok (.tableswitch 71 0 7 #[47, 50, 53, 56, 59, 62, 65, 68], 47) := by decide +kernel
theorem dX11_nameOf_48 : decode cX11_nameOf 48 = .ok (.ldc 195, 2) := by decide +kernel
theorem dX11_nameOf_50 : decode cX11_nameOf 50 = .ok (.areturn, 1) := by decide +kernel
theorem dX11_nameOf_51 : decode cX11_nameOf 51 = .ok (.ldc 197, 2) := by decide +kernel
theorem dX11_nameOf_53 : decode cX11_nameOf 53 = .ok (.areturn, 1) := by decide +kernel
theorem dX11_nameOf_54 : decode cX11_nameOf 54 = .ok (.ldc 199, 2) := by decide +kernel
theorem dX11_nameOf_56 : decode cX11_nameOf 56 = .ok (.areturn, 1) := by decide +kernel
theorem dX11_nameOf_57 : decode cX11_nameOf 57 = .ok (.ldc 201, 2) := by decide +kernel
theorem dX11_nameOf_59 : decode cX11_nameOf 59 = .ok (.areturn, 1) := by decide +kernel
theorem dX11_nameOf_60 : decode cX11_nameOf 60 = .ok (.ldc 203, 2) := by decide +kernel
theorem dX11_nameOf_62 : decode cX11_nameOf 62 = .ok (.areturn, 1) := by decide +kernel
theorem dX11_nameOf_63 : decode cX11_nameOf 63 = .ok (.ldc 205, 2) := by decide +kernel
theorem dX11_nameOf_65 : decode cX11_nameOf 65 = .ok (.areturn, 1) := by decide +kernel
theorem dX11_nameOf_66 : decode cX11_nameOf 66 = .ok (.ldc 207, 2) := by decide +kernel
theorem dX11_nameOf_68 : decode cX11_nameOf 68 = .ok (.areturn, 1) := by decide +kernel
theorem dX11_nameOf_69 : decode cX11_nameOf 69 = .ok (.ldc 209, 2) := by decide +kernel
theorem dX11_nameOf_71 : decode cX11_nameOf 71 = .ok (.areturn, 1) := by decide +kernel
theorem dX11_nameOf_72 : decode cX11_nameOf 72 = .ok (.ldc 211, 2) := by decide +kernel
theorem dX11_nameOf_74 : decode cX11_nameOf 74 = .ok (.areturn, 1) := by decide +kernel
theorem dX11_commandHere_0 : decode cX11_commandHere 0 = .ok (.iconst 0, 1) := by decide +kernel
theorem dX11_commandHere_1 : decode cX11_commandHere 1 = .ok (.istore_n 1, 1) := by decide +kernel
theorem dX11_commandHere_2 : decode cX11_commandHere 2 = .ok (.iload_n 1, 1) := by decide +kernel
theorem dX11_commandHere_3 : decode cX11_commandHere 3 = .ok (.bipush 8, 2) := by decide +kernel
theorem dX11_commandHere_5 : decode cX11_commandHere 5 = .ok (.if_icmp .gt 22, 3) := by decide +kernel
theorem dX11_commandHere_8 : decode cX11_commandHere 8 = .ok (.aload_n 0, 1) := by decide +kernel
theorem dX11_commandHere_9 : decode cX11_commandHere 9 = .ok (.iload_n 1, 1) := by decide +kernel
theorem dX11_commandHere_10 : decode cX11_commandHere 10 = .ok (.invokestatic 213, 3) := by decide +kernel
theorem dX11_commandHere_13 : decode cX11_commandHere 13 = .ok (.invokevirtual 181, 3) := by decide +kernel
theorem dX11_commandHere_16 : decode cX11_commandHere 16 = .ok (.ifCond .eq 5, 3) := by decide +kernel
theorem dX11_commandHere_19 : decode cX11_commandHere 19 = .ok (.iload_n 1, 1) := by decide +kernel
theorem dX11_commandHere_20 : decode cX11_commandHere 20 = .ok (.ireturn, 1) := by decide +kernel
theorem dX11_commandHere_21 : decode cX11_commandHere 21 = .ok (.iinc 1 1, 3) := by decide +kernel
theorem dX11_commandHere_24 : decode cX11_commandHere 24 = .ok (.goto (-22), 3) := by decide +kernel
theorem dX11_commandHere_27 : decode cX11_commandHere 27 = .ok (.iconst (-1), 1) := by decide +kernel
theorem dX11_commandHere_28 : decode cX11_commandHere 28 = .ok (.ireturn, 1) := by decide +kernel
theorem dX11_parseNumbers_0 : decode cX11_parseNumbers 0 = .ok (.iconst 0, 1) := by decide +kernel
theorem dX11_parseNumbers_1 : decode cX11_parseNumbers 1 = .ok (.istore_n 3, 1) := by decide +kernel
theorem dX11_parseNumbers_2 : decode cX11_parseNumbers 2 = .ok (.iload_n 3, 1) := by decide +kernel
theorem dX11_parseNumbers_3 : decode cX11_parseNumbers 3 = .ok (.iload_n 2, 1) := by decide +kernel
theorem dX11_parseNumbers_4 : decode cX11_parseNumbers 4 = .ok (.if_icmp .ge 39, 3) := by decide +kernel
theorem dX11_parseNumbers_7 : decode cX11_parseNumbers 7 = .ok (.aload_n 0, 1) := by decide +kernel
theorem dX11_parseNumbers_8 : decode cX11_parseNumbers 8 = .ok (.getfield 45, 3) := by decide +kernel
theorem dX11_parseNumbers_11 : decode cX11_parseNumbers 11 = .ok (.iconst 2, 1) := by decide +kernel
theorem dX11_parseNumbers_12 : decode cX11_parseNumbers 12 = .ok (.if_icmp .eq 9, 3) := by decide +kernel
theorem dX11_parseNumbers_15 : decode cX11_parseNumbers 15 = .ok (.aload_n 0, 1) := by decide +kernel
theorem dX11_parseNumbers_16 : decode cX11_parseNumbers 16 = .ok (.iconst 1, 1) := by decide +kernel
theorem dX11_parseNumbers_17 : decode cX11_parseNumbers 17 = .ok (.invokevirtual 160, 3) := by decide +kernel
theorem dX11_parseNumbers_20 : decode cX11_parseNumbers 20 = .ok (.ireturn, 1) := by decide +kernel
theorem dX11_parseNumbers_21 : decode cX11_parseNumbers 21 = .ok (.aload_n 0, 1) := by decide +kernel
theorem dX11_parseNumbers_22 : decode cX11_parseNumbers 22 = .ok (.getfield 54, 3) := by decide +kernel
theorem dX11_parseNumbers_25 : decode cX11_parseNumbers 25 = .ok (.iload_n 1, 1) := by decide +kernel
theorem dX11_parseNumbers_26 : decode cX11_parseNumbers 26 = .ok (.iload_n 3, 1) := by decide +kernel
theorem dX11_parseNumbers_27 : decode cX11_parseNumbers 27 = .ok (.iadd, 1) := by decide +kernel
theorem dX11_parseNumbers_28 : decode cX11_parseNumbers 28 = .ok (.aload_n 0, 1) := by decide +kernel
theorem dX11_parseNumbers_29 : decode cX11_parseNumbers 29 = .ok (.getfield 51, 3) := by decide +kernel
theorem dX11_parseNumbers_32 : decode cX11_parseNumbers 32 = .ok (.iastore, 1) := by decide +kernel
theorem dX11_parseNumbers_33 : decode cX11_parseNumbers 33 = .ok (.aload_n 0, 1) := by decide +kernel
theorem dX11_parseNumbers_34 : decode cX11_parseNumbers 34 = .ok (.invokevirtual 157, 3) := by decide +kernel
theorem dX11_parseNumbers_37 : decode cX11_parseNumbers 37 = .ok (.iinc 3 1, 3) := by decide +kernel
theorem dX11_parseNumbers_40 : decode cX11_parseNumbers 40 = .ok (.goto (-38), 3) := by decide +kernel
theorem dX11_parseNumbers_43 : decode cX11_parseNumbers 43 = .ok (.iconst 1, 1) := by decide +kernel
theorem dX11_parseNumbers_44 : decode cX11_parseNumbers 44 = .ok (.ireturn, 1) := by decide +kernel
theorem dX11_parseArguments_0 : decode cX11_parseArguments 0 = .ok (.iload_n 1, 1) := by decide +kernel
theorem dX11_parseArguments_1 : decode cX11_parseArguments 1 = .ok (.iconst 2, 1) := by decide +kernel
theorem dX11_parseArguments_2 : decode cX11_parseArguments 2 = .ok (.if_icmp .gt 55, 3) := by decide +kernel
theorem dX11_parseArguments_5 : decode cX11_parseArguments 5 = .ok (.aload_n 0, 1) := by decide +kernel
theorem dX11_parseArguments_6 : decode cX11_parseArguments 6 = .ok (.invokevirtual 163, 3) := by decide +kernel
theorem dX11_parseArguments_9 : decode cX11_parseArguments 9 = .ok (.ifCond .ne 5, 3) := by decide +kernel
theorem dX11_parseArguments_12 : decode cX11_parseArguments 12 = .ok (.iconst 0, 1) := by decide +kernel
theorem dX11_parseArguments_13 : decode cX11_parseArguments 13 = .ok (.ireturn, 1) := by decide +kernel
theorem dX11_parseArguments_14 : decode cX11_parseArguments 14 = .ok (.aload_n 0, 1) := by decide +kernel
theorem dX11_parseArguments_15 : decode cX11_parseArguments 15 = .ok (.getfield 54, 3) := by decide +kernel
theorem dX11_parseArguments_18 : decode cX11_parseArguments 18 = .ok (.iload_n 2, 1) := by decide +kernel
theorem dX11_parseArguments_19 : decode cX11_parseArguments 19 = .ok (.aload_n 0, 1) := by decide +kernel
theorem dX11_parseArguments_20 : decode cX11_parseArguments 20 = .ok (.aload_n 0, 1) := by decide +kernel
theorem dX11_parseArguments_21 : decode cX11_parseArguments 21 = .ok (.getfield 48, 3) := by decide +kernel
theorem dX11_parseArguments_24 : decode cX11_parseArguments 24 = .ok (.aload_n 0, 1) := by decide +kernel
theorem dX11_parseArguments_25 : decode cX11_parseArguments 25 = .ok (.getfield 42, 3) := by decide +kernel
theorem dX11_parseArguments_28 : decode cX11_parseArguments 28 = .ok (.aload_n 0, 1) := by decide +kernel
theorem dX11_parseArguments_29 : decode cX11_parseArguments 29 = .ok (.getfield 48, 3) := by decide +kernel
theorem dX11_parseArguments_32 : decode cX11_parseArguments 32 = .ok (.isub, 1) := by decide +kernel
theorem dX11_parseArguments_33 : decode cX11_parseArguments 33 = .ok (.invokevirtual 166, 3) := by decide +kernel
theorem dX11_parseArguments_36 : decode cX11_parseArguments 36 = .ok (.iastore, 1) := by decide +kernel
theorem dX11_parseArguments_37 : decode cX11_parseArguments 37 = .ok (.aload_n 0, 1) := by decide +kernel
theorem dX11_parseArguments_38 : decode cX11_parseArguments 38 = .ok (.getfield 54, 3) := by decide +kernel
theorem dX11_parseArguments_41 : decode cX11_parseArguments 41 = .ok (.iload_n 2, 1) := by decide +kernel
theorem dX11_parseArguments_42 : decode cX11_parseArguments 42 = .ok (.iaload, 1) := by decide +kernel
theorem dX11_parseArguments_43 : decode cX11_parseArguments 43 = .ok (.iconst (-1), 1) := by decide +kernel
theorem dX11_parseArguments_44 : decode cX11_parseArguments 44 = .ok (.if_icmp .ne 9, 3) := by decide +kernel
theorem dX11_parseArguments_47 : decode cX11_parseArguments 47 = .ok (.aload_n 0, 1) := by decide +kernel
theorem dX11_parseArguments_48 : decode cX11_parseArguments 48 = .ok (.iconst 3, 1) := by decide +kernel
theorem dX11_parseArguments_49 : decode cX11_parseArguments 49 = .ok (.invokevirtual 160, 3) := by decide +kernel
theorem dX11_parseArguments_52 : decode cX11_parseArguments 52 = .ok (.ireturn, 1) := by decide +kernel
theorem dX11_parseArguments_53 : decode cX11_parseArguments 53 = .ok (.aload_n 0, 1) := by decide +kernel
theorem dX11_parseArguments_54 : decode cX11_parseArguments 54 = .ok (.invokevirtual 157, 3) := by decide +kernel
theorem dX11_parseArguments_57 : decode cX11_parseArguments 57 = .ok (.iload_n 1, 1) := by decide +kernel
theorem dX11_parseArguments_58 : decode cX11_parseArguments 58 = .ok (.tableswitch 82 0 7 #[46, 55, 64, 82, 82, 82, 73, 80], 46) := by decide +kernel
theorem dX11_parseArguments_104 : decode cX11_parseArguments 104 = .ok (.aload_n 0, 1) := by decide +kernel
theorem dX11_parseArguments_105 : decode cX11_parseArguments 105 = .ok (.iload_n 2, 1) := by decide +kernel
theorem dX11_parseArguments_106 : decode cX11_parseArguments 106 = .ok (.iconst 1, 1) := by decide +kernel
theorem dX11_parseArguments_107 : decode cX11_parseArguments 107 = .ok (.iadd, 1) := by decide +kernel
theorem dX11_parseArguments_108 : decode cX11_parseArguments 108 = .ok (.iconst 3, 1) := by decide +kernel
theorem dX11_parseArguments_109 : decode cX11_parseArguments 109 = .ok (.invokevirtual 217, 3) := by decide +kernel
theorem dX11_parseArguments_112 : decode cX11_parseArguments 112 = .ok (.ireturn, 1) := by decide +kernel
theorem dX11_parseArguments_113 : decode cX11_parseArguments 113 = .ok (.aload_n 0, 1) := by decide +kernel
theorem dX11_parseArguments_114 : decode cX11_parseArguments 114 = .ok (.iload_n 2, 1) := by decide +kernel
theorem dX11_parseArguments_115 : decode cX11_parseArguments 115 = .ok (.iconst 1, 1) := by decide +kernel
theorem dX11_parseArguments_116 : decode cX11_parseArguments 116 = .ok (.iadd, 1) := by decide +kernel
theorem dX11_parseArguments_117 : decode cX11_parseArguments 117 = .ok (.iconst 1, 1) := by decide +kernel
theorem dX11_parseArguments_118 : decode cX11_parseArguments 118 = .ok (.invokevirtual 217, 3) := by decide +kernel
theorem dX11_parseArguments_121 : decode cX11_parseArguments 121 = .ok (.ireturn, 1) := by decide +kernel
theorem dX11_parseArguments_122 : decode cX11_parseArguments 122 = .ok (.aload_n 0, 1) := by decide +kernel
theorem dX11_parseArguments_123 : decode cX11_parseArguments 123 = .ok (.iload_n 2, 1) := by decide +kernel
theorem dX11_parseArguments_124 : decode cX11_parseArguments 124 = .ok (.iconst 1, 1) := by decide +kernel
theorem dX11_parseArguments_125 : decode cX11_parseArguments 125 = .ok (.iadd, 1) := by decide +kernel
theorem dX11_parseArguments_126 : decode cX11_parseArguments 126 = .ok (.iconst 2, 1) := by decide +kernel
theorem dX11_parseArguments_127 : decode cX11_parseArguments 127 = .ok (.invokevirtual 217, 3) := by decide +kernel
theorem dX11_parseArguments_130 : decode cX11_parseArguments 130 = .ok (.ireturn, 1) := by decide +kernel
theorem dX11_parseArguments_131 : decode cX11_parseArguments 131 = .ok (.aload_n 0, 1) := by decide +kernel
theorem dX11_parseArguments_132 : decode cX11_parseArguments 132 = .ok (.iload_n 2, 1) := by decide +kernel
theorem dX11_parseArguments_133 : decode cX11_parseArguments 133 = .ok (.iconst 2, 1) := by decide +kernel
theorem dX11_parseArguments_134 : decode cX11_parseArguments 134 = .ok (.invokevirtual 217, 3) := by decide +kernel
theorem dX11_parseArguments_137 : decode cX11_parseArguments 137 = .ok (.ireturn, 1) := by decide +kernel
theorem dX11_parseArguments_138 : decode cX11_parseArguments 138 = .ok (.iconst 1, 1) := by decide +kernel
theorem dX11_parseArguments_139 : decode cX11_parseArguments 139 = .ok (.ireturn, 1) := by decide +kernel
theorem dX11_parseArguments_140 : decode cX11_parseArguments 140 = .ok (.aload_n 0, 1) := by decide +kernel
theorem dX11_parseArguments_141 : decode cX11_parseArguments 141 = .ok (.iload_n 2, 1) := by decide +kernel
theorem dX11_parseArguments_142 : decode cX11_parseArguments 142 = .ok (.iconst 1, 1) := by decide +kernel
theorem dX11_parseArguments_143 : decode cX11_parseArguments 143 = .ok (.invokevirtual 217, 3) := by decide +kernel
theorem dX11_parseArguments_146 : decode cX11_parseArguments 146 = .ok (.ireturn, 1) := by decide +kernel
theorem dX11_parseScript_0 : decode cX11_parseScript 0 = .ok (.iconst 0, 1) := by decide +kernel
theorem dX11_parseScript_1 : decode cX11_parseScript 1 = .ok (.istore_n 1, 1) := by decide +kernel
theorem dX11_parseScript_2 : decode cX11_parseScript 2 = .ok (.aload_n 0, 1) := by decide +kernel
theorem dX11_parseScript_3 : decode cX11_parseScript 3 = .ok (.getfield 45, 3) := by decide +kernel
theorem dX11_parseScript_6 : decode cX11_parseScript 6 = .ok (.ifCond .eq 88, 3) := by decide +kernel
theorem dX11_parseScript_9 : decode cX11_parseScript 9 = .ok (.aload_n 0, 1) := by decide +kernel
theorem dX11_parseScript_10 : decode cX11_parseScript 10 = .ok (.invokevirtual 220, 3) := by decide +kernel
theorem dX11_parseScript_13 : decode cX11_parseScript 13 = .ok (.istore_n 2, 1) := by decide +kernel
theorem dX11_parseScript_14 : decode cX11_parseScript 14 = .ok (.iload_n 2, 1) := by decide +kernel
theorem dX11_parseScript_15 : decode cX11_parseScript 15 = .ok (.iconst (-1), 1) := by decide +kernel
theorem dX11_parseScript_16 : decode cX11_parseScript 16 = .ok (.if_icmp .eq 25, 3) := by decide +kernel
theorem dX11_parseScript_19 : decode cX11_parseScript 19 = .ok (.iload_n 1, 1) := by decide +kernel
theorem dX11_parseScript_20 : decode cX11_parseScript 20 = .ok (.bipush 30, 2) := by decide +kernel
theorem dX11_parseScript_22 : decode cX11_parseScript 22 = .ok (.if_icmp .lt 11, 3) := by decide +kernel
theorem dX11_parseScript_25 : decode cX11_parseScript 25 = .ok (.aload_n 0, 1) := by decide +kernel
theorem dX11_parseScript_26 : decode cX11_parseScript 26 = .ok (.iconst 4, 1) := by decide +kernel
theorem dX11_parseScript_27 : decode cX11_parseScript 27 = .ok (.invokevirtual 160, 3) := by decide +kernel
theorem dX11_parseScript_30 : decode cX11_parseScript 30 = .ok (.ifCond .eq 7, 3) := by decide +kernel
theorem dX11_parseScript_33 : decode cX11_parseScript 33 = .ok (.iconst 1, 1) := by decide +kernel
theorem dX11_parseScript_34 : decode cX11_parseScript 34 = .ok (.goto 12, 3) := by decide +kernel
theorem dX11_parseScript_37 : decode cX11_parseScript 37 = .ok (.iconst 0, 1) := by decide +kernel
theorem dX11_parseScript_38 : decode cX11_parseScript 38 = .ok (.goto 8, 3) := by decide +kernel
theorem dX11_parseScript_41 : decode cX11_parseScript 41 = .ok (.aload_n 0, 1) := by decide +kernel
theorem dX11_parseScript_42 : decode cX11_parseScript 42 = .ok (.iconst 1, 1) := by decide +kernel
theorem dX11_parseScript_43 : decode cX11_parseScript 43 = .ok (.invokevirtual 160, 3) := by decide +kernel
theorem dX11_parseScript_46 : decode cX11_parseScript 46 = .ok (.istore_n 3, 1) := by decide +kernel
theorem dX11_parseScript_47 : decode cX11_parseScript 47 = .ok (.iload_n 3, 1) := by decide +kernel
theorem dX11_parseScript_48 : decode cX11_parseScript 48 = .ok (.ifCond .ne 5, 3) := by decide +kernel
theorem dX11_parseScript_51 : decode cX11_parseScript 51 = .ok (.iconst (-1), 1) := by decide +kernel
theorem dX11_parseScript_52 : decode cX11_parseScript 52 = .ok (.ireturn, 1) := by decide +kernel
theorem dX11_parseScript_53 : decode cX11_parseScript 53 = .ok (.aload_n 0, 1) := by decide +kernel
theorem dX11_parseScript_54 : decode cX11_parseScript 54 = .ok (.invokevirtual 157, 3) := by decide +kernel
theorem dX11_parseScript_57 : decode cX11_parseScript 57 = .ok (.aload_n 0, 1) := by decide +kernel
theorem dX11_parseScript_58 : decode cX11_parseScript 58 = .ok (.getfield 54, 3) := by decide +kernel
theorem dX11_parseScript_61 : decode cX11_parseScript 61 = .ok (.iload_n 1, 1) := by decide +kernel
theorem dX11_parseScript_62 : decode cX11_parseScript 62 = .ok (.iconst 5, 1) := by decide +kernel
theorem dX11_parseScript_63 : decode cX11_parseScript 63 = .ok (.imul, 1) := by decide +kernel
theorem dX11_parseScript_64 : decode cX11_parseScript 64 = .ok (.iload_n 2, 1) := by decide +kernel
theorem dX11_parseScript_65 : decode cX11_parseScript 65 = .ok (.iastore, 1) := by decide +kernel
theorem dX11_parseScript_66 : decode cX11_parseScript 66 = .ok (.aload_n 0, 1) := by decide +kernel
theorem dX11_parseScript_67 : decode cX11_parseScript 67 = .ok (.iload_n 2, 1) := by decide +kernel
theorem dX11_parseScript_68 : decode cX11_parseScript 68 = .ok (.iload_n 1, 1) := by decide +kernel
theorem dX11_parseScript_69 : decode cX11_parseScript 69 = .ok (.iconst 5, 1) := by decide +kernel
theorem dX11_parseScript_70 : decode cX11_parseScript 70 = .ok (.imul, 1) := by decide +kernel
theorem dX11_parseScript_71 : decode cX11_parseScript 71 = .ok (.iconst 1, 1) := by decide +kernel
theorem dX11_parseScript_72 : decode cX11_parseScript 72 = .ok (.iadd, 1) := by decide +kernel
theorem dX11_parseScript_73 : decode cX11_parseScript 73 = .ok (.invokevirtual 223, 3) := by decide +kernel
theorem dX11_parseScript_76 : decode cX11_parseScript 76 = .ok (.ifCond .eq 10, 3) := by decide +kernel
theorem dX11_parseScript_79 : decode cX11_parseScript 79 = .ok (.aload_n 0, 1) := by decide +kernel
theorem dX11_parseScript_80 : decode cX11_parseScript 80 = .ok (.invokevirtual 172, 3) := by decide +kernel
theorem dX11_parseScript_83 : decode cX11_parseScript 83 = .ok (.ifCond .ne 5, 3) := by decide +kernel
theorem dX11_parseScript_86 : decode cX11_parseScript 86 = .ok (.iconst (-1), 1) := by decide +kernel
theorem dX11_parseScript_87 : decode cX11_parseScript 87 = .ok (.ireturn, 1) := by decide +kernel
theorem dX11_parseScript_88 : decode cX11_parseScript 88 = .ok (.iinc 1 1, 3) := by decide +kernel
theorem dX11_parseScript_91 : decode cX11_parseScript 91 = .ok (.goto (-89), 3) := by decide +kernel
theorem dX11_parseScript_94 : decode cX11_parseScript 94 = .ok (.iload_n 1, 1) := by decide +kernel
theorem dX11_parseScript_95 : decode cX11_parseScript 95 = .ok (.ireturn, 1) := by decide +kernel
theorem dX11_canDo_0 : decode cX11_canDo 0 = .ok (.aload_n 0, 1) := by decide +kernel
theorem dX11_canDo_1 : decode cX11_canDo 1 = .ok (.getfield 54, 3) := by decide +kernel
theorem dX11_canDo_4 : decode cX11_canDo 4 = .ok (.iload_n 1, 1) := by decide +kernel
theorem dX11_canDo_5 : decode cX11_canDo 5 = .ok (.iconst 1, 1) := by decide +kernel
theorem dX11_canDo_6 : decode cX11_canDo 6 = .ok (.iadd, 1) := by decide +kernel
theorem dX11_canDo_7 : decode cX11_canDo 7 = .ok (.iaload, 1) := by decide +kernel
theorem dX11_canDo_8 : decode cX11_canDo 8 = .ok (.istore_n 2, 1) := by decide +kernel
theorem dX11_canDo_9 : decode cX11_canDo 9 = .ok (.aload_n 0, 1) := by decide +kernel
theorem dX11_canDo_10 : decode cX11_canDo 10 = .ok (.getfield 54, 3) := by decide +kernel
theorem dX11_canDo_13 : decode cX11_canDo 13 = .ok (.iload_n 1, 1) := by decide +kernel
theorem dX11_canDo_14 : decode cX11_canDo 14 = .ok (.iconst 2, 1) := by decide +kernel
theorem dX11_canDo_15 : decode cX11_canDo 15 = .ok (.iadd, 1) := by decide +kernel
theorem dX11_canDo_16 : decode cX11_canDo 16 = .ok (.iaload, 1) := by decide +kernel
theorem dX11_canDo_17 : decode cX11_canDo 17 = .ok (.istore_n 3, 1) := by decide +kernel
theorem dX11_canDo_18 : decode cX11_canDo 18 = .ok (.aload_n 0, 1) := by decide +kernel
theorem dX11_canDo_19 : decode cX11_canDo 19 = .ok (.getfield 54, 3) := by decide +kernel
theorem dX11_canDo_22 : decode cX11_canDo 22 = .ok (.iload_n 1, 1) := by decide +kernel
theorem dX11_canDo_23 : decode cX11_canDo 23 = .ok (.iconst 3, 1) := by decide +kernel
theorem dX11_canDo_24 : decode cX11_canDo 24 = .ok (.iadd, 1) := by decide +kernel
theorem dX11_canDo_25 : decode cX11_canDo 25 = .ok (.iaload, 1) := by decide +kernel
theorem dX11_canDo_26 : decode cX11_canDo 26 = .ok (.istore 4, 2) := by decide +kernel
theorem dX11_canDo_28 : decode cX11_canDo 28 = .ok (.aload_n 0, 1) := by decide +kernel
theorem dX11_canDo_29 : decode cX11_canDo 29 = .ok (.getfield 54, 3) := by decide +kernel
theorem dX11_canDo_32 : decode cX11_canDo 32 = .ok (.iload_n 1, 1) := by decide +kernel
theorem dX11_canDo_33 : decode cX11_canDo 33 = .ok (.iaload, 1) := by decide +kernel
theorem dX11_canDo_34 : decode cX11_canDo 34 = .ok (.tableswitch 209 0 7 #[46, 80, 100, 133, 155, 155, 177, 207], 46) := by decide +kernel
theorem dX11_canDo_80 : decode cX11_canDo 80 = .ok (.iload_n 3, 1) := by decide +kernel
theorem dX11_canDo_81 : decode cX11_canDo 81 = .ok (.iload 4, 2) := by decide +kernel
theorem dX11_canDo_83 : decode cX11_canDo 83 = .ok (.aload_n 0, 1) := by decide +kernel
theorem dX11_canDo_84 : decode cX11_canDo 84 = .ok (.getfield 54, 3) := by decide +kernel
theorem dX11_canDo_87 : decode cX11_canDo 87 = .ok (.iload_n 1, 1) := by decide +kernel
theorem dX11_canDo_88 : decode cX11_canDo 88 = .ok (.iconst 4, 1) := by decide +kernel
theorem dX11_canDo_89 : decode cX11_canDo 89 = .ok (.iadd, 1) := by decide +kernel
theorem dX11_canDo_90 : decode cX11_canDo 90 = .ok (.iaload, 1) := by decide +kernel
theorem dX11_canDo_91 : decode cX11_canDo 91 = .ok (.invokestatic 226, 3) := by decide +kernel
theorem dX11_canDo_94 : decode cX11_canDo 94 = .ok (.ifCond .eq 18, 3) := by decide +kernel
theorem dX11_canDo_97 : decode cX11_canDo 97 = .ok (.aload_n 0, 1) := by decide +kernel
theorem dX11_canDo_98 : decode cX11_canDo 98 = .ok (.getfield 13, 3) := by decide +kernel
theorem dX11_canDo_101 : decode cX11_canDo 101 = .ok (.iconst 2, 1) := by decide +kernel
theorem dX11_canDo_102 : decode cX11_canDo 102 = .ok (.iaload, 1) := by decide +kernel
theorem dX11_canDo_103 : decode cX11_canDo 103 = .ok (.bipush 20, 2) := by decide +kernel
theorem dX11_canDo_105 : decode cX11_canDo 105 = .ok (.if_icmp .ge 7, 3) := by decide +kernel
theorem dX11_canDo_108 : decode cX11_canDo 108 = .ok (.iconst 1, 1) := by decide +kernel
theorem dX11_canDo_109 : decode cX11_canDo 109 = .ok (.goto 4, 3) := by decide +kernel
theorem dX11_canDo_112 : decode cX11_canDo 112 = .ok (.iconst 0, 1) := by decide +kernel
theorem dX11_canDo_113 : decode cX11_canDo 113 = .ok (.ireturn, 1) := by decide +kernel
theorem dX11_canDo_114 : decode cX11_canDo 114 = .ok (.iload_n 3, 1) := by decide +kernel
theorem dX11_canDo_115 : decode cX11_canDo 115 = .ok (.iconst 1, 1) := by decide +kernel
theorem dX11_canDo_116 : decode cX11_canDo 116 = .ok (.if_icmp .lt 16, 3) := by decide +kernel
theorem dX11_canDo_119 : decode cX11_canDo 119 = .ok (.aload_n 0, 1) := by decide +kernel
theorem dX11_canDo_120 : decode cX11_canDo 120 = .ok (.iload_n 2, 1) := by decide +kernel
theorem dX11_canDo_121 : decode cX11_canDo 121 = .ok (.iload_n 3, 1) := by decide +kernel
theorem dX11_canDo_122 : decode cX11_canDo 122 = .ok (.invokevirtual 229, 3) := by decide +kernel
theorem dX11_canDo_125 : decode cX11_canDo 125 = .ok (.ifCond .eq 7, 3) := by decide +kernel
theorem dX11_canDo_128 : decode cX11_canDo 128 = .ok (.iconst 1, 1) := by decide +kernel
theorem dX11_canDo_129 : decode cX11_canDo 129 = .ok (.goto 4, 3) := by decide +kernel
theorem dX11_canDo_132 : decode cX11_canDo 132 = .ok (.iconst 0, 1) := by decide +kernel
theorem dX11_canDo_133 : decode cX11_canDo 133 = .ok (.ireturn, 1) := by decide +kernel
theorem dX11_canDo_134 : decode cX11_canDo 134 = .ok (.iload_n 3, 1) := by decide +kernel
theorem dX11_canDo_135 : decode cX11_canDo 135 = .ok (.iconst 1, 1) := by decide +kernel
theorem dX11_canDo_136 : decode cX11_canDo 136 = .ok (.if_icmp .lt 29, 3) := by decide +kernel
theorem dX11_canDo_139 : decode cX11_canDo 139 = .ok (.iload 4, 2) := by decide +kernel
theorem dX11_canDo_141 : decode cX11_canDo 141 = .ok (.aload_n 0, 1) := by decide +kernel
theorem dX11_canDo_142 : decode cX11_canDo 142 = .ok (.getfield 13, 3) := by decide +kernel
theorem dX11_canDo_145 : decode cX11_canDo 145 = .ok (.iconst 0, 1) := by decide +kernel
theorem dX11_canDo_146 : decode cX11_canDo 146 = .ok (.iaload, 1) := by decide +kernel
theorem dX11_canDo_147 : decode cX11_canDo 147 = .ok (.if_icmp .lt 18, 3) := by decide +kernel
theorem dX11_canDo_150 : decode cX11_canDo 150 = .ok (.aload_n 0, 1) := by decide +kernel
theorem dX11_canDo_151 : decode cX11_canDo 151 = .ok (.iload_n 2, 1) := by decide +kernel
theorem dX11_canDo_152 : decode cX11_canDo 152 = .ok (.iload_n 3, 1) := by decide +kernel
theorem dX11_canDo_153 : decode cX11_canDo 153 = .ok (.iload 4, 2) := by decide +kernel
theorem dX11_canDo_155 : decode cX11_canDo 155 = .ok (.invokevirtual 232, 3) := by decide +kernel
theorem dX11_canDo_158 : decode cX11_canDo 158 = .ok (.ifCond .eq 7, 3) := by decide +kernel
theorem dX11_canDo_161 : decode cX11_canDo 161 = .ok (.iconst 1, 1) := by decide +kernel
theorem dX11_canDo_162 : decode cX11_canDo 162 = .ok (.goto 4, 3) := by decide +kernel
theorem dX11_canDo_165 : decode cX11_canDo 165 = .ok (.iconst 0, 1) := by decide +kernel
theorem dX11_canDo_166 : decode cX11_canDo 166 = .ok (.ireturn, 1) := by decide +kernel
theorem dX11_canDo_167 : decode cX11_canDo 167 = .ok (.aload_n 0, 1) := by decide +kernel
theorem dX11_canDo_168 : decode cX11_canDo 168 = .ok (.iload_n 2, 1) := by decide +kernel
theorem dX11_canDo_169 : decode cX11_canDo 169 = .ok (.invokevirtual 235, 3) := by decide +kernel
theorem dX11_canDo_172 : decode cX11_canDo 172 = .ok (.ifCond .eq 15, 3) := by decide +kernel
theorem dX11_canDo_175 : decode cX11_canDo 175 = .ok (.aload_n 0, 1) := by decide +kernel
theorem dX11_canDo_176 : decode cX11_canDo 176 = .ok (.iload_n 2, 1) := by decide +kernel
theorem dX11_canDo_177 : decode cX11_canDo 177 = .ok (.invokevirtual 238, 3) := by decide +kernel
theorem dX11_canDo_180 : decode cX11_canDo 180 = .ok (.ifCond .ne 7, 3) := by decide +kernel
theorem dX11_canDo_183 : decode cX11_canDo 183 = .ok (.iconst 1, 1) := by decide +kernel
theorem dX11_canDo_184 : decode cX11_canDo 184 = .ok (.goto 4, 3) := by decide +kernel
theorem dX11_canDo_187 : decode cX11_canDo 187 = .ok (.iconst 0, 1) := by decide +kernel
theorem dX11_canDo_188 : decode cX11_canDo 188 = .ok (.ireturn, 1) := by decide +kernel
theorem dX11_canDo_189 : decode cX11_canDo 189 = .ok (.aload_n 0, 1) := by decide +kernel
theorem dX11_canDo_190 : decode cX11_canDo 190 = .ok (.iload_n 2, 1) := by decide +kernel
theorem dX11_canDo_191 : decode cX11_canDo 191 = .ok (.invokevirtual 235, 3) := by decide +kernel
theorem dX11_canDo_194 : decode cX11_canDo 194 = .ok (.ifCond .eq 15, 3) := by decide +kernel
theorem dX11_canDo_197 : decode cX11_canDo 197 = .ok (.aload_n 0, 1) := by decide +kernel
theorem dX11_canDo_198 : decode cX11_canDo 198 = .ok (.iload_n 2, 1) := by decide +kernel
theorem dX11_canDo_199 : decode cX11_canDo 199 = .ok (.invokevirtual 87, 3) := by decide +kernel
theorem dX11_canDo_202 : decode cX11_canDo 202 = .ok (.ifCond .eq 7, 3) := by decide +kernel
theorem dX11_canDo_205 : decode cX11_canDo 205 = .ok (.iconst 1, 1) := by decide +kernel
theorem dX11_canDo_206 : decode cX11_canDo 206 = .ok (.goto 4, 3) := by decide +kernel
theorem dX11_canDo_209 : decode cX11_canDo 209 = .ok (.iconst 0, 1) := by decide +kernel
theorem dX11_canDo_210 : decode cX11_canDo 210 = .ok (.ireturn, 1) := by decide +kernel
theorem dX11_canDo_211 : decode cX11_canDo 211 = .ok (.aload_n 0, 1) := by decide +kernel
theorem dX11_canDo_212 : decode cX11_canDo 212 = .ok (.iload_n 2, 1) := by decide +kernel
theorem dX11_canDo_213 : decode cX11_canDo 213 = .ok (.invokevirtual 241, 3) := by decide +kernel
theorem dX11_canDo_216 : decode cX11_canDo 216 = .ok (.ifCond .eq 23, 3) := by decide +kernel
theorem dX11_canDo_219 : decode cX11_canDo 219 = .ok (.iload_n 3, 1) := by decide +kernel
theorem dX11_canDo_220 : decode cX11_canDo 220 = .ok (.sipush 999, 3) := by decide +kernel
theorem dX11_canDo_223 : decode cX11_canDo 223 = .ok (.if_icmp .gt 16, 3) := by decide +kernel
theorem dX11_canDo_226 : decode cX11_canDo 226 = .ok (.iload_n 3, 1) := by decide +kernel
theorem dX11_canDo_227 : decode cX11_canDo 227 = .ok (.aload_n 0, 1) := by decide +kernel
theorem dX11_canDo_228 : decode cX11_canDo 228 = .ok (.iload_n 2, 1) := by decide +kernel
theorem dX11_canDo_229 : decode cX11_canDo 229 = .ok (.invokevirtual 94, 3) := by decide +kernel
theorem dX11_canDo_232 : decode cX11_canDo 232 = .ok (.if_icmp .lt 7, 3) := by decide +kernel
theorem dX11_canDo_235 : decode cX11_canDo 235 = .ok (.iconst 1, 1) := by decide +kernel
theorem dX11_canDo_236 : decode cX11_canDo 236 = .ok (.goto 4, 3) := by decide +kernel
theorem dX11_canDo_239 : decode cX11_canDo 239 = .ok (.iconst 0, 1) := by decide +kernel
theorem dX11_canDo_240 : decode cX11_canDo 240 = .ok (.ireturn, 1) := by decide +kernel
theorem dX11_canDo_241 : decode cX11_canDo 241 = .ok (.iconst 1, 1) := by decide +kernel
theorem dX11_canDo_242 : decode cX11_canDo 242 = .ok (.ireturn, 1) := by decide +kernel
theorem dX11_canDo_243 : decode cX11_canDo 243 = .ok (.iload_n 2, 1) := by decide +kernel
theorem dX11_canDo_244 : decode cX11_canDo 244 = .ok (.iconst 1, 1) := by decide +kernel
theorem dX11_canDo_245 : decode cX11_canDo 245 = .ok (.sipush 999, 3) := by decide +kernel
theorem dX11_canDo_248 : decode cX11_canDo 248 = .ok (.invokestatic 75, 3) := by decide +kernel
theorem dX11_canDo_251 : decode cX11_canDo 251 = .ok (.ifCond .eq 21, 3) := by decide +kernel
theorem dX11_canDo_254 : decode cX11_canDo 254 = .ok (.aload_n 0, 1) := by decide +kernel
theorem dX11_canDo_255 : decode cX11_canDo 255 = .ok (.getfield 13, 3) := by decide +kernel
theorem dX11_canDo_258 : decode cX11_canDo 258 = .ok (.iconst 0, 1) := by decide +kernel
theorem dX11_canDo_259 : decode cX11_canDo 259 = .ok (.iaload, 1) := by decide +kernel
theorem dX11_canDo_260 : decode cX11_canDo 260 = .ok (.iload_n 2, 1) := by decide +kernel
theorem dX11_canDo_261 : decode cX11_canDo 261 = .ok (.iadd, 1) := by decide +kernel
theorem dX11_canDo_262 : decode cX11_canDo 262 = .ok (.sipush 9999, 3) := by decide +kernel
theorem dX11_canDo_265 : decode cX11_canDo 265 = .ok (.if_icmp .gt 7, 3) := by decide +kernel
theorem dX11_canDo_268 : decode cX11_canDo 268 = .ok (.iconst 1, 1) := by decide +kernel
theorem dX11_canDo_269 : decode cX11_canDo 269 = .ok (.goto 4, 3) := by decide +kernel
theorem dX11_canDo_272 : decode cX11_canDo 272 = .ok (.iconst 0, 1) := by decide +kernel
theorem dX11_canDo_273 : decode cX11_canDo 273 = .ok (.ireturn, 1) := by decide +kernel
theorem dX11_doIt_0 : decode cX11_doIt 0 = .ok (.aload_n 0, 1) := by decide +kernel
theorem dX11_doIt_1 : decode cX11_doIt 1 = .ok (.getfield 54, 3) := by decide +kernel
theorem dX11_doIt_4 : decode cX11_doIt 4 = .ok (.iload_n 1, 1) := by decide +kernel
theorem dX11_doIt_5 : decode cX11_doIt 5 = .ok (.iconst 1, 1) := by decide +kernel
theorem dX11_doIt_6 : decode cX11_doIt 6 = .ok (.iadd, 1) := by decide +kernel
theorem dX11_doIt_7 : decode cX11_doIt 7 = .ok (.iaload, 1) := by decide +kernel
theorem dX11_doIt_8 : decode cX11_doIt 8 = .ok (.istore_n 2, 1) := by decide +kernel
theorem dX11_doIt_9 : decode cX11_doIt 9 = .ok (.aload_n 0, 1) := by decide +kernel
theorem dX11_doIt_10 : decode cX11_doIt 10 = .ok (.getfield 54, 3) := by decide +kernel
theorem dX11_doIt_13 : decode cX11_doIt 13 = .ok (.iload_n 1, 1) := by decide +kernel
theorem dX11_doIt_14 : decode cX11_doIt 14 = .ok (.iconst 2, 1) := by decide +kernel
theorem dX11_doIt_15 : decode cX11_doIt 15 = .ok (.iadd, 1) := by decide +kernel
theorem dX11_doIt_16 : decode cX11_doIt 16 = .ok (.iaload, 1) := by decide +kernel
theorem dX11_doIt_17 : decode cX11_doIt 17 = .ok (.istore_n 3, 1) := by decide +kernel
theorem dX11_doIt_18 : decode cX11_doIt 18 = .ok (.aload_n 0, 1) := by decide +kernel
theorem dX11_doIt_19 : decode cX11_doIt 19 = .ok (.getfield 54, 3) := by decide +kernel
theorem dX11_doIt_22 : decode cX11_doIt 22 = .ok (.iload_n 1, 1) := by decide +kernel
theorem dX11_doIt_23 : decode cX11_doIt 23 = .ok (.iconst 3, 1) := by decide +kernel
theorem dX11_doIt_24 : decode cX11_doIt 24 = .ok (.iadd, 1) := by decide +kernel
theorem dX11_doIt_25 : decode cX11_doIt 25 = .ok (.iaload, 1) := by decide +kernel
theorem dX11_doIt_26 : decode cX11_doIt 26 = .ok (.istore 4, 2) := by decide +kernel
theorem dX11_doIt_28 : decode cX11_doIt 28 = .ok (.aload_n 0, 1) := by decide +kernel
theorem dX11_doIt_29 : decode cX11_doIt 29 = .ok (.getfield 54, 3) := by decide +kernel
theorem dX11_doIt_32 : decode cX11_doIt 32 = .ok (.iload_n 1, 1) := by decide +kernel
theorem dX11_doIt_33 : decode cX11_doIt 33 = .ok (.iaload, 1) := by decide +kernel
theorem dX11_doIt_34 : decode cX11_doIt 34 = .ok (.tableswitch 139 0 7 #[46, 66, 82, 94, 103, 112, 121, 131], 46) := by decide +kernel
theorem dX11_doIt_80 : decode cX11_doIt 80 = .ok (.aload_n 0, 1) := by decide +kernel
theorem dX11_doIt_81 : decode cX11_doIt 81 = .ok (.iload_n 2, 1) := by decide +kernel
theorem dX11_doIt_82 : decode cX11_doIt 82 = .ok (.iload_n 3, 1) := by decide +kernel
theorem dX11_doIt_83 : decode cX11_doIt 83 = .ok (.iload 4, 2) := by decide +kernel
theorem dX11_doIt_85 : decode cX11_doIt 85 = .ok (.aload_n 0, 1) := by decide +kernel
theorem dX11_doIt_86 : decode cX11_doIt 86 = .ok (.getfield 54, 3) := by decide +kernel
theorem dX11_doIt_89 : decode cX11_doIt 89 = .ok (.iload_n 1, 1) := by decide +kernel
theorem dX11_doIt_90 : decode cX11_doIt 90 = .ok (.iconst 4, 1) := by decide +kernel
theorem dX11_doIt_91 : decode cX11_doIt 91 = .ok (.iadd, 1) := by decide +kernel
theorem dX11_doIt_92 : decode cX11_doIt 92 = .ok (.iaload, 1) := by decide +kernel
theorem dX11_doIt_93 : decode cX11_doIt 93 = .ok (.invokevirtual 175, 3) := by decide +kernel
theorem dX11_doIt_96 : decode cX11_doIt 96 = .ok (.pop, 1) := by decide +kernel
theorem dX11_doIt_97 : decode cX11_doIt 97 = .ok (.goto 82, 3) := by decide +kernel
theorem dX11_doIt_100 : decode cX11_doIt 100 = .ok (.aload_n 0, 1) := by decide +kernel
theorem dX11_doIt_101 : decode cX11_doIt 101 = .ok (.iload_n 2, 1) := by decide +kernel
theorem dX11_doIt_102 : decode cX11_doIt 102 = .ok (.iload_n 3, 1) := by decide +kernel
theorem dX11_doIt_103 : decode cX11_doIt 103 = .ok (.aload_n 0, 1) := by decide +kernel
theorem dX11_doIt_104 : decode cX11_doIt 104 = .ok (.getfield 13, 3) := by decide +kernel
theorem dX11_doIt_107 : decode cX11_doIt 107 = .ok (.iconst 0, 1) := by decide +kernel
theorem dX11_doIt_108 : decode cX11_doIt 108 = .ok (.iaload, 1) := by decide +kernel
theorem dX11_doIt_109 : decode cX11_doIt 109 = .ok (.invokevirtual 244, 3) := by decide +kernel
theorem dX11_doIt_112 : decode cX11_doIt 112 = .ok (.pop, 1) := by decide +kernel
theorem dX11_doIt_113 : decode cX11_doIt 113 = .ok (.goto 66, 3) := by decide +kernel
theorem dX11_doIt_116 : decode cX11_doIt 116 = .ok (.aload_n 0, 1) := by decide +kernel
theorem dX11_doIt_117 : decode cX11_doIt 117 = .ok (.iload_n 2, 1) := by decide +kernel
theorem dX11_doIt_118 : decode cX11_doIt 118 = .ok (.iload_n 3, 1) := by decide +kernel
theorem dX11_doIt_119 : decode cX11_doIt 119 = .ok (.iload 4, 2) := by decide +kernel
theorem dX11_doIt_121 : decode cX11_doIt 121 = .ok (.invokevirtual 247, 3) := by decide +kernel
theorem dX11_doIt_124 : decode cX11_doIt 124 = .ok (.pop, 1) := by decide +kernel
theorem dX11_doIt_125 : decode cX11_doIt 125 = .ok (.goto 54, 3) := by decide +kernel
theorem dX11_doIt_128 : decode cX11_doIt 128 = .ok (.aload_n 0, 1) := by decide +kernel
theorem dX11_doIt_129 : decode cX11_doIt 129 = .ok (.iload_n 2, 1) := by decide +kernel
theorem dX11_doIt_130 : decode cX11_doIt 130 = .ok (.invokevirtual 250, 3) := by decide +kernel
theorem dX11_doIt_133 : decode cX11_doIt 133 = .ok (.pop, 1) := by decide +kernel
theorem dX11_doIt_134 : decode cX11_doIt 134 = .ok (.goto 45, 3) := by decide +kernel
theorem dX11_doIt_137 : decode cX11_doIt 137 = .ok (.aload_n 0, 1) := by decide +kernel
theorem dX11_doIt_138 : decode cX11_doIt 138 = .ok (.iload_n 2, 1) := by decide +kernel
theorem dX11_doIt_139 : decode cX11_doIt 139 = .ok (.invokevirtual 253, 3) := by decide +kernel
theorem dX11_doIt_142 : decode cX11_doIt 142 = .ok (.pop, 1) := by decide +kernel
theorem dX11_doIt_143 : decode cX11_doIt 143 = .ok (.goto 36, 3) := by decide +kernel
theorem dX11_doIt_146 : decode cX11_doIt 146 = .ok (.aload_n 0, 1) := by decide +kernel
theorem dX11_doIt_147 : decode cX11_doIt 147 = .ok (.iload_n 2, 1) := by decide +kernel
theorem dX11_doIt_148 : decode cX11_doIt 148 = .ok (.invokevirtual 256, 3) := by decide +kernel
theorem dX11_doIt_151 : decode cX11_doIt 151 = .ok (.pop, 1) := by decide +kernel
theorem dX11_doIt_152 : decode cX11_doIt 152 = .ok (.goto 27, 3) := by decide +kernel
theorem dX11_doIt_155 : decode cX11_doIt 155 = .ok (.aload_n 0, 1) := by decide +kernel
theorem dX11_doIt_156 : decode cX11_doIt 156 = .ok (.iload_n 2, 1) := by decide +kernel
theorem dX11_doIt_157 : decode cX11_doIt 157 = .ok (.iload_n 3, 1) := by decide +kernel
theorem dX11_doIt_158 : decode cX11_doIt 158 = .ok (.invokevirtual 259, 3) := by decide +kernel
theorem dX11_doIt_161 : decode cX11_doIt 161 = .ok (.pop, 1) := by decide +kernel
theorem dX11_doIt_162 : decode cX11_doIt 162 = .ok (.goto 17, 3) := by decide +kernel
theorem dX11_doIt_165 : decode cX11_doIt 165 = .ok (.aload_n 0, 1) := by decide +kernel
theorem dX11_doIt_166 : decode cX11_doIt 166 = .ok (.invokevirtual 262, 3) := by decide +kernel
theorem dX11_doIt_169 : decode cX11_doIt 169 = .ok (.pop, 1) := by decide +kernel
theorem dX11_doIt_170 : decode cX11_doIt 170 = .ok (.goto 9, 3) := by decide +kernel
theorem dX11_doIt_173 : decode cX11_doIt 173 = .ok (.aload_n 0, 1) := by decide +kernel
theorem dX11_doIt_174 : decode cX11_doIt 174 = .ok (.iload_n 2, 1) := by decide +kernel
theorem dX11_doIt_175 : decode cX11_doIt 175 = .ok (.invokevirtual 265, 3) := by decide +kernel
theorem dX11_doIt_178 : decode cX11_doIt 178 = .ok (.pop, 1) := by decide +kernel
theorem dX11_doIt_179 : decode cX11_doIt 179 = .ok (.return_, 1) := by decide +kernel
theorem dX11_runScript_0 : decode cX11_runScript 0 = .ok (.aload_n 0, 1) := by decide +kernel
theorem dX11_runScript_1 : decode cX11_runScript 1 = .ok (.invokevirtual 68, 3) := by decide +kernel
theorem dX11_runScript_4 : decode cX11_runScript 4 = .ok (.aload_n 0, 1) := by decide +kernel
theorem dX11_runScript_5 : decode cX11_runScript 5 = .ok (.invokevirtual 268, 3) := by decide +kernel
theorem dX11_runScript_8 : decode cX11_runScript 8 = .ok (.istore_n 1, 1) := by decide +kernel
theorem dX11_runScript_9 : decode cX11_runScript 9 = .ok (.aload_n 0, 1) := by decide +kernel
theorem dX11_runScript_10 : decode cX11_runScript 10 = .ok (.iconst 0, 1) := by decide +kernel
theorem dX11_runScript_11 : decode cX11_runScript 11 = .ok (.putfield 27, 3) := by decide +kernel
theorem dX11_runScript_14 : decode cX11_runScript 14 = .ok (.aload_n 0, 1) := by decide +kernel
theorem dX11_runScript_15 : decode cX11_runScript 15 = .ok (.iload_n 1, 1) := by decide +kernel
theorem dX11_runScript_16 : decode cX11_runScript 16 = .ok (.iconst (-1), 1) := by decide +kernel
theorem dX11_runScript_17 : decode cX11_runScript 17 = .ok (.if_icmp .ne 7, 3) := by decide +kernel
theorem dX11_runScript_20 : decode cX11_runScript 20 = .ok (.iconst 1, 1) := by decide +kernel
theorem dX11_runScript_21 : decode cX11_runScript 21 = .ok (.goto 4, 3) := by decide +kernel
theorem dX11_runScript_24 : decode cX11_runScript 24 = .ok (.iconst 0, 1) := by decide +kernel
theorem dX11_runScript_25 : decode cX11_runScript 25 = .ok (.iconst 0, 1) := by decide +kernel
theorem dX11_runScript_26 : decode cX11_runScript 26 = .ok (.iconst 0, 1) := by decide +kernel
theorem dX11_runScript_27 : decode cX11_runScript 27 = .ok (.invokevirtual 143, 3) := by decide +kernel
theorem dX11_runScript_30 : decode cX11_runScript 30 = .ok (.ifCond .eq 5, 3) := by decide +kernel
theorem dX11_runScript_33 : decode cX11_runScript 33 = .ok (.iconst 0, 1) := by decide +kernel
theorem dX11_runScript_34 : decode cX11_runScript 34 = .ok (.ireturn, 1) := by decide +kernel
theorem dX11_runScript_35 : decode cX11_runScript 35 = .ok (.aload_n 0, 1) := by decide +kernel
theorem dX11_runScript_36 : decode cX11_runScript 36 = .ok (.iconst 0, 1) := by decide +kernel
theorem dX11_runScript_37 : decode cX11_runScript 37 = .ok (.invokevirtual 271, 3) := by decide +kernel
theorem dX11_runScript_40 : decode cX11_runScript 40 = .ok (.iconst 0, 1) := by decide +kernel
theorem dX11_runScript_41 : decode cX11_runScript 41 = .ok (.istore_n 2, 1) := by decide +kernel
theorem dX11_runScript_42 : decode cX11_runScript 42 = .ok (.iload_n 2, 1) := by decide +kernel
theorem dX11_runScript_43 : decode cX11_runScript 43 = .ok (.iload_n 1, 1) := by decide +kernel
theorem dX11_runScript_44 : decode cX11_runScript 44 = .ok (.if_icmp .ge 26, 3) := by decide +kernel
theorem dX11_runScript_47 : decode cX11_runScript 47 = .ok (.aload_n 0, 1) := by decide +kernel
theorem dX11_runScript_48 : decode cX11_runScript 48 = .ok (.iload_n 2, 1) := by decide +kernel
theorem dX11_runScript_49 : decode cX11_runScript 49 = .ok (.iconst 5, 1) := by decide +kernel
theorem dX11_runScript_50 : decode cX11_runScript 50 = .ok (.imul, 1) := by decide +kernel
theorem dX11_runScript_51 : decode cX11_runScript 51 = .ok (.invokevirtual 274, 3) := by decide +kernel
theorem dX11_runScript_54 : decode cX11_runScript 54 = .ok (.ifCond .eq 16, 3) := by decide +kernel
theorem dX11_runScript_57 : decode cX11_runScript 57 = .ok (.aload_n 0, 1) := by decide +kernel
theorem dX11_runScript_58 : decode cX11_runScript 58 = .ok (.iload_n 2, 1) := by decide +kernel
theorem dX11_runScript_59 : decode cX11_runScript 59 = .ok (.iconst 5, 1) := by decide +kernel
theorem dX11_runScript_60 : decode cX11_runScript 60 = .ok (.imul, 1) := by decide +kernel
theorem dX11_runScript_61 : decode cX11_runScript 61 = .ok (.invokevirtual 277, 3) := by decide +kernel
theorem dX11_runScript_64 : decode cX11_runScript 64 = .ok (.iinc 2 1, 3) := by decide +kernel
theorem dX11_runScript_67 : decode cX11_runScript 67 = .ok (.goto (-25), 3) := by decide +kernel
theorem dX11_runScript_70 : decode cX11_runScript 70 = .ok (.iload_n 2, 1) := by decide +kernel
theorem dX11_runScript_71 : decode cX11_runScript 71 = .ok (.ireturn, 1) := by decide +kernel
theorem dX11_errorCode_0 : decode cX11_errorCode 0 = .ok (.aload_n 0, 1) := by decide +kernel
theorem dX11_errorCode_1 : decode cX11_errorCode 1 = .ok (.iconst 0, 1) := by decide +kernel
theorem dX11_errorCode_2 : decode cX11_errorCode 2 = .ok (.putfield 1, 3) := by decide +kernel
theorem dX11_errorCode_5 : decode cX11_errorCode 5 = .ok (.aload_n 0, 1) := by decide +kernel
theorem dX11_errorCode_6 : decode cX11_errorCode 6 = .ok (.getfield 30, 3) := by decide +kernel
theorem dX11_errorCode_9 : decode cX11_errorCode 9 = .ok (.ireturn, 1) := by decide +kernel
theorem dX11_errorPosition_0 : decode cX11_errorPosition 0 = .ok (.aload_n 0, 1) := by decide +kernel
theorem dX11_errorPosition_1 : decode cX11_errorPosition 1 = .ok (.iconst 0, 1) := by decide +kernel
theorem dX11_errorPosition_2 : decode cX11_errorPosition 2 = .ok (.putfield 1, 3) := by decide +kernel
theorem dX11_errorPosition_5 : decode cX11_errorPosition 5 = .ok (.aload_n 0, 1) := by decide +kernel
theorem dX11_errorPosition_6 : decode cX11_errorPosition 6 = .ok (.getfield 33, 3) := by decide +kernel
theorem dX11_errorPosition_9 : decode cX11_errorPosition 9 = .ok (.ireturn, 1) := by decide +kernel
theorem dX11_plain_0 : decode cX11_plain 0 = .ok (.aload_n 0, 1) := by decide +kernel
theorem dX11_plain_1 : decode cX11_plain 1 = .ok (.iconst 0, 1) := by decide +kernel
theorem dX11_plain_2 : decode cX11_plain 2 = .ok (.putfield 1, 3) := by decide +kernel
theorem dX11_plain_5 : decode cX11_plain 5 = .ok (.iload_n 1, 1) := by decide +kernel
theorem dX11_plain_6 : decode cX11_plain 6 = .ok (.ireturn, 1) := by decide +kernel
theorem dX11_productCount_0 : decode cX11_productCount 0 = .ok (.aload_n 0, 1) := by decide +kernel
theorem dX11_productCount_1 : decode cX11_productCount 1 = .ok (.aload_n 0, 1) := by decide +kernel
theorem dX11_productCount_2 : decode cX11_productCount 2 = .ok (.getfield 13, 3) := by decide +kernel
theorem dX11_productCount_5 : decode cX11_productCount 5 = .ok (.iconst 1, 1) := by decide +kernel
theorem dX11_productCount_6 : decode cX11_productCount 6 = .ok (.iaload, 1) := by decide +kernel
theorem dX11_productCount_7 : decode cX11_productCount 7 = .ok (.invokevirtual 280, 3) := by decide +kernel
theorem dX11_productCount_10 : decode cX11_productCount 10 = .ok (.ireturn, 1) := by decide +kernel
theorem dX11_day_0 : decode cX11_day 0 = .ok (.aload_n 0, 1) := by decide +kernel
theorem dX11_day_1 : decode cX11_day 1 = .ok (.aload_n 0, 1) := by decide +kernel
theorem dX11_day_2 : decode cX11_day 2 = .ok (.getfield 13, 3) := by decide +kernel
theorem dX11_day_5 : decode cX11_day 5 = .ok (.iconst 0, 1) := by decide +kernel
theorem dX11_day_6 : decode cX11_day 6 = .ok (.iaload, 1) := by decide +kernel
theorem dX11_day_7 : decode cX11_day 7 = .ok (.invokevirtual 280, 3) := by decide +kernel
theorem dX11_day_10 : decode cX11_day 10 = .ok (.ireturn, 1) := by decide +kernel
theorem dX11_nameByte_0 : decode cX11_nameByte 0 = .ok (.aload_n 0, 1) := by decide +kernel
theorem dX11_nameByte_1 : decode cX11_nameByte 1 = .ok (.aload_n 0, 1) := by decide +kernel
theorem dX11_nameByte_2 : decode cX11_nameByte 2 = .ok (.iload_n 1, 1) := by decide +kernel
theorem dX11_nameByte_3 : decode cX11_nameByte 3 = .ok (.invokevirtual 283, 3) := by decide +kernel
theorem dX11_nameByte_6 : decode cX11_nameByte 6 = .ok (.ifCond .eq 31, 3) := by decide +kernel
theorem dX11_nameByte_9 : decode cX11_nameByte 9 = .ok (.iload_n 2, 1) := by decide +kernel
theorem dX11_nameByte_10 : decode cX11_nameByte 10 = .ok (.iconst 0, 1) := by decide +kernel
theorem dX11_nameByte_11 : decode cX11_nameByte 11 = .ok (.aload_n 0, 1) := by decide +kernel
theorem dX11_nameByte_12 : decode cX11_nameByte 12 = .ok (.aload_n 0, 1) := by decide +kernel
theorem dX11_nameByte_13 : decode cX11_nameByte 13 = .ok (.iload_n 1, 1) := by decide +kernel
theorem dX11_nameByte_14 : decode cX11_nameByte 14 = .ok (.invokevirtual 283, 3) := by decide +kernel
theorem dX11_nameByte_17 : decode cX11_nameByte 17 = .ok (.ifCond .eq 7, 3) := by decide +kernel
theorem dX11_nameByte_20 : decode cX11_nameByte 20 = .ok (.iload_n 1, 1) := by decide +kernel
theorem dX11_nameByte_21 : decode cX11_nameByte 21 = .ok (.goto 4, 3) := by decide +kernel
theorem dX11_nameByte_24 : decode cX11_nameByte 24 = .ok (.iconst 0, 1) := by decide +kernel
theorem dX11_nameByte_25 : decode cX11_nameByte 25 = .ok (.iconst 0, 1) := by decide +kernel
theorem dX11_nameByte_26 : decode cX11_nameByte 26 = .ok (.invokevirtual 127, 3) := by decide +kernel
theorem dX11_nameByte_29 : decode cX11_nameByte 29 = .ok (.iconst 1, 1) := by decide +kernel
theorem dX11_nameByte_30 : decode cX11_nameByte 30 = .ok (.isub, 1) := by decide +kernel
theorem dX11_nameByte_31 : decode cX11_nameByte 31 = .ok (.invokestatic 75, 3) := by decide +kernel
theorem dX11_nameByte_34 : decode cX11_nameByte 34 = .ok (.ifCond .ne 7, 3) := by decide +kernel
theorem dX11_nameByte_37 : decode cX11_nameByte 37 = .ok (.iconst 1, 1) := by decide +kernel
theorem dX11_nameByte_38 : decode cX11_nameByte 38 = .ok (.goto 4, 3) := by decide +kernel
theorem dX11_nameByte_41 : decode cX11_nameByte 41 = .ok (.iconst 0, 1) := by decide +kernel
theorem dX11_nameByte_42 : decode cX11_nameByte 42 = .ok (.iconst 0, 1) := by decide +kernel
theorem dX11_nameByte_43 : decode cX11_nameByte 43 = .ok (.iconst 0, 1) := by decide +kernel
theorem dX11_nameByte_44 : decode cX11_nameByte 44 = .ok (.invokevirtual 143, 3) := by decide +kernel
theorem dX11_nameByte_47 : decode cX11_nameByte 47 = .ok (.ifCond .eq 5, 3) := by decide +kernel
theorem dX11_nameByte_50 : decode cX11_nameByte 50 = .ok (.iconst 0, 1) := by decide +kernel
theorem dX11_nameByte_51 : decode cX11_nameByte 51 = .ok (.ireturn, 1) := by decide +kernel
theorem dX11_nameByte_52 : decode cX11_nameByte 52 = .ok (.aload_n 0, 1) := by decide +kernel
theorem dX11_nameByte_53 : decode cX11_nameByte 53 = .ok (.iload_n 1, 1) := by decide +kernel
theorem dX11_nameByte_54 : decode cX11_nameByte 54 = .ok (.iconst 1, 1) := by decide +kernel
theorem dX11_nameByte_55 : decode cX11_nameByte 55 = .ok (.iload_n 2, 1) := by decide +kernel
theorem dX11_nameByte_56 : decode cX11_nameByte 56 = .ok (.iadd, 1) := by decide +kernel
theorem dX11_nameByte_57 : decode cX11_nameByte 57 = .ok (.invokevirtual 127, 3) := by decide +kernel
theorem dX11_nameByte_60 : decode cX11_nameByte 60 = .ok (.ireturn, 1) := by decide +kernel
theorem dX11_findProduct_0 : decode cX11_findProduct 0 = .ok (.aload_n 0, 1) := by decide +kernel
theorem dX11_findProduct_1 : decode cX11_findProduct 1 = .ok (.iconst 0, 1) := by decide +kernel
theorem dX11_findProduct_2 : decode cX11_findProduct 2 = .ok (.aload_n 0, 1) := by decide +kernel
theorem dX11_findProduct_3 : decode cX11_findProduct 3 = .ok (.getfield 27, 3) := by decide +kernel
theorem dX11_findProduct_6 : decode cX11_findProduct 6 = .ok (.invokevirtual 166, 3) := by decide +kernel
theorem dX11_findProduct_9 : decode cX11_findProduct 9 = .ok (.istore_n 1, 1) := by decide +kernel
theorem dX11_findProduct_10 : decode cX11_findProduct 10 = .ok (.aload_n 0, 1) := by decide +kernel
theorem dX11_findProduct_11 : decode cX11_findProduct 11 = .ok (.iload_n 1, 1) := by decide +kernel
theorem dX11_findProduct_12 : decode cX11_findProduct 12 = .ok (.iconst (-1), 1) := by decide +kernel
theorem dX11_findProduct_13 : decode cX11_findProduct 13 = .ok (.if_icmp .ne 7, 3) := by decide +kernel
theorem dX11_findProduct_16 : decode cX11_findProduct 16 = .ok (.iconst 1, 1) := by decide +kernel
theorem dX11_findProduct_17 : decode cX11_findProduct 17 = .ok (.goto 4, 3) := by decide +kernel
theorem dX11_findProduct_20 : decode cX11_findProduct 20 = .ok (.iconst 0, 1) := by decide +kernel
theorem dX11_findProduct_21 : decode cX11_findProduct 21 = .ok (.iconst 0, 1) := by decide +kernel
theorem dX11_findProduct_22 : decode cX11_findProduct 22 = .ok (.iconst 0, 1) := by decide +kernel
theorem dX11_findProduct_23 : decode cX11_findProduct 23 = .ok (.invokevirtual 143, 3) := by decide +kernel
theorem dX11_findProduct_26 : decode cX11_findProduct 26 = .ok (.ifCond .eq 5, 3) := by decide +kernel
theorem dX11_findProduct_29 : decode cX11_findProduct 29 = .ok (.iconst 0, 1) := by decide +kernel
theorem dX11_findProduct_30 : decode cX11_findProduct 30 = .ok (.ireturn, 1) := by decide +kernel
theorem dX11_findProduct_31 : decode cX11_findProduct 31 = .ok (.iload_n 1, 1) := by decide +kernel
theorem dX11_findProduct_32 : decode cX11_findProduct 32 = .ok (.ireturn, 1) := by decide +kernel
theorem dX11_productField_0 : decode cX11_productField 0 = .ok (.aload_n 0, 1) := by decide +kernel
theorem dX11_productField_1 : decode cX11_productField 1 = .ok (.aload_n 0, 1) := by decide +kernel
theorem dX11_productField_2 : decode cX11_productField 2 = .ok (.iload_n 1, 1) := by decide +kernel
theorem dX11_productField_3 : decode cX11_productField 3 = .ok (.invokevirtual 283, 3) := by decide +kernel
theorem dX11_productField_6 : decode cX11_productField 6 = .ok (.ifCond .ne 7, 3) := by decide +kernel
theorem dX11_productField_9 : decode cX11_productField 9 = .ok (.iconst 1, 1) := by decide +kernel
theorem dX11_productField_10 : decode cX11_productField 10 = .ok (.goto 4, 3) := by decide +kernel
theorem dX11_productField_13 : decode cX11_productField 13 = .ok (.iconst 0, 1) := by decide +kernel
theorem dX11_productField_14 : decode cX11_productField 14 = .ok (.iconst 0, 1) := by decide +kernel
theorem dX11_productField_15 : decode cX11_productField 15 = .ok (.iconst 0, 1) := by decide +kernel
theorem dX11_productField_16 : decode cX11_productField 16 = .ok (.invokevirtual 143, 3) := by decide +kernel
theorem dX11_productField_19 : decode cX11_productField 19 = .ok (.ifCond .eq 5, 3) := by decide +kernel
theorem dX11_productField_22 : decode cX11_productField 22 = .ok (.iconst 0, 1) := by decide +kernel
theorem dX11_productField_23 : decode cX11_productField 23 = .ok (.ireturn, 1) := by decide +kernel
theorem dX11_productField_24 : decode cX11_productField 24 = .ok (.aload_n 0, 1) := by decide +kernel
theorem dX11_productField_25 : decode cX11_productField 25 = .ok (.iload_n 1, 1) := by decide +kernel
theorem dX11_productField_26 : decode cX11_productField 26 = .ok (.iload_n 2, 1) := by decide +kernel
theorem dX11_productField_27 : decode cX11_productField 27 = .ok (.invokevirtual 127, 3) := by decide +kernel
theorem dX11_productField_30 : decode cX11_productField 30 = .ok (.ireturn, 1) := by decide +kernel
theorem dX11_minimumStock_0 : decode cX11_minimumStock 0 = .ok (.aload_n 0, 1) := by decide +kernel
theorem dX11_minimumStock_1 : decode cX11_minimumStock 1 = .ok (.iload_n 1, 1) := by decide +kernel
theorem dX11_minimumStock_2 : decode cX11_minimumStock 2 = .ok (.bipush 7, 2) := by decide +kernel
theorem dX11_minimumStock_4 : decode cX11_minimumStock 4 = .ok (.invokevirtual 286, 3) := by decide +kernel
theorem dX11_minimumStock_7 : decode cX11_minimumStock 7 = .ok (.ireturn, 1) := by decide +kernel
theorem dX11_onHand_0 : decode cX11_onHand 0 = .ok (.aload_n 0, 1) := by decide +kernel
theorem dX11_onHand_1 : decode cX11_onHand 1 = .ok (.aload_n 0, 1) := by decide +kernel
theorem dX11_onHand_2 : decode cX11_onHand 2 = .ok (.iload_n 1, 1) := by decide +kernel
theorem dX11_onHand_3 : decode cX11_onHand 3 = .ok (.invokevirtual 283, 3) := by decide +kernel
theorem dX11_onHand_6 : decode cX11_onHand 6 = .ok (.ifCond .ne 7, 3) := by decide +kernel
theorem dX11_onHand_9 : decode cX11_onHand 9 = .ok (.iconst 1, 1) := by decide +kernel
theorem dX11_onHand_10 : decode cX11_onHand 10 = .ok (.goto 4, 3) := by decide +kernel
theorem dX11_onHand_13 : decode cX11_onHand 13 = .ok (.iconst 0, 1) := by decide +kernel
theorem dX11_onHand_14 : decode cX11_onHand 14 = .ok (.iconst 0, 1) := by decide +kernel
theorem dX11_onHand_15 : decode cX11_onHand 15 = .ok (.iconst 0, 1) := by decide +kernel
theorem dX11_onHand_16 : decode cX11_onHand 16 = .ok (.invokevirtual 143, 3) := by decide +kernel
theorem dX11_onHand_19 : decode cX11_onHand 19 = .ok (.ifCond .eq 5, 3) := by decide +kernel
theorem dX11_onHand_22 : decode cX11_onHand 22 = .ok (.iconst 0, 1) := by decide +kernel
theorem dX11_onHand_23 : decode cX11_onHand 23 = .ok (.ireturn, 1) := by decide +kernel
theorem dX11_onHand_24 : decode cX11_onHand 24 = .ok (.aload_n 0, 1) := by decide +kernel
theorem dX11_onHand_25 : decode cX11_onHand 25 = .ok (.iload_n 1, 1) := by decide +kernel
theorem dX11_onHand_26 : decode cX11_onHand 26 = .ok (.invokevirtual 289, 3) := by decide +kernel
theorem dX11_onHand_29 : decode cX11_onHand 29 = .ok (.ireturn, 1) := by decide +kernel
theorem dX11_reserved_0 : decode cX11_reserved 0 = .ok (.aload_n 0, 1) := by decide +kernel
theorem dX11_reserved_1 : decode cX11_reserved 1 = .ok (.aload_n 0, 1) := by decide +kernel
theorem dX11_reserved_2 : decode cX11_reserved 2 = .ok (.iload_n 1, 1) := by decide +kernel
theorem dX11_reserved_3 : decode cX11_reserved 3 = .ok (.invokevirtual 283, 3) := by decide +kernel
theorem dX11_reserved_6 : decode cX11_reserved 6 = .ok (.ifCond .ne 7, 3) := by decide +kernel
theorem dX11_reserved_9 : decode cX11_reserved 9 = .ok (.iconst 1, 1) := by decide +kernel
theorem dX11_reserved_10 : decode cX11_reserved 10 = .ok (.goto 4, 3) := by decide +kernel
theorem dX11_reserved_13 : decode cX11_reserved 13 = .ok (.iconst 0, 1) := by decide +kernel
theorem dX11_reserved_14 : decode cX11_reserved 14 = .ok (.iconst 0, 1) := by decide +kernel
theorem dX11_reserved_15 : decode cX11_reserved 15 = .ok (.iconst 0, 1) := by decide +kernel
theorem dX11_reserved_16 : decode cX11_reserved 16 = .ok (.invokevirtual 143, 3) := by decide +kernel
theorem dX11_reserved_19 : decode cX11_reserved 19 = .ok (.ifCond .eq 5, 3) := by decide +kernel
theorem dX11_reserved_22 : decode cX11_reserved 22 = .ok (.iconst 0, 1) := by decide +kernel
theorem dX11_reserved_23 : decode cX11_reserved 23 = .ok (.ireturn, 1) := by decide +kernel
theorem dX11_reserved_24 : decode cX11_reserved 24 = .ok (.iconst 0, 1) := by decide +kernel
theorem dX11_reserved_25 : decode cX11_reserved 25 = .ok (.istore_n 2, 1) := by decide +kernel
theorem dX11_reserved_26 : decode cX11_reserved 26 = .ok (.iconst 0, 1) := by decide +kernel
theorem dX11_reserved_27 : decode cX11_reserved 27 = .ok (.istore_n 3, 1) := by decide +kernel
theorem dX11_reserved_28 : decode cX11_reserved 28 = .ok (.iload_n 3, 1) := by decide +kernel
theorem dX11_reserved_29 : decode cX11_reserved 29 = .ok (.aload_n 0, 1) := by decide +kernel
theorem dX11_reserved_30 : decode cX11_reserved 30 = .ok (.getfield 13, 3) := by decide +kernel
theorem dX11_reserved_33 : decode cX11_reserved 33 = .ok (.iconst 2, 1) := by decide +kernel
theorem dX11_reserved_34 : decode cX11_reserved 34 = .ok (.iaload, 1) := by decide +kernel
theorem dX11_reserved_35 : decode cX11_reserved 35 = .ok (.if_icmp .ge 30, 3) := by decide +kernel
theorem dX11_reserved_38 : decode cX11_reserved 38 = .ok (.iload_n 2, 1) := by decide +kernel
theorem dX11_reserved_39 : decode cX11_reserved 39 = .ok (.aload_n 0, 1) := by decide +kernel
theorem dX11_reserved_40 : decode cX11_reserved 40 = .ok (.iload_n 3, 1) := by decide +kernel
theorem dX11_reserved_41 : decode cX11_reserved 41 = .ok (.iload_n 1, 1) := by decide +kernel
theorem dX11_reserved_42 : decode cX11_reserved 42 = .ok (.invokevirtual 98, 3) := by decide +kernel
theorem dX11_reserved_45 : decode cX11_reserved 45 = .ok (.ifCond .eq 11, 3) := by decide +kernel
theorem dX11_reserved_48 : decode cX11_reserved 48 = .ok (.aload_n 0, 1) := by decide +kernel
theorem dX11_reserved_49 : decode cX11_reserved 49 = .ok (.iload_n 3, 1) := by decide +kernel
theorem dX11_reserved_50 : decode cX11_reserved 50 = .ok (.invokevirtual 94, 3) := by decide +kernel
theorem dX11_reserved_53 : decode cX11_reserved 53 = .ok (.goto 4, 3) := by decide +kernel
theorem dX11_reserved_56 : decode cX11_reserved 56 = .ok (.iconst 0, 1) := by decide +kernel
theorem dX11_reserved_57 : decode cX11_reserved 57 = .ok (.iadd, 1) := by decide +kernel
theorem dX11_reserved_58 : decode cX11_reserved 58 = .ok (.istore_n 2, 1) := by decide +kernel
theorem dX11_reserved_59 : decode cX11_reserved 59 = .ok (.iinc 3 1, 3) := by decide +kernel
theorem dX11_reserved_62 : decode cX11_reserved 62 = .ok (.goto (-34), 3) := by decide +kernel
theorem dX11_reserved_65 : decode cX11_reserved 65 = .ok (.iload_n 2, 1) := by decide +kernel
theorem dX11_reserved_66 : decode cX11_reserved 66 = .ok (.ireturn, 1) := by decide +kernel
theorem dX11_availableOn_0 : decode cX11_availableOn 0 = .ok (.aload_n 0, 1) := by decide +kernel
theorem dX11_availableOn_1 : decode cX11_availableOn 1 = .ok (.aload_n 0, 1) := by decide +kernel
theorem dX11_availableOn_2 : decode cX11_availableOn 2 = .ok (.iload_n 1, 1) := by decide +kernel
theorem dX11_availableOn_3 : decode cX11_availableOn 3 = .ok (.invokevirtual 283, 3) := by decide +kernel
theorem dX11_availableOn_6 : decode cX11_availableOn 6 = .ok (.ifCond .ne 7, 3) := by decide +kernel
theorem dX11_availableOn_9 : decode cX11_availableOn 9 = .ok (.iconst 1, 1) := by decide +kernel
theorem dX11_availableOn_10 : decode cX11_availableOn 10 = .ok (.goto 4, 3) := by decide +kernel
theorem dX11_availableOn_13 : decode cX11_availableOn 13 = .ok (.iconst 0, 1) := by decide +kernel
theorem dX11_availableOn_14 : decode cX11_availableOn 14 = .ok (.iload_n 2, 1) := by decide +kernel
theorem dX11_availableOn_15 : decode cX11_availableOn 15 = .ok (.iconst 0, 1) := by decide +kernel
theorem dX11_availableOn_16 : decode cX11_availableOn 16 = .ok (.sipush 9999, 3) := by decide +kernel
theorem dX11_availableOn_19 : decode cX11_availableOn 19 = .ok (.invokestatic 75, 3) := by decide +kernel
theorem dX11_availableOn_22 : decode cX11_availableOn 22 = .ok (.ifCond .ne 7, 3) := by decide +kernel
theorem dX11_availableOn_25 : decode cX11_availableOn 25 = .ok (.iconst 1, 1) := by decide +kernel
theorem dX11_availableOn_26 : decode cX11_availableOn 26 = .ok (.goto 4, 3) := by decide +kernel
theorem dX11_availableOn_29 : decode cX11_availableOn 29 = .ok (.iconst 0, 1) := by decide +kernel
theorem dX11_availableOn_30 : decode cX11_availableOn 30 = .ok (.iconst 0, 1) := by decide +kernel
theorem dX11_availableOn_31 : decode cX11_availableOn 31 = .ok (.invokevirtual 143, 3) := by decide +kernel
theorem dX11_availableOn_34 : decode cX11_availableOn 34 = .ok (.ifCond .eq 5, 3) := by decide +kernel
theorem dX11_availableOn_37 : decode cX11_availableOn 37 = .ok (.iconst 0, 1) := by decide +kernel
theorem dX11_availableOn_38 : decode cX11_availableOn 38 = .ok (.ireturn, 1) := by decide +kernel
theorem dX11_availableOn_39 : decode cX11_availableOn 39 = .ok (.aload_n 0, 1) := by decide +kernel
theorem dX11_availableOn_40 : decode cX11_availableOn 40 = .ok (.iload_n 1, 1) := by decide +kernel
theorem dX11_availableOn_41 : decode cX11_availableOn 41 = .ok (.iload_n 2, 1) := by decide +kernel
theorem dX11_availableOn_42 : decode cX11_availableOn 42 = .ok (.invokevirtual 130, 3) := by decide +kernel
theorem dX11_availableOn_45 : decode cX11_availableOn 45 = .ok (.ireturn, 1) := by decide +kernel
theorem dX11_expired_0 : decode cX11_expired 0 = .ok (.aload_n 0, 1) := by decide +kernel
theorem dX11_expired_1 : decode cX11_expired 1 = .ok (.aload_n 0, 1) := by decide +kernel
theorem dX11_expired_2 : decode cX11_expired 2 = .ok (.iload_n 1, 1) := by decide +kernel
theorem dX11_expired_3 : decode cX11_expired 3 = .ok (.invokevirtual 283, 3) := by decide +kernel
theorem dX11_expired_6 : decode cX11_expired 6 = .ok (.ifCond .ne 7, 3) := by decide +kernel
theorem dX11_expired_9 : decode cX11_expired 9 = .ok (.iconst 1, 1) := by decide +kernel
theorem dX11_expired_10 : decode cX11_expired 10 = .ok (.goto 4, 3) := by decide +kernel
theorem dX11_expired_13 : decode cX11_expired 13 = .ok (.iconst 0, 1) := by decide +kernel
theorem dX11_expired_14 : decode cX11_expired 14 = .ok (.iconst 0, 1) := by decide +kernel
theorem dX11_expired_15 : decode cX11_expired 15 = .ok (.iconst 0, 1) := by decide +kernel
theorem dX11_expired_16 : decode cX11_expired 16 = .ok (.invokevirtual 143, 3) := by decide +kernel
theorem dX11_expired_19 : decode cX11_expired 19 = .ok (.ifCond .eq 5, 3) := by decide +kernel
theorem dX11_expired_22 : decode cX11_expired 22 = .ok (.iconst 0, 1) := by decide +kernel
theorem dX11_expired_23 : decode cX11_expired 23 = .ok (.ireturn, 1) := by decide +kernel
theorem dX11_expired_24 : decode cX11_expired 24 = .ok (.iconst 0, 1) := by decide +kernel
theorem dX11_expired_25 : decode cX11_expired 25 = .ok (.istore_n 2, 1) := by decide +kernel
theorem dX11_expired_26 : decode cX11_expired 26 = .ok (.iconst 0, 1) := by decide +kernel
theorem dX11_expired_27 : decode cX11_expired 27 = .ok (.istore_n 3, 1) := by decide +kernel
theorem dX11_expired_28 : decode cX11_expired 28 = .ok (.iload_n 3, 1) := by decide +kernel
theorem dX11_expired_29 : decode cX11_expired 29 = .ok (.aload_n 0, 1) := by decide +kernel
theorem dX11_expired_30 : decode cX11_expired 30 = .ok (.getfield 13, 3) := by decide +kernel
theorem dX11_expired_33 : decode cX11_expired 33 = .ok (.iconst 2, 1) := by decide +kernel
theorem dX11_expired_34 : decode cX11_expired 34 = .ok (.iaload, 1) := by decide +kernel
theorem dX11_expired_35 : decode cX11_expired 35 = .ok (.if_icmp .ge 39, 3) := by decide +kernel
theorem dX11_expired_38 : decode cX11_expired 38 = .ok (.iload_n 2, 1) := by decide +kernel
theorem dX11_expired_39 : decode cX11_expired 39 = .ok (.aload_n 0, 1) := by decide +kernel
theorem dX11_expired_40 : decode cX11_expired 40 = .ok (.iload_n 3, 1) := by decide +kernel
theorem dX11_expired_41 : decode cX11_expired 41 = .ok (.iload_n 1, 1) := by decide +kernel
theorem dX11_expired_42 : decode cX11_expired 42 = .ok (.invokevirtual 98, 3) := by decide +kernel
theorem dX11_expired_45 : decode cX11_expired 45 = .ok (.ifCond .eq 20, 3) := by decide +kernel
theorem dX11_expired_48 : decode cX11_expired 48 = .ok (.aload_n 0, 1) := by decide +kernel
theorem dX11_expired_49 : decode cX11_expired 49 = .ok (.iload_n 3, 1) := by decide +kernel
theorem dX11_expired_50 : decode cX11_expired 50 = .ok (.invokevirtual 124, 3) := by decide +kernel
theorem dX11_expired_53 : decode cX11_expired 53 = .ok (.ifCond .eq 12, 3) := by decide +kernel
theorem dX11_expired_56 : decode cX11_expired 56 = .ok (.aload_n 0, 1) := by decide +kernel
theorem dX11_expired_57 : decode cX11_expired 57 = .ok (.iload_n 3, 1) := by decide +kernel
theorem dX11_expired_58 : decode cX11_expired 58 = .ok (.iconst 1, 1) := by decide +kernel
theorem dX11_expired_59 : decode cX11_expired 59 = .ok (.invokevirtual 91, 3) := by decide +kernel
theorem dX11_expired_62 : decode cX11_expired 62 = .ok (.goto 4, 3) := by decide +kernel
theorem dX11_expired_65 : decode cX11_expired 65 = .ok (.iconst 0, 1) := by decide +kernel
theorem dX11_expired_66 : decode cX11_expired 66 = .ok (.iadd, 1) := by decide +kernel
theorem dX11_expired_67 : decode cX11_expired 67 = .ok (.istore_n 2, 1) := by decide +kernel
theorem dX11_expired_68 : decode cX11_expired 68 = .ok (.iinc 3 1, 3) := by decide +kernel
theorem dX11_expired_71 : decode cX11_expired 71 = .ok (.goto (-43), 3) := by decide +kernel
theorem dX11_expired_74 : decode cX11_expired 74 = .ok (.iload_n 2, 1) := by decide +kernel
theorem dX11_expired_75 : decode cX11_expired 75 = .ok (.ireturn, 1) := by decide +kernel
theorem dX11_expiringWithin_0 : decode cX11_expiringWithin 0 = .ok (.aload_n 0, 1) := by decide +kernel
theorem dX11_expiringWithin_1 : decode cX11_expiringWithin 1 = .ok (.aload_n 0, 1) := by decide +kernel
theorem dX11_expiringWithin_2 : decode cX11_expiringWithin 2 = .ok (.iload_n 1, 1) := by decide +kernel
theorem dX11_expiringWithin_3 : decode cX11_expiringWithin 3 = .ok (.invokevirtual 283, 3) := by decide +kernel
theorem dX11_expiringWithin_6 : decode cX11_expiringWithin 6 = .ok (.ifCond .ne 7, 3) := by decide +kernel
theorem dX11_expiringWithin_9 : decode cX11_expiringWithin 9 = .ok (.iconst 1, 1) := by decide +kernel
theorem dX11_expiringWithin_10 : decode cX11_expiringWithin 10 = .ok (.goto 4, 3) := by decide +kernel
theorem dX11_expiringWithin_13 : decode cX11_expiringWithin 13 = .ok (.iconst 0, 1) := by decide +kernel
theorem dX11_expiringWithin_14 : decode cX11_expiringWithin 14 = .ok (.iload_n 2, 1) := by decide +kernel
theorem dX11_expiringWithin_15 : decode cX11_expiringWithin 15 = .ok (.iconst 0, 1) := by decide +kernel
theorem dX11_expiringWithin_16 : decode cX11_expiringWithin 16 = .ok (.sipush 999, 3) := by decide +kernel
theorem dX11_expiringWithin_19 : decode cX11_expiringWithin 19 = .ok (.invokestatic 75, 3) := by decide +kernel
theorem dX11_expiringWithin_22 : decode cX11_expiringWithin 22 = .ok (.ifCond .ne 7, 3) := by decide +kernel
theorem dX11_expiringWithin_25 : decode cX11_expiringWithin 25 = .ok (.iconst 1, 1) := by decide +kernel
theorem dX11_expiringWithin_26 : decode cX11_expiringWithin 26 = .ok (.goto 4, 3) := by decide +kernel
theorem dX11_expiringWithin_29 : decode cX11_expiringWithin 29 = .ok (.iconst 0, 1) := by decide +kernel
theorem dX11_expiringWithin_30 : decode cX11_expiringWithin 30 = .ok (.iconst 0, 1) := by decide +kernel
theorem dX11_expiringWithin_31 : decode cX11_expiringWithin 31 = .ok (.invokevirtual 143, 3) := by decide +kernel
theorem dX11_expiringWithin_34 : decode cX11_expiringWithin 34 = .ok (.ifCond .eq 5, 3) := by decide +kernel
theorem dX11_expiringWithin_37 : decode cX11_expiringWithin 37 = .ok (.iconst 0, 1) := by decide +kernel
theorem dX11_expiringWithin_38 : decode cX11_expiringWithin 38 = .ok (.ireturn, 1) := by decide +kernel
theorem dX11_expiringWithin_39 : decode cX11_expiringWithin 39 = .ok (.iconst 0, 1) := by decide +kernel
theorem dX11_expiringWithin_40 : decode cX11_expiringWithin 40 = .ok (.istore_n 3, 1) := by decide +kernel
theorem dX11_expiringWithin_41 : decode cX11_expiringWithin 41 = .ok (.iconst 0, 1) := by decide +kernel
theorem dX11_expiringWithin_42 : decode cX11_expiringWithin 42 = .ok (.istore 4, 2) := by decide +kernel
theorem dX11_expiringWithin_44 : decode cX11_expiringWithin 44 = .ok (.iload 4, 2) := by decide +kernel
theorem dX11_expiringWithin_46 : decode cX11_expiringWithin 46 = .ok (.aload_n 0, 1) := by decide +kernel
theorem dX11_expiringWithin_47 : decode cX11_expiringWithin 47 = .ok (.getfield 13, 3) := by decide +kernel
theorem dX11_expiringWithin_50 : decode cX11_expiringWithin 50 = .ok (.iconst 2, 1) := by decide +kernel
theorem dX11_expiringWithin_51 : decode cX11_expiringWithin 51 = .ok (.iaload, 1) := by decide +kernel
theorem dX11_expiringWithin_52 : decode cX11_expiringWithin 52 = .ok (.if_icmp .ge 72, 3) := by decide +kernel
theorem dX11_expiringWithin_55 : decode cX11_expiringWithin 55 = .ok (.aload_n 0, 1) := by decide +kernel
theorem dX11_expiringWithin_56 : decode cX11_expiringWithin 56 = .ok (.iload 4, 2) := by decide +kernel
theorem dX11_expiringWithin_58 : decode cX11_expiringWithin 58 = .ok (.invokevirtual 124, 3) := by decide +kernel
theorem dX11_expiringWithin_61 : decode cX11_expiringWithin 61 = .ok (.ifCond .ne 25, 3) := by decide +kernel
theorem dX11_expiringWithin_64 : decode cX11_expiringWithin 64 = .ok (.aload_n 0, 1) := by decide +kernel
theorem dX11_expiringWithin_65 : decode cX11_expiringWithin 65 = .ok (.iload 4, 2) := by decide +kernel
theorem dX11_expiringWithin_67 : decode cX11_expiringWithin 67 = .ok (.iconst 2, 1) := by decide +kernel
theorem dX11_expiringWithin_68 : decode cX11_expiringWithin 68 = .ok (.invokevirtual 91, 3) := by decide +kernel
theorem dX11_expiringWithin_71 : decode cX11_expiringWithin 71 = .ok (.aload_n 0, 1) := by decide +kernel
theorem dX11_expiringWithin_72 : decode cX11_expiringWithin 72 = .ok (.getfield 13, 3) := by decide +kernel
theorem dX11_expiringWithin_75 : decode cX11_expiringWithin 75 = .ok (.iconst 0, 1) := by decide +kernel
theorem dX11_expiringWithin_76 : decode cX11_expiringWithin 76 = .ok (.iaload, 1) := by decide +kernel
theorem dX11_expiringWithin_77 : decode cX11_expiringWithin 77 = .ok (.iload_n 2, 1) := by decide +kernel
theorem dX11_expiringWithin_78 : decode cX11_expiringWithin 78 = .ok (.iadd, 1) := by decide +kernel
theorem dX11_expiringWithin_79 : decode cX11_expiringWithin 79 = .ok (.if_icmp .gt 7, 3) := by decide +kernel
theorem dX11_expiringWithin_82 : decode cX11_expiringWithin 82 = .ok (.iconst 1, 1) := by decide +kernel
theorem dX11_expiringWithin_83 : decode cX11_expiringWithin 83 = .ok (.goto 4, 3) := by decide +kernel
theorem dX11_expiringWithin_86 : decode cX11_expiringWithin 86 = .ok (.iconst 0, 1) := by decide +kernel
theorem dX11_expiringWithin_87 : decode cX11_expiringWithin 87 = .ok (.istore 5, 2) := by decide +kernel
theorem dX11_expiringWithin_89 : decode cX11_expiringWithin 89 = .ok (.iload_n 3, 1) := by decide +kernel
theorem dX11_expiringWithin_90 : decode cX11_expiringWithin 90 = .ok (.aload_n 0, 1) := by decide +kernel
theorem dX11_expiringWithin_91 : decode cX11_expiringWithin 91 = .ok (.iload 4, 2) := by decide +kernel
theorem dX11_expiringWithin_93 : decode cX11_expiringWithin 93 = .ok (.iload_n 1, 1) := by decide +kernel
theorem dX11_expiringWithin_94 : decode cX11_expiringWithin 94 = .ok (.invokevirtual 98, 3) := by decide +kernel
theorem dX11_expiringWithin_97 : decode cX11_expiringWithin 97 = .ok (.ifCond .eq 18, 3) := by decide +kernel
theorem dX11_expiringWithin_100 : decode cX11_expiringWithin 100 = .ok (.iload 5, 2) := by decide +kernel
theorem dX11_expiringWithin_102 : decode cX11_expiringWithin 102 = .ok (.ifCond .eq 13, 3) := by decide +kernel
theorem dX11_expiringWithin_105 : decode cX11_expiringWithin 105 = .ok (.aload_n 0, 1) := by decide +kernel
theorem dX11_expiringWithin_106 : decode cX11_expiringWithin 106 = .ok (.iload 4, 2) := by decide +kernel
theorem dX11_expiringWithin_108 : decode cX11_expiringWithin 108 = .ok (.iconst 1, 1) := by decide +kernel
theorem dX11_expiringWithin_109 : decode cX11_expiringWithin 109 = .ok (.invokevirtual 91, 3) := by decide +kernel
theorem dX11_expiringWithin_112 : decode cX11_expiringWithin 112 = .ok (.goto 4, 3) := by decide +kernel
theorem dX11_expiringWithin_115 : decode cX11_expiringWithin 115 = .ok (.iconst 0, 1) := by decide +kernel
theorem dX11_expiringWithin_116 : decode cX11_expiringWithin 116 = .ok (.iadd, 1) := by decide +kernel
theorem dX11_expiringWithin_117 : decode cX11_expiringWithin 117 = .ok (.istore_n 3, 1) := by decide +kernel
theorem dX11_expiringWithin_118 : decode cX11_expiringWithin 118 = .ok (.iinc 4 1, 3) := by decide +kernel
theorem dX11_expiringWithin_121 : decode cX11_expiringWithin 121 = .ok (.goto (-77), 3) := by decide +kernel
theorem dX11_expiringWithin_124 : decode cX11_expiringWithin 124 = .ok (.iload_n 3, 1) := by decide +kernel
theorem dX11_expiringWithin_125 : decode cX11_expiringWithin 125 = .ok (.ireturn, 1) := by decide +kernel
theorem dX11_stockValue_0 : decode cX11_stockValue 0 = .ok (.aload_n 0, 1) := by decide +kernel
theorem dX11_stockValue_1 : decode cX11_stockValue 1 = .ok (.aload_n 0, 1) := by decide +kernel
theorem dX11_stockValue_2 : decode cX11_stockValue 2 = .ok (.iload_n 1, 1) := by decide +kernel
theorem dX11_stockValue_3 : decode cX11_stockValue 3 = .ok (.invokevirtual 283, 3) := by decide +kernel
theorem dX11_stockValue_6 : decode cX11_stockValue 6 = .ok (.ifCond .ne 7, 3) := by decide +kernel
theorem dX11_stockValue_9 : decode cX11_stockValue 9 = .ok (.iconst 1, 1) := by decide +kernel
theorem dX11_stockValue_10 : decode cX11_stockValue 10 = .ok (.goto 4, 3) := by decide +kernel
theorem dX11_stockValue_13 : decode cX11_stockValue 13 = .ok (.iconst 0, 1) := by decide +kernel
theorem dX11_stockValue_14 : decode cX11_stockValue 14 = .ok (.iconst 0, 1) := by decide +kernel
theorem dX11_stockValue_15 : decode cX11_stockValue 15 = .ok (.iconst 0, 1) := by decide +kernel
theorem dX11_stockValue_16 : decode cX11_stockValue 16 = .ok (.invokevirtual 143, 3) := by decide +kernel
theorem dX11_stockValue_19 : decode cX11_stockValue 19 = .ok (.ifCond .eq 5, 3) := by decide +kernel
theorem dX11_stockValue_22 : decode cX11_stockValue 22 = .ok (.iconst 0, 1) := by decide +kernel
theorem dX11_stockValue_23 : decode cX11_stockValue 23 = .ok (.ireturn, 1) := by decide +kernel
theorem dX11_stockValue_24 : decode cX11_stockValue 24 = .ok (.aload_n 0, 1) := by decide +kernel
theorem dX11_stockValue_25 : decode cX11_stockValue 25 = .ok (.iload_n 1, 1) := by decide +kernel
theorem dX11_stockValue_26 : decode cX11_stockValue 26 = .ok (.invokevirtual 292, 3) := by decide +kernel
theorem dX11_stockValue_29 : decode cX11_stockValue 29 = .ok (.ireturn, 1) := by decide +kernel
theorem dX11_totalValue_0 : decode cX11_totalValue 0 = .ok (.aload_n 0, 1) := by decide +kernel
theorem dX11_totalValue_1 : decode cX11_totalValue 1 = .ok (.iconst 0, 1) := by decide +kernel
theorem dX11_totalValue_2 : decode cX11_totalValue 2 = .ok (.putfield 1, 3) := by decide +kernel
theorem dX11_totalValue_5 : decode cX11_totalValue 5 = .ok (.iconst 0, 1) := by decide +kernel
theorem dX11_totalValue_6 : decode cX11_totalValue 6 = .ok (.istore_n 1, 1) := by decide +kernel
theorem dX11_totalValue_7 : decode cX11_totalValue 7 = .ok (.iconst 0, 1) := by decide +kernel
theorem dX11_totalValue_8 : decode cX11_totalValue 8 = .ok (.istore_n 2, 1) := by decide +kernel
theorem dX11_totalValue_9 : decode cX11_totalValue 9 = .ok (.iload_n 2, 1) := by decide +kernel
theorem dX11_totalValue_10 : decode cX11_totalValue 10 = .ok (.aload_n 0, 1) := by decide +kernel
theorem dX11_totalValue_11 : decode cX11_totalValue 11 = .ok (.getfield 13, 3) := by decide +kernel
theorem dX11_totalValue_14 : decode cX11_totalValue 14 = .ok (.iconst 1, 1) := by decide +kernel
theorem dX11_totalValue_15 : decode cX11_totalValue 15 = .ok (.iaload, 1) := by decide +kernel
theorem dX11_totalValue_16 : decode cX11_totalValue 16 = .ok (.if_icmp .ge 17, 3) := by decide +kernel
theorem dX11_totalValue_19 : decode cX11_totalValue 19 = .ok (.iload_n 1, 1) := by decide +kernel
theorem dX11_totalValue_20 : decode cX11_totalValue 20 = .ok (.aload_n 0, 1) := by decide +kernel
theorem dX11_totalValue_21 : decode cX11_totalValue 21 = .ok (.iload_n 2, 1) := by decide +kernel
theorem dX11_totalValue_22 : decode cX11_totalValue 22 = .ok (.invokevirtual 292, 3) := by decide +kernel
theorem dX11_totalValue_25 : decode cX11_totalValue 25 = .ok (.iadd, 1) := by decide +kernel
theorem dX11_totalValue_26 : decode cX11_totalValue 26 = .ok (.istore_n 1, 1) := by decide +kernel
theorem dX11_totalValue_27 : decode cX11_totalValue 27 = .ok (.iinc 2 1, 3) := by decide +kernel
theorem dX11_totalValue_30 : decode cX11_totalValue 30 = .ok (.goto (-21), 3) := by decide +kernel
theorem dX11_totalValue_33 : decode cX11_totalValue 33 = .ok (.iload_n 1, 1) := by decide +kernel
theorem dX11_totalValue_34 : decode cX11_totalValue 34 = .ok (.ireturn, 1) := by decide +kernel
theorem dX11_reorderQuantity_0 : decode cX11_reorderQuantity 0 = .ok (.aload_n 0, 1) := by decide +kernel
theorem dX11_reorderQuantity_1 : decode cX11_reorderQuantity 1 = .ok (.aload_n 0, 1) := by decide +kernel
theorem dX11_reorderQuantity_2 : decode cX11_reorderQuantity 2 = .ok (.iload_n 1, 1) := by decide +kernel
theorem dX11_reorderQuantity_3 : decode cX11_reorderQuantity 3 = .ok (.invokevirtual 283, 3) := by decide +kernel
theorem dX11_reorderQuantity_6 : decode cX11_reorderQuantity 6 = .ok (.ifCond .ne 7, 3) := by decide +kernel
theorem dX11_reorderQuantity_9 : decode cX11_reorderQuantity 9 = .ok (.iconst 1, 1) := by decide +kernel
theorem dX11_reorderQuantity_10 : decode cX11_reorderQuantity 10 = .ok (.goto 4, 3) := by decide +kernel
theorem dX11_reorderQuantity_13 : decode cX11_reorderQuantity 13 = .ok (.iconst 0, 1) := by decide +kernel
theorem dX11_reorderQuantity_14 : decode cX11_reorderQuantity 14 = .ok (.iconst 0, 1) := by decide +kernel
theorem dX11_reorderQuantity_15 : decode cX11_reorderQuantity 15 = .ok (.iconst 0, 1) := by decide +kernel
theorem dX11_reorderQuantity_16 : decode cX11_reorderQuantity 16 = .ok (.invokevirtual 143, 3) := by decide +kernel
theorem dX11_reorderQuantity_19 : decode cX11_reorderQuantity 19 = .ok (.ifCond .eq 5, 3) := by decide +kernel
theorem dX11_reorderQuantity_22 : decode cX11_reorderQuantity 22 = .ok (.iconst 0, 1) := by decide +kernel
theorem dX11_reorderQuantity_23 : decode cX11_reorderQuantity 23 = .ok (.ireturn, 1) := by decide +kernel
theorem dX11_reorderQuantity_24 : decode cX11_reorderQuantity 24 = .ok (.aload_n 0, 1) := by decide +kernel
theorem dX11_reorderQuantity_25 : decode cX11_reorderQuantity 25 = .ok (.iload_n 1, 1) := by decide +kernel
theorem dX11_reorderQuantity_26 : decode cX11_reorderQuantity 26 = .ok (.invokevirtual 295, 3) := by decide +kernel
theorem dX11_reorderQuantity_29 : decode cX11_reorderQuantity 29 = .ok (.ireturn, 1) := by decide +kernel
theorem dX11_reorderCount_0 : decode cX11_reorderCount 0 = .ok (.aload_n 0, 1) := by decide +kernel
theorem dX11_reorderCount_1 : decode cX11_reorderCount 1 = .ok (.iconst 0, 1) := by decide +kernel
theorem dX11_reorderCount_2 : decode cX11_reorderCount 2 = .ok (.putfield 1, 3) := by decide +kernel
theorem dX11_reorderCount_5 : decode cX11_reorderCount 5 = .ok (.iconst 0, 1) := by decide +kernel
theorem dX11_reorderCount_6 : decode cX11_reorderCount 6 = .ok (.istore_n 1, 1) := by decide +kernel
theorem dX11_reorderCount_7 : decode cX11_reorderCount 7 = .ok (.iconst 0, 1) := by decide +kernel
theorem dX11_reorderCount_8 : decode cX11_reorderCount 8 = .ok (.istore_n 2, 1) := by decide +kernel
theorem dX11_reorderCount_9 : decode cX11_reorderCount 9 = .ok (.iload_n 2, 1) := by decide +kernel
theorem dX11_reorderCount_10 : decode cX11_reorderCount 10 = .ok (.aload_n 0, 1) := by decide +kernel
theorem dX11_reorderCount_11 : decode cX11_reorderCount 11 = .ok (.getfield 13, 3) := by decide +kernel
theorem dX11_reorderCount_14 : decode cX11_reorderCount 14 = .ok (.iconst 1, 1) := by decide +kernel
theorem dX11_reorderCount_15 : decode cX11_reorderCount 15 = .ok (.iaload, 1) := by decide +kernel
theorem dX11_reorderCount_16 : decode cX11_reorderCount 16 = .ok (.if_icmp .ge 25, 3) := by decide +kernel
theorem dX11_reorderCount_19 : decode cX11_reorderCount 19 = .ok (.iload_n 1, 1) := by decide +kernel
theorem dX11_reorderCount_20 : decode cX11_reorderCount 20 = .ok (.aload_n 0, 1) := by decide +kernel
theorem dX11_reorderCount_21 : decode cX11_reorderCount 21 = .ok (.iload_n 2, 1) := by decide +kernel
theorem dX11_reorderCount_22 : decode cX11_reorderCount 22 = .ok (.invokevirtual 295, 3) := by decide +kernel
theorem dX11_reorderCount_25 : decode cX11_reorderCount 25 = .ok (.ifCond .le 7, 3) := by decide +kernel
theorem dX11_reorderCount_28 : decode cX11_reorderCount 28 = .ok (.iconst 1, 1) := by decide +kernel
theorem dX11_reorderCount_29 : decode cX11_reorderCount 29 = .ok (.goto 4, 3) := by decide +kernel
theorem dX11_reorderCount_32 : decode cX11_reorderCount 32 = .ok (.iconst 0, 1) := by decide +kernel
theorem dX11_reorderCount_33 : decode cX11_reorderCount 33 = .ok (.iadd, 1) := by decide +kernel
theorem dX11_reorderCount_34 : decode cX11_reorderCount 34 = .ok (.istore_n 1, 1) := by decide +kernel
theorem dX11_reorderCount_35 : decode cX11_reorderCount 35 = .ok (.iinc 2 1, 3) := by decide +kernel
theorem dX11_reorderCount_38 : decode cX11_reorderCount 38 = .ok (.goto (-29), 3) := by decide +kernel
theorem dX11_reorderCount_41 : decode cX11_reorderCount 41 = .ok (.iload_n 1, 1) := by decide +kernel
theorem dX11_reorderCount_42 : decode cX11_reorderCount 42 = .ok (.ireturn, 1) := by decide +kernel
theorem dX11_batchCount_0 : decode cX11_batchCount 0 = .ok (.aload_n 0, 1) := by decide +kernel
theorem dX11_batchCount_1 : decode cX11_batchCount 1 = .ok (.aload_n 0, 1) := by decide +kernel
theorem dX11_batchCount_2 : decode cX11_batchCount 2 = .ok (.getfield 13, 3) := by decide +kernel
theorem dX11_batchCount_5 : decode cX11_batchCount 5 = .ok (.iconst 2, 1) := by decide +kernel
theorem dX11_batchCount_6 : decode cX11_batchCount 6 = .ok (.iaload, 1) := by decide +kernel
theorem dX11_batchCount_7 : decode cX11_batchCount 7 = .ok (.invokevirtual 280, 3) := by decide +kernel
theorem dX11_batchCount_10 : decode cX11_batchCount 10 = .ok (.ireturn, 1) := by decide +kernel
theorem dX11_batchField_0 : decode cX11_batchField 0 = .ok (.aload_n 0, 1) := by decide +kernel
theorem dX11_batchField_1 : decode cX11_batchField 1 = .ok (.aload_n 0, 1) := by decide +kernel
theorem dX11_batchField_2 : decode cX11_batchField 2 = .ok (.iload_n 1, 1) := by decide +kernel
theorem dX11_batchField_3 : decode cX11_batchField 3 = .ok (.invokevirtual 241, 3) := by decide +kernel
theorem dX11_batchField_6 : decode cX11_batchField 6 = .ok (.ifCond .ne 7, 3) := by decide +kernel
theorem dX11_batchField_9 : decode cX11_batchField 9 = .ok (.iconst 1, 1) := by decide +kernel
theorem dX11_batchField_10 : decode cX11_batchField 10 = .ok (.goto 4, 3) := by decide +kernel
theorem dX11_batchField_13 : decode cX11_batchField 13 = .ok (.iconst 0, 1) := by decide +kernel
theorem dX11_batchField_14 : decode cX11_batchField 14 = .ok (.iconst 0, 1) := by decide +kernel
theorem dX11_batchField_15 : decode cX11_batchField 15 = .ok (.iconst 0, 1) := by decide +kernel
theorem dX11_batchField_16 : decode cX11_batchField 16 = .ok (.invokevirtual 143, 3) := by decide +kernel
theorem dX11_batchField_19 : decode cX11_batchField 19 = .ok (.ifCond .eq 5, 3) := by decide +kernel
theorem dX11_batchField_22 : decode cX11_batchField 22 = .ok (.iconst 0, 1) := by decide +kernel
theorem dX11_batchField_23 : decode cX11_batchField 23 = .ok (.ireturn, 1) := by decide +kernel
theorem dX11_batchField_24 : decode cX11_batchField 24 = .ok (.aload_n 0, 1) := by decide +kernel
theorem dX11_batchField_25 : decode cX11_batchField 25 = .ok (.iload_n 1, 1) := by decide +kernel
theorem dX11_batchField_26 : decode cX11_batchField 26 = .ok (.iload_n 2, 1) := by decide +kernel
theorem dX11_batchField_27 : decode cX11_batchField 27 = .ok (.invokevirtual 91, 3) := by decide +kernel
theorem dX11_batchField_30 : decode cX11_batchField 30 = .ok (.ireturn, 1) := by decide +kernel
theorem dX11_productOf_0 : decode cX11_productOf 0 = .ok (.aload_n 0, 1) := by decide +kernel
theorem dX11_productOf_1 : decode cX11_productOf 1 = .ok (.iload_n 1, 1) := by decide +kernel
theorem dX11_productOf_2 : decode cX11_productOf 2 = .ok (.iconst 0, 1) := by decide +kernel
theorem dX11_productOf_3 : decode cX11_productOf 3 = .ok (.invokevirtual 298, 3) := by decide +kernel
theorem dX11_productOf_6 : decode cX11_productOf 6 = .ok (.ireturn, 1) := by decide +kernel
theorem dX11_quantity_0 : decode cX11_quantity 0 = .ok (.aload_n 0, 1) := by decide +kernel
theorem dX11_quantity_1 : decode cX11_quantity 1 = .ok (.iload_n 1, 1) := by decide +kernel
theorem dX11_quantity_2 : decode cX11_quantity 2 = .ok (.iconst 1, 1) := by decide +kernel
theorem dX11_quantity_3 : decode cX11_quantity 3 = .ok (.invokevirtual 298, 3) := by decide +kernel
theorem dX11_quantity_6 : decode cX11_quantity 6 = .ok (.ireturn, 1) := by decide +kernel
theorem dX11_reservedOf_0 : decode cX11_reservedOf 0 = .ok (.aload_n 0, 1) := by decide +kernel
theorem dX11_reservedOf_1 : decode cX11_reservedOf 1 = .ok (.aload_n 0, 1) := by decide +kernel
theorem dX11_reservedOf_2 : decode cX11_reservedOf 2 = .ok (.iload_n 1, 1) := by decide +kernel
theorem dX11_reservedOf_3 : decode cX11_reservedOf 3 = .ok (.invokevirtual 241, 3) := by decide +kernel
theorem dX11_reservedOf_6 : decode cX11_reservedOf 6 = .ok (.ifCond .ne 7, 3) := by decide +kernel
theorem dX11_reservedOf_9 : decode cX11_reservedOf 9 = .ok (.iconst 1, 1) := by decide +kernel
theorem dX11_reservedOf_10 : decode cX11_reservedOf 10 = .ok (.goto 4, 3) := by decide +kernel
theorem dX11_reservedOf_13 : decode cX11_reservedOf 13 = .ok (.iconst 0, 1) := by decide +kernel
theorem dX11_reservedOf_14 : decode cX11_reservedOf 14 = .ok (.iconst 0, 1) := by decide +kernel
theorem dX11_reservedOf_15 : decode cX11_reservedOf 15 = .ok (.iconst 0, 1) := by decide +kernel
theorem dX11_reservedOf_16 : decode cX11_reservedOf 16 = .ok (.invokevirtual 143, 3) := by decide +kernel
theorem dX11_reservedOf_19 : decode cX11_reservedOf 19 = .ok (.ifCond .eq 5, 3) := by decide +kernel
theorem dX11_reservedOf_22 : decode cX11_reservedOf 22 = .ok (.iconst 0, 1) := by decide +kernel
theorem dX11_reservedOf_23 : decode cX11_reservedOf 23 = .ok (.ireturn, 1) := by decide +kernel
theorem dX11_reservedOf_24 : decode cX11_reservedOf 24 = .ok (.aload_n 0, 1) := by decide +kernel
theorem dX11_reservedOf_25 : decode cX11_reservedOf 25 = .ok (.iload_n 1, 1) := by decide +kernel
theorem dX11_reservedOf_26 : decode cX11_reservedOf 26 = .ok (.invokevirtual 94, 3) := by decide +kernel
theorem dX11_reservedOf_29 : decode cX11_reservedOf 29 = .ok (.ireturn, 1) := by decide +kernel
theorem dX11_expiryDay_0 : decode cX11_expiryDay 0 = .ok (.aload_n 0, 1) := by decide +kernel
theorem dX11_expiryDay_1 : decode cX11_expiryDay 1 = .ok (.iload_n 1, 1) := by decide +kernel
theorem dX11_expiryDay_2 : decode cX11_expiryDay 2 = .ok (.iconst 2, 1) := by decide +kernel
theorem dX11_expiryDay_3 : decode cX11_expiryDay 3 = .ok (.invokevirtual 298, 3) := by decide +kernel
theorem dX11_expiryDay_6 : decode cX11_expiryDay 6 = .ok (.ireturn, 1) := by decide +kernel
theorem dX11_unitCost_0 : decode cX11_unitCost 0 = .ok (.aload_n 0, 1) := by decide +kernel
theorem dX11_unitCost_1 : decode cX11_unitCost 1 = .ok (.iload_n 1, 1) := by decide +kernel
theorem dX11_unitCost_2 : decode cX11_unitCost 2 = .ok (.iconst 3, 1) := by decide +kernel
theorem dX11_unitCost_3 : decode cX11_unitCost 3 = .ok (.invokevirtual 298, 3) := by decide +kernel
theorem dX11_unitCost_6 : decode cX11_unitCost 6 = .ok (.ireturn, 1) := by decide +kernel
theorem dX11_isExpired_0 : decode cX11_isExpired 0 = .ok (.aload_n 0, 1) := by decide +kernel
theorem dX11_isExpired_1 : decode cX11_isExpired 1 = .ok (.aload_n 0, 1) := by decide +kernel
theorem dX11_isExpired_2 : decode cX11_isExpired 2 = .ok (.iload_n 1, 1) := by decide +kernel
theorem dX11_isExpired_3 : decode cX11_isExpired 3 = .ok (.invokevirtual 241, 3) := by decide +kernel
theorem dX11_isExpired_6 : decode cX11_isExpired 6 = .ok (.ifCond .ne 7, 3) := by decide +kernel
theorem dX11_isExpired_9 : decode cX11_isExpired 9 = .ok (.iconst 1, 1) := by decide +kernel
theorem dX11_isExpired_10 : decode cX11_isExpired 10 = .ok (.goto 4, 3) := by decide +kernel
theorem dX11_isExpired_13 : decode cX11_isExpired 13 = .ok (.iconst 0, 1) := by decide +kernel
theorem dX11_isExpired_14 : decode cX11_isExpired 14 = .ok (.iconst 0, 1) := by decide +kernel
theorem dX11_isExpired_15 : decode cX11_isExpired 15 = .ok (.iconst 0, 1) := by decide +kernel
theorem dX11_isExpired_16 : decode cX11_isExpired 16 = .ok (.invokevirtual 143, 3) := by decide +kernel
theorem dX11_isExpired_19 : decode cX11_isExpired 19 = .ok (.ifCond .eq 5, 3) := by decide +kernel
theorem dX11_isExpired_22 : decode cX11_isExpired 22 = .ok (.iconst 0, 1) := by decide +kernel
theorem dX11_isExpired_23 : decode cX11_isExpired 23 = .ok (.ireturn, 1) := by decide +kernel
theorem dX11_isExpired_24 : decode cX11_isExpired 24 = .ok (.aload_n 0, 1) := by decide +kernel
theorem dX11_isExpired_25 : decode cX11_isExpired 25 = .ok (.iload_n 1, 1) := by decide +kernel
theorem dX11_isExpired_26 : decode cX11_isExpired 26 = .ok (.invokevirtual 124, 3) := by decide +kernel
theorem dX11_isExpired_29 : decode cX11_isExpired 29 = .ok (.ireturn, 1) := by decide +kernel
theorem dX11_placeOf_0 : decode cX11_placeOf 0 = .ok (.iconst 0, 1) := by decide +kernel
theorem dX11_placeOf_1 : decode cX11_placeOf 1 = .ok (.istore_n 3, 1) := by decide +kernel
theorem dX11_placeOf_2 : decode cX11_placeOf 2 = .ok (.iconst 0, 1) := by decide +kernel
theorem dX11_placeOf_3 : decode cX11_placeOf 3 = .ok (.istore 4, 2) := by decide +kernel
theorem dX11_placeOf_5 : decode cX11_placeOf 5 = .ok (.iload 4, 2) := by decide +kernel
theorem dX11_placeOf_7 : decode cX11_placeOf 7 = .ok (.aload_n 0, 1) := by decide +kernel
theorem dX11_placeOf_8 : decode cX11_placeOf 8 = .ok (.getfield 13, 3) := by decide +kernel
theorem dX11_placeOf_11 : decode cX11_placeOf 11 = .ok (.iconst 2, 1) := by decide +kernel
theorem dX11_placeOf_12 : decode cX11_placeOf 12 = .ok (.iaload, 1) := by decide +kernel
theorem dX11_placeOf_13 : decode cX11_placeOf 13 = .ok (.if_icmp .ge 65, 3) := by decide +kernel
theorem dX11_placeOf_16 : decode cX11_placeOf 16 = .ok (.aload_n 0, 1) := by decide +kernel
theorem dX11_placeOf_17 : decode cX11_placeOf 17 = .ok (.iload_n 1, 1) := by decide +kernel
theorem dX11_placeOf_18 : decode cX11_placeOf 18 = .ok (.iconst 2, 1) := by decide +kernel
theorem dX11_placeOf_19 : decode cX11_placeOf 19 = .ok (.invokevirtual 91, 3) := by decide +kernel
theorem dX11_placeOf_22 : decode cX11_placeOf 22 = .ok (.aload_n 0, 1) := by decide +kernel
theorem dX11_placeOf_23 : decode cX11_placeOf 23 = .ok (.iload 4, 2) := by decide +kernel
theorem dX11_placeOf_25 : decode cX11_placeOf 25 = .ok (.iconst 2, 1) := by decide +kernel
theorem dX11_placeOf_26 : decode cX11_placeOf 26 = .ok (.invokevirtual 91, 3) := by decide +kernel
theorem dX11_placeOf_29 : decode cX11_placeOf 29 = .ok (.isub, 1) := by decide +kernel
theorem dX11_placeOf_30 : decode cX11_placeOf 30 = .ok (.istore 5, 2) := by decide +kernel
theorem dX11_placeOf_32 : decode cX11_placeOf 32 = .ok (.iload_n 3, 1) := by decide +kernel
theorem dX11_placeOf_33 : decode cX11_placeOf 33 = .ok (.aload_n 0, 1) := by decide +kernel
theorem dX11_placeOf_34 : decode cX11_placeOf 34 = .ok (.iload 4, 2) := by decide +kernel
theorem dX11_placeOf_36 : decode cX11_placeOf 36 = .ok (.iload_n 2, 1) := by decide +kernel
theorem dX11_placeOf_37 : decode cX11_placeOf 37 = .ok (.aload_n 0, 1) := by decide +kernel
theorem dX11_placeOf_38 : decode cX11_placeOf 38 = .ok (.getfield 13, 3) := by decide +kernel
theorem dX11_placeOf_41 : decode cX11_placeOf 41 = .ok (.iconst 0, 1) := by decide +kernel
theorem dX11_placeOf_42 : decode cX11_placeOf 42 = .ok (.iaload, 1) := by decide +kernel
theorem dX11_placeOf_43 : decode cX11_placeOf 43 = .ok (.invokevirtual 105, 3) := by decide +kernel
theorem dX11_placeOf_46 : decode cX11_placeOf 46 = .ok (.ifCond .eq 23, 3) := by decide +kernel
theorem dX11_placeOf_49 : decode cX11_placeOf 49 = .ok (.iload 5, 2) := by decide +kernel
theorem dX11_placeOf_51 : decode cX11_placeOf 51 = .ok (.ifCond .gt 14, 3) := by decide +kernel
theorem dX11_placeOf_54 : decode cX11_placeOf 54 = .ok (.iload 5, 2) := by decide +kernel
theorem dX11_placeOf_56 : decode cX11_placeOf 56 = .ok (.ifCond .ne 13, 3) := by decide +kernel
theorem dX11_placeOf_59 : decode cX11_placeOf 59 = .ok (.iload 4, 2) := by decide +kernel
theorem dX11_placeOf_61 : decode cX11_placeOf 61 = .ok (.iload_n 1, 1) := by decide +kernel
theorem dX11_placeOf_62 : decode cX11_placeOf 62 = .ok (.if_icmp .ge 7, 3) := by decide +kernel
theorem dX11_placeOf_65 : decode cX11_placeOf 65 = .ok (.iconst 1, 1) := by decide +kernel
theorem dX11_placeOf_66 : decode cX11_placeOf 66 = .ok (.goto 4, 3) := by decide +kernel
theorem dX11_placeOf_69 : decode cX11_placeOf 69 = .ok (.iconst 0, 1) := by decide +kernel
theorem dX11_placeOf_70 : decode cX11_placeOf 70 = .ok (.iadd, 1) := by decide +kernel
theorem dX11_placeOf_71 : decode cX11_placeOf 71 = .ok (.istore_n 3, 1) := by decide +kernel
theorem dX11_placeOf_72 : decode cX11_placeOf 72 = .ok (.iinc 4 1, 3) := by decide +kernel
theorem dX11_placeOf_75 : decode cX11_placeOf 75 = .ok (.goto (-70), 3) := by decide +kernel
theorem dX11_placeOf_78 : decode cX11_placeOf 78 = .ok (.iload_n 3, 1) := by decide +kernel
theorem dX11_placeOf_79 : decode cX11_placeOf 79 = .ok (.ireturn, 1) := by decide +kernel
theorem dX11_issueOrder_0 : decode cX11_issueOrder 0 = .ok (.aload_n 0, 1) := by decide +kernel
theorem dX11_issueOrder_1 : decode cX11_issueOrder 1 = .ok (.aload_n 0, 1) := by decide +kernel
theorem dX11_issueOrder_2 : decode cX11_issueOrder 2 = .ok (.iload_n 1, 1) := by decide +kernel
theorem dX11_issueOrder_3 : decode cX11_issueOrder 3 = .ok (.invokevirtual 283, 3) := by decide +kernel
theorem dX11_issueOrder_6 : decode cX11_issueOrder 6 = .ok (.ifCond .ne 7, 3) := by decide +kernel
theorem dX11_issueOrder_9 : decode cX11_issueOrder 9 = .ok (.iconst 1, 1) := by decide +kernel
theorem dX11_issueOrder_10 : decode cX11_issueOrder 10 = .ok (.goto 4, 3) := by decide +kernel
theorem dX11_issueOrder_13 : decode cX11_issueOrder 13 = .ok (.iconst 0, 1) := by decide +kernel
theorem dX11_issueOrder_14 : decode cX11_issueOrder 14 = .ok (.iconst 0, 1) := by decide +kernel
theorem dX11_issueOrder_15 : decode cX11_issueOrder 15 = .ok (.iconst 0, 1) := by decide +kernel
theorem dX11_issueOrder_16 : decode cX11_issueOrder 16 = .ok (.invokevirtual 143, 3) := by decide +kernel
theorem dX11_issueOrder_19 : decode cX11_issueOrder 19 = .ok (.ifCond .eq 5, 3) := by decide +kernel
theorem dX11_issueOrder_22 : decode cX11_issueOrder 22 = .ok (.iconst 0, 1) := by decide +kernel
theorem dX11_issueOrder_23 : decode cX11_issueOrder 23 = .ok (.ireturn, 1) := by decide +kernel
theorem dX11_issueOrder_24 : decode cX11_issueOrder 24 = .ok (.iconst 0, 1) := by decide +kernel
theorem dX11_issueOrder_25 : decode cX11_issueOrder 25 = .ok (.istore_n 3, 1) := by decide +kernel
theorem dX11_issueOrder_26 : decode cX11_issueOrder 26 = .ok (.iload_n 3, 1) := by decide +kernel
theorem dX11_issueOrder_27 : decode cX11_issueOrder 27 = .ok (.aload_n 0, 1) := by decide +kernel
theorem dX11_issueOrder_28 : decode cX11_issueOrder 28 = .ok (.getfield 13, 3) := by decide +kernel
theorem dX11_issueOrder_31 : decode cX11_issueOrder 31 = .ok (.iconst 2, 1) := by decide +kernel
theorem dX11_issueOrder_32 : decode cX11_issueOrder 32 = .ok (.iaload, 1) := by decide +kernel
theorem dX11_issueOrder_33 : decode cX11_issueOrder 33 = .ok (.if_icmp .ge 36, 3) := by decide +kernel
theorem dX11_issueOrder_36 : decode cX11_issueOrder 36 = .ok (.aload_n 0, 1) := by decide +kernel
theorem dX11_issueOrder_37 : decode cX11_issueOrder 37 = .ok (.iload_n 3, 1) := by decide +kernel
theorem dX11_issueOrder_38 : decode cX11_issueOrder 38 = .ok (.iload_n 1, 1) := by decide +kernel
theorem dX11_issueOrder_39 : decode cX11_issueOrder 39 = .ok (.aload_n 0, 1) := by decide +kernel
theorem dX11_issueOrder_40 : decode cX11_issueOrder 40 = .ok (.getfield 13, 3) := by decide +kernel
theorem dX11_issueOrder_43 : decode cX11_issueOrder 43 = .ok (.iconst 0, 1) := by decide +kernel
theorem dX11_issueOrder_44 : decode cX11_issueOrder 44 = .ok (.iaload, 1) := by decide +kernel
theorem dX11_issueOrder_45 : decode cX11_issueOrder 45 = .ok (.invokevirtual 105, 3) := by decide +kernel
theorem dX11_issueOrder_48 : decode cX11_issueOrder 48 = .ok (.ifCond .eq 15, 3) := by decide +kernel
theorem dX11_issueOrder_51 : decode cX11_issueOrder 51 = .ok (.aload_n 0, 1) := by decide +kernel
theorem dX11_issueOrder_52 : decode cX11_issueOrder 52 = .ok (.iload_n 3, 1) := by decide +kernel
theorem dX11_issueOrder_53 : decode cX11_issueOrder 53 = .ok (.iload_n 1, 1) := by decide +kernel
theorem dX11_issueOrder_54 : decode cX11_issueOrder 54 = .ok (.invokevirtual 301, 3) := by decide +kernel
theorem dX11_issueOrder_57 : decode cX11_issueOrder 57 = .ok (.iload_n 2, 1) := by decide +kernel
theorem dX11_issueOrder_58 : decode cX11_issueOrder 58 = .ok (.if_icmp .ne 5, 3) := by decide +kernel
theorem dX11_issueOrder_61 : decode cX11_issueOrder 61 = .ok (.iload_n 3, 1) := by decide +kernel
theorem dX11_issueOrder_62 : decode cX11_issueOrder 62 = .ok (.ireturn, 1) := by decide +kernel
theorem dX11_issueOrder_63 : decode cX11_issueOrder 63 = .ok (.iinc 3 1, 3) := by decide +kernel
theorem dX11_issueOrder_66 : decode cX11_issueOrder 66 = .ok (.goto (-40), 3) := by decide +kernel
theorem dX11_issueOrder_69 : decode cX11_issueOrder 69 = .ok (.iconst (-1), 1) := by decide +kernel
theorem dX11_issueOrder_70 : decode cX11_issueOrder 70 = .ok (.ireturn, 1) := by decide +kernel
theorem dX11_costOfIssue_0 : decode cX11_costOfIssue 0 = .ok (.aload_n 0, 1) := by decide +kernel
theorem dX11_costOfIssue_1 : decode cX11_costOfIssue 1 = .ok (.aload_n 0, 1) := by decide +kernel
theorem dX11_costOfIssue_2 : decode cX11_costOfIssue 2 = .ok (.iload_n 1, 1) := by decide +kernel
theorem dX11_costOfIssue_3 : decode cX11_costOfIssue 3 = .ok (.invokevirtual 283, 3) := by decide +kernel
theorem dX11_costOfIssue_6 : decode cX11_costOfIssue 6 = .ok (.ifCond .ne 7, 3) := by decide +kernel
theorem dX11_costOfIssue_9 : decode cX11_costOfIssue 9 = .ok (.iconst 1, 1) := by decide +kernel
theorem dX11_costOfIssue_10 : decode cX11_costOfIssue 10 = .ok (.goto 4, 3) := by decide +kernel
theorem dX11_costOfIssue_13 : decode cX11_costOfIssue 13 = .ok (.iconst 0, 1) := by decide +kernel
theorem dX11_costOfIssue_14 : decode cX11_costOfIssue 14 = .ok (.iload_n 2, 1) := by decide +kernel
theorem dX11_costOfIssue_15 : decode cX11_costOfIssue 15 = .ok (.iconst 1, 1) := by decide +kernel
theorem dX11_costOfIssue_16 : decode cX11_costOfIssue 16 = .ok (.sipush 9999, 3) := by decide +kernel
theorem dX11_costOfIssue_19 : decode cX11_costOfIssue 19 = .ok (.invokestatic 75, 3) := by decide +kernel
theorem dX11_costOfIssue_22 : decode cX11_costOfIssue 22 = .ok (.ifCond .ne 7, 3) := by decide +kernel
theorem dX11_costOfIssue_25 : decode cX11_costOfIssue 25 = .ok (.iconst 1, 1) := by decide +kernel
theorem dX11_costOfIssue_26 : decode cX11_costOfIssue 26 = .ok (.goto 4, 3) := by decide +kernel
theorem dX11_costOfIssue_29 : decode cX11_costOfIssue 29 = .ok (.iconst 0, 1) := by decide +kernel
theorem dX11_costOfIssue_30 : decode cX11_costOfIssue 30 = .ok (.iconst 0, 1) := by decide +kernel
theorem dX11_costOfIssue_31 : decode cX11_costOfIssue 31 = .ok (.invokevirtual 143, 3) := by decide +kernel
theorem dX11_costOfIssue_34 : decode cX11_costOfIssue 34 = .ok (.ifCond .eq 5, 3) := by decide +kernel
theorem dX11_costOfIssue_37 : decode cX11_costOfIssue 37 = .ok (.iconst 0, 1) := by decide +kernel
theorem dX11_costOfIssue_38 : decode cX11_costOfIssue 38 = .ok (.ireturn, 1) := by decide +kernel
theorem dX11_costOfIssue_39 : decode cX11_costOfIssue 39 = .ok (.aload_n 0, 1) := by decide +kernel
theorem dX11_costOfIssue_40 : decode cX11_costOfIssue 40 = .ok (.iload_n 1, 1) := by decide +kernel
theorem dX11_costOfIssue_41 : decode cX11_costOfIssue 41 = .ok (.iload_n 2, 1) := by decide +kernel
theorem dX11_costOfIssue_42 : decode cX11_costOfIssue 42 = .ok (.invokevirtual 229, 3) := by decide +kernel
theorem dX11_costOfIssue_45 : decode cX11_costOfIssue 45 = .ok (.ifCond .ne 5, 3) := by decide +kernel
theorem dX11_costOfIssue_48 : decode cX11_costOfIssue 48 = .ok (.iconst (-1), 1) := by decide +kernel
theorem dX11_costOfIssue_49 : decode cX11_costOfIssue 49 = .ok (.ireturn, 1) := by decide +kernel
theorem dX11_costOfIssue_50 : decode cX11_costOfIssue 50 = .ok (.aload_n 0, 1) := by decide +kernel
theorem dX11_costOfIssue_51 : decode cX11_costOfIssue 51 = .ok (.iconst 0, 1) := by decide +kernel
theorem dX11_costOfIssue_52 : decode cX11_costOfIssue 52 = .ok (.bipush 9, 2) := by decide +kernel
theorem dX11_costOfIssue_54 : decode cX11_costOfIssue 54 = .ok (.invokevirtual 79, 3) := by decide +kernel
theorem dX11_costOfIssue_57 : decode cX11_costOfIssue 57 = .ok (.aload_n 0, 1) := by decide +kernel
theorem dX11_costOfIssue_58 : decode cX11_costOfIssue 58 = .ok (.iload_n 1, 1) := by decide +kernel
theorem dX11_costOfIssue_59 : decode cX11_costOfIssue 59 = .ok (.iload_n 2, 1) := by decide +kernel
theorem dX11_costOfIssue_60 : decode cX11_costOfIssue 60 = .ok (.aload_n 0, 1) := by decide +kernel
theorem dX11_costOfIssue_61 : decode cX11_costOfIssue 61 = .ok (.getfield 13, 3) := by decide +kernel
theorem dX11_costOfIssue_64 : decode cX11_costOfIssue 64 = .ok (.iconst 0, 1) := by decide +kernel
theorem dX11_costOfIssue_65 : decode cX11_costOfIssue 65 = .ok (.iaload, 1) := by decide +kernel
theorem dX11_costOfIssue_66 : decode cX11_costOfIssue 66 = .ok (.invokevirtual 244, 3) := by decide +kernel
theorem dX11_costOfIssue_69 : decode cX11_costOfIssue 69 = .ok (.istore_n 3, 1) := by decide +kernel
theorem dX11_costOfIssue_70 : decode cX11_costOfIssue 70 = .ok (.aload_n 0, 1) := by decide +kernel
theorem dX11_costOfIssue_71 : decode cX11_costOfIssue 71 = .ok (.bipush 9, 2) := by decide +kernel
theorem dX11_costOfIssue_73 : decode cX11_costOfIssue 73 = .ok (.iconst 0, 1) := by decide +kernel
theorem dX11_costOfIssue_74 : decode cX11_costOfIssue 74 = .ok (.invokevirtual 79, 3) := by decide +kernel
theorem dX11_costOfIssue_77 : decode cX11_costOfIssue 77 = .ok (.iload_n 3, 1) := by decide +kernel
theorem dX11_costOfIssue_78 : decode cX11_costOfIssue 78 = .ok (.ireturn, 1) := by decide +kernel
theorem dX11_reservationCount_0 : decode cX11_reservationCount 0 = .ok (.aload_n 0, 1) := by decide +kernel
theorem dX11_reservationCount_1 : decode cX11_reservationCount 1 = .ok (.aload_n 0, 1) := by decide +kernel
theorem dX11_reservationCount_2 : decode cX11_reservationCount 2 = .ok (.getfield 13, 3) := by decide +kernel
theorem dX11_reservationCount_5 : decode cX11_reservationCount 5 = .ok (.iconst 3, 1) := by decide +kernel
theorem dX11_reservationCount_6 : decode cX11_reservationCount 6 = .ok (.iaload, 1) := by decide +kernel
theorem dX11_reservationCount_7 : decode cX11_reservationCount 7 = .ok (.invokevirtual 280, 3) := by decide +kernel
theorem dX11_reservationCount_10 : decode cX11_reservationCount 10 = .ok (.ireturn, 1) := by decide +kernel
theorem dX11_reservationField_0 : decode cX11_reservationField 0 = .ok (.aload_n 0, 1) := by decide +kernel
theorem dX11_reservationField_1 : decode cX11_reservationField 1 = .ok (.aload_n 0, 1) := by decide +kernel
theorem dX11_reservationField_2 : decode cX11_reservationField 2 = .ok (.iload_n 1, 1) := by decide +kernel
theorem dX11_reservationField_3 : decode cX11_reservationField 3 = .ok (.invokevirtual 235, 3) := by decide +kernel
theorem dX11_reservationField_6 : decode cX11_reservationField 6 = .ok (.ifCond .ne 7, 3) := by decide +kernel
theorem dX11_reservationField_9 : decode cX11_reservationField 9 = .ok (.iconst 1, 1) := by decide +kernel
theorem dX11_reservationField_10 : decode cX11_reservationField 10 = .ok (.goto 4, 3) := by decide +kernel
theorem dX11_reservationField_13 : decode cX11_reservationField 13 = .ok (.iconst 0, 1) := by decide +kernel
theorem dX11_reservationField_14 : decode cX11_reservationField 14 = .ok (.iconst 0, 1) := by decide +kernel
theorem dX11_reservationField_15 : decode cX11_reservationField 15 = .ok (.iconst 0, 1) := by decide +kernel
theorem dX11_reservationField_16 : decode cX11_reservationField 16 = .ok (.invokevirtual 143, 3) := by decide +kernel
theorem dX11_reservationField_19 : decode cX11_reservationField 19 = .ok (.ifCond .eq 5, 3) := by decide +kernel
theorem dX11_reservationField_22 : decode cX11_reservationField 22 = .ok (.iconst 0, 1) := by decide +kernel
theorem dX11_reservationField_23 : decode cX11_reservationField 23 = .ok (.ireturn, 1) := by decide +kernel
theorem dX11_reservationField_24 : decode cX11_reservationField 24 = .ok (.aload_n 0, 1) := by decide +kernel
theorem dX11_reservationField_25 : decode cX11_reservationField 25 = .ok (.iload_n 1, 1) := by decide +kernel
theorem dX11_reservationField_26 : decode cX11_reservationField 26 = .ok (.iload_n 2, 1) := by decide +kernel
theorem dX11_reservationField_27 : decode cX11_reservationField 27 = .ok (.invokevirtual 83, 3) := by decide +kernel
theorem dX11_reservationField_30 : decode cX11_reservationField 30 = .ok (.ireturn, 1) := by decide +kernel
theorem dX11_reservedProduct_0 : decode cX11_reservedProduct 0 = .ok (.aload_n 0, 1) := by decide +kernel
theorem dX11_reservedProduct_1 : decode cX11_reservedProduct 1 = .ok (.iload_n 1, 1) := by decide +kernel
theorem dX11_reservedProduct_2 : decode cX11_reservedProduct 2 = .ok (.iconst 0, 1) := by decide +kernel
theorem dX11_reservedProduct_3 : decode cX11_reservedProduct 3 = .ok (.invokevirtual 304, 3) := by decide +kernel
theorem dX11_reservedProduct_6 : decode cX11_reservedProduct 6 = .ok (.ireturn, 1) := by decide +kernel
theorem dX11_reservedQuantity_0 : decode cX11_reservedQuantity 0 = .ok (.aload_n 0, 1) := by decide +kernel
theorem dX11_reservedQuantity_1 : decode cX11_reservedQuantity 1 = .ok (.iload_n 1, 1) := by decide +kernel
theorem dX11_reservedQuantity_2 : decode cX11_reservedQuantity 2 = .ok (.iconst 1, 1) := by decide +kernel
theorem dX11_reservedQuantity_3 : decode cX11_reservedQuantity 3 = .ok (.invokevirtual 304, 3) := by decide +kernel
theorem dX11_reservedQuantity_6 : decode cX11_reservedQuantity 6 = .ok (.ireturn, 1) := by decide +kernel
theorem dX11_isOpen_0 : decode cX11_isOpen 0 = .ok (.aload_n 0, 1) := by decide +kernel
theorem dX11_isOpen_1 : decode cX11_isOpen 1 = .ok (.aload_n 0, 1) := by decide +kernel
theorem dX11_isOpen_2 : decode cX11_isOpen 2 = .ok (.iload_n 1, 1) := by decide +kernel
theorem dX11_isOpen_3 : decode cX11_isOpen 3 = .ok (.invokevirtual 235, 3) := by decide +kernel
theorem dX11_isOpen_6 : decode cX11_isOpen 6 = .ok (.ifCond .ne 7, 3) := by decide +kernel
theorem dX11_isOpen_9 : decode cX11_isOpen 9 = .ok (.iconst 1, 1) := by decide +kernel
theorem dX11_isOpen_10 : decode cX11_isOpen 10 = .ok (.goto 4, 3) := by decide +kernel
theorem dX11_isOpen_13 : decode cX11_isOpen 13 = .ok (.iconst 0, 1) := by decide +kernel
theorem dX11_isOpen_14 : decode cX11_isOpen 14 = .ok (.iconst 0, 1) := by decide +kernel
theorem dX11_isOpen_15 : decode cX11_isOpen 15 = .ok (.iconst 0, 1) := by decide +kernel
theorem dX11_isOpen_16 : decode cX11_isOpen 16 = .ok (.invokevirtual 143, 3) := by decide +kernel
theorem dX11_isOpen_19 : decode cX11_isOpen 19 = .ok (.ifCond .eq 5, 3) := by decide +kernel
theorem dX11_isOpen_22 : decode cX11_isOpen 22 = .ok (.iconst 0, 1) := by decide +kernel
theorem dX11_isOpen_23 : decode cX11_isOpen 23 = .ok (.ireturn, 1) := by decide +kernel
theorem dX11_isOpen_24 : decode cX11_isOpen 24 = .ok (.aload_n 0, 1) := by decide +kernel
theorem dX11_isOpen_25 : decode cX11_isOpen 25 = .ok (.iload_n 1, 1) := by decide +kernel
theorem dX11_isOpen_26 : decode cX11_isOpen 26 = .ok (.invokevirtual 87, 3) := by decide +kernel
theorem dX11_isOpen_29 : decode cX11_isOpen 29 = .ok (.ireturn, 1) := by decide +kernel
theorem dX11_missing_0 : decode cX11_missing 0 = .ok (.aload_n 0, 1) := by decide +kernel
theorem dX11_missing_1 : decode cX11_missing 1 = .ok (.aload_n 0, 1) := by decide +kernel
theorem dX11_missing_2 : decode cX11_missing 2 = .ok (.iload_n 1, 1) := by decide +kernel
theorem dX11_missing_3 : decode cX11_missing 3 = .ok (.invokevirtual 235, 3) := by decide +kernel
theorem dX11_missing_6 : decode cX11_missing 6 = .ok (.ifCond .ne 7, 3) := by decide +kernel
theorem dX11_missing_9 : decode cX11_missing 9 = .ok (.iconst 1, 1) := by decide +kernel
theorem dX11_missing_10 : decode cX11_missing 10 = .ok (.goto 4, 3) := by decide +kernel
theorem dX11_missing_13 : decode cX11_missing 13 = .ok (.iconst 0, 1) := by decide +kernel
theorem dX11_missing_14 : decode cX11_missing 14 = .ok (.iconst 0, 1) := by decide +kernel
theorem dX11_missing_15 : decode cX11_missing 15 = .ok (.iconst 0, 1) := by decide +kernel
theorem dX11_missing_16 : decode cX11_missing 16 = .ok (.invokevirtual 143, 3) := by decide +kernel
theorem dX11_missing_19 : decode cX11_missing 19 = .ok (.ifCond .eq 5, 3) := by decide +kernel
theorem dX11_missing_22 : decode cX11_missing 22 = .ok (.iconst 0, 1) := by decide +kernel
theorem dX11_missing_23 : decode cX11_missing 23 = .ok (.ireturn, 1) := by decide +kernel
theorem dX11_missing_24 : decode cX11_missing 24 = .ok (.aload_n 0, 1) := by decide +kernel
theorem dX11_missing_25 : decode cX11_missing 25 = .ok (.iload_n 1, 1) := by decide +kernel
theorem dX11_missing_26 : decode cX11_missing 26 = .ok (.invokevirtual 133, 3) := by decide +kernel
theorem dX11_missing_29 : decode cX11_missing 29 = .ok (.ireturn, 1) := by decide +kernel
theorem dX11_allocation_0 : decode cX11_allocation 0 = .ok (.aload_n 0, 1) := by decide +kernel
theorem dX11_allocation_1 : decode cX11_allocation 1 = .ok (.aload_n 0, 1) := by decide +kernel
theorem dX11_allocation_2 : decode cX11_allocation 2 = .ok (.iload_n 1, 1) := by decide +kernel
theorem dX11_allocation_3 : decode cX11_allocation 3 = .ok (.invokevirtual 235, 3) := by decide +kernel
theorem dX11_allocation_6 : decode cX11_allocation 6 = .ok (.ifCond .eq 11, 3) := by decide +kernel
theorem dX11_allocation_9 : decode cX11_allocation 9 = .ok (.aload_n 0, 1) := by decide +kernel
theorem dX11_allocation_10 : decode cX11_allocation 10 = .ok (.iload_n 2, 1) := by decide +kernel
theorem dX11_allocation_11 : decode cX11_allocation 11 = .ok (.invokevirtual 241, 3) := by decide +kernel
theorem dX11_allocation_14 : decode cX11_allocation 14 = .ok (.ifCond .ne 7, 3) := by decide +kernel
theorem dX11_allocation_17 : decode cX11_allocation 17 = .ok (.iconst 1, 1) := by decide +kernel
theorem dX11_allocation_18 : decode cX11_allocation 18 = .ok (.goto 4, 3) := by decide +kernel
theorem dX11_allocation_21 : decode cX11_allocation 21 = .ok (.iconst 0, 1) := by decide +kernel
theorem dX11_allocation_22 : decode cX11_allocation 22 = .ok (.iconst 0, 1) := by decide +kernel
theorem dX11_allocation_23 : decode cX11_allocation 23 = .ok (.iconst 0, 1) := by decide +kernel
theorem dX11_allocation_24 : decode cX11_allocation 24 = .ok (.invokevirtual 143, 3) := by decide +kernel
theorem dX11_allocation_27 : decode cX11_allocation 27 = .ok (.ifCond .eq 5, 3) := by decide +kernel
theorem dX11_allocation_30 : decode cX11_allocation 30 = .ok (.iconst 0, 1) := by decide +kernel
theorem dX11_allocation_31 : decode cX11_allocation 31 = .ok (.ireturn, 1) := by decide +kernel
theorem dX11_allocation_32 : decode cX11_allocation 32 = .ok (.aload_n 0, 1) := by decide +kernel
theorem dX11_allocation_33 : decode cX11_allocation 33 = .ok (.iload_n 1, 1) := by decide +kernel
theorem dX11_allocation_34 : decode cX11_allocation 34 = .ok (.iconst 4, 1) := by decide +kernel
theorem dX11_allocation_35 : decode cX11_allocation 35 = .ok (.iload_n 2, 1) := by decide +kernel
theorem dX11_allocation_36 : decode cX11_allocation 36 = .ok (.iadd, 1) := by decide +kernel
theorem dX11_allocation_37 : decode cX11_allocation 37 = .ok (.invokevirtual 83, 3) := by decide +kernel
theorem dX11_allocation_40 : decode cX11_allocation 40 = .ok (.ireturn, 1) := by decide +kernel
theorem dX11_whyNotShipped_0 : decode cX11_whyNotShipped 0 = .ok (.aload_n 0, 1) := by decide +kernel
theorem dX11_whyNotShipped_1 : decode cX11_whyNotShipped 1 = .ok (.aload_n 0, 1) := by decide +kernel
theorem dX11_whyNotShipped_2 : decode cX11_whyNotShipped 2 = .ok (.iload_n 1, 1) := by decide +kernel
theorem dX11_whyNotShipped_3 : decode cX11_whyNotShipped 3 = .ok (.invokevirtual 235, 3) := by decide +kernel
theorem dX11_whyNotShipped_6 : decode cX11_whyNotShipped 6 = .ok (.ifCond .ne 7, 3) := by decide +kernel
theorem dX11_whyNotShipped_9 : decode cX11_whyNotShipped 9 = .ok (.iconst 1, 1) := by decide +kernel
theorem dX11_whyNotShipped_10 : decode cX11_whyNotShipped 10 = .ok (.goto 4, 3) := by decide +kernel
theorem dX11_whyNotShipped_13 : decode cX11_whyNotShipped 13 = .ok (.iconst 0, 1) := by decide +kernel
theorem dX11_whyNotShipped_14 : decode cX11_whyNotShipped 14 = .ok (.iconst 0, 1) := by decide +kernel
theorem dX11_whyNotShipped_15 : decode cX11_whyNotShipped 15 = .ok (.iconst 0, 1) := by decide +kernel
theorem dX11_whyNotShipped_16 : decode cX11_whyNotShipped 16 = .ok (.invokevirtual 143, 3) := by decide +kernel
theorem dX11_whyNotShipped_19 : decode cX11_whyNotShipped 19 = .ok (.ifCond .eq 5, 3) := by decide +kernel
theorem dX11_whyNotShipped_22 : decode cX11_whyNotShipped 22 = .ok (.iconst 0, 1) := by decide +kernel
theorem dX11_whyNotShipped_23 : decode cX11_whyNotShipped 23 = .ok (.ireturn, 1) := by decide +kernel
theorem dX11_whyNotShipped_24 : decode cX11_whyNotShipped 24 = .ok (.aload_n 0, 1) := by decide +kernel
theorem dX11_whyNotShipped_25 : decode cX11_whyNotShipped 25 = .ok (.iload_n 1, 1) := by decide +kernel
theorem dX11_whyNotShipped_26 : decode cX11_whyNotShipped 26 = .ok (.invokevirtual 238, 3) := by decide +kernel
theorem dX11_whyNotShipped_29 : decode cX11_whyNotShipped 29 = .ok (.ireturn, 1) := by decide +kernel
theorem dX11_isEndangered_0 : decode cX11_isEndangered 0 = .ok (.aload_n 0, 1) := by decide +kernel
theorem dX11_isEndangered_1 : decode cX11_isEndangered 1 = .ok (.iload_n 1, 1) := by decide +kernel
theorem dX11_isEndangered_2 : decode cX11_isEndangered 2 = .ok (.invokevirtual 87, 3) := by decide +kernel
theorem dX11_isEndangered_5 : decode cX11_isEndangered 5 = .ok (.ifCond .ne 5, 3) := by decide +kernel
theorem dX11_isEndangered_8 : decode cX11_isEndangered 8 = .ok (.iconst 0, 1) := by decide +kernel
theorem dX11_isEndangered_9 : decode cX11_isEndangered 9 = .ok (.ireturn, 1) := by decide +kernel
theorem dX11_isEndangered_10 : decode cX11_isEndangered 10 = .ok (.iconst 0, 1) := by decide +kernel
theorem dX11_isEndangered_11 : decode cX11_isEndangered 11 = .ok (.istore_n 2, 1) := by decide +kernel
theorem dX11_isEndangered_12 : decode cX11_isEndangered 12 = .ok (.iload_n 2, 1) := by decide +kernel
theorem dX11_isEndangered_13 : decode cX11_isEndangered 13 = .ok (.aload_n 0, 1) := by decide +kernel
theorem dX11_isEndangered_14 : decode cX11_isEndangered 14 = .ok (.getfield 13, 3) := by decide +kernel
theorem dX11_isEndangered_17 : decode cX11_isEndangered 17 = .ok (.iconst 2, 1) := by decide +kernel
theorem dX11_isEndangered_18 : decode cX11_isEndangered 18 = .ok (.iaload, 1) := by decide +kernel
theorem dX11_isEndangered_19 : decode cX11_isEndangered 19 = .ok (.if_icmp .ge 48, 3) := by decide +kernel
theorem dX11_isEndangered_22 : decode cX11_isEndangered 22 = .ok (.aload_n 0, 1) := by decide +kernel
theorem dX11_isEndangered_23 : decode cX11_isEndangered 23 = .ok (.iload_n 1, 1) := by decide +kernel
theorem dX11_isEndangered_24 : decode cX11_isEndangered 24 = .ok (.iconst 4, 1) := by decide +kernel
theorem dX11_isEndangered_25 : decode cX11_isEndangered 25 = .ok (.iload_n 2, 1) := by decide +kernel
theorem dX11_isEndangered_26 : decode cX11_isEndangered 26 = .ok (.iadd, 1) := by decide +kernel
theorem dX11_isEndangered_27 : decode cX11_isEndangered 27 = .ok (.invokevirtual 83, 3) := by decide +kernel
theorem dX11_isEndangered_30 : decode cX11_isEndangered 30 = .ok (.ifCond .ne 6, 3) := by decide +kernel
theorem dX11_isEndangered_33 : decode cX11_isEndangered 33 = .ok (.goto 28, 3) := by decide +kernel
theorem dX11_isEndangered_36 : decode cX11_isEndangered 36 = .ok (.aload_n 0, 1) := by decide +kernel
theorem dX11_isEndangered_37 : decode cX11_isEndangered 37 = .ok (.iload_n 2, 1) := by decide +kernel
theorem dX11_isEndangered_38 : decode cX11_isEndangered 38 = .ok (.invokevirtual 124, 3) := by decide +kernel
theorem dX11_isEndangered_41 : decode cX11_isEndangered 41 = .ok (.ifCond .ne 18, 3) := by decide +kernel
theorem dX11_isEndangered_44 : decode cX11_isEndangered 44 = .ok (.aload_n 0, 1) := by decide +kernel
theorem dX11_isEndangered_45 : decode cX11_isEndangered 45 = .ok (.iload_n 2, 1) := by decide +kernel
theorem dX11_isEndangered_46 : decode cX11_isEndangered 46 = .ok (.iconst 2, 1) := by decide +kernel
theorem dX11_isEndangered_47 : decode cX11_isEndangered 47 = .ok (.invokevirtual 91, 3) := by decide +kernel
theorem dX11_isEndangered_50 : decode cX11_isEndangered 50 = .ok (.aload_n 0, 1) := by decide +kernel
theorem dX11_isEndangered_51 : decode cX11_isEndangered 51 = .ok (.iload_n 1, 1) := by decide +kernel
theorem dX11_isEndangered_52 : decode cX11_isEndangered 52 = .ok (.iconst 2, 1) := by decide +kernel
theorem dX11_isEndangered_53 : decode cX11_isEndangered 53 = .ok (.invokevirtual 83, 3) := by decide +kernel
theorem dX11_isEndangered_56 : decode cX11_isEndangered 56 = .ok (.if_icmp .ge 5, 3) := by decide +kernel
theorem dX11_isEndangered_59 : decode cX11_isEndangered 59 = .ok (.iconst 1, 1) := by decide +kernel
theorem dX11_isEndangered_60 : decode cX11_isEndangered 60 = .ok (.ireturn, 1) := by decide +kernel
theorem dX11_isEndangered_61 : decode cX11_isEndangered 61 = .ok (.iinc 2 1, 3) := by decide +kernel
theorem dX11_isEndangered_64 : decode cX11_isEndangered 64 = .ok (.goto (-52), 3) := by decide +kernel
theorem dX11_isEndangered_67 : decode cX11_isEndangered 67 = .ok (.iconst 0, 1) := by decide +kernel
theorem dX11_isEndangered_68 : decode cX11_isEndangered 68 = .ok (.ireturn, 1) := by decide +kernel
theorem dX11_endangeredReservations_0 : decode cX11_endangeredReservations 0 = .ok (.aload_n 0, 1) := by decide +kernel
theorem dX11_endangeredReservations_1 : decode cX11_endangeredReservations 1 = .ok (.iconst 0, 1) := by decide +kernel
theorem dX11_endangeredReservations_2 : decode cX11_endangeredReservations 2 = .ok (.putfield 1, 3) := by decide +kernel
theorem dX11_endangeredReservations_5 : decode cX11_endangeredReservations 5 = .ok (.iconst 0, 1) := by decide +kernel
theorem dX11_endangeredReservations_6 : decode cX11_endangeredReservations 6 = .ok (.istore_n 1, 1) := by decide +kernel
theorem dX11_endangeredReservations_7 : decode cX11_endangeredReservations 7 = .ok (.iconst 0, 1) := by decide +kernel
theorem dX11_endangeredReservations_8 : decode cX11_endangeredReservations 8 = .ok (.istore_n 2, 1) := by decide +kernel
theorem dX11_endangeredReservations_9 : decode cX11_endangeredReservations 9 = .ok (.iload_n 2, 1) := by decide +kernel
theorem dX11_endangeredReservations_10 : decode cX11_endangeredReservations 10 = .ok (.aload_n 0, 1) := by decide +kernel
theorem dX11_endangeredReservations_11 : decode cX11_endangeredReservations 11 = .ok (.getfield 13, 3) := by decide +kernel
theorem dX11_endangeredReservations_14 : decode cX11_endangeredReservations 14 = .ok (.iconst 3, 1) := by decide +kernel
theorem dX11_endangeredReservations_15 : decode cX11_endangeredReservations 15 = .ok (.iaload, 1) := by decide +kernel
theorem dX11_endangeredReservations_16 : decode cX11_endangeredReservations 16 = .ok (.if_icmp .ge 25, 3) := by decide +kernel
theorem dX11_endangeredReservations_19 : decode cX11_endangeredReservations 19 = .ok (.iload_n 1, 1) := by decide +kernel
theorem dX11_endangeredReservations_20 : decode cX11_endangeredReservations 20 = .ok (.aload_n 0, 1) := by decide +kernel
theorem dX11_endangeredReservations_21 : decode cX11_endangeredReservations 21 = .ok (.iload_n 2, 1) := by decide +kernel
theorem dX11_endangeredReservations_22 : decode cX11_endangeredReservations 22 = .ok (.invokevirtual 307, 3) := by decide +kernel
theorem dX11_endangeredReservations_25 : decode cX11_endangeredReservations 25 = .ok (.ifCond .eq 7, 3) := by decide +kernel
theorem dX11_endangeredReservations_28 : decode cX11_endangeredReservations 28 = .ok (.iconst 1, 1) := by decide +kernel
theorem dX11_endangeredReservations_29 : decode cX11_endangeredReservations 29 = .ok (.goto 4, 3) := by decide +kernel
theorem dX11_endangeredReservations_32 : decode cX11_endangeredReservations 32 = .ok (.iconst 0, 1) := by decide +kernel
theorem dX11_endangeredReservations_33 : decode cX11_endangeredReservations 33 = .ok (.iadd, 1) := by decide +kernel
theorem dX11_endangeredReservations_34 : decode cX11_endangeredReservations 34 = .ok (.istore_n 1, 1) := by decide +kernel
theorem dX11_endangeredReservations_35 : decode cX11_endangeredReservations 35 = .ok (.iinc 2 1, 3) := by decide +kernel
theorem dX11_endangeredReservations_38 : decode cX11_endangeredReservations 38 = .ok (.goto (-29), 3) := by decide +kernel
theorem dX11_endangeredReservations_41 : decode cX11_endangeredReservations 41 = .ok (.iload_n 1, 1) := by decide +kernel
theorem dX11_endangeredReservations_42 : decode cX11_endangeredReservations 42 = .ok (.ireturn, 1) := by decide +kernel
theorem dX11_receivedUnits_0 : decode cX11_receivedUnits 0 = .ok (.aload_n 0, 1) := by decide +kernel
theorem dX11_receivedUnits_1 : decode cX11_receivedUnits 1 = .ok (.iload_n 1, 1) := by decide +kernel
theorem dX11_receivedUnits_2 : decode cX11_receivedUnits 2 = .ok (.bipush 8, 2) := by decide +kernel
theorem dX11_receivedUnits_4 : decode cX11_receivedUnits 4 = .ok (.invokevirtual 286, 3) := by decide +kernel
theorem dX11_receivedUnits_7 : decode cX11_receivedUnits 7 = .ok (.ireturn, 1) := by decide +kernel
theorem dX11_deliveredUnits_0 : decode cX11_deliveredUnits 0 = .ok (.aload_n 0, 1) := by decide +kernel
theorem dX11_deliveredUnits_1 : decode cX11_deliveredUnits 1 = .ok (.iload_n 1, 1) := by decide +kernel
theorem dX11_deliveredUnits_2 : decode cX11_deliveredUnits 2 = .ok (.bipush 9, 2) := by decide +kernel
theorem dX11_deliveredUnits_4 : decode cX11_deliveredUnits 4 = .ok (.invokevirtual 286, 3) := by decide +kernel
theorem dX11_deliveredUnits_7 : decode cX11_deliveredUnits 7 = .ok (.ireturn, 1) := by decide +kernel
theorem dX11_writtenOffUnits_0 : decode cX11_writtenOffUnits 0 = .ok (.aload_n 0, 1) := by decide +kernel
theorem dX11_writtenOffUnits_1 : decode cX11_writtenOffUnits 1 = .ok (.iload_n 1, 1) := by decide +kernel
theorem dX11_writtenOffUnits_2 : decode cX11_writtenOffUnits 2 = .ok (.bipush 10, 2) := by decide +kernel
theorem dX11_writtenOffUnits_4 : decode cX11_writtenOffUnits 4 = .ok (.invokevirtual 286, 3) := by decide +kernel
theorem dX11_writtenOffUnits_7 : decode cX11_writtenOffUnits 7 = .ok (.ireturn, 1) := by decide +kernel
theorem dX11_adjustment_0 : decode cX11_adjustment 0 = .ok (.aload_n 0, 1) := by decide +kernel
theorem dX11_adjustment_1 : decode cX11_adjustment 1 = .ok (.iload_n 1, 1) := by decide +kernel
theorem dX11_adjustment_2 : decode cX11_adjustment 2 = .ok (.bipush 11, 2) := by decide +kernel
theorem dX11_adjustment_4 : decode cX11_adjustment 4 = .ok (.invokevirtual 286, 3) := by decide +kernel
theorem dX11_adjustment_7 : decode cX11_adjustment 7 = .ok (.ireturn, 1) := by decide +kernel
theorem dX11_meanCost_0 : decode cX11_meanCost 0 = .ok (.aload_n 0, 1) := by decide +kernel
theorem dX11_meanCost_1 : decode cX11_meanCost 1 = .ok (.aload_n 0, 1) := by decide +kernel
theorem dX11_meanCost_2 : decode cX11_meanCost 2 = .ok (.iload_n 1, 1) := by decide +kernel
theorem dX11_meanCost_3 : decode cX11_meanCost 3 = .ok (.invokevirtual 283, 3) := by decide +kernel
theorem dX11_meanCost_6 : decode cX11_meanCost 6 = .ok (.ifCond .ne 7, 3) := by decide +kernel
theorem dX11_meanCost_9 : decode cX11_meanCost 9 = .ok (.iconst 1, 1) := by decide +kernel
theorem dX11_meanCost_10 : decode cX11_meanCost 10 = .ok (.goto 4, 3) := by decide +kernel
theorem dX11_meanCost_13 : decode cX11_meanCost 13 = .ok (.iconst 0, 1) := by decide +kernel
theorem dX11_meanCost_14 : decode cX11_meanCost 14 = .ok (.iconst 0, 1) := by decide +kernel
theorem dX11_meanCost_15 : decode cX11_meanCost 15 = .ok (.iconst 0, 1) := by decide +kernel
theorem dX11_meanCost_16 : decode cX11_meanCost 16 = .ok (.invokevirtual 143, 3) := by decide +kernel
theorem dX11_meanCost_19 : decode cX11_meanCost 19 = .ok (.ifCond .eq 5, 3) := by decide +kernel
theorem dX11_meanCost_22 : decode cX11_meanCost 22 = .ok (.dconst 0, 1) := by decide +kernel
theorem dX11_meanCost_23 : decode cX11_meanCost 23 = .ok (.dreturn, 1) := by decide +kernel
theorem dX11_meanCost_24 : decode cX11_meanCost 24 = .ok (.aload_n 0, 1) := by decide +kernel
theorem dX11_meanCost_25 : decode cX11_meanCost 25 = .ok (.iload_n 1, 1) := by decide +kernel
theorem dX11_meanCost_26 : decode cX11_meanCost 26 = .ok (.invokevirtual 289, 3) := by decide +kernel
theorem dX11_meanCost_29 : decode cX11_meanCost 29 = .ok (.ifCond .ne 7, 3) := by decide +kernel
theorem dX11_meanCost_32 : decode cX11_meanCost 32 = .ok (.dconst 0, 1) := by decide +kernel
theorem dX11_meanCost_33 : decode cX11_meanCost 33 = .ok (.goto 16, 3) := by decide +kernel
theorem dX11_meanCost_36 : decode cX11_meanCost 36 = .ok (.aload_n 0, 1) := by decide +kernel
theorem dX11_meanCost_37 : decode cX11_meanCost 37 = .ok (.iload_n 1, 1) := by decide +kernel
theorem dX11_meanCost_38 : decode cX11_meanCost 38 = .ok (.invokevirtual 292, 3) := by decide +kernel
theorem dX11_meanCost_41 : decode cX11_meanCost 41 = .ok (.i2d, 1) := by decide +kernel
theorem dX11_meanCost_42 : decode cX11_meanCost 42 = .ok (.aload_n 0, 1) := by decide +kernel
theorem dX11_meanCost_43 : decode cX11_meanCost 43 = .ok (.iload_n 1, 1) := by decide +kernel
theorem dX11_meanCost_44 : decode cX11_meanCost 44 = .ok (.invokevirtual 289, 3) := by decide +kernel
theorem dX11_meanCost_47 : decode cX11_meanCost 47 = .ok (.i2d, 1) := by decide +kernel
theorem dX11_meanCost_48 : decode cX11_meanCost 48 = .ok (.ddiv, 1) := by decide +kernel
theorem dX11_meanCost_49 : decode cX11_meanCost 49 = .ok (.dreturn, 1) := by decide +kernel
theorem dX11_wasteShare_0 : decode cX11_wasteShare 0 = .ok (.aload_n 0, 1) := by decide +kernel
theorem dX11_wasteShare_1 : decode cX11_wasteShare 1 = .ok (.aload_n 0, 1) := by decide +kernel
theorem dX11_wasteShare_2 : decode cX11_wasteShare 2 = .ok (.iload_n 1, 1) := by decide +kernel
theorem dX11_wasteShare_3 : decode cX11_wasteShare 3 = .ok (.invokevirtual 283, 3) := by decide +kernel
theorem dX11_wasteShare_6 : decode cX11_wasteShare 6 = .ok (.ifCond .ne 7, 3) := by decide +kernel
theorem dX11_wasteShare_9 : decode cX11_wasteShare 9 = .ok (.iconst 1, 1) := by decide +kernel
theorem dX11_wasteShare_10 : decode cX11_wasteShare 10 = .ok (.goto 4, 3) := by decide +kernel
theorem dX11_wasteShare_13 : decode cX11_wasteShare 13 = .ok (.iconst 0, 1) := by decide +kernel
theorem dX11_wasteShare_14 : decode cX11_wasteShare 14 = .ok (.iconst 0, 1) := by decide +kernel
theorem dX11_wasteShare_15 : decode cX11_wasteShare 15 = .ok (.iconst 0, 1) := by decide +kernel
theorem dX11_wasteShare_16 : decode cX11_wasteShare 16 = .ok (.invokevirtual 143, 3) := by decide +kernel
theorem dX11_wasteShare_19 : decode cX11_wasteShare 19 = .ok (.ifCond .eq 5, 3) := by decide +kernel
theorem dX11_wasteShare_22 : decode cX11_wasteShare 22 = .ok (.fconst 0, 1) := by decide +kernel
theorem dX11_wasteShare_23 : decode cX11_wasteShare 23 = .ok (.freturn, 1) := by decide +kernel
theorem dX11_wasteShare_24 : decode cX11_wasteShare 24 = .ok (.aload_n 0, 1) := by decide +kernel
theorem dX11_wasteShare_25 : decode cX11_wasteShare 25 = .ok (.iload_n 1, 1) := by decide +kernel
theorem dX11_wasteShare_26 : decode cX11_wasteShare 26 = .ok (.bipush 8, 2) := by decide +kernel
theorem dX11_wasteShare_28 : decode cX11_wasteShare 28 = .ok (.invokevirtual 127, 3) := by decide +kernel
theorem dX11_wasteShare_31 : decode cX11_wasteShare 31 = .ok (.istore_n 2, 1) := by decide +kernel
theorem dX11_wasteShare_32 : decode cX11_wasteShare 32 = .ok (.iload_n 2, 1) := by decide +kernel
theorem dX11_wasteShare_33 : decode cX11_wasteShare 33 = .ok (.ifCond .ne 7, 3) := by decide +kernel
theorem dX11_wasteShare_36 : decode cX11_wasteShare 36 = .ok (.fconst 0, 1) := by decide +kernel
theorem dX11_wasteShare_37 : decode cX11_wasteShare 37 = .ok (.goto 14, 3) := by decide +kernel
theorem dX11_wasteShare_40 : decode cX11_wasteShare 40 = .ok (.aload_n 0, 1) := by decide +kernel
theorem dX11_wasteShare_41 : decode cX11_wasteShare 41 = .ok (.iload_n 1, 1) := by decide +kernel
theorem dX11_wasteShare_42 : decode cX11_wasteShare 42 = .ok (.bipush 10, 2) := by decide +kernel
theorem dX11_wasteShare_44 : decode cX11_wasteShare 44 = .ok (.invokevirtual 127, 3) := by decide +kernel
theorem dX11_wasteShare_47 : decode cX11_wasteShare 47 = .ok (.i2f, 1) := by decide +kernel
theorem dX11_wasteShare_48 : decode cX11_wasteShare 48 = .ok (.iload_n 2, 1) := by decide +kernel
theorem dX11_wasteShare_49 : decode cX11_wasteShare 49 = .ok (.i2f, 1) := by decide +kernel
theorem dX11_wasteShare_50 : decode cX11_wasteShare 50 = .ok (.fdiv, 1) := by decide +kernel
theorem dX11_wasteShare_51 : decode cX11_wasteShare 51 = .ok (.freturn, 1) := by decide +kernel
theorem dX11_inconsistencies_0 : decode cX11_inconsistencies 0 = .ok (.aload_n 0, 1) := by decide +kernel
theorem dX11_inconsistencies_1 : decode cX11_inconsistencies 1 = .ok (.iconst 0, 1) := by decide +kernel
theorem dX11_inconsistencies_2 : decode cX11_inconsistencies 2 = .ok (.putfield 1, 3) := by decide +kernel
theorem dX11_inconsistencies_5 : decode cX11_inconsistencies 5 = .ok (.iconst 0, 1) := by decide +kernel
theorem dX11_inconsistencies_6 : decode cX11_inconsistencies 6 = .ok (.istore_n 1, 1) := by decide +kernel
theorem dX11_inconsistencies_7 : decode cX11_inconsistencies 7 = .ok (.iconst 0, 1) := by decide +kernel
theorem dX11_inconsistencies_8 : decode cX11_inconsistencies 8 = .ok (.istore_n 2, 1) := by decide +kernel
theorem dX11_inconsistencies_9 : decode cX11_inconsistencies 9 = .ok (.iload_n 2, 1) := by decide +kernel
theorem dX11_inconsistencies_10 : decode cX11_inconsistencies 10 = .ok (.aload_n 0, 1) := by decide +kernel
theorem dX11_inconsistencies_11 : decode cX11_inconsistencies 11 = .ok (.getfield 13, 3) := by decide +kernel
theorem dX11_inconsistencies_14 : decode cX11_inconsistencies 14 = .ok (.iconst 1, 1) := by decide +kernel
theorem dX11_inconsistencies_15 : decode cX11_inconsistencies 15 = .ok (.iaload, 1) := by decide +kernel
theorem dX11_inconsistencies_16 : decode cX11_inconsistencies 16 = .ok (.if_icmp .ge 58, 3) := by decide +kernel
theorem dX11_inconsistencies_19 : decode cX11_inconsistencies 19 = .ok (.aload_n 0, 1) := by decide +kernel
theorem dX11_inconsistencies_20 : decode cX11_inconsistencies 20 = .ok (.iload_n 2, 1) := by decide +kernel
theorem dX11_inconsistencies_21 : decode cX11_inconsistencies 21 = .ok (.bipush 8, 2) := by decide +kernel
theorem dX11_inconsistencies_23 : decode cX11_inconsistencies 23 = .ok (.invokevirtual 127, 3) := by decide +kernel
theorem dX11_inconsistencies_26 : decode cX11_inconsistencies 26 = .ok (.aload_n 0, 1) := by decide +kernel
theorem dX11_inconsistencies_27 : decode cX11_inconsistencies 27 = .ok (.iload_n 2, 1) := by decide +kernel
theorem dX11_inconsistencies_28 : decode cX11_inconsistencies 28 = .ok (.bipush 9, 2) := by decide +kernel
theorem dX11_inconsistencies_30 : decode cX11_inconsistencies 30 = .ok (.invokevirtual 127, 3) := by decide +kernel
theorem dX11_inconsistencies_33 : decode cX11_inconsistencies 33 = .ok (.isub, 1) := by decide +kernel
theorem dX11_inconsistencies_34 : decode cX11_inconsistencies 34 = .ok (.aload_n 0, 1) := by decide +kernel
theorem dX11_inconsistencies_35 : decode cX11_inconsistencies 35 = .ok (.iload_n 2, 1) := by decide +kernel
theorem dX11_inconsistencies_36 : decode cX11_inconsistencies 36 = .ok (.bipush 10, 2) := by decide +kernel
theorem dX11_inconsistencies_38 : decode cX11_inconsistencies 38 = .ok (.invokevirtual 127, 3) := by decide +kernel
theorem dX11_inconsistencies_41 : decode cX11_inconsistencies 41 = .ok (.isub, 1) := by decide +kernel
theorem dX11_inconsistencies_42 : decode cX11_inconsistencies 42 = .ok (.aload_n 0, 1) := by decide +kernel
theorem dX11_inconsistencies_43 : decode cX11_inconsistencies 43 = .ok (.iload_n 2, 1) := by decide +kernel
theorem dX11_inconsistencies_44 : decode cX11_inconsistencies 44 = .ok (.bipush 11, 2) := by decide +kernel
theorem dX11_inconsistencies_46 : decode cX11_inconsistencies 46 = .ok (.invokevirtual 127, 3) := by decide +kernel
theorem dX11_inconsistencies_49 : decode cX11_inconsistencies 49 = .ok (.iadd, 1) := by decide +kernel
theorem dX11_inconsistencies_50 : decode cX11_inconsistencies 50 = .ok (.istore_n 3, 1) := by decide +kernel
theorem dX11_inconsistencies_51 : decode cX11_inconsistencies 51 = .ok (.iload_n 1, 1) := by decide +kernel
theorem dX11_inconsistencies_52 : decode cX11_inconsistencies 52 = .ok (.iload_n 3, 1) := by decide +kernel
theorem dX11_inconsistencies_53 : decode cX11_inconsistencies 53 = .ok (.aload_n 0, 1) := by decide +kernel
theorem dX11_inconsistencies_54 : decode cX11_inconsistencies 54 = .ok (.iload_n 2, 1) := by decide +kernel
theorem dX11_inconsistencies_55 : decode cX11_inconsistencies 55 = .ok (.invokevirtual 289, 3) := by decide +kernel
theorem dX11_inconsistencies_58 : decode cX11_inconsistencies 58 = .ok (.if_icmp .ne 7, 3) := by decide +kernel
theorem dX11_inconsistencies_61 : decode cX11_inconsistencies 61 = .ok (.iconst 0, 1) := by decide +kernel
theorem dX11_inconsistencies_62 : decode cX11_inconsistencies 62 = .ok (.goto 4, 3) := by decide +kernel
theorem dX11_inconsistencies_65 : decode cX11_inconsistencies 65 = .ok (.iconst 1, 1) := by decide +kernel
theorem dX11_inconsistencies_66 : decode cX11_inconsistencies 66 = .ok (.iadd, 1) := by decide +kernel
theorem dX11_inconsistencies_67 : decode cX11_inconsistencies 67 = .ok (.istore_n 1, 1) := by decide +kernel
theorem dX11_inconsistencies_68 : decode cX11_inconsistencies 68 = .ok (.iinc 2 1, 3) := by decide +kernel
theorem dX11_inconsistencies_71 : decode cX11_inconsistencies 71 = .ok (.goto (-62), 3) := by decide +kernel
theorem dX11_inconsistencies_74 : decode cX11_inconsistencies 74 = .ok (.iconst 0, 1) := by decide +kernel
theorem dX11_inconsistencies_75 : decode cX11_inconsistencies 75 = .ok (.istore_n 2, 1) := by decide +kernel
theorem dX11_inconsistencies_76 : decode cX11_inconsistencies 76 = .ok (.iload_n 2, 1) := by decide +kernel
theorem dX11_inconsistencies_77 : decode cX11_inconsistencies 77 = .ok (.aload_n 0, 1) := by decide +kernel
theorem dX11_inconsistencies_78 : decode cX11_inconsistencies 78 = .ok (.getfield 13, 3) := by decide +kernel
theorem dX11_inconsistencies_81 : decode cX11_inconsistencies 81 = .ok (.iconst 2, 1) := by decide +kernel
theorem dX11_inconsistencies_82 : decode cX11_inconsistencies 82 = .ok (.iaload, 1) := by decide +kernel
theorem dX11_inconsistencies_83 : decode cX11_inconsistencies 83 = .ok (.if_icmp .ge 31, 3) := by decide +kernel
theorem dX11_inconsistencies_86 : decode cX11_inconsistencies 86 = .ok (.iload_n 1, 1) := by decide +kernel
theorem dX11_inconsistencies_87 : decode cX11_inconsistencies 87 = .ok (.aload_n 0, 1) := by decide +kernel
theorem dX11_inconsistencies_88 : decode cX11_inconsistencies 88 = .ok (.iload_n 2, 1) := by decide +kernel
theorem dX11_inconsistencies_89 : decode cX11_inconsistencies 89 = .ok (.invokevirtual 94, 3) := by decide +kernel
theorem dX11_inconsistencies_92 : decode cX11_inconsistencies 92 = .ok (.aload_n 0, 1) := by decide +kernel
theorem dX11_inconsistencies_93 : decode cX11_inconsistencies 93 = .ok (.iload_n 2, 1) := by decide +kernel
theorem dX11_inconsistencies_94 : decode cX11_inconsistencies 94 = .ok (.iconst 1, 1) := by decide +kernel
theorem dX11_inconsistencies_95 : decode cX11_inconsistencies 95 = .ok (.invokevirtual 91, 3) := by decide +kernel
theorem dX11_inconsistencies_98 : decode cX11_inconsistencies 98 = .ok (.if_icmp .le 7, 3) := by decide +kernel
theorem dX11_inconsistencies_101 : decode cX11_inconsistencies 101 = .ok (.iconst 1, 1) := by decide +kernel
theorem dX11_inconsistencies_102 : decode cX11_inconsistencies 102 = .ok (.goto 4, 3) := by decide +kernel
theorem dX11_inconsistencies_105 : decode cX11_inconsistencies 105 = .ok (.iconst 0, 1) := by decide +kernel
theorem dX11_inconsistencies_106 : decode cX11_inconsistencies 106 = .ok (.iadd, 1) := by decide +kernel
theorem dX11_inconsistencies_107 : decode cX11_inconsistencies 107 = .ok (.istore_n 1, 1) := by decide +kernel
theorem dX11_inconsistencies_108 : decode cX11_inconsistencies 108 = .ok (.iinc 2 1, 3) := by decide +kernel
theorem dX11_inconsistencies_111 : decode cX11_inconsistencies 111 = .ok (.goto (-35), 3) := by decide +kernel
theorem dX11_inconsistencies_114 : decode cX11_inconsistencies 114 = .ok (.iload_n 1, 1) := by decide +kernel
theorem dX11_inconsistencies_115 : decode cX11_inconsistencies 115 = .ok (.ireturn, 1) := by decide +kernel
theorem dX11_liveDay_0 : decode cX11_liveDay 0 = .ok (.aload_n 0, 1) := by decide +kernel
theorem dX11_liveDay_1 : decode cX11_liveDay 1 = .ok (.invokevirtual 262, 3) := by decide +kernel
theorem dX11_liveDay_4 : decode cX11_liveDay 4 = .ok (.pop, 1) := by decide +kernel
theorem dX11_liveDay_5 : decode cX11_liveDay 5 = .ok (.aload_n 0, 1) := by decide +kernel
theorem dX11_liveDay_6 : decode cX11_liveDay 6 = .ok (.iload_n 1, 1) := by decide +kernel
theorem dX11_liveDay_7 : decode cX11_liveDay 7 = .ok (.iload_n 2, 1) := by decide +kernel
theorem dX11_liveDay_8 : decode cX11_liveDay 8 = .ok (.invokevirtual 229, 3) := by decide +kernel
theorem dX11_liveDay_11 : decode cX11_liveDay 11 = .ok (.istore_n 3, 1) := by decide +kernel
theorem dX11_liveDay_12 : decode cX11_liveDay 12 = .ok (.aload_n 0, 1) := by decide +kernel
theorem dX11_liveDay_13 : decode cX11_liveDay 13 = .ok (.iload_n 1, 1) := by decide +kernel
theorem dX11_liveDay_14 : decode cX11_liveDay 14 = .ok (.iload_n 2, 1) := by decide +kernel
theorem dX11_liveDay_15 : decode cX11_liveDay 15 = .ok (.aload_n 0, 1) := by decide +kernel
theorem dX11_liveDay_16 : decode cX11_liveDay 16 = .ok (.getfield 13, 3) := by decide +kernel
theorem dX11_liveDay_19 : decode cX11_liveDay 19 = .ok (.iconst 0, 1) := by decide +kernel
theorem dX11_liveDay_20 : decode cX11_liveDay 20 = .ok (.iaload, 1) := by decide +kernel
theorem dX11_liveDay_21 : decode cX11_liveDay 21 = .ok (.invokevirtual 244, 3) := by decide +kernel
theorem dX11_liveDay_24 : decode cX11_liveDay 24 = .ok (.pop, 1) := by decide +kernel
theorem dX11_liveDay_25 : decode cX11_liveDay 25 = .ok (.aload_n 0, 1) := by decide +kernel
theorem dX11_liveDay_26 : decode cX11_liveDay 26 = .ok (.getfield 13, 3) := by decide +kernel
theorem dX11_liveDay_29 : decode cX11_liveDay 29 = .ok (.iconst 0, 1) := by decide +kernel
theorem dX11_liveDay_30 : decode cX11_liveDay 30 = .ok (.dup2, 1) := by decide +kernel
theorem dX11_liveDay_31 : decode cX11_liveDay 31 = .ok (.iaload, 1) := by decide +kernel
theorem dX11_liveDay_32 : decode cX11_liveDay 32 = .ok (.iconst 1, 1) := by decide +kernel
theorem dX11_liveDay_33 : decode cX11_liveDay 33 = .ok (.iadd, 1) := by decide +kernel
theorem dX11_liveDay_34 : decode cX11_liveDay 34 = .ok (.iastore, 1) := by decide +kernel
theorem dX11_liveDay_35 : decode cX11_liveDay 35 = .ok (.iload_n 3, 1) := by decide +kernel
theorem dX11_liveDay_36 : decode cX11_liveDay 36 = .ok (.ireturn, 1) := by decide +kernel
theorem dX11_daysUntilShortage_0 : decode cX11_daysUntilShortage 0 = .ok (.aload_n 0, 1) := by decide +kernel
theorem dX11_daysUntilShortage_1 : decode cX11_daysUntilShortage 1 = .ok (.aload_n 0, 1) := by decide +kernel
theorem dX11_daysUntilShortage_2 : decode cX11_daysUntilShortage 2 = .ok (.iload_n 1, 1) := by decide +kernel
theorem dX11_daysUntilShortage_3 : decode cX11_daysUntilShortage 3 = .ok (.invokevirtual 283, 3) := by decide +kernel
theorem dX11_daysUntilShortage_6 : decode cX11_daysUntilShortage 6 = .ok (.ifCond .ne 7, 3) := by decide +kernel
theorem dX11_daysUntilShortage_9 : decode cX11_daysUntilShortage 9 = .ok (.iconst 1, 1) := by decide +kernel
theorem dX11_daysUntilShortage_10 : decode cX11_daysUntilShortage 10 = .ok (.goto 4, 3) := by decide +kernel
theorem dX11_daysUntilShortage_13 : decode cX11_daysUntilShortage 13 = .ok (.iconst 0, 1) := by decide +kernel
theorem dX11_daysUntilShortage_14 : decode cX11_daysUntilShortage 14 = .ok (.iload_n 2, 1) := by decide +kernel
theorem dX11_daysUntilShortage_15 : decode cX11_daysUntilShortage 15 = .ok (.iconst 1, 1) := by decide +kernel
theorem dX11_daysUntilShortage_16 : decode cX11_daysUntilShortage 16 = .ok (.sipush 999, 3) := by decide +kernel
theorem dX11_daysUntilShortage_19 : decode cX11_daysUntilShortage 19 = .ok (.invokestatic 75, 3) := by decide +kernel
theorem dX11_daysUntilShortage_22 : decode cX11_daysUntilShortage 22 = .ok (.ifCond .ne 7, 3) := by decide +kernel
theorem dX11_daysUntilShortage_25 : decode cX11_daysUntilShortage 25 = .ok (.iconst 1, 1) := by decide +kernel
theorem dX11_daysUntilShortage_26 : decode cX11_daysUntilShortage 26 = .ok (.goto 4, 3) := by decide +kernel
theorem dX11_daysUntilShortage_29 : decode cX11_daysUntilShortage 29 = .ok (.iconst 0, 1) := by decide +kernel
theorem dX11_daysUntilShortage_30 : decode cX11_daysUntilShortage 30 = .ok (.iconst 0, 1) := by decide +kernel
theorem dX11_daysUntilShortage_31 : decode cX11_daysUntilShortage 31 = .ok (.invokevirtual 143, 3) := by decide +kernel
theorem dX11_daysUntilShortage_34 : decode cX11_daysUntilShortage 34 = .ok (.ifCond .eq 5, 3) := by decide +kernel
theorem dX11_daysUntilShortage_37 : decode cX11_daysUntilShortage 37 = .ok (.iconst 0, 1) := by decide +kernel
theorem dX11_daysUntilShortage_38 : decode cX11_daysUntilShortage 38 = .ok (.ireturn, 1) := by decide +kernel
theorem dX11_daysUntilShortage_39 : decode cX11_daysUntilShortage 39 = .ok (.aload_n 0, 1) := by decide +kernel
theorem dX11_daysUntilShortage_40 : decode cX11_daysUntilShortage 40 = .ok (.iconst 0, 1) := by decide +kernel
theorem dX11_daysUntilShortage_41 : decode cX11_daysUntilShortage 41 = .ok (.bipush 9, 2) := by decide +kernel
theorem dX11_daysUntilShortage_43 : decode cX11_daysUntilShortage 43 = .ok (.invokevirtual 79, 3) := by decide +kernel
theorem dX11_daysUntilShortage_46 : decode cX11_daysUntilShortage 46 = .ok (.iconst 0, 1) := by decide +kernel
theorem dX11_daysUntilShortage_47 : decode cX11_daysUntilShortage 47 = .ok (.istore_n 3, 1) := by decide +kernel
theorem dX11_daysUntilShortage_48 : decode cX11_daysUntilShortage 48 = .ok (.iload_n 3, 1) := by decide +kernel
theorem dX11_daysUntilShortage_49 : decode cX11_daysUntilShortage 49 = .ok (.sipush 365, 3) := by decide +kernel
theorem dX11_daysUntilShortage_52 : decode cX11_daysUntilShortage 52 = .ok (.if_icmp .ge 18, 3) := by decide +kernel
theorem dX11_daysUntilShortage_55 : decode cX11_daysUntilShortage 55 = .ok (.aload_n 0, 1) := by decide +kernel
theorem dX11_daysUntilShortage_56 : decode cX11_daysUntilShortage 56 = .ok (.iload_n 1, 1) := by decide +kernel
theorem dX11_daysUntilShortage_57 : decode cX11_daysUntilShortage 57 = .ok (.iload_n 2, 1) := by decide +kernel
theorem dX11_daysUntilShortage_58 : decode cX11_daysUntilShortage 58 = .ok (.invokevirtual 310, 3) := by decide +kernel
theorem dX11_daysUntilShortage_61 : decode cX11_daysUntilShortage 61 = .ok (.ifCond .eq 9, 3) := by decide +kernel
theorem dX11_daysUntilShortage_64 : decode cX11_daysUntilShortage 64 = .ok (.iinc 3 1, 3) := by decide +kernel
theorem dX11_daysUntilShortage_67 : decode cX11_daysUntilShortage 67 = .ok (.goto (-19), 3) := by decide +kernel
theorem dX11_daysUntilShortage_70 : decode cX11_daysUntilShortage 70 = .ok (.aload_n 0, 1) := by decide +kernel
theorem dX11_daysUntilShortage_71 : decode cX11_daysUntilShortage 71 = .ok (.bipush 9, 2) := by decide +kernel
theorem dX11_daysUntilShortage_73 : decode cX11_daysUntilShortage 73 = .ok (.iconst 0, 1) := by decide +kernel
theorem dX11_daysUntilShortage_74 : decode cX11_daysUntilShortage 74 = .ok (.invokevirtual 79, 3) := by decide +kernel
theorem dX11_daysUntilShortage_77 : decode cX11_daysUntilShortage 77 = .ok (.iload_n 3, 1) := by decide +kernel
theorem dX11_daysUntilShortage_78 : decode cX11_daysUntilShortage 78 = .ok (.ireturn, 1) := by decide +kernel
theorem dX11_waste_0 : decode cX11_waste 0 = .ok (.aload_n 0, 1) := by decide +kernel
theorem dX11_waste_1 : decode cX11_waste 1 = .ok (.iconst 0, 1) := by decide +kernel
theorem dX11_waste_2 : decode cX11_waste 2 = .ok (.bipush 9, 2) := by decide +kernel
theorem dX11_waste_4 : decode cX11_waste 4 = .ok (.invokevirtual 79, 3) := by decide +kernel
theorem dX11_waste_7 : decode cX11_waste 7 = .ok (.aload_n 0, 1) := by decide +kernel
theorem dX11_waste_8 : decode cX11_waste 8 = .ok (.iload_n 1, 1) := by decide +kernel
theorem dX11_waste_9 : decode cX11_waste 9 = .ok (.bipush 10, 2) := by decide +kernel
theorem dX11_waste_11 : decode cX11_waste 11 = .ok (.invokevirtual 127, 3) := by decide +kernel
theorem dX11_waste_14 : decode cX11_waste 14 = .ok (.istore 4, 2) := by decide +kernel
theorem dX11_waste_16 : decode cX11_waste 16 = .ok (.iconst 0, 1) := by decide +kernel
theorem dX11_waste_17 : decode cX11_waste 17 = .ok (.istore 5, 2) := by decide +kernel
theorem dX11_waste_19 : decode cX11_waste 19 = .ok (.iload 5, 2) := by decide +kernel
theorem dX11_waste_21 : decode cX11_waste 21 = .ok (.iload_n 3, 1) := by decide +kernel
theorem dX11_waste_22 : decode cX11_waste 22 = .ok (.if_icmp .ge 16, 3) := by decide +kernel
theorem dX11_waste_25 : decode cX11_waste 25 = .ok (.aload_n 0, 1) := by decide +kernel
theorem dX11_waste_26 : decode cX11_waste 26 = .ok (.iload_n 1, 1) := by decide +kernel
theorem dX11_waste_27 : decode cX11_waste 27 = .ok (.iload_n 2, 1) := by decide +kernel
theorem dX11_waste_28 : decode cX11_waste 28 = .ok (.invokevirtual 310, 3) := by decide +kernel
theorem dX11_waste_31 : decode cX11_waste 31 = .ok (.pop, 1) := by decide +kernel
theorem dX11_waste_32 : decode cX11_waste 32 = .ok (.iinc 5 1, 3) := by decide +kernel
theorem dX11_waste_35 : decode cX11_waste 35 = .ok (.goto (-16), 3) := by decide +kernel
theorem dX11_waste_38 : decode cX11_waste 38 = .ok (.aload_n 0, 1) := by decide +kernel
theorem dX11_waste_39 : decode cX11_waste 39 = .ok (.iload_n 1, 1) := by decide +kernel
theorem dX11_waste_40 : decode cX11_waste 40 = .ok (.bipush 10, 2) := by decide +kernel
theorem dX11_waste_42 : decode cX11_waste 42 = .ok (.invokevirtual 127, 3) := by decide +kernel
theorem dX11_waste_45 : decode cX11_waste 45 = .ok (.iload 4, 2) := by decide +kernel
theorem dX11_waste_47 : decode cX11_waste 47 = .ok (.isub, 1) := by decide +kernel
theorem dX11_waste_48 : decode cX11_waste 48 = .ok (.istore 5, 2) := by decide +kernel
theorem dX11_waste_50 : decode cX11_waste 50 = .ok (.aload_n 0, 1) := by decide +kernel
theorem dX11_waste_51 : decode cX11_waste 51 = .ok (.bipush 9, 2) := by decide +kernel
theorem dX11_waste_53 : decode cX11_waste 53 = .ok (.iconst 0, 1) := by decide +kernel
theorem dX11_waste_54 : decode cX11_waste 54 = .ok (.invokevirtual 79, 3) := by decide +kernel
theorem dX11_waste_57 : decode cX11_waste 57 = .ok (.iload 5, 2) := by decide +kernel
theorem dX11_waste_59 : decode cX11_waste 59 = .ok (.ireturn, 1) := by decide +kernel
theorem dX11_wasteWithDemand_0 : decode cX11_wasteWithDemand 0 = .ok (.aload_n 0, 1) := by decide +kernel
theorem dX11_wasteWithDemand_1 : decode cX11_wasteWithDemand 1 = .ok (.aload_n 0, 1) := by decide +kernel
theorem dX11_wasteWithDemand_2 : decode cX11_wasteWithDemand 2 = .ok (.iload_n 1, 1) := by decide +kernel
theorem dX11_wasteWithDemand_3 : decode cX11_wasteWithDemand 3 = .ok (.invokevirtual 283, 3) := by decide +kernel
theorem dX11_wasteWithDemand_6 : decode cX11_wasteWithDemand 6 = .ok (.ifCond .ne 7, 3) := by decide +kernel
theorem dX11_wasteWithDemand_9 : decode cX11_wasteWithDemand 9 = .ok (.iconst 1, 1) := by decide +kernel
theorem dX11_wasteWithDemand_10 : decode cX11_wasteWithDemand 10 = .ok (.goto 4, 3) := by decide +kernel
theorem dX11_wasteWithDemand_13 : decode cX11_wasteWithDemand 13 = .ok (.iconst 0, 1) := by decide +kernel
theorem dX11_wasteWithDemand_14 : decode cX11_wasteWithDemand 14 = .ok (.iload_n 2, 1) := by decide +kernel
theorem dX11_wasteWithDemand_15 : decode cX11_wasteWithDemand 15 = .ok (.iconst 0, 1) := by decide +kernel
theorem dX11_wasteWithDemand_16 : decode cX11_wasteWithDemand 16 = .ok (.sipush 999, 3) := by decide +kernel
theorem dX11_wasteWithDemand_19 : decode cX11_wasteWithDemand 19 = .ok (.invokestatic 75, 3) := by decide +kernel
theorem dX11_wasteWithDemand_22 : decode cX11_wasteWithDemand 22 = .ok (.ifCond .eq 14, 3) := by decide +kernel
theorem dX11_wasteWithDemand_25 : decode cX11_wasteWithDemand 25 = .ok (.iload_n 3, 1) := by decide +kernel
theorem dX11_wasteWithDemand_26 : decode cX11_wasteWithDemand 26 = .ok (.iconst 0, 1) := by decide +kernel
theorem dX11_wasteWithDemand_27 : decode cX11_wasteWithDemand 27 = .ok (.sipush 365, 3) := by decide +kernel
theorem dX11_wasteWithDemand_30 : decode cX11_wasteWithDemand 30 = .ok (.invokestatic 75, 3) := by decide +kernel
theorem dX11_wasteWithDemand_33 : decode cX11_wasteWithDemand 33 = .ok (.ifCond .ne 7, 3) := by decide +kernel
theorem dX11_wasteWithDemand_36 : decode cX11_wasteWithDemand 36 = .ok (.iconst 1, 1) := by decide +kernel
theorem dX11_wasteWithDemand_37 : decode cX11_wasteWithDemand 37 = .ok (.goto 4, 3) := by decide +kernel
theorem dX11_wasteWithDemand_40 : decode cX11_wasteWithDemand 40 = .ok (.iconst 0, 1) := by decide +kernel
theorem dX11_wasteWithDemand_41 : decode cX11_wasteWithDemand 41 = .ok (.iconst 0, 1) := by decide +kernel
theorem dX11_wasteWithDemand_42 : decode cX11_wasteWithDemand 42 = .ok (.invokevirtual 143, 3) := by decide +kernel
theorem dX11_wasteWithDemand_45 : decode cX11_wasteWithDemand 45 = .ok (.ifCond .eq 5, 3) := by decide +kernel
theorem dX11_wasteWithDemand_48 : decode cX11_wasteWithDemand 48 = .ok (.iconst 0, 1) := by decide +kernel
theorem dX11_wasteWithDemand_49 : decode cX11_wasteWithDemand 49 = .ok (.ireturn, 1) := by decide +kernel
theorem dX11_wasteWithDemand_50 : decode cX11_wasteWithDemand 50 = .ok (.aload_n 0, 1) := by decide +kernel
theorem dX11_wasteWithDemand_51 : decode cX11_wasteWithDemand 51 = .ok (.iload_n 1, 1) := by decide +kernel
theorem dX11_wasteWithDemand_52 : decode cX11_wasteWithDemand 52 = .ok (.iload_n 2, 1) := by decide +kernel
theorem dX11_wasteWithDemand_53 : decode cX11_wasteWithDemand 53 = .ok (.iload_n 3, 1) := by decide +kernel
theorem dX11_wasteWithDemand_54 : decode cX11_wasteWithDemand 54 = .ok (.invokevirtual 313, 3) := by decide +kernel
theorem dX11_wasteWithDemand_57 : decode cX11_wasteWithDemand 57 = .ok (.ireturn, 1) := by decide +kernel
theorem dX11_demandWithoutWaste_0 : decode cX11_demandWithoutWaste 0 = .ok (.aload_n 0, 1) := by decide +kernel
theorem dX11_demandWithoutWaste_1 : decode cX11_demandWithoutWaste 1 = .ok (.aload_n 0, 1) := by decide +kernel
theorem dX11_demandWithoutWaste_2 : decode cX11_demandWithoutWaste 2 = .ok (.iload_n 1, 1) := by decide +kernel
theorem dX11_demandWithoutWaste_3 : decode cX11_demandWithoutWaste 3 = .ok (.invokevirtual 283, 3) := by decide +kernel
theorem dX11_demandWithoutWaste_6 : decode cX11_demandWithoutWaste 6 = .ok (.ifCond .ne 7, 3) := by decide +kernel
theorem dX11_demandWithoutWaste_9 : decode cX11_demandWithoutWaste 9 = .ok (.iconst 1, 1) := by decide +kernel
theorem dX11_demandWithoutWaste_10 : decode cX11_demandWithoutWaste 10 = .ok (.goto 4, 3) := by decide +kernel
theorem dX11_demandWithoutWaste_13 : decode cX11_demandWithoutWaste 13 = .ok (.iconst 0, 1) := by decide +kernel
theorem dX11_demandWithoutWaste_14 : decode cX11_demandWithoutWaste 14 = .ok (.iconst 0, 1) := by decide +kernel
theorem dX11_demandWithoutWaste_15 : decode cX11_demandWithoutWaste 15 = .ok (.iconst 0, 1) := by decide +kernel
theorem dX11_demandWithoutWaste_16 : decode cX11_demandWithoutWaste 16 = .ok (.invokevirtual 143, 3) := by decide +kernel
theorem dX11_demandWithoutWaste_19 : decode cX11_demandWithoutWaste 19 = .ok (.ifCond .eq 5, 3) := by decide +kernel
theorem dX11_demandWithoutWaste_22 : decode cX11_demandWithoutWaste 22 = .ok (.iconst 0, 1) := by decide +kernel
theorem dX11_demandWithoutWaste_23 : decode cX11_demandWithoutWaste 23 = .ok (.ireturn, 1) := by decide +kernel
theorem dX11_demandWithoutWaste_24 : decode cX11_demandWithoutWaste 24 = .ok (.aload_n 0, 1) := by decide +kernel
theorem dX11_demandWithoutWaste_25 : decode cX11_demandWithoutWaste 25 = .ok (.iload_n 1, 1) := by decide +kernel
theorem dX11_demandWithoutWaste_26 : decode cX11_demandWithoutWaste 26 = .ok (.sipush 999, 3) := by decide +kernel
theorem dX11_demandWithoutWaste_29 : decode cX11_demandWithoutWaste 29 = .ok (.sipush 365, 3) := by decide +kernel
theorem dX11_demandWithoutWaste_32 : decode cX11_demandWithoutWaste 32 = .ok (.invokevirtual 313, 3) := by decide +kernel
theorem dX11_demandWithoutWaste_35 : decode cX11_demandWithoutWaste 35 = .ok (.ifCond .le 5, 3) := by decide +kernel
theorem dX11_demandWithoutWaste_38 : decode cX11_demandWithoutWaste 38 = .ok (.iconst (-1), 1) := by decide +kernel
theorem dX11_demandWithoutWaste_39 : decode cX11_demandWithoutWaste 39 = .ok (.ireturn, 1) := by decide +kernel
theorem dX11_demandWithoutWaste_40 : decode cX11_demandWithoutWaste 40 = .ok (.iconst 0, 1) := by decide +kernel
theorem dX11_demandWithoutWaste_41 : decode cX11_demandWithoutWaste 41 = .ok (.istore_n 2, 1) := by decide +kernel
theorem dX11_demandWithoutWaste_42 : decode cX11_demandWithoutWaste 42 = .ok (.sipush 999, 3) := by decide +kernel
theorem dX11_demandWithoutWaste_45 : decode cX11_demandWithoutWaste 45 = .ok (.istore_n 3, 1) := by decide +kernel
theorem dX11_demandWithoutWaste_46 : decode cX11_demandWithoutWaste 46 = .ok (.iload_n 2, 1) := by decide +kernel
theorem dX11_demandWithoutWaste_47 : decode cX11_demandWithoutWaste 47 = .ok (.iload_n 3, 1) := by decide +kernel
theorem dX11_demandWithoutWaste_48 : decode cX11_demandWithoutWaste 48 = .ok (.if_icmp .ge 37, 3) := by decide +kernel
theorem dX11_demandWithoutWaste_51 : decode cX11_demandWithoutWaste 51 = .ok (.iload_n 2, 1) := by decide +kernel
theorem dX11_demandWithoutWaste_52 : decode cX11_demandWithoutWaste 52 = .ok (.iload_n 3, 1) := by decide +kernel
theorem dX11_demandWithoutWaste_53 : decode cX11_demandWithoutWaste 53 = .ok (.iadd, 1) := by decide +kernel
theorem dX11_demandWithoutWaste_54 : decode cX11_demandWithoutWaste 54 = .ok (.iconst 2, 1) := by decide +kernel
theorem dX11_demandWithoutWaste_55 : decode cX11_demandWithoutWaste 55 = .ok (.idiv, 1) := by decide +kernel
theorem dX11_demandWithoutWaste_56 : decode cX11_demandWithoutWaste 56 = .ok (.istore 4, 2) := by decide +kernel
theorem dX11_demandWithoutWaste_58 : decode cX11_demandWithoutWaste 58 = .ok (.aload_n 0, 1) := by decide +kernel
theorem dX11_demandWithoutWaste_59 : decode cX11_demandWithoutWaste 59 = .ok (.iload_n 1, 1) := by decide +kernel
theorem dX11_demandWithoutWaste_60 : decode cX11_demandWithoutWaste 60 = .ok (.iload 4, 2) := by decide +kernel
theorem dX11_demandWithoutWaste_62 : decode cX11_demandWithoutWaste 62 = .ok (.sipush 365, 3) := by decide +kernel
theorem dX11_demandWithoutWaste_65 : decode cX11_demandWithoutWaste 65 = .ok (.invokevirtual 313, 3) := by decide +kernel
theorem dX11_demandWithoutWaste_68 : decode cX11_demandWithoutWaste 68 = .ok (.ifCond .ne 9, 3) := by decide +kernel
theorem dX11_demandWithoutWaste_71 : decode cX11_demandWithoutWaste 71 = .ok (.iload 4, 2) := by decide +kernel
theorem dX11_demandWithoutWaste_73 : decode cX11_demandWithoutWaste 73 = .ok (.istore_n 3, 1) := by decide +kernel
theorem dX11_demandWithoutWaste_74 : decode cX11_demandWithoutWaste 74 = .ok (.goto 8, 3) := by decide +kernel
theorem dX11_demandWithoutWaste_77 : decode cX11_demandWithoutWaste 77 = .ok (.iload 4, 2) := by decide +kernel
theorem dX11_demandWithoutWaste_79 : decode cX11_demandWithoutWaste 79 = .ok (.iconst 1, 1) := by decide +kernel
theorem dX11_demandWithoutWaste_80 : decode cX11_demandWithoutWaste 80 = .ok (.iadd, 1) := by decide +kernel
theorem dX11_demandWithoutWaste_81 : decode cX11_demandWithoutWaste 81 = .ok (.istore_n 2, 1) := by decide +kernel
theorem dX11_demandWithoutWaste_82 : decode cX11_demandWithoutWaste 82 = .ok (.goto (-36), 3) := by decide +kernel
theorem dX11_demandWithoutWaste_85 : decode cX11_demandWithoutWaste 85 = .ok (.iload_n 2, 1) := by decide +kernel
theorem dX11_demandWithoutWaste_86 : decode cX11_demandWithoutWaste 86 = .ok (.ireturn, 1) := by decide +kernel
theorem dX11_receive_0 : decode cX11_receive 0 = .ok (.aload_n 0, 1) := by decide +kernel
theorem dX11_receive_1 : decode cX11_receive 1 = .ok (.aload_n 0, 1) := by decide +kernel
theorem dX11_receive_2 : decode cX11_receive 2 = .ok (.iload_n 1, 1) := by decide +kernel
theorem dX11_receive_3 : decode cX11_receive 3 = .ok (.invokevirtual 283, 3) := by decide +kernel
theorem dX11_receive_6 : decode cX11_receive 6 = .ok (.ifCond .ne 7, 3) := by decide +kernel
theorem dX11_receive_9 : decode cX11_receive 9 = .ok (.iconst 1, 1) := by decide +kernel
theorem dX11_receive_10 : decode cX11_receive 10 = .ok (.goto 4, 3) := by decide +kernel
theorem dX11_receive_13 : decode cX11_receive 13 = .ok (.iconst 0, 1) := by decide +kernel
theorem dX11_receive_14 : decode cX11_receive 14 = .ok (.iload_n 2, 1) := by decide +kernel
theorem dX11_receive_15 : decode cX11_receive 15 = .ok (.iload_n 3, 1) := by decide +kernel
theorem dX11_receive_16 : decode cX11_receive 16 = .ok (.iload 4, 2) := by decide +kernel
theorem dX11_receive_18 : decode cX11_receive 18 = .ok (.invokestatic 226, 3) := by decide +kernel
theorem dX11_receive_21 : decode cX11_receive 21 = .ok (.ifCond .ne 7, 3) := by decide +kernel
theorem dX11_receive_24 : decode cX11_receive 24 = .ok (.iconst 1, 1) := by decide +kernel
theorem dX11_receive_25 : decode cX11_receive 25 = .ok (.goto 4, 3) := by decide +kernel
theorem dX11_receive_28 : decode cX11_receive 28 = .ok (.iconst 0, 1) := by decide +kernel
theorem dX11_receive_29 : decode cX11_receive 29 = .ok (.aload_n 0, 1) := by decide +kernel
theorem dX11_receive_30 : decode cX11_receive 30 = .ok (.getfield 13, 3) := by decide +kernel
theorem dX11_receive_33 : decode cX11_receive 33 = .ok (.iconst 2, 1) := by decide +kernel
theorem dX11_receive_34 : decode cX11_receive 34 = .ok (.iaload, 1) := by decide +kernel
theorem dX11_receive_35 : decode cX11_receive 35 = .ok (.bipush 20, 2) := by decide +kernel
theorem dX11_receive_37 : decode cX11_receive 37 = .ok (.if_icmp .ne 7, 3) := by decide +kernel
theorem dX11_receive_40 : decode cX11_receive 40 = .ok (.iconst 1, 1) := by decide +kernel
theorem dX11_receive_41 : decode cX11_receive 41 = .ok (.goto 4, 3) := by decide +kernel
theorem dX11_receive_44 : decode cX11_receive 44 = .ok (.iconst 0, 1) := by decide +kernel
theorem dX11_receive_45 : decode cX11_receive 45 = .ok (.invokevirtual 143, 3) := by decide +kernel
theorem dX11_receive_48 : decode cX11_receive 48 = .ok (.ifCond .eq 5, 3) := by decide +kernel
theorem dX11_receive_51 : decode cX11_receive 51 = .ok (.iconst 0, 1) := by decide +kernel
theorem dX11_receive_52 : decode cX11_receive 52 = .ok (.ireturn, 1) := by decide +kernel
theorem dX11_receive_53 : decode cX11_receive 53 = .ok (.aload_n 0, 1) := by decide +kernel
theorem dX11_receive_54 : decode cX11_receive 54 = .ok (.iconst 0, 1) := by decide +kernel
theorem dX11_receive_55 : decode cX11_receive 55 = .ok (.invokevirtual 271, 3) := by decide +kernel
theorem dX11_receive_58 : decode cX11_receive 58 = .ok (.aload_n 0, 1) := by decide +kernel
theorem dX11_receive_59 : decode cX11_receive 59 = .ok (.iload_n 1, 1) := by decide +kernel
theorem dX11_receive_60 : decode cX11_receive 60 = .ok (.iload_n 2, 1) := by decide +kernel
theorem dX11_receive_61 : decode cX11_receive 61 = .ok (.iload_n 3, 1) := by decide +kernel
theorem dX11_receive_62 : decode cX11_receive 62 = .ok (.iload 4, 2) := by decide +kernel
theorem dX11_receive_64 : decode cX11_receive 64 = .ok (.invokevirtual 175, 3) := by decide +kernel
theorem dX11_receive_67 : decode cX11_receive 67 = .ok (.ireturn, 1) := by decide +kernel
theorem dX11_issue_0 : decode cX11_issue 0 = .ok (.aload_n 0, 1) := by decide +kernel
theorem dX11_issue_1 : decode cX11_issue 1 = .ok (.iload_n 1, 1) := by decide +kernel
theorem dX11_issue_2 : decode cX11_issue 2 = .ok (.invokevirtual 283, 3) := by decide +kernel
theorem dX11_issue_5 : decode cX11_issue 5 = .ok (.ifCond .eq 18, 3) := by decide +kernel
theorem dX11_issue_8 : decode cX11_issue 8 = .ok (.iload_n 2, 1) := by decide +kernel
theorem dX11_issue_9 : decode cX11_issue 9 = .ok (.iconst 1, 1) := by decide +kernel
theorem dX11_issue_10 : decode cX11_issue 10 = .ok (.sipush 9999, 3) := by decide +kernel
theorem dX11_issue_13 : decode cX11_issue 13 = .ok (.invokestatic 75, 3) := by decide +kernel
theorem dX11_issue_16 : decode cX11_issue 16 = .ok (.ifCond .eq 7, 3) := by decide +kernel
theorem dX11_issue_19 : decode cX11_issue 19 = .ok (.iconst 1, 1) := by decide +kernel
theorem dX11_issue_20 : decode cX11_issue 20 = .ok (.goto 4, 3) := by decide +kernel
theorem dX11_issue_23 : decode cX11_issue 23 = .ok (.iconst 0, 1) := by decide +kernel
theorem dX11_issue_24 : decode cX11_issue 24 = .ok (.istore_n 3, 1) := by decide +kernel
theorem dX11_issue_25 : decode cX11_issue 25 = .ok (.aload_n 0, 1) := by decide +kernel
theorem dX11_issue_26 : decode cX11_issue 26 = .ok (.aload_n 0, 1) := by decide +kernel
theorem dX11_issue_27 : decode cX11_issue 27 = .ok (.iload_n 1, 1) := by decide +kernel
theorem dX11_issue_28 : decode cX11_issue 28 = .ok (.invokevirtual 283, 3) := by decide +kernel
theorem dX11_issue_31 : decode cX11_issue 31 = .ok (.ifCond .ne 7, 3) := by decide +kernel
theorem dX11_issue_34 : decode cX11_issue 34 = .ok (.iconst 1, 1) := by decide +kernel
theorem dX11_issue_35 : decode cX11_issue 35 = .ok (.goto 4, 3) := by decide +kernel
theorem dX11_issue_38 : decode cX11_issue 38 = .ok (.iconst 0, 1) := by decide +kernel
theorem dX11_issue_39 : decode cX11_issue 39 = .ok (.iload_n 2, 1) := by decide +kernel
theorem dX11_issue_40 : decode cX11_issue 40 = .ok (.iconst 1, 1) := by decide +kernel
theorem dX11_issue_41 : decode cX11_issue 41 = .ok (.sipush 9999, 3) := by decide +kernel
theorem dX11_issue_44 : decode cX11_issue 44 = .ok (.invokestatic 75, 3) := by decide +kernel
theorem dX11_issue_47 : decode cX11_issue 47 = .ok (.ifCond .ne 7, 3) := by decide +kernel
theorem dX11_issue_50 : decode cX11_issue 50 = .ok (.iconst 1, 1) := by decide +kernel
theorem dX11_issue_51 : decode cX11_issue 51 = .ok (.goto 4, 3) := by decide +kernel
theorem dX11_issue_54 : decode cX11_issue 54 = .ok (.iconst 0, 1) := by decide +kernel
theorem dX11_issue_55 : decode cX11_issue 55 = .ok (.iload_n 3, 1) := by decide +kernel
theorem dX11_issue_56 : decode cX11_issue 56 = .ok (.ifCond .eq 16, 3) := by decide +kernel
theorem dX11_issue_59 : decode cX11_issue 59 = .ok (.aload_n 0, 1) := by decide +kernel
theorem dX11_issue_60 : decode cX11_issue 60 = .ok (.iload_n 1, 1) := by decide +kernel
theorem dX11_issue_61 : decode cX11_issue 61 = .ok (.iload_n 2, 1) := by decide +kernel
theorem dX11_issue_62 : decode cX11_issue 62 = .ok (.invokevirtual 229, 3) := by decide +kernel
theorem dX11_issue_65 : decode cX11_issue 65 = .ok (.ifCond .ne 7, 3) := by decide +kernel
theorem dX11_issue_68 : decode cX11_issue 68 = .ok (.iconst 1, 1) := by decide +kernel
theorem dX11_issue_69 : decode cX11_issue 69 = .ok (.goto 4, 3) := by decide +kernel
theorem dX11_issue_72 : decode cX11_issue 72 = .ok (.iconst 0, 1) := by decide +kernel
theorem dX11_issue_73 : decode cX11_issue 73 = .ok (.invokevirtual 143, 3) := by decide +kernel
theorem dX11_issue_76 : decode cX11_issue 76 = .ok (.ifCond .eq 5, 3) := by decide +kernel
theorem dX11_issue_79 : decode cX11_issue 79 = .ok (.iconst 0, 1) := by decide +kernel
theorem dX11_issue_80 : decode cX11_issue 80 = .ok (.ireturn, 1) := by decide +kernel
theorem dX11_issue_81 : decode cX11_issue 81 = .ok (.aload_n 0, 1) := by decide +kernel
theorem dX11_issue_82 : decode cX11_issue 82 = .ok (.iconst 0, 1) := by decide +kernel
theorem dX11_issue_83 : decode cX11_issue 83 = .ok (.invokevirtual 271, 3) := by decide +kernel
theorem dX11_issue_86 : decode cX11_issue 86 = .ok (.aload_n 0, 1) := by decide +kernel
theorem dX11_issue_87 : decode cX11_issue 87 = .ok (.iload_n 1, 1) := by decide +kernel
theorem dX11_issue_88 : decode cX11_issue 88 = .ok (.iload_n 2, 1) := by decide +kernel
theorem dX11_issue_89 : decode cX11_issue 89 = .ok (.aload_n 0, 1) := by decide +kernel
theorem dX11_issue_90 : decode cX11_issue 90 = .ok (.getfield 13, 3) := by decide +kernel
theorem dX11_issue_93 : decode cX11_issue 93 = .ok (.iconst 0, 1) := by decide +kernel
theorem dX11_issue_94 : decode cX11_issue 94 = .ok (.iaload, 1) := by decide +kernel
theorem dX11_issue_95 : decode cX11_issue 95 = .ok (.invokevirtual 244, 3) := by decide +kernel
theorem dX11_issue_98 : decode cX11_issue 98 = .ok (.ireturn, 1) := by decide +kernel
theorem dX11_reserve_0 : decode cX11_reserve 0 = .ok (.iload_n 2, 1) := by decide +kernel
theorem dX11_reserve_1 : decode cX11_reserve 1 = .ok (.iconst 1, 1) := by decide +kernel
theorem dX11_reserve_2 : decode cX11_reserve 2 = .ok (.sipush 9999, 3) := by decide +kernel
theorem dX11_reserve_5 : decode cX11_reserve 5 = .ok (.invokestatic 75, 3) := by decide +kernel
theorem dX11_reserve_8 : decode cX11_reserve 8 = .ok (.ifCond .eq 23, 3) := by decide +kernel
theorem dX11_reserve_11 : decode cX11_reserve 11 = .ok (.iload_n 3, 1) := by decide +kernel
theorem dX11_reserve_12 : decode cX11_reserve 12 = .ok (.aload_n 0, 1) := by decide +kernel
theorem dX11_reserve_13 : decode cX11_reserve 13 = .ok (.getfield 13, 3) := by decide +kernel
theorem dX11_reserve_16 : decode cX11_reserve 16 = .ok (.iconst 0, 1) := by decide +kernel
theorem dX11_reserve_17 : decode cX11_reserve 17 = .ok (.iaload, 1) := by decide +kernel
theorem dX11_reserve_18 : decode cX11_reserve 18 = .ok (.sipush 9999, 3) := by decide +kernel
theorem dX11_reserve_21 : decode cX11_reserve 21 = .ok (.invokestatic 75, 3) := by decide +kernel
theorem dX11_reserve_24 : decode cX11_reserve 24 = .ok (.ifCond .eq 7, 3) := by decide +kernel
theorem dX11_reserve_27 : decode cX11_reserve 27 = .ok (.iconst 1, 1) := by decide +kernel
theorem dX11_reserve_28 : decode cX11_reserve 28 = .ok (.goto 4, 3) := by decide +kernel
theorem dX11_reserve_31 : decode cX11_reserve 31 = .ok (.iconst 0, 1) := by decide +kernel
theorem dX11_reserve_32 : decode cX11_reserve 32 = .ok (.istore 4, 2) := by decide +kernel
theorem dX11_reserve_34 : decode cX11_reserve 34 = .ok (.aload_n 0, 1) := by decide +kernel
theorem dX11_reserve_35 : decode cX11_reserve 35 = .ok (.iload_n 1, 1) := by decide +kernel
theorem dX11_reserve_36 : decode cX11_reserve 36 = .ok (.invokevirtual 283, 3) := by decide +kernel
theorem dX11_reserve_39 : decode cX11_reserve 39 = .ok (.ifCond .eq 12, 3) := by decide +kernel
theorem dX11_reserve_42 : decode cX11_reserve 42 = .ok (.iload 4, 2) := by decide +kernel
theorem dX11_reserve_44 : decode cX11_reserve 44 = .ok (.ifCond .eq 7, 3) := by decide +kernel
theorem dX11_reserve_47 : decode cX11_reserve 47 = .ok (.iconst 1, 1) := by decide +kernel
theorem dX11_reserve_48 : decode cX11_reserve 48 = .ok (.goto 4, 3) := by decide +kernel
theorem dX11_reserve_51 : decode cX11_reserve 51 = .ok (.iconst 0, 1) := by decide +kernel
theorem dX11_reserve_52 : decode cX11_reserve 52 = .ok (.istore 5, 2) := by decide +kernel
theorem dX11_reserve_54 : decode cX11_reserve 54 = .ok (.aload_n 0, 1) := by decide +kernel
theorem dX11_reserve_55 : decode cX11_reserve 55 = .ok (.aload_n 0, 1) := by decide +kernel
theorem dX11_reserve_56 : decode cX11_reserve 56 = .ok (.iload_n 1, 1) := by decide +kernel
theorem dX11_reserve_57 : decode cX11_reserve 57 = .ok (.invokevirtual 283, 3) := by decide +kernel
theorem dX11_reserve_60 : decode cX11_reserve 60 = .ok (.ifCond .ne 7, 3) := by decide +kernel
theorem dX11_reserve_63 : decode cX11_reserve 63 = .ok (.iconst 1, 1) := by decide +kernel
theorem dX11_reserve_64 : decode cX11_reserve 64 = .ok (.goto 4, 3) := by decide +kernel
theorem dX11_reserve_67 : decode cX11_reserve 67 = .ok (.iconst 0, 1) := by decide +kernel
theorem dX11_reserve_68 : decode cX11_reserve 68 = .ok (.iload 4, 2) := by decide +kernel
theorem dX11_reserve_70 : decode cX11_reserve 70 = .ok (.ifCond .ne 7, 3) := by decide +kernel
theorem dX11_reserve_73 : decode cX11_reserve 73 = .ok (.iconst 1, 1) := by decide +kernel
theorem dX11_reserve_74 : decode cX11_reserve 74 = .ok (.goto 4, 3) := by decide +kernel
theorem dX11_reserve_77 : decode cX11_reserve 77 = .ok (.iconst 0, 1) := by decide +kernel
theorem dX11_reserve_78 : decode cX11_reserve 78 = .ok (.iload 5, 2) := by decide +kernel
theorem dX11_reserve_80 : decode cX11_reserve 80 = .ok (.ifCond .eq 17, 3) := by decide +kernel
theorem dX11_reserve_83 : decode cX11_reserve 83 = .ok (.aload_n 0, 1) := by decide +kernel
theorem dX11_reserve_84 : decode cX11_reserve 84 = .ok (.iload_n 1, 1) := by decide +kernel
theorem dX11_reserve_85 : decode cX11_reserve 85 = .ok (.iload_n 2, 1) := by decide +kernel
theorem dX11_reserve_86 : decode cX11_reserve 86 = .ok (.iload_n 3, 1) := by decide +kernel
theorem dX11_reserve_87 : decode cX11_reserve 87 = .ok (.invokevirtual 232, 3) := by decide +kernel
theorem dX11_reserve_90 : decode cX11_reserve 90 = .ok (.ifCond .ne 7, 3) := by decide +kernel
theorem dX11_reserve_93 : decode cX11_reserve 93 = .ok (.iconst 1, 1) := by decide +kernel
theorem dX11_reserve_94 : decode cX11_reserve 94 = .ok (.goto 4, 3) := by decide +kernel
theorem dX11_reserve_97 : decode cX11_reserve 97 = .ok (.iconst 0, 1) := by decide +kernel
theorem dX11_reserve_98 : decode cX11_reserve 98 = .ok (.invokevirtual 143, 3) := by decide +kernel
theorem dX11_reserve_101 : decode cX11_reserve 101 = .ok (.ifCond .eq 5, 3) := by decide +kernel
theorem dX11_reserve_104 : decode cX11_reserve 104 = .ok (.iconst 0, 1) := by decide +kernel
theorem dX11_reserve_105 : decode cX11_reserve 105 = .ok (.ireturn, 1) := by decide +kernel
theorem dX11_reserve_106 : decode cX11_reserve 106 = .ok (.aload_n 0, 1) := by decide +kernel
theorem dX11_reserve_107 : decode cX11_reserve 107 = .ok (.iconst 0, 1) := by decide +kernel
theorem dX11_reserve_108 : decode cX11_reserve 108 = .ok (.invokevirtual 271, 3) := by decide +kernel
theorem dX11_reserve_111 : decode cX11_reserve 111 = .ok (.aload_n 0, 1) := by decide +kernel
theorem dX11_reserve_112 : decode cX11_reserve 112 = .ok (.iload_n 1, 1) := by decide +kernel
theorem dX11_reserve_113 : decode cX11_reserve 113 = .ok (.iload_n 2, 1) := by decide +kernel
theorem dX11_reserve_114 : decode cX11_reserve 114 = .ok (.iload_n 3, 1) := by decide +kernel
theorem dX11_reserve_115 : decode cX11_reserve 115 = .ok (.invokevirtual 247, 3) := by decide +kernel
theorem dX11_reserve_118 : decode cX11_reserve 118 = .ok (.ireturn, 1) := by decide +kernel
theorem dX11_ship_0 : decode cX11_ship 0 = .ok (.aload_n 0, 1) := by decide +kernel
theorem dX11_ship_1 : decode cX11_ship 1 = .ok (.iload_n 1, 1) := by decide +kernel
theorem dX11_ship_2 : decode cX11_ship 2 = .ok (.invokevirtual 235, 3) := by decide +kernel
theorem dX11_ship_5 : decode cX11_ship 5 = .ok (.istore_n 2, 1) := by decide +kernel
theorem dX11_ship_6 : decode cX11_ship 6 = .ok (.aload_n 0, 1) := by decide +kernel
theorem dX11_ship_7 : decode cX11_ship 7 = .ok (.iload_n 2, 1) := by decide +kernel
theorem dX11_ship_8 : decode cX11_ship 8 = .ok (.ifCond .ne 7, 3) := by decide +kernel
theorem dX11_ship_11 : decode cX11_ship 11 = .ok (.iconst 1, 1) := by decide +kernel
theorem dX11_ship_12 : decode cX11_ship 12 = .ok (.goto 4, 3) := by decide +kernel
theorem dX11_ship_15 : decode cX11_ship 15 = .ok (.iconst 0, 1) := by decide +kernel
theorem dX11_ship_16 : decode cX11_ship 16 = .ok (.iload_n 2, 1) := by decide +kernel
theorem dX11_ship_17 : decode cX11_ship 17 = .ok (.ifCond .eq 15, 3) := by decide +kernel
theorem dX11_ship_20 : decode cX11_ship 20 = .ok (.aload_n 0, 1) := by decide +kernel
theorem dX11_ship_21 : decode cX11_ship 21 = .ok (.iload_n 1, 1) := by decide +kernel
theorem dX11_ship_22 : decode cX11_ship 22 = .ok (.invokevirtual 238, 3) := by decide +kernel
theorem dX11_ship_25 : decode cX11_ship 25 = .ok (.ifCond .eq 7, 3) := by decide +kernel
theorem dX11_ship_28 : decode cX11_ship 28 = .ok (.iconst 1, 1) := by decide +kernel
theorem dX11_ship_29 : decode cX11_ship 29 = .ok (.goto 4, 3) := by decide +kernel
theorem dX11_ship_32 : decode cX11_ship 32 = .ok (.iconst 0, 1) := by decide +kernel
theorem dX11_ship_33 : decode cX11_ship 33 = .ok (.iconst 0, 1) := by decide +kernel
theorem dX11_ship_34 : decode cX11_ship 34 = .ok (.invokevirtual 143, 3) := by decide +kernel
theorem dX11_ship_37 : decode cX11_ship 37 = .ok (.ifCond .eq 5, 3) := by decide +kernel
theorem dX11_ship_40 : decode cX11_ship 40 = .ok (.iconst 0, 1) := by decide +kernel
theorem dX11_ship_41 : decode cX11_ship 41 = .ok (.ireturn, 1) := by decide +kernel
theorem dX11_ship_42 : decode cX11_ship 42 = .ok (.aload_n 0, 1) := by decide +kernel
theorem dX11_ship_43 : decode cX11_ship 43 = .ok (.iconst 0, 1) := by decide +kernel
theorem dX11_ship_44 : decode cX11_ship 44 = .ok (.invokevirtual 271, 3) := by decide +kernel
theorem dX11_ship_47 : decode cX11_ship 47 = .ok (.aload_n 0, 1) := by decide +kernel
theorem dX11_ship_48 : decode cX11_ship 48 = .ok (.iload_n 1, 1) := by decide +kernel
theorem dX11_ship_49 : decode cX11_ship 49 = .ok (.invokevirtual 250, 3) := by decide +kernel
theorem dX11_ship_52 : decode cX11_ship 52 = .ok (.ireturn, 1) := by decide +kernel
theorem dX11_cancel_0 : decode cX11_cancel 0 = .ok (.aload_n 0, 1) := by decide +kernel
theorem dX11_cancel_1 : decode cX11_cancel 1 = .ok (.iload_n 1, 1) := by decide +kernel
theorem dX11_cancel_2 : decode cX11_cancel 2 = .ok (.invokevirtual 235, 3) := by decide +kernel
theorem dX11_cancel_5 : decode cX11_cancel 5 = .ok (.istore_n 2, 1) := by decide +kernel
theorem dX11_cancel_6 : decode cX11_cancel 6 = .ok (.aload_n 0, 1) := by decide +kernel
theorem dX11_cancel_7 : decode cX11_cancel 7 = .ok (.iload_n 2, 1) := by decide +kernel
theorem dX11_cancel_8 : decode cX11_cancel 8 = .ok (.ifCond .ne 7, 3) := by decide +kernel
theorem dX11_cancel_11 : decode cX11_cancel 11 = .ok (.iconst 1, 1) := by decide +kernel
theorem dX11_cancel_12 : decode cX11_cancel 12 = .ok (.goto 4, 3) := by decide +kernel
theorem dX11_cancel_15 : decode cX11_cancel 15 = .ok (.iconst 0, 1) := by decide +kernel
theorem dX11_cancel_16 : decode cX11_cancel 16 = .ok (.iload_n 2, 1) := by decide +kernel
theorem dX11_cancel_17 : decode cX11_cancel 17 = .ok (.ifCond .eq 15, 3) := by decide +kernel
theorem dX11_cancel_20 : decode cX11_cancel 20 = .ok (.aload_n 0, 1) := by decide +kernel
theorem dX11_cancel_21 : decode cX11_cancel 21 = .ok (.iload_n 1, 1) := by decide +kernel
theorem dX11_cancel_22 : decode cX11_cancel 22 = .ok (.invokevirtual 87, 3) := by decide +kernel
theorem dX11_cancel_25 : decode cX11_cancel 25 = .ok (.ifCond .ne 7, 3) := by decide +kernel
theorem dX11_cancel_28 : decode cX11_cancel 28 = .ok (.iconst 1, 1) := by decide +kernel
theorem dX11_cancel_29 : decode cX11_cancel 29 = .ok (.goto 4, 3) := by decide +kernel
theorem dX11_cancel_32 : decode cX11_cancel 32 = .ok (.iconst 0, 1) := by decide +kernel
theorem dX11_cancel_33 : decode cX11_cancel 33 = .ok (.iconst 0, 1) := by decide +kernel
theorem dX11_cancel_34 : decode cX11_cancel 34 = .ok (.invokevirtual 143, 3) := by decide +kernel
theorem dX11_cancel_37 : decode cX11_cancel 37 = .ok (.ifCond .eq 5, 3) := by decide +kernel
theorem dX11_cancel_40 : decode cX11_cancel 40 = .ok (.iconst 0, 1) := by decide +kernel
theorem dX11_cancel_41 : decode cX11_cancel 41 = .ok (.ireturn, 1) := by decide +kernel
theorem dX11_cancel_42 : decode cX11_cancel 42 = .ok (.aload_n 0, 1) := by decide +kernel
theorem dX11_cancel_43 : decode cX11_cancel 43 = .ok (.iconst 0, 1) := by decide +kernel
theorem dX11_cancel_44 : decode cX11_cancel 44 = .ok (.invokevirtual 271, 3) := by decide +kernel
theorem dX11_cancel_47 : decode cX11_cancel 47 = .ok (.aload_n 0, 1) := by decide +kernel
theorem dX11_cancel_48 : decode cX11_cancel 48 = .ok (.iload_n 1, 1) := by decide +kernel
theorem dX11_cancel_49 : decode cX11_cancel 49 = .ok (.invokevirtual 253, 3) := by decide +kernel
theorem dX11_cancel_52 : decode cX11_cancel 52 = .ok (.ireturn, 1) := by decide +kernel
theorem dX11_refill_0 : decode cX11_refill 0 = .ok (.aload_n 0, 1) := by decide +kernel
theorem dX11_refill_1 : decode cX11_refill 1 = .ok (.iload_n 1, 1) := by decide +kernel
theorem dX11_refill_2 : decode cX11_refill 2 = .ok (.invokevirtual 235, 3) := by decide +kernel
theorem dX11_refill_5 : decode cX11_refill 5 = .ok (.istore_n 2, 1) := by decide +kernel
theorem dX11_refill_6 : decode cX11_refill 6 = .ok (.aload_n 0, 1) := by decide +kernel
theorem dX11_refill_7 : decode cX11_refill 7 = .ok (.iload_n 2, 1) := by decide +kernel
theorem dX11_refill_8 : decode cX11_refill 8 = .ok (.ifCond .ne 7, 3) := by decide +kernel
theorem dX11_refill_11 : decode cX11_refill 11 = .ok (.iconst 1, 1) := by decide +kernel
theorem dX11_refill_12 : decode cX11_refill 12 = .ok (.goto 4, 3) := by decide +kernel
theorem dX11_refill_15 : decode cX11_refill 15 = .ok (.iconst 0, 1) := by decide +kernel
theorem dX11_refill_16 : decode cX11_refill 16 = .ok (.iload_n 2, 1) := by decide +kernel
theorem dX11_refill_17 : decode cX11_refill 17 = .ok (.ifCond .eq 15, 3) := by decide +kernel
theorem dX11_refill_20 : decode cX11_refill 20 = .ok (.aload_n 0, 1) := by decide +kernel
theorem dX11_refill_21 : decode cX11_refill 21 = .ok (.iload_n 1, 1) := by decide +kernel
theorem dX11_refill_22 : decode cX11_refill 22 = .ok (.invokevirtual 87, 3) := by decide +kernel
theorem dX11_refill_25 : decode cX11_refill 25 = .ok (.ifCond .ne 7, 3) := by decide +kernel
theorem dX11_refill_28 : decode cX11_refill 28 = .ok (.iconst 1, 1) := by decide +kernel
theorem dX11_refill_29 : decode cX11_refill 29 = .ok (.goto 4, 3) := by decide +kernel
theorem dX11_refill_32 : decode cX11_refill 32 = .ok (.iconst 0, 1) := by decide +kernel
theorem dX11_refill_33 : decode cX11_refill 33 = .ok (.iconst 0, 1) := by decide +kernel
theorem dX11_refill_34 : decode cX11_refill 34 = .ok (.invokevirtual 143, 3) := by decide +kernel
theorem dX11_refill_37 : decode cX11_refill 37 = .ok (.ifCond .eq 5, 3) := by decide +kernel
theorem dX11_refill_40 : decode cX11_refill 40 = .ok (.iconst 0, 1) := by decide +kernel
theorem dX11_refill_41 : decode cX11_refill 41 = .ok (.ireturn, 1) := by decide +kernel
theorem dX11_refill_42 : decode cX11_refill 42 = .ok (.aload_n 0, 1) := by decide +kernel
theorem dX11_refill_43 : decode cX11_refill 43 = .ok (.iconst 0, 1) := by decide +kernel
theorem dX11_refill_44 : decode cX11_refill 44 = .ok (.invokevirtual 271, 3) := by decide +kernel
theorem dX11_refill_47 : decode cX11_refill 47 = .ok (.aload_n 0, 1) := by decide +kernel
theorem dX11_refill_48 : decode cX11_refill 48 = .ok (.iload_n 1, 1) := by decide +kernel
theorem dX11_refill_49 : decode cX11_refill 49 = .ok (.invokevirtual 256, 3) := by decide +kernel
theorem dX11_refill_52 : decode cX11_refill 52 = .ok (.ireturn, 1) := by decide +kernel
theorem dX11_takeStock_0 : decode cX11_takeStock 0 = .ok (.aload_n 0, 1) := by decide +kernel
theorem dX11_takeStock_1 : decode cX11_takeStock 1 = .ok (.iload_n 1, 1) := by decide +kernel
theorem dX11_takeStock_2 : decode cX11_takeStock 2 = .ok (.invokevirtual 241, 3) := by decide +kernel
theorem dX11_takeStock_5 : decode cX11_takeStock 5 = .ok (.ifCond .eq 18, 3) := by decide +kernel
theorem dX11_takeStock_8 : decode cX11_takeStock 8 = .ok (.iload_n 2, 1) := by decide +kernel
theorem dX11_takeStock_9 : decode cX11_takeStock 9 = .ok (.iconst 0, 1) := by decide +kernel
theorem dX11_takeStock_10 : decode cX11_takeStock 10 = .ok (.sipush 999, 3) := by decide +kernel
theorem dX11_takeStock_13 : decode cX11_takeStock 13 = .ok (.invokestatic 75, 3) := by decide +kernel
theorem dX11_takeStock_16 : decode cX11_takeStock 16 = .ok (.ifCond .eq 7, 3) := by decide +kernel
theorem dX11_takeStock_19 : decode cX11_takeStock 19 = .ok (.iconst 1, 1) := by decide +kernel
theorem dX11_takeStock_20 : decode cX11_takeStock 20 = .ok (.goto 4, 3) := by decide +kernel
theorem dX11_takeStock_23 : decode cX11_takeStock 23 = .ok (.iconst 0, 1) := by decide +kernel
theorem dX11_takeStock_24 : decode cX11_takeStock 24 = .ok (.istore_n 3, 1) := by decide +kernel
theorem dX11_takeStock_25 : decode cX11_takeStock 25 = .ok (.aload_n 0, 1) := by decide +kernel
theorem dX11_takeStock_26 : decode cX11_takeStock 26 = .ok (.aload_n 0, 1) := by decide +kernel
theorem dX11_takeStock_27 : decode cX11_takeStock 27 = .ok (.iload_n 1, 1) := by decide +kernel
theorem dX11_takeStock_28 : decode cX11_takeStock 28 = .ok (.invokevirtual 241, 3) := by decide +kernel
theorem dX11_takeStock_31 : decode cX11_takeStock 31 = .ok (.ifCond .ne 7, 3) := by decide +kernel
theorem dX11_takeStock_34 : decode cX11_takeStock 34 = .ok (.iconst 1, 1) := by decide +kernel
theorem dX11_takeStock_35 : decode cX11_takeStock 35 = .ok (.goto 4, 3) := by decide +kernel
theorem dX11_takeStock_38 : decode cX11_takeStock 38 = .ok (.iconst 0, 1) := by decide +kernel
theorem dX11_takeStock_39 : decode cX11_takeStock 39 = .ok (.iload_n 2, 1) := by decide +kernel
theorem dX11_takeStock_40 : decode cX11_takeStock 40 = .ok (.iconst 0, 1) := by decide +kernel
theorem dX11_takeStock_41 : decode cX11_takeStock 41 = .ok (.sipush 999, 3) := by decide +kernel
theorem dX11_takeStock_44 : decode cX11_takeStock 44 = .ok (.invokestatic 75, 3) := by decide +kernel
theorem dX11_takeStock_47 : decode cX11_takeStock 47 = .ok (.ifCond .ne 7, 3) := by decide +kernel
theorem dX11_takeStock_50 : decode cX11_takeStock 50 = .ok (.iconst 1, 1) := by decide +kernel
theorem dX11_takeStock_51 : decode cX11_takeStock 51 = .ok (.goto 4, 3) := by decide +kernel
theorem dX11_takeStock_54 : decode cX11_takeStock 54 = .ok (.iconst 0, 1) := by decide +kernel
theorem dX11_takeStock_55 : decode cX11_takeStock 55 = .ok (.iload_n 3, 1) := by decide +kernel
theorem dX11_takeStock_56 : decode cX11_takeStock 56 = .ok (.ifCond .eq 16, 3) := by decide +kernel
theorem dX11_takeStock_59 : decode cX11_takeStock 59 = .ok (.iload_n 2, 1) := by decide +kernel
theorem dX11_takeStock_60 : decode cX11_takeStock 60 = .ok (.aload_n 0, 1) := by decide +kernel
theorem dX11_takeStock_61 : decode cX11_takeStock 61 = .ok (.iload_n 1, 1) := by decide +kernel
theorem dX11_takeStock_62 : decode cX11_takeStock 62 = .ok (.invokevirtual 94, 3) := by decide +kernel
theorem dX11_takeStock_65 : decode cX11_takeStock 65 = .ok (.if_icmp .ge 7, 3) := by decide +kernel
theorem dX11_takeStock_68 : decode cX11_takeStock 68 = .ok (.iconst 1, 1) := by decide +kernel
theorem dX11_takeStock_69 : decode cX11_takeStock 69 = .ok (.goto 4, 3) := by decide +kernel
theorem dX11_takeStock_72 : decode cX11_takeStock 72 = .ok (.iconst 0, 1) := by decide +kernel
theorem dX11_takeStock_73 : decode cX11_takeStock 73 = .ok (.invokevirtual 143, 3) := by decide +kernel
theorem dX11_takeStock_76 : decode cX11_takeStock 76 = .ok (.ifCond .eq 5, 3) := by decide +kernel
theorem dX11_takeStock_79 : decode cX11_takeStock 79 = .ok (.iconst 0, 1) := by decide +kernel
theorem dX11_takeStock_80 : decode cX11_takeStock 80 = .ok (.ireturn, 1) := by decide +kernel
theorem dX11_takeStock_81 : decode cX11_takeStock 81 = .ok (.aload_n 0, 1) := by decide +kernel
theorem dX11_takeStock_82 : decode cX11_takeStock 82 = .ok (.iconst 0, 1) := by decide +kernel
theorem dX11_takeStock_83 : decode cX11_takeStock 83 = .ok (.invokevirtual 271, 3) := by decide +kernel
theorem dX11_takeStock_86 : decode cX11_takeStock 86 = .ok (.aload_n 0, 1) := by decide +kernel
theorem dX11_takeStock_87 : decode cX11_takeStock 87 = .ok (.iload_n 1, 1) := by decide +kernel
theorem dX11_takeStock_88 : decode cX11_takeStock 88 = .ok (.iload_n 2, 1) := by decide +kernel
theorem dX11_takeStock_89 : decode cX11_takeStock 89 = .ok (.invokevirtual 259, 3) := by decide +kernel
theorem dX11_takeStock_92 : decode cX11_takeStock 92 = .ok (.ireturn, 1) := by decide +kernel
theorem dX11_writeOffExpired_0 : decode cX11_writeOffExpired 0 = .ok (.aload_n 0, 1) := by decide +kernel
theorem dX11_writeOffExpired_1 : decode cX11_writeOffExpired 1 = .ok (.iconst 0, 1) := by decide +kernel
theorem dX11_writeOffExpired_2 : decode cX11_writeOffExpired 2 = .ok (.putfield 1, 3) := by decide +kernel
theorem dX11_writeOffExpired_5 : decode cX11_writeOffExpired 5 = .ok (.aload_n 0, 1) := by decide +kernel
theorem dX11_writeOffExpired_6 : decode cX11_writeOffExpired 6 = .ok (.iconst 0, 1) := by decide +kernel
theorem dX11_writeOffExpired_7 : decode cX11_writeOffExpired 7 = .ok (.invokevirtual 271, 3) := by decide +kernel
theorem dX11_writeOffExpired_10 : decode cX11_writeOffExpired 10 = .ok (.aload_n 0, 1) := by decide +kernel
theorem dX11_writeOffExpired_11 : decode cX11_writeOffExpired 11 = .ok (.invokevirtual 262, 3) := by decide +kernel
theorem dX11_writeOffExpired_14 : decode cX11_writeOffExpired 14 = .ok (.ireturn, 1) := by decide +kernel
theorem dX11_passDays_0 : decode cX11_passDays 0 = .ok (.iload_n 1, 1) := by decide +kernel
theorem dX11_passDays_1 : decode cX11_passDays 1 = .ok (.iconst 1, 1) := by decide +kernel
theorem dX11_passDays_2 : decode cX11_passDays 2 = .ok (.sipush 999, 3) := by decide +kernel
theorem dX11_passDays_5 : decode cX11_passDays 5 = .ok (.invokestatic 75, 3) := by decide +kernel
theorem dX11_passDays_8 : decode cX11_passDays 8 = .ok (.istore_n 2, 1) := by decide +kernel
theorem dX11_passDays_9 : decode cX11_passDays 9 = .ok (.aload_n 0, 1) := by decide +kernel
theorem dX11_passDays_10 : decode cX11_passDays 10 = .ok (.iload_n 2, 1) := by decide +kernel
theorem dX11_passDays_11 : decode cX11_passDays 11 = .ok (.ifCond .ne 7, 3) := by decide +kernel
theorem dX11_passDays_14 : decode cX11_passDays 14 = .ok (.iconst 1, 1) := by decide +kernel
theorem dX11_passDays_15 : decode cX11_passDays 15 = .ok (.goto 4, 3) := by decide +kernel
theorem dX11_passDays_18 : decode cX11_passDays 18 = .ok (.iconst 0, 1) := by decide +kernel
theorem dX11_passDays_19 : decode cX11_passDays 19 = .ok (.iload_n 2, 1) := by decide +kernel
theorem dX11_passDays_20 : decode cX11_passDays 20 = .ok (.ifCond .eq 21, 3) := by decide +kernel
theorem dX11_passDays_23 : decode cX11_passDays 23 = .ok (.aload_n 0, 1) := by decide +kernel
theorem dX11_passDays_24 : decode cX11_passDays 24 = .ok (.getfield 13, 3) := by decide +kernel
theorem dX11_passDays_27 : decode cX11_passDays 27 = .ok (.iconst 0, 1) := by decide +kernel
theorem dX11_passDays_28 : decode cX11_passDays 28 = .ok (.iaload, 1) := by decide +kernel
theorem dX11_passDays_29 : decode cX11_passDays 29 = .ok (.iload_n 1, 1) := by decide +kernel
theorem dX11_passDays_30 : decode cX11_passDays 30 = .ok (.iadd, 1) := by decide +kernel
theorem dX11_passDays_31 : decode cX11_passDays 31 = .ok (.sipush 9999, 3) := by decide +kernel
theorem dX11_passDays_34 : decode cX11_passDays 34 = .ok (.if_icmp .le 7, 3) := by decide +kernel
theorem dX11_passDays_37 : decode cX11_passDays 37 = .ok (.iconst 1, 1) := by decide +kernel
theorem dX11_passDays_38 : decode cX11_passDays 38 = .ok (.goto 4, 3) := by decide +kernel
theorem dX11_passDays_41 : decode cX11_passDays 41 = .ok (.iconst 0, 1) := by decide +kernel
theorem dX11_passDays_42 : decode cX11_passDays 42 = .ok (.iconst 0, 1) := by decide +kernel
theorem dX11_passDays_43 : decode cX11_passDays 43 = .ok (.invokevirtual 143, 3) := by decide +kernel
theorem dX11_passDays_46 : decode cX11_passDays 46 = .ok (.ifCond .eq 5, 3) := by decide +kernel
theorem dX11_passDays_49 : decode cX11_passDays 49 = .ok (.iconst 0, 1) := by decide +kernel
theorem dX11_passDays_50 : decode cX11_passDays 50 = .ok (.ireturn, 1) := by decide +kernel
theorem dX11_passDays_51 : decode cX11_passDays 51 = .ok (.aload_n 0, 1) := by decide +kernel
theorem dX11_passDays_52 : decode cX11_passDays 52 = .ok (.iconst 0, 1) := by decide +kernel
theorem dX11_passDays_53 : decode cX11_passDays 53 = .ok (.invokevirtual 271, 3) := by decide +kernel
theorem dX11_passDays_56 : decode cX11_passDays 56 = .ok (.aload_n 0, 1) := by decide +kernel
theorem dX11_passDays_57 : decode cX11_passDays 57 = .ok (.iload_n 1, 1) := by decide +kernel
theorem dX11_passDays_58 : decode cX11_passDays 58 = .ok (.invokevirtual 265, 3) := by decide +kernel
theorem dX11_passDays_61 : decode cX11_passDays 61 = .ok (.ireturn, 1) := by decide +kernel
theorem dX11_undo_0 : decode cX11_undo 0 = .ok (.aload_n 0, 1) := by decide +kernel
theorem dX11_undo_1 : decode cX11_undo 1 = .ok (.aload_n 0, 1) := by decide +kernel
theorem dX11_undo_2 : decode cX11_undo 2 = .ok (.getfield 21, 3) := by decide +kernel
theorem dX11_undo_5 : decode cX11_undo 5 = .ok (.ifCond .ne 7, 3) := by decide +kernel
theorem dX11_undo_8 : decode cX11_undo 8 = .ok (.iconst 1, 1) := by decide +kernel
theorem dX11_undo_9 : decode cX11_undo 9 = .ok (.goto 4, 3) := by decide +kernel
theorem dX11_undo_12 : decode cX11_undo 12 = .ok (.iconst 0, 1) := by decide +kernel
theorem dX11_undo_13 : decode cX11_undo 13 = .ok (.iconst 0, 1) := by decide +kernel
theorem dX11_undo_14 : decode cX11_undo 14 = .ok (.iconst 0, 1) := by decide +kernel
theorem dX11_undo_15 : decode cX11_undo 15 = .ok (.invokevirtual 143, 3) := by decide +kernel
theorem dX11_undo_18 : decode cX11_undo 18 = .ok (.ifCond .eq 5, 3) := by decide +kernel
theorem dX11_undo_21 : decode cX11_undo 21 = .ok (.iconst 0, 1) := by decide +kernel
theorem dX11_undo_22 : decode cX11_undo 22 = .ok (.ireturn, 1) := by decide +kernel
theorem dX11_undo_23 : decode cX11_undo 23 = .ok (.aload_n 0, 1) := by decide +kernel
theorem dX11_undo_24 : decode cX11_undo 24 = .ok (.aload_n 0, 1) := by decide +kernel
theorem dX11_undo_25 : decode cX11_undo 25 = .ok (.getfield 21, 3) := by decide +kernel
theorem dX11_undo_28 : decode cX11_undo 28 = .ok (.iconst 0, 1) := by decide +kernel
theorem dX11_undo_29 : decode cX11_undo 29 = .ok (.invokevirtual 79, 3) := by decide +kernel
theorem dX11_undo_32 : decode cX11_undo 32 = .ok (.aload_n 0, 1) := by decide +kernel
theorem dX11_undo_33 : decode cX11_undo 33 = .ok (.dup, 1) := by decide +kernel
theorem dX11_undo_34 : decode cX11_undo 34 = .ok (.getfield 21, 3) := by decide +kernel
theorem dX11_undo_37 : decode cX11_undo 37 = .ok (.iconst 1, 1) := by decide +kernel
theorem dX11_undo_38 : decode cX11_undo 38 = .ok (.isub, 1) := by decide +kernel
theorem dX11_undo_39 : decode cX11_undo 39 = .ok (.putfield 21, 3) := by decide +kernel
theorem dX11_undo_42 : decode cX11_undo 42 = .ok (.aload_n 0, 1) := by decide +kernel
theorem dX11_undo_43 : decode cX11_undo 43 = .ok (.getfield 21, 3) := by decide +kernel
theorem dX11_undo_46 : decode cX11_undo 46 = .ok (.ireturn, 1) := by decide +kernel
theorem dX11_save_0 : decode cX11_save 0 = .ok (.aload_n 0, 1) := by decide +kernel
theorem dX11_save_1 : decode cX11_save 1 = .ok (.iload_n 1, 1) := by decide +kernel
theorem dX11_save_2 : decode cX11_save 2 = .ok (.iconst 0, 1) := by decide +kernel
theorem dX11_save_3 : decode cX11_save 3 = .ok (.iconst 1, 1) := by decide +kernel
theorem dX11_save_4 : decode cX11_save 4 = .ok (.invokestatic 75, 3) := by decide +kernel
theorem dX11_save_7 : decode cX11_save 7 = .ok (.ifCond .ne 7, 3) := by decide +kernel
theorem dX11_save_10 : decode cX11_save 10 = .ok (.iconst 1, 1) := by decide +kernel
theorem dX11_save_11 : decode cX11_save 11 = .ok (.goto 4, 3) := by decide +kernel
theorem dX11_save_14 : decode cX11_save 14 = .ok (.iconst 0, 1) := by decide +kernel
theorem dX11_save_15 : decode cX11_save 15 = .ok (.iconst 0, 1) := by decide +kernel
theorem dX11_save_16 : decode cX11_save 16 = .ok (.iconst 0, 1) := by decide +kernel
theorem dX11_save_17 : decode cX11_save 17 = .ok (.invokevirtual 143, 3) := by decide +kernel
theorem dX11_save_20 : decode cX11_save 20 = .ok (.ifCond .eq 5, 3) := by decide +kernel
theorem dX11_save_23 : decode cX11_save 23 = .ok (.iconst 0, 1) := by decide +kernel
theorem dX11_save_24 : decode cX11_save 24 = .ok (.ireturn, 1) := by decide +kernel
theorem dX11_save_25 : decode cX11_save 25 = .ok (.aload_n 0, 1) := by decide +kernel
theorem dX11_save_26 : decode cX11_save 26 = .ok (.iconst 0, 1) := by decide +kernel
theorem dX11_save_27 : decode cX11_save 27 = .ok (.bipush 7, 2) := by decide +kernel
theorem dX11_save_29 : decode cX11_save 29 = .ok (.iload_n 1, 1) := by decide +kernel
theorem dX11_save_30 : decode cX11_save 30 = .ok (.iadd, 1) := by decide +kernel
theorem dX11_save_31 : decode cX11_save 31 = .ok (.invokevirtual 79, 3) := by decide +kernel
theorem dX11_save_34 : decode cX11_save 34 = .ok (.aload_n 0, 1) := by decide +kernel
theorem dX11_save_35 : decode cX11_save 35 = .ok (.getfield 17, 3) := by decide +kernel
theorem dX11_save_38 : decode cX11_save 38 = .ok (.iload_n 1, 1) := by decide +kernel
theorem dX11_save_39 : decode cX11_save 39 = .ok (.iconst 1, 1) := by decide +kernel
theorem dX11_save_40 : decode cX11_save 40 = .ok (.bastore, 1) := by decide +kernel
theorem dX11_save_41 : decode cX11_save 41 = .ok (.aload_n 0, 1) := by decide +kernel
theorem dX11_save_42 : decode cX11_save 42 = .ok (.getfield 13, 3) := by decide +kernel
theorem dX11_save_45 : decode cX11_save 45 = .ok (.iconst 0, 1) := by decide +kernel
theorem dX11_save_46 : decode cX11_save 46 = .ok (.iaload, 1) := by decide +kernel
theorem dX11_save_47 : decode cX11_save 47 = .ok (.ireturn, 1) := by decide +kernel
theorem dX11_restore_0 : decode cX11_restore 0 = .ok (.iload_n 1, 1) := by decide +kernel
theorem dX11_restore_1 : decode cX11_restore 1 = .ok (.iconst 0, 1) := by decide +kernel
theorem dX11_restore_2 : decode cX11_restore 2 = .ok (.iconst 1, 1) := by decide +kernel
theorem dX11_restore_3 : decode cX11_restore 3 = .ok (.invokestatic 75, 3) := by decide +kernel
theorem dX11_restore_6 : decode cX11_restore 6 = .ok (.istore_n 2, 1) := by decide +kernel
theorem dX11_restore_7 : decode cX11_restore 7 = .ok (.aload_n 0, 1) := by decide +kernel
theorem dX11_restore_8 : decode cX11_restore 8 = .ok (.iload_n 2, 1) := by decide +kernel
theorem dX11_restore_9 : decode cX11_restore 9 = .ok (.ifCond .ne 7, 3) := by decide +kernel
theorem dX11_restore_12 : decode cX11_restore 12 = .ok (.iconst 1, 1) := by decide +kernel
theorem dX11_restore_13 : decode cX11_restore 13 = .ok (.goto 4, 3) := by decide +kernel
theorem dX11_restore_16 : decode cX11_restore 16 = .ok (.iconst 0, 1) := by decide +kernel
theorem dX11_restore_17 : decode cX11_restore 17 = .ok (.iload_n 2, 1) := by decide +kernel
theorem dX11_restore_18 : decode cX11_restore 18 = .ok (.ifCond .eq 16, 3) := by decide +kernel
theorem dX11_restore_21 : decode cX11_restore 21 = .ok (.aload_n 0, 1) := by decide +kernel
theorem dX11_restore_22 : decode cX11_restore 22 = .ok (.getfield 17, 3) := by decide +kernel
theorem dX11_restore_25 : decode cX11_restore 25 = .ok (.iload_n 1, 1) := by decide +kernel
theorem dX11_restore_26 : decode cX11_restore 26 = .ok (.baload, 1) := by decide +kernel
theorem dX11_restore_27 : decode cX11_restore 27 = .ok (.ifCond .ne 7, 3) := by decide +kernel
theorem dX11_restore_30 : decode cX11_restore 30 = .ok (.iconst 1, 1) := by decide +kernel
theorem dX11_restore_31 : decode cX11_restore 31 = .ok (.goto 4, 3) := by decide +kernel
theorem dX11_restore_34 : decode cX11_restore 34 = .ok (.iconst 0, 1) := by decide +kernel
theorem dX11_restore_35 : decode cX11_restore 35 = .ok (.iconst 0, 1) := by decide +kernel
theorem dX11_restore_36 : decode cX11_restore 36 = .ok (.invokevirtual 143, 3) := by decide +kernel
theorem dX11_restore_39 : decode cX11_restore 39 = .ok (.ifCond .eq 5, 3) := by decide +kernel
theorem dX11_restore_42 : decode cX11_restore 42 = .ok (.iconst 0, 1) := by decide +kernel
theorem dX11_restore_43 : decode cX11_restore 43 = .ok (.ireturn, 1) := by decide +kernel
theorem dX11_restore_44 : decode cX11_restore 44 = .ok (.aload_n 0, 1) := by decide +kernel
theorem dX11_restore_45 : decode cX11_restore 45 = .ok (.bipush 7, 2) := by decide +kernel
theorem dX11_restore_47 : decode cX11_restore 47 = .ok (.iload_n 1, 1) := by decide +kernel
theorem dX11_restore_48 : decode cX11_restore 48 = .ok (.iadd, 1) := by decide +kernel
theorem dX11_restore_49 : decode cX11_restore 49 = .ok (.iconst 0, 1) := by decide +kernel
theorem dX11_restore_50 : decode cX11_restore 50 = .ok (.invokevirtual 79, 3) := by decide +kernel
theorem dX11_restore_53 : decode cX11_restore 53 = .ok (.aload_n 0, 1) := by decide +kernel
theorem dX11_restore_54 : decode cX11_restore 54 = .ok (.iconst 0, 1) := by decide +kernel
theorem dX11_restore_55 : decode cX11_restore 55 = .ok (.putfield 21, 3) := by decide +kernel
theorem dX11_restore_58 : decode cX11_restore 58 = .ok (.aload_n 0, 1) := by decide +kernel
theorem dX11_restore_59 : decode cX11_restore 59 = .ok (.getfield 13, 3) := by decide +kernel
theorem dX11_restore_62 : decode cX11_restore 62 = .ok (.iconst 0, 1) := by decide +kernel
theorem dX11_restore_63 : decode cX11_restore 63 = .ok (.iaload, 1) := by decide +kernel
theorem dX11_restore_64 : decode cX11_restore 64 = .ok (.ireturn, 1) := by decide +kernel
theorem dX11_put_0 : decode cX11_put 0 = .ok (.aload_n 0, 1) := by decide +kernel
theorem dX11_put_1 : decode cX11_put 1 = .ok (.getfield 36, 3) := by decide +kernel
theorem dX11_put_4 : decode cX11_put 4 = .ok (.aload_n 0, 1) := by decide +kernel
theorem dX11_put_5 : decode cX11_put 5 = .ok (.getfield 39, 3) := by decide +kernel
theorem dX11_put_8 : decode cX11_put 8 = .ok (.iload_n 1, 1) := by decide +kernel
theorem dX11_put_9 : decode cX11_put 9 = .ok (.iastore, 1) := by decide +kernel
theorem dX11_put_10 : decode cX11_put 10 = .ok (.aload_n 0, 1) := by decide +kernel
theorem dX11_put_11 : decode cX11_put 11 = .ok (.dup, 1) := by decide +kernel
theorem dX11_put_12 : decode cX11_put 12 = .ok (.getfield 39, 3) := by decide +kernel
theorem dX11_put_15 : decode cX11_put 15 = .ok (.iconst 1, 1) := by decide +kernel
theorem dX11_put_16 : decode cX11_put 16 = .ok (.iadd, 1) := by decide +kernel
theorem dX11_put_17 : decode cX11_put 17 = .ok (.putfield 39, 3) := by decide +kernel
theorem dX11_put_20 : decode cX11_put 20 = .ok (.return_, 1) := by decide +kernel
theorem dX11_putNumber_0 : decode cX11_putNumber 0 = .ok (.iconst 1, 1) := by decide +kernel
theorem dX11_putNumber_1 : decode cX11_putNumber 1 = .ok (.istore_n 2, 1) := by decide +kernel
theorem dX11_putNumber_2 : decode cX11_putNumber 2 = .ok (.iload_n 1, 1) := by decide +kernel
theorem dX11_putNumber_3 : decode cX11_putNumber 3 = .ok (.iload_n 2, 1) := by decide +kernel
theorem dX11_putNumber_4 : decode cX11_putNumber 4 = .ok (.idiv, 1) := by decide +kernel
theorem dX11_putNumber_5 : decode cX11_putNumber 5 = .ok (.bipush 10, 2) := by decide +kernel
theorem dX11_putNumber_7 : decode cX11_putNumber 7 = .ok (.if_icmp .lt 11, 3) := by decide +kernel
theorem dX11_putNumber_10 : decode cX11_putNumber 10 = .ok (.iload_n 2, 1) := by decide +kernel
theorem dX11_putNumber_11 : decode cX11_putNumber 11 = .ok (.bipush 10, 2) := by decide +kernel
theorem dX11_putNumber_13 : decode cX11_putNumber 13 = .ok (.imul, 1) := by decide +kernel
theorem dX11_putNumber_14 : decode cX11_putNumber 14 = .ok (.istore_n 2, 1) := by decide +kernel
theorem dX11_putNumber_15 : decode cX11_putNumber 15 = .ok (.goto (-13), 3) := by decide +kernel
theorem dX11_putNumber_18 : decode cX11_putNumber 18 = .ok (.iload_n 2, 1) := by decide +kernel
theorem dX11_putNumber_19 : decode cX11_putNumber 19 = .ok (.ifCond .le 24, 3) := by decide +kernel
theorem dX11_putNumber_22 : decode cX11_putNumber 22 = .ok (.aload_n 0, 1) := by decide +kernel
theorem dX11_putNumber_23 : decode cX11_putNumber 23 = .ok (.bipush 48, 2) := by decide +kernel
theorem dX11_putNumber_25 : decode cX11_putNumber 25 = .ok (.iload_n 1, 1) := by decide +kernel
theorem dX11_putNumber_26 : decode cX11_putNumber 26 = .ok (.iload_n 2, 1) := by decide +kernel
theorem dX11_putNumber_27 : decode cX11_putNumber 27 = .ok (.idiv, 1) := by decide +kernel
theorem dX11_putNumber_28 : decode cX11_putNumber 28 = .ok (.bipush 10, 2) := by decide +kernel
theorem dX11_putNumber_30 : decode cX11_putNumber 30 = .ok (.irem, 1) := by decide +kernel
theorem dX11_putNumber_31 : decode cX11_putNumber 31 = .ok (.iadd, 1) := by decide +kernel
theorem dX11_putNumber_32 : decode cX11_putNumber 32 = .ok (.invokevirtual 316, 3) := by decide +kernel
theorem dX11_putNumber_35 : decode cX11_putNumber 35 = .ok (.iload_n 2, 1) := by decide +kernel
theorem dX11_putNumber_36 : decode cX11_putNumber 36 = .ok (.bipush 10, 2) := by decide +kernel
theorem dX11_putNumber_38 : decode cX11_putNumber 38 = .ok (.idiv, 1) := by decide +kernel
theorem dX11_putNumber_39 : decode cX11_putNumber 39 = .ok (.istore_n 2, 1) := by decide +kernel
theorem dX11_putNumber_40 : decode cX11_putNumber 40 = .ok (.goto (-22), 3) := by decide +kernel
theorem dX11_putNumber_43 : decode cX11_putNumber 43 = .ok (.return_, 1) := by decide +kernel
theorem dX11_batchBehind_0 : decode cX11_batchBehind 0 = .ok (.iconst (-1), 1) := by decide +kernel
theorem dX11_batchBehind_1 : decode cX11_batchBehind 1 = .ok (.istore 4, 2) := by decide +kernel
theorem dX11_batchBehind_3 : decode cX11_batchBehind 3 = .ok (.iconst 0, 1) := by decide +kernel
theorem dX11_batchBehind_4 : decode cX11_batchBehind 4 = .ok (.istore 5, 2) := by decide +kernel
theorem dX11_batchBehind_6 : decode cX11_batchBehind 6 = .ok (.iload 5, 2) := by decide +kernel
theorem dX11_batchBehind_8 : decode cX11_batchBehind 8 = .ok (.aload_n 0, 1) := by decide +kernel
theorem dX11_batchBehind_9 : decode cX11_batchBehind 9 = .ok (.getfield 13, 3) := by decide +kernel
theorem dX11_batchBehind_12 : decode cX11_batchBehind 12 = .ok (.iconst 2, 1) := by decide +kernel
theorem dX11_batchBehind_13 : decode cX11_batchBehind 13 = .ok (.iaload, 1) := by decide +kernel
theorem dX11_batchBehind_14 : decode cX11_batchBehind 14 = .ok (.if_icmp .ge 99, 3) := by decide +kernel
theorem dX11_batchBehind_17 : decode cX11_batchBehind 17 = .ok (.aload_n 0, 1) := by decide +kernel
theorem dX11_batchBehind_18 : decode cX11_batchBehind 18 = .ok (.iload 5, 2) := by decide +kernel
theorem dX11_batchBehind_20 : decode cX11_batchBehind 20 = .ok (.iload_n 1, 1) := by decide +kernel
theorem dX11_batchBehind_21 : decode cX11_batchBehind 21 = .ok (.invokevirtual 98, 3) := by decide +kernel
theorem dX11_batchBehind_24 : decode cX11_batchBehind 24 = .ok (.ifCond .eq 83, 3) := by decide +kernel
theorem dX11_batchBehind_27 : decode cX11_batchBehind 27 = .ok (.aload_n 0, 1) := by decide +kernel
theorem dX11_batchBehind_28 : decode cX11_batchBehind 28 = .ok (.iload 5, 2) := by decide +kernel
theorem dX11_batchBehind_30 : decode cX11_batchBehind 30 = .ok (.iconst 1, 1) := by decide +kernel
theorem dX11_batchBehind_31 : decode cX11_batchBehind 31 = .ok (.invokevirtual 91, 3) := by decide +kernel
theorem dX11_batchBehind_34 : decode cX11_batchBehind 34 = .ok (.ifCond .ne 6, 3) := by decide +kernel
theorem dX11_batchBehind_37 : decode cX11_batchBehind 37 = .ok (.goto 70, 3) := by decide +kernel
theorem dX11_batchBehind_40 : decode cX11_batchBehind 40 = .ok (.aload_n 0, 1) := by decide +kernel
theorem dX11_batchBehind_41 : decode cX11_batchBehind 41 = .ok (.iload 5, 2) := by decide +kernel
theorem dX11_batchBehind_43 : decode cX11_batchBehind 43 = .ok (.iconst 2, 1) := by decide +kernel
theorem dX11_batchBehind_44 : decode cX11_batchBehind 44 = .ok (.invokevirtual 91, 3) := by decide +kernel
theorem dX11_batchBehind_47 : decode cX11_batchBehind 47 = .ok (.iload_n 2, 1) := by decide +kernel
theorem dX11_batchBehind_48 : decode cX11_batchBehind 48 = .ok (.if_icmp .gt 20, 3) := by decide +kernel
theorem dX11_batchBehind_51 : decode cX11_batchBehind 51 = .ok (.aload_n 0, 1) := by decide +kernel
theorem dX11_batchBehind_52 : decode cX11_batchBehind 52 = .ok (.iload 5, 2) := by decide +kernel
theorem dX11_batchBehind_54 : decode cX11_batchBehind 54 = .ok (.iconst 2, 1) := by decide +kernel
theorem dX11_batchBehind_55 : decode cX11_batchBehind 55 = .ok (.invokevirtual 91, 3) := by decide +kernel
theorem dX11_batchBehind_58 : decode cX11_batchBehind 58 = .ok (.iload_n 2, 1) := by decide +kernel
theorem dX11_batchBehind_59 : decode cX11_batchBehind 59 = .ok (.if_icmp .ne 13, 3) := by decide +kernel
theorem dX11_batchBehind_62 : decode cX11_batchBehind 62 = .ok (.iload 5, 2) := by decide +kernel
theorem dX11_batchBehind_64 : decode cX11_batchBehind 64 = .ok (.iload_n 3, 1) := by decide +kernel
theorem dX11_batchBehind_65 : decode cX11_batchBehind 65 = .ok (.if_icmp .le 7, 3) := by decide +kernel
theorem dX11_batchBehind_68 : decode cX11_batchBehind 68 = .ok (.iconst 1, 1) := by decide +kernel
theorem dX11_batchBehind_69 : decode cX11_batchBehind 69 = .ok (.goto 4, 3) := by decide +kernel
theorem dX11_batchBehind_72 : decode cX11_batchBehind 72 = .ok (.iconst 0, 1) := by decide +kernel
theorem dX11_batchBehind_73 : decode cX11_batchBehind 73 = .ok (.istore 6, 2) := by decide +kernel
theorem dX11_batchBehind_75 : decode cX11_batchBehind 75 = .ok (.iload 6, 2) := by decide +kernel
theorem dX11_batchBehind_77 : decode cX11_batchBehind 77 = .ok (.ifCond .eq 30, 3) := by decide +kernel
theorem dX11_batchBehind_80 : decode cX11_batchBehind 80 = .ok (.iload 4, 2) := by decide +kernel
theorem dX11_batchBehind_82 : decode cX11_batchBehind 82 = .ok (.iconst (-1), 1) := by decide +kernel
theorem dX11_batchBehind_83 : decode cX11_batchBehind 83 = .ok (.if_icmp .eq 20, 3) := by decide +kernel
theorem dX11_batchBehind_86 : decode cX11_batchBehind 86 = .ok (.aload_n 0, 1) := by decide +kernel
theorem dX11_batchBehind_87 : decode cX11_batchBehind 87 = .ok (.iload 5, 2) := by decide +kernel
theorem dX11_batchBehind_89 : decode cX11_batchBehind 89 = .ok (.iconst 2, 1) := by decide +kernel
theorem dX11_batchBehind_90 : decode cX11_batchBehind 90 = .ok (.invokevirtual 91, 3) := by decide +kernel
theorem dX11_batchBehind_93 : decode cX11_batchBehind 93 = .ok (.aload_n 0, 1) := by decide +kernel
theorem dX11_batchBehind_94 : decode cX11_batchBehind 94 = .ok (.iload 4, 2) := by decide +kernel
theorem dX11_batchBehind_96 : decode cX11_batchBehind 96 = .ok (.iconst 2, 1) := by decide +kernel
theorem dX11_batchBehind_97 : decode cX11_batchBehind 97 = .ok (.invokevirtual 91, 3) := by decide +kernel
theorem dX11_batchBehind_100 : decode cX11_batchBehind 100 = .ok (.if_icmp .ge 7, 3) := by decide +kernel
theorem dX11_batchBehind_103 : decode cX11_batchBehind 103 = .ok (.iload 5, 2) := by decide +kernel
theorem dX11_batchBehind_105 : decode cX11_batchBehind 105 = .ok (.istore 4, 2) := by decide +kernel
theorem dX11_batchBehind_107 : decode cX11_batchBehind 107 = .ok (.iinc 5 1, 3) := by decide +kernel
theorem dX11_batchBehind_110 : decode cX11_batchBehind 110 = .ok (.goto (-104), 3) := by decide +kernel
theorem dX11_batchBehind_113 : decode cX11_batchBehind 113 = .ok (.iload 4, 2) := by decide +kernel
theorem dX11_batchBehind_115 : decode cX11_batchBehind 115 = .ok (.ireturn, 1) := by decide +kernel
theorem dX11_writeBatches_0 : decode cX11_writeBatches 0 = .ok (.aload_n 0, 1) := by decide +kernel
theorem dX11_writeBatches_1 : decode cX11_writeBatches 1 = .ok (.aload_n 0, 1) := by decide +kernel
theorem dX11_writeBatches_2 : decode cX11_writeBatches 2 = .ok (.iload_n 1, 1) := by decide +kernel
theorem dX11_writeBatches_3 : decode cX11_writeBatches 3 = .ok (.invokevirtual 283, 3) := by decide +kernel
theorem dX11_writeBatches_6 : decode cX11_writeBatches 6 = .ok (.ifCond .ne 7, 3) := by decide +kernel
theorem dX11_writeBatches_9 : decode cX11_writeBatches 9 = .ok (.iconst 1, 1) := by decide +kernel
theorem dX11_writeBatches_10 : decode cX11_writeBatches 10 = .ok (.goto 4, 3) := by decide +kernel
theorem dX11_writeBatches_13 : decode cX11_writeBatches 13 = .ok (.iconst 0, 1) := by decide +kernel
theorem dX11_writeBatches_14 : decode cX11_writeBatches 14 = .ok (.iconst 0, 1) := by decide +kernel
theorem dX11_writeBatches_15 : decode cX11_writeBatches 15 = .ok (.iconst 0, 1) := by decide +kernel
theorem dX11_writeBatches_16 : decode cX11_writeBatches 16 = .ok (.invokevirtual 143, 3) := by decide +kernel
theorem dX11_writeBatches_19 : decode cX11_writeBatches 19 = .ok (.ifCond .eq 5, 3) := by decide +kernel
theorem dX11_writeBatches_22 : decode cX11_writeBatches 22 = .ok (.iconst 0, 1) := by decide +kernel
theorem dX11_writeBatches_23 : decode cX11_writeBatches 23 = .ok (.ireturn, 1) := by decide +kernel
theorem dX11_writeBatches_24 : decode cX11_writeBatches 24 = .ok (.aload_n 0, 1) := by decide +kernel
theorem dX11_writeBatches_25 : decode cX11_writeBatches 25 = .ok (.iconst 0, 1) := by decide +kernel
theorem dX11_writeBatches_26 : decode cX11_writeBatches 26 = .ok (.putfield 39, 3) := by decide +kernel
theorem dX11_writeBatches_29 : decode cX11_writeBatches 29 = .ok (.aload_n 0, 1) := by decide +kernel
theorem dX11_writeBatches_30 : decode cX11_writeBatches 30 = .ok (.iload_n 1, 1) := by decide +kernel
theorem dX11_writeBatches_31 : decode cX11_writeBatches 31 = .ok (.iconst (-1), 1) := by decide +kernel
theorem dX11_writeBatches_32 : decode cX11_writeBatches 32 = .ok (.iconst (-1), 1) := by decide +kernel
theorem dX11_writeBatches_33 : decode cX11_writeBatches 33 = .ok (.invokevirtual 319, 3) := by decide +kernel
theorem dX11_writeBatches_36 : decode cX11_writeBatches 36 = .ok (.istore_n 2, 1) := by decide +kernel
theorem dX11_writeBatches_37 : decode cX11_writeBatches 37 = .ok (.iload_n 2, 1) := by decide +kernel
theorem dX11_writeBatches_38 : decode cX11_writeBatches 38 = .ok (.iconst (-1), 1) := by decide +kernel
theorem dX11_writeBatches_39 : decode cX11_writeBatches 39 = .ok (.if_icmp .eq 72, 3) := by decide +kernel
theorem dX11_writeBatches_42 : decode cX11_writeBatches 42 = .ok (.aload_n 0, 1) := by decide +kernel
theorem dX11_writeBatches_43 : decode cX11_writeBatches 43 = .ok (.getfield 39, 3) := by decide +kernel
theorem dX11_writeBatches_46 : decode cX11_writeBatches 46 = .ok (.ifCond .le 9, 3) := by decide +kernel
theorem dX11_writeBatches_49 : decode cX11_writeBatches 49 = .ok (.aload_n 0, 1) := by decide +kernel
theorem dX11_writeBatches_50 : decode cX11_writeBatches 50 = .ok (.bipush 32, 2) := by decide +kernel
theorem dX11_writeBatches_52 : decode cX11_writeBatches 52 = .ok (.invokevirtual 316, 3) := by decide +kernel
theorem dX11_writeBatches_55 : decode cX11_writeBatches 55 = .ok (.aload_n 0, 1) := by decide +kernel
theorem dX11_writeBatches_56 : decode cX11_writeBatches 56 = .ok (.aload_n 0, 1) := by decide +kernel
theorem dX11_writeBatches_57 : decode cX11_writeBatches 57 = .ok (.iload_n 2, 1) := by decide +kernel
theorem dX11_writeBatches_58 : decode cX11_writeBatches 58 = .ok (.iconst 1, 1) := by decide +kernel
theorem dX11_writeBatches_59 : decode cX11_writeBatches 59 = .ok (.invokevirtual 91, 3) := by decide +kernel
theorem dX11_writeBatches_62 : decode cX11_writeBatches 62 = .ok (.invokevirtual 322, 3) := by decide +kernel
theorem dX11_writeBatches_65 : decode cX11_writeBatches 65 = .ok (.aload_n 0, 1) := by decide +kernel
theorem dX11_writeBatches_66 : decode cX11_writeBatches 66 = .ok (.bipush 64, 2) := by decide +kernel
theorem dX11_writeBatches_68 : decode cX11_writeBatches 68 = .ok (.invokevirtual 316, 3) := by decide +kernel
theorem dX11_writeBatches_71 : decode cX11_writeBatches 71 = .ok (.aload_n 0, 1) := by decide +kernel
theorem dX11_writeBatches_72 : decode cX11_writeBatches 72 = .ok (.aload_n 0, 1) := by decide +kernel
theorem dX11_writeBatches_73 : decode cX11_writeBatches 73 = .ok (.iload_n 2, 1) := by decide +kernel
theorem dX11_writeBatches_74 : decode cX11_writeBatches 74 = .ok (.iconst 2, 1) := by decide +kernel
theorem dX11_writeBatches_75 : decode cX11_writeBatches 75 = .ok (.invokevirtual 91, 3) := by decide +kernel
theorem dX11_writeBatches_78 : decode cX11_writeBatches 78 = .ok (.invokevirtual 322, 3) := by decide +kernel
theorem dX11_writeBatches_81 : decode cX11_writeBatches 81 = .ok (.aload_n 0, 1) := by decide +kernel
theorem dX11_writeBatches_82 : decode cX11_writeBatches 82 = .ok (.iload_n 2, 1) := by decide +kernel
theorem dX11_writeBatches_83 : decode cX11_writeBatches 83 = .ok (.invokevirtual 124, 3) := by decide +kernel
theorem dX11_writeBatches_86 : decode cX11_writeBatches 86 = .ok (.ifCond .eq 9, 3) := by decide +kernel
theorem dX11_writeBatches_89 : decode cX11_writeBatches 89 = .ok (.aload_n 0, 1) := by decide +kernel
theorem dX11_writeBatches_90 : decode cX11_writeBatches 90 = .ok (.bipush 33, 2) := by decide +kernel
theorem dX11_writeBatches_92 : decode cX11_writeBatches 92 = .ok (.invokevirtual 316, 3) := by decide +kernel
theorem dX11_writeBatches_95 : decode cX11_writeBatches 95 = .ok (.aload_n 0, 1) := by decide +kernel
theorem dX11_writeBatches_96 : decode cX11_writeBatches 96 = .ok (.iload_n 1, 1) := by decide +kernel
theorem dX11_writeBatches_97 : decode cX11_writeBatches 97 = .ok (.aload_n 0, 1) := by decide +kernel
theorem dX11_writeBatches_98 : decode cX11_writeBatches 98 = .ok (.iload_n 2, 1) := by decide +kernel
theorem dX11_writeBatches_99 : decode cX11_writeBatches 99 = .ok (.iconst 2, 1) := by decide +kernel
theorem dX11_writeBatches_100 : decode cX11_writeBatches 100 = .ok (.invokevirtual 91, 3) := by decide +kernel
theorem dX11_writeBatches_103 : decode cX11_writeBatches 103 = .ok (.iload_n 2, 1) := by decide +kernel
theorem dX11_writeBatches_104 : decode cX11_writeBatches 104 = .ok (.invokevirtual 319, 3) := by decide +kernel
theorem dX11_writeBatches_107 : decode cX11_writeBatches 107 = .ok (.istore_n 2, 1) := by decide +kernel
theorem dX11_writeBatches_108 : decode cX11_writeBatches 108 = .ok (.goto (-71), 3) := by decide +kernel
theorem dX11_writeBatches_111 : decode cX11_writeBatches 111 = .ok (.aload_n 0, 1) := by decide +kernel
theorem dX11_writeBatches_112 : decode cX11_writeBatches 112 = .ok (.getfield 39, 3) := by decide +kernel
theorem dX11_writeBatches_115 : decode cX11_writeBatches 115 = .ok (.ireturn, 1) := by decide +kernel
theorem dX11_outputByte_0 : decode cX11_outputByte 0 = .ok (.aload_n 0, 1) := by decide +kernel
theorem dX11_outputByte_1 : decode cX11_outputByte 1 = .ok (.iload_n 1, 1) := by decide +kernel
theorem dX11_outputByte_2 : decode cX11_outputByte 2 = .ok (.iconst 0, 1) := by decide +kernel
theorem dX11_outputByte_3 : decode cX11_outputByte 3 = .ok (.aload_n 0, 1) := by decide +kernel
theorem dX11_outputByte_4 : decode cX11_outputByte 4 = .ok (.getfield 39, 3) := by decide +kernel
theorem dX11_outputByte_7 : decode cX11_outputByte 7 = .ok (.iconst 1, 1) := by decide +kernel
theorem dX11_outputByte_8 : decode cX11_outputByte 8 = .ok (.isub, 1) := by decide +kernel
theorem dX11_outputByte_9 : decode cX11_outputByte 9 = .ok (.invokestatic 75, 3) := by decide +kernel
theorem dX11_outputByte_12 : decode cX11_outputByte 12 = .ok (.ifCond .ne 7, 3) := by decide +kernel
theorem dX11_outputByte_15 : decode cX11_outputByte 15 = .ok (.iconst 1, 1) := by decide +kernel
theorem dX11_outputByte_16 : decode cX11_outputByte 16 = .ok (.goto 4, 3) := by decide +kernel
theorem dX11_outputByte_19 : decode cX11_outputByte 19 = .ok (.iconst 0, 1) := by decide +kernel
theorem dX11_outputByte_20 : decode cX11_outputByte 20 = .ok (.iconst 0, 1) := by decide +kernel
theorem dX11_outputByte_21 : decode cX11_outputByte 21 = .ok (.iconst 0, 1) := by decide +kernel
theorem dX11_outputByte_22 : decode cX11_outputByte 22 = .ok (.invokevirtual 143, 3) := by decide +kernel
theorem dX11_outputByte_25 : decode cX11_outputByte 25 = .ok (.ifCond .eq 5, 3) := by decide +kernel
theorem dX11_outputByte_28 : decode cX11_outputByte 28 = .ok (.iconst 0, 1) := by decide +kernel
theorem dX11_outputByte_29 : decode cX11_outputByte 29 = .ok (.ireturn, 1) := by decide +kernel
theorem dX11_outputByte_30 : decode cX11_outputByte 30 = .ok (.aload_n 0, 1) := by decide +kernel
theorem dX11_outputByte_31 : decode cX11_outputByte 31 = .ok (.getfield 36, 3) := by decide +kernel
theorem dX11_outputByte_34 : decode cX11_outputByte 34 = .ok (.iload_n 1, 1) := by decide +kernel
theorem dX11_outputByte_35 : decode cX11_outputByte 35 = .ok (.iaload, 1) := by decide +kernel
theorem dX11_outputByte_36 : decode cX11_outputByte 36 = .ok (.ireturn, 1) := by decide +kernel
