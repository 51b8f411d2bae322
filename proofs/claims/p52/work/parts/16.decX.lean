theorem dX0_init_0 : decode cX0_init 0 = .ok (.aload_n 0, 1) := by decide +kernel
theorem dX0_init_1 : decode cX0_init 1 = .ok (.invokespecial 1, 3) := by decide +kernel
theorem dX0_init_4 : decode cX0_init 4 = .ok (.aload_n 0, 1) := by decide +kernel
theorem dX0_init_5 : decode cX0_init 5 = .ok (.new 7, 3) := by decide +kernel
theorem dX0_init_8 : decode cX0_init 8 = .ok (.dup, 1) := by decide +kernel
theorem dX0_init_9 : decode cX0_init 9 = .ok (.invokespecial 9, 3) := by decide +kernel
theorem dX0_init_12 : decode cX0_init 12 = .ok (.putfield 10, 3) := by decide +kernel
theorem dX0_init_15 : decode cX0_init 15 = .ok (.aload_n 0, 1) := by decide +kernel
theorem dX0_init_16 : decode cX0_init 16 = .ok (.iconst 0, 1) := by decide +kernel
theorem dX0_init_17 : decode cX0_init 17 = .ok (.putfield 16, 3) := by decide +kernel
theorem dX0_init_20 : decode cX0_init 20 = .ok (.aload_n 0, 1) := by decide +kernel
theorem dX0_init_21 : decode cX0_init 21 = .ok (.iconst 0, 1) := by decide +kernel
theorem dX0_init_22 : decode cX0_init 22 = .ok (.putfield 20, 3) := by decide +kernel
theorem dX0_init_25 : decode cX0_init 25 = .ok (.aload_n 0, 1) := by decide +kernel
theorem dX0_init_26 : decode cX0_init 26 = .ok (.iload_n 1, 1) := by decide +kernel
theorem dX0_init_27 : decode cX0_init 27 = .ok (.putfield 24, 3) := by decide +kernel
theorem dX0_init_30 : decode cX0_init 30 = .ok (.aload_n 0, 1) := by decide +kernel
theorem dX0_init_31 : decode cX0_init 31 = .ok (.iload_n 2, 1) := by decide +kernel
theorem dX0_init_32 : decode cX0_init 32 = .ok (.putfield 27, 3) := by decide +kernel
theorem dX0_init_35 : decode cX0_init 35 = .ok (.aload_n 0, 1) := by decide +kernel
theorem dX0_init_36 : decode cX0_init 36 = .ok (.iload_n 3, 1) := by decide +kernel
theorem dX0_init_37 : decode cX0_init 37 = .ok (.putfield 30, 3) := by decide +kernel
theorem dX0_init_40 : decode cX0_init 40 = .ok (.aload_n 0, 1) := by decide +kernel
theorem dX0_init_41 : decode cX0_init 41 = .ok (.iload 4, 2) := by decide +kernel
theorem dX0_init_43 : decode cX0_init 43 = .ok (.putfield 33, 3) := by decide +kernel
theorem dX0_init_46 : decode cX0_init 46 = .ok (.return_, 1) := by decide +kernel
theorem dX0_takeNumber_0 : decode cX0_takeNumber 0 = .ok (.aload_n 0, 1) := by decide +kernel
theorem dX0_takeNumber_1 : decode cX0_takeNumber 1 = .ok (.getfield 24, 3) := by decide +kernel
theorem dX0_takeNumber_4 : decode cX0_takeNumber 4 = .ok (.aload_n 0, 1) := by decide +kernel
theorem dX0_takeNumber_5 : decode cX0_takeNumber 5 = .ok (.getfield 10, 3) := by decide +kernel
theorem dX0_takeNumber_8 : decode cX0_takeNumber 8 = .ok (.invokevirtual 36, 3) := by decide +kernel
theorem dX0_takeNumber_11 : decode cX0_takeNumber 11 = .ok (.iadd, 1) := by decide +kernel
theorem dX0_takeNumber_12 : decode cX0_takeNumber 12 = .ok (.istore_n 1, 1) := by decide +kernel
theorem dX0_takeNumber_13 : decode cX0_takeNumber 13 = .ok (.iload_n 1, 1) := by decide +kernel
theorem dX0_takeNumber_14 : decode cX0_takeNumber 14 = .ok (.aload_n 0, 1) := by decide +kernel
theorem dX0_takeNumber_15 : decode cX0_takeNumber 15 = .ok (.getfield 27, 3) := by decide +kernel
theorem dX0_takeNumber_18 : decode cX0_takeNumber 18 = .ok (.aload_n 0, 1) := by decide +kernel
theorem dX0_takeNumber_19 : decode cX0_takeNumber 19 = .ok (.getfield 30, 3) := by decide +kernel
theorem dX0_takeNumber_22 : decode cX0_takeNumber 22 = .ok (.invokestatic 40, 3) := by decide +kernel
theorem dX0_takeNumber_25 : decode cX0_takeNumber 25 = .ok (.ifCond .eq 9, 3) := by decide +kernel
theorem dX0_takeNumber_28 : decode cX0_takeNumber 28 = .ok (.aload_n 0, 1) := by decide +kernel
theorem dX0_takeNumber_29 : decode cX0_takeNumber 29 = .ok (.iload_n 1, 1) := by decide +kernel
theorem dX0_takeNumber_30 : decode cX0_takeNumber 30 = .ok (.putfield 24, 3) := by decide +kernel
theorem dX0_takeNumber_33 : decode cX0_takeNumber 33 = .ok (.return_, 1) := by decide +kernel
theorem dX0_takeNumber_34 : decode cX0_takeNumber 34 = .ok (.aload_n 0, 1) := by decide +kernel
theorem dX0_takeNumber_35 : decode cX0_takeNumber 35 = .ok (.dup, 1) := by decide +kernel
theorem dX0_takeNumber_36 : decode cX0_takeNumber 36 = .ok (.getfield 16, 3) := by decide +kernel
theorem dX0_takeNumber_39 : decode cX0_takeNumber 39 = .ok (.iconst 1, 1) := by decide +kernel
theorem dX0_takeNumber_40 : decode cX0_takeNumber 40 = .ok (.iadd, 1) := by decide +kernel
theorem dX0_takeNumber_41 : decode cX0_takeNumber 41 = .ok (.putfield 16, 3) := by decide +kernel
theorem dX0_takeNumber_44 : decode cX0_takeNumber 44 = .ok (.aload_n 0, 1) := by decide +kernel
theorem dX0_takeNumber_45 : decode cX0_takeNumber 45 = .ok (.aload_n 0, 1) := by decide +kernel
theorem dX0_takeNumber_46 : decode cX0_takeNumber 46 = .ok (.getfield 33, 3) := by decide +kernel
theorem dX0_takeNumber_49 : decode cX0_takeNumber 49 = .ok (.putfield 20, 3) := by decide +kernel
theorem dX0_takeNumber_52 : decode cX0_takeNumber 52 = .ok (.return_, 1) := by decide +kernel
theorem dX1_init_0 : decode cX1_init 0 = .ok (.aload_n 0, 1) := by decide +kernel
theorem dX1_init_1 : decode cX1_init 1 = .ok (.invokespecial 1, 3) := by decide +kernel
theorem dX1_init_4 : decode cX1_init 4 = .ok (.aload_n 0, 1) := by decide +kernel
theorem dX1_init_5 : decode cX1_init 5 = .ok (.iload_n 1, 1) := by decide +kernel
theorem dX1_init_6 : decode cX1_init 6 = .ok (.putfield 7, 3) := by decide +kernel
theorem dX1_init_9 : decode cX1_init 9 = .ok (.aload_n 0, 1) := by decide +kernel
theorem dX1_init_10 : decode cX1_init 10 = .ok (.iload_n 2, 1) := by decide +kernel
theorem dX1_init_11 : decode cX1_init 11 = .ok (.putfield 13, 3) := by decide +kernel
theorem dX1_init_14 : decode cX1_init 14 = .ok (.aload_n 0, 1) := by decide +kernel
theorem dX1_init_15 : decode cX1_init 15 = .ok (.iload_n 3, 1) := by decide +kernel
theorem dX1_init_16 : decode cX1_init 16 = .ok (.putfield 16, 3) := by decide +kernel
theorem dX1_init_19 : decode cX1_init 19 = .ok (.aload_n 0, 1) := by decide +kernel
theorem dX1_init_20 : decode cX1_init 20 = .ok (.iload 4, 2) := by decide +kernel
theorem dX1_init_22 : decode cX1_init 22 = .ok (.putfield 19, 3) := by decide +kernel
theorem dX1_init_25 : decode cX1_init 25 = .ok (.return_, 1) := by decide +kernel
theorem dX2_placeOf_0 : decode cX2_placeOf 0 = .ok (.bipush 37, 2) := by decide +kernel
theorem dX2_placeOf_2 : decode cX2_placeOf 2 = .ok (.iload_n 0, 1) := by decide +kernel
theorem dX2_placeOf_3 : decode cX2_placeOf 3 = .ok (.imul, 1) := by decide +kernel
theorem dX2_placeOf_4 : decode cX2_placeOf 4 = .ok (.iload_n 0, 1) := by decide +kernel
theorem dX2_placeOf_5 : decode cX2_placeOf 5 = .ok (.bipush 8, 2) := by decide +kernel
theorem dX2_placeOf_7 : decode cX2_placeOf 7 = .ok (.idiv, 1) := by decide +kernel
theorem dX2_placeOf_8 : decode cX2_placeOf 8 = .ok (.ixor, 1) := by decide +kernel
theorem dX2_placeOf_9 : decode cX2_placeOf 9 = .ok (.sipush 255, 3) := by decide +kernel
theorem dX2_placeOf_12 : decode cX2_placeOf 12 = .ok (.iand, 1) := by decide +kernel
theorem dX2_placeOf_13 : decode cX2_placeOf 13 = .ok (.istore_n 2, 1) := by decide +kernel
theorem dX2_placeOf_14 : decode cX2_placeOf 14 = .ok (.iload_n 2, 1) := by decide +kernel
theorem dX2_placeOf_15 : decode cX2_placeOf 15 = .ok (.iconst 2, 1) := by decide +kernel
theorem dX2_placeOf_16 : decode cX2_placeOf 16 = .ok (.iload_n 1, 1) := by decide +kernel
theorem dX2_placeOf_17 : decode cX2_placeOf 17 = .ok (.imul, 1) := by decide +kernel
theorem dX2_placeOf_18 : decode cX2_placeOf 18 = .ok (.ishr, 1) := by decide +kernel
theorem dX2_placeOf_19 : decode cX2_placeOf 19 = .ok (.iconst 3, 1) := by decide +kernel
theorem dX2_placeOf_20 : decode cX2_placeOf 20 = .ok (.iand, 1) := by decide +kernel
theorem dX2_placeOf_21 : decode cX2_placeOf 21 = .ok (.ireturn, 1) := by decide +kernel
theorem dX2_holderOf_0 : decode cX2_holderOf 0 = .ok (.iload_n 1, 1) := by decide +kernel
theorem dX2_holderOf_1 : decode cX2_holderOf 1 = .ok (.ifCond .lt 10, 3) := by decide +kernel
theorem dX2_holderOf_4 : decode cX2_holderOf 4 = .ok (.iload_n 1, 1) := by decide +kernel
theorem dX2_holderOf_5 : decode cX2_holderOf 5 = .ok (.sipush 999, 3) := by decide +kernel
theorem dX2_holderOf_8 : decode cX2_holderOf 8 = .ok (.if_icmp .le 7, 3) := by decide +kernel
theorem dX2_holderOf_11 : decode cX2_holderOf 11 = .ok (.aconst_null, 1) := by decide +kernel
theorem dX2_holderOf_12 : decode cX2_holderOf 12 = .ok (.goto 4, 3) := by decide +kernel
theorem dX2_holderOf_15 : decode cX2_holderOf 15 = .ok (.aload_n 0, 1) := by decide +kernel
theorem dX2_holderOf_16 : decode cX2_holderOf 16 = .ok (.astore_n 2, 1) := by decide +kernel
theorem dX2_holderOf_17 : decode cX2_holderOf 17 = .ok (.iconst 0, 1) := by decide +kernel
theorem dX2_holderOf_18 : decode cX2_holderOf 18 = .ok (.istore_n 3, 1) := by decide +kernel
theorem dX2_holderOf_19 : decode cX2_holderOf 19 = .ok (.iload_n 3, 1) := by decide +kernel
theorem dX2_holderOf_20 : decode cX2_holderOf 20 = .ok (.iconst 5, 1) := by decide +kernel
theorem dX2_holderOf_21 : decode cX2_holderOf 21 = .ok (.if_icmp .ge 37, 3) := by decide +kernel
theorem dX2_holderOf_24 : decode cX2_holderOf 24 = .ok (.aload_n 2, 1) := by decide +kernel
theorem dX2_holderOf_25 : decode cX2_holderOf 25 = .ok (.ifnull 33, 3) := by decide +kernel
theorem dX2_holderOf_28 : decode cX2_holderOf 28 = .ok (.aload_n 2, 1) := by decide +kernel
theorem dX2_holderOf_29 : decode cX2_holderOf 29 = .ok (.iload_n 1, 1) := by decide +kernel
theorem dX2_holderOf_30 : decode cX2_holderOf 30 = .ok (.invokevirtual 9, 3) := by decide +kernel
theorem dX2_holderOf_33 : decode cX2_holderOf 33 = .ok (.iconst (-1), 1) := by decide +kernel
theorem dX2_holderOf_34 : decode cX2_holderOf 34 = .ok (.if_icmp .eq 5, 3) := by decide +kernel
theorem dX2_holderOf_37 : decode cX2_holderOf 37 = .ok (.aload_n 2, 1) := by decide +kernel
theorem dX2_holderOf_38 : decode cX2_holderOf 38 = .ok (.areturn, 1) := by decide +kernel
theorem dX2_holderOf_39 : decode cX2_holderOf 39 = .ok (.aload_n 2, 1) := by decide +kernel
theorem dX2_holderOf_40 : decode cX2_holderOf 40 = .ok (.iload_n 1, 1) := by decide +kernel
theorem dX2_holderOf_41 : decode cX2_holderOf 41 = .ok (.aload_n 2, 1) := by decide +kernel
theorem dX2_holderOf_42 : decode cX2_holderOf 42 = .ok (.getfield 15, 3) := by decide +kernel
theorem dX2_holderOf_45 : decode cX2_holderOf 45 = .ok (.invokestatic 19, 3) := by decide +kernel
theorem dX2_holderOf_48 : decode cX2_holderOf 48 = .ok (.invokevirtual 25, 3) := by decide +kernel
theorem dX2_holderOf_51 : decode cX2_holderOf 51 = .ok (.astore_n 2, 1) := by decide +kernel
theorem dX2_holderOf_52 : decode cX2_holderOf 52 = .ok (.iinc 3 1, 3) := by decide +kernel
theorem dX2_holderOf_55 : decode cX2_holderOf 55 = .ok (.goto (-36), 3) := by decide +kernel
theorem dX2_holderOf_58 : decode cX2_holderOf 58 = .ok (.aconst_null, 1) := by decide +kernel
theorem dX2_holderOf_59 : decode cX2_holderOf 59 = .ok (.areturn, 1) := by decide +kernel
theorem dX2_withPair_0 : decode cX2_withPair 0 = .ok (.aload_n 1, 1) := by decide +kernel
theorem dX2_withPair_1 : decode cX2_withPair 1 = .ok (.iload_n 2, 1) := by decide +kernel
theorem dX2_withPair_2 : decode cX2_withPair 2 = .ok (.invokestatic 29, 3) := by decide +kernel
theorem dX2_withPair_5 : decode cX2_withPair 5 = .ok (.ifnonnull 7, 3) := by decide +kernel
theorem dX2_withPair_8 : decode cX2_withPair 8 = .ok (.iconst 1, 1) := by decide +kernel
theorem dX2_withPair_9 : decode cX2_withPair 9 = .ok (.goto 4, 3) := by decide +kernel
theorem dX2_withPair_12 : decode cX2_withPair 12 = .ok (.iconst 0, 1) := by decide +kernel
theorem dX2_withPair_13 : decode cX2_withPair 13 = .ok (.istore 4, 2) := by decide +kernel
theorem dX2_withPair_15 : decode cX2_withPair 15 = .ok (.aload_n 0, 1) := by decide +kernel
theorem dX2_withPair_16 : decode cX2_withPair 16 = .ok (.aload_n 1, 1) := by decide +kernel
theorem dX2_withPair_17 : decode cX2_withPair 17 = .ok (.iconst (-1), 1) := by decide +kernel
theorem dX2_withPair_18 : decode cX2_withPair 18 = .ok (.invokevirtual 33, 3) := by decide +kernel
theorem dX2_withPair_21 : decode cX2_withPair 21 = .ok (.astore 5, 2) := by decide +kernel
theorem dX2_withPair_23 : decode cX2_withPair 23 = .ok (.aload 5, 2) := by decide +kernel
theorem dX2_withPair_25 : decode cX2_withPair 25 = .ok (.astore 6, 2) := by decide +kernel
theorem dX2_withPair_27 : decode cX2_withPair 27 = .ok (.iconst 0, 1) := by decide +kernel
theorem dX2_withPair_28 : decode cX2_withPair 28 = .ok (.istore 7, 2) := by decide +kernel
theorem dX2_withPair_30 : decode cX2_withPair 30 = .ok (.iload 7, 2) := by decide +kernel
theorem dX2_withPair_32 : decode cX2_withPair 32 = .ok (.iconst 4, 1) := by decide +kernel
theorem dX2_withPair_33 : decode cX2_withPair 33 = .ok (.if_icmp .ge 82, 3) := by decide +kernel
theorem dX2_withPair_36 : decode cX2_withPair 36 = .ok (.iload_n 2, 1) := by decide +kernel
theorem dX2_withPair_37 : decode cX2_withPair 37 = .ok (.iload 7, 2) := by decide +kernel
theorem dX2_withPair_39 : decode cX2_withPair 39 = .ok (.invokestatic 19, 3) := by decide +kernel
theorem dX2_withPair_42 : decode cX2_withPair 42 = .ok (.istore 8, 2) := by decide +kernel
theorem dX2_withPair_44 : decode cX2_withPair 44 = .ok (.aload 6, 2) := by decide +kernel
theorem dX2_withPair_46 : decode cX2_withPair 46 = .ok (.iload 8, 2) := by decide +kernel
theorem dX2_withPair_48 : decode cX2_withPair 48 = .ok (.invokevirtual 38, 3) := by decide +kernel
theorem dX2_withPair_51 : decode cX2_withPair 51 = .ok (.istore 9, 2) := by decide +kernel
theorem dX2_withPair_53 : decode cX2_withPair 53 = .ok (.aload 6, 2) := by decide +kernel
theorem dX2_withPair_55 : decode cX2_withPair 55 = .ok (.dup, 1) := by decide +kernel
theorem dX2_withPair_56 : decode cX2_withPair 56 = .ok (.getfield 41, 3) := by decide +kernel
theorem dX2_withPair_59 : decode cX2_withPair 59 = .ok (.iload 4, 2) := by decide +kernel
theorem dX2_withPair_61 : decode cX2_withPair 61 = .ok (.iadd, 1) := by decide +kernel
theorem dX2_withPair_62 : decode cX2_withPair 62 = .ok (.putfield 41, 3) := by decide +kernel
theorem dX2_withPair_65 : decode cX2_withPair 65 = .ok (.aload 6, 2) := by decide +kernel
theorem dX2_withPair_67 : decode cX2_withPair 67 = .ok (.iload 8, 2) := by decide +kernel
theorem dX2_withPair_69 : decode cX2_withPair 69 = .ok (.invokevirtual 25, 3) := by decide +kernel
theorem dX2_withPair_72 : decode cX2_withPair 72 = .ok (.ifnonnull 27, 3) := by decide +kernel
theorem dX2_withPair_75 : decode cX2_withPair 75 = .ok (.iload 9, 2) := by decide +kernel
theorem dX2_withPair_77 : decode cX2_withPair 77 = .ok (.iconst (-1), 1) := by decide +kernel
theorem dX2_withPair_78 : decode cX2_withPair 78 = .ok (.if_icmp .eq 9, 3) := by decide +kernel
theorem dX2_withPair_81 : decode cX2_withPair 81 = .ok (.iload 9, 2) := by decide +kernel
theorem dX2_withPair_83 : decode cX2_withPair 83 = .ok (.iload_n 2, 1) := by decide +kernel
theorem dX2_withPair_84 : decode cX2_withPair 84 = .ok (.if_icmp .ne 15, 3) := by decide +kernel
theorem dX2_withPair_87 : decode cX2_withPair 87 = .ok (.aload 6, 2) := by decide +kernel
theorem dX2_withPair_89 : decode cX2_withPair 89 = .ok (.iload 8, 2) := by decide +kernel
theorem dX2_withPair_91 : decode cX2_withPair 91 = .ok (.iload_n 2, 1) := by decide +kernel
theorem dX2_withPair_92 : decode cX2_withPair 92 = .ok (.iload_n 3, 1) := by decide +kernel
theorem dX2_withPair_93 : decode cX2_withPair 93 = .ok (.invokevirtual 44, 3) := by decide +kernel
theorem dX2_withPair_96 : decode cX2_withPair 96 = .ok (.aload 5, 2) := by decide +kernel
theorem dX2_withPair_98 : decode cX2_withPair 98 = .ok (.areturn, 1) := by decide +kernel
theorem dX2_withPair_99 : decode cX2_withPair 99 = .ok (.aload_n 0, 1) := by decide +kernel
theorem dX2_withPair_100 : decode cX2_withPair 100 = .ok (.aload 6, 2) := by decide +kernel
theorem dX2_withPair_102 : decode cX2_withPair 102 = .ok (.iload 8, 2) := by decide +kernel
theorem dX2_withPair_104 : decode cX2_withPair 104 = .ok (.invokestatic 48, 3) := by decide +kernel
theorem dX2_withPair_107 : decode cX2_withPair 107 = .ok (.astore 6, 2) := by decide +kernel
theorem dX2_withPair_109 : decode cX2_withPair 109 = .ok (.iinc 7 1, 3) := by decide +kernel
theorem dX2_withPair_112 : decode cX2_withPair 112 = .ok (.goto (-82), 3) := by decide +kernel
theorem dX2_withPair_115 : decode cX2_withPair 115 = .ok (.iload 4, 2) := by decide +kernel
theorem dX2_withPair_117 : decode cX2_withPair 117 = .ok (.iconst 1, 1) := by decide +kernel
theorem dX2_withPair_118 : decode cX2_withPair 118 = .ok (.if_icmp .ne 11, 3) := by decide +kernel
theorem dX2_withPair_121 : decode cX2_withPair 121 = .ok (.aload 6, 2) := by decide +kernel
theorem dX2_withPair_123 : decode cX2_withPair 123 = .ok (.getfield 41, 3) := by decide +kernel
theorem dX2_withPair_126 : decode cX2_withPair 126 = .ok (.goto 9, 3) := by decide +kernel
theorem dX2_withPair_129 : decode cX2_withPair 129 = .ok (.aload 6, 2) := by decide +kernel
theorem dX2_withPair_131 : decode cX2_withPair 131 = .ok (.iload_n 2, 1) := by decide +kernel
theorem dX2_withPair_132 : decode cX2_withPair 132 = .ok (.invokevirtual 9, 3) := by decide +kernel
theorem dX2_withPair_135 : decode cX2_withPair 135 = .ok (.istore 7, 2) := by decide +kernel
theorem dX2_withPair_137 : decode cX2_withPair 137 = .ok (.aload 6, 2) := by decide +kernel
theorem dX2_withPair_139 : decode cX2_withPair 139 = .ok (.iload 7, 2) := by decide +kernel
theorem dX2_withPair_141 : decode cX2_withPair 141 = .ok (.iload_n 2, 1) := by decide +kernel
theorem dX2_withPair_142 : decode cX2_withPair 142 = .ok (.iload_n 3, 1) := by decide +kernel
theorem dX2_withPair_143 : decode cX2_withPair 143 = .ok (.invokevirtual 44, 3) := by decide +kernel
theorem dX2_withPair_146 : decode cX2_withPair 146 = .ok (.aload 6, 2) := by decide +kernel
theorem dX2_withPair_148 : decode cX2_withPair 148 = .ok (.dup, 1) := by decide +kernel
theorem dX2_withPair_149 : decode cX2_withPair 149 = .ok (.getfield 41, 3) := by decide +kernel
theorem dX2_withPair_152 : decode cX2_withPair 152 = .ok (.iload 4, 2) := by decide +kernel
theorem dX2_withPair_154 : decode cX2_withPair 154 = .ok (.iadd, 1) := by decide +kernel
theorem dX2_withPair_155 : decode cX2_withPair 155 = .ok (.putfield 41, 3) := by decide +kernel
theorem dX2_withPair_158 : decode cX2_withPair 158 = .ok (.aload 5, 2) := by decide +kernel
theorem dX2_withPair_160 : decode cX2_withPair 160 = .ok (.areturn, 1) := by decide +kernel
theorem dX2_changeableChild_0 : decode cX2_changeableChild 0 = .ok (.aload_n 1, 1) := by decide +kernel
theorem dX2_changeableChild_1 : decode cX2_changeableChild 1 = .ok (.iload_n 2, 1) := by decide +kernel
theorem dX2_changeableChild_2 : decode cX2_changeableChild 2 = .ok (.invokevirtual 25, 3) := by decide +kernel
theorem dX2_changeableChild_5 : decode cX2_changeableChild 5 = .ok (.astore_n 3, 1) := by decide +kernel
theorem dX2_changeableChild_6 : decode cX2_changeableChild 6 = .ok (.aload_n 3, 1) := by decide +kernel
theorem dX2_changeableChild_7 : decode cX2_changeableChild 7 = .ok (.ifnonnull 12, 3) := by decide +kernel
theorem dX2_changeableChild_10 : decode cX2_changeableChild 10 = .ok (.aload_n 0, 1) := by decide +kernel
theorem dX2_changeableChild_11 : decode cX2_changeableChild 11 = .ok (.aload_n 1, 1) := by decide +kernel
theorem dX2_changeableChild_12 : decode cX2_changeableChild 12 = .ok (.iload_n 2, 1) := by decide +kernel
theorem dX2_changeableChild_13 : decode cX2_changeableChild 13 = .ok (.invokestatic 52, 3) := by decide +kernel
theorem dX2_changeableChild_16 : decode cX2_changeableChild 16 = .ok (.goto 9, 3) := by decide +kernel
theorem dX2_changeableChild_19 : decode cX2_changeableChild 19 = .ok (.aload_n 0, 1) := by decide +kernel
theorem dX2_changeableChild_20 : decode cX2_changeableChild 20 = .ok (.aload_n 3, 1) := by decide +kernel
theorem dX2_changeableChild_21 : decode cX2_changeableChild 21 = .ok (.iconst (-1), 1) := by decide +kernel
theorem dX2_changeableChild_22 : decode cX2_changeableChild 22 = .ok (.invokevirtual 33, 3) := by decide +kernel
theorem dX2_changeableChild_25 : decode cX2_changeableChild 25 = .ok (.astore 4, 2) := by decide +kernel
theorem dX2_changeableChild_27 : decode cX2_changeableChild 27 = .ok (.aload_n 1, 1) := by decide +kernel
theorem dX2_changeableChild_28 : decode cX2_changeableChild 28 = .ok (.iload_n 2, 1) := by decide +kernel
theorem dX2_changeableChild_29 : decode cX2_changeableChild 29 = .ok (.iconst (-1), 1) := by decide +kernel
theorem dX2_changeableChild_30 : decode cX2_changeableChild 30 = .ok (.iconst 0, 1) := by decide +kernel
theorem dX2_changeableChild_31 : decode cX2_changeableChild 31 = .ok (.invokevirtual 44, 3) := by decide +kernel
theorem dX2_changeableChild_34 : decode cX2_changeableChild 34 = .ok (.aload_n 1, 1) := by decide +kernel
theorem dX2_changeableChild_35 : decode cX2_changeableChild 35 = .ok (.iload_n 2, 1) := by decide +kernel
theorem dX2_changeableChild_36 : decode cX2_changeableChild 36 = .ok (.aload 4, 2) := by decide +kernel
theorem dX2_changeableChild_38 : decode cX2_changeableChild 38 = .ok (.invokevirtual 55, 3) := by decide +kernel
theorem dX2_changeableChild_41 : decode cX2_changeableChild 41 = .ok (.aload 4, 2) := by decide +kernel
theorem dX2_changeableChild_43 : decode cX2_changeableChild 43 = .ok (.areturn, 1) := by decide +kernel
theorem dX2_lowered_0 : decode cX2_lowered 0 = .ok (.aload_n 1, 1) := by decide +kernel
theorem dX2_lowered_1 : decode cX2_lowered 1 = .ok (.iload_n 2, 1) := by decide +kernel
theorem dX2_lowered_2 : decode cX2_lowered 2 = .ok (.invokevirtual 38, 3) := by decide +kernel
theorem dX2_lowered_5 : decode cX2_lowered 5 = .ok (.istore_n 3, 1) := by decide +kernel
theorem dX2_lowered_6 : decode cX2_lowered 6 = .ok (.aload_n 0, 1) := by decide +kernel
theorem dX2_lowered_7 : decode cX2_lowered 7 = .ok (.aload_n 1, 1) := by decide +kernel
theorem dX2_lowered_8 : decode cX2_lowered 8 = .ok (.getfield 15, 3) := by decide +kernel
theorem dX2_lowered_11 : decode cX2_lowered 11 = .ok (.iconst 1, 1) := by decide +kernel
theorem dX2_lowered_12 : decode cX2_lowered 12 = .ok (.iadd, 1) := by decide +kernel
theorem dX2_lowered_13 : decode cX2_lowered 13 = .ok (.invokevirtual 59, 3) := by decide +kernel
theorem dX2_lowered_16 : decode cX2_lowered 16 = .ok (.astore 4, 2) := by decide +kernel
theorem dX2_lowered_18 : decode cX2_lowered 18 = .ok (.aload 4, 2) := by decide +kernel
theorem dX2_lowered_20 : decode cX2_lowered 20 = .ok (.aload 4, 2) := by decide +kernel
theorem dX2_lowered_22 : decode cX2_lowered 22 = .ok (.getfield 15, 3) := by decide +kernel
theorem dX2_lowered_25 : decode cX2_lowered 25 = .ok (.iconst 4, 1) := by decide +kernel
theorem dX2_lowered_26 : decode cX2_lowered 26 = .ok (.if_icmp .ge 15, 3) := by decide +kernel
theorem dX2_lowered_29 : decode cX2_lowered 29 = .ok (.iload_n 3, 1) := by decide +kernel
theorem dX2_lowered_30 : decode cX2_lowered 30 = .ok (.aload 4, 2) := by decide +kernel
theorem dX2_lowered_32 : decode cX2_lowered 32 = .ok (.getfield 15, 3) := by decide +kernel
theorem dX2_lowered_35 : decode cX2_lowered 35 = .ok (.invokestatic 19, 3) := by decide +kernel
theorem dX2_lowered_38 : decode cX2_lowered 38 = .ok (.goto 4, 3) := by decide +kernel
theorem dX2_lowered_41 : decode cX2_lowered 41 = .ok (.iconst 0, 1) := by decide +kernel
theorem dX2_lowered_42 : decode cX2_lowered 42 = .ok (.iload_n 3, 1) := by decide +kernel
theorem dX2_lowered_43 : decode cX2_lowered 43 = .ok (.aload_n 1, 1) := by decide +kernel
theorem dX2_lowered_44 : decode cX2_lowered 44 = .ok (.iload_n 2, 1) := by decide +kernel
theorem dX2_lowered_45 : decode cX2_lowered 45 = .ok (.invokevirtual 62, 3) := by decide +kernel
theorem dX2_lowered_48 : decode cX2_lowered 48 = .ok (.invokevirtual 44, 3) := by decide +kernel
theorem dX2_lowered_51 : decode cX2_lowered 51 = .ok (.aload 4, 2) := by decide +kernel
theorem dX2_lowered_53 : decode cX2_lowered 53 = .ok (.iconst 1, 1) := by decide +kernel
theorem dX2_lowered_54 : decode cX2_lowered 54 = .ok (.putfield 41, 3) := by decide +kernel
theorem dX2_lowered_57 : decode cX2_lowered 57 = .ok (.aload 4, 2) := by decide +kernel
theorem dX2_lowered_59 : decode cX2_lowered 59 = .ok (.areturn, 1) := by decide +kernel
theorem dX2_withoutKey_0 : decode cX2_withoutKey 0 = .ok (.aload_n 0, 1) := by decide +kernel
theorem dX2_withoutKey_1 : decode cX2_withoutKey 1 = .ok (.aload_n 1, 1) := by decide +kernel
theorem dX2_withoutKey_2 : decode cX2_withoutKey 2 = .ok (.iconst (-1), 1) := by decide +kernel
theorem dX2_withoutKey_3 : decode cX2_withoutKey 3 = .ok (.invokevirtual 33, 3) := by decide +kernel
theorem dX2_withoutKey_6 : decode cX2_withoutKey 6 = .ok (.astore_n 3, 1) := by decide +kernel
theorem dX2_withoutKey_7 : decode cX2_withoutKey 7 = .ok (.aload_n 3, 1) := by decide +kernel
theorem dX2_withoutKey_8 : decode cX2_withoutKey 8 = .ok (.astore 4, 2) := by decide +kernel
theorem dX2_withoutKey_10 : decode cX2_withoutKey 10 = .ok (.iconst 0, 1) := by decide +kernel
theorem dX2_withoutKey_11 : decode cX2_withoutKey 11 = .ok (.istore 5, 2) := by decide +kernel
theorem dX2_withoutKey_13 : decode cX2_withoutKey 13 = .ok (.iload 5, 2) := by decide +kernel
theorem dX2_withoutKey_15 : decode cX2_withoutKey 15 = .ok (.iconst 4, 1) := by decide +kernel
theorem dX2_withoutKey_16 : decode cX2_withoutKey 16 = .ok (.if_icmp .ge 84, 3) := by decide +kernel
theorem dX2_withoutKey_19 : decode cX2_withoutKey 19 = .ok (.iload_n 2, 1) := by decide +kernel
theorem dX2_withoutKey_20 : decode cX2_withoutKey 20 = .ok (.iload 5, 2) := by decide +kernel
theorem dX2_withoutKey_22 : decode cX2_withoutKey 22 = .ok (.invokestatic 19, 3) := by decide +kernel
theorem dX2_withoutKey_25 : decode cX2_withoutKey 25 = .ok (.istore 6, 2) := by decide +kernel
theorem dX2_withoutKey_27 : decode cX2_withoutKey 27 = .ok (.aload 4, 2) := by decide +kernel
theorem dX2_withoutKey_29 : decode cX2_withoutKey 29 = .ok (.iload 6, 2) := by decide +kernel
theorem dX2_withoutKey_31 : decode cX2_withoutKey 31 = .ok (.invokevirtual 25, 3) := by decide +kernel
theorem dX2_withoutKey_34 : decode cX2_withoutKey 34 = .ok (.astore 7, 2) := by decide +kernel
theorem dX2_withoutKey_36 : decode cX2_withoutKey 36 = .ok (.aload 4, 2) := by decide +kernel
theorem dX2_withoutKey_38 : decode cX2_withoutKey 38 = .ok (.dup, 1) := by decide +kernel
theorem dX2_withoutKey_39 : decode cX2_withoutKey 39 = .ok (.getfield 41, 3) := by decide +kernel
theorem dX2_withoutKey_42 : decode cX2_withoutKey 42 = .ok (.iconst 1, 1) := by decide +kernel
theorem dX2_withoutKey_43 : decode cX2_withoutKey 43 = .ok (.isub, 1) := by decide +kernel
theorem dX2_withoutKey_44 : decode cX2_withoutKey 44 = .ok (.putfield 41, 3) := by decide +kernel
theorem dX2_withoutKey_47 : decode cX2_withoutKey 47 = .ok (.aload 7, 2) := by decide +kernel
theorem dX2_withoutKey_49 : decode cX2_withoutKey 49 = .ok (.ifnonnull 14, 3) := by decide +kernel
theorem dX2_withoutKey_52 : decode cX2_withoutKey 52 = .ok (.aload 4, 2) := by decide +kernel
theorem dX2_withoutKey_54 : decode cX2_withoutKey 54 = .ok (.iload 6, 2) := by decide +kernel
theorem dX2_withoutKey_56 : decode cX2_withoutKey 56 = .ok (.iconst (-1), 1) := by decide +kernel
theorem dX2_withoutKey_57 : decode cX2_withoutKey 57 = .ok (.iconst 0, 1) := by decide +kernel
theorem dX2_withoutKey_58 : decode cX2_withoutKey 58 = .ok (.invokevirtual 44, 3) := by decide +kernel
theorem dX2_withoutKey_61 : decode cX2_withoutKey 61 = .ok (.aload_n 3, 1) := by decide +kernel
theorem dX2_withoutKey_62 : decode cX2_withoutKey 62 = .ok (.areturn, 1) := by decide +kernel
theorem dX2_withoutKey_63 : decode cX2_withoutKey 63 = .ok (.aload 7, 2) := by decide +kernel
theorem dX2_withoutKey_65 : decode cX2_withoutKey 65 = .ok (.getfield 41, 3) := by decide +kernel
theorem dX2_withoutKey_68 : decode cX2_withoutKey 68 = .ok (.iconst 2, 1) := by decide +kernel
theorem dX2_withoutKey_69 : decode cX2_withoutKey 69 = .ok (.if_icmp .gt 15, 3) := by decide +kernel
theorem dX2_withoutKey_72 : decode cX2_withoutKey 72 = .ok (.aload 4, 2) := by decide +kernel
theorem dX2_withoutKey_74 : decode cX2_withoutKey 74 = .ok (.iload 6, 2) := by decide +kernel
theorem dX2_withoutKey_76 : decode cX2_withoutKey 76 = .ok (.aload 7, 2) := by decide +kernel
theorem dX2_withoutKey_78 : decode cX2_withoutKey 78 = .ok (.iload_n 2, 1) := by decide +kernel
theorem dX2_withoutKey_79 : decode cX2_withoutKey 79 = .ok (.invokestatic 65, 3) := by decide +kernel
theorem dX2_withoutKey_82 : decode cX2_withoutKey 82 = .ok (.aload_n 3, 1) := by decide +kernel
theorem dX2_withoutKey_83 : decode cX2_withoutKey 83 = .ok (.areturn, 1) := by decide +kernel
theorem dX2_withoutKey_84 : decode cX2_withoutKey 84 = .ok (.aload_n 0, 1) := by decide +kernel
theorem dX2_withoutKey_85 : decode cX2_withoutKey 85 = .ok (.aload 4, 2) := by decide +kernel
theorem dX2_withoutKey_87 : decode cX2_withoutKey 87 = .ok (.iload 6, 2) := by decide +kernel
theorem dX2_withoutKey_89 : decode cX2_withoutKey 89 = .ok (.invokestatic 48, 3) := by decide +kernel
theorem dX2_withoutKey_92 : decode cX2_withoutKey 92 = .ok (.astore 4, 2) := by decide +kernel
theorem dX2_withoutKey_94 : decode cX2_withoutKey 94 = .ok (.iinc 5 1, 3) := by decide +kernel
theorem dX2_withoutKey_97 : decode cX2_withoutKey 97 = .ok (.goto (-84), 3) := by decide +kernel
theorem dX2_withoutKey_100 : decode cX2_withoutKey 100 = .ok (.aload 4, 2) := by decide +kernel
theorem dX2_withoutKey_102 : decode cX2_withoutKey 102 = .ok (.iload_n 2, 1) := by decide +kernel
theorem dX2_withoutKey_103 : decode cX2_withoutKey 103 = .ok (.invokestatic 69, 3) := by decide +kernel
theorem dX2_withoutKey_106 : decode cX2_withoutKey 106 = .ok (.aload_n 3, 1) := by decide +kernel
theorem dX2_withoutKey_107 : decode cX2_withoutKey 107 = .ok (.areturn, 1) := by decide +kernel
theorem dX2_lift_0 : decode cX2_lift 0 = .ok (.aload_n 0, 1) := by decide +kernel
theorem dX2_lift_1 : decode cX2_lift 1 = .ok (.iload_n 1, 1) := by decide +kernel
theorem dX2_lift_2 : decode cX2_lift 2 = .ok (.aconst_null, 1) := by decide +kernel
theorem dX2_lift_3 : decode cX2_lift 3 = .ok (.invokevirtual 55, 3) := by decide +kernel
theorem dX2_lift_6 : decode cX2_lift 6 = .ok (.aload_n 2, 1) := by decide +kernel
theorem dX2_lift_7 : decode cX2_lift 7 = .ok (.iload_n 3, 1) := by decide +kernel
theorem dX2_lift_8 : decode cX2_lift 8 = .ok (.invokestatic 29, 3) := by decide +kernel
theorem dX2_lift_11 : decode cX2_lift 11 = .ok (.astore 4, 2) := by decide +kernel
theorem dX2_lift_13 : decode cX2_lift 13 = .ok (.aload 4, 2) := by decide +kernel
theorem dX2_lift_15 : decode cX2_lift 15 = .ok (.ifnonnull 4, 3) := by decide +kernel
theorem dX2_lift_18 : decode cX2_lift 18 = .ok (.return_, 1) := by decide +kernel
theorem dX2_lift_19 : decode cX2_lift 19 = .ok (.aload 4, 2) := by decide +kernel
theorem dX2_lift_21 : decode cX2_lift 21 = .ok (.getfield 15, 3) := by decide +kernel
theorem dX2_lift_24 : decode cX2_lift 24 = .ok (.iconst 4, 1) := by decide +kernel
theorem dX2_lift_25 : decode cX2_lift 25 = .ok (.if_icmp .ge 7, 3) := by decide +kernel
theorem dX2_lift_28 : decode cX2_lift 28 = .ok (.iconst 4, 1) := by decide +kernel
theorem dX2_lift_29 : decode cX2_lift 29 = .ok (.goto 8, 3) := by decide +kernel
theorem dX2_lift_32 : decode cX2_lift 32 = .ok (.aload 4, 2) := by decide +kernel
theorem dX2_lift_34 : decode cX2_lift 34 = .ok (.getfield 41, 3) := by decide +kernel
theorem dX2_lift_37 : decode cX2_lift 37 = .ok (.istore 5, 2) := by decide +kernel
theorem dX2_lift_39 : decode cX2_lift 39 = .ok (.iconst 0, 1) := by decide +kernel
theorem dX2_lift_40 : decode cX2_lift 40 = .ok (.istore 6, 2) := by decide +kernel
theorem dX2_lift_42 : decode cX2_lift 42 = .ok (.iload 6, 2) := by decide +kernel
theorem dX2_lift_44 : decode cX2_lift 44 = .ok (.iload 5, 2) := by decide +kernel
theorem dX2_lift_46 : decode cX2_lift 46 = .ok (.if_icmp .ge 44, 3) := by decide +kernel
theorem dX2_lift_49 : decode cX2_lift 49 = .ok (.aload 4, 2) := by decide +kernel
theorem dX2_lift_51 : decode cX2_lift 51 = .ok (.iload 6, 2) := by decide +kernel
theorem dX2_lift_53 : decode cX2_lift 53 = .ok (.invokevirtual 38, 3) := by decide +kernel
theorem dX2_lift_56 : decode cX2_lift 56 = .ok (.istore 7, 2) := by decide +kernel
theorem dX2_lift_58 : decode cX2_lift 58 = .ok (.iload 7, 2) := by decide +kernel
theorem dX2_lift_60 : decode cX2_lift 60 = .ok (.iconst (-1), 1) := by decide +kernel
theorem dX2_lift_61 : decode cX2_lift 61 = .ok (.if_icmp .eq 23, 3) := by decide +kernel
theorem dX2_lift_64 : decode cX2_lift 64 = .ok (.iload 7, 2) := by decide +kernel
theorem dX2_lift_66 : decode cX2_lift 66 = .ok (.iload_n 3, 1) := by decide +kernel
theorem dX2_lift_67 : decode cX2_lift 67 = .ok (.if_icmp .eq 17, 3) := by decide +kernel
theorem dX2_lift_70 : decode cX2_lift 70 = .ok (.aload_n 0, 1) := by decide +kernel
theorem dX2_lift_71 : decode cX2_lift 71 = .ok (.iload_n 1, 1) := by decide +kernel
theorem dX2_lift_72 : decode cX2_lift 72 = .ok (.iload 7, 2) := by decide +kernel
theorem dX2_lift_74 : decode cX2_lift 74 = .ok (.aload 4, 2) := by decide +kernel
theorem dX2_lift_76 : decode cX2_lift 76 = .ok (.iload 6, 2) := by decide +kernel
theorem dX2_lift_78 : decode cX2_lift 78 = .ok (.invokevirtual 62, 3) := by decide +kernel
theorem dX2_lift_81 : decode cX2_lift 81 = .ok (.invokevirtual 44, 3) := by decide +kernel
theorem dX2_lift_84 : decode cX2_lift 84 = .ok (.iinc 6 1, 3) := by decide +kernel
theorem dX2_lift_87 : decode cX2_lift 87 = .ok (.goto (-45), 3) := by decide +kernel
theorem dX2_lift_90 : decode cX2_lift 90 = .ok (.return_, 1) := by decide +kernel
theorem dX2_dropFromRow_0 : decode cX2_dropFromRow 0 = .ok (.aload_n 0, 1) := by decide +kernel
theorem dX2_dropFromRow_1 : decode cX2_dropFromRow 1 = .ok (.iload_n 1, 1) := by decide +kernel
theorem dX2_dropFromRow_2 : decode cX2_dropFromRow 2 = .ok (.invokevirtual 9, 3) := by decide +kernel
theorem dX2_dropFromRow_5 : decode cX2_dropFromRow 5 = .ok (.istore_n 2, 1) := by decide +kernel
theorem dX2_dropFromRow_6 : decode cX2_dropFromRow 6 = .ok (.iload_n 2, 1) := by decide +kernel
theorem dX2_dropFromRow_7 : decode cX2_dropFromRow 7 = .ok (.iconst (-1), 1) := by decide +kernel
theorem dX2_dropFromRow_8 : decode cX2_dropFromRow 8 = .ok (.if_icmp .ne 4, 3) := by decide +kernel
theorem dX2_dropFromRow_11 : decode cX2_dropFromRow 11 = .ok (.return_, 1) := by decide +kernel
theorem dX2_dropFromRow_12 : decode cX2_dropFromRow 12 = .ok (.aload_n 0, 1) := by decide +kernel
theorem dX2_dropFromRow_13 : decode cX2_dropFromRow 13 = .ok (.dup, 1) := by decide +kernel
theorem dX2_dropFromRow_14 : decode cX2_dropFromRow 14 = .ok (.getfield 41, 3) := by decide +kernel
theorem dX2_dropFromRow_17 : decode cX2_dropFromRow 17 = .ok (.iconst 1, 1) := by decide +kernel
theorem dX2_dropFromRow_18 : decode cX2_dropFromRow 18 = .ok (.isub, 1) := by decide +kernel
theorem dX2_dropFromRow_19 : decode cX2_dropFromRow 19 = .ok (.putfield 41, 3) := by decide +kernel
theorem dX2_dropFromRow_22 : decode cX2_dropFromRow 22 = .ok (.iload_n 2, 1) := by decide +kernel
theorem dX2_dropFromRow_23 : decode cX2_dropFromRow 23 = .ok (.istore_n 3, 1) := by decide +kernel
theorem dX2_dropFromRow_24 : decode cX2_dropFromRow 24 = .ok (.iload_n 3, 1) := by decide +kernel
theorem dX2_dropFromRow_25 : decode cX2_dropFromRow 25 = .ok (.aload_n 0, 1) := by decide +kernel
theorem dX2_dropFromRow_26 : decode cX2_dropFromRow 26 = .ok (.getfield 41, 3) := by decide +kernel
theorem dX2_dropFromRow_29 : decode cX2_dropFromRow 29 = .ok (.if_icmp .ge 28, 3) := by decide +kernel
theorem dX2_dropFromRow_32 : decode cX2_dropFromRow 32 = .ok (.aload_n 0, 1) := by decide +kernel
theorem dX2_dropFromRow_33 : decode cX2_dropFromRow 33 = .ok (.iload_n 3, 1) := by decide +kernel
theorem dX2_dropFromRow_34 : decode cX2_dropFromRow 34 = .ok (.aload_n 0, 1) := by decide +kernel
theorem dX2_dropFromRow_35 : decode cX2_dropFromRow 35 = .ok (.iload_n 3, 1) := by decide +kernel
theorem dX2_dropFromRow_36 : decode cX2_dropFromRow 36 = .ok (.iconst 1, 1) := by decide +kernel
theorem dX2_dropFromRow_37 : decode cX2_dropFromRow 37 = .ok (.iadd, 1) := by decide +kernel
theorem dX2_dropFromRow_38 : decode cX2_dropFromRow 38 = .ok (.invokevirtual 38, 3) := by decide +kernel
theorem dX2_dropFromRow_41 : decode cX2_dropFromRow 41 = .ok (.aload_n 0, 1) := by decide +kernel
theorem dX2_dropFromRow_42 : decode cX2_dropFromRow 42 = .ok (.iload_n 3, 1) := by decide +kernel
theorem dX2_dropFromRow_43 : decode cX2_dropFromRow 43 = .ok (.iconst 1, 1) := by decide +kernel
theorem dX2_dropFromRow_44 : decode cX2_dropFromRow 44 = .ok (.iadd, 1) := by decide +kernel
theorem dX2_dropFromRow_45 : decode cX2_dropFromRow 45 = .ok (.invokevirtual 62, 3) := by decide +kernel
theorem dX2_dropFromRow_48 : decode cX2_dropFromRow 48 = .ok (.invokevirtual 44, 3) := by decide +kernel
theorem dX2_dropFromRow_51 : decode cX2_dropFromRow 51 = .ok (.iinc 3 1, 3) := by decide +kernel
theorem dX2_dropFromRow_54 : decode cX2_dropFromRow 54 = .ok (.goto (-30), 3) := by decide +kernel
theorem dX2_dropFromRow_57 : decode cX2_dropFromRow 57 = .ok (.aload_n 0, 1) := by decide +kernel
theorem dX2_dropFromRow_58 : decode cX2_dropFromRow 58 = .ok (.aload_n 0, 1) := by decide +kernel
theorem dX2_dropFromRow_59 : decode cX2_dropFromRow 59 = .ok (.getfield 41, 3) := by decide +kernel
theorem dX2_dropFromRow_62 : decode cX2_dropFromRow 62 = .ok (.iconst (-1), 1) := by decide +kernel
theorem dX2_dropFromRow_63 : decode cX2_dropFromRow 63 = .ok (.iconst 0, 1) := by decide +kernel
theorem dX2_dropFromRow_64 : decode cX2_dropFromRow 64 = .ok (.invokevirtual 44, 3) := by decide +kernel
theorem dX2_dropFromRow_67 : decode cX2_dropFromRow 67 = .ok (.return_, 1) := by decide +kernel
theorem dX3_init_0 : decode cX3_init 0 = .ok (.aload_n 0, 1) := by decide +kernel
theorem dX3_init_1 : decode cX3_init 1 = .ok (.invokespecial 3, 3) := by decide +kernel
theorem dX3_init_4 : decode cX3_init 4 = .ok (.aload_n 0, 1) := by decide +kernel
theorem dX3_init_5 : decode cX3_init 5 = .ok (.iconst 0, 1) := by decide +kernel
theorem dX3_init_6 : decode cX3_init 6 = .ok (.putfield 9, 3) := by decide +kernel
theorem dX3_init_9 : decode cX3_init 9 = .ok (.aload_n 0, 1) := by decide +kernel
theorem dX3_init_10 : decode cX3_init 10 = .ok (.iconst 0, 1) := by decide +kernel
theorem dX3_init_11 : decode cX3_init 11 = .ok (.putfield 15, 3) := by decide +kernel
theorem dX3_init_14 : decode cX3_init 14 = .ok (.aload_n 0, 1) := by decide +kernel
theorem dX3_init_15 : decode cX3_init 15 = .ok (.iload_n 1, 1) := by decide +kernel
theorem dX3_init_16 : decode cX3_init 16 = .ok (.putfield 18, 3) := by decide +kernel
theorem dX3_init_19 : decode cX3_init 19 = .ok (.aload_n 0, 1) := by decide +kernel
theorem dX3_init_20 : decode cX3_init 20 = .ok (.iload_n 2, 1) := by decide +kernel
theorem dX3_init_21 : decode cX3_init 21 = .ok (.putfield 21, 3) := by decide +kernel
theorem dX3_init_24 : decode cX3_init 24 = .ok (.aload_n 0, 1) := by decide +kernel
theorem dX3_init_25 : decode cX3_init 25 = .ok (.aload_n 3, 1) := by decide +kernel
theorem dX3_init_26 : decode cX3_init 26 = .ok (.putfield 24, 3) := by decide +kernel
theorem dX3_init_29 : decode cX3_init 29 = .ok (.aload_n 0, 1) := by decide +kernel
theorem dX3_init_30 : decode cX3_init 30 = .ok (.aload 4, 2) := by decide +kernel
theorem dX3_init_32 : decode cX3_init 32 = .ok (.putfield 28, 3) := by decide +kernel
theorem dX3_init_35 : decode cX3_init 35 = .ok (.aload_n 0, 1) := by decide +kernel
theorem dX3_init_36 : decode cX3_init 36 = .ok (.aload 5, 2) := by decide +kernel
theorem dX3_init_38 : decode cX3_init 38 = .ok (.putfield 31, 3) := by decide +kernel
theorem dX3_init_41 : decode cX3_init 41 = .ok (.return_, 1) := by decide +kernel
theorem dX3_childAt_0 : decode cX3_childAt 0 = .ok (.aload_n 0, 1) := by decide +kernel
theorem dX3_childAt_1 : decode cX3_childAt 1 = .ok (.getfield 31, 3) := by decide +kernel
theorem dX3_childAt_4 : decode cX3_childAt 4 = .ok (.ifnull 16, 3) := by decide +kernel
theorem dX3_childAt_7 : decode cX3_childAt 7 = .ok (.iload_n 1, 1) := by decide +kernel
theorem dX3_childAt_8 : decode cX3_childAt 8 = .ok (.ifCond .lt 12, 3) := by decide +kernel
theorem dX3_childAt_11 : decode cX3_childAt 11 = .ok (.iload_n 1, 1) := by decide +kernel
theorem dX3_childAt_12 : decode cX3_childAt 12 = .ok (.aload_n 0, 1) := by decide +kernel
theorem dX3_childAt_13 : decode cX3_childAt 13 = .ok (.getfield 31, 3) := by decide +kernel
theorem dX3_childAt_16 : decode cX3_childAt 16 = .ok (.arraylength, 1) := by decide +kernel
theorem dX3_childAt_17 : decode cX3_childAt 17 = .ok (.if_icmp .lt 7, 3) := by decide +kernel
theorem dX3_childAt_20 : decode cX3_childAt 20 = .ok (.aconst_null, 1) := by decide +kernel
theorem dX3_childAt_21 : decode cX3_childAt 21 = .ok (.goto 9, 3) := by decide +kernel
theorem dX3_childAt_24 : decode cX3_childAt 24 = .ok (.aload_n 0, 1) := by decide +kernel
theorem dX3_childAt_25 : decode cX3_childAt 25 = .ok (.getfield 31, 3) := by decide +kernel
theorem dX3_childAt_28 : decode cX3_childAt 28 = .ok (.iload_n 1, 1) := by decide +kernel
theorem dX3_childAt_29 : decode cX3_childAt 29 = .ok (.aaload, 1) := by decide +kernel
theorem dX3_childAt_30 : decode cX3_childAt 30 = .ok (.areturn, 1) := by decide +kernel
theorem dX3_putChild_0 : decode cX3_putChild 0 = .ok (.aload_n 0, 1) := by decide +kernel
theorem dX3_putChild_1 : decode cX3_putChild 1 = .ok (.getfield 31, 3) := by decide +kernel
theorem dX3_putChild_4 : decode cX3_putChild 4 = .ok (.ifnull 23, 3) := by decide +kernel
theorem dX3_putChild_7 : decode cX3_putChild 7 = .ok (.iload_n 1, 1) := by decide +kernel
theorem dX3_putChild_8 : decode cX3_putChild 8 = .ok (.ifCond .lt 19, 3) := by decide +kernel
theorem dX3_putChild_11 : decode cX3_putChild 11 = .ok (.iload_n 1, 1) := by decide +kernel
theorem dX3_putChild_12 : decode cX3_putChild 12 = .ok (.aload_n 0, 1) := by decide +kernel
theorem dX3_putChild_13 : decode cX3_putChild 13 = .ok (.getfield 31, 3) := by decide +kernel
theorem dX3_putChild_16 : decode cX3_putChild 16 = .ok (.arraylength, 1) := by decide +kernel
theorem dX3_putChild_17 : decode cX3_putChild 17 = .ok (.if_icmp .ge 10, 3) := by decide +kernel
theorem dX3_putChild_20 : decode cX3_putChild 20 = .ok (.aload_n 0, 1) := by decide +kernel
theorem dX3_putChild_21 : decode cX3_putChild 21 = .ok (.getfield 31, 3) := by decide +kernel
theorem dX3_putChild_24 : decode cX3_putChild 24 = .ok (.iload_n 1, 1) := by decide +kernel
theorem dX3_putChild_25 : decode cX3_putChild 25 = .ok (.aload_n 2, 1) := by decide +kernel
theorem dX3_putChild_26 : decode cX3_putChild 26 = .ok (.aastore, 1) := by decide +kernel
theorem dX3_putChild_27 : decode cX3_putChild 27 = .ok (.return_, 1) := by decide +kernel
theorem dX3_elementAt_0 : decode cX3_elementAt 0 = .ok (.aload_n 0, 1) := by decide +kernel
theorem dX3_elementAt_1 : decode cX3_elementAt 1 = .ok (.getfield 28, 3) := by decide +kernel
theorem dX3_elementAt_4 : decode cX3_elementAt 4 = .ok (.ifnull 16, 3) := by decide +kernel
theorem dX3_elementAt_7 : decode cX3_elementAt 7 = .ok (.iload_n 1, 1) := by decide +kernel
theorem dX3_elementAt_8 : decode cX3_elementAt 8 = .ok (.ifCond .lt 12, 3) := by decide +kernel
theorem dX3_elementAt_11 : decode cX3_elementAt 11 = .ok (.iload_n 1, 1) := by decide +kernel
theorem dX3_elementAt_12 : decode cX3_elementAt 12 = .ok (.aload_n 0, 1) := by decide +kernel
theorem dX3_elementAt_13 : decode cX3_elementAt 13 = .ok (.getfield 28, 3) := by decide +kernel
theorem dX3_elementAt_16 : decode cX3_elementAt 16 = .ok (.arraylength, 1) := by decide +kernel
theorem dX3_elementAt_17 : decode cX3_elementAt 17 = .ok (.if_icmp .lt 7, 3) := by decide +kernel
theorem dX3_elementAt_20 : decode cX3_elementAt 20 = .ok (.iconst 0, 1) := by decide +kernel
theorem dX3_elementAt_21 : decode cX3_elementAt 21 = .ok (.goto 9, 3) := by decide +kernel
theorem dX3_elementAt_24 : decode cX3_elementAt 24 = .ok (.aload_n 0, 1) := by decide +kernel
theorem dX3_elementAt_25 : decode cX3_elementAt 25 = .ok (.getfield 28, 3) := by decide +kernel
theorem dX3_elementAt_28 : decode cX3_elementAt 28 = .ok (.iload_n 1, 1) := by decide +kernel
theorem dX3_elementAt_29 : decode cX3_elementAt 29 = .ok (.iaload, 1) := by decide +kernel
theorem dX3_elementAt_30 : decode cX3_elementAt 30 = .ok (.ireturn, 1) := by decide +kernel
theorem dX3_putElement_0 : decode cX3_putElement 0 = .ok (.aload_n 0, 1) := by decide +kernel
theorem dX3_putElement_1 : decode cX3_putElement 1 = .ok (.getfield 28, 3) := by decide +kernel
theorem dX3_putElement_4 : decode cX3_putElement 4 = .ok (.ifnull 23, 3) := by decide +kernel
theorem dX3_putElement_7 : decode cX3_putElement 7 = .ok (.iload_n 1, 1) := by decide +kernel
theorem dX3_putElement_8 : decode cX3_putElement 8 = .ok (.ifCond .lt 19, 3) := by decide +kernel
theorem dX3_putElement_11 : decode cX3_putElement 11 = .ok (.iload_n 1, 1) := by decide +kernel
theorem dX3_putElement_12 : decode cX3_putElement 12 = .ok (.aload_n 0, 1) := by decide +kernel
theorem dX3_putElement_13 : decode cX3_putElement 13 = .ok (.getfield 28, 3) := by decide +kernel
theorem dX3_putElement_16 : decode cX3_putElement 16 = .ok (.arraylength, 1) := by decide +kernel
theorem dX3_putElement_17 : decode cX3_putElement 17 = .ok (.if_icmp .ge 10, 3) := by decide +kernel
theorem dX3_putElement_20 : decode cX3_putElement 20 = .ok (.aload_n 0, 1) := by decide +kernel
theorem dX3_putElement_21 : decode cX3_putElement 21 = .ok (.getfield 28, 3) := by decide +kernel
theorem dX3_putElement_24 : decode cX3_putElement 24 = .ok (.iload_n 1, 1) := by decide +kernel
theorem dX3_putElement_25 : decode cX3_putElement 25 = .ok (.iload_n 2, 1) := by decide +kernel
theorem dX3_putElement_26 : decode cX3_putElement 26 = .ok (.iastore, 1) := by decide +kernel
theorem dX3_putElement_27 : decode cX3_putElement 27 = .ok (.return_, 1) := by decide +kernel
theorem dX3_keyAt_0 : decode cX3_keyAt 0 = .ok (.aload_n 0, 1) := by decide +kernel
theorem dX3_keyAt_1 : decode cX3_keyAt 1 = .ok (.getfield 24, 3) := by decide +kernel
theorem dX3_keyAt_4 : decode cX3_keyAt 4 = .ok (.ifnull 16, 3) := by decide +kernel
theorem dX3_keyAt_7 : decode cX3_keyAt 7 = .ok (.iload_n 1, 1) := by decide +kernel
theorem dX3_keyAt_8 : decode cX3_keyAt 8 = .ok (.ifCond .lt 12, 3) := by decide +kernel
theorem dX3_keyAt_11 : decode cX3_keyAt 11 = .ok (.iload_n 1, 1) := by decide +kernel
theorem dX3_keyAt_12 : decode cX3_keyAt 12 = .ok (.aload_n 0, 1) := by decide +kernel
theorem dX3_keyAt_13 : decode cX3_keyAt 13 = .ok (.getfield 24, 3) := by decide +kernel
theorem dX3_keyAt_16 : decode cX3_keyAt 16 = .ok (.arraylength, 1) := by decide +kernel
theorem dX3_keyAt_17 : decode cX3_keyAt 17 = .ok (.if_icmp .lt 7, 3) := by decide +kernel
theorem dX3_keyAt_20 : decode cX3_keyAt 20 = .ok (.iconst (-1), 1) := by decide +kernel
theorem dX3_keyAt_21 : decode cX3_keyAt 21 = .ok (.goto 9, 3) := by decide +kernel
theorem dX3_keyAt_24 : decode cX3_keyAt 24 = .ok (.aload_n 0, 1) := by decide +kernel
theorem dX3_keyAt_25 : decode cX3_keyAt 25 = .ok (.getfield 24, 3) := by decide +kernel
theorem dX3_keyAt_28 : decode cX3_keyAt 28 = .ok (.iload_n 1, 1) := by decide +kernel
theorem dX3_keyAt_29 : decode cX3_keyAt 29 = .ok (.iaload, 1) := by decide +kernel
theorem dX3_keyAt_30 : decode cX3_keyAt 30 = .ok (.ireturn, 1) := by decide +kernel
theorem dX3_putPair_0 : decode cX3_putPair 0 = .ok (.aload_n 0, 1) := by decide +kernel
theorem dX3_putPair_1 : decode cX3_putPair 1 = .ok (.getfield 24, 3) := by decide +kernel
theorem dX3_putPair_4 : decode cX3_putPair 4 = .ok (.ifnull 29, 3) := by decide +kernel
theorem dX3_putPair_7 : decode cX3_putPair 7 = .ok (.iload_n 1, 1) := by decide +kernel
theorem dX3_putPair_8 : decode cX3_putPair 8 = .ok (.ifCond .lt 25, 3) := by decide +kernel
theorem dX3_putPair_11 : decode cX3_putPair 11 = .ok (.iload_n 1, 1) := by decide +kernel
theorem dX3_putPair_12 : decode cX3_putPair 12 = .ok (.aload_n 0, 1) := by decide +kernel
theorem dX3_putPair_13 : decode cX3_putPair 13 = .ok (.getfield 24, 3) := by decide +kernel
theorem dX3_putPair_16 : decode cX3_putPair 16 = .ok (.arraylength, 1) := by decide +kernel
theorem dX3_putPair_17 : decode cX3_putPair 17 = .ok (.if_icmp .ge 16, 3) := by decide +kernel
theorem dX3_putPair_20 : decode cX3_putPair 20 = .ok (.aload_n 0, 1) := by decide +kernel
theorem dX3_putPair_21 : decode cX3_putPair 21 = .ok (.getfield 24, 3) := by decide +kernel
theorem dX3_putPair_24 : decode cX3_putPair 24 = .ok (.iload_n 1, 1) := by decide +kernel
theorem dX3_putPair_25 : decode cX3_putPair 25 = .ok (.iload_n 2, 1) := by decide +kernel
theorem dX3_putPair_26 : decode cX3_putPair 26 = .ok (.iastore, 1) := by decide +kernel
theorem dX3_putPair_27 : decode cX3_putPair 27 = .ok (.aload_n 0, 1) := by decide +kernel
theorem dX3_putPair_28 : decode cX3_putPair 28 = .ok (.iload_n 1, 1) := by decide +kernel
theorem dX3_putPair_29 : decode cX3_putPair 29 = .ok (.iload_n 3, 1) := by decide +kernel
theorem dX3_putPair_30 : decode cX3_putPair 30 = .ok (.invokevirtual 35, 3) := by decide +kernel
theorem dX3_putPair_33 : decode cX3_putPair 33 = .ok (.return_, 1) := by decide +kernel
theorem dX3_slotOf_0 : decode cX3_slotOf 0 = .ok (.aload_n 0, 1) := by decide +kernel
theorem dX3_slotOf_1 : decode cX3_slotOf 1 = .ok (.getfield 18, 3) := by decide +kernel
theorem dX3_slotOf_4 : decode cX3_slotOf 4 = .ok (.iconst 4, 1) := by decide +kernel
theorem dX3_slotOf_5 : decode cX3_slotOf 5 = .ok (.if_icmp .ge 27, 3) := by decide +kernel
theorem dX3_slotOf_8 : decode cX3_slotOf 8 = .ok (.iload_n 1, 1) := by decide +kernel
theorem dX3_slotOf_9 : decode cX3_slotOf 9 = .ok (.aload_n 0, 1) := by decide +kernel
theorem dX3_slotOf_10 : decode cX3_slotOf 10 = .ok (.getfield 18, 3) := by decide +kernel
theorem dX3_slotOf_13 : decode cX3_slotOf 13 = .ok (.invokestatic 39, 3) := by decide +kernel
theorem dX3_slotOf_16 : decode cX3_slotOf 16 = .ok (.istore_n 2, 1) := by decide +kernel
theorem dX3_slotOf_17 : decode cX3_slotOf 17 = .ok (.aload_n 0, 1) := by decide +kernel
theorem dX3_slotOf_18 : decode cX3_slotOf 18 = .ok (.iload_n 2, 1) := by decide +kernel
theorem dX3_slotOf_19 : decode cX3_slotOf 19 = .ok (.invokevirtual 45, 3) := by decide +kernel
theorem dX3_slotOf_22 : decode cX3_slotOf 22 = .ok (.iload_n 1, 1) := by decide +kernel
theorem dX3_slotOf_23 : decode cX3_slotOf 23 = .ok (.if_icmp .ne 7, 3) := by decide +kernel
theorem dX3_slotOf_26 : decode cX3_slotOf 26 = .ok (.iload_n 2, 1) := by decide +kernel
theorem dX3_slotOf_27 : decode cX3_slotOf 27 = .ok (.goto 4, 3) := by decide +kernel
theorem dX3_slotOf_30 : decode cX3_slotOf 30 = .ok (.iconst (-1), 1) := by decide +kernel
theorem dX3_slotOf_31 : decode cX3_slotOf 31 = .ok (.ireturn, 1) := by decide +kernel
theorem dX3_slotOf_32 : decode cX3_slotOf 32 = .ok (.iconst 0, 1) := by decide +kernel
theorem dX3_slotOf_33 : decode cX3_slotOf 33 = .ok (.istore_n 2, 1) := by decide +kernel
theorem dX3_slotOf_34 : decode cX3_slotOf 34 = .ok (.iload_n 2, 1) := by decide +kernel
theorem dX3_slotOf_35 : decode cX3_slotOf 35 = .ok (.aload_n 0, 1) := by decide +kernel
theorem dX3_slotOf_36 : decode cX3_slotOf 36 = .ok (.getfield 9, 3) := by decide +kernel
theorem dX3_slotOf_39 : decode cX3_slotOf 39 = .ok (.if_icmp .ge 20, 3) := by decide +kernel
theorem dX3_slotOf_42 : decode cX3_slotOf 42 = .ok (.aload_n 0, 1) := by decide +kernel
theorem dX3_slotOf_43 : decode cX3_slotOf 43 = .ok (.iload_n 2, 1) := by decide +kernel
theorem dX3_slotOf_44 : decode cX3_slotOf 44 = .ok (.invokevirtual 45, 3) := by decide +kernel
theorem dX3_slotOf_47 : decode cX3_slotOf 47 = .ok (.iload_n 1, 1) := by decide +kernel
theorem dX3_slotOf_48 : decode cX3_slotOf 48 = .ok (.if_icmp .ne 5, 3) := by decide +kernel
theorem dX3_slotOf_51 : decode cX3_slotOf 51 = .ok (.iload_n 2, 1) := by decide +kernel
theorem dX3_slotOf_52 : decode cX3_slotOf 52 = .ok (.ireturn, 1) := by decide +kernel
theorem dX3_slotOf_53 : decode cX3_slotOf 53 = .ok (.iinc 2 1, 3) := by decide +kernel
theorem dX3_slotOf_56 : decode cX3_slotOf 56 = .ok (.goto (-22), 3) := by decide +kernel
theorem dX3_slotOf_59 : decode cX3_slotOf 59 = .ok (.iconst (-1), 1) := by decide +kernel
theorem dX3_slotOf_60 : decode cX3_slotOf 60 = .ok (.ireturn, 1) := by decide +kernel
theorem dX4_init_0 : decode cX4_init 0 = .ok (.aload_n 0, 1) := by decide +kernel
theorem dX4_init_1 : decode cX4_init 1 = .ok (.invokespecial 3, 3) := by decide +kernel
theorem dX4_init_4 : decode cX4_init 4 = .ok (.aload_n 0, 1) := by decide +kernel
theorem dX4_init_5 : decode cX4_init 5 = .ok (.lconst 0, 1) := by decide +kernel
theorem dX4_init_6 : decode cX4_init 6 = .ok (.putfield 9, 3) := by decide +kernel
theorem dX4_init_9 : decode cX4_init 9 = .ok (.return_, 1) := by decide +kernel
theorem dX4_freshLeaf_0 : decode cX4_freshLeaf 0 = .ok (.aload_n 0, 1) := by decide +kernel
theorem dX4_freshLeaf_1 : decode cX4_freshLeaf 1 = .ok (.dup, 1) := by decide +kernel
theorem dX4_freshLeaf_2 : decode cX4_freshLeaf 2 = .ok (.getfield 9, 3) := by decide +kernel
theorem dX4_freshLeaf_5 : decode cX4_freshLeaf 5 = .ok (.lconst 1, 1) := by decide +kernel
theorem dX4_freshLeaf_6 : decode cX4_freshLeaf 6 = .ok (.ladd, 1) := by decide +kernel
theorem dX4_freshLeaf_7 : decode cX4_freshLeaf 7 = .ok (.putfield 9, 3) := by decide +kernel
theorem dX4_freshLeaf_10 : decode cX4_freshLeaf 10 = .ok (.new 15, 3) := by decide +kernel
theorem dX4_freshLeaf_13 : decode cX4_freshLeaf 13 = .ok (.dup, 1) := by decide +kernel
theorem dX4_freshLeaf_14 : decode cX4_freshLeaf 14 = .ok (.iconst 0, 1) := by decide +kernel
theorem dX4_freshLeaf_15 : decode cX4_freshLeaf 15 = .ok (.iload_n 1, 1) := by decide +kernel
theorem dX4_freshLeaf_16 : decode cX4_freshLeaf 16 = .ok (.aconst_null, 1) := by decide +kernel
theorem dX4_freshLeaf_17 : decode cX4_freshLeaf 17 = .ok (.iconst 4, 1) := by decide +kernel
theorem dX4_freshLeaf_18 : decode cX4_freshLeaf 18 = .ok (.newarray .int, 2) := by decide +kernel
theorem dX4_freshLeaf_20 : decode cX4_freshLeaf 20 = .ok (.aconst_null, 1) := by decide +kernel
theorem dX4_freshLeaf_21 : decode cX4_freshLeaf 21 = .ok (.invokespecial 17, 3) := by decide +kernel
theorem dX4_freshLeaf_24 : decode cX4_freshLeaf 24 = .ok (.areturn, 1) := by decide +kernel
theorem dX4_freshInner_0 : decode cX4_freshInner 0 = .ok (.aload_n 0, 1) := by decide +kernel
theorem dX4_freshInner_1 : decode cX4_freshInner 1 = .ok (.dup, 1) := by decide +kernel
theorem dX4_freshInner_2 : decode cX4_freshInner 2 = .ok (.getfield 9, 3) := by decide +kernel
theorem dX4_freshInner_5 : decode cX4_freshInner 5 = .ok (.lconst 1, 1) := by decide +kernel
theorem dX4_freshInner_6 : decode cX4_freshInner 6 = .ok (.ladd, 1) := by decide +kernel
theorem dX4_freshInner_7 : decode cX4_freshInner 7 = .ok (.putfield 9, 3) := by decide +kernel
theorem dX4_freshInner_10 : decode cX4_freshInner 10 = .ok (.new 15, 3) := by decide +kernel
theorem dX4_freshInner_13 : decode cX4_freshInner 13 = .ok (.dup, 1) := by decide +kernel
theorem dX4_freshInner_14 : decode cX4_freshInner 14 = .ok (.iconst 0, 1) := by decide +kernel
theorem dX4_freshInner_15 : decode cX4_freshInner 15 = .ok (.iload_n 1, 1) := by decide +kernel
theorem dX4_freshInner_16 : decode cX4_freshInner 16 = .ok (.aconst_null, 1) := by decide +kernel
theorem dX4_freshInner_17 : decode cX4_freshInner 17 = .ok (.aconst_null, 1) := by decide +kernel
theorem dX4_freshInner_18 : decode cX4_freshInner 18 = .ok (.iconst 4, 1) := by decide +kernel
theorem dX4_freshInner_19 : decode cX4_freshInner 19 = .ok (.anewarray 15, 3) := by decide +kernel
theorem dX4_freshInner_22 : decode cX4_freshInner 22 = .ok (.invokespecial 17, 3) := by decide +kernel
theorem dX4_freshInner_25 : decode cX4_freshInner 25 = .ok (.areturn, 1) := by decide +kernel
theorem dX4_freshMapNode_0 : decode cX4_freshMapNode 0 = .ok (.aload_n 0, 1) := by decide +kernel
theorem dX4_freshMapNode_1 : decode cX4_freshMapNode 1 = .ok (.dup, 1) := by decide +kernel
theorem dX4_freshMapNode_2 : decode cX4_freshMapNode 2 = .ok (.getfield 9, 3) := by decide +kernel
theorem dX4_freshMapNode_5 : decode cX4_freshMapNode 5 = .ok (.lconst 1, 1) := by decide +kernel
theorem dX4_freshMapNode_6 : decode cX4_freshMapNode 6 = .ok (.ladd, 1) := by decide +kernel
theorem dX4_freshMapNode_7 : decode cX4_freshMapNode 7 = .ok (.putfield 9, 3) := by decide +kernel
theorem dX4_freshMapNode_10 : decode cX4_freshMapNode 10 = .ok (.iload_n 1, 1) := by decide +kernel
theorem dX4_freshMapNode_11 : decode cX4_freshMapNode 11 = .ok (.iconst 4, 1) := by decide +kernel
theorem dX4_freshMapNode_12 : decode cX4_freshMapNode 12 = .ok (.if_icmp .lt 7, 3) := by decide +kernel
theorem dX4_freshMapNode_15 : decode cX4_freshMapNode 15 = .ok (.iconst 1, 1) := by decide +kernel
theorem dX4_freshMapNode_16 : decode cX4_freshMapNode 16 = .ok (.goto 4, 3) := by decide +kernel
theorem dX4_freshMapNode_19 : decode cX4_freshMapNode 19 = .ok (.iconst 0, 1) := by decide +kernel
theorem dX4_freshMapNode_20 : decode cX4_freshMapNode 20 = .ok (.istore_n 2, 1) := by decide +kernel
theorem dX4_freshMapNode_21 : decode cX4_freshMapNode 21 = .ok (.iload_n 2, 1) := by decide +kernel
theorem dX4_freshMapNode_22 : decode cX4_freshMapNode 22 = .ok (.ifCond .eq 8, 3) := by decide +kernel
theorem dX4_freshMapNode_25 : decode cX4_freshMapNode 25 = .ok (.bipush 40, 2) := by decide +kernel
theorem dX4_freshMapNode_27 : decode cX4_freshMapNode 27 = .ok (.goto 4, 3) := by decide +kernel
theorem dX4_freshMapNode_30 : decode cX4_freshMapNode 30 = .ok (.iconst 4, 1) := by decide +kernel
theorem dX4_freshMapNode_31 : decode cX4_freshMapNode 31 = .ok (.istore_n 3, 1) := by decide +kernel
theorem dX4_freshMapNode_32 : decode cX4_freshMapNode 32 = .ok (.iload_n 3, 1) := by decide +kernel
theorem dX4_freshMapNode_33 : decode cX4_freshMapNode 33 = .ok (.newarray .int, 2) := by decide +kernel
theorem dX4_freshMapNode_35 : decode cX4_freshMapNode 35 = .ok (.astore 4, 2) := by decide +kernel
theorem dX4_freshMapNode_37 : decode cX4_freshMapNode 37 = .ok (.aload 4, 2) := by decide +kernel
theorem dX4_freshMapNode_39 : decode cX4_freshMapNode 39 = .ok (.iconst (-1), 1) := by decide +kernel
theorem dX4_freshMapNode_40 : decode cX4_freshMapNode 40 = .ok (.invokestatic 20, 3) := by decide +kernel
theorem dX4_freshMapNode_43 : decode cX4_freshMapNode 43 = .ok (.new 15, 3) := by decide +kernel
theorem dX4_freshMapNode_46 : decode cX4_freshMapNode 46 = .ok (.dup, 1) := by decide +kernel
theorem dX4_freshMapNode_47 : decode cX4_freshMapNode 47 = .ok (.iload_n 1, 1) := by decide +kernel
theorem dX4_freshMapNode_48 : decode cX4_freshMapNode 48 = .ok (.iconst (-1), 1) := by decide +kernel
theorem dX4_freshMapNode_49 : decode cX4_freshMapNode 49 = .ok (.aload 4, 2) := by decide +kernel
theorem dX4_freshMapNode_51 : decode cX4_freshMapNode 51 = .ok (.iload_n 3, 1) := by decide +kernel
theorem dX4_freshMapNode_52 : decode cX4_freshMapNode 52 = .ok (.newarray .int, 2) := by decide +kernel
theorem dX4_freshMapNode_54 : decode cX4_freshMapNode 54 = .ok (.iload_n 2, 1) := by decide +kernel
theorem dX4_freshMapNode_55 : decode cX4_freshMapNode 55 = .ok (.ifCond .eq 7, 3) := by decide +kernel
theorem dX4_freshMapNode_58 : decode cX4_freshMapNode 58 = .ok (.aconst_null, 1) := by decide +kernel
theorem dX4_freshMapNode_59 : decode cX4_freshMapNode 59 = .ok (.goto 7, 3) := by decide +kernel
theorem dX4_freshMapNode_62 : decode cX4_freshMapNode 62 = .ok (.iconst 4, 1) := by decide +kernel
theorem dX4_freshMapNode_63 : decode cX4_freshMapNode 63 = .ok (.anewarray 15, 3) := by decide +kernel
theorem dX4_freshMapNode_66 : decode cX4_freshMapNode 66 = .ok (.invokespecial 17, 3) := by decide +kernel
theorem dX4_freshMapNode_69 : decode cX4_freshMapNode 69 = .ok (.areturn, 1) := by decide +kernel
theorem dX4_copyOf_0 : decode cX4_copyOf 0 = .ok (.aload_n 0, 1) := by decide +kernel
theorem dX4_copyOf_1 : decode cX4_copyOf 1 = .ok (.dup, 1) := by decide +kernel
theorem dX4_copyOf_2 : decode cX4_copyOf 2 = .ok (.getfield 9, 3) := by decide +kernel
theorem dX4_copyOf_5 : decode cX4_copyOf 5 = .ok (.lconst 1, 1) := by decide +kernel
theorem dX4_copyOf_6 : decode cX4_copyOf 6 = .ok (.ladd, 1) := by decide +kernel
theorem dX4_copyOf_7 : decode cX4_copyOf 7 = .ok (.putfield 9, 3) := by decide +kernel
theorem dX4_copyOf_10 : decode cX4_copyOf 10 = .ok (.aload_n 1, 1) := by decide +kernel
theorem dX4_copyOf_11 : decode cX4_copyOf 11 = .ok (.getfield 26, 3) := by decide +kernel
theorem dX4_copyOf_14 : decode cX4_copyOf 14 = .ok (.ifnonnull 7, 3) := by decide +kernel
theorem dX4_copyOf_17 : decode cX4_copyOf 17 = .ok (.aconst_null, 1) := by decide +kernel
theorem dX4_copyOf_18 : decode cX4_copyOf 18 = .ok (.goto 15, 3) := by decide +kernel
theorem dX4_copyOf_21 : decode cX4_copyOf 21 = .ok (.aload_n 1, 1) := by decide +kernel
theorem dX4_copyOf_22 : decode cX4_copyOf 22 = .ok (.getfield 26, 3) := by decide +kernel
theorem dX4_copyOf_25 : decode cX4_copyOf 25 = .ok (.aload_n 1, 1) := by decide +kernel
theorem dX4_copyOf_26 : decode cX4_copyOf 26 = .ok (.getfield 26, 3) := by decide +kernel
theorem dX4_copyOf_29 : decode cX4_copyOf 29 = .ok (.arraylength, 1) := by decide +kernel
theorem dX4_copyOf_30 : decode cX4_copyOf 30 = .ok (.invokestatic 30, 3) := by decide +kernel
theorem dX4_copyOf_33 : decode cX4_copyOf 33 = .ok (.astore_n 3, 1) := by decide +kernel
theorem dX4_copyOf_34 : decode cX4_copyOf 34 = .ok (.aload_n 1, 1) := by decide +kernel
theorem dX4_copyOf_35 : decode cX4_copyOf 35 = .ok (.getfield 34, 3) := by decide +kernel
theorem dX4_copyOf_38 : decode cX4_copyOf 38 = .ok (.ifnonnull 7, 3) := by decide +kernel
theorem dX4_copyOf_41 : decode cX4_copyOf 41 = .ok (.aconst_null, 1) := by decide +kernel
theorem dX4_copyOf_42 : decode cX4_copyOf 42 = .ok (.goto 15, 3) := by decide +kernel
theorem dX4_copyOf_45 : decode cX4_copyOf 45 = .ok (.aload_n 1, 1) := by decide +kernel
theorem dX4_copyOf_46 : decode cX4_copyOf 46 = .ok (.getfield 34, 3) := by decide +kernel
theorem dX4_copyOf_49 : decode cX4_copyOf 49 = .ok (.aload_n 1, 1) := by decide +kernel
theorem dX4_copyOf_50 : decode cX4_copyOf 50 = .ok (.getfield 34, 3) := by decide +kernel
theorem dX4_copyOf_53 : decode cX4_copyOf 53 = .ok (.arraylength, 1) := by decide +kernel
theorem dX4_copyOf_54 : decode cX4_copyOf 54 = .ok (.invokestatic 30, 3) := by decide +kernel
theorem dX4_copyOf_57 : decode cX4_copyOf 57 = .ok (.astore 4, 2) := by decide +kernel
theorem dX4_copyOf_59 : decode cX4_copyOf 59 = .ok (.aload_n 1, 1) := by decide +kernel
theorem dX4_copyOf_60 : decode cX4_copyOf 60 = .ok (.getfield 37, 3) := by decide +kernel
theorem dX4_copyOf_63 : decode cX4_copyOf 63 = .ok (.ifnonnull 7, 3) := by decide +kernel
theorem dX4_copyOf_66 : decode cX4_copyOf 66 = .ok (.aconst_null, 1) := by decide +kernel
theorem dX4_copyOf_67 : decode cX4_copyOf 67 = .ok (.goto 7, 3) := by decide +kernel
theorem dX4_copyOf_70 : decode cX4_copyOf 70 = .ok (.iconst 4, 1) := by decide +kernel
theorem dX4_copyOf_71 : decode cX4_copyOf 71 = .ok (.anewarray 15, 3) := by decide +kernel
theorem dX4_copyOf_74 : decode cX4_copyOf 74 = .ok (.astore 5, 2) := by decide +kernel
theorem dX4_copyOf_76 : decode cX4_copyOf 76 = .ok (.new 15, 3) := by decide +kernel
theorem dX4_copyOf_79 : decode cX4_copyOf 79 = .ok (.dup, 1) := by decide +kernel
theorem dX4_copyOf_80 : decode cX4_copyOf 80 = .ok (.aload_n 1, 1) := by decide +kernel
theorem dX4_copyOf_81 : decode cX4_copyOf 81 = .ok (.getfield 41, 3) := by decide +kernel
theorem dX4_copyOf_84 : decode cX4_copyOf 84 = .ok (.iload_n 2, 1) := by decide +kernel
theorem dX4_copyOf_85 : decode cX4_copyOf 85 = .ok (.aload_n 3, 1) := by decide +kernel
theorem dX4_copyOf_86 : decode cX4_copyOf 86 = .ok (.aload 4, 2) := by decide +kernel
theorem dX4_copyOf_88 : decode cX4_copyOf 88 = .ok (.aload 5, 2) := by decide +kernel
theorem dX4_copyOf_90 : decode cX4_copyOf 90 = .ok (.invokespecial 17, 3) := by decide +kernel
theorem dX4_copyOf_93 : decode cX4_copyOf 93 = .ok (.astore 6, 2) := by decide +kernel
theorem dX4_copyOf_95 : decode cX4_copyOf 95 = .ok (.iconst 0, 1) := by decide +kernel
theorem dX4_copyOf_96 : decode cX4_copyOf 96 = .ok (.istore 7, 2) := by decide +kernel
theorem dX4_copyOf_98 : decode cX4_copyOf 98 = .ok (.iload 7, 2) := by decide +kernel
theorem dX4_copyOf_100 : decode cX4_copyOf 100 = .ok (.iconst 4, 1) := by decide +kernel
theorem dX4_copyOf_101 : decode cX4_copyOf 101 = .ok (.if_icmp .ge 22, 3) := by decide +kernel
theorem dX4_copyOf_104 : decode cX4_copyOf 104 = .ok (.aload 6, 2) := by decide +kernel
theorem dX4_copyOf_106 : decode cX4_copyOf 106 = .ok (.iload 7, 2) := by decide +kernel
theorem dX4_copyOf_108 : decode cX4_copyOf 108 = .ok (.aload_n 1, 1) := by decide +kernel
theorem dX4_copyOf_109 : decode cX4_copyOf 109 = .ok (.iload 7, 2) := by decide +kernel
theorem dX4_copyOf_111 : decode cX4_copyOf 111 = .ok (.invokevirtual 45, 3) := by decide +kernel
theorem dX4_copyOf_114 : decode cX4_copyOf 114 = .ok (.invokevirtual 49, 3) := by decide +kernel
theorem dX4_copyOf_117 : decode cX4_copyOf 117 = .ok (.iinc 7 1, 3) := by decide +kernel
theorem dX4_copyOf_120 : decode cX4_copyOf 120 = .ok (.goto (-22), 3) := by decide +kernel
theorem dX4_copyOf_123 : decode cX4_copyOf 123 = .ok (.aload 6, 2) := by decide +kernel
theorem dX4_copyOf_125 : decode cX4_copyOf 125 = .ok (.aload_n 1, 1) := by decide +kernel
theorem dX4_copyOf_126 : decode cX4_copyOf 126 = .ok (.getfield 53, 3) := by decide +kernel
theorem dX4_copyOf_129 : decode cX4_copyOf 129 = .ok (.putfield 53, 3) := by decide +kernel
theorem dX4_copyOf_132 : decode cX4_copyOf 132 = .ok (.aload 6, 2) := by decide +kernel
theorem dX4_copyOf_134 : decode cX4_copyOf 134 = .ok (.areturn, 1) := by decide +kernel
theorem dX4_ownOrCopy_0 : decode cX4_ownOrCopy 0 = .ok (.iload_n 2, 1) := by decide +kernel
theorem dX4_ownOrCopy_1 : decode cX4_ownOrCopy 1 = .ok (.iconst (-1), 1) := by decide +kernel
theorem dX4_ownOrCopy_2 : decode cX4_ownOrCopy 2 = .ok (.if_icmp .eq 15, 3) := by decide +kernel
theorem dX4_ownOrCopy_5 : decode cX4_ownOrCopy 5 = .ok (.aload_n 1, 1) := by decide +kernel
theorem dX4_ownOrCopy_6 : decode cX4_ownOrCopy 6 = .ok (.getfield 56, 3) := by decide +kernel
theorem dX4_ownOrCopy_9 : decode cX4_ownOrCopy 9 = .ok (.iload_n 2, 1) := by decide +kernel
theorem dX4_ownOrCopy_10 : decode cX4_ownOrCopy 10 = .ok (.if_icmp .ne 7, 3) := by decide +kernel
theorem dX4_ownOrCopy_13 : decode cX4_ownOrCopy 13 = .ok (.aload_n 1, 1) := by decide +kernel
theorem dX4_ownOrCopy_14 : decode cX4_ownOrCopy 14 = .ok (.goto 9, 3) := by decide +kernel
theorem dX4_ownOrCopy_17 : decode cX4_ownOrCopy 17 = .ok (.aload_n 0, 1) := by decide +kernel
theorem dX4_ownOrCopy_18 : decode cX4_ownOrCopy 18 = .ok (.aload_n 1, 1) := by decide +kernel
theorem dX4_ownOrCopy_19 : decode cX4_ownOrCopy 19 = .ok (.iload_n 2, 1) := by decide +kernel
theorem dX4_ownOrCopy_20 : decode cX4_ownOrCopy 20 = .ok (.invokevirtual 59, 3) := by decide +kernel
theorem dX4_ownOrCopy_23 : decode cX4_ownOrCopy 23 = .ok (.areturn, 1) := by decide +kernel
theorem dX5_init_0 : decode cX5_init 0 = .ok (.aload_n 0, 1) := by decide +kernel
theorem dX5_init_1 : decode cX5_init 1 = .ok (.invokespecial 3, 3) := by decide +kernel
theorem dX5_init_4 : decode cX5_init 4 = .ok (.aload_n 0, 1) := by decide +kernel
theorem dX5_init_5 : decode cX5_init 5 = .ok (.bipush 8, 2) := by decide +kernel
theorem dX5_init_7 : decode cX5_init 7 = .ok (.newarray .int, 2) := by decide +kernel
theorem dX5_init_9 : decode cX5_init 9 = .ok (.putfield 9, 3) := by decide +kernel
theorem dX5_init_12 : decode cX5_init 12 = .ok (.aload_n 0, 1) := by decide +kernel
theorem dX5_init_13 : decode cX5_init 13 = .ok (.bipush 8, 2) := by decide +kernel
theorem dX5_init_15 : decode cX5_init 15 = .ok (.newarray .int, 2) := by decide +kernel
theorem dX5_init_17 : decode cX5_init 17 = .ok (.putfield 15, 3) := by decide +kernel
theorem dX5_init_20 : decode cX5_init 20 = .ok (.aload_n 0, 1) := by decide +kernel
theorem dX5_init_21 : decode cX5_init 21 = .ok (.iconst 1, 1) := by decide +kernel
theorem dX5_init_22 : decode cX5_init 22 = .ok (.putfield 18, 3) := by decide +kernel
theorem dX5_init_25 : decode cX5_init 25 = .ok (.aload_n 0, 1) := by decide +kernel
theorem dX5_init_26 : decode cX5_init 26 = .ok (.iconst 2, 1) := by decide +kernel
theorem dX5_init_27 : decode cX5_init 27 = .ok (.putfield 22, 3) := by decide +kernel
theorem dX5_init_30 : decode cX5_init 30 = .ok (.aload_n 0, 1) := by decide +kernel
theorem dX5_init_31 : decode cX5_init 31 = .ok (.iload_n 1, 1) := by decide +kernel
theorem dX5_init_32 : decode cX5_init 32 = .ok (.putfield 25, 3) := by decide +kernel
theorem dX5_init_35 : decode cX5_init 35 = .ok (.aload_n 0, 1) := by decide +kernel
theorem dX5_init_36 : decode cX5_init 36 = .ok (.iload_n 2, 1) := by decide +kernel
theorem dX5_init_37 : decode cX5_init 37 = .ok (.putfield 28, 3) := by decide +kernel
theorem dX5_init_40 : decode cX5_init 40 = .ok (.aload_n 0, 1) := by decide +kernel
theorem dX5_init_41 : decode cX5_init 41 = .ok (.iload_n 3, 1) := by decide +kernel
theorem dX5_init_42 : decode cX5_init 42 = .ok (.putfield 31, 3) := by decide +kernel
theorem dX5_init_45 : decode cX5_init 45 = .ok (.aload_n 0, 1) := by decide +kernel
theorem dX5_init_46 : decode cX5_init 46 = .ok (.getfield 9, 3) := by decide +kernel
theorem dX5_init_49 : decode cX5_init 49 = .ok (.iconst 0, 1) := by decide +kernel
theorem dX5_init_50 : decode cX5_init 50 = .ok (.iload_n 1, 1) := by decide +kernel
theorem dX5_init_51 : decode cX5_init 51 = .ok (.iastore, 1) := by decide +kernel
theorem dX5_init_52 : decode cX5_init 52 = .ok (.return_, 1) := by decide +kernel
theorem dX5_latestValue_0 : decode cX5_latestValue 0 = .ok (.aload_n 0, 1) := by decide +kernel
theorem dX5_latestValue_1 : decode cX5_latestValue 1 = .ok (.aload_n 0, 1) := by decide +kernel
theorem dX5_latestValue_2 : decode cX5_latestValue 2 = .ok (.getfield 18, 3) := by decide +kernel
theorem dX5_latestValue_5 : decode cX5_latestValue 5 = .ok (.iconst 1, 1) := by decide +kernel
theorem dX5_latestValue_6 : decode cX5_latestValue 6 = .ok (.isub, 1) := by decide +kernel
theorem dX5_latestValue_7 : decode cX5_latestValue 7 = .ok (.invokevirtual 34, 3) := by decide +kernel
theorem dX5_latestValue_10 : decode cX5_latestValue 10 = .ok (.ireturn, 1) := by decide +kernel
theorem dX5_latestMoment_0 : decode cX5_latestMoment 0 = .ok (.aload_n 0, 1) := by decide +kernel
theorem dX5_latestMoment_1 : decode cX5_latestMoment 1 = .ok (.aload_n 0, 1) := by decide +kernel
theorem dX5_latestMoment_2 : decode cX5_latestMoment 2 = .ok (.getfield 18, 3) := by decide +kernel
theorem dX5_latestMoment_5 : decode cX5_latestMoment 5 = .ok (.iconst 1, 1) := by decide +kernel
theorem dX5_latestMoment_6 : decode cX5_latestMoment 6 = .ok (.isub, 1) := by decide +kernel
theorem dX5_latestMoment_7 : decode cX5_latestMoment 7 = .ok (.invokevirtual 38, 3) := by decide +kernel
theorem dX5_latestMoment_10 : decode cX5_latestMoment 10 = .ok (.ireturn, 1) := by decide +kernel
theorem dX5_valueAt_0 : decode cX5_valueAt 0 = .ok (.iload_n 1, 1) := by decide +kernel
theorem dX5_valueAt_1 : decode cX5_valueAt 1 = .ok (.ifCond .lt 12, 3) := by decide +kernel
theorem dX5_valueAt_4 : decode cX5_valueAt 4 = .ok (.iload_n 1, 1) := by decide +kernel
theorem dX5_valueAt_5 : decode cX5_valueAt 5 = .ok (.aload_n 0, 1) := by decide +kernel
theorem dX5_valueAt_6 : decode cX5_valueAt 6 = .ok (.getfield 9, 3) := by decide +kernel
theorem dX5_valueAt_9 : decode cX5_valueAt 9 = .ok (.arraylength, 1) := by decide +kernel
theorem dX5_valueAt_10 : decode cX5_valueAt 10 = .ok (.if_icmp .lt 10, 3) := by decide +kernel
theorem dX5_valueAt_13 : decode cX5_valueAt 13 = .ok (.aload_n 0, 1) := by decide +kernel
theorem dX5_valueAt_14 : decode cX5_valueAt 14 = .ok (.getfield 25, 3) := by decide +kernel
theorem dX5_valueAt_17 : decode cX5_valueAt 17 = .ok (.goto 9, 3) := by decide +kernel
theorem dX5_valueAt_20 : decode cX5_valueAt 20 = .ok (.aload_n 0, 1) := by decide +kernel
theorem dX5_valueAt_21 : decode cX5_valueAt 21 = .ok (.getfield 9, 3) := by decide +kernel
theorem dX5_valueAt_24 : decode cX5_valueAt 24 = .ok (.iload_n 1, 1) := by decide +kernel
theorem dX5_valueAt_25 : decode cX5_valueAt 25 = .ok (.iaload, 1) := by decide +kernel
theorem dX5_valueAt_26 : decode cX5_valueAt 26 = .ok (.ireturn, 1) := by decide +kernel
theorem dX5_momentAt_0 : decode cX5_momentAt 0 = .ok (.iload_n 1, 1) := by decide +kernel
theorem dX5_momentAt_1 : decode cX5_momentAt 1 = .ok (.ifCond .lt 12, 3) := by decide +kernel
theorem dX5_momentAt_4 : decode cX5_momentAt 4 = .ok (.iload_n 1, 1) := by decide +kernel
theorem dX5_momentAt_5 : decode cX5_momentAt 5 = .ok (.aload_n 0, 1) := by decide +kernel
theorem dX5_momentAt_6 : decode cX5_momentAt 6 = .ok (.getfield 15, 3) := by decide +kernel
theorem dX5_momentAt_9 : decode cX5_momentAt 9 = .ok (.arraylength, 1) := by decide +kernel
theorem dX5_momentAt_10 : decode cX5_momentAt 10 = .ok (.if_icmp .lt 7, 3) := by decide +kernel
theorem dX5_momentAt_13 : decode cX5_momentAt 13 = .ok (.iconst 0, 1) := by decide +kernel
theorem dX5_momentAt_14 : decode cX5_momentAt 14 = .ok (.goto 9, 3) := by decide +kernel
theorem dX5_momentAt_17 : decode cX5_momentAt 17 = .ok (.aload_n 0, 1) := by decide +kernel
theorem dX5_momentAt_18 : decode cX5_momentAt 18 = .ok (.getfield 15, 3) := by decide +kernel
theorem dX5_momentAt_21 : decode cX5_momentAt 21 = .ok (.iload_n 1, 1) := by decide +kernel
theorem dX5_momentAt_22 : decode cX5_momentAt 22 = .ok (.iaload, 1) := by decide +kernel
theorem dX5_momentAt_23 : decode cX5_momentAt 23 = .ok (.ireturn, 1) := by decide +kernel
theorem dX5_entryNotBehind_0 : decode cX5_entryNotBehind 0 = .ok (.aload_n 0, 1) := by decide +kernel
theorem dX5_entryNotBehind_1 : decode cX5_entryNotBehind 1 = .ok (.getfield 18, 3) := by decide +kernel
theorem dX5_entryNotBehind_4 : decode cX5_entryNotBehind 4 = .ok (.iconst 1, 1) := by decide +kernel
theorem dX5_entryNotBehind_5 : decode cX5_entryNotBehind 5 = .ok (.isub, 1) := by decide +kernel
theorem dX5_entryNotBehind_6 : decode cX5_entryNotBehind 6 = .ok (.istore_n 2, 1) := by decide +kernel
theorem dX5_entryNotBehind_7 : decode cX5_entryNotBehind 7 = .ok (.iload_n 2, 1) := by decide +kernel
theorem dX5_entryNotBehind_8 : decode cX5_entryNotBehind 8 = .ok (.ifCond .lt 20, 3) := by decide +kernel
theorem dX5_entryNotBehind_11 : decode cX5_entryNotBehind 11 = .ok (.aload_n 0, 1) := by decide +kernel
theorem dX5_entryNotBehind_12 : decode cX5_entryNotBehind 12 = .ok (.iload_n 2, 1) := by decide +kernel
theorem dX5_entryNotBehind_13 : decode cX5_entryNotBehind 13 = .ok (.invokevirtual 38, 3) := by decide +kernel
theorem dX5_entryNotBehind_16 : decode cX5_entryNotBehind 16 = .ok (.iload_n 1, 1) := by decide +kernel
theorem dX5_entryNotBehind_17 : decode cX5_entryNotBehind 17 = .ok (.if_icmp .gt 5, 3) := by decide +kernel
theorem dX5_entryNotBehind_20 : decode cX5_entryNotBehind 20 = .ok (.iload_n 2, 1) := by decide +kernel
theorem dX5_entryNotBehind_21 : decode cX5_entryNotBehind 21 = .ok (.ireturn, 1) := by decide +kernel
theorem dX5_entryNotBehind_22 : decode cX5_entryNotBehind 22 = .ok (.iinc 2 (-1), 3) := by decide +kernel
theorem dX5_entryNotBehind_25 : decode cX5_entryNotBehind 25 = .ok (.goto (-18), 3) := by decide +kernel
theorem dX5_entryNotBehind_28 : decode cX5_entryNotBehind 28 = .ok (.iconst (-1), 1) := by decide +kernel
theorem dX5_entryNotBehind_29 : decode cX5_entryNotBehind 29 = .ok (.ireturn, 1) := by decide +kernel
theorem dX5_raiseLimit_0 : decode cX5_raiseLimit 0 = .ok (.aload_n 0, 1) := by decide +kernel
theorem dX5_raiseLimit_1 : decode cX5_raiseLimit 1 = .ok (.aload_n 0, 1) := by decide +kernel
theorem dX5_raiseLimit_2 : decode cX5_raiseLimit 2 = .ok (.getfield 22, 3) := by decide +kernel
theorem dX5_raiseLimit_5 : decode cX5_raiseLimit 5 = .ok (.iconst 1, 1) := by decide +kernel
theorem dX5_raiseLimit_6 : decode cX5_raiseLimit 6 = .ok (.iadd, 1) := by decide +kernel
theorem dX5_raiseLimit_7 : decode cX5_raiseLimit 7 = .ok (.bipush 8, 2) := by decide +kernel
theorem dX5_raiseLimit_9 : decode cX5_raiseLimit 9 = .ok (.invokestatic 41, 3) := by decide +kernel
theorem dX5_raiseLimit_12 : decode cX5_raiseLimit 12 = .ok (.putfield 22, 3) := by decide +kernel
theorem dX5_raiseLimit_15 : decode cX5_raiseLimit 15 = .ok (.return_, 1) := by decide +kernel
theorem dX5_come_0 : decode cX5_come 0 = .ok (.aload_n 0, 1) := by decide +kernel
theorem dX5_come_1 : decode cX5_come 1 = .ok (.getfield 18, 3) := by decide +kernel
theorem dX5_come_4 : decode cX5_come 4 = .ok (.aload_n 0, 1) := by decide +kernel
theorem dX5_come_5 : decode cX5_come 5 = .ok (.getfield 22, 3) := by decide +kernel
theorem dX5_come_8 : decode cX5_come 8 = .ok (.if_icmp .lt 7, 3) := by decide +kernel
theorem dX5_come_11 : decode cX5_come 11 = .ok (.aload_n 0, 1) := by decide +kernel
theorem dX5_come_12 : decode cX5_come 12 = .ok (.invokevirtual 47, 3) := by decide +kernel
theorem dX5_come_15 : decode cX5_come 15 = .ok (.aload_n 0, 1) := by decide +kernel
theorem dX5_come_16 : decode cX5_come 16 = .ok (.getfield 18, 3) := by decide +kernel
theorem dX5_come_19 : decode cX5_come 19 = .ok (.bipush 8, 2) := by decide +kernel
theorem dX5_come_21 : decode cX5_come 21 = .ok (.if_icmp .ge 33, 3) := by decide +kernel
theorem dX5_come_24 : decode cX5_come 24 = .ok (.aload_n 0, 1) := by decide +kernel
theorem dX5_come_25 : decode cX5_come 25 = .ok (.getfield 9, 3) := by decide +kernel
theorem dX5_come_28 : decode cX5_come 28 = .ok (.aload_n 0, 1) := by decide +kernel
theorem dX5_come_29 : decode cX5_come 29 = .ok (.getfield 18, 3) := by decide +kernel
theorem dX5_come_32 : decode cX5_come 32 = .ok (.iload_n 1, 1) := by decide +kernel
theorem dX5_come_33 : decode cX5_come 33 = .ok (.iastore, 1) := by decide +kernel
theorem dX5_come_34 : decode cX5_come 34 = .ok (.aload_n 0, 1) := by decide +kernel
theorem dX5_come_35 : decode cX5_come 35 = .ok (.getfield 15, 3) := by decide +kernel
theorem dX5_come_38 : decode cX5_come 38 = .ok (.aload_n 0, 1) := by decide +kernel
theorem dX5_come_39 : decode cX5_come 39 = .ok (.getfield 18, 3) := by decide +kernel
theorem dX5_come_42 : decode cX5_come 42 = .ok (.iload_n 2, 1) := by decide +kernel
theorem dX5_come_43 : decode cX5_come 43 = .ok (.iastore, 1) := by decide +kernel
theorem dX5_come_44 : decode cX5_come 44 = .ok (.aload_n 0, 1) := by decide +kernel
theorem dX5_come_45 : decode cX5_come 45 = .ok (.dup, 1) := by decide +kernel
theorem dX5_come_46 : decode cX5_come 46 = .ok (.getfield 18, 3) := by decide +kernel
theorem dX5_come_49 : decode cX5_come 49 = .ok (.iconst 1, 1) := by decide +kernel
theorem dX5_come_50 : decode cX5_come 50 = .ok (.iadd, 1) := by decide +kernel
theorem dX5_come_51 : decode cX5_come 51 = .ok (.putfield 18, 3) := by decide +kernel
theorem dX5_come_54 : decode cX5_come 54 = .ok (.return_, 1) := by decide +kernel
theorem dX5_dropOldest_0 : decode cX5_dropOldest 0 = .ok (.iconst 1, 1) := by decide +kernel
theorem dX5_dropOldest_1 : decode cX5_dropOldest 1 = .ok (.istore_n 1, 1) := by decide +kernel
theorem dX5_dropOldest_2 : decode cX5_dropOldest 2 = .ok (.iload_n 1, 1) := by decide +kernel
theorem dX5_dropOldest_3 : decode cX5_dropOldest 3 = .ok (.aload_n 0, 1) := by decide +kernel
theorem dX5_dropOldest_4 : decode cX5_dropOldest 4 = .ok (.getfield 18, 3) := by decide +kernel
theorem dX5_dropOldest_7 : decode cX5_dropOldest 7 = .ok (.if_icmp .ge 43, 3) := by decide +kernel
theorem dX5_dropOldest_10 : decode cX5_dropOldest 10 = .ok (.iload_n 1, 1) := by decide +kernel
theorem dX5_dropOldest_11 : decode cX5_dropOldest 11 = .ok (.bipush 8, 2) := by decide +kernel
theorem dX5_dropOldest_13 : decode cX5_dropOldest 13 = .ok (.if_icmp .ge 37, 3) := by decide +kernel
theorem dX5_dropOldest_16 : decode cX5_dropOldest 16 = .ok (.aload_n 0, 1) := by decide +kernel
theorem dX5_dropOldest_17 : decode cX5_dropOldest 17 = .ok (.getfield 9, 3) := by decide +kernel
theorem dX5_dropOldest_20 : decode cX5_dropOldest 20 = .ok (.iload_n 1, 1) := by decide +kernel
theorem dX5_dropOldest_21 : decode cX5_dropOldest 21 = .ok (.iconst 1, 1) := by decide +kernel
theorem dX5_dropOldest_22 : decode cX5_dropOldest 22 = .ok (.isub, 1) := by decide +kernel
theorem dX5_dropOldest_23 : decode cX5_dropOldest 23 = .ok (.aload_n 0, 1) := by decide +kernel
theorem dX5_dropOldest_24 : decode cX5_dropOldest 24 = .ok (.getfield 9, 3) := by decide +kernel
theorem dX5_dropOldest_27 : decode cX5_dropOldest 27 = .ok (.iload_n 1, 1) := by decide +kernel
theorem dX5_dropOldest_28 : decode cX5_dropOldest 28 = .ok (.iaload, 1) := by decide +kernel
theorem dX5_dropOldest_29 : decode cX5_dropOldest 29 = .ok (.iastore, 1) := by decide +kernel
theorem dX5_dropOldest_30 : decode cX5_dropOldest 30 = .ok (.aload_n 0, 1) := by decide +kernel
theorem dX5_dropOldest_31 : decode cX5_dropOldest 31 = .ok (.getfield 15, 3) := by decide +kernel
theorem dX5_dropOldest_34 : decode cX5_dropOldest 34 = .ok (.iload_n 1, 1) := by decide +kernel
theorem dX5_dropOldest_35 : decode cX5_dropOldest 35 = .ok (.iconst 1, 1) := by decide +kernel
theorem dX5_dropOldest_36 : decode cX5_dropOldest 36 = .ok (.isub, 1) := by decide +kernel
theorem dX5_dropOldest_37 : decode cX5_dropOldest 37 = .ok (.aload_n 0, 1) := by decide +kernel
theorem dX5_dropOldest_38 : decode cX5_dropOldest 38 = .ok (.getfield 15, 3) := by decide +kernel
theorem dX5_dropOldest_41 : decode cX5_dropOldest 41 = .ok (.iload_n 1, 1) := by decide +kernel
theorem dX5_dropOldest_42 : decode cX5_dropOldest 42 = .ok (.iaload, 1) := by decide +kernel
theorem dX5_dropOldest_43 : decode cX5_dropOldest 43 = .ok (.iastore, 1) := by decide +kernel
theorem dX5_dropOldest_44 : decode cX5_dropOldest 44 = .ok (.iinc 1 1, 3) := by decide +kernel
theorem dX5_dropOldest_47 : decode cX5_dropOldest 47 = .ok (.goto (-45), 3) := by decide +kernel
theorem dX5_dropOldest_50 : decode cX5_dropOldest 50 = .ok (.aload_n 0, 1) := by decide +kernel
theorem dX5_dropOldest_51 : decode cX5_dropOldest 51 = .ok (.dup, 1) := by decide +kernel
theorem dX5_dropOldest_52 : decode cX5_dropOldest 52 = .ok (.getfield 18, 3) := by decide +kernel
theorem dX5_dropOldest_55 : decode cX5_dropOldest 55 = .ok (.iconst 1, 1) := by decide +kernel
theorem dX5_dropOldest_56 : decode cX5_dropOldest 56 = .ok (.isub, 1) := by decide +kernel
theorem dX5_dropOldest_57 : decode cX5_dropOldest 57 = .ok (.putfield 18, 3) := by decide +kernel
theorem dX5_dropOldest_60 : decode cX5_dropOldest 60 = .ok (.return_, 1) := by decide +kernel
theorem dX6_init_0 : decode cX6_init 0 = .ok (.aload_n 0, 1) := by decide +kernel
theorem dX6_init_1 : decode cX6_init 1 = .ok (.invokespecial 3, 3) := by decide +kernel
theorem dX6_init_4 : decode cX6_init 4 = .ok (.aload_n 0, 1) := by decide +kernel
theorem dX6_init_5 : decode cX6_init 5 = .ok (.bipush 24, 2) := by decide +kernel
theorem dX6_init_7 : decode cX6_init 7 = .ok (.newarray .int, 2) := by decide +kernel
theorem dX6_init_9 : decode cX6_init 9 = .ok (.putfield 9, 3) := by decide +kernel
theorem dX6_init_12 : decode cX6_init 12 = .ok (.aload_n 0, 1) := by decide +kernel
theorem dX6_init_13 : decode cX6_init 13 = .ok (.iconst 0, 1) := by decide +kernel
theorem dX6_init_14 : decode cX6_init 14 = .ok (.putfield 15, 3) := by decide +kernel
theorem dX6_init_17 : decode cX6_init 17 = .ok (.aload_n 0, 1) := by decide +kernel
theorem dX6_init_18 : decode cX6_init 18 = .ok (.bipush 24, 2) := by decide +kernel
theorem dX6_init_20 : decode cX6_init 20 = .ok (.newarray .int, 2) := by decide +kernel
theorem dX6_init_22 : decode cX6_init 22 = .ok (.putfield 19, 3) := by decide +kernel
theorem dX6_init_25 : decode cX6_init 25 = .ok (.aload_n 0, 1) := by decide +kernel
theorem dX6_init_26 : decode cX6_init 26 = .ok (.iconst 0, 1) := by decide +kernel
theorem dX6_init_27 : decode cX6_init 27 = .ok (.putfield 22, 3) := by decide +kernel
theorem dX6_init_30 : decode cX6_init 30 = .ok (.aload_n 0, 1) := by decide +kernel
theorem dX6_init_31 : decode cX6_init 31 = .ok (.iconst 0, 1) := by decide +kernel
theorem dX6_init_32 : decode cX6_init 32 = .ok (.putfield 25, 3) := by decide +kernel
theorem dX6_init_35 : decode cX6_init 35 = .ok (.aload_n 0, 1) := by decide +kernel
theorem dX6_init_36 : decode cX6_init 36 = .ok (.iconst 0, 1) := by decide +kernel
theorem dX6_init_37 : decode cX6_init 37 = .ok (.putfield 29, 3) := by decide +kernel
theorem dX6_init_40 : decode cX6_init 40 = .ok (.aload_n 0, 1) := by decide +kernel
theorem dX6_init_41 : decode cX6_init 41 = .ok (.aload_n 1, 1) := by decide +kernel
theorem dX6_init_42 : decode cX6_init 42 = .ok (.putfield 32, 3) := by decide +kernel
theorem dX6_init_45 : decode cX6_init 45 = .ok (.aload_n 0, 1) := by decide +kernel
theorem dX6_init_46 : decode cX6_init 46 = .ok (.iload_n 2, 1) := by decide +kernel
theorem dX6_init_47 : decode cX6_init 47 = .ok (.putfield 36, 3) := by decide +kernel
theorem dX6_init_50 : decode cX6_init 50 = .ok (.aload_n 0, 1) := by decide +kernel
theorem dX6_init_51 : decode cX6_init 51 = .ok (.iload_n 3, 1) := by decide +kernel
theorem dX6_init_52 : decode cX6_init 52 = .ok (.putfield 40, 3) := by decide +kernel
theorem dX6_init_55 : decode cX6_init 55 = .ok (.return_, 1) := by decide +kernel
theorem dX6_fillRange_0 : decode cX6_fillRange 0 = .ok (.iconst 0, 1) := by decide +kernel
theorem dX6_fillRange_1 : decode cX6_fillRange 1 = .ok (.istore 4, 2) := by decide +kernel
theorem dX6_fillRange_3 : decode cX6_fillRange 3 = .ok (.iload 4, 2) := by decide +kernel
theorem dX6_fillRange_5 : decode cX6_fillRange 5 = .ok (.iload_n 3, 1) := by decide +kernel
theorem dX6_fillRange_6 : decode cX6_fillRange 6 = .ok (.if_icmp .ge 40, 3) := by decide +kernel
theorem dX6_fillRange_9 : decode cX6_fillRange 9 = .ok (.aload_n 0, 1) := by decide +kernel
theorem dX6_fillRange_10 : decode cX6_fillRange 10 = .ok (.iload_n 1, 1) := by decide +kernel
theorem dX6_fillRange_11 : decode cX6_fillRange 11 = .ok (.iload 4, 2) := by decide +kernel
theorem dX6_fillRange_13 : decode cX6_fillRange 13 = .ok (.iload_n 2, 1) := by decide +kernel
theorem dX6_fillRange_14 : decode cX6_fillRange 14 = .ok (.imul, 1) := by decide +kernel
theorem dX6_fillRange_15 : decode cX6_fillRange 15 = .ok (.iadd, 1) := by decide +kernel
theorem dX6_fillRange_16 : decode cX6_fillRange 16 = .ok (.invokevirtual 43, 3) := by decide +kernel
theorem dX6_fillRange_19 : decode cX6_fillRange 19 = .ok (.aload_n 0, 1) := by decide +kernel
theorem dX6_fillRange_20 : decode cX6_fillRange 20 = .ok (.getfield 15, 3) := by decide +kernel
theorem dX6_fillRange_23 : decode cX6_fillRange 23 = .ok (.iconst 4, 1) := by decide +kernel
theorem dX6_fillRange_24 : decode cX6_fillRange 24 = .ok (.irem, 1) := by decide +kernel
theorem dX6_fillRange_25 : decode cX6_fillRange 25 = .ok (.ifCond .eq 11, 3) := by decide +kernel
theorem dX6_fillRange_28 : decode cX6_fillRange 28 = .ok (.iload 4, 2) := by decide +kernel
theorem dX6_fillRange_30 : decode cX6_fillRange 30 = .ok (.iload_n 3, 1) := by decide +kernel
theorem dX6_fillRange_31 : decode cX6_fillRange 31 = .ok (.iconst 1, 1) := by decide +kernel
theorem dX6_fillRange_32 : decode cX6_fillRange 32 = .ok (.isub, 1) := by decide +kernel
theorem dX6_fillRange_33 : decode cX6_fillRange 33 = .ok (.if_icmp .ne 7, 3) := by decide +kernel
theorem dX6_fillRange_36 : decode cX6_fillRange 36 = .ok (.aload_n 0, 1) := by decide +kernel
theorem dX6_fillRange_37 : decode cX6_fillRange 37 = .ok (.invokevirtual 47, 3) := by decide +kernel
theorem dX6_fillRange_40 : decode cX6_fillRange 40 = .ok (.iinc 4 1, 3) := by decide +kernel
theorem dX6_fillRange_43 : decode cX6_fillRange 43 = .ok (.goto (-40), 3) := by decide +kernel
theorem dX6_fillRange_46 : decode cX6_fillRange 46 = .ok (.return_, 1) := by decide +kernel
theorem dX6_fillFirst_0 : decode cX6_fillFirst 0 = .ok (.aload_n 0, 1) := by decide +kernel
theorem dX6_fillFirst_1 : decode cX6_fillFirst 1 = .ok (.getfield 32, 3) := by decide +kernel
theorem dX6_fillFirst_4 : decode cX6_fillFirst 4 = .ok (.ifnonnull 4, 3) := by decide +kernel
theorem dX6_fillFirst_7 : decode cX6_fillFirst 7 = .ok (.return_, 1) := by decide +kernel
theorem dX6_fillFirst_8 : decode cX6_fillFirst 8 = .ok (.iconst 0, 1) := by decide +kernel
theorem dX6_fillFirst_9 : decode cX6_fillFirst 9 = .ok (.istore_n 1, 1) := by decide +kernel
theorem dX6_fillFirst_10 : decode cX6_fillFirst 10 = .ok (.iload_n 1, 1) := by decide +kernel
theorem dX6_fillFirst_11 : decode cX6_fillFirst 11 = .ok (.aload_n 0, 1) := by decide +kernel
theorem dX6_fillFirst_12 : decode cX6_fillFirst 12 = .ok (.getfield 32, 3) := by decide +kernel
theorem dX6_fillFirst_15 : decode cX6_fillFirst 15 = .ok (.getfield 15, 3) := by decide +kernel
theorem dX6_fillFirst_18 : decode cX6_fillFirst 18 = .ok (.if_icmp .ge 33, 3) := by decide +kernel
theorem dX6_fillFirst_21 : decode cX6_fillFirst 21 = .ok (.iload_n 1, 1) := by decide +kernel
theorem dX6_fillFirst_22 : decode cX6_fillFirst 22 = .ok (.aload_n 0, 1) := by decide +kernel
theorem dX6_fillFirst_23 : decode cX6_fillFirst 23 = .ok (.getfield 40, 3) := by decide +kernel
theorem dX6_fillFirst_26 : decode cX6_fillFirst 26 = .ok (.if_icmp .ge 25, 3) := by decide +kernel
theorem dX6_fillFirst_29 : decode cX6_fillFirst 29 = .ok (.aload_n 0, 1) := by decide +kernel
theorem dX6_fillFirst_30 : decode cX6_fillFirst 30 = .ok (.aload_n 0, 1) := by decide +kernel
theorem dX6_fillFirst_31 : decode cX6_fillFirst 31 = .ok (.getfield 32, 3) := by decide +kernel
theorem dX6_fillFirst_34 : decode cX6_fillFirst 34 = .ok (.iload_n 1, 1) := by decide +kernel
theorem dX6_fillFirst_35 : decode cX6_fillFirst 35 = .ok (.invokevirtual 50, 3) := by decide +kernel
theorem dX6_fillFirst_38 : decode cX6_fillFirst 38 = .ok (.invokevirtual 43, 3) := by decide +kernel
theorem dX6_fillFirst_41 : decode cX6_fillFirst 41 = .ok (.aload_n 0, 1) := by decide +kernel
theorem dX6_fillFirst_42 : decode cX6_fillFirst 42 = .ok (.invokevirtual 47, 3) := by decide +kernel
theorem dX6_fillFirst_45 : decode cX6_fillFirst 45 = .ok (.iinc 1 1, 3) := by decide +kernel
theorem dX6_fillFirst_48 : decode cX6_fillFirst 48 = .ok (.goto (-38), 3) := by decide +kernel
theorem dX6_fillFirst_51 : decode cX6_fillFirst 51 = .ok (.aload_n 0, 1) := by decide +kernel
theorem dX6_fillFirst_52 : decode cX6_fillFirst 52 = .ok (.aload_n 0, 1) := by decide +kernel
theorem dX6_fillFirst_53 : decode cX6_fillFirst 53 = .ok (.getfield 32, 3) := by decide +kernel
theorem dX6_fillFirst_56 : decode cX6_fillFirst 56 = .ok (.getfield 25, 3) := by decide +kernel
theorem dX6_fillFirst_59 : decode cX6_fillFirst 59 = .ok (.ifCond .eq 21, 3) := by decide +kernel
theorem dX6_fillFirst_62 : decode cX6_fillFirst 62 = .ok (.aload_n 0, 1) := by decide +kernel
theorem dX6_fillFirst_63 : decode cX6_fillFirst 63 = .ok (.getfield 40, 3) := by decide +kernel
theorem dX6_fillFirst_66 : decode cX6_fillFirst 66 = .ok (.aload_n 0, 1) := by decide +kernel
theorem dX6_fillFirst_67 : decode cX6_fillFirst 67 = .ok (.getfield 32, 3) := by decide +kernel
theorem dX6_fillFirst_70 : decode cX6_fillFirst 70 = .ok (.getfield 15, 3) := by decide +kernel
theorem dX6_fillFirst_73 : decode cX6_fillFirst 73 = .ok (.if_icmp .le 7, 3) := by decide +kernel
theorem dX6_fillFirst_76 : decode cX6_fillFirst 76 = .ok (.iconst 1, 1) := by decide +kernel
theorem dX6_fillFirst_77 : decode cX6_fillFirst 77 = .ok (.goto 4, 3) := by decide +kernel
theorem dX6_fillFirst_80 : decode cX6_fillFirst 80 = .ok (.iconst 0, 1) := by decide +kernel
theorem dX6_fillFirst_81 : decode cX6_fillFirst 81 = .ok (.putfield 25, 3) := by decide +kernel
theorem dX6_fillFirst_84 : decode cX6_fillFirst 84 = .ok (.return_, 1) := by decide +kernel
theorem dX6_fillByChunks_0 : decode cX6_fillByChunks 0 = .ok (.aload_n 0, 1) := by decide +kernel
theorem dX6_fillByChunks_1 : decode cX6_fillByChunks 1 = .ok (.getfield 32, 3) := by decide +kernel
theorem dX6_fillByChunks_4 : decode cX6_fillByChunks 4 = .ok (.ifnonnull 4, 3) := by decide +kernel
theorem dX6_fillByChunks_7 : decode cX6_fillByChunks 7 = .ok (.return_, 1) := by decide +kernel
theorem dX6_fillByChunks_8 : decode cX6_fillByChunks 8 = .ok (.iconst 0, 1) := by decide +kernel
theorem dX6_fillByChunks_9 : decode cX6_fillByChunks 9 = .ok (.istore_n 1, 1) := by decide +kernel
theorem dX6_fillByChunks_10 : decode cX6_fillByChunks 10 = .ok (.iload_n 1, 1) := by decide +kernel
theorem dX6_fillByChunks_11 : decode cX6_fillByChunks 11 = .ok (.aload_n 0, 1) := by decide +kernel
theorem dX6_fillByChunks_12 : decode cX6_fillByChunks 12 = .ok (.getfield 32, 3) := by decide +kernel
theorem dX6_fillByChunks_15 : decode cX6_fillByChunks 15 = .ok (.getfield 22, 3) := by decide +kernel
theorem dX6_fillByChunks_18 : decode cX6_fillByChunks 18 = .ok (.if_icmp .ge 88, 3) := by decide +kernel
theorem dX6_fillByChunks_21 : decode cX6_fillByChunks 21 = .ok (.aload_n 0, 1) := by decide +kernel
theorem dX6_fillByChunks_22 : decode cX6_fillByChunks 22 = .ok (.getfield 32, 3) := by decide +kernel
theorem dX6_fillByChunks_25 : decode cX6_fillByChunks 25 = .ok (.iload_n 1, 1) := by decide +kernel
theorem dX6_fillByChunks_26 : decode cX6_fillByChunks 26 = .ok (.invokevirtual 54, 3) := by decide +kernel
theorem dX6_fillByChunks_29 : decode cX6_fillByChunks 29 = .ok (.istore_n 2, 1) := by decide +kernel
theorem dX6_fillByChunks_30 : decode cX6_fillByChunks 30 = .ok (.aload_n 0, 1) := by decide +kernel
theorem dX6_fillByChunks_31 : decode cX6_fillByChunks 31 = .ok (.getfield 32, 3) := by decide +kernel
theorem dX6_fillByChunks_34 : decode cX6_fillByChunks 34 = .ok (.iload_n 1, 1) := by decide +kernel
theorem dX6_fillByChunks_35 : decode cX6_fillByChunks 35 = .ok (.iconst 1, 1) := by decide +kernel
theorem dX6_fillByChunks_36 : decode cX6_fillByChunks 36 = .ok (.iadd, 1) := by decide +kernel
theorem dX6_fillByChunks_37 : decode cX6_fillByChunks 37 = .ok (.invokevirtual 54, 3) := by decide +kernel
theorem dX6_fillByChunks_40 : decode cX6_fillByChunks 40 = .ok (.istore_n 3, 1) := by decide +kernel
theorem dX6_fillByChunks_41 : decode cX6_fillByChunks 41 = .ok (.aload_n 0, 1) := by decide +kernel
theorem dX6_fillByChunks_42 : decode cX6_fillByChunks 42 = .ok (.getfield 36, 3) := by decide +kernel
theorem dX6_fillByChunks_45 : decode cX6_fillByChunks 45 = .ok (.bipush 100, 2) := by decide +kernel
theorem dX6_fillByChunks_47 : decode cX6_fillByChunks 47 = .ok (.if_icmp .ne 21, 3) := by decide +kernel
theorem dX6_fillByChunks_50 : decode cX6_fillByChunks 50 = .ok (.aload_n 0, 1) := by decide +kernel
theorem dX6_fillByChunks_51 : decode cX6_fillByChunks 51 = .ok (.getfield 32, 3) := by decide +kernel
theorem dX6_fillByChunks_54 : decode cX6_fillByChunks 54 = .ok (.iload_n 2, 1) := by decide +kernel
theorem dX6_fillByChunks_55 : decode cX6_fillByChunks 55 = .ok (.iload_n 3, 1) := by decide +kernel
theorem dX6_fillByChunks_56 : decode cX6_fillByChunks 56 = .ok (.invokevirtual 57, 3) := by decide +kernel
theorem dX6_fillByChunks_59 : decode cX6_fillByChunks 59 = .ok (.ifCond .eq 9, 3) := by decide +kernel
theorem dX6_fillByChunks_62 : decode cX6_fillByChunks 62 = .ok (.aload_n 0, 1) := by decide +kernel
theorem dX6_fillByChunks_63 : decode cX6_fillByChunks 63 = .ok (.iconst 1, 1) := by decide +kernel
theorem dX6_fillByChunks_64 : decode cX6_fillByChunks 64 = .ok (.putfield 25, 3) := by decide +kernel
theorem dX6_fillByChunks_67 : decode cX6_fillByChunks 67 = .ok (.return_, 1) := by decide +kernel
theorem dX6_fillByChunks_68 : decode cX6_fillByChunks 68 = .ok (.iload_n 2, 1) := by decide +kernel
theorem dX6_fillByChunks_69 : decode cX6_fillByChunks 69 = .ok (.istore 4, 2) := by decide +kernel
theorem dX6_fillByChunks_71 : decode cX6_fillByChunks 71 = .ok (.iload 4, 2) := by decide +kernel
theorem dX6_fillByChunks_73 : decode cX6_fillByChunks 73 = .ok (.iload_n 3, 1) := by decide +kernel
theorem dX6_fillByChunks_74 : decode cX6_fillByChunks 74 = .ok (.if_icmp .ge 22, 3) := by decide +kernel
theorem dX6_fillByChunks_77 : decode cX6_fillByChunks 77 = .ok (.aload_n 0, 1) := by decide +kernel
theorem dX6_fillByChunks_78 : decode cX6_fillByChunks 78 = .ok (.aload_n 0, 1) := by decide +kernel
theorem dX6_fillByChunks_79 : decode cX6_fillByChunks 79 = .ok (.getfield 32, 3) := by decide +kernel
theorem dX6_fillByChunks_82 : decode cX6_fillByChunks 82 = .ok (.iload 4, 2) := by decide +kernel
theorem dX6_fillByChunks_84 : decode cX6_fillByChunks 84 = .ok (.invokevirtual 50, 3) := by decide +kernel
theorem dX6_fillByChunks_87 : decode cX6_fillByChunks 87 = .ok (.invokevirtual 61, 3) := by decide +kernel
theorem dX6_fillByChunks_90 : decode cX6_fillByChunks 90 = .ok (.iinc 4 1, 3) := by decide +kernel
theorem dX6_fillByChunks_93 : decode cX6_fillByChunks 93 = .ok (.goto (-22), 3) := by decide +kernel
theorem dX6_fillByChunks_96 : decode cX6_fillByChunks 96 = .ok (.aload_n 0, 1) := by decide +kernel
theorem dX6_fillByChunks_97 : decode cX6_fillByChunks 97 = .ok (.invokevirtual 47, 3) := by decide +kernel
theorem dX6_fillByChunks_100 : decode cX6_fillByChunks 100 = .ok (.iinc 1 1, 3) := by decide +kernel
theorem dX6_fillByChunks_103 : decode cX6_fillByChunks 103 = .ok (.goto (-93), 3) := by decide +kernel
theorem dX6_fillByChunks_106 : decode cX6_fillByChunks 106 = .ok (.aload_n 0, 1) := by decide +kernel
theorem dX6_fillByChunks_107 : decode cX6_fillByChunks 107 = .ok (.aload_n 0, 1) := by decide +kernel
theorem dX6_fillByChunks_108 : decode cX6_fillByChunks 108 = .ok (.getfield 32, 3) := by decide +kernel
theorem dX6_fillByChunks_111 : decode cX6_fillByChunks 111 = .ok (.getfield 25, 3) := by decide +kernel
theorem dX6_fillByChunks_114 : decode cX6_fillByChunks 114 = .ok (.putfield 25, 3) := by decide +kernel
theorem dX6_fillByChunks_117 : decode cX6_fillByChunks 117 = .ok (.return_, 1) := by decide +kernel
theorem dX6_takeFrom_0 : decode cX6_takeFrom 0 = .ok (.aload_n 0, 1) := by decide +kernel
theorem dX6_takeFrom_1 : decode cX6_takeFrom 1 = .ok (.getfield 36, 3) := by decide +kernel
theorem dX6_takeFrom_4 : decode cX6_takeFrom 4 = .ok (.bipush 97, 2) := by decide +kernel
theorem dX6_takeFrom_6 : decode cX6_takeFrom 6 = .ok (.if_icmp .ne 16, 3) := by decide +kernel
theorem dX6_takeFrom_9 : decode cX6_takeFrom 9 = .ok (.aload_n 0, 1) := by decide +kernel
theorem dX6_takeFrom_10 : decode cX6_takeFrom 10 = .ok (.iload_n 1, 1) := by decide +kernel
theorem dX6_takeFrom_11 : decode cX6_takeFrom 11 = .ok (.aload_n 0, 1) := by decide +kernel
theorem dX6_takeFrom_12 : decode cX6_takeFrom 12 = .ok (.getfield 40, 3) := by decide +kernel
theorem dX6_takeFrom_15 : decode cX6_takeFrom 15 = .ok (.iadd, 1) := by decide +kernel
theorem dX6_takeFrom_16 : decode cX6_takeFrom 16 = .ok (.invokevirtual 43, 3) := by decide +kernel
theorem dX6_takeFrom_19 : decode cX6_takeFrom 19 = .ok (.goto 59, 3) := by decide +kernel
theorem dX6_takeFrom_22 : decode cX6_takeFrom 22 = .ok (.aload_n 0, 1) := by decide +kernel
theorem dX6_takeFrom_23 : decode cX6_takeFrom 23 = .ok (.getfield 36, 3) := by decide +kernel
theorem dX6_takeFrom_26 : decode cX6_takeFrom 26 = .ok (.bipush 100, 2) := by decide +kernel
theorem dX6_takeFrom_28 : decode cX6_takeFrom 28 = .ok (.if_icmp .ne 20, 3) := by decide +kernel
theorem dX6_takeFrom_31 : decode cX6_takeFrom 31 = .ok (.iload_n 1, 1) := by decide +kernel
theorem dX6_takeFrom_32 : decode cX6_takeFrom 32 = .ok (.ifCond .eq 16, 3) := by decide +kernel
theorem dX6_takeFrom_35 : decode cX6_takeFrom 35 = .ok (.aload_n 0, 1) := by decide +kernel
theorem dX6_takeFrom_36 : decode cX6_takeFrom 36 = .ok (.aload_n 0, 1) := by decide +kernel
theorem dX6_takeFrom_37 : decode cX6_takeFrom 37 = .ok (.getfield 40, 3) := by decide +kernel
theorem dX6_takeFrom_40 : decode cX6_takeFrom 40 = .ok (.iload_n 1, 1) := by decide +kernel
theorem dX6_takeFrom_41 : decode cX6_takeFrom 41 = .ok (.idiv, 1) := by decide +kernel
theorem dX6_takeFrom_42 : decode cX6_takeFrom 42 = .ok (.invokevirtual 43, 3) := by decide +kernel
theorem dX6_takeFrom_45 : decode cX6_takeFrom 45 = .ok (.goto 33, 3) := by decide +kernel
theorem dX6_takeFrom_48 : decode cX6_takeFrom 48 = .ok (.aload_n 0, 1) := by decide +kernel
theorem dX6_takeFrom_49 : decode cX6_takeFrom 49 = .ok (.getfield 36, 3) := by decide +kernel
theorem dX6_takeFrom_52 : decode cX6_takeFrom 52 = .ok (.bipush 107, 2) := by decide +kernel
theorem dX6_takeFrom_54 : decode cX6_takeFrom 54 = .ok (.if_icmp .ne 24, 3) := by decide +kernel
theorem dX6_takeFrom_57 : decode cX6_takeFrom 57 = .ok (.aload_n 0, 1) := by decide +kernel
theorem dX6_takeFrom_58 : decode cX6_takeFrom 58 = .ok (.getfield 40, 3) := by decide +kernel
theorem dX6_takeFrom_61 : decode cX6_takeFrom 61 = .ok (.ifCond .eq 17, 3) := by decide +kernel
theorem dX6_takeFrom_64 : decode cX6_takeFrom 64 = .ok (.iload_n 1, 1) := by decide +kernel
theorem dX6_takeFrom_65 : decode cX6_takeFrom 65 = .ok (.aload_n 0, 1) := by decide +kernel
theorem dX6_takeFrom_66 : decode cX6_takeFrom 66 = .ok (.getfield 40, 3) := by decide +kernel
theorem dX6_takeFrom_69 : decode cX6_takeFrom 69 = .ok (.irem, 1) := by decide +kernel
theorem dX6_takeFrom_70 : decode cX6_takeFrom 70 = .ok (.ifCond .ne 8, 3) := by decide +kernel
theorem dX6_takeFrom_73 : decode cX6_takeFrom 73 = .ok (.aload_n 0, 1) := by decide +kernel
theorem dX6_takeFrom_74 : decode cX6_takeFrom 74 = .ok (.iload_n 1, 1) := by decide +kernel
theorem dX6_takeFrom_75 : decode cX6_takeFrom 75 = .ok (.invokevirtual 43, 3) := by decide +kernel
theorem dX6_takeFrom_78 : decode cX6_takeFrom 78 = .ok (.return_, 1) := by decide +kernel
theorem dX6_hasZero_0 : decode cX6_hasZero 0 = .ok (.iload_n 1, 1) := by decide +kernel
theorem dX6_hasZero_1 : decode cX6_hasZero 1 = .ok (.istore_n 3, 1) := by decide +kernel
theorem dX6_hasZero_2 : decode cX6_hasZero 2 = .ok (.iload_n 3, 1) := by decide +kernel
theorem dX6_hasZero_3 : decode cX6_hasZero 3 = .ok (.iload_n 2, 1) := by decide +kernel
theorem dX6_hasZero_4 : decode cX6_hasZero 4 = .ok (.if_icmp .ge 19, 3) := by decide +kernel
theorem dX6_hasZero_7 : decode cX6_hasZero 7 = .ok (.aload_n 0, 1) := by decide +kernel
theorem dX6_hasZero_8 : decode cX6_hasZero 8 = .ok (.iload_n 3, 1) := by decide +kernel
theorem dX6_hasZero_9 : decode cX6_hasZero 9 = .ok (.invokevirtual 50, 3) := by decide +kernel
theorem dX6_hasZero_12 : decode cX6_hasZero 12 = .ok (.ifCond .ne 5, 3) := by decide +kernel
theorem dX6_hasZero_15 : decode cX6_hasZero 15 = .ok (.iconst 1, 1) := by decide +kernel
theorem dX6_hasZero_16 : decode cX6_hasZero 16 = .ok (.ireturn, 1) := by decide +kernel
theorem dX6_hasZero_17 : decode cX6_hasZero 17 = .ok (.iinc 3 1, 3) := by decide +kernel
theorem dX6_hasZero_20 : decode cX6_hasZero 20 = .ok (.goto (-18), 3) := by decide +kernel
theorem dX6_hasZero_23 : decode cX6_hasZero 23 = .ok (.iconst 0, 1) := by decide +kernel
theorem dX6_hasZero_24 : decode cX6_hasZero 24 = .ok (.ireturn, 1) := by decide +kernel
theorem dX6_elementAt_0 : decode cX6_elementAt 0 = .ok (.iload_n 1, 1) := by decide +kernel
theorem dX6_elementAt_1 : decode cX6_elementAt 1 = .ok (.ifCond .lt 12, 3) := by decide +kernel
theorem dX6_elementAt_4 : decode cX6_elementAt 4 = .ok (.iload_n 1, 1) := by decide +kernel
theorem dX6_elementAt_5 : decode cX6_elementAt 5 = .ok (.aload_n 0, 1) := by decide +kernel
theorem dX6_elementAt_6 : decode cX6_elementAt 6 = .ok (.getfield 9, 3) := by decide +kernel
theorem dX6_elementAt_9 : decode cX6_elementAt 9 = .ok (.arraylength, 1) := by decide +kernel
theorem dX6_elementAt_10 : decode cX6_elementAt 10 = .ok (.if_icmp .lt 7, 3) := by decide +kernel
theorem dX6_elementAt_13 : decode cX6_elementAt 13 = .ok (.iconst 0, 1) := by decide +kernel
theorem dX6_elementAt_14 : decode cX6_elementAt 14 = .ok (.goto 9, 3) := by decide +kernel
theorem dX6_elementAt_17 : decode cX6_elementAt 17 = .ok (.aload_n 0, 1) := by decide +kernel
theorem dX6_elementAt_18 : decode cX6_elementAt 18 = .ok (.getfield 9, 3) := by decide +kernel
theorem dX6_elementAt_21 : decode cX6_elementAt 21 = .ok (.iload_n 1, 1) := by decide +kernel
theorem dX6_elementAt_22 : decode cX6_elementAt 22 = .ok (.iaload, 1) := by decide +kernel
theorem dX6_elementAt_23 : decode cX6_elementAt 23 = .ok (.ireturn, 1) := by decide +kernel
theorem dX6_takeElement_0 : decode cX6_takeElement 0 = .ok (.aload_n 0, 1) := by decide +kernel
theorem dX6_takeElement_1 : decode cX6_takeElement 1 = .ok (.getfield 15, 3) := by decide +kernel
theorem dX6_takeElement_4 : decode cX6_takeElement 4 = .ok (.aload_n 0, 1) := by decide +kernel
theorem dX6_takeElement_5 : decode cX6_takeElement 5 = .ok (.getfield 9, 3) := by decide +kernel
theorem dX6_takeElement_8 : decode cX6_takeElement 8 = .ok (.arraylength, 1) := by decide +kernel
theorem dX6_takeElement_9 : decode cX6_takeElement 9 = .ok (.if_icmp .ge 23, 3) := by decide +kernel
theorem dX6_takeElement_12 : decode cX6_takeElement 12 = .ok (.aload_n 0, 1) := by decide +kernel
theorem dX6_takeElement_13 : decode cX6_takeElement 13 = .ok (.getfield 9, 3) := by decide +kernel
theorem dX6_takeElement_16 : decode cX6_takeElement 16 = .ok (.aload_n 0, 1) := by decide +kernel
theorem dX6_takeElement_17 : decode cX6_takeElement 17 = .ok (.getfield 15, 3) := by decide +kernel
theorem dX6_takeElement_20 : decode cX6_takeElement 20 = .ok (.iload_n 1, 1) := by decide +kernel
theorem dX6_takeElement_21 : decode cX6_takeElement 21 = .ok (.iastore, 1) := by decide +kernel
theorem dX6_takeElement_22 : decode cX6_takeElement 22 = .ok (.aload_n 0, 1) := by decide +kernel
theorem dX6_takeElement_23 : decode cX6_takeElement 23 = .ok (.dup, 1) := by decide +kernel
theorem dX6_takeElement_24 : decode cX6_takeElement 24 = .ok (.getfield 15, 3) := by decide +kernel
theorem dX6_takeElement_27 : decode cX6_takeElement 27 = .ok (.iconst 1, 1) := by decide +kernel
theorem dX6_takeElement_28 : decode cX6_takeElement 28 = .ok (.iadd, 1) := by decide +kernel
theorem dX6_takeElement_29 : decode cX6_takeElement 29 = .ok (.putfield 15, 3) := by decide +kernel
theorem dX6_takeElement_32 : decode cX6_takeElement 32 = .ok (.return_, 1) := by decide +kernel
theorem dX6_closeChunk_0 : decode cX6_closeChunk 0 = .ok (.aload_n 0, 1) := by decide +kernel
theorem dX6_closeChunk_1 : decode cX6_closeChunk 1 = .ok (.getfield 22, 3) := by decide +kernel
theorem dX6_closeChunk_4 : decode cX6_closeChunk 4 = .ok (.aload_n 0, 1) := by decide +kernel
theorem dX6_closeChunk_5 : decode cX6_closeChunk 5 = .ok (.getfield 19, 3) := by decide +kernel
theorem dX6_closeChunk_8 : decode cX6_closeChunk 8 = .ok (.arraylength, 1) := by decide +kernel
theorem dX6_closeChunk_9 : decode cX6_closeChunk 9 = .ok (.if_icmp .ge 26, 3) := by decide +kernel
theorem dX6_closeChunk_12 : decode cX6_closeChunk 12 = .ok (.aload_n 0, 1) := by decide +kernel
theorem dX6_closeChunk_13 : decode cX6_closeChunk 13 = .ok (.getfield 19, 3) := by decide +kernel
theorem dX6_closeChunk_16 : decode cX6_closeChunk 16 = .ok (.aload_n 0, 1) := by decide +kernel
theorem dX6_closeChunk_17 : decode cX6_closeChunk 17 = .ok (.getfield 22, 3) := by decide +kernel
theorem dX6_closeChunk_20 : decode cX6_closeChunk 20 = .ok (.aload_n 0, 1) := by decide +kernel
theorem dX6_closeChunk_21 : decode cX6_closeChunk 21 = .ok (.getfield 15, 3) := by decide +kernel
theorem dX6_closeChunk_24 : decode cX6_closeChunk 24 = .ok (.iastore, 1) := by decide +kernel
theorem dX6_closeChunk_25 : decode cX6_closeChunk 25 = .ok (.aload_n 0, 1) := by decide +kernel
theorem dX6_closeChunk_26 : decode cX6_closeChunk 26 = .ok (.dup, 1) := by decide +kernel
theorem dX6_closeChunk_27 : decode cX6_closeChunk 27 = .ok (.getfield 22, 3) := by decide +kernel
theorem dX6_closeChunk_30 : decode cX6_closeChunk 30 = .ok (.iconst 1, 1) := by decide +kernel
theorem dX6_closeChunk_31 : decode cX6_closeChunk 31 = .ok (.iadd, 1) := by decide +kernel
theorem dX6_closeChunk_32 : decode cX6_closeChunk 32 = .ok (.putfield 22, 3) := by decide +kernel
theorem dX6_closeChunk_35 : decode cX6_closeChunk 35 = .ok (.return_, 1) := by decide +kernel
theorem dX6_elementsIn_0 : decode cX6_elementsIn 0 = .ok (.iload_n 1, 1) := by decide +kernel
theorem dX6_elementsIn_1 : decode cX6_elementsIn 1 = .ok (.iconst 1, 1) := by decide +kernel
theorem dX6_elementsIn_2 : decode cX6_elementsIn 2 = .ok (.if_icmp .lt 11, 3) := by decide +kernel
theorem dX6_elementsIn_5 : decode cX6_elementsIn 5 = .ok (.iload_n 1, 1) := by decide +kernel
theorem dX6_elementsIn_6 : decode cX6_elementsIn 6 = .ok (.aload_n 0, 1) := by decide +kernel
theorem dX6_elementsIn_7 : decode cX6_elementsIn 7 = .ok (.getfield 22, 3) := by decide +kernel
theorem dX6_elementsIn_10 : decode cX6_elementsIn 10 = .ok (.if_icmp .le 7, 3) := by decide +kernel
theorem dX6_elementsIn_13 : decode cX6_elementsIn 13 = .ok (.iconst 0, 1) := by decide +kernel
theorem dX6_elementsIn_14 : decode cX6_elementsIn 14 = .ok (.goto 11, 3) := by decide +kernel
theorem dX6_elementsIn_17 : decode cX6_elementsIn 17 = .ok (.aload_n 0, 1) := by decide +kernel
theorem dX6_elementsIn_18 : decode cX6_elementsIn 18 = .ok (.getfield 19, 3) := by decide +kernel
theorem dX6_elementsIn_21 : decode cX6_elementsIn 21 = .ok (.iload_n 1, 1) := by decide +kernel
theorem dX6_elementsIn_22 : decode cX6_elementsIn 22 = .ok (.iconst 1, 1) := by decide +kernel
theorem dX6_elementsIn_23 : decode cX6_elementsIn 23 = .ok (.isub, 1) := by decide +kernel
theorem dX6_elementsIn_24 : decode cX6_elementsIn 24 = .ok (.iaload, 1) := by decide +kernel
theorem dX6_elementsIn_25 : decode cX6_elementsIn 25 = .ok (.ireturn, 1) := by decide +kernel
theorem dX6_chunksFor_0 : decode cX6_chunksFor 0 = .ok (.iconst 1, 1) := by decide +kernel
theorem dX6_chunksFor_1 : decode cX6_chunksFor 1 = .ok (.istore_n 2, 1) := by decide +kernel
theorem dX6_chunksFor_2 : decode cX6_chunksFor 2 = .ok (.iload_n 2, 1) := by decide +kernel
theorem dX6_chunksFor_3 : decode cX6_chunksFor 3 = .ok (.aload_n 0, 1) := by decide +kernel
theorem dX6_chunksFor_4 : decode cX6_chunksFor 4 = .ok (.getfield 22, 3) := by decide +kernel
theorem dX6_chunksFor_7 : decode cX6_chunksFor 7 = .ok (.if_icmp .ge 18, 3) := by decide +kernel
theorem dX6_chunksFor_10 : decode cX6_chunksFor 10 = .ok (.aload_n 0, 1) := by decide +kernel
theorem dX6_chunksFor_11 : decode cX6_chunksFor 11 = .ok (.iload_n 2, 1) := by decide +kernel
theorem dX6_chunksFor_12 : decode cX6_chunksFor 12 = .ok (.invokevirtual 54, 3) := by decide +kernel
theorem dX6_chunksFor_15 : decode cX6_chunksFor 15 = .ok (.iload_n 1, 1) := by decide +kernel
theorem dX6_chunksFor_16 : decode cX6_chunksFor 16 = .ok (.if_icmp .gt 9, 3) := by decide +kernel
theorem dX6_chunksFor_19 : decode cX6_chunksFor 19 = .ok (.iinc 2 1, 3) := by decide +kernel
theorem dX6_chunksFor_22 : decode cX6_chunksFor 22 = .ok (.goto (-20), 3) := by decide +kernel
theorem dX6_chunksFor_25 : decode cX6_chunksFor 25 = .ok (.iload_n 2, 1) := by decide +kernel
theorem dX6_chunksFor_26 : decode cX6_chunksFor 26 = .ok (.ireturn, 1) := by decide +kernel
theorem dX6_endsWithSource_0 : decode cX6_endsWithSource 0 = .ok (.aload_n 0, 1) := by decide +kernel
theorem dX6_endsWithSource_1 : decode cX6_endsWithSource 1 = .ok (.getfield 32, 3) := by decide +kernel
theorem dX6_endsWithSource_4 : decode cX6_endsWithSource 4 = .ok (.ifnull 30, 3) := by decide +kernel
theorem dX6_endsWithSource_7 : decode cX6_endsWithSource 7 = .ok (.aload_n 0, 1) := by decide +kernel
theorem dX6_endsWithSource_8 : decode cX6_endsWithSource 8 = .ok (.getfield 36, 3) := by decide +kernel
theorem dX6_endsWithSource_11 : decode cX6_endsWithSource 11 = .ok (.bipush 116, 2) := by decide +kernel
theorem dX6_endsWithSource_13 : decode cX6_endsWithSource 13 = .ok (.if_icmp .ne 17, 3) := by decide +kernel
theorem dX6_endsWithSource_16 : decode cX6_endsWithSource 16 = .ok (.aload_n 0, 1) := by decide +kernel
theorem dX6_endsWithSource_17 : decode cX6_endsWithSource 17 = .ok (.getfield 40, 3) := by decide +kernel
theorem dX6_endsWithSource_20 : decode cX6_endsWithSource 20 = .ok (.aload_n 0, 1) := by decide +kernel
theorem dX6_endsWithSource_21 : decode cX6_endsWithSource 21 = .ok (.getfield 32, 3) := by decide +kernel
theorem dX6_endsWithSource_24 : decode cX6_endsWithSource 24 = .ok (.getfield 15, 3) := by decide +kernel
theorem dX6_endsWithSource_27 : decode cX6_endsWithSource 27 = .ok (.if_icmp .le 7, 3) := by decide +kernel
theorem dX6_endsWithSource_30 : decode cX6_endsWithSource 30 = .ok (.iconst 1, 1) := by decide +kernel
theorem dX6_endsWithSource_31 : decode cX6_endsWithSource 31 = .ok (.goto 4, 3) := by decide +kernel
theorem dX6_endsWithSource_34 : decode cX6_endsWithSource 34 = .ok (.iconst 0, 1) := by decide +kernel
theorem dX6_endsWithSource_35 : decode cX6_endsWithSource 35 = .ok (.ireturn, 1) := by decide +kernel
theorem dX6_sourceChunksFor_0 : decode cX6_sourceChunksFor 0 = .ok (.aload_n 0, 1) := by decide +kernel
theorem dX6_sourceChunksFor_1 : decode cX6_sourceChunksFor 1 = .ok (.getfield 32, 3) := by decide +kernel
theorem dX6_sourceChunksFor_4 : decode cX6_sourceChunksFor 4 = .ok (.ifnonnull 5, 3) := by decide +kernel
theorem dX6_sourceChunksFor_7 : decode cX6_sourceChunksFor 7 = .ok (.iconst (-1), 1) := by decide +kernel
theorem dX6_sourceChunksFor_8 : decode cX6_sourceChunksFor 8 = .ok (.ireturn, 1) := by decide +kernel
theorem dX6_sourceChunksFor_9 : decode cX6_sourceChunksFor 9 = .ok (.iload_n 2, 1) := by decide +kernel
theorem dX6_sourceChunksFor_10 : decode cX6_sourceChunksFor 10 = .ok (.ifCond .eq 11, 3) := by decide +kernel
theorem dX6_sourceChunksFor_13 : decode cX6_sourceChunksFor 13 = .ok (.aload_n 0, 1) := by decide +kernel
theorem dX6_sourceChunksFor_14 : decode cX6_sourceChunksFor 14 = .ok (.getfield 32, 3) := by decide +kernel
theorem dX6_sourceChunksFor_17 : decode cX6_sourceChunksFor 17 = .ok (.getfield 22, 3) := by decide +kernel
theorem dX6_sourceChunksFor_20 : decode cX6_sourceChunksFor 20 = .ok (.ireturn, 1) := by decide +kernel
theorem dX6_sourceChunksFor_21 : decode cX6_sourceChunksFor 21 = .ok (.aload_n 0, 1) := by decide +kernel
theorem dX6_sourceChunksFor_22 : decode cX6_sourceChunksFor 22 = .ok (.getfield 36, 3) := by decide +kernel
theorem dX6_sourceChunksFor_25 : decode cX6_sourceChunksFor 25 = .ok (.bipush 116, 2) := by decide +kernel
theorem dX6_sourceChunksFor_27 : decode cX6_sourceChunksFor 27 = .ok (.if_icmp .eq 5, 3) := by decide +kernel
theorem dX6_sourceChunksFor_30 : decode cX6_sourceChunksFor 30 = .ok (.iload_n 1, 1) := by decide +kernel
theorem dX6_sourceChunksFor_31 : decode cX6_sourceChunksFor 31 = .ok (.ireturn, 1) := by decide +kernel
theorem dX6_sourceChunksFor_32 : decode cX6_sourceChunksFor 32 = .ok (.iload_n 1, 1) := by decide +kernel
theorem dX6_sourceChunksFor_33 : decode cX6_sourceChunksFor 33 = .ok (.ifCond .ne 7, 3) := by decide +kernel
theorem dX6_sourceChunksFor_36 : decode cX6_sourceChunksFor 36 = .ok (.iconst (-1), 1) := by decide +kernel
theorem dX6_sourceChunksFor_37 : decode cX6_sourceChunksFor 37 = .ok (.goto 13, 3) := by decide +kernel
theorem dX6_sourceChunksFor_40 : decode cX6_sourceChunksFor 40 = .ok (.aload_n 0, 1) := by decide +kernel
theorem dX6_sourceChunksFor_41 : decode cX6_sourceChunksFor 41 = .ok (.getfield 32, 3) := by decide +kernel
theorem dX6_sourceChunksFor_44 : decode cX6_sourceChunksFor 44 = .ok (.iload_n 1, 1) := by decide +kernel
theorem dX6_sourceChunksFor_45 : decode cX6_sourceChunksFor 45 = .ok (.iconst 1, 1) := by decide +kernel
theorem dX6_sourceChunksFor_46 : decode cX6_sourceChunksFor 46 = .ok (.isub, 1) := by decide +kernel
theorem dX6_sourceChunksFor_47 : decode cX6_sourceChunksFor 47 = .ok (.invokevirtual 64, 3) := by decide +kernel
theorem dX6_sourceChunksFor_50 : decode cX6_sourceChunksFor 50 = .ok (.ireturn, 1) := by decide +kernel
theorem dX7_init_0 : decode cX7_init 0 = .ok (.aload_n 0, 1) := by decide +kernel
theorem dX7_init_1 : decode cX7_init 1 = .ok (.invokespecial 3, 3) := by decide +kernel
theorem dX7_init_4 : decode cX7_init 4 = .ok (.aload_n 0, 1) := by decide +kernel
theorem dX7_init_5 : decode cX7_init 5 = .ok (.iconst 0, 1) := by decide +kernel
theorem dX7_init_6 : decode cX7_init 6 = .ok (.putfield 9, 3) := by decide +kernel
theorem dX7_init_9 : decode cX7_init 9 = .ok (.aload_n 0, 1) := by decide +kernel
theorem dX7_init_10 : decode cX7_init 10 = .ok (.iconst 0, 1) := by decide +kernel
theorem dX7_init_11 : decode cX7_init 11 = .ok (.putfield 15, 3) := by decide +kernel
theorem dX7_init_14 : decode cX7_init 14 = .ok (.aload_n 0, 1) := by decide +kernel
theorem dX7_init_15 : decode cX7_init 15 = .ok (.iconst 0, 1) := by decide +kernel
theorem dX7_init_16 : decode cX7_init 16 = .ok (.putfield 19, 3) := by decide +kernel
theorem dX7_init_19 : decode cX7_init 19 = .ok (.aload_n 0, 1) := by decide +kernel
theorem dX7_init_20 : decode cX7_init 20 = .ok (.iconst 0, 1) := by decide +kernel
theorem dX7_init_21 : decode cX7_init 21 = .ok (.putfield 22, 3) := by decide +kernel
theorem dX7_init_24 : decode cX7_init 24 = .ok (.aload_n 0, 1) := by decide +kernel
theorem dX7_init_25 : decode cX7_init 25 = .ok (.bipush 6, 2) := by decide +kernel
theorem dX7_init_27 : decode cX7_init 27 = .ok (.newarray .boolean, 2) := by decide +kernel
theorem dX7_init_29 : decode cX7_init 29 = .ok (.putfield 25, 3) := by decide +kernel
theorem dX7_init_32 : decode cX7_init 32 = .ok (.aload_n 0, 1) := by decide +kernel
theorem dX7_init_33 : decode cX7_init 33 = .ok (.bipush 6, 2) := by decide +kernel
theorem dX7_init_35 : decode cX7_init 35 = .ok (.newarray .int, 2) := by decide +kernel
theorem dX7_init_37 : decode cX7_init 37 = .ok (.putfield 29, 3) := by decide +kernel
theorem dX7_init_40 : decode cX7_init 40 = .ok (.aload_n 0, 1) := by decide +kernel
theorem dX7_init_41 : decode cX7_init 41 = .ok (.bipush 6, 2) := by decide +kernel
theorem dX7_init_43 : decode cX7_init 43 = .ok (.newarray .boolean, 2) := by decide +kernel
theorem dX7_init_45 : decode cX7_init 45 = .ok (.putfield 33, 3) := by decide +kernel
theorem dX7_init_48 : decode cX7_init 48 = .ok (.aload_n 0, 1) := by decide +kernel
theorem dX7_init_49 : decode cX7_init 49 = .ok (.bipush 6, 2) := by decide +kernel
theorem dX7_init_51 : decode cX7_init 51 = .ok (.newarray .boolean, 2) := by decide +kernel
theorem dX7_init_53 : decode cX7_init 53 = .ok (.putfield 36, 3) := by decide +kernel
theorem dX7_init_56 : decode cX7_init 56 = .ok (.aload_n 0, 1) := by decide +kernel
theorem dX7_init_57 : decode cX7_init 57 = .ok (.bipush 6, 2) := by decide +kernel
theorem dX7_init_59 : decode cX7_init 59 = .ok (.newarray .int, 2) := by decide +kernel
theorem dX7_init_61 : decode cX7_init 61 = .ok (.putfield 39, 3) := by decide +kernel
theorem dX7_init_64 : decode cX7_init 64 = .ok (.aload_n 0, 1) := by decide +kernel
theorem dX7_init_65 : decode cX7_init 65 = .ok (.iconst 4, 1) := by decide +kernel
theorem dX7_init_66 : decode cX7_init 66 = .ok (.anewarray 42, 3) := by decide +kernel
theorem dX7_init_69 : decode cX7_init 69 = .ok (.putfield 44, 3) := by decide +kernel
theorem dX7_init_72 : decode cX7_init 72 = .ok (.iconst 0, 1) := by decide +kernel
theorem dX7_init_73 : decode cX7_init 73 = .ok (.istore_n 1, 1) := by decide +kernel
theorem dX7_init_74 : decode cX7_init 74 = .ok (.iload_n 1, 1) := by decide +kernel
theorem dX7_init_75 : decode cX7_init 75 = .ok (.iconst 4, 1) := by decide +kernel
theorem dX7_init_76 : decode cX7_init 76 = .ok (.if_icmp .ge 22, 3) := by decide +kernel
theorem dX7_init_79 : decode cX7_init 79 = .ok (.aload_n 0, 1) := by decide +kernel
theorem dX7_init_80 : decode cX7_init 80 = .ok (.getfield 44, 3) := by decide +kernel
theorem dX7_init_83 : decode cX7_init 83 = .ok (.iload_n 1, 1) := by decide +kernel
theorem dX7_init_84 : decode cX7_init 84 = .ok (.new 42, 3) := by decide +kernel
theorem dX7_init_87 : decode cX7_init 87 = .ok (.dup, 1) := by decide +kernel
theorem dX7_init_88 : decode cX7_init 88 = .ok (.invokespecial 48, 3) := by decide +kernel
theorem dX7_init_91 : decode cX7_init 91 = .ok (.aastore, 1) := by decide +kernel
theorem dX7_init_92 : decode cX7_init 92 = .ok (.iinc 1 1, 3) := by decide +kernel
theorem dX7_init_95 : decode cX7_init 95 = .ok (.goto (-21), 3) := by decide +kernel
theorem dX7_init_98 : decode cX7_init 98 = .ok (.return_, 1) := by decide +kernel
theorem dX7_start_0 : decode cX7_start 0 = .ok (.aload_n 0, 1) := by decide +kernel
theorem dX7_start_1 : decode cX7_start 1 = .ok (.iconst 1, 1) := by decide +kernel
theorem dX7_start_2 : decode cX7_start 2 = .ok (.putfield 9, 3) := by decide +kernel
theorem dX7_start_5 : decode cX7_start 5 = .ok (.aload_n 0, 1) := by decide +kernel
theorem dX7_start_6 : decode cX7_start 6 = .ok (.iload_n 1, 1) := by decide +kernel
theorem dX7_start_7 : decode cX7_start 7 = .ok (.putfield 15, 3) := by decide +kernel
theorem dX7_start_10 : decode cX7_start 10 = .ok (.aload_n 0, 1) := by decide +kernel
theorem dX7_start_11 : decode cX7_start 11 = .ok (.iload_n 2, 1) := by decide +kernel
theorem dX7_start_12 : decode cX7_start 12 = .ok (.putfield 19, 3) := by decide +kernel
theorem dX7_start_15 : decode cX7_start 15 = .ok (.aload_n 0, 1) := by decide +kernel
theorem dX7_start_16 : decode cX7_start 16 = .ok (.iconst 0, 1) := by decide +kernel
theorem dX7_start_17 : decode cX7_start 17 = .ok (.putfield 22, 3) := by decide +kernel
theorem dX7_start_20 : decode cX7_start 20 = .ok (.return_, 1) := by decide +kernel
theorem dX7_goBack_0 : decode cX7_goBack 0 = .ok (.aload_n 0, 1) := by decide +kernel
theorem dX7_goBack_1 : decode cX7_goBack 1 = .ok (.invokevirtual 49, 3) := by decide +kernel
theorem dX7_goBack_4 : decode cX7_goBack 4 = .ok (.aload_n 0, 1) := by decide +kernel
theorem dX7_goBack_5 : decode cX7_goBack 5 = .ok (.iload_n 1, 1) := by decide +kernel
theorem dX7_goBack_6 : decode cX7_goBack 6 = .ok (.putfield 19, 3) := by decide +kernel
theorem dX7_goBack_9 : decode cX7_goBack 9 = .ok (.aload_n 0, 1) := by decide +kernel
theorem dX7_goBack_10 : decode cX7_goBack 10 = .ok (.dup, 1) := by decide +kernel
theorem dX7_goBack_11 : decode cX7_goBack 11 = .ok (.getfield 22, 3) := by decide +kernel
theorem dX7_goBack_14 : decode cX7_goBack 14 = .ok (.iconst 1, 1) := by decide +kernel
theorem dX7_goBack_15 : decode cX7_goBack 15 = .ok (.iadd, 1) := by decide +kernel
theorem dX7_goBack_16 : decode cX7_goBack 16 = .ok (.putfield 22, 3) := by decide +kernel
theorem dX7_goBack_19 : decode cX7_goBack 19 = .ok (.return_, 1) := by decide +kernel
theorem dX7_stop_0 : decode cX7_stop 0 = .ok (.aload_n 0, 1) := by decide +kernel
theorem dX7_stop_1 : decode cX7_stop 1 = .ok (.invokevirtual 49, 3) := by decide +kernel
theorem dX7_stop_4 : decode cX7_stop 4 = .ok (.aload_n 0, 1) := by decide +kernel
theorem dX7_stop_5 : decode cX7_stop 5 = .ok (.iconst 0, 1) := by decide +kernel
theorem dX7_stop_6 : decode cX7_stop 6 = .ok (.putfield 9, 3) := by decide +kernel
theorem dX7_stop_9 : decode cX7_stop 9 = .ok (.return_, 1) := by decide +kernel
theorem dX7_forget_0 : decode cX7_forget 0 = .ok (.iconst 0, 1) := by decide +kernel
theorem dX7_forget_1 : decode cX7_forget 1 = .ok (.istore_n 1, 1) := by decide +kernel
theorem dX7_forget_2 : decode cX7_forget 2 = .ok (.iload_n 1, 1) := by decide +kernel
theorem dX7_forget_3 : decode cX7_forget 3 = .ok (.bipush 6, 2) := by decide +kernel
theorem dX7_forget_5 : decode cX7_forget 5 = .ok (.if_icmp .ge 37, 3) := by decide +kernel
theorem dX7_forget_8 : decode cX7_forget 8 = .ok (.aload_n 0, 1) := by decide +kernel
theorem dX7_forget_9 : decode cX7_forget 9 = .ok (.getfield 25, 3) := by decide +kernel
theorem dX7_forget_12 : decode cX7_forget 12 = .ok (.iload_n 1, 1) := by decide +kernel
theorem dX7_forget_13 : decode cX7_forget 13 = .ok (.iconst 0, 1) := by decide +kernel
theorem dX7_forget_14 : decode cX7_forget 14 = .ok (.bastore, 1) := by decide +kernel
theorem dX7_forget_15 : decode cX7_forget 15 = .ok (.aload_n 0, 1) := by decide +kernel
theorem dX7_forget_16 : decode cX7_forget 16 = .ok (.getfield 33, 3) := by decide +kernel
theorem dX7_forget_19 : decode cX7_forget 19 = .ok (.iload_n 1, 1) := by decide +kernel
theorem dX7_forget_20 : decode cX7_forget 20 = .ok (.iconst 0, 1) := by decide +kernel
theorem dX7_forget_21 : decode cX7_forget 21 = .ok (.bastore, 1) := by decide +kernel
theorem dX7_forget_22 : decode cX7_forget 22 = .ok (.aload_n 0, 1) := by decide +kernel
theorem dX7_forget_23 : decode cX7_forget 23 = .ok (.getfield 36, 3) := by decide +kernel
theorem dX7_forget_26 : decode cX7_forget 26 = .ok (.iload_n 1, 1) := by decide +kernel
theorem dX7_forget_27 : decode cX7_forget 27 = .ok (.iconst 0, 1) := by decide +kernel
theorem dX7_forget_28 : decode cX7_forget 28 = .ok (.bastore, 1) := by decide +kernel
theorem dX7_forget_29 : decode cX7_forget 29 = .ok (.aload_n 0, 1) := by decide +kernel
theorem dX7_forget_30 : decode cX7_forget 30 = .ok (.getfield 39, 3) := by decide +kernel
theorem dX7_forget_33 : decode cX7_forget 33 = .ok (.iload_n 1, 1) := by decide +kernel
theorem dX7_forget_34 : decode cX7_forget 34 = .ok (.iconst 0, 1) := by decide +kernel
theorem dX7_forget_35 : decode cX7_forget 35 = .ok (.iastore, 1) := by decide +kernel
theorem dX7_forget_36 : decode cX7_forget 36 = .ok (.iinc 1 1, 3) := by decide +kernel
theorem dX7_forget_39 : decode cX7_forget 39 = .ok (.goto (-37), 3) := by decide +kernel
theorem dX7_forget_42 : decode cX7_forget 42 = .ok (.aload_n 0, 1) := by decide +kernel
theorem dX7_forget_43 : decode cX7_forget 43 = .ok (.getfield 44, 3) := by decide +kernel
theorem dX7_forget_46 : decode cX7_forget 46 = .ok (.astore_n 1, 1) := by decide +kernel
theorem dX7_forget_47 : decode cX7_forget 47 = .ok (.aload_n 1, 1) := by decide +kernel
theorem dX7_forget_48 : decode cX7_forget 48 = .ok (.arraylength, 1) := by decide +kernel
theorem dX7_forget_49 : decode cX7_forget 49 = .ok (.istore_n 2, 1) := by decide +kernel
theorem dX7_forget_50 : decode cX7_forget 50 = .ok (.iconst 0, 1) := by decide +kernel
theorem dX7_forget_51 : decode cX7_forget 51 = .ok (.istore_n 3, 1) := by decide +kernel
theorem dX7_forget_52 : decode cX7_forget 52 = .ok (.iload_n 3, 1) := by decide +kernel
theorem dX7_forget_53 : decode cX7_forget 53 = .ok (.iload_n 2, 1) := by decide +kernel
theorem dX7_forget_54 : decode cX7_forget 54 = .ok (.if_icmp .ge 20, 3) := by decide +kernel
theorem dX7_forget_57 : decode cX7_forget 57 = .ok (.aload_n 1, 1) := by decide +kernel
theorem dX7_forget_58 : decode cX7_forget 58 = .ok (.iload_n 3, 1) := by decide +kernel
theorem dX7_forget_59 : decode cX7_forget 59 = .ok (.aaload, 1) := by decide +kernel
theorem dX7_forget_60 : decode cX7_forget 60 = .ok (.astore 4, 2) := by decide +kernel
theorem dX7_forget_62 : decode cX7_forget 62 = .ok (.aload 4, 2) := by decide +kernel
theorem dX7_forget_64 : decode cX7_forget 64 = .ok (.iconst 0, 1) := by decide +kernel
theorem dX7_forget_65 : decode cX7_forget 65 = .ok (.putfield 52, 3) := by decide +kernel
theorem dX7_forget_68 : decode cX7_forget 68 = .ok (.iinc 3 1, 3) := by decide +kernel
theorem dX7_forget_71 : decode cX7_forget 71 = .ok (.goto (-19), 3) := by decide +kernel
theorem dX7_forget_74 : decode cX7_forget 74 = .ok (.return_, 1) := by decide +kernel
theorem dX7_holds_0 : decode cX7_holds 0 = .ok (.aload_n 0, 1) := by decide +kernel
theorem dX7_holds_1 : decode cX7_holds 1 = .ok (.getfield 25, 3) := by decide +kernel
theorem dX7_holds_4 : decode cX7_holds 4 = .ok (.iload_n 1, 1) := by decide +kernel
theorem dX7_holds_5 : decode cX7_holds 5 = .ok (.baload, 1) := by decide +kernel
theorem dX7_holds_6 : decode cX7_holds 6 = .ok (.ifCond .ne 16, 3) := by decide +kernel
theorem dX7_holds_9 : decode cX7_holds 9 = .ok (.iload_n 2, 1) := by decide +kernel
theorem dX7_holds_10 : decode cX7_holds 10 = .ok (.ifCond .eq 16, 3) := by decide +kernel
theorem dX7_holds_13 : decode cX7_holds 13 = .ok (.aload_n 0, 1) := by decide +kernel
theorem dX7_holds_14 : decode cX7_holds 14 = .ok (.getfield 33, 3) := by decide +kernel
theorem dX7_holds_17 : decode cX7_holds 17 = .ok (.iload_n 1, 1) := by decide +kernel
theorem dX7_holds_18 : decode cX7_holds 18 = .ok (.baload, 1) := by decide +kernel
theorem dX7_holds_19 : decode cX7_holds 19 = .ok (.ifCond .eq 7, 3) := by decide +kernel
theorem dX7_holds_22 : decode cX7_holds 22 = .ok (.iconst 1, 1) := by decide +kernel
theorem dX7_holds_23 : decode cX7_holds 23 = .ok (.goto 4, 3) := by decide +kernel
theorem dX7_holds_26 : decode cX7_holds 26 = .ok (.iconst 0, 1) := by decide +kernel
theorem dX7_holds_27 : decode cX7_holds 27 = .ok (.ireturn, 1) := by decide +kernel
theorem dX7_changes_0 : decode cX7_changes 0 = .ok (.aload_n 0, 1) := by decide +kernel
theorem dX7_changes_1 : decode cX7_changes 1 = .ok (.getfield 25, 3) := by decide +kernel
theorem dX7_changes_4 : decode cX7_changes 4 = .ok (.iload_n 1, 1) := by decide +kernel
theorem dX7_changes_5 : decode cX7_changes 5 = .ok (.baload, 1) := by decide +kernel
theorem dX7_changes_6 : decode cX7_changes 6 = .ok (.ifCond .ne 12, 3) := by decide +kernel
theorem dX7_changes_9 : decode cX7_changes 9 = .ok (.aload_n 0, 1) := by decide +kernel
theorem dX7_changes_10 : decode cX7_changes 10 = .ok (.getfield 36, 3) := by decide +kernel
theorem dX7_changes_13 : decode cX7_changes 13 = .ok (.iload_n 1, 1) := by decide +kernel
theorem dX7_changes_14 : decode cX7_changes 14 = .ok (.baload, 1) := by decide +kernel
theorem dX7_changes_15 : decode cX7_changes 15 = .ok (.ifCond .eq 7, 3) := by decide +kernel
theorem dX7_changes_18 : decode cX7_changes 18 = .ok (.iconst 1, 1) := by decide +kernel
theorem dX7_changes_19 : decode cX7_changes 19 = .ok (.goto 4, 3) := by decide +kernel
theorem dX7_changes_22 : decode cX7_changes 22 = .ok (.iconst 0, 1) := by decide +kernel
theorem dX7_changes_23 : decode cX7_changes 23 = .ok (.ireturn, 1) := by decide +kernel
theorem dX8_init_0 : decode cX8_init 0 = .ok (.aload_n 0, 1) := by decide +kernel
theorem dX8_init_1 : decode cX8_init 1 = .ok (.invokespecial 3, 3) := by decide +kernel
theorem dX8_init_4 : decode cX8_init 4 = .ok (.aload_n 0, 1) := by decide +kernel
theorem dX8_init_5 : decode cX8_init 5 = .ok (.iload_n 1, 1) := by decide +kernel
theorem dX8_init_6 : decode cX8_init 6 = .ok (.putfield 9, 3) := by decide +kernel
theorem dX8_init_9 : decode cX8_init 9 = .ok (.aload_n 0, 1) := by decide +kernel
theorem dX8_init_10 : decode cX8_init 10 = .ok (.aload_n 2, 1) := by decide +kernel
theorem dX8_init_11 : decode cX8_init 11 = .ok (.putfield 15, 3) := by decide +kernel
theorem dX8_init_14 : decode cX8_init 14 = .ok (.aload_n 0, 1) := by decide +kernel
theorem dX8_init_15 : decode cX8_init 15 = .ok (.iload_n 3, 1) := by decide +kernel
theorem dX8_init_16 : decode cX8_init 16 = .ok (.putfield 19, 3) := by decide +kernel
theorem dX8_init_19 : decode cX8_init 19 = .ok (.aload_n 0, 1) := by decide +kernel
theorem dX8_init_20 : decode cX8_init 20 = .ok (.aload 4, 2) := by decide +kernel
theorem dX8_init_22 : decode cX8_init 22 = .ok (.putfield 22, 3) := by decide +kernel
theorem dX8_init_25 : decode cX8_init 25 = .ok (.aload_n 0, 1) := by decide +kernel
theorem dX8_init_26 : decode cX8_init 26 = .ok (.aload 5, 2) := by decide +kernel
theorem dX8_init_28 : decode cX8_init 28 = .ok (.putfield 26, 3) := by decide +kernel
theorem dX8_init_31 : decode cX8_init 31 = .ok (.return_, 1) := by decide +kernel
theorem dX8_isLiveVector_0 : decode cX8_isLiveVector 0 = .ok (.aload_n 0, 1) := by decide +kernel
theorem dX8_isLiveVector_1 : decode cX8_isLiveVector 1 = .ok (.getfield 9, 3) := by decide +kernel
theorem dX8_isLiveVector_4 : decode cX8_isLiveVector 4 = .ok (.ifCond .eq 11, 3) := by decide +kernel
theorem dX8_isLiveVector_7 : decode cX8_isLiveVector 7 = .ok (.aload_n 0, 1) := by decide +kernel
theorem dX8_isLiveVector_8 : decode cX8_isLiveVector 8 = .ok (.getfield 9, 3) := by decide +kernel
theorem dX8_isLiveVector_11 : decode cX8_isLiveVector 11 = .ok (.iconst 1, 1) := by decide +kernel
theorem dX8_isLiveVector_12 : decode cX8_isLiveVector 12 = .ok (.if_icmp .ne 7, 3) := by decide +kernel
theorem dX8_isLiveVector_15 : decode cX8_isLiveVector 15 = .ok (.iconst 1, 1) := by decide +kernel
theorem dX8_isLiveVector_16 : decode cX8_isLiveVector 16 = .ok (.goto 4, 3) := by decide +kernel
theorem dX8_isLiveVector_19 : decode cX8_isLiveVector 19 = .ok (.iconst 0, 1) := by decide +kernel
theorem dX8_isLiveVector_20 : decode cX8_isLiveVector 20 = .ok (.ireturn, 1) := by decide +kernel
theorem dX8_plainSlotOf_0 : decode cX8_plainSlotOf 0 = .ok (.aload_n 0, 1) := by decide +kernel
theorem dX8_plainSlotOf_1 : decode cX8_plainSlotOf 1 = .ok (.getfield 22, 3) := by decide +kernel
theorem dX8_plainSlotOf_4 : decode cX8_plainSlotOf 4 = .ok (.ifnonnull 30, 3) := by decide +kernel
theorem dX8_plainSlotOf_7 : decode cX8_plainSlotOf 7 = .ok (.iload_n 1, 1) := by decide +kernel
theorem dX8_plainSlotOf_8 : decode cX8_plainSlotOf 8 = .ok (.ifCond .lt 24, 3) := by decide +kernel
theorem dX8_plainSlotOf_11 : decode cX8_plainSlotOf 11 = .ok (.iload_n 1, 1) := by decide +kernel
theorem dX8_plainSlotOf_12 : decode cX8_plainSlotOf 12 = .ok (.aload_n 0, 1) := by decide +kernel
theorem dX8_plainSlotOf_13 : decode cX8_plainSlotOf 13 = .ok (.getfield 19, 3) := by decide +kernel
theorem dX8_plainSlotOf_16 : decode cX8_plainSlotOf 16 = .ok (.if_icmp .ge 16, 3) := by decide +kernel
theorem dX8_plainSlotOf_19 : decode cX8_plainSlotOf 19 = .ok (.iload_n 1, 1) := by decide +kernel
theorem dX8_plainSlotOf_20 : decode cX8_plainSlotOf 20 = .ok (.aload_n 0, 1) := by decide +kernel
theorem dX8_plainSlotOf_21 : decode cX8_plainSlotOf 21 = .ok (.getfield 26, 3) := by decide +kernel
theorem dX8_plainSlotOf_24 : decode cX8_plainSlotOf 24 = .ok (.arraylength, 1) := by decide +kernel
theorem dX8_plainSlotOf_25 : decode cX8_plainSlotOf 25 = .ok (.if_icmp .ge 7, 3) := by decide +kernel
theorem dX8_plainSlotOf_28 : decode cX8_plainSlotOf 28 = .ok (.iload_n 1, 1) := by decide +kernel
theorem dX8_plainSlotOf_29 : decode cX8_plainSlotOf 29 = .ok (.goto 4, 3) := by decide +kernel
theorem dX8_plainSlotOf_32 : decode cX8_plainSlotOf 32 = .ok (.iconst (-1), 1) := by decide +kernel
theorem dX8_plainSlotOf_33 : decode cX8_plainSlotOf 33 = .ok (.ireturn, 1) := by decide +kernel
theorem dX8_plainSlotOf_34 : decode cX8_plainSlotOf 34 = .ok (.iconst 0, 1) := by decide +kernel
theorem dX8_plainSlotOf_35 : decode cX8_plainSlotOf 35 = .ok (.istore_n 2, 1) := by decide +kernel
theorem dX8_plainSlotOf_36 : decode cX8_plainSlotOf 36 = .ok (.iload_n 2, 1) := by decide +kernel
theorem dX8_plainSlotOf_37 : decode cX8_plainSlotOf 37 = .ok (.aload_n 0, 1) := by decide +kernel
theorem dX8_plainSlotOf_38 : decode cX8_plainSlotOf 38 = .ok (.getfield 22, 3) := by decide +kernel
theorem dX8_plainSlotOf_41 : decode cX8_plainSlotOf 41 = .ok (.arraylength, 1) := by decide +kernel
theorem dX8_plainSlotOf_42 : decode cX8_plainSlotOf 42 = .ok (.if_icmp .ge 21, 3) := by decide +kernel
theorem dX8_plainSlotOf_45 : decode cX8_plainSlotOf 45 = .ok (.aload_n 0, 1) := by decide +kernel
theorem dX8_plainSlotOf_46 : decode cX8_plainSlotOf 46 = .ok (.getfield 22, 3) := by decide +kernel
theorem dX8_plainSlotOf_49 : decode cX8_plainSlotOf 49 = .ok (.iload_n 2, 1) := by decide +kernel
theorem dX8_plainSlotOf_50 : decode cX8_plainSlotOf 50 = .ok (.iaload, 1) := by decide +kernel
theorem dX8_plainSlotOf_51 : decode cX8_plainSlotOf 51 = .ok (.iload_n 1, 1) := by decide +kernel
theorem dX8_plainSlotOf_52 : decode cX8_plainSlotOf 52 = .ok (.if_icmp .ne 5, 3) := by decide +kernel
theorem dX8_plainSlotOf_55 : decode cX8_plainSlotOf 55 = .ok (.iload_n 2, 1) := by decide +kernel
theorem dX8_plainSlotOf_56 : decode cX8_plainSlotOf 56 = .ok (.ireturn, 1) := by decide +kernel
theorem dX8_plainSlotOf_57 : decode cX8_plainSlotOf 57 = .ok (.iinc 2 1, 3) := by decide +kernel
theorem dX8_plainSlotOf_60 : decode cX8_plainSlotOf 60 = .ok (.goto (-24), 3) := by decide +kernel
theorem dX8_plainSlotOf_63 : decode cX8_plainSlotOf 63 = .ok (.iconst (-1), 1) := by decide +kernel
theorem dX8_plainSlotOf_64 : decode cX8_plainSlotOf 64 = .ok (.ireturn, 1) := by decide +kernel
theorem dX8_plainKeyAt_0 : decode cX8_plainKeyAt 0 = .ok (.aload_n 0, 1) := by decide +kernel
theorem dX8_plainKeyAt_1 : decode cX8_plainKeyAt 1 = .ok (.getfield 22, 3) := by decide +kernel
theorem dX8_plainKeyAt_4 : decode cX8_plainKeyAt 4 = .ok (.ifnull 16, 3) := by decide +kernel
theorem dX8_plainKeyAt_7 : decode cX8_plainKeyAt 7 = .ok (.iload_n 1, 1) := by decide +kernel
theorem dX8_plainKeyAt_8 : decode cX8_plainKeyAt 8 = .ok (.ifCond .lt 12, 3) := by decide +kernel
theorem dX8_plainKeyAt_11 : decode cX8_plainKeyAt 11 = .ok (.iload_n 1, 1) := by decide +kernel
theorem dX8_plainKeyAt_12 : decode cX8_plainKeyAt 12 = .ok (.aload_n 0, 1) := by decide +kernel
theorem dX8_plainKeyAt_13 : decode cX8_plainKeyAt 13 = .ok (.getfield 22, 3) := by decide +kernel
theorem dX8_plainKeyAt_16 : decode cX8_plainKeyAt 16 = .ok (.arraylength, 1) := by decide +kernel
theorem dX8_plainKeyAt_17 : decode cX8_plainKeyAt 17 = .ok (.if_icmp .lt 7, 3) := by decide +kernel
theorem dX8_plainKeyAt_20 : decode cX8_plainKeyAt 20 = .ok (.iconst (-1), 1) := by decide +kernel
theorem dX8_plainKeyAt_21 : decode cX8_plainKeyAt 21 = .ok (.goto 9, 3) := by decide +kernel
theorem dX8_plainKeyAt_24 : decode cX8_plainKeyAt 24 = .ok (.aload_n 0, 1) := by decide +kernel
theorem dX8_plainKeyAt_25 : decode cX8_plainKeyAt 25 = .ok (.getfield 22, 3) := by decide +kernel
theorem dX8_plainKeyAt_28 : decode cX8_plainKeyAt 28 = .ok (.iload_n 1, 1) := by decide +kernel
theorem dX8_plainKeyAt_29 : decode cX8_plainKeyAt 29 = .ok (.iaload, 1) := by decide +kernel
theorem dX8_plainKeyAt_30 : decode cX8_plainKeyAt 30 = .ok (.ireturn, 1) := by decide +kernel
theorem dX8_plainElementAt_0 : decode cX8_plainElementAt 0 = .ok (.iload_n 1, 1) := by decide +kernel
theorem dX8_plainElementAt_1 : decode cX8_plainElementAt 1 = .ok (.ifCond .lt 12, 3) := by decide +kernel
theorem dX8_plainElementAt_4 : decode cX8_plainElementAt 4 = .ok (.iload_n 1, 1) := by decide +kernel
theorem dX8_plainElementAt_5 : decode cX8_plainElementAt 5 = .ok (.aload_n 0, 1) := by decide +kernel
theorem dX8_plainElementAt_6 : decode cX8_plainElementAt 6 = .ok (.getfield 26, 3) := by decide +kernel
theorem dX8_plainElementAt_9 : decode cX8_plainElementAt 9 = .ok (.arraylength, 1) := by decide +kernel
theorem dX8_plainElementAt_10 : decode cX8_plainElementAt 10 = .ok (.if_icmp .lt 7, 3) := by decide +kernel
theorem dX8_plainElementAt_13 : decode cX8_plainElementAt 13 = .ok (.iconst 0, 1) := by decide +kernel
theorem dX8_plainElementAt_14 : decode cX8_plainElementAt 14 = .ok (.goto 9, 3) := by decide +kernel
theorem dX8_plainElementAt_17 : decode cX8_plainElementAt 17 = .ok (.aload_n 0, 1) := by decide +kernel
theorem dX8_plainElementAt_18 : decode cX8_plainElementAt 18 = .ok (.getfield 26, 3) := by decide +kernel
theorem dX8_plainElementAt_21 : decode cX8_plainElementAt 21 = .ok (.iload_n 1, 1) := by decide +kernel
theorem dX8_plainElementAt_22 : decode cX8_plainElementAt 22 = .ok (.iaload, 1) := by decide +kernel
theorem dX8_plainElementAt_23 : decode cX8_plainElementAt 23 = .ok (.ireturn, 1) := by decide +kernel
theorem dX8_putPlain_0 : decode cX8_putPlain 0 = .ok (.iload_n 1, 1) := by decide +kernel
theorem dX8_putPlain_1 : decode cX8_putPlain 1 = .ok (.ifCond .lt 19, 3) := by decide +kernel
theorem dX8_putPlain_4 : decode cX8_putPlain 4 = .ok (.iload_n 1, 1) := by decide +kernel
theorem dX8_putPlain_5 : decode cX8_putPlain 5 = .ok (.aload_n 0, 1) := by decide +kernel
theorem dX8_putPlain_6 : decode cX8_putPlain 6 = .ok (.getfield 26, 3) := by decide +kernel
theorem dX8_putPlain_9 : decode cX8_putPlain 9 = .ok (.arraylength, 1) := by decide +kernel
theorem dX8_putPlain_10 : decode cX8_putPlain 10 = .ok (.if_icmp .ge 10, 3) := by decide +kernel
theorem dX8_putPlain_13 : decode cX8_putPlain 13 = .ok (.aload_n 0, 1) := by decide +kernel
theorem dX8_putPlain_14 : decode cX8_putPlain 14 = .ok (.getfield 26, 3) := by decide +kernel
theorem dX8_putPlain_17 : decode cX8_putPlain 17 = .ok (.iload_n 1, 1) := by decide +kernel
theorem dX8_putPlain_18 : decode cX8_putPlain 18 = .ok (.iload_n 2, 1) := by decide +kernel
theorem dX8_putPlain_19 : decode cX8_putPlain 19 = .ok (.iastore, 1) := by decide +kernel
theorem dX8_putPlain_20 : decode cX8_putPlain 20 = .ok (.return_, 1) := by decide +kernel
theorem dX8_putPlainPair_0 : decode cX8_putPlainPair 0 = .ok (.aload_n 0, 1) := by decide +kernel
theorem dX8_putPlainPair_1 : decode cX8_putPlainPair 1 = .ok (.iload_n 1, 1) := by decide +kernel
theorem dX8_putPlainPair_2 : decode cX8_putPlainPair 2 = .ok (.iload_n 3, 1) := by decide +kernel
theorem dX8_putPlainPair_3 : decode cX8_putPlainPair 3 = .ok (.invokevirtual 29, 3) := by decide +kernel
theorem dX8_putPlainPair_6 : decode cX8_putPlainPair 6 = .ok (.iload_n 1, 1) := by decide +kernel
theorem dX8_putPlainPair_7 : decode cX8_putPlainPair 7 = .ok (.ifCond .lt 26, 3) := by decide +kernel
theorem dX8_putPlainPair_10 : decode cX8_putPlainPair 10 = .ok (.aload_n 0, 1) := by decide +kernel
theorem dX8_putPlainPair_11 : decode cX8_putPlainPair 11 = .ok (.getfield 22, 3) := by decide +kernel
theorem dX8_putPlainPair_14 : decode cX8_putPlainPair 14 = .ok (.ifnull 19, 3) := by decide +kernel
theorem dX8_putPlainPair_17 : decode cX8_putPlainPair 17 = .ok (.iload_n 1, 1) := by decide +kernel
theorem dX8_putPlainPair_18 : decode cX8_putPlainPair 18 = .ok (.aload_n 0, 1) := by decide +kernel
theorem dX8_putPlainPair_19 : decode cX8_putPlainPair 19 = .ok (.getfield 22, 3) := by decide +kernel
theorem dX8_putPlainPair_22 : decode cX8_putPlainPair 22 = .ok (.arraylength, 1) := by decide +kernel
theorem dX8_putPlainPair_23 : decode cX8_putPlainPair 23 = .ok (.if_icmp .ge 10, 3) := by decide +kernel
theorem dX8_putPlainPair_26 : decode cX8_putPlainPair 26 = .ok (.aload_n 0, 1) := by decide +kernel
theorem dX8_putPlainPair_27 : decode cX8_putPlainPair 27 = .ok (.getfield 22, 3) := by decide +kernel
theorem dX8_putPlainPair_30 : decode cX8_putPlainPair 30 = .ok (.iload_n 1, 1) := by decide +kernel
theorem dX8_putPlainPair_31 : decode cX8_putPlainPair 31 = .ok (.iload_n 2, 1) := by decide +kernel
theorem dX8_putPlainPair_32 : decode cX8_putPlainPair 32 = .ok (.iastore, 1) := by decide +kernel
theorem dX8_putPlainPair_33 : decode cX8_putPlainPair 33 = .ok (.return_, 1) := by decide +kernel
theorem dX8_spend_0 : decode cX8_spend 0 = .ok (.aload_n 0, 1) := by decide +kernel
theorem dX8_spend_1 : decode cX8_spend 1 = .ok (.iconst 3, 1) := by decide +kernel
theorem dX8_spend_2 : decode cX8_spend 2 = .ok (.putfield 9, 3) := by decide +kernel
theorem dX8_spend_5 : decode cX8_spend 5 = .ok (.aload_n 0, 1) := by decide +kernel
theorem dX8_spend_6 : decode cX8_spend 6 = .ok (.aconst_null, 1) := by decide +kernel
theorem dX8_spend_7 : decode cX8_spend 7 = .ok (.putfield 15, 3) := by decide +kernel
theorem dX8_spend_10 : decode cX8_spend 10 = .ok (.aload_n 0, 1) := by decide +kernel
theorem dX8_spend_11 : decode cX8_spend 11 = .ok (.iconst 0, 1) := by decide +kernel
theorem dX8_spend_12 : decode cX8_spend 12 = .ok (.putfield 19, 3) := by decide +kernel
theorem dX8_spend_15 : decode cX8_spend 15 = .ok (.return_, 1) := by decide +kernel
theorem dX9_depthFor_0 : decode cX9_depthFor 0 = .ok (.iload_n 0, 1) := by decide +kernel
theorem dX9_depthFor_1 : decode cX9_depthFor 1 = .ok (.iconst 4, 1) := by decide +kernel
theorem dX9_depthFor_2 : decode cX9_depthFor 2 = .ok (.if_icmp .gt 7, 3) := by decide +kernel
theorem dX9_depthFor_5 : decode cX9_depthFor 5 = .ok (.iconst 1, 1) := by decide +kernel
theorem dX9_depthFor_6 : decode cX9_depthFor 6 = .ok (.goto 14, 3) := by decide +kernel
theorem dX9_depthFor_9 : decode cX9_depthFor 9 = .ok (.iload_n 0, 1) := by decide +kernel
theorem dX9_depthFor_10 : decode cX9_depthFor 10 = .ok (.bipush 16, 2) := by decide +kernel
theorem dX9_depthFor_12 : decode cX9_depthFor 12 = .ok (.if_icmp .gt 7, 3) := by decide +kernel
theorem dX9_depthFor_15 : decode cX9_depthFor 15 = .ok (.iconst 2, 1) := by decide +kernel
theorem dX9_depthFor_16 : decode cX9_depthFor 16 = .ok (.goto 4, 3) := by decide +kernel
theorem dX9_depthFor_19 : decode cX9_depthFor 19 = .ok (.iconst 3, 1) := by decide +kernel
theorem dX9_depthFor_20 : decode cX9_depthFor 20 = .ok (.ireturn, 1) := by decide +kernel
theorem dX9_placeAt_0 : decode cX9_placeAt 0 = .ok (.iload_n 1, 1) := by decide +kernel
theorem dX9_placeAt_1 : decode cX9_placeAt 1 = .ok (.iconst 2, 1) := by decide +kernel
theorem dX9_placeAt_2 : decode cX9_placeAt 2 = .ok (.iload_n 0, 1) := by decide +kernel
theorem dX9_placeAt_3 : decode cX9_placeAt 3 = .ok (.iconst 1, 1) := by decide +kernel
theorem dX9_placeAt_4 : decode cX9_placeAt 4 = .ok (.isub, 1) := by decide +kernel
theorem dX9_placeAt_5 : decode cX9_placeAt 5 = .ok (.imul, 1) := by decide +kernel
theorem dX9_placeAt_6 : decode cX9_placeAt 6 = .ok (.ishr, 1) := by decide +kernel
theorem dX9_placeAt_7 : decode cX9_placeAt 7 = .ok (.iconst 3, 1) := by decide +kernel
theorem dX9_placeAt_8 : decode cX9_placeAt 8 = .ok (.iand, 1) := by decide +kernel
theorem dX9_placeAt_9 : decode cX9_placeAt 9 = .ok (.ireturn, 1) := by decide +kernel
theorem dX9_elementIn_0 : decode cX9_elementIn 0 = .ok (.aload_n 0, 1) := by decide +kernel
theorem dX9_elementIn_1 : decode cX9_elementIn 1 = .ok (.astore_n 3, 1) := by decide +kernel
theorem dX9_elementIn_2 : decode cX9_elementIn 2 = .ok (.iload_n 1, 1) := by decide +kernel
theorem dX9_elementIn_3 : decode cX9_elementIn 3 = .ok (.invokestatic 9, 3) := by decide +kernel
theorem dX9_elementIn_6 : decode cX9_elementIn 6 = .ok (.istore 4, 2) := by decide +kernel
theorem dX9_elementIn_8 : decode cX9_elementIn 8 = .ok (.iload 4, 2) := by decide +kernel
theorem dX9_elementIn_10 : decode cX9_elementIn 10 = .ok (.iconst 1, 1) := by decide +kernel
theorem dX9_elementIn_11 : decode cX9_elementIn 11 = .ok (.if_icmp .le 24, 3) := by decide +kernel
theorem dX9_elementIn_14 : decode cX9_elementIn 14 = .ok (.aload_n 3, 1) := by decide +kernel
theorem dX9_elementIn_15 : decode cX9_elementIn 15 = .ok (.ifnull 20, 3) := by decide +kernel
theorem dX9_elementIn_18 : decode cX9_elementIn 18 = .ok (.aload_n 3, 1) := by decide +kernel
theorem dX9_elementIn_19 : decode cX9_elementIn 19 = .ok (.iload 4, 2) := by decide +kernel
theorem dX9_elementIn_21 : decode cX9_elementIn 21 = .ok (.iload_n 2, 1) := by decide +kernel
theorem dX9_elementIn_22 : decode cX9_elementIn 22 = .ok (.invokestatic 15, 3) := by decide +kernel
theorem dX9_elementIn_25 : decode cX9_elementIn 25 = .ok (.invokevirtual 19, 3) := by decide +kernel
theorem dX9_elementIn_28 : decode cX9_elementIn 28 = .ok (.astore_n 3, 1) := by decide +kernel
theorem dX9_elementIn_29 : decode cX9_elementIn 29 = .ok (.iinc 4 (-1), 3) := by decide +kernel
theorem dX9_elementIn_32 : decode cX9_elementIn 32 = .ok (.goto (-24), 3) := by decide +kernel
theorem dX9_elementIn_35 : decode cX9_elementIn 35 = .ok (.aload_n 3, 1) := by decide +kernel
theorem dX9_elementIn_36 : decode cX9_elementIn 36 = .ok (.ifnonnull 7, 3) := by decide +kernel
theorem dX9_elementIn_39 : decode cX9_elementIn 39 = .ok (.iconst 0, 1) := by decide +kernel
theorem dX9_elementIn_40 : decode cX9_elementIn 40 = .ok (.goto 12, 3) := by decide +kernel
theorem dX9_elementIn_43 : decode cX9_elementIn 43 = .ok (.aload_n 3, 1) := by decide +kernel
theorem dX9_elementIn_44 : decode cX9_elementIn 44 = .ok (.iconst 1, 1) := by decide +kernel
theorem dX9_elementIn_45 : decode cX9_elementIn 45 = .ok (.iload_n 2, 1) := by decide +kernel
theorem dX9_elementIn_46 : decode cX9_elementIn 46 = .ok (.invokestatic 15, 3) := by decide +kernel
theorem dX9_elementIn_49 : decode cX9_elementIn 49 = .ok (.invokevirtual 25, 3) := by decide +kernel
theorem dX9_elementIn_52 : decode cX9_elementIn 52 = .ok (.ireturn, 1) := by decide +kernel
theorem dX9_withOneMore_0 : decode cX9_withOneMore 0 = .ok (.iload_n 2, 1) := by decide +kernel
theorem dX9_withOneMore_1 : decode cX9_withOneMore 1 = .ok (.iconst 1, 1) := by decide +kernel
theorem dX9_withOneMore_2 : decode cX9_withOneMore 2 = .ok (.iadd, 1) := by decide +kernel
theorem dX9_withOneMore_3 : decode cX9_withOneMore 3 = .ok (.invokestatic 9, 3) := by decide +kernel
theorem dX9_withOneMore_6 : decode cX9_withOneMore 6 = .ok (.istore 5, 2) := by decide +kernel
theorem dX9_withOneMore_8 : decode cX9_withOneMore 8 = .ok (.iload 5, 2) := by decide +kernel
theorem dX9_withOneMore_10 : decode cX9_withOneMore 10 = .ok (.iload_n 2, 1) := by decide +kernel
theorem dX9_withOneMore_11 : decode cX9_withOneMore 11 = .ok (.invokestatic 9, 3) := by decide +kernel
theorem dX9_withOneMore_14 : decode cX9_withOneMore 14 = .ok (.if_icmp .le 21, 3) := by decide +kernel
theorem dX9_withOneMore_17 : decode cX9_withOneMore 17 = .ok (.aload_n 0, 1) := by decide +kernel
theorem dX9_withOneMore_18 : decode cX9_withOneMore 18 = .ok (.iload 4, 2) := by decide +kernel
theorem dX9_withOneMore_20 : decode cX9_withOneMore 20 = .ok (.invokevirtual 28, 3) := by decide +kernel
theorem dX9_withOneMore_23 : decode cX9_withOneMore 23 = .ok (.astore 6, 2) := by decide +kernel
theorem dX9_withOneMore_25 : decode cX9_withOneMore 25 = .ok (.aload 6, 2) := by decide +kernel
theorem dX9_withOneMore_27 : decode cX9_withOneMore 27 = .ok (.iconst 0, 1) := by decide +kernel
theorem dX9_withOneMore_28 : decode cX9_withOneMore 28 = .ok (.aload_n 1, 1) := by decide +kernel
theorem dX9_withOneMore_29 : decode cX9_withOneMore 29 = .ok (.invokevirtual 33, 3) := by decide +kernel
theorem dX9_withOneMore_32 : decode cX9_withOneMore 32 = .ok (.goto 12, 3) := by decide +kernel
theorem dX9_withOneMore_35 : decode cX9_withOneMore 35 = .ok (.aload_n 0, 1) := by decide +kernel
theorem dX9_withOneMore_36 : decode cX9_withOneMore 36 = .ok (.aload_n 1, 1) := by decide +kernel
theorem dX9_withOneMore_37 : decode cX9_withOneMore 37 = .ok (.iload 4, 2) := by decide +kernel
theorem dX9_withOneMore_39 : decode cX9_withOneMore 39 = .ok (.invokevirtual 37, 3) := by decide +kernel
theorem dX9_withOneMore_42 : decode cX9_withOneMore 42 = .ok (.astore 6, 2) := by decide +kernel
theorem dX9_withOneMore_44 : decode cX9_withOneMore 44 = .ok (.aload_n 0, 1) := by decide +kernel
theorem dX9_withOneMore_45 : decode cX9_withOneMore 45 = .ok (.aload 6, 2) := by decide +kernel
theorem dX9_withOneMore_47 : decode cX9_withOneMore 47 = .ok (.iload 5, 2) := by decide +kernel
theorem dX9_withOneMore_49 : decode cX9_withOneMore 49 = .ok (.iload_n 2, 1) := by decide +kernel
theorem dX9_withOneMore_50 : decode cX9_withOneMore 50 = .ok (.iload_n 3, 1) := by decide +kernel
theorem dX9_withOneMore_51 : decode cX9_withOneMore 51 = .ok (.iload 4, 2) := by decide +kernel
theorem dX9_withOneMore_53 : decode cX9_withOneMore 53 = .ok (.invokestatic 41, 3) := by decide +kernel
theorem dX9_withOneMore_56 : decode cX9_withOneMore 56 = .ok (.aload 6, 2) := by decide +kernel
theorem dX9_withOneMore_58 : decode cX9_withOneMore 58 = .ok (.areturn, 1) := by decide +kernel
theorem dX9_withOther_0 : decode cX9_withOther 0 = .ok (.aload_n 0, 1) := by decide +kernel
theorem dX9_withOther_1 : decode cX9_withOther 1 = .ok (.aload_n 1, 1) := by decide +kernel
theorem dX9_withOther_2 : decode cX9_withOther 2 = .ok (.iload 5, 2) := by decide +kernel
theorem dX9_withOther_4 : decode cX9_withOther 4 = .ok (.invokevirtual 37, 3) := by decide +kernel
theorem dX9_withOther_7 : decode cX9_withOther 7 = .ok (.astore 6, 2) := by decide +kernel
theorem dX9_withOther_9 : decode cX9_withOther 9 = .ok (.aload_n 0, 1) := by decide +kernel
theorem dX9_withOther_10 : decode cX9_withOther 10 = .ok (.aload 6, 2) := by decide +kernel
theorem dX9_withOther_12 : decode cX9_withOther 12 = .ok (.iload_n 2, 1) := by decide +kernel
theorem dX9_withOther_13 : decode cX9_withOther 13 = .ok (.invokestatic 9, 3) := by decide +kernel
theorem dX9_withOther_16 : decode cX9_withOther 16 = .ok (.iload_n 3, 1) := by decide +kernel
theorem dX9_withOther_17 : decode cX9_withOther 17 = .ok (.iload 4, 2) := by decide +kernel
theorem dX9_withOther_19 : decode cX9_withOther 19 = .ok (.iload 5, 2) := by decide +kernel
theorem dX9_withOther_21 : decode cX9_withOther 21 = .ok (.invokestatic 41, 3) := by decide +kernel
theorem dX9_withOther_24 : decode cX9_withOther 24 = .ok (.aload 6, 2) := by decide +kernel
theorem dX9_withOther_26 : decode cX9_withOther 26 = .ok (.areturn, 1) := by decide +kernel
theorem dX9_withOneLess_0 : decode cX9_withOneLess 0 = .ok (.iload_n 2, 1) := by decide +kernel
theorem dX9_withOneLess_1 : decode cX9_withOneLess 1 = .ok (.iconst 1, 1) := by decide +kernel
theorem dX9_withOneLess_2 : decode cX9_withOneLess 2 = .ok (.isub, 1) := by decide +kernel
theorem dX9_withOneLess_3 : decode cX9_withOneLess 3 = .ok (.istore_n 3, 1) := by decide +kernel
theorem dX9_withOneLess_4 : decode cX9_withOneLess 4 = .ok (.iload_n 3, 1) := by decide +kernel
theorem dX9_withOneLess_5 : decode cX9_withOneLess 5 = .ok (.invokestatic 9, 3) := by decide +kernel
theorem dX9_withOneLess_8 : decode cX9_withOneLess 8 = .ok (.iload_n 2, 1) := by decide +kernel
theorem dX9_withOneLess_9 : decode cX9_withOneLess 9 = .ok (.invokestatic 9, 3) := by decide +kernel
theorem dX9_withOneLess_12 : decode cX9_withOneLess 12 = .ok (.if_icmp .ge 9, 3) := by decide +kernel
theorem dX9_withOneLess_15 : decode cX9_withOneLess 15 = .ok (.aload_n 1, 1) := by decide +kernel
theorem dX9_withOneLess_16 : decode cX9_withOneLess 16 = .ok (.iconst 0, 1) := by decide +kernel
theorem dX9_withOneLess_17 : decode cX9_withOneLess 17 = .ok (.invokevirtual 19, 3) := by decide +kernel
theorem dX9_withOneLess_20 : decode cX9_withOneLess 20 = .ok (.areturn, 1) := by decide +kernel
theorem dX9_withOneLess_21 : decode cX9_withOneLess 21 = .ok (.aload_n 0, 1) := by decide +kernel
theorem dX9_withOneLess_22 : decode cX9_withOneLess 22 = .ok (.aload_n 1, 1) := by decide +kernel
theorem dX9_withOneLess_23 : decode cX9_withOneLess 23 = .ok (.iconst (-1), 1) := by decide +kernel
theorem dX9_withOneLess_24 : decode cX9_withOneLess 24 = .ok (.invokevirtual 45, 3) := by decide +kernel
theorem dX9_withOneLess_27 : decode cX9_withOneLess 27 = .ok (.astore 4, 2) := by decide +kernel
theorem dX9_withOneLess_29 : decode cX9_withOneLess 29 = .ok (.aload 4, 2) := by decide +kernel
theorem dX9_withOneLess_31 : decode cX9_withOneLess 31 = .ok (.astore 5, 2) := by decide +kernel
theorem dX9_withOneLess_33 : decode cX9_withOneLess 33 = .ok (.iload_n 2, 1) := by decide +kernel
theorem dX9_withOneLess_34 : decode cX9_withOneLess 34 = .ok (.invokestatic 9, 3) := by decide +kernel
theorem dX9_withOneLess_37 : decode cX9_withOneLess 37 = .ok (.istore 6, 2) := by decide +kernel
theorem dX9_withOneLess_39 : decode cX9_withOneLess 39 = .ok (.iload 6, 2) := by decide +kernel
theorem dX9_withOneLess_41 : decode cX9_withOneLess 41 = .ok (.iconst 1, 1) := by decide +kernel
theorem dX9_withOneLess_42 : decode cX9_withOneLess 42 = .ok (.if_icmp .le 55, 3) := by decide +kernel
theorem dX9_withOneLess_45 : decode cX9_withOneLess 45 = .ok (.iconst 1, 1) := by decide +kernel
theorem dX9_withOneLess_46 : decode cX9_withOneLess 46 = .ok (.iconst 2, 1) := by decide +kernel
theorem dX9_withOneLess_47 : decode cX9_withOneLess 47 = .ok (.iload 6, 2) := by decide +kernel
theorem dX9_withOneLess_49 : decode cX9_withOneLess 49 = .ok (.iconst 1, 1) := by decide +kernel
theorem dX9_withOneLess_50 : decode cX9_withOneLess 50 = .ok (.isub, 1) := by decide +kernel
theorem dX9_withOneLess_51 : decode cX9_withOneLess 51 = .ok (.imul, 1) := by decide +kernel
theorem dX9_withOneLess_52 : decode cX9_withOneLess 52 = .ok (.ishl, 1) := by decide +kernel
theorem dX9_withOneLess_53 : decode cX9_withOneLess 53 = .ok (.istore 7, 2) := by decide +kernel
theorem dX9_withOneLess_55 : decode cX9_withOneLess 55 = .ok (.iload_n 3, 1) := by decide +kernel
theorem dX9_withOneLess_56 : decode cX9_withOneLess 56 = .ok (.iload 7, 2) := by decide +kernel
theorem dX9_withOneLess_58 : decode cX9_withOneLess 58 = .ok (.iconst 1, 1) := by decide +kernel
theorem dX9_withOneLess_59 : decode cX9_withOneLess 59 = .ok (.isub, 1) := by decide +kernel
theorem dX9_withOneLess_60 : decode cX9_withOneLess 60 = .ok (.iand, 1) := by decide +kernel
theorem dX9_withOneLess_61 : decode cX9_withOneLess 61 = .ok (.ifCond .ne 18, 3) := by decide +kernel
theorem dX9_withOneLess_64 : decode cX9_withOneLess 64 = .ok (.aload 5, 2) := by decide +kernel
theorem dX9_withOneLess_66 : decode cX9_withOneLess 66 = .ok (.iload 6, 2) := by decide +kernel
theorem dX9_withOneLess_68 : decode cX9_withOneLess 68 = .ok (.iload_n 3, 1) := by decide +kernel
theorem dX9_withOneLess_69 : decode cX9_withOneLess 69 = .ok (.invokestatic 15, 3) := by decide +kernel
theorem dX9_withOneLess_72 : decode cX9_withOneLess 72 = .ok (.aconst_null, 1) := by decide +kernel
theorem dX9_withOneLess_73 : decode cX9_withOneLess 73 = .ok (.invokevirtual 33, 3) := by decide +kernel
theorem dX9_withOneLess_76 : decode cX9_withOneLess 76 = .ok (.aload 4, 2) := by decide +kernel
theorem dX9_withOneLess_78 : decode cX9_withOneLess 78 = .ok (.areturn, 1) := by decide +kernel
theorem dX9_withOneLess_79 : decode cX9_withOneLess 79 = .ok (.aload_n 0, 1) := by decide +kernel
theorem dX9_withOneLess_80 : decode cX9_withOneLess 80 = .ok (.aload 5, 2) := by decide +kernel
theorem dX9_withOneLess_82 : decode cX9_withOneLess 82 = .ok (.iload 6, 2) := by decide +kernel
theorem dX9_withOneLess_84 : decode cX9_withOneLess 84 = .ok (.iload_n 3, 1) := by decide +kernel
theorem dX9_withOneLess_85 : decode cX9_withOneLess 85 = .ok (.iconst (-1), 1) := by decide +kernel
theorem dX9_withOneLess_86 : decode cX9_withOneLess 86 = .ok (.invokestatic 48, 3) := by decide +kernel
theorem dX9_withOneLess_89 : decode cX9_withOneLess 89 = .ok (.astore 5, 2) := by decide +kernel
theorem dX9_withOneLess_91 : decode cX9_withOneLess 91 = .ok (.iinc 6 (-1), 3) := by decide +kernel
theorem dX9_withOneLess_94 : decode cX9_withOneLess 94 = .ok (.goto (-55), 3) := by decide +kernel
theorem dX9_withOneLess_97 : decode cX9_withOneLess 97 = .ok (.aload 5, 2) := by decide +kernel
theorem dX9_withOneLess_99 : decode cX9_withOneLess 99 = .ok (.iconst 1, 1) := by decide +kernel
theorem dX9_withOneLess_100 : decode cX9_withOneLess 100 = .ok (.iload_n 3, 1) := by decide +kernel
theorem dX9_withOneLess_101 : decode cX9_withOneLess 101 = .ok (.invokestatic 15, 3) := by decide +kernel
theorem dX9_withOneLess_104 : decode cX9_withOneLess 104 = .ok (.iconst 0, 1) := by decide +kernel
theorem dX9_withOneLess_105 : decode cX9_withOneLess 105 = .ok (.invokevirtual 52, 3) := by decide +kernel
theorem dX9_withOneLess_108 : decode cX9_withOneLess 108 = .ok (.aload 4, 2) := by decide +kernel
theorem dX9_withOneLess_110 : decode cX9_withOneLess 110 = .ok (.areturn, 1) := by decide +kernel
theorem dX9_putIn_0 : decode cX9_putIn 0 = .ok (.aload_n 1, 1) := by decide +kernel
theorem dX9_putIn_1 : decode cX9_putIn 1 = .ok (.astore 6, 2) := by decide +kernel
theorem dX9_putIn_3 : decode cX9_putIn 3 = .ok (.iload_n 2, 1) := by decide +kernel
theorem dX9_putIn_4 : decode cX9_putIn 4 = .ok (.istore 7, 2) := by decide +kernel
theorem dX9_putIn_6 : decode cX9_putIn 6 = .ok (.iload 7, 2) := by decide +kernel
theorem dX9_putIn_8 : decode cX9_putIn 8 = .ok (.iconst 1, 1) := by decide +kernel
theorem dX9_putIn_9 : decode cX9_putIn 9 = .ok (.if_icmp .le 22, 3) := by decide +kernel
theorem dX9_putIn_12 : decode cX9_putIn 12 = .ok (.aload_n 0, 1) := by decide +kernel
theorem dX9_putIn_13 : decode cX9_putIn 13 = .ok (.aload 6, 2) := by decide +kernel
theorem dX9_putIn_15 : decode cX9_putIn 15 = .ok (.iload 7, 2) := by decide +kernel
theorem dX9_putIn_17 : decode cX9_putIn 17 = .ok (.iload_n 3, 1) := by decide +kernel
theorem dX9_putIn_18 : decode cX9_putIn 18 = .ok (.iload 5, 2) := by decide +kernel
theorem dX9_putIn_20 : decode cX9_putIn 20 = .ok (.invokestatic 48, 3) := by decide +kernel
theorem dX9_putIn_23 : decode cX9_putIn 23 = .ok (.astore 6, 2) := by decide +kernel
theorem dX9_putIn_25 : decode cX9_putIn 25 = .ok (.iinc 7 (-1), 3) := by decide +kernel
theorem dX9_putIn_28 : decode cX9_putIn 28 = .ok (.goto (-22), 3) := by decide +kernel
theorem dX9_putIn_31 : decode cX9_putIn 31 = .ok (.aload 6, 2) := by decide +kernel
theorem dX9_putIn_33 : decode cX9_putIn 33 = .ok (.iconst 1, 1) := by decide +kernel
theorem dX9_putIn_34 : decode cX9_putIn 34 = .ok (.iload_n 3, 1) := by decide +kernel
theorem dX9_putIn_35 : decode cX9_putIn 35 = .ok (.invokestatic 15, 3) := by decide +kernel
theorem dX9_putIn_38 : decode cX9_putIn 38 = .ok (.iload 4, 2) := by decide +kernel
theorem dX9_putIn_40 : decode cX9_putIn 40 = .ok (.invokevirtual 52, 3) := by decide +kernel
theorem dX9_putIn_43 : decode cX9_putIn 43 = .ok (.return_, 1) := by decide +kernel
theorem dX9_changeableChild_0 : decode cX9_changeableChild 0 = .ok (.aload_n 1, 1) := by decide +kernel
theorem dX9_changeableChild_1 : decode cX9_changeableChild 1 = .ok (.iload_n 2, 1) := by decide +kernel
theorem dX9_changeableChild_2 : decode cX9_changeableChild 2 = .ok (.iload_n 3, 1) := by decide +kernel
theorem dX9_changeableChild_3 : decode cX9_changeableChild 3 = .ok (.invokestatic 15, 3) := by decide +kernel
theorem dX9_changeableChild_6 : decode cX9_changeableChild 6 = .ok (.invokevirtual 19, 3) := by decide +kernel
theorem dX9_changeableChild_9 : decode cX9_changeableChild 9 = .ok (.astore 5, 2) := by decide +kernel
theorem dX9_changeableChild_11 : decode cX9_changeableChild 11 = .ok (.aload 5, 2) := by decide +kernel
theorem dX9_changeableChild_13 : decode cX9_changeableChild 13 = .ok (.ifnull 16, 3) := by decide +kernel
theorem dX9_changeableChild_16 : decode cX9_changeableChild 16 = .ok (.aload_n 0, 1) := by decide +kernel
theorem dX9_changeableChild_17 : decode cX9_changeableChild 17 = .ok (.aload 5, 2) := by decide +kernel
theorem dX9_changeableChild_19 : decode cX9_changeableChild 19 = .ok (.iload 4, 2) := by decide +kernel
theorem dX9_changeableChild_21 : decode cX9_changeableChild 21 = .ok (.invokevirtual 37, 3) := by decide +kernel
theorem dX9_changeableChild_24 : decode cX9_changeableChild 24 = .ok (.astore 6, 2) := by decide +kernel
theorem dX9_changeableChild_26 : decode cX9_changeableChild 26 = .ok (.goto 25, 3) := by decide +kernel
theorem dX9_changeableChild_29 : decode cX9_changeableChild 29 = .ok (.iload_n 2, 1) := by decide +kernel
theorem dX9_changeableChild_30 : decode cX9_changeableChild 30 = .ok (.iconst 2, 1) := by decide +kernel
theorem dX9_changeableChild_31 : decode cX9_changeableChild 31 = .ok (.if_icmp .ne 12, 3) := by decide +kernel
theorem dX9_changeableChild_34 : decode cX9_changeableChild 34 = .ok (.aload_n 0, 1) := by decide +kernel
theorem dX9_changeableChild_35 : decode cX9_changeableChild 35 = .ok (.iload 4, 2) := by decide +kernel
theorem dX9_changeableChild_37 : decode cX9_changeableChild 37 = .ok (.invokevirtual 56, 3) := by decide +kernel
theorem dX9_changeableChild_40 : decode cX9_changeableChild 40 = .ok (.goto 9, 3) := by decide +kernel
theorem dX9_changeableChild_43 : decode cX9_changeableChild 43 = .ok (.aload_n 0, 1) := by decide +kernel
theorem dX9_changeableChild_44 : decode cX9_changeableChild 44 = .ok (.iload 4, 2) := by decide +kernel
theorem dX9_changeableChild_46 : decode cX9_changeableChild 46 = .ok (.invokevirtual 28, 3) := by decide +kernel
theorem dX9_changeableChild_49 : decode cX9_changeableChild 49 = .ok (.astore 6, 2) := by decide +kernel
theorem dX9_changeableChild_51 : decode cX9_changeableChild 51 = .ok (.aload_n 1, 1) := by decide +kernel
theorem dX9_changeableChild_52 : decode cX9_changeableChild 52 = .ok (.iload_n 2, 1) := by decide +kernel
theorem dX9_changeableChild_53 : decode cX9_changeableChild 53 = .ok (.iload_n 3, 1) := by decide +kernel
theorem dX9_changeableChild_54 : decode cX9_changeableChild 54 = .ok (.invokestatic 15, 3) := by decide +kernel
theorem dX9_changeableChild_57 : decode cX9_changeableChild 57 = .ok (.aload 6, 2) := by decide +kernel
theorem dX9_changeableChild_59 : decode cX9_changeableChild 59 = .ok (.invokevirtual 33, 3) := by decide +kernel
theorem dX9_changeableChild_62 : decode cX9_changeableChild 62 = .ok (.aload 6, 2) := by decide +kernel
theorem dX9_changeableChild_64 : decode cX9_changeableChild 64 = .ok (.areturn, 1) := by decide +kernel
theorem dX10_init_0 : decode cX10_init 0 = .ok (.aload_n 0, 1) := by decide +kernel
theorem dX10_init_1 : decode cX10_init 1 = .ok (.invokespecial 3, 3) := by decide +kernel
theorem dX10_init_4 : decode cX10_init 4 = .ok (.aload_n 0, 1) := by decide +kernel
theorem dX10_init_5 : decode cX10_init 5 = .ok (.bipush 12, 2) := by decide +kernel
theorem dX10_init_7 : decode cX10_init 7 = .ok (.newarray .int, 2) := by decide +kernel
theorem dX10_init_9 : decode cX10_init 9 = .ok (.putfield 9, 3) := by decide +kernel
theorem dX10_init_12 : decode cX10_init 12 = .ok (.aload_n 0, 1) := by decide +kernel
theorem dX10_init_13 : decode cX10_init 13 = .ok (.iconst 0, 1) := by decide +kernel
theorem dX10_init_14 : decode cX10_init 14 = .ok (.putfield 15, 3) := by decide +kernel
theorem dX10_init_17 : decode cX10_init 17 = .ok (.return_, 1) := by decide +kernel
theorem dX10_lineUp_0 : decode cX10_lineUp 0 = .ok (.aload_n 0, 1) := by decide +kernel
theorem dX10_lineUp_1 : decode cX10_lineUp 1 = .ok (.getfield 15, 3) := by decide +kernel
theorem dX10_lineUp_4 : decode cX10_lineUp 4 = .ok (.aload_n 0, 1) := by decide +kernel
theorem dX10_lineUp_5 : decode cX10_lineUp 5 = .ok (.getfield 9, 3) := by decide +kernel
theorem dX10_lineUp_8 : decode cX10_lineUp 8 = .ok (.arraylength, 1) := by decide +kernel
theorem dX10_lineUp_9 : decode cX10_lineUp 9 = .ok (.if_icmp .ge 23, 3) := by decide +kernel
theorem dX10_lineUp_12 : decode cX10_lineUp 12 = .ok (.aload_n 0, 1) := by decide +kernel
theorem dX10_lineUp_13 : decode cX10_lineUp 13 = .ok (.getfield 9, 3) := by decide +kernel
theorem dX10_lineUp_16 : decode cX10_lineUp 16 = .ok (.aload_n 0, 1) := by decide +kernel
theorem dX10_lineUp_17 : decode cX10_lineUp 17 = .ok (.getfield 15, 3) := by decide +kernel
theorem dX10_lineUp_20 : decode cX10_lineUp 20 = .ok (.iload_n 1, 1) := by decide +kernel
theorem dX10_lineUp_21 : decode cX10_lineUp 21 = .ok (.iastore, 1) := by decide +kernel
theorem dX10_lineUp_22 : decode cX10_lineUp 22 = .ok (.aload_n 0, 1) := by decide +kernel
theorem dX10_lineUp_23 : decode cX10_lineUp 23 = .ok (.dup, 1) := by decide +kernel
theorem dX10_lineUp_24 : decode cX10_lineUp 24 = .ok (.getfield 15, 3) := by decide +kernel
theorem dX10_lineUp_27 : decode cX10_lineUp 27 = .ok (.iconst 1, 1) := by decide +kernel
theorem dX10_lineUp_28 : decode cX10_lineUp 28 = .ok (.iadd, 1) := by decide +kernel
theorem dX10_lineUp_29 : decode cX10_lineUp 29 = .ok (.putfield 15, 3) := by decide +kernel
theorem dX10_lineUp_32 : decode cX10_lineUp 32 = .ok (.return_, 1) := by decide +kernel
theorem dX10_lineUpAll_0 : decode cX10_lineUpAll 0 = .ok (.iconst 0, 1) := by decide +kernel
theorem dX10_lineUpAll_1 : decode cX10_lineUpAll 1 = .ok (.istore_n 2, 1) := by decide +kernel
theorem dX10_lineUpAll_2 : decode cX10_lineUpAll 2 = .ok (.iload_n 2, 1) := by decide +kernel
theorem dX10_lineUpAll_3 : decode cX10_lineUpAll 3 = .ok (.aload_n 1, 1) := by decide +kernel
theorem dX10_lineUpAll_4 : decode cX10_lineUpAll 4 = .ok (.getfield 15, 3) := by decide +kernel
theorem dX10_lineUpAll_7 : decode cX10_lineUpAll 7 = .ok (.if_icmp .ge 28, 3) := by decide +kernel
theorem dX10_lineUpAll_10 : decode cX10_lineUpAll 10 = .ok (.iload_n 2, 1) := by decide +kernel
theorem dX10_lineUpAll_11 : decode cX10_lineUpAll 11 = .ok (.aload_n 1, 1) := by decide +kernel
theorem dX10_lineUpAll_12 : decode cX10_lineUpAll 12 = .ok (.getfield 9, 3) := by decide +kernel
theorem dX10_lineUpAll_15 : decode cX10_lineUpAll 15 = .ok (.arraylength, 1) := by decide +kernel
theorem dX10_lineUpAll_16 : decode cX10_lineUpAll 16 = .ok (.if_icmp .ge 19, 3) := by decide +kernel
theorem dX10_lineUpAll_19 : decode cX10_lineUpAll 19 = .ok (.aload_n 0, 1) := by decide +kernel
theorem dX10_lineUpAll_20 : decode cX10_lineUpAll 20 = .ok (.aload_n 1, 1) := by decide +kernel
theorem dX10_lineUpAll_21 : decode cX10_lineUpAll 21 = .ok (.getfield 9, 3) := by decide +kernel
theorem dX10_lineUpAll_24 : decode cX10_lineUpAll 24 = .ok (.iload_n 2, 1) := by decide +kernel
theorem dX10_lineUpAll_25 : decode cX10_lineUpAll 25 = .ok (.iaload, 1) := by decide +kernel
theorem dX10_lineUpAll_26 : decode cX10_lineUpAll 26 = .ok (.invokevirtual 19, 3) := by decide +kernel
theorem dX10_lineUpAll_29 : decode cX10_lineUpAll 29 = .ok (.iinc 2 1, 3) := by decide +kernel
theorem dX10_lineUpAll_32 : decode cX10_lineUpAll 32 = .ok (.goto (-30), 3) := by decide +kernel
theorem dX10_lineUpAll_35 : decode cX10_lineUpAll 35 = .ok (.return_, 1) := by decide +kernel
theorem dX10_takeFirst_0 : decode cX10_takeFirst 0 = .ok (.aload_n 0, 1) := by decide +kernel
theorem dX10_takeFirst_1 : decode cX10_takeFirst 1 = .ok (.getfield 9, 3) := by decide +kernel
theorem dX10_takeFirst_4 : decode cX10_takeFirst 4 = .ok (.iconst 0, 1) := by decide +kernel
theorem dX10_takeFirst_5 : decode cX10_takeFirst 5 = .ok (.iaload, 1) := by decide +kernel
theorem dX10_takeFirst_6 : decode cX10_takeFirst 6 = .ok (.istore_n 1, 1) := by decide +kernel
theorem dX10_takeFirst_7 : decode cX10_takeFirst 7 = .ok (.iconst 1, 1) := by decide +kernel
theorem dX10_takeFirst_8 : decode cX10_takeFirst 8 = .ok (.istore_n 2, 1) := by decide +kernel
theorem dX10_takeFirst_9 : decode cX10_takeFirst 9 = .ok (.iload_n 2, 1) := by decide +kernel
theorem dX10_takeFirst_10 : decode cX10_takeFirst 10 = .ok (.aload_n 0, 1) := by decide +kernel
theorem dX10_takeFirst_11 : decode cX10_takeFirst 11 = .ok (.getfield 15, 3) := by decide +kernel
theorem dX10_takeFirst_14 : decode cX10_takeFirst 14 = .ok (.if_icmp .ge 32, 3) := by decide +kernel
theorem dX10_takeFirst_17 : decode cX10_takeFirst 17 = .ok (.iload_n 2, 1) := by decide +kernel
theorem dX10_takeFirst_18 : decode cX10_takeFirst 18 = .ok (.aload_n 0, 1) := by decide +kernel
theorem dX10_takeFirst_19 : decode cX10_takeFirst 19 = .ok (.getfield 9, 3) := by decide +kernel
theorem dX10_takeFirst_22 : decode cX10_takeFirst 22 = .ok (.arraylength, 1) := by decide +kernel
theorem dX10_takeFirst_23 : decode cX10_takeFirst 23 = .ok (.if_icmp .ge 23, 3) := by decide +kernel
theorem dX10_takeFirst_26 : decode cX10_takeFirst 26 = .ok (.aload_n 0, 1) := by decide +kernel
theorem dX10_takeFirst_27 : decode cX10_takeFirst 27 = .ok (.getfield 9, 3) := by decide +kernel
theorem dX10_takeFirst_30 : decode cX10_takeFirst 30 = .ok (.iload_n 2, 1) := by decide +kernel
theorem dX10_takeFirst_31 : decode cX10_takeFirst 31 = .ok (.iconst 1, 1) := by decide +kernel
theorem dX10_takeFirst_32 : decode cX10_takeFirst 32 = .ok (.isub, 1) := by decide +kernel
theorem dX10_takeFirst_33 : decode cX10_takeFirst 33 = .ok (.aload_n 0, 1) := by decide +kernel
theorem dX10_takeFirst_34 : decode cX10_takeFirst 34 = .ok (.getfield 9, 3) := by decide +kernel
theorem dX10_takeFirst_37 : decode cX10_takeFirst 37 = .ok (.iload_n 2, 1) := by decide +kernel
theorem dX10_takeFirst_38 : decode cX10_takeFirst 38 = .ok (.iaload, 1) := by decide +kernel
theorem dX10_takeFirst_39 : decode cX10_takeFirst 39 = .ok (.iastore, 1) := by decide +kernel
theorem dX10_takeFirst_40 : decode cX10_takeFirst 40 = .ok (.iinc 2 1, 3) := by decide +kernel
theorem dX10_takeFirst_43 : decode cX10_takeFirst 43 = .ok (.goto (-34), 3) := by decide +kernel
theorem dX10_takeFirst_46 : decode cX10_takeFirst 46 = .ok (.aload_n 0, 1) := by decide +kernel
theorem dX10_takeFirst_47 : decode cX10_takeFirst 47 = .ok (.aload_n 0, 1) := by decide +kernel
theorem dX10_takeFirst_48 : decode cX10_takeFirst 48 = .ok (.getfield 15, 3) := by decide +kernel
theorem dX10_takeFirst_51 : decode cX10_takeFirst 51 = .ok (.iconst 1, 1) := by decide +kernel
theorem dX10_takeFirst_52 : decode cX10_takeFirst 52 = .ok (.isub, 1) := by decide +kernel
theorem dX10_takeFirst_53 : decode cX10_takeFirst 53 = .ok (.iconst 0, 1) := by decide +kernel
theorem dX10_takeFirst_54 : decode cX10_takeFirst 54 = .ok (.invokestatic 23, 3) := by decide +kernel
theorem dX10_takeFirst_57 : decode cX10_takeFirst 57 = .ok (.putfield 15, 3) := by decide +kernel
theorem dX10_takeFirst_60 : decode cX10_takeFirst 60 = .ok (.iload_n 1, 1) := by decide +kernel
theorem dX10_takeFirst_61 : decode cX10_takeFirst 61 = .ok (.ireturn, 1) := by decide +kernel
theorem dX11_init_0 : decode cX11_init 0 = .ok (.aload_n 0, 1) := by decide +kernel
theorem dX11_init_1 : decode cX11_init 1 = .ok (.invokespecial 1, 3) := by decide +kernel
theorem dX11_init_4 : decode cX11_init 4 = .ok (.aload_n 0, 1) := by decide +kernel
theorem dX11_init_5 : decode cX11_init 5 = .ok (.bipush 60, 2) := by decide +kernel
theorem dX11_init_7 : decode cX11_init 7 = .ok (.anewarray 9, 3) := by decide +kernel
theorem dX11_init_10 : decode cX11_init 10 = .ok (.putfield 11, 3) := by decide +kernel
theorem dX11_init_13 : decode cX11_init 13 = .ok (.aload_n 0, 1) := by decide +kernel
theorem dX11_init_14 : decode cX11_init 14 = .ok (.iconst 0, 1) := by decide +kernel
theorem dX11_init_15 : decode cX11_init 15 = .ok (.putfield 15, 3) := by decide +kernel
theorem dX11_init_18 : decode cX11_init 18 = .ok (.aload_n 0, 1) := by decide +kernel
theorem dX11_init_19 : decode cX11_init 19 = .ok (.new 19, 3) := by decide +kernel
theorem dX11_init_22 : decode cX11_init 22 = .ok (.dup, 1) := by decide +kernel
theorem dX11_init_23 : decode cX11_init 23 = .ok (.invokespecial 21, 3) := by decide +kernel
theorem dX11_init_26 : decode cX11_init 26 = .ok (.putfield 22, 3) := by decide +kernel
theorem dX11_init_29 : decode cX11_init 29 = .ok (.aload_n 0, 1) := by decide +kernel
theorem dX11_init_30 : decode cX11_init 30 = .ok (.iconst 0, 1) := by decide +kernel
theorem dX11_init_31 : decode cX11_init 31 = .ok (.putfield 26, 3) := by decide +kernel
theorem dX11_init_34 : decode cX11_init 34 = .ok (.aload_n 0, 1) := by decide +kernel
theorem dX11_init_35 : decode cX11_init 35 = .ok (.bipush 12, 2) := by decide +kernel
theorem dX11_init_37 : decode cX11_init 37 = .ok (.anewarray 29, 3) := by decide +kernel
theorem dX11_init_40 : decode cX11_init 40 = .ok (.putfield 31, 3) := by decide +kernel
theorem dX11_init_43 : decode cX11_init 43 = .ok (.aload_n 0, 1) := by decide +kernel
theorem dX11_init_44 : decode cX11_init 44 = .ok (.iconst 0, 1) := by decide +kernel
theorem dX11_init_45 : decode cX11_init 45 = .ok (.putfield 35, 3) := by decide +kernel
theorem dX11_init_48 : decode cX11_init 48 = .ok (.aload_n 0, 1) := by decide +kernel
theorem dX11_init_49 : decode cX11_init 49 = .ok (.bipush 6, 2) := by decide +kernel
theorem dX11_init_51 : decode cX11_init 51 = .ok (.anewarray 38, 3) := by decide +kernel
theorem dX11_init_54 : decode cX11_init 54 = .ok (.putfield 40, 3) := by decide +kernel
theorem dX11_init_57 : decode cX11_init 57 = .ok (.aload_n 0, 1) := by decide +kernel
theorem dX11_init_58 : decode cX11_init 58 = .ok (.iconst 0, 1) := by decide +kernel
theorem dX11_init_59 : decode cX11_init 59 = .ok (.putfield 44, 3) := by decide +kernel
theorem dX11_init_62 : decode cX11_init 62 = .ok (.aload_n 0, 1) := by decide +kernel
theorem dX11_init_63 : decode cX11_init 63 = .ok (.iconst 3, 1) := by decide +kernel
theorem dX11_init_64 : decode cX11_init 64 = .ok (.anewarray 47, 3) := by decide +kernel
theorem dX11_init_67 : decode cX11_init 67 = .ok (.putfield 49, 3) := by decide +kernel
theorem dX11_init_70 : decode cX11_init 70 = .ok (.aload_n 0, 1) := by decide +kernel
theorem dX11_init_71 : decode cX11_init 71 = .ok (.iconst 0, 1) := by decide +kernel
theorem dX11_init_72 : decode cX11_init 72 = .ok (.putfield 53, 3) := by decide +kernel
theorem dX11_init_75 : decode cX11_init 75 = .ok (.aload_n 0, 1) := by decide +kernel
theorem dX11_init_76 : decode cX11_init 76 = .ok (.iconst 0, 1) := by decide +kernel
theorem dX11_init_77 : decode cX11_init 77 = .ok (.putfield 56, 3) := by decide +kernel
theorem dX11_init_80 : decode cX11_init 80 = .ok (.aload_n 0, 1) := by decide +kernel
theorem dX11_init_81 : decode cX11_init 81 = .ok (.new 59, 3) := by decide +kernel
theorem dX11_init_84 : decode cX11_init 84 = .ok (.dup, 1) := by decide +kernel
theorem dX11_init_85 : decode cX11_init 85 = .ok (.invokespecial 61, 3) := by decide +kernel
theorem dX11_init_88 : decode cX11_init 88 = .ok (.putfield 62, 3) := by decide +kernel
theorem dX11_init_91 : decode cX11_init 91 = .ok (.aload_n 0, 1) := by decide +kernel
theorem dX11_init_92 : decode cX11_init 92 = .ok (.iconst 4, 1) := by decide +kernel
theorem dX11_init_93 : decode cX11_init 93 = .ok (.anewarray 66, 3) := by decide +kernel
theorem dX11_init_96 : decode cX11_init 96 = .ok (.putfield 68, 3) := by decide +kernel
theorem dX11_init_99 : decode cX11_init 99 = .ok (.aload_n 0, 1) := by decide +kernel
theorem dX11_init_100 : decode cX11_init 100 = .ok (.iconst 0, 1) := by decide +kernel
theorem dX11_init_101 : decode cX11_init 101 = .ok (.putfield 72, 3) := by decide +kernel
theorem dX11_init_104 : decode cX11_init 104 = .ok (.iconst 0, 1) := by decide +kernel
theorem dX11_init_105 : decode cX11_init 105 = .ok (.istore_n 1, 1) := by decide +kernel
theorem dX11_init_106 : decode cX11_init 106 = .ok (.iload_n 1, 1) := by decide +kernel
theorem dX11_init_107 : decode cX11_init 107 = .ok (.iconst 3, 1) := by decide +kernel
theorem dX11_init_108 : decode cX11_init 108 = .ok (.if_icmp .ge 22, 3) := by decide +kernel
theorem dX11_init_111 : decode cX11_init 111 = .ok (.aload_n 0, 1) := by decide +kernel
theorem dX11_init_112 : decode cX11_init 112 = .ok (.getfield 49, 3) := by decide +kernel
theorem dX11_init_115 : decode cX11_init 115 = .ok (.iload_n 1, 1) := by decide +kernel
theorem dX11_init_116 : decode cX11_init 116 = .ok (.new 47, 3) := by decide +kernel
theorem dX11_init_119 : decode cX11_init 119 = .ok (.dup, 1) := by decide +kernel
theorem dX11_init_120 : decode cX11_init 120 = .ok (.invokespecial 75, 3) := by decide +kernel
theorem dX11_init_123 : decode cX11_init 123 = .ok (.aastore, 1) := by decide +kernel
theorem dX11_init_124 : decode cX11_init 124 = .ok (.iinc 1 1, 3) := by decide +kernel
theorem dX11_init_127 : decode cX11_init 127 = .ok (.goto (-21), 3) := by decide +kernel
theorem dX11_init_130 : decode cX11_init 130 = .ok (.return_, 1) := by decide +kernel
theorem dX11_vector_0 : decode cX11_vector 0 = .ok (.aload_n 0, 1) := by decide +kernel
theorem dX11_vector_1 : decode cX11_vector 1 = .ok (.invokevirtual 76, 3) := by decide +kernel
theorem dX11_vector_4 : decode cX11_vector 4 = .ok (.aload_n 0, 1) := by decide +kernel
theorem dX11_vector_5 : decode cX11_vector 5 = .ok (.aload_n 0, 1) := by decide +kernel
theorem dX11_vector_6 : decode cX11_vector 6 = .ok (.getfield 22, 3) := by decide +kernel
theorem dX11_vector_9 : decode cX11_vector 9 = .ok (.iconst (-1), 1) := by decide +kernel
theorem dX11_vector_10 : decode cX11_vector 10 = .ok (.invokevirtual 79, 3) := by decide +kernel
theorem dX11_vector_13 : decode cX11_vector 13 = .ok (.iconst 0, 1) := by decide +kernel
theorem dX11_vector_14 : decode cX11_vector 14 = .ok (.iconst 0, 1) := by decide +kernel
theorem dX11_vector_15 : decode cX11_vector 15 = .ok (.newarray .int, 2) := by decide +kernel
theorem dX11_vector_17 : decode cX11_vector 17 = .ok (.invokevirtual 83, 3) := by decide +kernel
theorem dX11_vector_20 : decode cX11_vector 20 = .ok (.ireturn, 1) := by decide +kernel
theorem dX11_append_0 : decode cX11_append 0 = .ok (.aload_n 0, 1) := by decide +kernel
theorem dX11_append_1 : decode cX11_append 1 = .ok (.iload_n 1, 1) := by decide +kernel
theorem dX11_append_2 : decode cX11_append 2 = .ok (.invokevirtual 87, 3) := by decide +kernel
theorem dX11_append_5 : decode cX11_append 5 = .ok (.astore_n 3, 1) := by decide +kernel
theorem dX11_append_6 : decode cX11_append 6 = .ok (.iload_n 2, 1) := by decide +kernel
theorem dX11_append_7 : decode cX11_append 7 = .ok (.invokestatic 91, 3) := by decide +kernel
theorem dX11_append_10 : decode cX11_append 10 = .ok (.aload_n 3, 1) := by decide +kernel
theorem dX11_append_11 : decode cX11_append 11 = .ok (.iconst 0, 1) := by decide +kernel
theorem dX11_append_12 : decode cX11_append 12 = .ok (.invokestatic 95, 3) := by decide +kernel
theorem dX11_append_15 : decode cX11_append 15 = .ok (.aload_n 3, 1) := by decide +kernel
theorem dX11_append_16 : decode cX11_append 16 = .ok (.invokestatic 99, 3) := by decide +kernel
theorem dX11_append_19 : decode cX11_append 19 = .ok (.aload_n 0, 1) := by decide +kernel
theorem dX11_append_20 : decode cX11_append 20 = .ok (.invokevirtual 76, 3) := by decide +kernel
theorem dX11_append_23 : decode cX11_append 23 = .ok (.aload_n 3, 1) := by decide +kernel
theorem dX11_append_24 : decode cX11_append 24 = .ok (.getfield 103, 3) := by decide +kernel
theorem dX11_append_27 : decode cX11_append 27 = .ok (.istore 4, 2) := by decide +kernel
theorem dX11_append_29 : decode cX11_append 29 = .ok (.aload_n 3, 1) := by decide +kernel
theorem dX11_append_30 : decode cX11_append 30 = .ok (.getfield 106, 3) := by decide +kernel
theorem dX11_append_33 : decode cX11_append 33 = .ok (.iload 4, 2) := by decide +kernel
theorem dX11_append_35 : decode cX11_append 35 = .ok (.iconst 1, 1) := by decide +kernel
theorem dX11_append_36 : decode cX11_append 36 = .ok (.iadd, 1) := by decide +kernel
theorem dX11_append_37 : decode cX11_append 37 = .ok (.invokestatic 110, 3) := by decide +kernel
theorem dX11_append_40 : decode cX11_append 40 = .ok (.astore 5, 2) := by decide +kernel
theorem dX11_append_42 : decode cX11_append 42 = .ok (.aload 5, 2) := by decide +kernel
theorem dX11_append_44 : decode cX11_append 44 = .ok (.iload 4, 2) := by decide +kernel
theorem dX11_append_46 : decode cX11_append 46 = .ok (.iload_n 2, 1) := by decide +kernel
theorem dX11_append_47 : decode cX11_append 47 = .ok (.iastore, 1) := by decide +kernel
theorem dX11_append_48 : decode cX11_append 48 = .ok (.aload_n 0, 1) := by decide +kernel
theorem dX11_append_49 : decode cX11_append 49 = .ok (.aload_n 0, 1) := by decide +kernel
theorem dX11_append_50 : decode cX11_append 50 = .ok (.getfield 22, 3) := by decide +kernel
theorem dX11_append_53 : decode cX11_append 53 = .ok (.aload_n 3, 1) := by decide +kernel
theorem dX11_append_54 : decode cX11_append 54 = .ok (.getfield 116, 3) := by decide +kernel
theorem dX11_append_57 : decode cX11_append 57 = .ok (.iload 4, 2) := by decide +kernel
theorem dX11_append_59 : decode cX11_append 59 = .ok (.iload_n 2, 1) := by decide +kernel
theorem dX11_append_60 : decode cX11_append 60 = .ok (.iconst (-1), 1) := by decide +kernel
theorem dX11_append_61 : decode cX11_append 61 = .ok (.invokestatic 120, 3) := by decide +kernel
theorem dX11_append_64 : decode cX11_append 64 = .ok (.iload 4, 2) := by decide +kernel
theorem dX11_append_66 : decode cX11_append 66 = .ok (.iconst 1, 1) := by decide +kernel
theorem dX11_append_67 : decode cX11_append 67 = .ok (.iadd, 1) := by decide +kernel
theorem dX11_append_68 : decode cX11_append 68 = .ok (.aload 5, 2) := by decide +kernel
theorem dX11_append_70 : decode cX11_append 70 = .ok (.invokevirtual 83, 3) := by decide +kernel
theorem dX11_append_73 : decode cX11_append 73 = .ok (.ireturn, 1) := by decide +kernel
theorem dX11_set_0 : decode cX11_set 0 = .ok (.aload_n 0, 1) := by decide +kernel
theorem dX11_set_1 : decode cX11_set 1 = .ok (.iload_n 1, 1) := by decide +kernel
theorem dX11_set_2 : decode cX11_set 2 = .ok (.invokevirtual 87, 3) := by decide +kernel
theorem dX11_set_5 : decode cX11_set 5 = .ok (.astore 4, 2) := by decide +kernel
theorem dX11_set_7 : decode cX11_set 7 = .ok (.iload_n 3, 1) := by decide +kernel
theorem dX11_set_8 : decode cX11_set 8 = .ok (.invokestatic 91, 3) := by decide +kernel
theorem dX11_set_11 : decode cX11_set 11 = .ok (.aload 4, 2) := by decide +kernel
theorem dX11_set_13 : decode cX11_set 13 = .ok (.iconst 0, 1) := by decide +kernel
theorem dX11_set_14 : decode cX11_set 14 = .ok (.invokestatic 95, 3) := by decide +kernel
theorem dX11_set_17 : decode cX11_set 17 = .ok (.aload 4, 2) := by decide +kernel
theorem dX11_set_19 : decode cX11_set 19 = .ok (.iload_n 2, 1) := by decide +kernel
theorem dX11_set_20 : decode cX11_set 20 = .ok (.invokestatic 126, 3) := by decide +kernel
theorem dX11_set_23 : decode cX11_set 23 = .ok (.aload_n 0, 1) := by decide +kernel
theorem dX11_set_24 : decode cX11_set 24 = .ok (.invokevirtual 76, 3) := by decide +kernel
theorem dX11_set_27 : decode cX11_set 27 = .ok (.aload 4, 2) := by decide +kernel
theorem dX11_set_29 : decode cX11_set 29 = .ok (.getfield 103, 3) := by decide +kernel
theorem dX11_set_32 : decode cX11_set 32 = .ok (.istore 5, 2) := by decide +kernel
theorem dX11_set_34 : decode cX11_set 34 = .ok (.aload 4, 2) := by decide +kernel
theorem dX11_set_36 : decode cX11_set 36 = .ok (.getfield 116, 3) := by decide +kernel
theorem dX11_set_39 : decode cX11_set 39 = .ok (.iload 5, 2) := by decide +kernel
theorem dX11_set_41 : decode cX11_set 41 = .ok (.iload_n 2, 1) := by decide +kernel
theorem dX11_set_42 : decode cX11_set 42 = .ok (.invokestatic 129, 3) := by decide +kernel
theorem dX11_set_45 : decode cX11_set 45 = .ok (.iload_n 3, 1) := by decide +kernel
theorem dX11_set_46 : decode cX11_set 46 = .ok (.if_icmp .ne 20, 3) := by decide +kernel
theorem dX11_set_49 : decode cX11_set 49 = .ok (.aload_n 0, 1) := by decide +kernel
theorem dX11_set_50 : decode cX11_set 50 = .ok (.aload 4, 2) := by decide +kernel
theorem dX11_set_52 : decode cX11_set 52 = .ok (.getfield 116, 3) := by decide +kernel
theorem dX11_set_55 : decode cX11_set 55 = .ok (.iload 5, 2) := by decide +kernel
theorem dX11_set_57 : decode cX11_set 57 = .ok (.aload 4, 2) := by decide +kernel
theorem dX11_set_59 : decode cX11_set 59 = .ok (.getfield 106, 3) := by decide +kernel
theorem dX11_set_62 : decode cX11_set 62 = .ok (.invokevirtual 83, 3) := by decide +kernel
theorem dX11_set_65 : decode cX11_set 65 = .ok (.ireturn, 1) := by decide +kernel
theorem dX11_set_66 : decode cX11_set 66 = .ok (.aload 4, 2) := by decide +kernel
theorem dX11_set_68 : decode cX11_set 68 = .ok (.getfield 106, 3) := by decide +kernel
theorem dX11_set_71 : decode cX11_set 71 = .ok (.iload 5, 2) := by decide +kernel
theorem dX11_set_73 : decode cX11_set 73 = .ok (.invokestatic 110, 3) := by decide +kernel
theorem dX11_set_76 : decode cX11_set 76 = .ok (.astore 6, 2) := by decide +kernel
theorem dX11_set_78 : decode cX11_set 78 = .ok (.aload 6, 2) := by decide +kernel
theorem dX11_set_80 : decode cX11_set 80 = .ok (.iload_n 2, 1) := by decide +kernel
theorem dX11_set_81 : decode cX11_set 81 = .ok (.iload_n 3, 1) := by decide +kernel
theorem dX11_set_82 : decode cX11_set 82 = .ok (.iastore, 1) := by decide +kernel
theorem dX11_set_83 : decode cX11_set 83 = .ok (.aload_n 0, 1) := by decide +kernel
theorem dX11_set_84 : decode cX11_set 84 = .ok (.aload_n 0, 1) := by decide +kernel
theorem dX11_set_85 : decode cX11_set 85 = .ok (.getfield 22, 3) := by decide +kernel
theorem dX11_set_88 : decode cX11_set 88 = .ok (.aload 4, 2) := by decide +kernel
theorem dX11_set_90 : decode cX11_set 90 = .ok (.getfield 116, 3) := by decide +kernel
theorem dX11_set_93 : decode cX11_set 93 = .ok (.iload 5, 2) := by decide +kernel
theorem dX11_set_95 : decode cX11_set 95 = .ok (.iload_n 2, 1) := by decide +kernel
theorem dX11_set_96 : decode cX11_set 96 = .ok (.iload_n 3, 1) := by decide +kernel
theorem dX11_set_97 : decode cX11_set 97 = .ok (.iconst (-1), 1) := by decide +kernel
theorem dX11_set_98 : decode cX11_set 98 = .ok (.invokestatic 133, 3) := by decide +kernel
theorem dX11_set_101 : decode cX11_set 101 = .ok (.iload 5, 2) := by decide +kernel
theorem dX11_set_103 : decode cX11_set 103 = .ok (.aload 6, 2) := by decide +kernel
theorem dX11_set_105 : decode cX11_set 105 = .ok (.invokevirtual 83, 3) := by decide +kernel
theorem dX11_set_108 : decode cX11_set 108 = .ok (.ireturn, 1) := by decide +kernel
theorem dX11_cut_0 : decode cX11_cut 0 = .ok (.aload_n 0, 1) := by decide +kernel
theorem dX11_cut_1 : decode cX11_cut 1 = .ok (.iload_n 1, 1) := by decide +kernel
theorem dX11_cut_2 : decode cX11_cut 2 = .ok (.invokevirtual 87, 3) := by decide +kernel
theorem dX11_cut_5 : decode cX11_cut 5 = .ok (.astore_n 2, 1) := by decide +kernel
theorem dX11_cut_6 : decode cX11_cut 6 = .ok (.aload_n 2, 1) := by decide +kernel
theorem dX11_cut_7 : decode cX11_cut 7 = .ok (.iconst 0, 1) := by decide +kernel
theorem dX11_cut_8 : decode cX11_cut 8 = .ok (.invokestatic 95, 3) := by decide +kernel
theorem dX11_cut_11 : decode cX11_cut 11 = .ok (.aload_n 2, 1) := by decide +kernel
theorem dX11_cut_12 : decode cX11_cut 12 = .ok (.getfield 103, 3) := by decide +kernel
theorem dX11_cut_15 : decode cX11_cut 15 = .ok (.iconst 1, 1) := by decide +kernel
theorem dX11_cut_16 : decode cX11_cut 16 = .ok (.isub, 1) := by decide +kernel
theorem dX11_cut_17 : decode cX11_cut 17 = .ok (.istore_n 3, 1) := by decide +kernel
theorem dX11_cut_18 : decode cX11_cut 18 = .ok (.iload_n 3, 1) := by decide +kernel
theorem dX11_cut_19 : decode cX11_cut 19 = .ok (.ifCond .ge 13, 3) := by decide +kernel
theorem dX11_cut_22 : decode cX11_cut 22 = .ok (.new 137, 3) := by decide +kernel
theorem dX11_cut_25 : decode cX11_cut 25 = .ok (.dup, 1) := by decide +kernel
theorem dX11_cut_26 : decode cX11_cut 26 = .ok (.ldc 139, 2) := by decide +kernel
theorem dX11_cut_28 : decode cX11_cut 28 = .ok (.invokespecial 141, 3) := by decide +kernel
theorem dX11_cut_31 : decode cX11_cut 31 = .ok (.athrow, 1) := by decide +kernel
theorem dX11_cut_32 : decode cX11_cut 32 = .ok (.aload_n 0, 1) := by decide +kernel
theorem dX11_cut_33 : decode cX11_cut 33 = .ok (.invokevirtual 76, 3) := by decide +kernel
theorem dX11_cut_36 : decode cX11_cut 36 = .ok (.aload_n 0, 1) := by decide +kernel
theorem dX11_cut_37 : decode cX11_cut 37 = .ok (.aload_n 0, 1) := by decide +kernel
theorem dX11_cut_38 : decode cX11_cut 38 = .ok (.getfield 22, 3) := by decide +kernel
theorem dX11_cut_41 : decode cX11_cut 41 = .ok (.aload_n 2, 1) := by decide +kernel
theorem dX11_cut_42 : decode cX11_cut 42 = .ok (.getfield 116, 3) := by decide +kernel
theorem dX11_cut_45 : decode cX11_cut 45 = .ok (.aload_n 2, 1) := by decide +kernel
theorem dX11_cut_46 : decode cX11_cut 46 = .ok (.getfield 103, 3) := by decide +kernel
theorem dX11_cut_49 : decode cX11_cut 49 = .ok (.invokestatic 144, 3) := by decide +kernel
theorem dX11_cut_52 : decode cX11_cut 52 = .ok (.iload_n 3, 1) := by decide +kernel
theorem dX11_cut_53 : decode cX11_cut 53 = .ok (.aload_n 2, 1) := by decide +kernel
theorem dX11_cut_54 : decode cX11_cut 54 = .ok (.getfield 106, 3) := by decide +kernel
theorem dX11_cut_57 : decode cX11_cut 57 = .ok (.iload_n 3, 1) := by decide +kernel
theorem dX11_cut_58 : decode cX11_cut 58 = .ok (.invokestatic 110, 3) := by decide +kernel
theorem dX11_cut_61 : decode cX11_cut 61 = .ok (.invokevirtual 83, 3) := by decide +kernel
theorem dX11_cut_64 : decode cX11_cut 64 = .ok (.ireturn, 1) := by decide +kernel
theorem dX11_depth_0 : decode cX11_depth 0 = .ok (.aload_n 0, 1) := by decide +kernel
theorem dX11_depth_1 : decode cX11_depth 1 = .ok (.iload_n 1, 1) := by decide +kernel
theorem dX11_depth_2 : decode cX11_depth 2 = .ok (.invokevirtual 87, 3) := by decide +kernel
theorem dX11_depth_5 : decode cX11_depth 5 = .ok (.astore_n 2, 1) := by decide +kernel
theorem dX11_depth_6 : decode cX11_depth 6 = .ok (.aload_n 2, 1) := by decide +kernel
theorem dX11_depth_7 : decode cX11_depth 7 = .ok (.invokevirtual 148, 3) := by decide +kernel
theorem dX11_depth_10 : decode cX11_depth 10 = .ok (.ifCond .ne 13, 3) := by decide +kernel
theorem dX11_depth_13 : decode cX11_depth 13 = .ok (.new 152, 3) := by decide +kernel
theorem dX11_depth_16 : decode cX11_depth 16 = .ok (.dup, 1) := by decide +kernel
theorem dX11_depth_17 : decode cX11_depth 17 = .ok (.ldc 154, 2) := by decide +kernel
theorem dX11_depth_19 : decode cX11_depth 19 = .ok (.invokespecial 156, 3) := by decide +kernel
theorem dX11_depth_22 : decode cX11_depth 22 = .ok (.athrow, 1) := by decide +kernel
theorem dX11_depth_23 : decode cX11_depth 23 = .ok (.aload_n 2, 1) := by decide +kernel
theorem dX11_depth_24 : decode cX11_depth 24 = .ok (.getfield 103, 3) := by decide +kernel
theorem dX11_depth_27 : decode cX11_depth 27 = .ok (.invokestatic 157, 3) := by decide +kernel
theorem dX11_depth_30 : decode cX11_depth 30 = .ok (.ireturn, 1) := by decide +kernel
theorem dX11_open_0 : decode cX11_open 0 = .ok (.aload_n 0, 1) := by decide +kernel
theorem dX11_open_1 : decode cX11_open 1 = .ok (.iload_n 1, 1) := by decide +kernel
theorem dX11_open_2 : decode cX11_open 2 = .ok (.invokevirtual 87, 3) := by decide +kernel
theorem dX11_open_5 : decode cX11_open 5 = .ok (.astore_n 2, 1) := by decide +kernel
theorem dX11_open_6 : decode cX11_open 6 = .ok (.aload_n 2, 1) := by decide +kernel
theorem dX11_open_7 : decode cX11_open 7 = .ok (.iconst 0, 1) := by decide +kernel
theorem dX11_open_8 : decode cX11_open 8 = .ok (.invokestatic 95, 3) := by decide +kernel
theorem dX11_open_11 : decode cX11_open 11 = .ok (.aload_n 0, 1) := by decide +kernel
theorem dX11_open_12 : decode cX11_open 12 = .ok (.invokevirtual 76, 3) := by decide +kernel
theorem dX11_open_15 : decode cX11_open 15 = .ok (.aload_n 2, 1) := by decide +kernel
theorem dX11_open_16 : decode cX11_open 16 = .ok (.getfield 106, 3) := by decide +kernel
theorem dX11_open_19 : decode cX11_open 19 = .ok (.bipush 64, 2) := by decide +kernel
theorem dX11_open_21 : decode cX11_open 21 = .ok (.invokestatic 110, 3) := by decide +kernel
theorem dX11_open_24 : decode cX11_open 24 = .ok (.astore_n 3, 1) := by decide +kernel
theorem dX11_open_25 : decode cX11_open 25 = .ok (.aload_n 0, 1) := by decide +kernel
theorem dX11_open_26 : decode cX11_open 26 = .ok (.new 9, 3) := by decide +kernel
theorem dX11_open_29 : decode cX11_open 29 = .ok (.dup, 1) := by decide +kernel
theorem dX11_open_30 : decode cX11_open 30 = .ok (.iconst 1, 1) := by decide +kernel
theorem dX11_open_31 : decode cX11_open 31 = .ok (.aload_n 2, 1) := by decide +kernel
theorem dX11_open_32 : decode cX11_open 32 = .ok (.getfield 116, 3) := by decide +kernel
theorem dX11_open_35 : decode cX11_open 35 = .ok (.aload_n 2, 1) := by decide +kernel
theorem dX11_open_36 : decode cX11_open 36 = .ok (.getfield 103, 3) := by decide +kernel
theorem dX11_open_39 : decode cX11_open 39 = .ok (.aconst_null, 1) := by decide +kernel
theorem dX11_open_40 : decode cX11_open 40 = .ok (.aload_n 3, 1) := by decide +kernel
theorem dX11_open_41 : decode cX11_open 41 = .ok (.invokespecial 161, 3) := by decide +kernel
theorem dX11_open_44 : decode cX11_open 44 = .ok (.invokevirtual 164, 3) := by decide +kernel
theorem dX11_open_47 : decode cX11_open 47 = .ok (.ireturn, 1) := by decide +kernel
theorem dX11_appendTo_0 : decode cX11_appendTo 0 = .ok (.aload_n 0, 1) := by decide +kernel
theorem dX11_appendTo_1 : decode cX11_appendTo 1 = .ok (.iload_n 1, 1) := by decide +kernel
theorem dX11_appendTo_2 : decode cX11_appendTo 2 = .ok (.invokevirtual 87, 3) := by decide +kernel
theorem dX11_appendTo_5 : decode cX11_appendTo 5 = .ok (.astore_n 3, 1) := by decide +kernel
theorem dX11_appendTo_6 : decode cX11_appendTo 6 = .ok (.iload_n 2, 1) := by decide +kernel
theorem dX11_appendTo_7 : decode cX11_appendTo 7 = .ok (.invokestatic 91, 3) := by decide +kernel
theorem dX11_appendTo_10 : decode cX11_appendTo 10 = .ok (.aload_n 3, 1) := by decide +kernel
theorem dX11_appendTo_11 : decode cX11_appendTo 11 = .ok (.iconst 1, 1) := by decide +kernel
theorem dX11_appendTo_12 : decode cX11_appendTo 12 = .ok (.invokestatic 95, 3) := by decide +kernel
theorem dX11_appendTo_15 : decode cX11_appendTo 15 = .ok (.aload_n 3, 1) := by decide +kernel
theorem dX11_appendTo_16 : decode cX11_appendTo 16 = .ok (.invokestatic 99, 3) := by decide +kernel
theorem dX11_appendTo_19 : decode cX11_appendTo 19 = .ok (.aload_n 0, 1) := by decide +kernel
theorem dX11_appendTo_20 : decode cX11_appendTo 20 = .ok (.getfield 22, 3) := by decide +kernel
theorem dX11_appendTo_23 : decode cX11_appendTo 23 = .ok (.getfield 168, 3) := by decide +kernel
theorem dX11_appendTo_26 : decode cX11_appendTo 26 = .ok (.lstore 4, 2) := by decide +kernel
theorem dX11_appendTo_28 : decode cX11_appendTo 28 = .ok (.aload_n 3, 1) := by decide +kernel
theorem dX11_appendTo_29 : decode cX11_appendTo 29 = .ok (.getfield 103, 3) := by decide +kernel
theorem dX11_appendTo_32 : decode cX11_appendTo 32 = .ok (.istore 6, 2) := by decide +kernel
theorem dX11_appendTo_34 : decode cX11_appendTo 34 = .ok (.aload_n 3, 1) := by decide +kernel
theorem dX11_appendTo_35 : decode cX11_appendTo 35 = .ok (.aload_n 0, 1) := by decide +kernel
theorem dX11_appendTo_36 : decode cX11_appendTo 36 = .ok (.getfield 22, 3) := by decide +kernel
theorem dX11_appendTo_39 : decode cX11_appendTo 39 = .ok (.aload_n 3, 1) := by decide +kernel
theorem dX11_appendTo_40 : decode cX11_appendTo 40 = .ok (.getfield 116, 3) := by decide +kernel
theorem dX11_appendTo_43 : decode cX11_appendTo 43 = .ok (.iload 6, 2) := by decide +kernel
theorem dX11_appendTo_45 : decode cX11_appendTo 45 = .ok (.iload_n 2, 1) := by decide +kernel
theorem dX11_appendTo_46 : decode cX11_appendTo 46 = .ok (.iload_n 1, 1) := by decide +kernel
theorem dX11_appendTo_47 : decode cX11_appendTo 47 = .ok (.invokestatic 120, 3) := by decide +kernel
theorem dX11_appendTo_50 : decode cX11_appendTo 50 = .ok (.putfield 116, 3) := by decide +kernel
theorem dX11_appendTo_53 : decode cX11_appendTo 53 = .ok (.aload_n 3, 1) := by decide +kernel
theorem dX11_appendTo_54 : decode cX11_appendTo 54 = .ok (.iload 6, 2) := by decide +kernel
theorem dX11_appendTo_56 : decode cX11_appendTo 56 = .ok (.iload_n 2, 1) := by decide +kernel
theorem dX11_appendTo_57 : decode cX11_appendTo 57 = .ok (.invokevirtual 172, 3) := by decide +kernel
theorem dX11_appendTo_60 : decode cX11_appendTo 60 = .ok (.aload_n 3, 1) := by decide +kernel
theorem dX11_appendTo_61 : decode cX11_appendTo 61 = .ok (.iload 6, 2) := by decide +kernel
theorem dX11_appendTo_63 : decode cX11_appendTo 63 = .ok (.iconst 1, 1) := by decide +kernel
theorem dX11_appendTo_64 : decode cX11_appendTo 64 = .ok (.iadd, 1) := by decide +kernel
theorem dX11_appendTo_65 : decode cX11_appendTo 65 = .ok (.putfield 103, 3) := by decide +kernel
theorem dX11_appendTo_68 : decode cX11_appendTo 68 = .ok (.aload_n 0, 1) := by decide +kernel
theorem dX11_appendTo_69 : decode cX11_appendTo 69 = .ok (.getfield 22, 3) := by decide +kernel
theorem dX11_appendTo_72 : decode cX11_appendTo 72 = .ok (.getfield 168, 3) := by decide +kernel
theorem dX11_appendTo_75 : decode cX11_appendTo 75 = .ok (.lload 4, 2) := by decide +kernel
theorem dX11_appendTo_77 : decode cX11_appendTo 77 = .ok (.lsub, 1) := by decide +kernel
theorem dX11_appendTo_78 : decode cX11_appendTo 78 = .ok (.l2i, 1) := by decide +kernel
theorem dX11_appendTo_79 : decode cX11_appendTo 79 = .ok (.ireturn, 1) := by decide +kernel
theorem dX11_setIn_0 : decode cX11_setIn 0 = .ok (.aload_n 0, 1) := by decide +kernel
theorem dX11_setIn_1 : decode cX11_setIn 1 = .ok (.iload_n 1, 1) := by decide +kernel
theorem dX11_setIn_2 : decode cX11_setIn 2 = .ok (.invokevirtual 87, 3) := by decide +kernel
theorem dX11_setIn_5 : decode cX11_setIn 5 = .ok (.astore 4, 2) := by decide +kernel
theorem dX11_setIn_7 : decode cX11_setIn 7 = .ok (.iload_n 3, 1) := by decide +kernel
theorem dX11_setIn_8 : decode cX11_setIn 8 = .ok (.invokestatic 91, 3) := by decide +kernel
theorem dX11_setIn_11 : decode cX11_setIn 11 = .ok (.aload 4, 2) := by decide +kernel
theorem dX11_setIn_13 : decode cX11_setIn 13 = .ok (.iconst 1, 1) := by decide +kernel
theorem dX11_setIn_14 : decode cX11_setIn 14 = .ok (.invokestatic 95, 3) := by decide +kernel
theorem dX11_setIn_17 : decode cX11_setIn 17 = .ok (.aload 4, 2) := by decide +kernel
theorem dX11_setIn_19 : decode cX11_setIn 19 = .ok (.iload_n 2, 1) := by decide +kernel
theorem dX11_setIn_20 : decode cX11_setIn 20 = .ok (.invokestatic 126, 3) := by decide +kernel
theorem dX11_setIn_23 : decode cX11_setIn 23 = .ok (.aload 4, 2) := by decide +kernel
theorem dX11_setIn_25 : decode cX11_setIn 25 = .ok (.getfield 116, 3) := by decide +kernel
theorem dX11_setIn_28 : decode cX11_setIn 28 = .ok (.aload 4, 2) := by decide +kernel
theorem dX11_setIn_30 : decode cX11_setIn 30 = .ok (.getfield 103, 3) := by decide +kernel
theorem dX11_setIn_33 : decode cX11_setIn 33 = .ok (.iload_n 2, 1) := by decide +kernel
theorem dX11_setIn_34 : decode cX11_setIn 34 = .ok (.invokestatic 129, 3) := by decide +kernel
theorem dX11_setIn_37 : decode cX11_setIn 37 = .ok (.iload_n 3, 1) := by decide +kernel
theorem dX11_setIn_38 : decode cX11_setIn 38 = .ok (.if_icmp .ne 5, 3) := by decide +kernel
theorem dX11_setIn_41 : decode cX11_setIn 41 = .ok (.iconst 0, 1) := by decide +kernel
theorem dX11_setIn_42 : decode cX11_setIn 42 = .ok (.ireturn, 1) := by decide +kernel
theorem dX11_setIn_43 : decode cX11_setIn 43 = .ok (.aload_n 0, 1) := by decide +kernel
theorem dX11_setIn_44 : decode cX11_setIn 44 = .ok (.getfield 22, 3) := by decide +kernel
theorem dX11_setIn_47 : decode cX11_setIn 47 = .ok (.getfield 168, 3) := by decide +kernel
theorem dX11_setIn_50 : decode cX11_setIn 50 = .ok (.lstore 5, 2) := by decide +kernel
theorem dX11_setIn_52 : decode cX11_setIn 52 = .ok (.aload 4, 2) := by decide +kernel
theorem dX11_setIn_54 : decode cX11_setIn 54 = .ok (.aload_n 0, 1) := by decide +kernel
theorem dX11_setIn_55 : decode cX11_setIn 55 = .ok (.getfield 22, 3) := by decide +kernel
theorem dX11_setIn_58 : decode cX11_setIn 58 = .ok (.aload 4, 2) := by decide +kernel
theorem dX11_setIn_60 : decode cX11_setIn 60 = .ok (.getfield 116, 3) := by decide +kernel
theorem dX11_setIn_63 : decode cX11_setIn 63 = .ok (.aload 4, 2) := by decide +kernel
theorem dX11_setIn_65 : decode cX11_setIn 65 = .ok (.getfield 103, 3) := by decide +kernel
theorem dX11_setIn_68 : decode cX11_setIn 68 = .ok (.iload_n 2, 1) := by decide +kernel
theorem dX11_setIn_69 : decode cX11_setIn 69 = .ok (.iload_n 3, 1) := by decide +kernel
theorem dX11_setIn_70 : decode cX11_setIn 70 = .ok (.iload_n 1, 1) := by decide +kernel
theorem dX11_setIn_71 : decode cX11_setIn 71 = .ok (.invokestatic 133, 3) := by decide +kernel
theorem dX11_setIn_74 : decode cX11_setIn 74 = .ok (.putfield 116, 3) := by decide +kernel
theorem dX11_setIn_77 : decode cX11_setIn 77 = .ok (.aload 4, 2) := by decide +kernel
theorem dX11_setIn_79 : decode cX11_setIn 79 = .ok (.iload_n 2, 1) := by decide +kernel
theorem dX11_setIn_80 : decode cX11_setIn 80 = .ok (.iload_n 3, 1) := by decide +kernel
theorem dX11_setIn_81 : decode cX11_setIn 81 = .ok (.invokevirtual 172, 3) := by decide +kernel
theorem dX11_setIn_84 : decode cX11_setIn 84 = .ok (.aload_n 0, 1) := by decide +kernel
theorem dX11_setIn_85 : decode cX11_setIn 85 = .ok (.getfield 22, 3) := by decide +kernel
theorem dX11_setIn_88 : decode cX11_setIn 88 = .ok (.getfield 168, 3) := by decide +kernel
theorem dX11_setIn_91 : decode cX11_setIn 91 = .ok (.lload 5, 2) := by decide +kernel
theorem dX11_setIn_93 : decode cX11_setIn 93 = .ok (.lsub, 1) := by decide +kernel
theorem dX11_setIn_94 : decode cX11_setIn 94 = .ok (.l2i, 1) := by decide +kernel
theorem dX11_setIn_95 : decode cX11_setIn 95 = .ok (.ireturn, 1) := by decide +kernel
theorem dX11_makeLasting_0 : decode cX11_makeLasting 0 = .ok (.aload_n 0, 1) := by decide +kernel
theorem dX11_makeLasting_1 : decode cX11_makeLasting 1 = .ok (.iload_n 1, 1) := by decide +kernel
theorem dX11_makeLasting_2 : decode cX11_makeLasting 2 = .ok (.invokevirtual 87, 3) := by decide +kernel
theorem dX11_makeLasting_5 : decode cX11_makeLasting 5 = .ok (.astore_n 2, 1) := by decide +kernel
theorem dX11_makeLasting_6 : decode cX11_makeLasting 6 = .ok (.aload_n 2, 1) := by decide +kernel
theorem dX11_makeLasting_7 : decode cX11_makeLasting 7 = .ok (.iconst 1, 1) := by decide +kernel
theorem dX11_makeLasting_8 : decode cX11_makeLasting 8 = .ok (.invokestatic 95, 3) := by decide +kernel
theorem dX11_makeLasting_11 : decode cX11_makeLasting 11 = .ok (.aload_n 0, 1) := by decide +kernel
theorem dX11_makeLasting_12 : decode cX11_makeLasting 12 = .ok (.invokevirtual 76, 3) := by decide +kernel
theorem dX11_makeLasting_15 : decode cX11_makeLasting 15 = .ok (.aload_n 0, 1) := by decide +kernel
theorem dX11_makeLasting_16 : decode cX11_makeLasting 16 = .ok (.aload_n 2, 1) := by decide +kernel
theorem dX11_makeLasting_17 : decode cX11_makeLasting 17 = .ok (.getfield 116, 3) := by decide +kernel
theorem dX11_makeLasting_20 : decode cX11_makeLasting 20 = .ok (.aload_n 2, 1) := by decide +kernel
theorem dX11_makeLasting_21 : decode cX11_makeLasting 21 = .ok (.getfield 103, 3) := by decide +kernel
theorem dX11_makeLasting_24 : decode cX11_makeLasting 24 = .ok (.aload_n 2, 1) := by decide +kernel
theorem dX11_makeLasting_25 : decode cX11_makeLasting 25 = .ok (.getfield 106, 3) := by decide +kernel
theorem dX11_makeLasting_28 : decode cX11_makeLasting 28 = .ok (.aload_n 2, 1) := by decide +kernel
theorem dX11_makeLasting_29 : decode cX11_makeLasting 29 = .ok (.getfield 103, 3) := by decide +kernel
theorem dX11_makeLasting_32 : decode cX11_makeLasting 32 = .ok (.invokestatic 110, 3) := by decide +kernel
theorem dX11_makeLasting_35 : decode cX11_makeLasting 35 = .ok (.invokevirtual 83, 3) := by decide +kernel
theorem dX11_makeLasting_38 : decode cX11_makeLasting 38 = .ok (.istore_n 3, 1) := by decide +kernel
theorem dX11_makeLasting_39 : decode cX11_makeLasting 39 = .ok (.aload_n 2, 1) := by decide +kernel
theorem dX11_makeLasting_40 : decode cX11_makeLasting 40 = .ok (.invokevirtual 176, 3) := by decide +kernel
theorem dX11_makeLasting_43 : decode cX11_makeLasting 43 = .ok (.iload_n 3, 1) := by decide +kernel
theorem dX11_makeLasting_44 : decode cX11_makeLasting 44 = .ok (.ireturn, 1) := by decide +kernel
theorem dX11_isOpen_0 : decode cX11_isOpen 0 = .ok (.aload_n 0, 1) := by decide +kernel
theorem dX11_isOpen_1 : decode cX11_isOpen 1 = .ok (.iload_n 1, 1) := by decide +kernel
theorem dX11_isOpen_2 : decode cX11_isOpen 2 = .ok (.invokevirtual 87, 3) := by decide +kernel
theorem dX11_isOpen_5 : decode cX11_isOpen 5 = .ok (.getfield 179, 3) := by decide +kernel
theorem dX11_isOpen_8 : decode cX11_isOpen 8 = .ok (.iconst 1, 1) := by decide +kernel
theorem dX11_isOpen_9 : decode cX11_isOpen 9 = .ok (.if_icmp .ne 7, 3) := by decide +kernel
theorem dX11_isOpen_12 : decode cX11_isOpen 12 = .ok (.iconst 1, 1) := by decide +kernel
theorem dX11_isOpen_13 : decode cX11_isOpen 13 = .ok (.goto 4, 3) := by decide +kernel
theorem dX11_isOpen_16 : decode cX11_isOpen 16 = .ok (.iconst 0, 1) := by decide +kernel
theorem dX11_isOpen_17 : decode cX11_isOpen 17 = .ok (.ireturn, 1) := by decide +kernel
theorem dX11_map_0 : decode cX11_map 0 = .ok (.aload_n 0, 1) := by decide +kernel
theorem dX11_map_1 : decode cX11_map 1 = .ok (.invokevirtual 76, 3) := by decide +kernel
theorem dX11_map_4 : decode cX11_map 4 = .ok (.aload_n 0, 1) := by decide +kernel
theorem dX11_map_5 : decode cX11_map 5 = .ok (.aload_n 0, 1) := by decide +kernel
theorem dX11_map_6 : decode cX11_map 6 = .ok (.getfield 22, 3) := by decide +kernel
theorem dX11_map_9 : decode cX11_map 9 = .ok (.iconst 0, 1) := by decide +kernel
theorem dX11_map_10 : decode cX11_map 10 = .ok (.invokevirtual 182, 3) := by decide +kernel
theorem dX11_map_13 : decode cX11_map 13 = .ok (.iconst 0, 1) := by decide +kernel
theorem dX11_map_14 : decode cX11_map 14 = .ok (.iconst 0, 1) := by decide +kernel
theorem dX11_map_15 : decode cX11_map 15 = .ok (.newarray .int, 2) := by decide +kernel
theorem dX11_map_17 : decode cX11_map 17 = .ok (.iconst 0, 1) := by decide +kernel
theorem dX11_map_18 : decode cX11_map 18 = .ok (.newarray .int, 2) := by decide +kernel
theorem dX11_map_20 : decode cX11_map 20 = .ok (.invokevirtual 185, 3) := by decide +kernel
theorem dX11_map_23 : decode cX11_map 23 = .ok (.ireturn, 1) := by decide +kernel
theorem dX11_put_0 : decode cX11_put 0 = .ok (.aload_n 0, 1) := by decide +kernel
theorem dX11_put_1 : decode cX11_put 1 = .ok (.iload_n 1, 1) := by decide +kernel
theorem dX11_put_2 : decode cX11_put 2 = .ok (.invokevirtual 87, 3) := by decide +kernel
theorem dX11_put_5 : decode cX11_put 5 = .ok (.astore 4, 2) := by decide +kernel
theorem dX11_put_7 : decode cX11_put 7 = .ok (.iload_n 2, 1) := by decide +kernel
theorem dX11_put_8 : decode cX11_put 8 = .ok (.ifCond .lt 10, 3) := by decide +kernel
theorem dX11_put_11 : decode cX11_put 11 = .ok (.iload_n 2, 1) := by decide +kernel
theorem dX11_put_12 : decode cX11_put 12 = .ok (.sipush 999, 3) := by decide +kernel
theorem dX11_put_15 : decode cX11_put 15 = .ok (.if_icmp .le 13, 3) := by decide +kernel
theorem dX11_put_18 : decode cX11_put 18 = .ok (.new 189, 3) := by decide +kernel
theorem dX11_put_21 : decode cX11_put 21 = .ok (.dup, 1) := by decide +kernel
theorem dX11_put_22 : decode cX11_put 22 = .ok (.ldc 191, 2) := by decide +kernel
theorem dX11_put_24 : decode cX11_put 24 = .ok (.invokespecial 193, 3) := by decide +kernel
theorem dX11_put_27 : decode cX11_put 27 = .ok (.athrow, 1) := by decide +kernel
theorem dX11_put_28 : decode cX11_put 28 = .ok (.iload_n 3, 1) := by decide +kernel
theorem dX11_put_29 : decode cX11_put 29 = .ok (.invokestatic 91, 3) := by decide +kernel
theorem dX11_put_32 : decode cX11_put 32 = .ok (.aload 4, 2) := by decide +kernel
theorem dX11_put_34 : decode cX11_put 34 = .ok (.iconst 2, 1) := by decide +kernel
theorem dX11_put_35 : decode cX11_put 35 = .ok (.invokestatic 95, 3) := by decide +kernel
theorem dX11_put_38 : decode cX11_put 38 = .ok (.aload 4, 2) := by decide +kernel
theorem dX11_put_40 : decode cX11_put 40 = .ok (.getfield 116, 3) := by decide +kernel
theorem dX11_put_43 : decode cX11_put 43 = .ok (.iload_n 2, 1) := by decide +kernel
theorem dX11_put_44 : decode cX11_put 44 = .ok (.invokestatic 194, 3) := by decide +kernel
theorem dX11_put_47 : decode cX11_put 47 = .ok (.astore 5, 2) := by decide +kernel
theorem dX11_put_49 : decode cX11_put 49 = .ok (.aload 5, 2) := by decide +kernel
theorem dX11_put_51 : decode cX11_put 51 = .ok (.ifnonnull 23, 3) := by decide +kernel
theorem dX11_put_54 : decode cX11_put 54 = .ok (.aload 4, 2) := by decide +kernel
theorem dX11_put_56 : decode cX11_put 56 = .ok (.getfield 103, 3) := by decide +kernel
theorem dX11_put_59 : decode cX11_put 59 = .ok (.bipush 40, 2) := by decide +kernel
theorem dX11_put_61 : decode cX11_put 61 = .ok (.if_icmp .lt 13, 3) := by decide +kernel
theorem dX11_put_64 : decode cX11_put 64 = .ok (.new 152, 3) := by decide +kernel
theorem dX11_put_67 : decode cX11_put 67 = .ok (.dup, 1) := by decide +kernel
theorem dX11_put_68 : decode cX11_put 68 = .ok (.ldc 200, 2) := by decide +kernel
theorem dX11_put_70 : decode cX11_put 70 = .ok (.invokespecial 156, 3) := by decide +kernel
theorem dX11_put_73 : decode cX11_put 73 = .ok (.athrow, 1) := by decide +kernel
theorem dX11_put_74 : decode cX11_put 74 = .ok (.aload_n 0, 1) := by decide +kernel
theorem dX11_put_75 : decode cX11_put 75 = .ok (.invokevirtual 76, 3) := by decide +kernel
theorem dX11_put_78 : decode cX11_put 78 = .ok (.aload 5, 2) := by decide +kernel
theorem dX11_put_80 : decode cX11_put 80 = .ok (.ifnull 43, 3) := by decide +kernel
theorem dX11_put_83 : decode cX11_put 83 = .ok (.aload 5, 2) := by decide +kernel
theorem dX11_put_85 : decode cX11_put 85 = .ok (.aload 5, 2) := by decide +kernel
theorem dX11_put_87 : decode cX11_put 87 = .ok (.iload_n 2, 1) := by decide +kernel
theorem dX11_put_88 : decode cX11_put 88 = .ok (.invokevirtual 202, 3) := by decide +kernel
theorem dX11_put_91 : decode cX11_put 91 = .ok (.invokevirtual 207, 3) := by decide +kernel
theorem dX11_put_94 : decode cX11_put 94 = .ok (.iload_n 3, 1) := by decide +kernel
theorem dX11_put_95 : decode cX11_put 95 = .ok (.if_icmp .ne 28, 3) := by decide +kernel
theorem dX11_put_98 : decode cX11_put 98 = .ok (.aload_n 0, 1) := by decide +kernel
theorem dX11_put_99 : decode cX11_put 99 = .ok (.aload 4, 2) := by decide +kernel
theorem dX11_put_101 : decode cX11_put 101 = .ok (.getfield 116, 3) := by decide +kernel
theorem dX11_put_104 : decode cX11_put 104 = .ok (.aload 4, 2) := by decide +kernel
theorem dX11_put_106 : decode cX11_put 106 = .ok (.getfield 103, 3) := by decide +kernel
theorem dX11_put_109 : decode cX11_put 109 = .ok (.aload 4, 2) := by decide +kernel
theorem dX11_put_111 : decode cX11_put 111 = .ok (.getfield 210, 3) := by decide +kernel
theorem dX11_put_114 : decode cX11_put 114 = .ok (.aload 4, 2) := by decide +kernel
theorem dX11_put_116 : decode cX11_put 116 = .ok (.getfield 106, 3) := by decide +kernel
theorem dX11_put_119 : decode cX11_put 119 = .ok (.invokevirtual 185, 3) := by decide +kernel
theorem dX11_put_122 : decode cX11_put 122 = .ok (.ireturn, 1) := by decide +kernel
theorem dX11_put_123 : decode cX11_put 123 = .ok (.aload 5, 2) := by decide +kernel
theorem dX11_put_125 : decode cX11_put 125 = .ok (.ifnonnull 11, 3) := by decide +kernel
theorem dX11_put_128 : decode cX11_put 128 = .ok (.aload 4, 2) := by decide +kernel
theorem dX11_put_130 : decode cX11_put 130 = .ok (.getfield 103, 3) := by decide +kernel
theorem dX11_put_133 : decode cX11_put 133 = .ok (.goto 9, 3) := by decide +kernel
theorem dX11_put_136 : decode cX11_put 136 = .ok (.aload 4, 2) := by decide +kernel
theorem dX11_put_138 : decode cX11_put 138 = .ok (.iload_n 2, 1) := by decide +kernel
theorem dX11_put_139 : decode cX11_put 139 = .ok (.invokevirtual 213, 3) := by decide +kernel
theorem dX11_put_142 : decode cX11_put 142 = .ok (.istore 6, 2) := by decide +kernel
theorem dX11_put_144 : decode cX11_put 144 = .ok (.aload 5, 2) := by decide +kernel
theorem dX11_put_146 : decode cX11_put 146 = .ok (.ifnonnull 13, 3) := by decide +kernel
theorem dX11_put_149 : decode cX11_put 149 = .ok (.aload 4, 2) := by decide +kernel
theorem dX11_put_151 : decode cX11_put 151 = .ok (.getfield 103, 3) := by decide +kernel
theorem dX11_put_154 : decode cX11_put 154 = .ok (.iconst 1, 1) := by decide +kernel
theorem dX11_put_155 : decode cX11_put 155 = .ok (.iadd, 1) := by decide +kernel
theorem dX11_put_156 : decode cX11_put 156 = .ok (.goto 8, 3) := by decide +kernel
theorem dX11_put_159 : decode cX11_put 159 = .ok (.aload 4, 2) := by decide +kernel
theorem dX11_put_161 : decode cX11_put 161 = .ok (.getfield 103, 3) := by decide +kernel
theorem dX11_put_164 : decode cX11_put 164 = .ok (.istore 7, 2) := by decide +kernel
theorem dX11_put_166 : decode cX11_put 166 = .ok (.new 9, 3) := by decide +kernel
theorem dX11_put_169 : decode cX11_put 169 = .ok (.dup, 1) := by decide +kernel
theorem dX11_put_170 : decode cX11_put 170 = .ok (.iconst 2, 1) := by decide +kernel
theorem dX11_put_171 : decode cX11_put 171 = .ok (.aload_n 0, 1) := by decide +kernel
theorem dX11_put_172 : decode cX11_put 172 = .ok (.getfield 22, 3) := by decide +kernel
theorem dX11_put_175 : decode cX11_put 175 = .ok (.aload 4, 2) := by decide +kernel
theorem dX11_put_177 : decode cX11_put 177 = .ok (.getfield 116, 3) := by decide +kernel
theorem dX11_put_180 : decode cX11_put 180 = .ok (.iload_n 2, 1) := by decide +kernel
theorem dX11_put_181 : decode cX11_put 181 = .ok (.iload_n 3, 1) := by decide +kernel
theorem dX11_put_182 : decode cX11_put 182 = .ok (.invokestatic 216, 3) := by decide +kernel
theorem dX11_put_185 : decode cX11_put 185 = .ok (.iload 7, 2) := by decide +kernel
theorem dX11_put_187 : decode cX11_put 187 = .ok (.aload 4, 2) := by decide +kernel
theorem dX11_put_189 : decode cX11_put 189 = .ok (.getfield 210, 3) := by decide +kernel
theorem dX11_put_192 : decode cX11_put 192 = .ok (.iload 7, 2) := by decide +kernel
theorem dX11_put_194 : decode cX11_put 194 = .ok (.invokestatic 110, 3) := by decide +kernel
theorem dX11_put_197 : decode cX11_put 197 = .ok (.aload 4, 2) := by decide +kernel
theorem dX11_put_199 : decode cX11_put 199 = .ok (.getfield 106, 3) := by decide +kernel
theorem dX11_put_202 : decode cX11_put 202 = .ok (.iload 7, 2) := by decide +kernel
theorem dX11_put_204 : decode cX11_put 204 = .ok (.invokestatic 110, 3) := by decide +kernel
theorem dX11_put_207 : decode cX11_put 207 = .ok (.invokespecial 161, 3) := by decide +kernel
theorem dX11_put_210 : decode cX11_put 210 = .ok (.astore 8, 2) := by decide +kernel
theorem dX11_put_212 : decode cX11_put 212 = .ok (.aload 8, 2) := by decide +kernel
theorem dX11_put_214 : decode cX11_put 214 = .ok (.iload 6, 2) := by decide +kernel
theorem dX11_put_216 : decode cX11_put 216 = .ok (.iload_n 2, 1) := by decide +kernel
theorem dX11_put_217 : decode cX11_put 217 = .ok (.iload_n 3, 1) := by decide +kernel
theorem dX11_put_218 : decode cX11_put 218 = .ok (.invokevirtual 220, 3) := by decide +kernel
theorem dX11_put_221 : decode cX11_put 221 = .ok (.aload_n 0, 1) := by decide +kernel
theorem dX11_put_222 : decode cX11_put 222 = .ok (.aload 8, 2) := by decide +kernel
theorem dX11_put_224 : decode cX11_put 224 = .ok (.invokevirtual 164, 3) := by decide +kernel
theorem dX11_put_227 : decode cX11_put 227 = .ok (.ireturn, 1) := by decide +kernel
theorem dX11_without_0 : decode cX11_without 0 = .ok (.aload_n 0, 1) := by decide +kernel
theorem dX11_without_1 : decode cX11_without 1 = .ok (.iload_n 1, 1) := by decide +kernel
theorem dX11_without_2 : decode cX11_without 2 = .ok (.invokevirtual 87, 3) := by decide +kernel
theorem dX11_without_5 : decode cX11_without 5 = .ok (.astore_n 3, 1) := by decide +kernel
theorem dX11_without_6 : decode cX11_without 6 = .ok (.aload_n 3, 1) := by decide +kernel
theorem dX11_without_7 : decode cX11_without 7 = .ok (.iconst 2, 1) := by decide +kernel
theorem dX11_without_8 : decode cX11_without 8 = .ok (.invokestatic 95, 3) := by decide +kernel
theorem dX11_without_11 : decode cX11_without 11 = .ok (.aload_n 3, 1) := by decide +kernel
theorem dX11_without_12 : decode cX11_without 12 = .ok (.getfield 116, 3) := by decide +kernel
theorem dX11_without_15 : decode cX11_without 15 = .ok (.iload_n 2, 1) := by decide +kernel
theorem dX11_without_16 : decode cX11_without 16 = .ok (.invokestatic 194, 3) := by decide +kernel
theorem dX11_without_19 : decode cX11_without 19 = .ok (.ifnonnull 13, 3) := by decide +kernel
theorem dX11_without_22 : decode cX11_without 22 = .ok (.new 137, 3) := by decide +kernel
theorem dX11_without_25 : decode cX11_without 25 = .ok (.dup, 1) := by decide +kernel
theorem dX11_without_26 : decode cX11_without 26 = .ok (.ldc 224, 2) := by decide +kernel
theorem dX11_without_28 : decode cX11_without 28 = .ok (.invokespecial 141, 3) := by decide +kernel
theorem dX11_without_31 : decode cX11_without 31 = .ok (.athrow, 1) := by decide +kernel
theorem dX11_without_32 : decode cX11_without 32 = .ok (.aload_n 0, 1) := by decide +kernel
theorem dX11_without_33 : decode cX11_without 33 = .ok (.invokevirtual 76, 3) := by decide +kernel
theorem dX11_without_36 : decode cX11_without 36 = .ok (.aload_n 3, 1) := by decide +kernel
theorem dX11_without_37 : decode cX11_without 37 = .ok (.iload_n 2, 1) := by decide +kernel
theorem dX11_without_38 : decode cX11_without 38 = .ok (.invokevirtual 213, 3) := by decide +kernel
theorem dX11_without_41 : decode cX11_without 41 = .ok (.istore 4, 2) := by decide +kernel
theorem dX11_without_43 : decode cX11_without 43 = .ok (.aload_n 0, 1) := by decide +kernel
theorem dX11_without_44 : decode cX11_without 44 = .ok (.aload_n 0, 1) := by decide +kernel
theorem dX11_without_45 : decode cX11_without 45 = .ok (.getfield 22, 3) := by decide +kernel
theorem dX11_without_48 : decode cX11_without 48 = .ok (.aload_n 3, 1) := by decide +kernel
theorem dX11_without_49 : decode cX11_without 49 = .ok (.getfield 116, 3) := by decide +kernel
theorem dX11_without_52 : decode cX11_without 52 = .ok (.iload_n 2, 1) := by decide +kernel
theorem dX11_without_53 : decode cX11_without 53 = .ok (.invokestatic 226, 3) := by decide +kernel
theorem dX11_without_56 : decode cX11_without 56 = .ok (.aload_n 3, 1) := by decide +kernel
theorem dX11_without_57 : decode cX11_without 57 = .ok (.getfield 103, 3) := by decide +kernel
theorem dX11_without_60 : decode cX11_without 60 = .ok (.iconst 1, 1) := by decide +kernel
theorem dX11_without_61 : decode cX11_without 61 = .ok (.isub, 1) := by decide +kernel
theorem dX11_without_62 : decode cX11_without 62 = .ok (.aload_n 3, 1) := by decide +kernel
theorem dX11_without_63 : decode cX11_without 63 = .ok (.getfield 210, 3) := by decide +kernel
theorem dX11_without_66 : decode cX11_without 66 = .ok (.iload 4, 2) := by decide +kernel
theorem dX11_without_68 : decode cX11_without 68 = .ok (.invokestatic 229, 3) := by decide +kernel
theorem dX11_without_71 : decode cX11_without 71 = .ok (.aload_n 3, 1) := by decide +kernel
theorem dX11_without_72 : decode cX11_without 72 = .ok (.getfield 106, 3) := by decide +kernel
theorem dX11_without_75 : decode cX11_without 75 = .ok (.iload 4, 2) := by decide +kernel
theorem dX11_without_77 : decode cX11_without 77 = .ok (.invokestatic 229, 3) := by decide +kernel
theorem dX11_without_80 : decode cX11_without 80 = .ok (.invokevirtual 185, 3) := by decide +kernel
theorem dX11_without_83 : decode cX11_without 83 = .ok (.ireturn, 1) := by decide +kernel
theorem dX11_get_0 : decode cX11_get 0 = .ok (.aload_n 0, 1) := by decide +kernel
theorem dX11_get_1 : decode cX11_get 1 = .ok (.iload_n 1, 1) := by decide +kernel
theorem dX11_get_2 : decode cX11_get 2 = .ok (.invokevirtual 87, 3) := by decide +kernel
theorem dX11_get_5 : decode cX11_get 5 = .ok (.astore_n 3, 1) := by decide +kernel
theorem dX11_get_6 : decode cX11_get 6 = .ok (.aload_n 3, 1) := by decide +kernel
theorem dX11_get_7 : decode cX11_get 7 = .ok (.getfield 179, 3) := by decide +kernel
theorem dX11_get_10 : decode cX11_get 10 = .ok (.iconst 2, 1) := by decide +kernel
theorem dX11_get_11 : decode cX11_get 11 = .ok (.if_icmp .ne 40, 3) := by decide +kernel
theorem dX11_get_14 : decode cX11_get 14 = .ok (.aload_n 3, 1) := by decide +kernel
theorem dX11_get_15 : decode cX11_get 15 = .ok (.getfield 116, 3) := by decide +kernel
theorem dX11_get_18 : decode cX11_get 18 = .ok (.iload_n 2, 1) := by decide +kernel
theorem dX11_get_19 : decode cX11_get 19 = .ok (.invokestatic 194, 3) := by decide +kernel
theorem dX11_get_22 : decode cX11_get 22 = .ok (.astore 4, 2) := by decide +kernel
theorem dX11_get_24 : decode cX11_get 24 = .ok (.aload 4, 2) := by decide +kernel
theorem dX11_get_26 : decode cX11_get 26 = .ok (.ifnonnull 13, 3) := by decide +kernel
theorem dX11_get_29 : decode cX11_get 29 = .ok (.new 137, 3) := by decide +kernel
theorem dX11_get_32 : decode cX11_get 32 = .ok (.dup, 1) := by decide +kernel
theorem dX11_get_33 : decode cX11_get 33 = .ok (.ldc 224, 2) := by decide +kernel
theorem dX11_get_35 : decode cX11_get 35 = .ok (.invokespecial 141, 3) := by decide +kernel
theorem dX11_get_38 : decode cX11_get 38 = .ok (.athrow, 1) := by decide +kernel
theorem dX11_get_39 : decode cX11_get 39 = .ok (.aload 4, 2) := by decide +kernel
theorem dX11_get_41 : decode cX11_get 41 = .ok (.aload 4, 2) := by decide +kernel
theorem dX11_get_43 : decode cX11_get 43 = .ok (.iload_n 2, 1) := by decide +kernel
theorem dX11_get_44 : decode cX11_get 44 = .ok (.invokevirtual 202, 3) := by decide +kernel
theorem dX11_get_47 : decode cX11_get 47 = .ok (.invokevirtual 207, 3) := by decide +kernel
theorem dX11_get_50 : decode cX11_get 50 = .ok (.ireturn, 1) := by decide +kernel
theorem dX11_get_51 : decode cX11_get 51 = .ok (.aload_n 3, 1) := by decide +kernel
theorem dX11_get_52 : decode cX11_get 52 = .ok (.iload_n 2, 1) := by decide +kernel
theorem dX11_get_53 : decode cX11_get 53 = .ok (.invokestatic 126, 3) := by decide +kernel
theorem dX11_get_56 : decode cX11_get 56 = .ok (.aload_n 3, 1) := by decide +kernel
theorem dX11_get_57 : decode cX11_get 57 = .ok (.getfield 116, 3) := by decide +kernel
theorem dX11_get_60 : decode cX11_get 60 = .ok (.aload_n 3, 1) := by decide +kernel
theorem dX11_get_61 : decode cX11_get 61 = .ok (.getfield 103, 3) := by decide +kernel
theorem dX11_get_64 : decode cX11_get 64 = .ok (.iload_n 2, 1) := by decide +kernel
theorem dX11_get_65 : decode cX11_get 65 = .ok (.invokestatic 129, 3) := by decide +kernel
theorem dX11_get_68 : decode cX11_get 68 = .ok (.ireturn, 1) := by decide +kernel
theorem dX11_getPlain_0 : decode cX11_getPlain 0 = .ok (.aload_n 0, 1) := by decide +kernel
theorem dX11_getPlain_1 : decode cX11_getPlain 1 = .ok (.iload_n 1, 1) := by decide +kernel
theorem dX11_getPlain_2 : decode cX11_getPlain 2 = .ok (.invokevirtual 87, 3) := by decide +kernel
theorem dX11_getPlain_5 : decode cX11_getPlain 5 = .ok (.astore_n 3, 1) := by decide +kernel
theorem dX11_getPlain_6 : decode cX11_getPlain 6 = .ok (.aload_n 3, 1) := by decide +kernel
theorem dX11_getPlain_7 : decode cX11_getPlain 7 = .ok (.iload_n 2, 1) := by decide +kernel
theorem dX11_getPlain_8 : decode cX11_getPlain 8 = .ok (.invokevirtual 213, 3) := by decide +kernel
theorem dX11_getPlain_11 : decode cX11_getPlain 11 = .ok (.istore 4, 2) := by decide +kernel
theorem dX11_getPlain_13 : decode cX11_getPlain 13 = .ok (.iload 4, 2) := by decide +kernel
theorem dX11_getPlain_15 : decode cX11_getPlain 15 = .ok (.iconst (-1), 1) := by decide +kernel
theorem dX11_getPlain_16 : decode cX11_getPlain 16 = .ok (.if_icmp .ne 13, 3) := by decide +kernel
theorem dX11_getPlain_19 : decode cX11_getPlain 19 = .ok (.new 137, 3) := by decide +kernel
theorem dX11_getPlain_22 : decode cX11_getPlain 22 = .ok (.dup, 1) := by decide +kernel
theorem dX11_getPlain_23 : decode cX11_getPlain 23 = .ok (.ldc 232, 2) := by decide +kernel
theorem dX11_getPlain_25 : decode cX11_getPlain 25 = .ok (.invokespecial 141, 3) := by decide +kernel
theorem dX11_getPlain_28 : decode cX11_getPlain 28 = .ok (.athrow, 1) := by decide +kernel
theorem dX11_getPlain_29 : decode cX11_getPlain 29 = .ok (.aload_n 3, 1) := by decide +kernel
theorem dX11_getPlain_30 : decode cX11_getPlain 30 = .ok (.iload 4, 2) := by decide +kernel
theorem dX11_getPlain_32 : decode cX11_getPlain 32 = .ok (.invokevirtual 234, 3) := by decide +kernel
theorem dX11_getPlain_35 : decode cX11_getPlain 35 = .ok (.ireturn, 1) := by decide +kernel
theorem dX11_levelOf_0 : decode cX11_levelOf 0 = .ok (.aload_n 0, 1) := by decide +kernel
theorem dX11_levelOf_1 : decode cX11_levelOf 1 = .ok (.iload_n 1, 1) := by decide +kernel
theorem dX11_levelOf_2 : decode cX11_levelOf 2 = .ok (.invokevirtual 87, 3) := by decide +kernel
theorem dX11_levelOf_5 : decode cX11_levelOf 5 = .ok (.astore_n 3, 1) := by decide +kernel
theorem dX11_levelOf_6 : decode cX11_levelOf 6 = .ok (.aload_n 3, 1) := by decide +kernel
theorem dX11_levelOf_7 : decode cX11_levelOf 7 = .ok (.iconst 2, 1) := by decide +kernel
theorem dX11_levelOf_8 : decode cX11_levelOf 8 = .ok (.invokestatic 95, 3) := by decide +kernel
theorem dX11_levelOf_11 : decode cX11_levelOf 11 = .ok (.aload_n 3, 1) := by decide +kernel
theorem dX11_levelOf_12 : decode cX11_levelOf 12 = .ok (.getfield 116, 3) := by decide +kernel
theorem dX11_levelOf_15 : decode cX11_levelOf 15 = .ok (.iload_n 2, 1) := by decide +kernel
theorem dX11_levelOf_16 : decode cX11_levelOf 16 = .ok (.invokestatic 194, 3) := by decide +kernel
theorem dX11_levelOf_19 : decode cX11_levelOf 19 = .ok (.astore 4, 2) := by decide +kernel
theorem dX11_levelOf_21 : decode cX11_levelOf 21 = .ok (.aload 4, 2) := by decide +kernel
theorem dX11_levelOf_23 : decode cX11_levelOf 23 = .ok (.ifnonnull 13, 3) := by decide +kernel
theorem dX11_levelOf_26 : decode cX11_levelOf 26 = .ok (.new 137, 3) := by decide +kernel
theorem dX11_levelOf_29 : decode cX11_levelOf 29 = .ok (.dup, 1) := by decide +kernel
theorem dX11_levelOf_30 : decode cX11_levelOf 30 = .ok (.ldc 224, 2) := by decide +kernel
theorem dX11_levelOf_32 : decode cX11_levelOf 32 = .ok (.invokespecial 141, 3) := by decide +kernel
theorem dX11_levelOf_35 : decode cX11_levelOf 35 = .ok (.athrow, 1) := by decide +kernel
theorem dX11_levelOf_36 : decode cX11_levelOf 36 = .ok (.aload 4, 2) := by decide +kernel
theorem dX11_levelOf_38 : decode cX11_levelOf 38 = .ok (.getfield 237, 3) := by decide +kernel
theorem dX11_levelOf_41 : decode cX11_levelOf 41 = .ok (.ireturn, 1) := by decide +kernel
theorem dX11_size_0 : decode cX11_size 0 = .ok (.aload_n 0, 1) := by decide +kernel
theorem dX11_size_1 : decode cX11_size 1 = .ok (.iload_n 1, 1) := by decide +kernel
theorem dX11_size_2 : decode cX11_size 2 = .ok (.invokevirtual 87, 3) := by decide +kernel
theorem dX11_size_5 : decode cX11_size 5 = .ok (.getfield 103, 3) := by decide +kernel
theorem dX11_size_8 : decode cX11_size 8 = .ok (.ireturn, 1) := by decide +kernel
theorem dX11_nodes_0 : decode cX11_nodes 0 = .ok (.aload_n 0, 1) := by decide +kernel
theorem dX11_nodes_1 : decode cX11_nodes 1 = .ok (.iload_n 1, 1) := by decide +kernel
theorem dX11_nodes_2 : decode cX11_nodes 2 = .ok (.invokevirtual 87, 3) := by decide +kernel
theorem dX11_nodes_5 : decode cX11_nodes 5 = .ok (.getfield 116, 3) := by decide +kernel
theorem dX11_nodes_8 : decode cX11_nodes 8 = .ok (.iconst 1, 1) := by decide +kernel
theorem dX11_nodes_9 : decode cX11_nodes 9 = .ok (.invokestatic 240, 3) := by decide +kernel
theorem dX11_nodes_12 : decode cX11_nodes 12 = .ok (.ireturn, 1) := by decide +kernel
theorem dX11_shared_0 : decode cX11_shared 0 = .ok (.aload_n 0, 1) := by decide +kernel
theorem dX11_shared_1 : decode cX11_shared 1 = .ok (.iload_n 1, 1) := by decide +kernel
theorem dX11_shared_2 : decode cX11_shared 2 = .ok (.invokevirtual 87, 3) := by decide +kernel
theorem dX11_shared_5 : decode cX11_shared 5 = .ok (.astore_n 3, 1) := by decide +kernel
theorem dX11_shared_6 : decode cX11_shared 6 = .ok (.aload_n 0, 1) := by decide +kernel
theorem dX11_shared_7 : decode cX11_shared 7 = .ok (.iload_n 2, 1) := by decide +kernel
theorem dX11_shared_8 : decode cX11_shared 8 = .ok (.invokevirtual 87, 3) := by decide +kernel
theorem dX11_shared_11 : decode cX11_shared 11 = .ok (.astore 4, 2) := by decide +kernel
theorem dX11_shared_13 : decode cX11_shared 13 = .ok (.aload_n 0, 1) := by decide +kernel
theorem dX11_shared_14 : decode cX11_shared 14 = .ok (.dup, 1) := by decide +kernel
theorem dX11_shared_15 : decode cX11_shared 15 = .ok (.getfield 26, 3) := by decide +kernel
theorem dX11_shared_18 : decode cX11_shared 18 = .ok (.iconst 1, 1) := by decide +kernel
theorem dX11_shared_19 : decode cX11_shared 19 = .ok (.iadd, 1) := by decide +kernel
theorem dX11_shared_20 : decode cX11_shared 20 = .ok (.putfield 26, 3) := by decide +kernel
theorem dX11_shared_23 : decode cX11_shared 23 = .ok (.aload_n 3, 1) := by decide +kernel
theorem dX11_shared_24 : decode cX11_shared 24 = .ok (.getfield 116, 3) := by decide +kernel
theorem dX11_shared_27 : decode cX11_shared 27 = .ok (.aload_n 0, 1) := by decide +kernel
theorem dX11_shared_28 : decode cX11_shared 28 = .ok (.getfield 26, 3) := by decide +kernel
theorem dX11_shared_31 : decode cX11_shared 31 = .ok (.iconst 1, 1) := by decide +kernel
theorem dX11_shared_32 : decode cX11_shared 32 = .ok (.invokestatic 244, 3) := by decide +kernel
theorem dX11_shared_35 : decode cX11_shared 35 = .ok (.pop, 1) := by decide +kernel
theorem dX11_shared_36 : decode cX11_shared 36 = .ok (.aload 4, 2) := by decide +kernel
theorem dX11_shared_38 : decode cX11_shared 38 = .ok (.getfield 116, 3) := by decide +kernel
theorem dX11_shared_41 : decode cX11_shared 41 = .ok (.iconst 1, 1) := by decide +kernel
theorem dX11_shared_42 : decode cX11_shared 42 = .ok (.invokestatic 240, 3) := by decide +kernel
theorem dX11_shared_45 : decode cX11_shared 45 = .ok (.aload 4, 2) := by decide +kernel
theorem dX11_shared_47 : decode cX11_shared 47 = .ok (.getfield 116, 3) := by decide +kernel
theorem dX11_shared_50 : decode cX11_shared 50 = .ok (.aload_n 0, 1) := by decide +kernel
theorem dX11_shared_51 : decode cX11_shared 51 = .ok (.getfield 26, 3) := by decide +kernel
theorem dX11_shared_54 : decode cX11_shared 54 = .ok (.iconst 1, 1) := by decide +kernel
theorem dX11_shared_55 : decode cX11_shared 55 = .ok (.invokestatic 244, 3) := by decide +kernel
theorem dX11_shared_58 : decode cX11_shared 58 = .ok (.isub, 1) := by decide +kernel
theorem dX11_shared_59 : decode cX11_shared 59 = .ok (.ireturn, 1) := by decide +kernel
theorem dX11_areSame_0 : decode cX11_areSame 0 = .ok (.aload_n 0, 1) := by decide +kernel
theorem dX11_areSame_1 : decode cX11_areSame 1 = .ok (.iload_n 1, 1) := by decide +kernel
theorem dX11_areSame_2 : decode cX11_areSame 2 = .ok (.invokevirtual 87, 3) := by decide +kernel
theorem dX11_areSame_5 : decode cX11_areSame 5 = .ok (.astore_n 3, 1) := by decide +kernel
theorem dX11_areSame_6 : decode cX11_areSame 6 = .ok (.aload_n 0, 1) := by decide +kernel
theorem dX11_areSame_7 : decode cX11_areSame 7 = .ok (.iload_n 2, 1) := by decide +kernel
theorem dX11_areSame_8 : decode cX11_areSame 8 = .ok (.invokevirtual 87, 3) := by decide +kernel
theorem dX11_areSame_11 : decode cX11_areSame 11 = .ok (.astore 4, 2) := by decide +kernel
theorem dX11_areSame_13 : decode cX11_areSame 13 = .ok (.aload_n 3, 1) := by decide +kernel
theorem dX11_areSame_14 : decode cX11_areSame 14 = .ok (.getfield 179, 3) := by decide +kernel
theorem dX11_areSame_17 : decode cX11_areSame 17 = .ok (.iconst 3, 1) := by decide +kernel
theorem dX11_areSame_18 : decode cX11_areSame 18 = .ok (.if_icmp .eq 12, 3) := by decide +kernel
theorem dX11_areSame_21 : decode cX11_areSame 21 = .ok (.aload 4, 2) := by decide +kernel
theorem dX11_areSame_23 : decode cX11_areSame 23 = .ok (.getfield 179, 3) := by decide +kernel
theorem dX11_areSame_26 : decode cX11_areSame 26 = .ok (.iconst 3, 1) := by decide +kernel
theorem dX11_areSame_27 : decode cX11_areSame 27 = .ok (.if_icmp .ne 13, 3) := by decide +kernel
theorem dX11_areSame_30 : decode cX11_areSame 30 = .ok (.new 137, 3) := by decide +kernel
theorem dX11_areSame_33 : decode cX11_areSame 33 = .ok (.dup, 1) := by decide +kernel
theorem dX11_areSame_34 : decode cX11_areSame 34 = .ok (.ldc 247, 2) := by decide +kernel
theorem dX11_areSame_36 : decode cX11_areSame 36 = .ok (.invokespecial 141, 3) := by decide +kernel
theorem dX11_areSame_39 : decode cX11_areSame 39 = .ok (.athrow, 1) := by decide +kernel
theorem dX11_areSame_40 : decode cX11_areSame 40 = .ok (.aload_n 3, 1) := by decide +kernel
theorem dX11_areSame_41 : decode cX11_areSame 41 = .ok (.invokevirtual 148, 3) := by decide +kernel
theorem dX11_areSame_44 : decode cX11_areSame 44 = .ok (.aload 4, 2) := by decide +kernel
theorem dX11_areSame_46 : decode cX11_areSame 46 = .ok (.invokevirtual 148, 3) := by decide +kernel
theorem dX11_areSame_49 : decode cX11_areSame 49 = .ok (.if_icmp .ne 15, 3) := by decide +kernel
theorem dX11_areSame_52 : decode cX11_areSame 52 = .ok (.aload_n 3, 1) := by decide +kernel
theorem dX11_areSame_53 : decode cX11_areSame 53 = .ok (.getfield 103, 3) := by decide +kernel
theorem dX11_areSame_56 : decode cX11_areSame 56 = .ok (.aload 4, 2) := by decide +kernel
theorem dX11_areSame_58 : decode cX11_areSame 58 = .ok (.getfield 103, 3) := by decide +kernel
theorem dX11_areSame_61 : decode cX11_areSame 61 = .ok (.if_icmp .eq 5, 3) := by decide +kernel
theorem dX11_areSame_64 : decode cX11_areSame 64 = .ok (.iconst 0, 1) := by decide +kernel
theorem dX11_areSame_65 : decode cX11_areSame 65 = .ok (.ireturn, 1) := by decide +kernel
theorem dX11_areSame_66 : decode cX11_areSame 66 = .ok (.aload_n 3, 1) := by decide +kernel
theorem dX11_areSame_67 : decode cX11_areSame 67 = .ok (.invokevirtual 148, 3) := by decide +kernel
theorem dX11_areSame_70 : decode cX11_areSame 70 = .ok (.ifCond .eq 12, 3) := by decide +kernel
theorem dX11_areSame_73 : decode cX11_areSame 73 = .ok (.aload_n 3, 1) := by decide +kernel
theorem dX11_areSame_74 : decode cX11_areSame 74 = .ok (.aload 4, 2) := by decide +kernel
theorem dX11_areSame_76 : decode cX11_areSame 76 = .ok (.invokestatic 249, 3) := by decide +kernel
theorem dX11_areSame_79 : decode cX11_areSame 79 = .ok (.goto 9, 3) := by decide +kernel
theorem dX11_areSame_82 : decode cX11_areSame 82 = .ok (.aload_n 3, 1) := by decide +kernel
theorem dX11_areSame_83 : decode cX11_areSame 83 = .ok (.aload 4, 2) := by decide +kernel
theorem dX11_areSame_85 : decode cX11_areSame 85 = .ok (.invokestatic 253, 3) := by decide +kernel
theorem dX11_areSame_88 : decode cX11_areSame 88 = .ok (.ireturn, 1) := by decide +kernel
theorem dX11_made_0 : decode cX11_made 0 = .ok (.aload_n 0, 1) := by decide +kernel
theorem dX11_made_1 : decode cX11_made 1 = .ok (.getfield 22, 3) := by decide +kernel
theorem dX11_made_4 : decode cX11_made 4 = .ok (.getfield 168, 3) := by decide +kernel
theorem dX11_made_7 : decode cX11_made 7 = .ok (.lreturn, 1) := by decide +kernel
theorem dX11_range_0 : decode cX11_range 0 = .ok (.iload_n 1, 1) := by decide +kernel
theorem dX11_range_1 : decode cX11_range 1 = .ok (.bipush (-99), 2) := by decide +kernel
theorem dX11_range_3 : decode cX11_range 3 = .ok (.bipush 99, 2) := by decide +kernel
theorem dX11_range_5 : decode cX11_range 5 = .ok (.invokestatic 256, 3) := by decide +kernel
theorem dX11_range_8 : decode cX11_range 8 = .ok (.ifCond .eq 24, 3) := by decide +kernel
theorem dX11_range_11 : decode cX11_range 11 = .ok (.iload_n 2, 1) := by decide +kernel
theorem dX11_range_12 : decode cX11_range 12 = .ok (.bipush (-9), 2) := by decide +kernel
theorem dX11_range_14 : decode cX11_range 14 = .ok (.bipush 9, 2) := by decide +kernel
theorem dX11_range_16 : decode cX11_range 16 = .ok (.invokestatic 256, 3) := by decide +kernel
theorem dX11_range_19 : decode cX11_range 19 = .ok (.ifCond .eq 13, 3) := by decide +kernel
theorem dX11_range_22 : decode cX11_range 22 = .ok (.iload_n 3, 1) := by decide +kernel
theorem dX11_range_23 : decode cX11_range 23 = .ok (.iconst 0, 1) := by decide +kernel
theorem dX11_range_24 : decode cX11_range 24 = .ok (.bipush 24, 2) := by decide +kernel
theorem dX11_range_26 : decode cX11_range 26 = .ok (.invokestatic 256, 3) := by decide +kernel
theorem dX11_range_29 : decode cX11_range 29 = .ok (.ifCond .ne 14, 3) := by decide +kernel
theorem dX11_range_32 : decode cX11_range 32 = .ok (.new 189, 3) := by decide +kernel
theorem dX11_range_35 : decode cX11_range 35 = .ok (.dup, 1) := by decide +kernel
theorem dX11_range_36 : decode cX11_range 36 = .ok (.ldc_w 260, 3) := by decide +kernel
theorem dX11_range_39 : decode cX11_range 39 = .ok (.invokespecial 193, 3) := by decide +kernel
theorem dX11_range_42 : decode cX11_range 42 = .ok (.athrow, 1) := by decide +kernel
theorem dX11_range_43 : decode cX11_range 43 = .ok (.aload_n 0, 1) := by decide +kernel
theorem dX11_range_44 : decode cX11_range 44 = .ok (.invokevirtual 262, 3) := by decide +kernel
theorem dX11_range_47 : decode cX11_range 47 = .ok (.new 29, 3) := by decide +kernel
theorem dX11_range_50 : decode cX11_range 50 = .ok (.dup, 1) := by decide +kernel
theorem dX11_range_51 : decode cX11_range 51 = .ok (.aconst_null, 1) := by decide +kernel
theorem dX11_range_52 : decode cX11_range 52 = .ok (.bipush 114, 2) := by decide +kernel
theorem dX11_range_54 : decode cX11_range 54 = .ok (.iconst 0, 1) := by decide +kernel
theorem dX11_range_55 : decode cX11_range 55 = .ok (.invokespecial 265, 3) := by decide +kernel
theorem dX11_range_58 : decode cX11_range 58 = .ok (.astore 4, 2) := by decide +kernel
theorem dX11_range_60 : decode cX11_range 60 = .ok (.aload 4, 2) := by decide +kernel
theorem dX11_range_62 : decode cX11_range 62 = .ok (.iload_n 1, 1) := by decide +kernel
theorem dX11_range_63 : decode cX11_range 63 = .ok (.iload_n 2, 1) := by decide +kernel
theorem dX11_range_64 : decode cX11_range 64 = .ok (.iload_n 3, 1) := by decide +kernel
theorem dX11_range_65 : decode cX11_range 65 = .ok (.invokevirtual 268, 3) := by decide +kernel
theorem dX11_range_68 : decode cX11_range 68 = .ok (.aload_n 0, 1) := by decide +kernel
theorem dX11_range_69 : decode cX11_range 69 = .ok (.aload 4, 2) := by decide +kernel
theorem dX11_range_71 : decode cX11_range 71 = .ok (.invokevirtual 271, 3) := by decide +kernel
theorem dX11_range_74 : decode cX11_range 74 = .ok (.ireturn, 1) := by decide +kernel
theorem dX11_over_0 : decode cX11_over 0 = .ok (.aload_n 0, 1) := by decide +kernel
theorem dX11_over_1 : decode cX11_over 1 = .ok (.iload_n 1, 1) := by decide +kernel
theorem dX11_over_2 : decode cX11_over 2 = .ok (.invokevirtual 275, 3) := by decide +kernel
theorem dX11_over_5 : decode cX11_over 5 = .ok (.astore 4, 2) := by decide +kernel
theorem dX11_over_7 : decode cX11_over 7 = .ok (.iload_n 2, 1) := by decide +kernel
theorem dX11_over_8 : decode cX11_over 8 = .ok (.bipush 97, 2) := by decide +kernel
theorem dX11_over_10 : decode cX11_over 10 = .ok (.if_icmp .eq 32, 3) := by decide +kernel
theorem dX11_over_13 : decode cX11_over 13 = .ok (.iload_n 2, 1) := by decide +kernel
theorem dX11_over_14 : decode cX11_over 14 = .ok (.bipush 100, 2) := by decide +kernel
theorem dX11_over_16 : decode cX11_over 16 = .ok (.if_icmp .eq 26, 3) := by decide +kernel
theorem dX11_over_19 : decode cX11_over 19 = .ok (.iload_n 2, 1) := by decide +kernel
theorem dX11_over_20 : decode cX11_over 20 = .ok (.bipush 107, 2) := by decide +kernel
theorem dX11_over_22 : decode cX11_over 22 = .ok (.if_icmp .eq 20, 3) := by decide +kernel
theorem dX11_over_25 : decode cX11_over 25 = .ok (.iload_n 2, 1) := by decide +kernel
theorem dX11_over_26 : decode cX11_over 26 = .ok (.bipush 116, 2) := by decide +kernel
theorem dX11_over_28 : decode cX11_over 28 = .ok (.if_icmp .eq 14, 3) := by decide +kernel
theorem dX11_over_31 : decode cX11_over 31 = .ok (.new 189, 3) := by decide +kernel
theorem dX11_over_34 : decode cX11_over 34 = .ok (.dup, 1) := by decide +kernel
theorem dX11_over_35 : decode cX11_over 35 = .ok (.ldc_w 279, 3) := by decide +kernel
theorem dX11_over_38 : decode cX11_over 38 = .ok (.invokespecial 193, 3) := by decide +kernel
theorem dX11_over_41 : decode cX11_over 41 = .ok (.athrow, 1) := by decide +kernel
theorem dX11_over_42 : decode cX11_over 42 = .ok (.iload_n 2, 1) := by decide +kernel
theorem dX11_over_43 : decode cX11_over 43 = .ok (.bipush 107, 2) := by decide +kernel
theorem dX11_over_45 : decode cX11_over 45 = .ok (.if_icmp .ne 7, 3) := by decide +kernel
theorem dX11_over_48 : decode cX11_over 48 = .ok (.iconst 1, 1) := by decide +kernel
theorem dX11_over_49 : decode cX11_over 49 = .ok (.goto 15, 3) := by decide +kernel
theorem dX11_over_52 : decode cX11_over 52 = .ok (.iload_n 2, 1) := by decide +kernel
theorem dX11_over_53 : decode cX11_over 53 = .ok (.bipush 116, 2) := by decide +kernel
theorem dX11_over_55 : decode cX11_over 55 = .ok (.if_icmp .ne 7, 3) := by decide +kernel
theorem dX11_over_58 : decode cX11_over 58 = .ok (.iconst 0, 1) := by decide +kernel
theorem dX11_over_59 : decode cX11_over 59 = .ok (.goto 5, 3) := by decide +kernel
theorem dX11_over_62 : decode cX11_over 62 = .ok (.bipush (-99), 2) := by decide +kernel
theorem dX11_over_64 : decode cX11_over 64 = .ok (.istore 5, 2) := by decide +kernel
theorem dX11_over_66 : decode cX11_over 66 = .ok (.iload_n 3, 1) := by decide +kernel
theorem dX11_over_67 : decode cX11_over 67 = .ok (.iload 5, 2) := by decide +kernel
theorem dX11_over_69 : decode cX11_over 69 = .ok (.bipush 99, 2) := by decide +kernel
theorem dX11_over_71 : decode cX11_over 71 = .ok (.invokestatic 256, 3) := by decide +kernel
theorem dX11_over_74 : decode cX11_over 74 = .ok (.ifCond .ne 14, 3) := by decide +kernel
theorem dX11_over_77 : decode cX11_over 77 = .ok (.new 189, 3) := by decide +kernel
theorem dX11_over_80 : decode cX11_over 80 = .ok (.dup, 1) := by decide +kernel
theorem dX11_over_81 : decode cX11_over 81 = .ok (.ldc_w 281, 3) := by decide +kernel
theorem dX11_over_84 : decode cX11_over 84 = .ok (.invokespecial 193, 3) := by decide +kernel
theorem dX11_over_87 : decode cX11_over 87 = .ok (.athrow, 1) := by decide +kernel
theorem dX11_over_88 : decode cX11_over 88 = .ok (.aload_n 0, 1) := by decide +kernel
theorem dX11_over_89 : decode cX11_over 89 = .ok (.invokevirtual 262, 3) := by decide +kernel
theorem dX11_over_92 : decode cX11_over 92 = .ok (.new 29, 3) := by decide +kernel
theorem dX11_over_95 : decode cX11_over 95 = .ok (.dup, 1) := by decide +kernel
theorem dX11_over_96 : decode cX11_over 96 = .ok (.aload 4, 2) := by decide +kernel
theorem dX11_over_98 : decode cX11_over 98 = .ok (.iload_n 2, 1) := by decide +kernel
theorem dX11_over_99 : decode cX11_over 99 = .ok (.iload_n 3, 1) := by decide +kernel
theorem dX11_over_100 : decode cX11_over 100 = .ok (.invokespecial 265, 3) := by decide +kernel
theorem dX11_over_103 : decode cX11_over 103 = .ok (.astore 6, 2) := by decide +kernel
theorem dX11_over_105 : decode cX11_over 105 = .ok (.iload_n 2, 1) := by decide +kernel
theorem dX11_over_106 : decode cX11_over 106 = .ok (.bipush 116, 2) := by decide +kernel
theorem dX11_over_108 : decode cX11_over 108 = .ok (.if_icmp .ne 11, 3) := by decide +kernel
theorem dX11_over_111 : decode cX11_over 111 = .ok (.aload 6, 2) := by decide +kernel
theorem dX11_over_113 : decode cX11_over 113 = .ok (.invokevirtual 283, 3) := by decide +kernel
theorem dX11_over_116 : decode cX11_over 116 = .ok (.goto 8, 3) := by decide +kernel
theorem dX11_over_119 : decode cX11_over 119 = .ok (.aload 6, 2) := by decide +kernel
theorem dX11_over_121 : decode cX11_over 121 = .ok (.invokevirtual 286, 3) := by decide +kernel
theorem dX11_over_124 : decode cX11_over 124 = .ok (.aload_n 0, 1) := by decide +kernel
theorem dX11_over_125 : decode cX11_over 125 = .ok (.aload 6, 2) := by decide +kernel
theorem dX11_over_127 : decode cX11_over 127 = .ok (.invokevirtual 271, 3) := by decide +kernel
theorem dX11_over_130 : decode cX11_over 130 = .ok (.ireturn, 1) := by decide +kernel
theorem dX11_at_0 : decode cX11_at 0 = .ok (.aload_n 0, 1) := by decide +kernel
theorem dX11_at_1 : decode cX11_at 1 = .ok (.iload_n 1, 1) := by decide +kernel
theorem dX11_at_2 : decode cX11_at 2 = .ok (.invokevirtual 275, 3) := by decide +kernel
theorem dX11_at_5 : decode cX11_at 5 = .ok (.astore_n 3, 1) := by decide +kernel
theorem dX11_at_6 : decode cX11_at 6 = .ok (.iload_n 2, 1) := by decide +kernel
theorem dX11_at_7 : decode cX11_at 7 = .ok (.ifCond .lt 11, 3) := by decide +kernel
theorem dX11_at_10 : decode cX11_at 10 = .ok (.iload_n 2, 1) := by decide +kernel
theorem dX11_at_11 : decode cX11_at 11 = .ok (.aload_n 3, 1) := by decide +kernel
theorem dX11_at_12 : decode cX11_at 12 = .ok (.getfield 289, 3) := by decide +kernel
theorem dX11_at_15 : decode cX11_at 15 = .ok (.if_icmp .lt 18, 3) := by decide +kernel
theorem dX11_at_18 : decode cX11_at 18 = .ok (.aload_n 3, 1) := by decide +kernel
theorem dX11_at_19 : decode cX11_at 19 = .ok (.invokestatic 291, 3) := by decide +kernel
theorem dX11_at_22 : decode cX11_at 22 = .ok (.new 137, 3) := by decide +kernel
theorem dX11_at_25 : decode cX11_at 25 = .ok (.dup, 1) := by decide +kernel
theorem dX11_at_26 : decode cX11_at 26 = .ok (.ldc_w 295, 3) := by decide +kernel
theorem dX11_at_29 : decode cX11_at 29 = .ok (.invokespecial 141, 3) := by decide +kernel
theorem dX11_at_32 : decode cX11_at 32 = .ok (.athrow, 1) := by decide +kernel
theorem dX11_at_33 : decode cX11_at 33 = .ok (.aload_n 3, 1) := by decide +kernel
theorem dX11_at_34 : decode cX11_at 34 = .ok (.aload_n 3, 1) := by decide +kernel
theorem dX11_at_35 : decode cX11_at 35 = .ok (.iload_n 2, 1) := by decide +kernel
theorem dX11_at_36 : decode cX11_at 36 = .ok (.invokevirtual 297, 3) := by decide +kernel
theorem dX11_at_39 : decode cX11_at 39 = .ok (.iconst 0, 1) := by decide +kernel
theorem dX11_at_40 : decode cX11_at 40 = .ok (.invokestatic 300, 3) := by decide +kernel
theorem dX11_at_43 : decode cX11_at 43 = .ok (.aload_n 3, 1) := by decide +kernel
theorem dX11_at_44 : decode cX11_at 44 = .ok (.iload_n 2, 1) := by decide +kernel
theorem dX11_at_45 : decode cX11_at 45 = .ok (.invokevirtual 304, 3) := by decide +kernel
theorem dX11_at_48 : decode cX11_at 48 = .ok (.ireturn, 1) := by decide +kernel
theorem dX11_all_0 : decode cX11_all 0 = .ok (.aload_n 0, 1) := by decide +kernel
theorem dX11_all_1 : decode cX11_all 1 = .ok (.iload_n 1, 1) := by decide +kernel
theorem dX11_all_2 : decode cX11_all 2 = .ok (.invokevirtual 275, 3) := by decide +kernel
theorem dX11_all_5 : decode cX11_all 5 = .ok (.astore_n 2, 1) := by decide +kernel
theorem dX11_all_6 : decode cX11_all 6 = .ok (.aload_n 2, 1) := by decide +kernel
theorem dX11_all_7 : decode cX11_all 7 = .ok (.invokestatic 291, 3) := by decide +kernel
theorem dX11_all_10 : decode cX11_all 10 = .ok (.aload_n 2, 1) := by decide +kernel
theorem dX11_all_11 : decode cX11_all 11 = .ok (.aload_n 2, 1) := by decide +kernel
theorem dX11_all_12 : decode cX11_all 12 = .ok (.getfield 305, 3) := by decide +kernel
theorem dX11_all_15 : decode cX11_all 15 = .ok (.iconst 1, 1) := by decide +kernel
theorem dX11_all_16 : decode cX11_all 16 = .ok (.invokestatic 300, 3) := by decide +kernel
theorem dX11_all_19 : decode cX11_all 19 = .ok (.aload_n 2, 1) := by decide +kernel
theorem dX11_all_20 : decode cX11_all 20 = .ok (.getfield 289, 3) := by decide +kernel
theorem dX11_all_23 : decode cX11_all 23 = .ok (.ireturn, 1) := by decide +kernel
theorem dX11_realised_0 : decode cX11_realised 0 = .ok (.aload_n 0, 1) := by decide +kernel
theorem dX11_realised_1 : decode cX11_realised 1 = .ok (.iload_n 1, 1) := by decide +kernel
theorem dX11_realised_2 : decode cX11_realised 2 = .ok (.invokevirtual 275, 3) := by decide +kernel
theorem dX11_realised_5 : decode cX11_realised 5 = .ok (.astore_n 2, 1) := by decide +kernel
theorem dX11_realised_6 : decode cX11_realised 6 = .ok (.aload_n 2, 1) := by decide +kernel
theorem dX11_realised_7 : decode cX11_realised 7 = .ok (.aload_n 2, 1) := by decide +kernel
theorem dX11_realised_8 : decode cX11_realised 8 = .ok (.getfield 308, 3) := by decide +kernel
theorem dX11_realised_11 : decode cX11_realised 11 = .ok (.invokevirtual 311, 3) := by decide +kernel
theorem dX11_realised_14 : decode cX11_realised 14 = .ok (.ireturn, 1) := by decide +kernel
theorem dX11_chunks_0 : decode cX11_chunks 0 = .ok (.aload_n 0, 1) := by decide +kernel
theorem dX11_chunks_1 : decode cX11_chunks 1 = .ok (.iload_n 1, 1) := by decide +kernel
theorem dX11_chunks_2 : decode cX11_chunks 2 = .ok (.invokevirtual 275, 3) := by decide +kernel
theorem dX11_chunks_5 : decode cX11_chunks 5 = .ok (.getfield 308, 3) := by decide +kernel
theorem dX11_chunks_8 : decode cX11_chunks 8 = .ok (.ireturn, 1) := by decide +kernel
theorem dX11_collect_0 : decode cX11_collect 0 = .ok (.aload_n 0, 1) := by decide +kernel
theorem dX11_collect_1 : decode cX11_collect 1 = .ok (.iload_n 1, 1) := by decide +kernel
theorem dX11_collect_2 : decode cX11_collect 2 = .ok (.invokevirtual 275, 3) := by decide +kernel
theorem dX11_collect_5 : decode cX11_collect 5 = .ok (.astore_n 2, 1) := by decide +kernel
theorem dX11_collect_6 : decode cX11_collect 6 = .ok (.aload_n 2, 1) := by decide +kernel
theorem dX11_collect_7 : decode cX11_collect 7 = .ok (.invokestatic 291, 3) := by decide +kernel
theorem dX11_collect_10 : decode cX11_collect 10 = .ok (.iconst 0, 1) := by decide +kernel
theorem dX11_collect_11 : decode cX11_collect 11 = .ok (.istore_n 3, 1) := by decide +kernel
theorem dX11_collect_12 : decode cX11_collect 12 = .ok (.iload_n 3, 1) := by decide +kernel
theorem dX11_collect_13 : decode cX11_collect 13 = .ok (.aload_n 2, 1) := by decide +kernel
theorem dX11_collect_14 : decode cX11_collect 14 = .ok (.getfield 289, 3) := by decide +kernel
theorem dX11_collect_17 : decode cX11_collect 17 = .ok (.if_icmp .ge 17, 3) := by decide +kernel
theorem dX11_collect_20 : decode cX11_collect 20 = .ok (.aload_n 2, 1) := by decide +kernel
theorem dX11_collect_21 : decode cX11_collect 21 = .ok (.iload_n 3, 1) := by decide +kernel
theorem dX11_collect_22 : decode cX11_collect 22 = .ok (.invokevirtual 304, 3) := by decide +kernel
theorem dX11_collect_25 : decode cX11_collect 25 = .ok (.invokestatic 91, 3) := by decide +kernel
theorem dX11_collect_28 : decode cX11_collect 28 = .ok (.iinc 3 1, 3) := by decide +kernel
theorem dX11_collect_31 : decode cX11_collect 31 = .ok (.goto (-19), 3) := by decide +kernel
theorem dX11_collect_34 : decode cX11_collect 34 = .ok (.aload_n 0, 1) := by decide +kernel
theorem dX11_collect_35 : decode cX11_collect 35 = .ok (.invokevirtual 76, 3) := by decide +kernel
theorem dX11_collect_38 : decode cX11_collect 38 = .ok (.aload_n 2, 1) := by decide +kernel
theorem dX11_collect_39 : decode cX11_collect 39 = .ok (.aload_n 2, 1) := by decide +kernel
theorem dX11_collect_40 : decode cX11_collect 40 = .ok (.getfield 305, 3) := by decide +kernel
theorem dX11_collect_43 : decode cX11_collect 43 = .ok (.iconst 1, 1) := by decide +kernel
theorem dX11_collect_44 : decode cX11_collect 44 = .ok (.invokestatic 300, 3) := by decide +kernel
theorem dX11_collect_47 : decode cX11_collect 47 = .ok (.aload_n 0, 1) := by decide +kernel
theorem dX11_collect_48 : decode cX11_collect 48 = .ok (.getfield 15, 3) := by decide +kernel
theorem dX11_collect_51 : decode cX11_collect 51 = .ok (.istore_n 3, 1) := by decide +kernel
theorem dX11_collect_52 : decode cX11_collect 52 = .ok (.aload_n 0, 1) := by decide +kernel
theorem dX11_collect_53 : decode cX11_collect 53 = .ok (.getfield 22, 3) := by decide +kernel
theorem dX11_collect_56 : decode cX11_collect 56 = .ok (.iload_n 3, 1) := by decide +kernel
theorem dX11_collect_57 : decode cX11_collect 57 = .ok (.invokevirtual 79, 3) := by decide +kernel
theorem dX11_collect_60 : decode cX11_collect 60 = .ok (.astore 4, 2) := by decide +kernel
theorem dX11_collect_62 : decode cX11_collect 62 = .ok (.iconst 0, 1) := by decide +kernel
theorem dX11_collect_63 : decode cX11_collect 63 = .ok (.istore 5, 2) := by decide +kernel
theorem dX11_collect_65 : decode cX11_collect 65 = .ok (.iload 5, 2) := by decide +kernel
theorem dX11_collect_67 : decode cX11_collect 67 = .ok (.aload_n 2, 1) := by decide +kernel
theorem dX11_collect_68 : decode cX11_collect 68 = .ok (.getfield 289, 3) := by decide +kernel
theorem dX11_collect_71 : decode cX11_collect 71 = .ok (.if_icmp .ge 29, 3) := by decide +kernel
theorem dX11_collect_74 : decode cX11_collect 74 = .ok (.aload_n 0, 1) := by decide +kernel
theorem dX11_collect_75 : decode cX11_collect 75 = .ok (.getfield 22, 3) := by decide +kernel
theorem dX11_collect_78 : decode cX11_collect 78 = .ok (.aload 4, 2) := by decide +kernel
theorem dX11_collect_80 : decode cX11_collect 80 = .ok (.iload 5, 2) := by decide +kernel
theorem dX11_collect_82 : decode cX11_collect 82 = .ok (.aload_n 2, 1) := by decide +kernel
theorem dX11_collect_83 : decode cX11_collect 83 = .ok (.iload 5, 2) := by decide +kernel
theorem dX11_collect_85 : decode cX11_collect 85 = .ok (.invokevirtual 304, 3) := by decide +kernel
theorem dX11_collect_88 : decode cX11_collect 88 = .ok (.iload_n 3, 1) := by decide +kernel
theorem dX11_collect_89 : decode cX11_collect 89 = .ok (.invokestatic 120, 3) := by decide +kernel
theorem dX11_collect_92 : decode cX11_collect 92 = .ok (.astore 4, 2) := by decide +kernel
theorem dX11_collect_94 : decode cX11_collect 94 = .ok (.iinc 5 1, 3) := by decide +kernel
theorem dX11_collect_97 : decode cX11_collect 97 = .ok (.goto (-32), 3) := by decide +kernel
theorem dX11_collect_100 : decode cX11_collect 100 = .ok (.aload_n 0, 1) := by decide +kernel
theorem dX11_collect_101 : decode cX11_collect 101 = .ok (.aload 4, 2) := by decide +kernel
theorem dX11_collect_103 : decode cX11_collect 103 = .ok (.aload_n 2, 1) := by decide +kernel
theorem dX11_collect_104 : decode cX11_collect 104 = .ok (.getfield 289, 3) := by decide +kernel
theorem dX11_collect_107 : decode cX11_collect 107 = .ok (.aload_n 2, 1) := by decide +kernel
theorem dX11_collect_108 : decode cX11_collect 108 = .ok (.getfield 314, 3) := by decide +kernel
theorem dX11_collect_111 : decode cX11_collect 111 = .ok (.aload_n 2, 1) := by decide +kernel
theorem dX11_collect_112 : decode cX11_collect 112 = .ok (.getfield 289, 3) := by decide +kernel
theorem dX11_collect_115 : decode cX11_collect 115 = .ok (.invokestatic 110, 3) := by decide +kernel
theorem dX11_collect_118 : decode cX11_collect 118 = .ok (.invokevirtual 83, 3) := by decide +kernel
theorem dX11_collect_121 : decode cX11_collect 121 = .ok (.ireturn, 1) := by decide +kernel
theorem dX11_addReference_0 : decode cX11_addReference 0 = .ok (.iload_n 1, 1) := by decide +kernel
theorem dX11_addReference_1 : decode cX11_addReference 1 = .ok (.iload_n 2, 1) := by decide +kernel
theorem dX11_addReference_2 : decode cX11_addReference 2 = .ok (.iload_n 3, 1) := by decide +kernel
theorem dX11_addReference_3 : decode cX11_addReference 3 = .ok (.invokestatic 317, 3) := by decide +kernel
theorem dX11_addReference_6 : decode cX11_addReference 6 = .ok (.aload_n 0, 1) := by decide +kernel
theorem dX11_addReference_7 : decode cX11_addReference 7 = .ok (.getfield 44, 3) := by decide +kernel
theorem dX11_addReference_10 : decode cX11_addReference 10 = .ok (.bipush 6, 2) := by decide +kernel
theorem dX11_addReference_12 : decode cX11_addReference 12 = .ok (.if_icmp .lt 14, 3) := by decide +kernel
theorem dX11_addReference_15 : decode cX11_addReference 15 = .ok (.new 320, 3) := by decide +kernel
theorem dX11_addReference_18 : decode cX11_addReference 18 = .ok (.dup, 1) := by decide +kernel
theorem dX11_addReference_19 : decode cX11_addReference 19 = .ok (.ldc_w 322, 3) := by decide +kernel
theorem dX11_addReference_22 : decode cX11_addReference 22 = .ok (.invokespecial 324, 3) := by decide +kernel
theorem dX11_addReference_25 : decode cX11_addReference 25 = .ok (.athrow, 1) := by decide +kernel
theorem dX11_addReference_26 : decode cX11_addReference 26 = .ok (.aload_n 0, 1) := by decide +kernel
theorem dX11_addReference_27 : decode cX11_addReference 27 = .ok (.getfield 40, 3) := by decide +kernel
theorem dX11_addReference_30 : decode cX11_addReference 30 = .ok (.aload_n 0, 1) := by decide +kernel
theorem dX11_addReference_31 : decode cX11_addReference 31 = .ok (.getfield 44, 3) := by decide +kernel
theorem dX11_addReference_34 : decode cX11_addReference 34 = .ok (.new 38, 3) := by decide +kernel
theorem dX11_addReference_37 : decode cX11_addReference 37 = .ok (.dup, 1) := by decide +kernel
theorem dX11_addReference_38 : decode cX11_addReference 38 = .ok (.iload_n 1, 1) := by decide +kernel
theorem dX11_addReference_39 : decode cX11_addReference 39 = .ok (.iload_n 2, 1) := by decide +kernel
theorem dX11_addReference_40 : decode cX11_addReference 40 = .ok (.iload_n 3, 1) := by decide +kernel
theorem dX11_addReference_41 : decode cX11_addReference 41 = .ok (.invokespecial 325, 3) := by decide +kernel
theorem dX11_addReference_44 : decode cX11_addReference 44 = .ok (.aastore, 1) := by decide +kernel
theorem dX11_addReference_45 : decode cX11_addReference 45 = .ok (.aload_n 0, 1) := by decide +kernel
theorem dX11_addReference_46 : decode cX11_addReference 46 = .ok (.dup, 1) := by decide +kernel
theorem dX11_addReference_47 : decode cX11_addReference 47 = .ok (.getfield 44, 3) := by decide +kernel
theorem dX11_addReference_50 : decode cX11_addReference 50 = .ok (.iconst 1, 1) := by decide +kernel
theorem dX11_addReference_51 : decode cX11_addReference 51 = .ok (.iadd, 1) := by decide +kernel
theorem dX11_addReference_52 : decode cX11_addReference 52 = .ok (.putfield 44, 3) := by decide +kernel
theorem dX11_addReference_55 : decode cX11_addReference 55 = .ok (.aload_n 0, 1) := by decide +kernel
theorem dX11_addReference_56 : decode cX11_addReference 56 = .ok (.getfield 44, 3) := by decide +kernel
theorem dX11_addReference_59 : decode cX11_addReference 59 = .ok (.iconst 1, 1) := by decide +kernel
theorem dX11_addReference_60 : decode cX11_addReference 60 = .ok (.isub, 1) := by decide +kernel
theorem dX11_addReference_61 : decode cX11_addReference 61 = .ok (.ireturn, 1) := by decide +kernel
theorem dX11_begin_0 : decode cX11_begin 0 = .ok (.aload_n 0, 1) := by decide +kernel
theorem dX11_begin_1 : decode cX11_begin 1 = .ok (.iload_n 1, 1) := by decide +kernel
theorem dX11_begin_2 : decode cX11_begin 2 = .ok (.invokevirtual 327, 3) := by decide +kernel
theorem dX11_begin_5 : decode cX11_begin 5 = .ok (.astore_n 2, 1) := by decide +kernel
theorem dX11_begin_6 : decode cX11_begin 6 = .ok (.aload_n 2, 1) := by decide +kernel
theorem dX11_begin_7 : decode cX11_begin 7 = .ok (.getfield 331, 3) := by decide +kernel
theorem dX11_begin_10 : decode cX11_begin 10 = .ok (.ifCond .eq 14, 3) := by decide +kernel
theorem dX11_begin_13 : decode cX11_begin 13 = .ok (.new 320, 3) := by decide +kernel
theorem dX11_begin_16 : decode cX11_begin 16 = .ok (.dup, 1) := by decide +kernel
theorem dX11_begin_17 : decode cX11_begin 17 = .ok (.ldc_w 335, 3) := by decide +kernel
theorem dX11_begin_20 : decode cX11_begin 20 = .ok (.invokespecial 324, 3) := by decide +kernel
theorem dX11_begin_23 : decode cX11_begin 23 = .ok (.athrow, 1) := by decide +kernel
theorem dX11_begin_24 : decode cX11_begin 24 = .ok (.aload_n 0, 1) := by decide +kernel
theorem dX11_begin_25 : decode cX11_begin 25 = .ok (.dup, 1) := by decide +kernel
theorem dX11_begin_26 : decode cX11_begin 26 = .ok (.getfield 53, 3) := by decide +kernel
theorem dX11_begin_29 : decode cX11_begin 29 = .ok (.iconst 1, 1) := by decide +kernel
theorem dX11_begin_30 : decode cX11_begin 30 = .ok (.iadd, 1) := by decide +kernel
theorem dX11_begin_31 : decode cX11_begin 31 = .ok (.putfield 53, 3) := by decide +kernel
theorem dX11_begin_34 : decode cX11_begin 34 = .ok (.aload_n 2, 1) := by decide +kernel
theorem dX11_begin_35 : decode cX11_begin 35 = .ok (.aload_n 0, 1) := by decide +kernel
theorem dX11_begin_36 : decode cX11_begin 36 = .ok (.getfield 53, 3) := by decide +kernel
theorem dX11_begin_39 : decode cX11_begin 39 = .ok (.aload_n 0, 1) := by decide +kernel
theorem dX11_begin_40 : decode cX11_begin 40 = .ok (.getfield 56, 3) := by decide +kernel
theorem dX11_begin_43 : decode cX11_begin 43 = .ok (.invokevirtual 337, 3) := by decide +kernel
theorem dX11_begin_46 : decode cX11_begin 46 = .ok (.aload_n 0, 1) := by decide +kernel
theorem dX11_begin_47 : decode cX11_begin 47 = .ok (.getfield 56, 3) := by decide +kernel
theorem dX11_begin_50 : decode cX11_begin 50 = .ok (.ireturn, 1) := by decide +kernel
theorem dX11_read_0 : decode cX11_read 0 = .ok (.aload_n 0, 1) := by decide +kernel
theorem dX11_read_1 : decode cX11_read 1 = .ok (.iload_n 1, 1) := by decide +kernel
theorem dX11_read_2 : decode cX11_read 2 = .ok (.invokevirtual 327, 3) := by decide +kernel
theorem dX11_read_5 : decode cX11_read 5 = .ok (.astore_n 3, 1) := by decide +kernel
theorem dX11_read_6 : decode cX11_read 6 = .ok (.aload_n 0, 1) := by decide +kernel
theorem dX11_read_7 : decode cX11_read 7 = .ok (.iload_n 2, 1) := by decide +kernel
theorem dX11_read_8 : decode cX11_read 8 = .ok (.invokevirtual 340, 3) := by decide +kernel
theorem dX11_read_11 : decode cX11_read 11 = .ok (.astore 4, 2) := by decide +kernel
theorem dX11_read_13 : decode cX11_read 13 = .ok (.aload_n 3, 1) := by decide +kernel
theorem dX11_read_14 : decode cX11_read 14 = .ok (.invokestatic 344, 3) := by decide +kernel
theorem dX11_read_17 : decode cX11_read 17 = .ok (.aload_n 3, 1) := by decide +kernel
theorem dX11_read_18 : decode cX11_read 18 = .ok (.getfield 348, 3) := by decide +kernel
theorem dX11_read_21 : decode cX11_read 21 = .ok (.iload_n 2, 1) := by decide +kernel
theorem dX11_read_22 : decode cX11_read 22 = .ok (.baload, 1) := by decide +kernel
theorem dX11_read_23 : decode cX11_read 23 = .ok (.ifCond .eq 10, 3) := by decide +kernel
theorem dX11_read_26 : decode cX11_read 26 = .ok (.aload_n 3, 1) := by decide +kernel
theorem dX11_read_27 : decode cX11_read 27 = .ok (.getfield 352, 3) := by decide +kernel
theorem dX11_read_30 : decode cX11_read 30 = .ok (.iload_n 2, 1) := by decide +kernel
theorem dX11_read_31 : decode cX11_read 31 = .ok (.iaload, 1) := by decide +kernel
theorem dX11_read_32 : decode cX11_read 32 = .ok (.ireturn, 1) := by decide +kernel
theorem dX11_read_33 : decode cX11_read 33 = .ok (.aload 4, 2) := by decide +kernel
theorem dX11_read_35 : decode cX11_read 35 = .ok (.aload_n 3, 1) := by decide +kernel
theorem dX11_read_36 : decode cX11_read 36 = .ok (.getfield 355, 3) := by decide +kernel
theorem dX11_read_39 : decode cX11_read 39 = .ok (.invokevirtual 358, 3) := by decide +kernel
theorem dX11_read_42 : decode cX11_read 42 = .ok (.istore 5, 2) := by decide +kernel
theorem dX11_read_44 : decode cX11_read 44 = .ok (.iload 5, 2) := by decide +kernel
theorem dX11_read_46 : decode cX11_read 46 = .ok (.iconst (-1), 1) := by decide +kernel
theorem dX11_read_47 : decode cX11_read 47 = .ok (.if_icmp .ne 20, 3) := by decide +kernel
theorem dX11_read_50 : decode cX11_read 50 = .ok (.aload 4, 2) := by decide +kernel
theorem dX11_read_52 : decode cX11_read 52 = .ok (.invokevirtual 361, 3) := by decide +kernel
theorem dX11_read_55 : decode cX11_read 55 = .ok (.aload_n 3, 1) := by decide +kernel
theorem dX11_read_56 : decode cX11_read 56 = .ok (.aload_n 0, 1) := by decide +kernel
theorem dX11_read_57 : decode cX11_read 57 = .ok (.getfield 56, 3) := by decide +kernel
theorem dX11_read_60 : decode cX11_read 60 = .ok (.invokevirtual 364, 3) := by decide +kernel
theorem dX11_read_63 : decode cX11_read 63 = .ok (.sipush (-10000), 3) := by decide +kernel
theorem dX11_read_66 : decode cX11_read 66 = .ok (.ireturn, 1) := by decide +kernel
theorem dX11_read_67 : decode cX11_read 67 = .ok (.aload 4, 2) := by decide +kernel
theorem dX11_read_69 : decode cX11_read 69 = .ok (.iload 5, 2) := by decide +kernel
theorem dX11_read_71 : decode cX11_read 71 = .ok (.invokevirtual 367, 3) := by decide +kernel
theorem dX11_read_74 : decode cX11_read 74 = .ok (.aload_n 3, 1) := by decide +kernel
theorem dX11_read_75 : decode cX11_read 75 = .ok (.getfield 370, 3) := by decide +kernel
theorem dX11_read_78 : decode cX11_read 78 = .ok (.iload_n 2, 1) := by decide +kernel
theorem dX11_read_79 : decode cX11_read 79 = .ok (.iaload, 1) := by decide +kernel
theorem dX11_read_80 : decode cX11_read 80 = .ok (.iadd, 1) := by decide +kernel
theorem dX11_read_81 : decode cX11_read 81 = .ok (.ireturn, 1) := by decide +kernel
theorem dX11_write_0 : decode cX11_write 0 = .ok (.aload_n 0, 1) := by decide +kernel
theorem dX11_write_1 : decode cX11_write 1 = .ok (.iload_n 1, 1) := by decide +kernel
theorem dX11_write_2 : decode cX11_write 2 = .ok (.invokevirtual 327, 3) := by decide +kernel
theorem dX11_write_5 : decode cX11_write 5 = .ok (.astore 4, 2) := by decide +kernel
theorem dX11_write_7 : decode cX11_write 7 = .ok (.aload_n 0, 1) := by decide +kernel
theorem dX11_write_8 : decode cX11_write 8 = .ok (.iload_n 2, 1) := by decide +kernel
theorem dX11_write_9 : decode cX11_write 9 = .ok (.invokevirtual 340, 3) := by decide +kernel
theorem dX11_write_12 : decode cX11_write 12 = .ok (.astore 5, 2) := by decide +kernel
theorem dX11_write_14 : decode cX11_write 14 = .ok (.aload 4, 2) := by decide +kernel
theorem dX11_write_16 : decode cX11_write 16 = .ok (.invokestatic 344, 3) := by decide +kernel
theorem dX11_write_19 : decode cX11_write 19 = .ok (.aload 4, 2) := by decide +kernel
theorem dX11_write_21 : decode cX11_write 21 = .ok (.getfield 373, 3) := by decide +kernel
theorem dX11_write_24 : decode cX11_write 24 = .ok (.iload_n 2, 1) := by decide +kernel
theorem dX11_write_25 : decode cX11_write 25 = .ok (.baload, 1) := by decide +kernel
theorem dX11_write_26 : decode cX11_write 26 = .ok (.ifCond .ne 16, 3) := by decide +kernel
theorem dX11_write_29 : decode cX11_write 29 = .ok (.iload_n 3, 1) := by decide +kernel
theorem dX11_write_30 : decode cX11_write 30 = .ok (.sipush (-999), 3) := by decide +kernel
theorem dX11_write_33 : decode cX11_write 33 = .ok (.sipush 999, 3) := by decide +kernel
theorem dX11_write_36 : decode cX11_write 36 = .ok (.invokestatic 256, 3) := by decide +kernel
theorem dX11_write_39 : decode cX11_write 39 = .ok (.ifCond .ne 14, 3) := by decide +kernel
theorem dX11_write_42 : decode cX11_write 42 = .ok (.new 152, 3) := by decide +kernel
theorem dX11_write_45 : decode cX11_write 45 = .ok (.dup, 1) := by decide +kernel
theorem dX11_write_46 : decode cX11_write 46 = .ok (.ldc_w 376, 3) := by decide +kernel
theorem dX11_write_49 : decode cX11_write 49 = .ok (.invokespecial 156, 3) := by decide +kernel
theorem dX11_write_52 : decode cX11_write 52 = .ok (.athrow, 1) := by decide +kernel
theorem dX11_write_53 : decode cX11_write 53 = .ok (.aload_n 0, 1) := by decide +kernel
theorem dX11_write_54 : decode cX11_write 54 = .ok (.aload 4, 2) := by decide +kernel
theorem dX11_write_56 : decode cX11_write 56 = .ok (.aload 5, 2) := by decide +kernel
theorem dX11_write_58 : decode cX11_write 58 = .ok (.invokevirtual 378, 3) := by decide +kernel
theorem dX11_write_61 : decode cX11_write 61 = .ok (.ifCond .eq 14, 3) := by decide +kernel
theorem dX11_write_64 : decode cX11_write 64 = .ok (.aload_n 0, 1) := by decide +kernel
theorem dX11_write_65 : decode cX11_write 65 = .ok (.aload 4, 2) := by decide +kernel
theorem dX11_write_67 : decode cX11_write 67 = .ok (.iload_n 2, 1) := by decide +kernel
theorem dX11_write_68 : decode cX11_write 68 = .ok (.iconst 1, 1) := by decide +kernel
theorem dX11_write_69 : decode cX11_write 69 = .ok (.invokevirtual 382, 3) := by decide +kernel
theorem dX11_write_72 : decode cX11_write 72 = .ok (.ifCond .ne 5, 3) := by decide +kernel
theorem dX11_write_75 : decode cX11_write 75 = .ok (.iconst 0, 1) := by decide +kernel
theorem dX11_write_76 : decode cX11_write 76 = .ok (.ireturn, 1) := by decide +kernel
theorem dX11_write_77 : decode cX11_write 77 = .ok (.aload 4, 2) := by decide +kernel
theorem dX11_write_79 : decode cX11_write 79 = .ok (.getfield 348, 3) := by decide +kernel
theorem dX11_write_82 : decode cX11_write 82 = .ok (.iload_n 2, 1) := by decide +kernel
theorem dX11_write_83 : decode cX11_write 83 = .ok (.iconst 1, 1) := by decide +kernel
theorem dX11_write_84 : decode cX11_write 84 = .ok (.bastore, 1) := by decide +kernel
theorem dX11_write_85 : decode cX11_write 85 = .ok (.aload 4, 2) := by decide +kernel
theorem dX11_write_87 : decode cX11_write 87 = .ok (.getfield 352, 3) := by decide +kernel
theorem dX11_write_90 : decode cX11_write 90 = .ok (.iload_n 2, 1) := by decide +kernel
theorem dX11_write_91 : decode cX11_write 91 = .ok (.iload_n 3, 1) := by decide +kernel
theorem dX11_write_92 : decode cX11_write 92 = .ok (.iastore, 1) := by decide +kernel
theorem dX11_write_93 : decode cX11_write 93 = .ok (.iconst 1, 1) := by decide +kernel
theorem dX11_write_94 : decode cX11_write 94 = .ok (.ireturn, 1) := by decide +kernel
theorem dX11_ensure_0 : decode cX11_ensure 0 = .ok (.aload_n 0, 1) := by decide +kernel
theorem dX11_ensure_1 : decode cX11_ensure 1 = .ok (.iload_n 1, 1) := by decide +kernel
theorem dX11_ensure_2 : decode cX11_ensure 2 = .ok (.invokevirtual 327, 3) := by decide +kernel
theorem dX11_ensure_5 : decode cX11_ensure 5 = .ok (.astore_n 3, 1) := by decide +kernel
theorem dX11_ensure_6 : decode cX11_ensure 6 = .ok (.aload_n 0, 1) := by decide +kernel
theorem dX11_ensure_7 : decode cX11_ensure 7 = .ok (.iload_n 2, 1) := by decide +kernel
theorem dX11_ensure_8 : decode cX11_ensure 8 = .ok (.invokevirtual 340, 3) := by decide +kernel
theorem dX11_ensure_11 : decode cX11_ensure 11 = .ok (.astore 4, 2) := by decide +kernel
theorem dX11_ensure_13 : decode cX11_ensure 13 = .ok (.aload_n 3, 1) := by decide +kernel
theorem dX11_ensure_14 : decode cX11_ensure 14 = .ok (.invokestatic 344, 3) := by decide +kernel
theorem dX11_ensure_17 : decode cX11_ensure 17 = .ok (.aload_n 0, 1) := by decide +kernel
theorem dX11_ensure_18 : decode cX11_ensure 18 = .ok (.aload_n 3, 1) := by decide +kernel
theorem dX11_ensure_19 : decode cX11_ensure 19 = .ok (.aload 4, 2) := by decide +kernel
theorem dX11_ensure_21 : decode cX11_ensure 21 = .ok (.invokevirtual 378, 3) := by decide +kernel
theorem dX11_ensure_24 : decode cX11_ensure 24 = .ok (.ifCond .eq 13, 3) := by decide +kernel
theorem dX11_ensure_27 : decode cX11_ensure 27 = .ok (.aload_n 0, 1) := by decide +kernel
theorem dX11_ensure_28 : decode cX11_ensure 28 = .ok (.aload_n 3, 1) := by decide +kernel
theorem dX11_ensure_29 : decode cX11_ensure 29 = .ok (.iload_n 2, 1) := by decide +kernel
theorem dX11_ensure_30 : decode cX11_ensure 30 = .ok (.iconst 0, 1) := by decide +kernel
theorem dX11_ensure_31 : decode cX11_ensure 31 = .ok (.invokevirtual 382, 3) := by decide +kernel
theorem dX11_ensure_34 : decode cX11_ensure 34 = .ok (.ifCond .ne 5, 3) := by decide +kernel
theorem dX11_ensure_37 : decode cX11_ensure 37 = .ok (.iconst 0, 1) := by decide +kernel
theorem dX11_ensure_38 : decode cX11_ensure 38 = .ok (.ireturn, 1) := by decide +kernel
theorem dX11_ensure_39 : decode cX11_ensure 39 = .ok (.aload_n 3, 1) := by decide +kernel
theorem dX11_ensure_40 : decode cX11_ensure 40 = .ok (.getfield 386, 3) := by decide +kernel
theorem dX11_ensure_43 : decode cX11_ensure 43 = .ok (.iload_n 2, 1) := by decide +kernel
theorem dX11_ensure_44 : decode cX11_ensure 44 = .ok (.iconst 1, 1) := by decide +kernel
theorem dX11_ensure_45 : decode cX11_ensure 45 = .ok (.bastore, 1) := by decide +kernel
theorem dX11_ensure_46 : decode cX11_ensure 46 = .ok (.iconst 1, 1) := by decide +kernel
theorem dX11_ensure_47 : decode cX11_ensure 47 = .ok (.ireturn, 1) := by decide +kernel
theorem dX11_add_0 : decode cX11_add 0 = .ok (.aload_n 0, 1) := by decide +kernel
theorem dX11_add_1 : decode cX11_add 1 = .ok (.iload_n 1, 1) := by decide +kernel
theorem dX11_add_2 : decode cX11_add 2 = .ok (.invokevirtual 327, 3) := by decide +kernel
theorem dX11_add_5 : decode cX11_add 5 = .ok (.astore 4, 2) := by decide +kernel
theorem dX11_add_7 : decode cX11_add 7 = .ok (.aload_n 0, 1) := by decide +kernel
theorem dX11_add_8 : decode cX11_add 8 = .ok (.iload_n 2, 1) := by decide +kernel
theorem dX11_add_9 : decode cX11_add 9 = .ok (.invokevirtual 340, 3) := by decide +kernel
theorem dX11_add_12 : decode cX11_add 12 = .ok (.pop, 1) := by decide +kernel
theorem dX11_add_13 : decode cX11_add 13 = .ok (.aload 4, 2) := by decide +kernel
theorem dX11_add_15 : decode cX11_add 15 = .ok (.invokestatic 344, 3) := by decide +kernel
theorem dX11_add_18 : decode cX11_add 18 = .ok (.iload_n 3, 1) := by decide +kernel
theorem dX11_add_19 : decode cX11_add 19 = .ok (.bipush (-99), 2) := by decide +kernel
theorem dX11_add_21 : decode cX11_add 21 = .ok (.bipush 99, 2) := by decide +kernel
theorem dX11_add_23 : decode cX11_add 23 = .ok (.invokestatic 256, 3) := by decide +kernel
theorem dX11_add_26 : decode cX11_add 26 = .ok (.ifCond .ne 14, 3) := by decide +kernel
theorem dX11_add_29 : decode cX11_add 29 = .ok (.new 152, 3) := by decide +kernel
theorem dX11_add_32 : decode cX11_add 32 = .ok (.dup, 1) := by decide +kernel
theorem dX11_add_33 : decode cX11_add 33 = .ok (.ldc_w 281, 3) := by decide +kernel
theorem dX11_add_36 : decode cX11_add 36 = .ok (.invokespecial 156, 3) := by decide +kernel
theorem dX11_add_39 : decode cX11_add 39 = .ok (.athrow, 1) := by decide +kernel
theorem dX11_add_40 : decode cX11_add 40 = .ok (.aload 4, 2) := by decide +kernel
theorem dX11_add_42 : decode cX11_add 42 = .ok (.getfield 348, 3) := by decide +kernel
theorem dX11_add_45 : decode cX11_add 45 = .ok (.iload_n 2, 1) := by decide +kernel
theorem dX11_add_46 : decode cX11_add 46 = .ok (.baload, 1) := by decide +kernel
theorem dX11_add_47 : decode cX11_add 47 = .ok (.istore 5, 2) := by decide +kernel
theorem dX11_add_49 : decode cX11_add 49 = .ok (.iload 5, 2) := by decide +kernel
theorem dX11_add_51 : decode cX11_add 51 = .ok (.ifCond .eq 13, 3) := by decide +kernel
theorem dX11_add_54 : decode cX11_add 54 = .ok (.aload 4, 2) := by decide +kernel
theorem dX11_add_56 : decode cX11_add 56 = .ok (.getfield 352, 3) := by decide +kernel
theorem dX11_add_59 : decode cX11_add 59 = .ok (.iload_n 2, 1) := by decide +kernel
theorem dX11_add_60 : decode cX11_add 60 = .ok (.iaload, 1) := by decide +kernel
theorem dX11_add_61 : decode cX11_add 61 = .ok (.goto 10, 3) := by decide +kernel
theorem dX11_add_64 : decode cX11_add 64 = .ok (.aload 4, 2) := by decide +kernel
theorem dX11_add_66 : decode cX11_add 66 = .ok (.getfield 370, 3) := by decide +kernel
theorem dX11_add_69 : decode cX11_add 69 = .ok (.iload_n 2, 1) := by decide +kernel
theorem dX11_add_70 : decode cX11_add 70 = .ok (.iaload, 1) := by decide +kernel
theorem dX11_add_71 : decode cX11_add 71 = .ok (.iload_n 3, 1) := by decide +kernel
theorem dX11_add_72 : decode cX11_add 72 = .ok (.iadd, 1) := by decide +kernel
theorem dX11_add_73 : decode cX11_add 73 = .ok (.istore 6, 2) := by decide +kernel
theorem dX11_add_75 : decode cX11_add 75 = .ok (.iload 6, 2) := by decide +kernel
theorem dX11_add_77 : decode cX11_add 77 = .ok (.sipush (-999), 3) := by decide +kernel
theorem dX11_add_80 : decode cX11_add 80 = .ok (.sipush 999, 3) := by decide +kernel
theorem dX11_add_83 : decode cX11_add 83 = .ok (.invokestatic 256, 3) := by decide +kernel
theorem dX11_add_86 : decode cX11_add 86 = .ok (.ifCond .ne 14, 3) := by decide +kernel
theorem dX11_add_89 : decode cX11_add 89 = .ok (.new 152, 3) := by decide +kernel
theorem dX11_add_92 : decode cX11_add 92 = .ok (.dup, 1) := by decide +kernel
theorem dX11_add_93 : decode cX11_add 93 = .ok (.ldc_w 389, 3) := by decide +kernel
theorem dX11_add_96 : decode cX11_add 96 = .ok (.invokespecial 156, 3) := by decide +kernel
theorem dX11_add_99 : decode cX11_add 99 = .ok (.athrow, 1) := by decide +kernel
theorem dX11_add_100 : decode cX11_add 100 = .ok (.iload 5, 2) := by decide +kernel
theorem dX11_add_102 : decode cX11_add 102 = .ok (.ifCond .eq 15, 3) := by decide +kernel
theorem dX11_add_105 : decode cX11_add 105 = .ok (.aload 4, 2) := by decide +kernel
theorem dX11_add_107 : decode cX11_add 107 = .ok (.getfield 352, 3) := by decide +kernel
theorem dX11_add_110 : decode cX11_add 110 = .ok (.iload_n 2, 1) := by decide +kernel
theorem dX11_add_111 : decode cX11_add 111 = .ok (.iload 6, 2) := by decide +kernel
theorem dX11_add_113 : decode cX11_add 113 = .ok (.iastore, 1) := by decide +kernel
theorem dX11_add_114 : decode cX11_add 114 = .ok (.goto 20, 3) := by decide +kernel
theorem dX11_add_117 : decode cX11_add 117 = .ok (.aload 4, 2) := by decide +kernel
theorem dX11_add_119 : decode cX11_add 119 = .ok (.getfield 373, 3) := by decide +kernel
theorem dX11_add_122 : decode cX11_add 122 = .ok (.iload_n 2, 1) := by decide +kernel
theorem dX11_add_123 : decode cX11_add 123 = .ok (.iconst 1, 1) := by decide +kernel
theorem dX11_add_124 : decode cX11_add 124 = .ok (.bastore, 1) := by decide +kernel
theorem dX11_add_125 : decode cX11_add 125 = .ok (.aload 4, 2) := by decide +kernel
theorem dX11_add_127 : decode cX11_add 127 = .ok (.getfield 370, 3) := by decide +kernel
theorem dX11_add_130 : decode cX11_add 130 = .ok (.iload_n 2, 1) := by decide +kernel
theorem dX11_add_131 : decode cX11_add 131 = .ok (.iload 6, 2) := by decide +kernel
theorem dX11_add_133 : decode cX11_add 133 = .ok (.iastore, 1) := by decide +kernel
theorem dX11_add_134 : decode cX11_add 134 = .ok (.iconst 1, 1) := by decide +kernel
theorem dX11_add_135 : decode cX11_add 135 = .ok (.ireturn, 1) := by decide +kernel
theorem dX11_commit_0 : decode cX11_commit 0 = .ok (.aload_n 0, 1) := by decide +kernel
theorem dX11_commit_1 : decode cX11_commit 1 = .ok (.iload_n 1, 1) := by decide +kernel
theorem dX11_commit_2 : decode cX11_commit 2 = .ok (.invokevirtual 327, 3) := by decide +kernel
theorem dX11_commit_5 : decode cX11_commit 5 = .ok (.astore_n 2, 1) := by decide +kernel
theorem dX11_commit_6 : decode cX11_commit 6 = .ok (.aload_n 2, 1) := by decide +kernel
theorem dX11_commit_7 : decode cX11_commit 7 = .ok (.invokestatic 344, 3) := by decide +kernel
theorem dX11_commit_10 : decode cX11_commit 10 = .ok (.iconst 0, 1) := by decide +kernel
theorem dX11_commit_11 : decode cX11_commit 11 = .ok (.istore_n 3, 1) := by decide +kernel
theorem dX11_commit_12 : decode cX11_commit 12 = .ok (.iload_n 3, 1) := by decide +kernel
theorem dX11_commit_13 : decode cX11_commit 13 = .ok (.aload_n 0, 1) := by decide +kernel
theorem dX11_commit_14 : decode cX11_commit 14 = .ok (.getfield 44, 3) := by decide +kernel
theorem dX11_commit_17 : decode cX11_commit 17 = .ok (.if_icmp .ge 31, 3) := by decide +kernel
theorem dX11_commit_20 : decode cX11_commit 20 = .ok (.aload_n 2, 1) := by decide +kernel
theorem dX11_commit_21 : decode cX11_commit 21 = .ok (.getfield 373, 3) := by decide +kernel
theorem dX11_commit_24 : decode cX11_commit 24 = .ok (.iload_n 3, 1) := by decide +kernel
theorem dX11_commit_25 : decode cX11_commit 25 = .ok (.baload, 1) := by decide +kernel
theorem dX11_commit_26 : decode cX11_commit 26 = .ok (.ifCond .eq 16, 3) := by decide +kernel
theorem dX11_commit_29 : decode cX11_commit 29 = .ok (.aload_n 0, 1) := by decide +kernel
theorem dX11_commit_30 : decode cX11_commit 30 = .ok (.aload_n 2, 1) := by decide +kernel
theorem dX11_commit_31 : decode cX11_commit 31 = .ok (.iload_n 3, 1) := by decide +kernel
theorem dX11_commit_32 : decode cX11_commit 32 = .ok (.iconst 1, 1) := by decide +kernel
theorem dX11_commit_33 : decode cX11_commit 33 = .ok (.invokevirtual 382, 3) := by decide +kernel
theorem dX11_commit_36 : decode cX11_commit 36 = .ok (.ifCond .ne 6, 3) := by decide +kernel
theorem dX11_commit_39 : decode cX11_commit 39 = .ok (.bipush 115, 2) := by decide +kernel
theorem dX11_commit_41 : decode cX11_commit 41 = .ok (.ireturn, 1) := by decide +kernel
theorem dX11_commit_42 : decode cX11_commit 42 = .ok (.iinc 3 1, 3) := by decide +kernel
theorem dX11_commit_45 : decode cX11_commit 45 = .ok (.goto (-33), 3) := by decide +kernel
theorem dX11_commit_48 : decode cX11_commit 48 = .ok (.aload_n 0, 1) := by decide +kernel
theorem dX11_commit_49 : decode cX11_commit 49 = .ok (.aload_n 2, 1) := by decide +kernel
theorem dX11_commit_50 : decode cX11_commit 50 = .ok (.invokevirtual 391, 3) := by decide +kernel
theorem dX11_commit_53 : decode cX11_commit 53 = .ok (.ifCond .ne 10, 3) := by decide +kernel
theorem dX11_commit_56 : decode cX11_commit 56 = .ok (.aload_n 2, 1) := by decide +kernel
theorem dX11_commit_57 : decode cX11_commit 57 = .ok (.invokevirtual 395, 3) := by decide +kernel
theorem dX11_commit_60 : decode cX11_commit 60 = .ok (.bipush 98, 2) := by decide +kernel
theorem dX11_commit_62 : decode cX11_commit 62 = .ok (.ireturn, 1) := by decide +kernel
theorem dX11_commit_63 : decode cX11_commit 63 = .ok (.aload_n 0, 1) := by decide +kernel
theorem dX11_commit_64 : decode cX11_commit 64 = .ok (.aload_n 2, 1) := by decide +kernel
theorem dX11_commit_65 : decode cX11_commit 65 = .ok (.invokevirtual 398, 3) := by decide +kernel
theorem dX11_commit_68 : decode cX11_commit 68 = .ok (.ifCond .eq 8, 3) := by decide +kernel
theorem dX11_commit_71 : decode cX11_commit 71 = .ok (.aload_n 0, 1) := by decide +kernel
theorem dX11_commit_72 : decode cX11_commit 72 = .ok (.aload_n 2, 1) := by decide +kernel
theorem dX11_commit_73 : decode cX11_commit 73 = .ok (.invokevirtual 401, 3) := by decide +kernel
theorem dX11_commit_76 : decode cX11_commit 76 = .ok (.aload_n 0, 1) := by decide +kernel
theorem dX11_commit_77 : decode cX11_commit 77 = .ok (.aload_n 2, 1) := by decide +kernel
theorem dX11_commit_78 : decode cX11_commit 78 = .ok (.invokevirtual 404, 3) := by decide +kernel
theorem dX11_commit_81 : decode cX11_commit 81 = .ok (.aload_n 2, 1) := by decide +kernel
theorem dX11_commit_82 : decode cX11_commit 82 = .ok (.invokevirtual 395, 3) := by decide +kernel
theorem dX11_commit_85 : decode cX11_commit 85 = .ok (.bipush 99, 2) := by decide +kernel
theorem dX11_commit_87 : decode cX11_commit 87 = .ok (.ireturn, 1) := by decide +kernel
theorem dX11_end_0 : decode cX11_end 0 = .ok (.aload_n 0, 1) := by decide +kernel
theorem dX11_end_1 : decode cX11_end 1 = .ok (.iload_n 1, 1) := by decide +kernel
theorem dX11_end_2 : decode cX11_end 2 = .ok (.invokevirtual 327, 3) := by decide +kernel
theorem dX11_end_5 : decode cX11_end 5 = .ok (.astore_n 2, 1) := by decide +kernel
theorem dX11_end_6 : decode cX11_end 6 = .ok (.aload_n 2, 1) := by decide +kernel
theorem dX11_end_7 : decode cX11_end 7 = .ok (.invokestatic 344, 3) := by decide +kernel
theorem dX11_end_10 : decode cX11_end 10 = .ok (.aload_n 2, 1) := by decide +kernel
theorem dX11_end_11 : decode cX11_end 11 = .ok (.invokevirtual 395, 3) := by decide +kernel
theorem dX11_end_14 : decode cX11_end 14 = .ok (.aload_n 2, 1) := by decide +kernel
theorem dX11_end_15 : decode cX11_end 15 = .ok (.getfield 407, 3) := by decide +kernel
theorem dX11_end_18 : decode cX11_end 18 = .ok (.ireturn, 1) := by decide +kernel
theorem dX11_sentBack_0 : decode cX11_sentBack 0 = .ok (.aload_n 0, 1) := by decide +kernel
theorem dX11_sentBack_1 : decode cX11_sentBack 1 = .ok (.iload_n 1, 1) := by decide +kernel
theorem dX11_sentBack_2 : decode cX11_sentBack 2 = .ok (.invokevirtual 327, 3) := by decide +kernel
theorem dX11_sentBack_5 : decode cX11_sentBack 5 = .ok (.getfield 407, 3) := by decide +kernel
theorem dX11_sentBack_8 : decode cX11_sentBack 8 = .ok (.ireturn, 1) := by decide +kernel
theorem dX11_valueOf_0 : decode cX11_valueOf 0 = .ok (.aload_n 0, 1) := by decide +kernel
theorem dX11_valueOf_1 : decode cX11_valueOf 1 = .ok (.iload_n 1, 1) := by decide +kernel
theorem dX11_valueOf_2 : decode cX11_valueOf 2 = .ok (.invokevirtual 340, 3) := by decide +kernel
theorem dX11_valueOf_5 : decode cX11_valueOf 5 = .ok (.invokevirtual 410, 3) := by decide +kernel
theorem dX11_valueOf_8 : decode cX11_valueOf 8 = .ok (.ireturn, 1) := by decide +kernel
theorem dX11_valueByLog_0 : decode cX11_valueByLog 0 = .ok (.aload_n 0, 1) := by decide +kernel
theorem dX11_valueByLog_1 : decode cX11_valueByLog 1 = .ok (.iload_n 1, 1) := by decide +kernel
theorem dX11_valueByLog_2 : decode cX11_valueByLog 2 = .ok (.invokevirtual 340, 3) := by decide +kernel
theorem dX11_valueByLog_5 : decode cX11_valueByLog 5 = .ok (.getfield 414, 3) := by decide +kernel
theorem dX11_valueByLog_8 : decode cX11_valueByLog 8 = .ok (.istore_n 2, 1) := by decide +kernel
theorem dX11_valueByLog_9 : decode cX11_valueByLog 9 = .ok (.iconst 0, 1) := by decide +kernel
theorem dX11_valueByLog_10 : decode cX11_valueByLog 10 = .ok (.istore_n 3, 1) := by decide +kernel
theorem dX11_valueByLog_11 : decode cX11_valueByLog 11 = .ok (.iload_n 3, 1) := by decide +kernel
theorem dX11_valueByLog_12 : decode cX11_valueByLog 12 = .ok (.aload_n 0, 1) := by decide +kernel
theorem dX11_valueByLog_13 : decode cX11_valueByLog 13 = .ok (.getfield 62, 3) := by decide +kernel
theorem dX11_valueByLog_16 : decode cX11_valueByLog 16 = .ok (.invokevirtual 417, 3) := by decide +kernel
theorem dX11_valueByLog_19 : decode cX11_valueByLog 19 = .ok (.if_icmp .ge 37, 3) := by decide +kernel
theorem dX11_valueByLog_22 : decode cX11_valueByLog 22 = .ok (.aload_n 0, 1) := by decide +kernel
theorem dX11_valueByLog_23 : decode cX11_valueByLog 23 = .ok (.getfield 62, 3) := by decide +kernel
theorem dX11_valueByLog_26 : decode cX11_valueByLog 26 = .ok (.iload_n 3, 1) := by decide +kernel
theorem dX11_valueByLog_27 : decode cX11_valueByLog 27 = .ok (.invokevirtual 419, 3) := by decide +kernel
theorem dX11_valueByLog_30 : decode cX11_valueByLog 30 = .ok (.checkcast 423, 3) := by decide +kernel
theorem dX11_valueByLog_33 : decode cX11_valueByLog 33 = .ok (.astore 4, 2) := by decide +kernel
theorem dX11_valueByLog_35 : decode cX11_valueByLog 35 = .ok (.aload 4, 2) := by decide +kernel
theorem dX11_valueByLog_37 : decode cX11_valueByLog 37 = .ok (.getfield 425, 3) := by decide +kernel
theorem dX11_valueByLog_40 : decode cX11_valueByLog 40 = .ok (.iload_n 1, 1) := by decide +kernel
theorem dX11_valueByLog_41 : decode cX11_valueByLog 41 = .ok (.if_icmp .ne 9, 3) := by decide +kernel
theorem dX11_valueByLog_44 : decode cX11_valueByLog 44 = .ok (.aload 4, 2) := by decide +kernel
theorem dX11_valueByLog_46 : decode cX11_valueByLog 46 = .ok (.getfield 428, 3) := by decide +kernel
theorem dX11_valueByLog_49 : decode cX11_valueByLog 49 = .ok (.istore_n 2, 1) := by decide +kernel
theorem dX11_valueByLog_50 : decode cX11_valueByLog 50 = .ok (.iinc 3 1, 3) := by decide +kernel
theorem dX11_valueByLog_53 : decode cX11_valueByLog 53 = .ok (.goto (-42), 3) := by decide +kernel
theorem dX11_valueByLog_56 : decode cX11_valueByLog 56 = .ok (.iload_n 2, 1) := by decide +kernel
theorem dX11_valueByLog_57 : decode cX11_valueByLog 57 = .ok (.ireturn, 1) := by decide +kernel
theorem dX11_history_0 : decode cX11_history 0 = .ok (.aload_n 0, 1) := by decide +kernel
theorem dX11_history_1 : decode cX11_history 1 = .ok (.iload_n 1, 1) := by decide +kernel
theorem dX11_history_2 : decode cX11_history 2 = .ok (.invokevirtual 340, 3) := by decide +kernel
theorem dX11_history_5 : decode cX11_history 5 = .ok (.getfield 431, 3) := by decide +kernel
theorem dX11_history_8 : decode cX11_history 8 = .ok (.ireturn, 1) := by decide +kernel
theorem dX11_moment_0 : decode cX11_moment 0 = .ok (.aload_n 0, 1) := by decide +kernel
theorem dX11_moment_1 : decode cX11_moment 1 = .ok (.getfield 56, 3) := by decide +kernel
theorem dX11_moment_4 : decode cX11_moment 4 = .ok (.ireturn, 1) := by decide +kernel
theorem dX11_logged_0 : decode cX11_logged 0 = .ok (.aload_n 0, 1) := by decide +kernel
theorem dX11_logged_1 : decode cX11_logged 1 = .ok (.getfield 62, 3) := by decide +kernel
theorem dX11_logged_4 : decode cX11_logged 4 = .ok (.invokevirtual 417, 3) := by decide +kernel
theorem dX11_logged_7 : decode cX11_logged 7 = .ok (.ireturn, 1) := by decide +kernel
theorem dX11_logAt_0 : decode cX11_logAt 0 = .ok (.iload_n 1, 1) := by decide +kernel
theorem dX11_logAt_1 : decode cX11_logAt 1 = .ok (.ifCond .lt 14, 3) := by decide +kernel
theorem dX11_logAt_4 : decode cX11_logAt 4 = .ok (.iload_n 1, 1) := by decide +kernel
theorem dX11_logAt_5 : decode cX11_logAt 5 = .ok (.aload_n 0, 1) := by decide +kernel
theorem dX11_logAt_6 : decode cX11_logAt 6 = .ok (.getfield 62, 3) := by decide +kernel
theorem dX11_logAt_9 : decode cX11_logAt 9 = .ok (.invokevirtual 417, 3) := by decide +kernel
theorem dX11_logAt_12 : decode cX11_logAt 12 = .ok (.if_icmp .lt 14, 3) := by decide +kernel
theorem dX11_logAt_15 : decode cX11_logAt 15 = .ok (.new 434, 3) := by decide +kernel
theorem dX11_logAt_18 : decode cX11_logAt 18 = .ok (.dup, 1) := by decide +kernel
theorem dX11_logAt_19 : decode cX11_logAt 19 = .ok (.ldc_w 436, 3) := by decide +kernel
theorem dX11_logAt_22 : decode cX11_logAt 22 = .ok (.invokespecial 438, 3) := by decide +kernel
theorem dX11_logAt_25 : decode cX11_logAt 25 = .ok (.athrow, 1) := by decide +kernel
theorem dX11_logAt_26 : decode cX11_logAt 26 = .ok (.aload_n 0, 1) := by decide +kernel
theorem dX11_logAt_27 : decode cX11_logAt 27 = .ok (.getfield 62, 3) := by decide +kernel
theorem dX11_logAt_30 : decode cX11_logAt 30 = .ok (.iload_n 1, 1) := by decide +kernel
theorem dX11_logAt_31 : decode cX11_logAt 31 = .ok (.invokevirtual 419, 3) := by decide +kernel
theorem dX11_logAt_34 : decode cX11_logAt 34 = .ok (.checkcast 423, 3) := by decide +kernel
theorem dX11_logAt_37 : decode cX11_logAt 37 = .ok (.astore_n 3, 1) := by decide +kernel
theorem dX11_logAt_38 : decode cX11_logAt 38 = .ok (.iload_n 2, 1) := by decide +kernel
theorem dX11_logAt_39 : decode cX11_logAt 39 = .ok (.tableswitch 49 0 3 #[29, 34, 39, 44], 29) := by decide +kernel
theorem dX11_logAt_68 : decode cX11_logAt 68 = .ok (.aload_n 3, 1) := by decide +kernel
theorem dX11_logAt_69 : decode cX11_logAt 69 = .ok (.getfield 439, 3) := by decide +kernel
theorem dX11_logAt_72 : decode cX11_logAt 72 = .ok (.ireturn, 1) := by decide +kernel
theorem dX11_logAt_73 : decode cX11_logAt 73 = .ok (.aload_n 3, 1) := by decide +kernel
theorem dX11_logAt_74 : decode cX11_logAt 74 = .ok (.getfield 425, 3) := by decide +kernel
theorem dX11_logAt_77 : decode cX11_logAt 77 = .ok (.ireturn, 1) := by decide +kernel
theorem dX11_logAt_78 : decode cX11_logAt 78 = .ok (.aload_n 3, 1) := by decide +kernel
theorem dX11_logAt_79 : decode cX11_logAt 79 = .ok (.getfield 442, 3) := by decide +kernel
theorem dX11_logAt_82 : decode cX11_logAt 82 = .ok (.ireturn, 1) := by decide +kernel
theorem dX11_logAt_83 : decode cX11_logAt 83 = .ok (.aload_n 3, 1) := by decide +kernel
theorem dX11_logAt_84 : decode cX11_logAt 84 = .ok (.getfield 428, 3) := by decide +kernel
theorem dX11_logAt_87 : decode cX11_logAt 87 = .ok (.ireturn, 1) := by decide +kernel
theorem dX11_logAt_88 : decode cX11_logAt 88 = .ok (.new 189, 3) := by decide +kernel
theorem dX11_logAt_91 : decode cX11_logAt 91 = .ok (.dup, 1) := by decide +kernel
theorem dX11_logAt_92 : decode cX11_logAt 92 = .ok (.ldc_w 445, 3) := by decide +kernel
theorem dX11_logAt_95 : decode cX11_logAt 95 = .ok (.invokespecial 193, 3) := by decide +kernel
theorem dX11_logAt_98 : decode cX11_logAt 98 = .ok (.athrow, 1) := by decide +kernel
theorem dX11_addAgent_0 : decode cX11_addAgent 0 = .ok (.iload_n 1, 1) := by decide +kernel
theorem dX11_addAgent_1 : decode cX11_addAgent 1 = .ok (.iload_n 2, 1) := by decide +kernel
theorem dX11_addAgent_2 : decode cX11_addAgent 2 = .ok (.iload_n 3, 1) := by decide +kernel
theorem dX11_addAgent_3 : decode cX11_addAgent 3 = .ok (.invokestatic 317, 3) := by decide +kernel
theorem dX11_addAgent_6 : decode cX11_addAgent 6 = .ok (.iload 4, 2) := by decide +kernel
theorem dX11_addAgent_8 : decode cX11_addAgent 8 = .ok (.bipush 102, 2) := by decide +kernel
theorem dX11_addAgent_10 : decode cX11_addAgent 10 = .ok (.if_icmp .eq 21, 3) := by decide +kernel
theorem dX11_addAgent_13 : decode cX11_addAgent 13 = .ok (.iload 4, 2) := by decide +kernel
theorem dX11_addAgent_15 : decode cX11_addAgent 15 = .ok (.bipush 99, 2) := by decide +kernel
theorem dX11_addAgent_17 : decode cX11_addAgent 17 = .ok (.if_icmp .eq 14, 3) := by decide +kernel
theorem dX11_addAgent_20 : decode cX11_addAgent 20 = .ok (.new 189, 3) := by decide +kernel
theorem dX11_addAgent_23 : decode cX11_addAgent 23 = .ok (.dup, 1) := by decide +kernel
theorem dX11_addAgent_24 : decode cX11_addAgent 24 = .ok (.ldc_w 447, 3) := by decide +kernel
theorem dX11_addAgent_27 : decode cX11_addAgent 27 = .ok (.invokespecial 193, 3) := by decide +kernel
theorem dX11_addAgent_30 : decode cX11_addAgent 30 = .ok (.athrow, 1) := by decide +kernel
theorem dX11_addAgent_31 : decode cX11_addAgent 31 = .ok (.aload_n 0, 1) := by decide +kernel
theorem dX11_addAgent_32 : decode cX11_addAgent 32 = .ok (.getfield 72, 3) := by decide +kernel
theorem dX11_addAgent_35 : decode cX11_addAgent 35 = .ok (.iconst 4, 1) := by decide +kernel
theorem dX11_addAgent_36 : decode cX11_addAgent 36 = .ok (.if_icmp .lt 14, 3) := by decide +kernel
theorem dX11_addAgent_39 : decode cX11_addAgent 39 = .ok (.new 320, 3) := by decide +kernel
theorem dX11_addAgent_42 : decode cX11_addAgent 42 = .ok (.dup, 1) := by decide +kernel
theorem dX11_addAgent_43 : decode cX11_addAgent 43 = .ok (.ldc_w 449, 3) := by decide +kernel
theorem dX11_addAgent_46 : decode cX11_addAgent 46 = .ok (.invokespecial 324, 3) := by decide +kernel
theorem dX11_addAgent_49 : decode cX11_addAgent 49 = .ok (.athrow, 1) := by decide +kernel
theorem dX11_addAgent_50 : decode cX11_addAgent 50 = .ok (.aload_n 0, 1) := by decide +kernel
theorem dX11_addAgent_51 : decode cX11_addAgent 51 = .ok (.getfield 68, 3) := by decide +kernel
theorem dX11_addAgent_54 : decode cX11_addAgent 54 = .ok (.aload_n 0, 1) := by decide +kernel
theorem dX11_addAgent_55 : decode cX11_addAgent 55 = .ok (.getfield 72, 3) := by decide +kernel
theorem dX11_addAgent_58 : decode cX11_addAgent 58 = .ok (.new 66, 3) := by decide +kernel
theorem dX11_addAgent_61 : decode cX11_addAgent 61 = .ok (.dup, 1) := by decide +kernel
theorem dX11_addAgent_62 : decode cX11_addAgent 62 = .ok (.iload_n 1, 1) := by decide +kernel
theorem dX11_addAgent_63 : decode cX11_addAgent 63 = .ok (.iload_n 2, 1) := by decide +kernel
theorem dX11_addAgent_64 : decode cX11_addAgent 64 = .ok (.iload_n 3, 1) := by decide +kernel
theorem dX11_addAgent_65 : decode cX11_addAgent 65 = .ok (.iload 4, 2) := by decide +kernel
theorem dX11_addAgent_67 : decode cX11_addAgent 67 = .ok (.bipush 102, 2) := by decide +kernel
theorem dX11_addAgent_69 : decode cX11_addAgent 69 = .ok (.if_icmp .ne 7, 3) := by decide +kernel
theorem dX11_addAgent_72 : decode cX11_addAgent 72 = .ok (.iconst 1, 1) := by decide +kernel
theorem dX11_addAgent_73 : decode cX11_addAgent 73 = .ok (.goto 4, 3) := by decide +kernel
theorem dX11_addAgent_76 : decode cX11_addAgent 76 = .ok (.iconst 0, 1) := by decide +kernel
theorem dX11_addAgent_77 : decode cX11_addAgent 77 = .ok (.invokespecial 451, 3) := by decide +kernel
theorem dX11_addAgent_80 : decode cX11_addAgent 80 = .ok (.aastore, 1) := by decide +kernel
theorem dX11_addAgent_81 : decode cX11_addAgent 81 = .ok (.aload_n 0, 1) := by decide +kernel
theorem dX11_addAgent_82 : decode cX11_addAgent 82 = .ok (.dup, 1) := by decide +kernel
theorem dX11_addAgent_83 : decode cX11_addAgent 83 = .ok (.getfield 72, 3) := by decide +kernel
theorem dX11_addAgent_86 : decode cX11_addAgent 86 = .ok (.iconst 1, 1) := by decide +kernel
theorem dX11_addAgent_87 : decode cX11_addAgent 87 = .ok (.iadd, 1) := by decide +kernel
theorem dX11_addAgent_88 : decode cX11_addAgent 88 = .ok (.putfield 72, 3) := by decide +kernel
theorem dX11_addAgent_91 : decode cX11_addAgent 91 = .ok (.aload_n 0, 1) := by decide +kernel
theorem dX11_addAgent_92 : decode cX11_addAgent 92 = .ok (.getfield 72, 3) := by decide +kernel
theorem dX11_addAgent_95 : decode cX11_addAgent 95 = .ok (.iconst 1, 1) := by decide +kernel
theorem dX11_addAgent_96 : decode cX11_addAgent 96 = .ok (.isub, 1) := by decide +kernel
theorem dX11_addAgent_97 : decode cX11_addAgent 97 = .ok (.ireturn, 1) := by decide +kernel
theorem dX11_send_0 : decode cX11_send 0 = .ok (.iload_n 1, 1) := by decide +kernel
theorem dX11_send_1 : decode cX11_send 1 = .ok (.iconst (-1), 1) := by decide +kernel
theorem dX11_send_2 : decode cX11_send 2 = .ok (.if_icmp .ne 7, 3) := by decide +kernel
theorem dX11_send_5 : decode cX11_send 5 = .ok (.aconst_null, 1) := by decide +kernel
theorem dX11_send_6 : decode cX11_send 6 = .ok (.goto 8, 3) := by decide +kernel
theorem dX11_send_9 : decode cX11_send 9 = .ok (.aload_n 0, 1) := by decide +kernel
theorem dX11_send_10 : decode cX11_send 10 = .ok (.iload_n 1, 1) := by decide +kernel
theorem dX11_send_11 : decode cX11_send 11 = .ok (.invokevirtual 327, 3) := by decide +kernel
theorem dX11_send_14 : decode cX11_send 14 = .ok (.astore 4, 2) := by decide +kernel
theorem dX11_send_16 : decode cX11_send 16 = .ok (.iload_n 3, 1) := by decide +kernel
theorem dX11_send_17 : decode cX11_send 17 = .ok (.bipush (-99), 2) := by decide +kernel
theorem dX11_send_19 : decode cX11_send 19 = .ok (.bipush 99, 2) := by decide +kernel
theorem dX11_send_21 : decode cX11_send 21 = .ok (.invokestatic 256, 3) := by decide +kernel
theorem dX11_send_24 : decode cX11_send 24 = .ok (.ifCond .ne 14, 3) := by decide +kernel
theorem dX11_send_27 : decode cX11_send 27 = .ok (.new 189, 3) := by decide +kernel
theorem dX11_send_30 : decode cX11_send 30 = .ok (.dup, 1) := by decide +kernel
theorem dX11_send_31 : decode cX11_send 31 = .ok (.ldc_w 281, 3) := by decide +kernel
theorem dX11_send_34 : decode cX11_send 34 = .ok (.invokespecial 193, 3) := by decide +kernel
theorem dX11_send_37 : decode cX11_send 37 = .ok (.athrow, 1) := by decide +kernel
theorem dX11_send_38 : decode cX11_send 38 = .ok (.aload_n 0, 1) := by decide +kernel
theorem dX11_send_39 : decode cX11_send 39 = .ok (.iload_n 2, 1) := by decide +kernel
theorem dX11_send_40 : decode cX11_send 40 = .ok (.invokevirtual 454, 3) := by decide +kernel
theorem dX11_send_43 : decode cX11_send 43 = .ok (.astore 5, 2) := by decide +kernel
theorem dX11_send_45 : decode cX11_send 45 = .ok (.aload 4, 2) := by decide +kernel
theorem dX11_send_47 : decode cX11_send 47 = .ok (.ifnonnull 15, 3) := by decide +kernel
theorem dX11_send_50 : decode cX11_send 50 = .ok (.aload 5, 2) := by decide +kernel
theorem dX11_send_52 : decode cX11_send 52 = .ok (.getfield 458, 3) := by decide +kernel
theorem dX11_send_55 : decode cX11_send 55 = .ok (.iload_n 3, 1) := by decide +kernel
theorem dX11_send_56 : decode cX11_send 56 = .ok (.invokevirtual 462, 3) := by decide +kernel
theorem dX11_send_59 : decode cX11_send 59 = .ok (.goto 19, 3) := by decide +kernel
theorem dX11_send_62 : decode cX11_send 62 = .ok (.aload 4, 2) := by decide +kernel
theorem dX11_send_64 : decode cX11_send 64 = .ok (.invokestatic 344, 3) := by decide +kernel
theorem dX11_send_67 : decode cX11_send 67 = .ok (.aload 4, 2) := by decide +kernel
theorem dX11_send_69 : decode cX11_send 69 = .ok (.getfield 467, 3) := by decide +kernel
theorem dX11_send_72 : decode cX11_send 72 = .ok (.iload_n 2, 1) := by decide +kernel
theorem dX11_send_73 : decode cX11_send 73 = .ok (.aaload, 1) := by decide +kernel
theorem dX11_send_74 : decode cX11_send 74 = .ok (.iload_n 3, 1) := by decide +kernel
theorem dX11_send_75 : decode cX11_send 75 = .ok (.invokevirtual 462, 3) := by decide +kernel
theorem dX11_send_78 : decode cX11_send 78 = .ok (.aload 5, 2) := by decide +kernel
theorem dX11_send_80 : decode cX11_send 80 = .ok (.getfield 458, 3) := by decide +kernel
theorem dX11_send_83 : decode cX11_send 83 = .ok (.getfield 471, 3) := by decide +kernel
theorem dX11_send_86 : decode cX11_send 86 = .ok (.ireturn, 1) := by decide +kernel
theorem dX11_act_0 : decode cX11_act 0 = .ok (.aload_n 0, 1) := by decide +kernel
theorem dX11_act_1 : decode cX11_act 1 = .ok (.iload_n 1, 1) := by decide +kernel
theorem dX11_act_2 : decode cX11_act 2 = .ok (.invokevirtual 454, 3) := by decide +kernel
theorem dX11_act_5 : decode cX11_act 5 = .ok (.astore_n 2, 1) := by decide +kernel
theorem dX11_act_6 : decode cX11_act 6 = .ok (.aload_n 2, 1) := by decide +kernel
theorem dX11_act_7 : decode cX11_act 7 = .ok (.getfield 458, 3) := by decide +kernel
theorem dX11_act_10 : decode cX11_act 10 = .ok (.getfield 471, 3) := by decide +kernel
theorem dX11_act_13 : decode cX11_act 13 = .ok (.ifCond .ne 14, 3) := by decide +kernel
theorem dX11_act_16 : decode cX11_act 16 = .ok (.new 137, 3) := by decide +kernel
theorem dX11_act_19 : decode cX11_act 19 = .ok (.dup, 1) := by decide +kernel
theorem dX11_act_20 : decode cX11_act 20 = .ok (.ldc_w 472, 3) := by decide +kernel
theorem dX11_act_23 : decode cX11_act 23 = .ok (.invokespecial 141, 3) := by decide +kernel
theorem dX11_act_26 : decode cX11_act 26 = .ok (.athrow, 1) := by decide +kernel
theorem dX11_act_27 : decode cX11_act 27 = .ok (.aload_n 2, 1) := by decide +kernel
theorem dX11_act_28 : decode cX11_act 28 = .ok (.getfield 474, 3) := by decide +kernel
theorem dX11_act_31 : decode cX11_act 31 = .ok (.ifCond .eq 14, 3) := by decide +kernel
theorem dX11_act_34 : decode cX11_act 34 = .ok (.new 320, 3) := by decide +kernel
theorem dX11_act_37 : decode cX11_act 37 = .ok (.dup, 1) := by decide +kernel
theorem dX11_act_38 : decode cX11_act 38 = .ok (.ldc_w 477, 3) := by decide +kernel
theorem dX11_act_41 : decode cX11_act 41 = .ok (.invokespecial 324, 3) := by decide +kernel
theorem dX11_act_44 : decode cX11_act 44 = .ok (.athrow, 1) := by decide +kernel
theorem dX11_act_45 : decode cX11_act 45 = .ok (.aload_n 2, 1) := by decide +kernel
theorem dX11_act_46 : decode cX11_act 46 = .ok (.invokevirtual 479, 3) := by decide +kernel
theorem dX11_act_49 : decode cX11_act 49 = .ok (.aload_n 2, 1) := by decide +kernel
theorem dX11_act_50 : decode cX11_act 50 = .ok (.getfield 482, 3) := by decide +kernel
theorem dX11_act_53 : decode cX11_act 53 = .ok (.ireturn, 1) := by decide +kernel
theorem dX11_beginAnew_0 : decode cX11_beginAnew 0 = .ok (.aload_n 0, 1) := by decide +kernel
theorem dX11_beginAnew_1 : decode cX11_beginAnew 1 = .ok (.iload_n 1, 1) := by decide +kernel
theorem dX11_beginAnew_2 : decode cX11_beginAnew 2 = .ok (.invokevirtual 454, 3) := by decide +kernel
theorem dX11_beginAnew_5 : decode cX11_beginAnew 5 = .ok (.astore_n 3, 1) := by decide +kernel
theorem dX11_beginAnew_6 : decode cX11_beginAnew 6 = .ok (.iload_n 2, 1) := by decide +kernel
theorem dX11_beginAnew_7 : decode cX11_beginAnew 7 = .ok (.aload_n 3, 1) := by decide +kernel
theorem dX11_beginAnew_8 : decode cX11_beginAnew 8 = .ok (.getfield 485, 3) := by decide +kernel
theorem dX11_beginAnew_11 : decode cX11_beginAnew 11 = .ok (.aload_n 3, 1) := by decide +kernel
theorem dX11_beginAnew_12 : decode cX11_beginAnew 12 = .ok (.getfield 488, 3) := by decide +kernel
theorem dX11_beginAnew_15 : decode cX11_beginAnew 15 = .ok (.invokestatic 256, 3) := by decide +kernel
theorem dX11_beginAnew_18 : decode cX11_beginAnew 18 = .ok (.ifCond .ne 14, 3) := by decide +kernel
theorem dX11_beginAnew_21 : decode cX11_beginAnew 21 = .ok (.new 189, 3) := by decide +kernel
theorem dX11_beginAnew_24 : decode cX11_beginAnew 24 = .ok (.dup, 1) := by decide +kernel
theorem dX11_beginAnew_25 : decode cX11_beginAnew 25 = .ok (.ldc_w 491, 3) := by decide +kernel
theorem dX11_beginAnew_28 : decode cX11_beginAnew 28 = .ok (.invokespecial 193, 3) := by decide +kernel
theorem dX11_beginAnew_31 : decode cX11_beginAnew 31 = .ok (.athrow, 1) := by decide +kernel
theorem dX11_beginAnew_32 : decode cX11_beginAnew 32 = .ok (.aload_n 3, 1) := by decide +kernel
theorem dX11_beginAnew_33 : decode cX11_beginAnew 33 = .ok (.getfield 474, 3) := by decide +kernel
theorem dX11_beginAnew_36 : decode cX11_beginAnew 36 = .ok (.ifCond .ne 14, 3) := by decide +kernel
theorem dX11_beginAnew_39 : decode cX11_beginAnew 39 = .ok (.new 320, 3) := by decide +kernel
theorem dX11_beginAnew_42 : decode cX11_beginAnew 42 = .ok (.dup, 1) := by decide +kernel
theorem dX11_beginAnew_43 : decode cX11_beginAnew 43 = .ok (.ldc_w 493, 3) := by decide +kernel
theorem dX11_beginAnew_46 : decode cX11_beginAnew 46 = .ok (.invokespecial 324, 3) := by decide +kernel
theorem dX11_beginAnew_49 : decode cX11_beginAnew 49 = .ok (.athrow, 1) := by decide +kernel
theorem dX11_beginAnew_50 : decode cX11_beginAnew 50 = .ok (.aload_n 3, 1) := by decide +kernel
theorem dX11_beginAnew_51 : decode cX11_beginAnew 51 = .ok (.getfield 482, 3) := by decide +kernel
theorem dX11_beginAnew_54 : decode cX11_beginAnew 54 = .ok (.istore 4, 2) := by decide +kernel
theorem dX11_beginAnew_56 : decode cX11_beginAnew 56 = .ok (.aload_n 3, 1) := by decide +kernel
theorem dX11_beginAnew_57 : decode cX11_beginAnew 57 = .ok (.iload_n 2, 1) := by decide +kernel
theorem dX11_beginAnew_58 : decode cX11_beginAnew 58 = .ok (.putfield 482, 3) := by decide +kernel
theorem dX11_beginAnew_61 : decode cX11_beginAnew 61 = .ok (.aload_n 3, 1) := by decide +kernel
theorem dX11_beginAnew_62 : decode cX11_beginAnew 62 = .ok (.iconst 0, 1) := by decide +kernel
theorem dX11_beginAnew_63 : decode cX11_beginAnew 63 = .ok (.putfield 474, 3) := by decide +kernel
theorem dX11_beginAnew_66 : decode cX11_beginAnew 66 = .ok (.iload 4, 2) := by decide +kernel
theorem dX11_beginAnew_68 : decode cX11_beginAnew 68 = .ok (.ireturn, 1) := by decide +kernel
theorem dX11_errors_0 : decode cX11_errors 0 = .ok (.aload_n 0, 1) := by decide +kernel
theorem dX11_errors_1 : decode cX11_errors 1 = .ok (.iload_n 1, 1) := by decide +kernel
theorem dX11_errors_2 : decode cX11_errors 2 = .ok (.invokevirtual 454, 3) := by decide +kernel
theorem dX11_errors_5 : decode cX11_errors 5 = .ok (.getfield 495, 3) := by decide +kernel
theorem dX11_errors_8 : decode cX11_errors 8 = .ok (.ireturn, 1) := by decide +kernel
theorem dX11_sharing_0 : decode cX11_sharing 0 = .ok (.iconst 0, 1) := by decide +kernel
theorem dX11_sharing_1 : decode cX11_sharing 1 = .ok (.istore_n 1, 1) := by decide +kernel
theorem dX11_sharing_2 : decode cX11_sharing 2 = .ok (.iconst 0, 1) := by decide +kernel
theorem dX11_sharing_3 : decode cX11_sharing 3 = .ok (.istore_n 2, 1) := by decide +kernel
theorem dX11_sharing_4 : decode cX11_sharing 4 = .ok (.aload_n 0, 1) := by decide +kernel
theorem dX11_sharing_5 : decode cX11_sharing 5 = .ok (.dup, 1) := by decide +kernel
theorem dX11_sharing_6 : decode cX11_sharing 6 = .ok (.getfield 26, 3) := by decide +kernel
theorem dX11_sharing_9 : decode cX11_sharing 9 = .ok (.iconst 1, 1) := by decide +kernel
theorem dX11_sharing_10 : decode cX11_sharing 10 = .ok (.iadd, 1) := by decide +kernel
theorem dX11_sharing_11 : decode cX11_sharing 11 = .ok (.putfield 26, 3) := by decide +kernel
theorem dX11_sharing_14 : decode cX11_sharing 14 = .ok (.iconst 0, 1) := by decide +kernel
theorem dX11_sharing_15 : decode cX11_sharing 15 = .ok (.istore_n 3, 1) := by decide +kernel
theorem dX11_sharing_16 : decode cX11_sharing 16 = .ok (.iload_n 3, 1) := by decide +kernel
theorem dX11_sharing_17 : decode cX11_sharing 17 = .ok (.aload_n 0, 1) := by decide +kernel
theorem dX11_sharing_18 : decode cX11_sharing 18 = .ok (.getfield 15, 3) := by decide +kernel
theorem dX11_sharing_21 : decode cX11_sharing 21 = .ok (.if_icmp .ge 41, 3) := by decide +kernel
theorem dX11_sharing_24 : decode cX11_sharing 24 = .ok (.aload_n 0, 1) := by decide +kernel
theorem dX11_sharing_25 : decode cX11_sharing 25 = .ok (.iload_n 3, 1) := by decide +kernel
theorem dX11_sharing_26 : decode cX11_sharing 26 = .ok (.invokevirtual 87, 3) := by decide +kernel
theorem dX11_sharing_29 : decode cX11_sharing 29 = .ok (.getfield 116, 3) := by decide +kernel
theorem dX11_sharing_32 : decode cX11_sharing 32 = .ok (.astore 4, 2) := by decide +kernel
theorem dX11_sharing_34 : decode cX11_sharing 34 = .ok (.iload_n 1, 1) := by decide +kernel
theorem dX11_sharing_35 : decode cX11_sharing 35 = .ok (.aload 4, 2) := by decide +kernel
theorem dX11_sharing_37 : decode cX11_sharing 37 = .ok (.aload_n 0, 1) := by decide +kernel
theorem dX11_sharing_38 : decode cX11_sharing 38 = .ok (.getfield 26, 3) := by decide +kernel
theorem dX11_sharing_41 : decode cX11_sharing 41 = .ok (.iconst 1, 1) := by decide +kernel
theorem dX11_sharing_42 : decode cX11_sharing 42 = .ok (.invokestatic 244, 3) := by decide +kernel
theorem dX11_sharing_45 : decode cX11_sharing 45 = .ok (.iadd, 1) := by decide +kernel
theorem dX11_sharing_46 : decode cX11_sharing 46 = .ok (.istore_n 1, 1) := by decide +kernel
theorem dX11_sharing_47 : decode cX11_sharing 47 = .ok (.iload_n 2, 1) := by decide +kernel
theorem dX11_sharing_48 : decode cX11_sharing 48 = .ok (.aload 4, 2) := by decide +kernel
theorem dX11_sharing_50 : decode cX11_sharing 50 = .ok (.iconst 1, 1) := by decide +kernel
theorem dX11_sharing_51 : decode cX11_sharing 51 = .ok (.invokestatic 240, 3) := by decide +kernel
theorem dX11_sharing_54 : decode cX11_sharing 54 = .ok (.iadd, 1) := by decide +kernel
theorem dX11_sharing_55 : decode cX11_sharing 55 = .ok (.istore_n 2, 1) := by decide +kernel
theorem dX11_sharing_56 : decode cX11_sharing 56 = .ok (.iinc 3 1, 3) := by decide +kernel
theorem dX11_sharing_59 : decode cX11_sharing 59 = .ok (.goto (-43), 3) := by decide +kernel
theorem dX11_sharing_62 : decode cX11_sharing 62 = .ok (.iload_n 2, 1) := by decide +kernel
theorem dX11_sharing_63 : decode cX11_sharing 63 = .ok (.ifCond .ne 14, 3) := by decide +kernel
theorem dX11_sharing_66 : decode cX11_sharing 66 = .ok (.new 137, 3) := by decide +kernel
theorem dX11_sharing_69 : decode cX11_sharing 69 = .ok (.dup, 1) := by decide +kernel
theorem dX11_sharing_70 : decode cX11_sharing 70 = .ok (.ldc_w 498, 3) := by decide +kernel
theorem dX11_sharing_73 : decode cX11_sharing 73 = .ok (.invokespecial 141, 3) := by decide +kernel
theorem dX11_sharing_76 : decode cX11_sharing 76 = .ok (.athrow, 1) := by decide +kernel
theorem dX11_sharing_77 : decode cX11_sharing 77 = .ok (.iload_n 1, 1) := by decide +kernel
theorem dX11_sharing_78 : decode cX11_sharing 78 = .ok (.i2f, 1) := by decide +kernel
theorem dX11_sharing_79 : decode cX11_sharing 79 = .ok (.iload_n 2, 1) := by decide +kernel
theorem dX11_sharing_80 : decode cX11_sharing 80 = .ok (.i2f, 1) := by decide +kernel
theorem dX11_sharing_81 : decode cX11_sharing 81 = .ok (.fdiv, 1) := by decide +kernel
theorem dX11_sharing_82 : decode cX11_sharing 82 = .ok (.freturn, 1) := by decide +kernel
theorem dX11_valueNumbered_0 : decode cX11_valueNumbered 0 = .ok (.iload_n 1, 1) := by decide +kernel
theorem dX11_valueNumbered_1 : decode cX11_valueNumbered 1 = .ok (.ifCond .lt 11, 3) := by decide +kernel
theorem dX11_valueNumbered_4 : decode cX11_valueNumbered 4 = .ok (.iload_n 1, 1) := by decide +kernel
theorem dX11_valueNumbered_5 : decode cX11_valueNumbered 5 = .ok (.aload_n 0, 1) := by decide +kernel
theorem dX11_valueNumbered_6 : decode cX11_valueNumbered 6 = .ok (.getfield 15, 3) := by decide +kernel
theorem dX11_valueNumbered_9 : decode cX11_valueNumbered 9 = .ok (.if_icmp .lt 7, 3) := by decide +kernel
theorem dX11_valueNumbered_12 : decode cX11_valueNumbered 12 = .ok (.aconst_null, 1) := by decide +kernel
theorem dX11_valueNumbered_13 : decode cX11_valueNumbered 13 = .ok (.goto 9, 3) := by decide +kernel
theorem dX11_valueNumbered_16 : decode cX11_valueNumbered 16 = .ok (.aload_n 0, 1) := by decide +kernel
theorem dX11_valueNumbered_17 : decode cX11_valueNumbered 17 = .ok (.getfield 11, 3) := by decide +kernel
theorem dX11_valueNumbered_20 : decode cX11_valueNumbered 20 = .ok (.iload_n 1, 1) := by decide +kernel
theorem dX11_valueNumbered_21 : decode cX11_valueNumbered 21 = .ok (.aaload, 1) := by decide +kernel
theorem dX11_valueNumbered_22 : decode cX11_valueNumbered 22 = .ok (.astore_n 2, 1) := by decide +kernel
theorem dX11_valueNumbered_23 : decode cX11_valueNumbered 23 = .ok (.aload_n 2, 1) := by decide +kernel
theorem dX11_valueNumbered_24 : decode cX11_valueNumbered 24 = .ok (.ifnonnull 14, 3) := by decide +kernel
theorem dX11_valueNumbered_27 : decode cX11_valueNumbered 27 = .ok (.new 434, 3) := by decide +kernel
theorem dX11_valueNumbered_30 : decode cX11_valueNumbered 30 = .ok (.dup, 1) := by decide +kernel
theorem dX11_valueNumbered_31 : decode cX11_valueNumbered 31 = .ok (.ldc_w 500, 3) := by decide +kernel
theorem dX11_valueNumbered_34 : decode cX11_valueNumbered 34 = .ok (.invokespecial 438, 3) := by decide +kernel
theorem dX11_valueNumbered_37 : decode cX11_valueNumbered 37 = .ok (.athrow, 1) := by decide +kernel
theorem dX11_valueNumbered_38 : decode cX11_valueNumbered 38 = .ok (.aload_n 2, 1) := by decide +kernel
theorem dX11_valueNumbered_39 : decode cX11_valueNumbered 39 = .ok (.areturn, 1) := by decide +kernel
theorem dX11_refuseMoreValues_0 : decode cX11_refuseMoreValues 0 = .ok (.aload_n 0, 1) := by decide +kernel
theorem dX11_refuseMoreValues_1 : decode cX11_refuseMoreValues 1 = .ok (.getfield 15, 3) := by decide +kernel
theorem dX11_refuseMoreValues_4 : decode cX11_refuseMoreValues 4 = .ok (.bipush 60, 2) := by decide +kernel
theorem dX11_refuseMoreValues_6 : decode cX11_refuseMoreValues 6 = .ok (.if_icmp .lt 14, 3) := by decide +kernel
theorem dX11_refuseMoreValues_9 : decode cX11_refuseMoreValues 9 = .ok (.new 320, 3) := by decide +kernel
theorem dX11_refuseMoreValues_12 : decode cX11_refuseMoreValues 12 = .ok (.dup, 1) := by decide +kernel
theorem dX11_refuseMoreValues_13 : decode cX11_refuseMoreValues 13 = .ok (.ldc_w 502, 3) := by decide +kernel
theorem dX11_refuseMoreValues_16 : decode cX11_refuseMoreValues 16 = .ok (.invokespecial 324, 3) := by decide +kernel
theorem dX11_refuseMoreValues_19 : decode cX11_refuseMoreValues 19 = .ok (.athrow, 1) := by decide +kernel
theorem dX11_refuseMoreValues_20 : decode cX11_refuseMoreValues 20 = .ok (.return_, 1) := by decide +kernel
theorem dX11_refuseElement_0 : decode cX11_refuseElement 0 = .ok (.iload_n 0, 1) := by decide +kernel
theorem dX11_refuseElement_1 : decode cX11_refuseElement 1 = .ok (.sipush (-999), 3) := by decide +kernel
theorem dX11_refuseElement_4 : decode cX11_refuseElement 4 = .ok (.sipush 999, 3) := by decide +kernel
theorem dX11_refuseElement_7 : decode cX11_refuseElement 7 = .ok (.invokestatic 256, 3) := by decide +kernel
theorem dX11_refuseElement_10 : decode cX11_refuseElement 10 = .ok (.ifCond .ne 14, 3) := by decide +kernel
theorem dX11_refuseElement_13 : decode cX11_refuseElement 13 = .ok (.new 189, 3) := by decide +kernel
theorem dX11_refuseElement_16 : decode cX11_refuseElement 16 = .ok (.dup, 1) := by decide +kernel
theorem dX11_refuseElement_17 : decode cX11_refuseElement 17 = .ok (.ldc_w 504, 3) := by decide +kernel
theorem dX11_refuseElement_20 : decode cX11_refuseElement 20 = .ok (.invokespecial 193, 3) := by decide +kernel
theorem dX11_refuseElement_23 : decode cX11_refuseElement 23 = .ok (.athrow, 1) := by decide +kernel
theorem dX11_refuseElement_24 : decode cX11_refuseElement 24 = .ok (.return_, 1) := by decide +kernel
theorem dX11_refuseUnless_0 : decode cX11_refuseUnless 0 = .ok (.aload_n 0, 1) := by decide +kernel
theorem dX11_refuseUnless_1 : decode cX11_refuseUnless 1 = .ok (.getfield 179, 3) := by decide +kernel
theorem dX11_refuseUnless_4 : decode cX11_refuseUnless 4 = .ok (.iload_n 1, 1) := by decide +kernel
theorem dX11_refuseUnless_5 : decode cX11_refuseUnless 5 = .ok (.if_icmp .eq 14, 3) := by decide +kernel
theorem dX11_refuseUnless_8 : decode cX11_refuseUnless 8 = .ok (.new 152, 3) := by decide +kernel
theorem dX11_refuseUnless_11 : decode cX11_refuseUnless 11 = .ok (.dup, 1) := by decide +kernel
theorem dX11_refuseUnless_12 : decode cX11_refuseUnless 12 = .ok (.ldc_w 506, 3) := by decide +kernel
theorem dX11_refuseUnless_15 : decode cX11_refuseUnless 15 = .ok (.invokespecial 156, 3) := by decide +kernel
theorem dX11_refuseUnless_18 : decode cX11_refuseUnless 18 = .ok (.athrow, 1) := by decide +kernel
theorem dX11_refuseUnless_19 : decode cX11_refuseUnless 19 = .ok (.return_, 1) := by decide +kernel
theorem dX11_refuseFull_0 : decode cX11_refuseFull 0 = .ok (.aload_n 0, 1) := by decide +kernel
theorem dX11_refuseFull_1 : decode cX11_refuseFull 1 = .ok (.getfield 103, 3) := by decide +kernel
theorem dX11_refuseFull_4 : decode cX11_refuseFull 4 = .ok (.bipush 64, 2) := by decide +kernel
theorem dX11_refuseFull_6 : decode cX11_refuseFull 6 = .ok (.if_icmp .lt 14, 3) := by decide +kernel
theorem dX11_refuseFull_9 : decode cX11_refuseFull 9 = .ok (.new 152, 3) := by decide +kernel
theorem dX11_refuseFull_12 : decode cX11_refuseFull 12 = .ok (.dup, 1) := by decide +kernel
theorem dX11_refuseFull_13 : decode cX11_refuseFull 13 = .ok (.ldc_w 508, 3) := by decide +kernel
theorem dX11_refuseFull_16 : decode cX11_refuseFull 16 = .ok (.invokespecial 156, 3) := by decide +kernel
theorem dX11_refuseFull_19 : decode cX11_refuseFull 19 = .ok (.athrow, 1) := by decide +kernel
theorem dX11_refuseFull_20 : decode cX11_refuseFull 20 = .ok (.return_, 1) := by decide +kernel
theorem dX11_refusePlace_0 : decode cX11_refusePlace 0 = .ok (.iload_n 1, 1) := by decide +kernel
theorem dX11_refusePlace_1 : decode cX11_refusePlace 1 = .ok (.ifCond .lt 11, 3) := by decide +kernel
theorem dX11_refusePlace_4 : decode cX11_refusePlace 4 = .ok (.iload_n 1, 1) := by decide +kernel
theorem dX11_refusePlace_5 : decode cX11_refusePlace 5 = .ok (.aload_n 0, 1) := by decide +kernel
theorem dX11_refusePlace_6 : decode cX11_refusePlace 6 = .ok (.getfield 103, 3) := by decide +kernel
theorem dX11_refusePlace_9 : decode cX11_refusePlace 9 = .ok (.if_icmp .lt 14, 3) := by decide +kernel
theorem dX11_refusePlace_12 : decode cX11_refusePlace 12 = .ok (.new 137, 3) := by decide +kernel
theorem dX11_refusePlace_15 : decode cX11_refusePlace 15 = .ok (.dup, 1) := by decide +kernel
theorem dX11_refusePlace_16 : decode cX11_refusePlace 16 = .ok (.ldc_w 510, 3) := by decide +kernel
theorem dX11_refusePlace_19 : decode cX11_refusePlace 19 = .ok (.invokespecial 141, 3) := by decide +kernel
theorem dX11_refusePlace_22 : decode cX11_refusePlace 22 = .ok (.athrow, 1) := by decide +kernel
theorem dX11_refusePlace_23 : decode cX11_refusePlace 23 = .ok (.return_, 1) := by decide +kernel
theorem dX11_isWithin_0 : decode cX11_isWithin 0 = .ok (.iload_n 0, 1) := by decide +kernel
theorem dX11_isWithin_1 : decode cX11_isWithin 1 = .ok (.iload_n 1, 1) := by decide +kernel
theorem dX11_isWithin_2 : decode cX11_isWithin 2 = .ok (.if_icmp .lt 12, 3) := by decide +kernel
theorem dX11_isWithin_5 : decode cX11_isWithin 5 = .ok (.iload_n 0, 1) := by decide +kernel
theorem dX11_isWithin_6 : decode cX11_isWithin 6 = .ok (.iload_n 2, 1) := by decide +kernel
theorem dX11_isWithin_7 : decode cX11_isWithin 7 = .ok (.if_icmp .gt 7, 3) := by decide +kernel
theorem dX11_isWithin_10 : decode cX11_isWithin 10 = .ok (.iconst 1, 1) := by decide +kernel
theorem dX11_isWithin_11 : decode cX11_isWithin 11 = .ok (.goto 4, 3) := by decide +kernel
theorem dX11_isWithin_14 : decode cX11_isWithin 14 = .ok (.iconst 0, 1) := by decide +kernel
theorem dX11_isWithin_15 : decode cX11_isWithin 15 = .ok (.ireturn, 1) := by decide +kernel
theorem dX11_keep_0 : decode cX11_keep 0 = .ok (.aload_n 0, 1) := by decide +kernel
theorem dX11_keep_1 : decode cX11_keep 1 = .ok (.getfield 11, 3) := by decide +kernel
theorem dX11_keep_4 : decode cX11_keep 4 = .ok (.aload_n 0, 1) := by decide +kernel
theorem dX11_keep_5 : decode cX11_keep 5 = .ok (.getfield 15, 3) := by decide +kernel
theorem dX11_keep_8 : decode cX11_keep 8 = .ok (.aload_n 1, 1) := by decide +kernel
theorem dX11_keep_9 : decode cX11_keep 9 = .ok (.aastore, 1) := by decide +kernel
theorem dX11_keep_10 : decode cX11_keep 10 = .ok (.aload_n 0, 1) := by decide +kernel
theorem dX11_keep_11 : decode cX11_keep 11 = .ok (.dup, 1) := by decide +kernel
theorem dX11_keep_12 : decode cX11_keep 12 = .ok (.getfield 15, 3) := by decide +kernel
theorem dX11_keep_15 : decode cX11_keep 15 = .ok (.iconst 1, 1) := by decide +kernel
theorem dX11_keep_16 : decode cX11_keep 16 = .ok (.iadd, 1) := by decide +kernel
theorem dX11_keep_17 : decode cX11_keep 17 = .ok (.putfield 15, 3) := by decide +kernel
theorem dX11_keep_20 : decode cX11_keep 20 = .ok (.aload_n 0, 1) := by decide +kernel
theorem dX11_keep_21 : decode cX11_keep 21 = .ok (.getfield 15, 3) := by decide +kernel
theorem dX11_keep_24 : decode cX11_keep 24 = .ok (.iconst 1, 1) := by decide +kernel
theorem dX11_keep_25 : decode cX11_keep 25 = .ok (.isub, 1) := by decide +kernel
theorem dX11_keep_26 : decode cX11_keep 26 = .ok (.ireturn, 1) := by decide +kernel
theorem dX11_keepVector_0 : decode cX11_keepVector 0 = .ok (.aload_n 0, 1) := by decide +kernel
theorem dX11_keepVector_1 : decode cX11_keepVector 1 = .ok (.new 9, 3) := by decide +kernel
theorem dX11_keepVector_4 : decode cX11_keepVector 4 = .ok (.dup, 1) := by decide +kernel
theorem dX11_keepVector_5 : decode cX11_keepVector 5 = .ok (.iconst 0, 1) := by decide +kernel
theorem dX11_keepVector_6 : decode cX11_keepVector 6 = .ok (.aload_n 1, 1) := by decide +kernel
theorem dX11_keepVector_7 : decode cX11_keepVector 7 = .ok (.iload_n 2, 1) := by decide +kernel
theorem dX11_keepVector_8 : decode cX11_keepVector 8 = .ok (.aconst_null, 1) := by decide +kernel
theorem dX11_keepVector_9 : decode cX11_keepVector 9 = .ok (.aload_n 3, 1) := by decide +kernel
theorem dX11_keepVector_10 : decode cX11_keepVector 10 = .ok (.invokespecial 161, 3) := by decide +kernel
theorem dX11_keepVector_13 : decode cX11_keepVector 13 = .ok (.invokevirtual 164, 3) := by decide +kernel
theorem dX11_keepVector_16 : decode cX11_keepVector 16 = .ok (.ireturn, 1) := by decide +kernel
theorem dX11_keepMap_0 : decode cX11_keepMap 0 = .ok (.aload_n 0, 1) := by decide +kernel
theorem dX11_keepMap_1 : decode cX11_keepMap 1 = .ok (.new 9, 3) := by decide +kernel
theorem dX11_keepMap_4 : decode cX11_keepMap 4 = .ok (.dup, 1) := by decide +kernel
theorem dX11_keepMap_5 : decode cX11_keepMap 5 = .ok (.iconst 2, 1) := by decide +kernel
theorem dX11_keepMap_6 : decode cX11_keepMap 6 = .ok (.aload_n 1, 1) := by decide +kernel
theorem dX11_keepMap_7 : decode cX11_keepMap 7 = .ok (.iload_n 2, 1) := by decide +kernel
theorem dX11_keepMap_8 : decode cX11_keepMap 8 = .ok (.aload_n 3, 1) := by decide +kernel
theorem dX11_keepMap_9 : decode cX11_keepMap 9 = .ok (.aload 4, 2) := by decide +kernel
theorem dX11_keepMap_11 : decode cX11_keepMap 11 = .ok (.invokespecial 161, 3) := by decide +kernel
theorem dX11_keepMap_14 : decode cX11_keepMap 14 = .ok (.invokevirtual 164, 3) := by decide +kernel
theorem dX11_keepMap_17 : decode cX11_keepMap 17 = .ok (.ireturn, 1) := by decide +kernel
theorem dX11_rowWithout_0 : decode cX11_rowWithout 0 = .ok (.aload_n 0, 1) := by decide +kernel
theorem dX11_rowWithout_1 : decode cX11_rowWithout 1 = .ok (.arraylength, 1) := by decide +kernel
theorem dX11_rowWithout_2 : decode cX11_rowWithout 2 = .ok (.iconst 1, 1) := by decide +kernel
theorem dX11_rowWithout_3 : decode cX11_rowWithout 3 = .ok (.isub, 1) := by decide +kernel
theorem dX11_rowWithout_4 : decode cX11_rowWithout 4 = .ok (.iconst 0, 1) := by decide +kernel
theorem dX11_rowWithout_5 : decode cX11_rowWithout 5 = .ok (.invokestatic 512, 3) := by decide +kernel
theorem dX11_rowWithout_8 : decode cX11_rowWithout 8 = .ok (.newarray .int, 2) := by decide +kernel
theorem dX11_rowWithout_10 : decode cX11_rowWithout 10 = .ok (.astore_n 2, 1) := by decide +kernel
theorem dX11_rowWithout_11 : decode cX11_rowWithout 11 = .ok (.iconst 0, 1) := by decide +kernel
theorem dX11_rowWithout_12 : decode cX11_rowWithout 12 = .ok (.istore_n 3, 1) := by decide +kernel
theorem dX11_rowWithout_13 : decode cX11_rowWithout 13 = .ok (.iload_n 3, 1) := by decide +kernel
theorem dX11_rowWithout_14 : decode cX11_rowWithout 14 = .ok (.aload_n 2, 1) := by decide +kernel
theorem dX11_rowWithout_15 : decode cX11_rowWithout 15 = .ok (.arraylength, 1) := by decide +kernel
theorem dX11_rowWithout_16 : decode cX11_rowWithout 16 = .ok (.if_icmp .ge 28, 3) := by decide +kernel
theorem dX11_rowWithout_19 : decode cX11_rowWithout 19 = .ok (.aload_n 2, 1) := by decide +kernel
theorem dX11_rowWithout_20 : decode cX11_rowWithout 20 = .ok (.iload_n 3, 1) := by decide +kernel
theorem dX11_rowWithout_21 : decode cX11_rowWithout 21 = .ok (.iload_n 3, 1) := by decide +kernel
theorem dX11_rowWithout_22 : decode cX11_rowWithout 22 = .ok (.iload_n 1, 1) := by decide +kernel
theorem dX11_rowWithout_23 : decode cX11_rowWithout 23 = .ok (.if_icmp .ge 9, 3) := by decide +kernel
theorem dX11_rowWithout_26 : decode cX11_rowWithout 26 = .ok (.aload_n 0, 1) := by decide +kernel
theorem dX11_rowWithout_27 : decode cX11_rowWithout 27 = .ok (.iload_n 3, 1) := by decide +kernel
theorem dX11_rowWithout_28 : decode cX11_rowWithout 28 = .ok (.iaload, 1) := by decide +kernel
theorem dX11_rowWithout_29 : decode cX11_rowWithout 29 = .ok (.goto 8, 3) := by decide +kernel
theorem dX11_rowWithout_32 : decode cX11_rowWithout 32 = .ok (.aload_n 0, 1) := by decide +kernel
theorem dX11_rowWithout_33 : decode cX11_rowWithout 33 = .ok (.iload_n 3, 1) := by decide +kernel
theorem dX11_rowWithout_34 : decode cX11_rowWithout 34 = .ok (.iconst 1, 1) := by decide +kernel
theorem dX11_rowWithout_35 : decode cX11_rowWithout 35 = .ok (.iadd, 1) := by decide +kernel
theorem dX11_rowWithout_36 : decode cX11_rowWithout 36 = .ok (.iaload, 1) := by decide +kernel
theorem dX11_rowWithout_37 : decode cX11_rowWithout 37 = .ok (.iastore, 1) := by decide +kernel
theorem dX11_rowWithout_38 : decode cX11_rowWithout 38 = .ok (.iinc 3 1, 3) := by decide +kernel
theorem dX11_rowWithout_41 : decode cX11_rowWithout 41 = .ok (.goto (-28), 3) := by decide +kernel
theorem dX11_rowWithout_44 : decode cX11_rowWithout 44 = .ok (.aload_n 2, 1) := by decide +kernel
theorem dX11_rowWithout_45 : decode cX11_rowWithout 45 = .ok (.areturn, 1) := by decide +kernel
theorem dX11_sameElements_0 : decode cX11_sameElements 0 = .ok (.iconst 0, 1) := by decide +kernel
theorem dX11_sameElements_1 : decode cX11_sameElements 1 = .ok (.istore_n 2, 1) := by decide +kernel
theorem dX11_sameElements_2 : decode cX11_sameElements 2 = .ok (.iload_n 2, 1) := by decide +kernel
theorem dX11_sameElements_3 : decode cX11_sameElements 3 = .ok (.aload_n 0, 1) := by decide +kernel
theorem dX11_sameElements_4 : decode cX11_sameElements 4 = .ok (.getfield 103, 3) := by decide +kernel
theorem dX11_sameElements_7 : decode cX11_sameElements 7 = .ok (.if_icmp .ge 38, 3) := by decide +kernel
theorem dX11_sameElements_10 : decode cX11_sameElements 10 = .ok (.aload_n 0, 1) := by decide +kernel
theorem dX11_sameElements_11 : decode cX11_sameElements 11 = .ok (.getfield 116, 3) := by decide +kernel
theorem dX11_sameElements_14 : decode cX11_sameElements 14 = .ok (.aload_n 0, 1) := by decide +kernel
theorem dX11_sameElements_15 : decode cX11_sameElements 15 = .ok (.getfield 103, 3) := by decide +kernel
theorem dX11_sameElements_18 : decode cX11_sameElements 18 = .ok (.iload_n 2, 1) := by decide +kernel
theorem dX11_sameElements_19 : decode cX11_sameElements 19 = .ok (.invokestatic 129, 3) := by decide +kernel
theorem dX11_sameElements_22 : decode cX11_sameElements 22 = .ok (.aload_n 1, 1) := by decide +kernel
theorem dX11_sameElements_23 : decode cX11_sameElements 23 = .ok (.getfield 116, 3) := by decide +kernel
theorem dX11_sameElements_26 : decode cX11_sameElements 26 = .ok (.aload_n 1, 1) := by decide +kernel
theorem dX11_sameElements_27 : decode cX11_sameElements 27 = .ok (.getfield 103, 3) := by decide +kernel
theorem dX11_sameElements_30 : decode cX11_sameElements 30 = .ok (.iload_n 2, 1) := by decide +kernel
theorem dX11_sameElements_31 : decode cX11_sameElements 31 = .ok (.invokestatic 129, 3) := by decide +kernel
theorem dX11_sameElements_34 : decode cX11_sameElements 34 = .ok (.if_icmp .eq 5, 3) := by decide +kernel
theorem dX11_sameElements_37 : decode cX11_sameElements 37 = .ok (.iconst 0, 1) := by decide +kernel
theorem dX11_sameElements_38 : decode cX11_sameElements 38 = .ok (.ireturn, 1) := by decide +kernel
theorem dX11_sameElements_39 : decode cX11_sameElements 39 = .ok (.iinc 2 1, 3) := by decide +kernel
theorem dX11_sameElements_42 : decode cX11_sameElements 42 = .ok (.goto (-40), 3) := by decide +kernel
theorem dX11_sameElements_45 : decode cX11_sameElements 45 = .ok (.iconst 1, 1) := by decide +kernel
theorem dX11_sameElements_46 : decode cX11_sameElements 46 = .ok (.ireturn, 1) := by decide +kernel
theorem dX11_samePairs_0 : decode cX11_samePairs 0 = .ok (.iconst 0, 1) := by decide +kernel
theorem dX11_samePairs_1 : decode cX11_samePairs 1 = .ok (.istore_n 2, 1) := by decide +kernel
theorem dX11_samePairs_2 : decode cX11_samePairs 2 = .ok (.iload_n 2, 1) := by decide +kernel
theorem dX11_samePairs_3 : decode cX11_samePairs 3 = .ok (.aload_n 0, 1) := by decide +kernel
theorem dX11_samePairs_4 : decode cX11_samePairs 4 = .ok (.getfield 103, 3) := by decide +kernel
theorem dX11_samePairs_7 : decode cX11_samePairs 7 = .ok (.if_icmp .ge 51, 3) := by decide +kernel
theorem dX11_samePairs_10 : decode cX11_samePairs 10 = .ok (.aload_n 0, 1) := by decide +kernel
theorem dX11_samePairs_11 : decode cX11_samePairs 11 = .ok (.iload_n 2, 1) := by decide +kernel
theorem dX11_samePairs_12 : decode cX11_samePairs 12 = .ok (.invokevirtual 518, 3) := by decide +kernel
theorem dX11_samePairs_15 : decode cX11_samePairs 15 = .ok (.istore_n 3, 1) := by decide +kernel
theorem dX11_samePairs_16 : decode cX11_samePairs 16 = .ok (.aload_n 1, 1) := by decide +kernel
theorem dX11_samePairs_17 : decode cX11_samePairs 17 = .ok (.getfield 116, 3) := by decide +kernel
theorem dX11_samePairs_20 : decode cX11_samePairs 20 = .ok (.iload_n 3, 1) := by decide +kernel
theorem dX11_samePairs_21 : decode cX11_samePairs 21 = .ok (.invokestatic 194, 3) := by decide +kernel
theorem dX11_samePairs_24 : decode cX11_samePairs 24 = .ok (.astore 4, 2) := by decide +kernel
theorem dX11_samePairs_26 : decode cX11_samePairs 26 = .ok (.aload 4, 2) := by decide +kernel
theorem dX11_samePairs_28 : decode cX11_samePairs 28 = .ok (.ifnull 22, 3) := by decide +kernel
theorem dX11_samePairs_31 : decode cX11_samePairs 31 = .ok (.aload 4, 2) := by decide +kernel
theorem dX11_samePairs_33 : decode cX11_samePairs 33 = .ok (.aload 4, 2) := by decide +kernel
theorem dX11_samePairs_35 : decode cX11_samePairs 35 = .ok (.iload_n 3, 1) := by decide +kernel
theorem dX11_samePairs_36 : decode cX11_samePairs 36 = .ok (.invokevirtual 202, 3) := by decide +kernel
theorem dX11_samePairs_39 : decode cX11_samePairs 39 = .ok (.invokevirtual 207, 3) := by decide +kernel
theorem dX11_samePairs_42 : decode cX11_samePairs 42 = .ok (.aload_n 0, 1) := by decide +kernel
theorem dX11_samePairs_43 : decode cX11_samePairs 43 = .ok (.iload_n 2, 1) := by decide +kernel
theorem dX11_samePairs_44 : decode cX11_samePairs 44 = .ok (.invokevirtual 234, 3) := by decide +kernel
theorem dX11_samePairs_47 : decode cX11_samePairs 47 = .ok (.if_icmp .eq 5, 3) := by decide +kernel
theorem dX11_samePairs_50 : decode cX11_samePairs 50 = .ok (.iconst 0, 1) := by decide +kernel
theorem dX11_samePairs_51 : decode cX11_samePairs 51 = .ok (.ireturn, 1) := by decide +kernel
theorem dX11_samePairs_52 : decode cX11_samePairs 52 = .ok (.iinc 2 1, 3) := by decide +kernel
theorem dX11_samePairs_55 : decode cX11_samePairs 55 = .ok (.goto (-53), 3) := by decide +kernel
theorem dX11_samePairs_58 : decode cX11_samePairs 58 = .ok (.iconst 1, 1) := by decide +kernel
theorem dX11_samePairs_59 : decode cX11_samePairs 59 = .ok (.ireturn, 1) := by decide +kernel
theorem dX11_countNodes_0 : decode cX11_countNodes 0 = .ok (.aload_n 0, 1) := by decide +kernel
theorem dX11_countNodes_1 : decode cX11_countNodes 1 = .ok (.ifnull 8, 3) := by decide +kernel
theorem dX11_countNodes_4 : decode cX11_countNodes 4 = .ok (.iload_n 1, 1) := by decide +kernel
theorem dX11_countNodes_5 : decode cX11_countNodes 5 = .ok (.iconst 5, 1) := by decide +kernel
theorem dX11_countNodes_6 : decode cX11_countNodes 6 = .ok (.if_icmp .le 5, 3) := by decide +kernel
theorem dX11_countNodes_9 : decode cX11_countNodes 9 = .ok (.iconst 0, 1) := by decide +kernel
theorem dX11_countNodes_10 : decode cX11_countNodes 10 = .ok (.ireturn, 1) := by decide +kernel
theorem dX11_countNodes_11 : decode cX11_countNodes 11 = .ok (.iconst 1, 1) := by decide +kernel
theorem dX11_countNodes_12 : decode cX11_countNodes 12 = .ok (.istore_n 2, 1) := by decide +kernel
theorem dX11_countNodes_13 : decode cX11_countNodes 13 = .ok (.aload_n 0, 1) := by decide +kernel
theorem dX11_countNodes_14 : decode cX11_countNodes 14 = .ok (.getfield 521, 3) := by decide +kernel
theorem dX11_countNodes_17 : decode cX11_countNodes 17 = .ok (.ifnull 45, 3) := by decide +kernel
theorem dX11_countNodes_20 : decode cX11_countNodes 20 = .ok (.aload_n 0, 1) := by decide +kernel
theorem dX11_countNodes_21 : decode cX11_countNodes 21 = .ok (.getfield 521, 3) := by decide +kernel
theorem dX11_countNodes_24 : decode cX11_countNodes 24 = .ok (.astore_n 3, 1) := by decide +kernel
theorem dX11_countNodes_25 : decode cX11_countNodes 25 = .ok (.aload_n 3, 1) := by decide +kernel
theorem dX11_countNodes_26 : decode cX11_countNodes 26 = .ok (.arraylength, 1) := by decide +kernel
theorem dX11_countNodes_27 : decode cX11_countNodes 27 = .ok (.istore 4, 2) := by decide +kernel
theorem dX11_countNodes_29 : decode cX11_countNodes 29 = .ok (.iconst 0, 1) := by decide +kernel
theorem dX11_countNodes_30 : decode cX11_countNodes 30 = .ok (.istore 5, 2) := by decide +kernel
theorem dX11_countNodes_32 : decode cX11_countNodes 32 = .ok (.iload 5, 2) := by decide +kernel
theorem dX11_countNodes_34 : decode cX11_countNodes 34 = .ok (.iload 4, 2) := by decide +kernel
theorem dX11_countNodes_36 : decode cX11_countNodes 36 = .ok (.if_icmp .ge 26, 3) := by decide +kernel
theorem dX11_countNodes_39 : decode cX11_countNodes 39 = .ok (.aload_n 3, 1) := by decide +kernel
theorem dX11_countNodes_40 : decode cX11_countNodes 40 = .ok (.iload 5, 2) := by decide +kernel
theorem dX11_countNodes_42 : decode cX11_countNodes 42 = .ok (.aaload, 1) := by decide +kernel
theorem dX11_countNodes_43 : decode cX11_countNodes 43 = .ok (.astore 6, 2) := by decide +kernel
theorem dX11_countNodes_45 : decode cX11_countNodes 45 = .ok (.iload_n 2, 1) := by decide +kernel
theorem dX11_countNodes_46 : decode cX11_countNodes 46 = .ok (.aload 6, 2) := by decide +kernel
theorem dX11_countNodes_48 : decode cX11_countNodes 48 = .ok (.iload_n 1, 1) := by decide +kernel
theorem dX11_countNodes_49 : decode cX11_countNodes 49 = .ok (.iconst 1, 1) := by decide +kernel
theorem dX11_countNodes_50 : decode cX11_countNodes 50 = .ok (.iadd, 1) := by decide +kernel
theorem dX11_countNodes_51 : decode cX11_countNodes 51 = .ok (.invokestatic 240, 3) := by decide +kernel
theorem dX11_countNodes_54 : decode cX11_countNodes 54 = .ok (.iadd, 1) := by decide +kernel
theorem dX11_countNodes_55 : decode cX11_countNodes 55 = .ok (.istore_n 2, 1) := by decide +kernel
theorem dX11_countNodes_56 : decode cX11_countNodes 56 = .ok (.iinc 5 1, 3) := by decide +kernel
theorem dX11_countNodes_59 : decode cX11_countNodes 59 = .ok (.goto (-27), 3) := by decide +kernel
theorem dX11_countNodes_62 : decode cX11_countNodes 62 = .ok (.iload_n 2, 1) := by decide +kernel
theorem dX11_countNodes_63 : decode cX11_countNodes 63 = .ok (.ireturn, 1) := by decide +kernel
theorem dX11_markNodes_0 : decode cX11_markNodes 0 = .ok (.aload_n 0, 1) := by decide +kernel
theorem dX11_markNodes_1 : decode cX11_markNodes 1 = .ok (.ifnull 8, 3) := by decide +kernel
theorem dX11_markNodes_4 : decode cX11_markNodes 4 = .ok (.iload_n 2, 1) := by decide +kernel
theorem dX11_markNodes_5 : decode cX11_markNodes 5 = .ok (.iconst 5, 1) := by decide +kernel
theorem dX11_markNodes_6 : decode cX11_markNodes 6 = .ok (.if_icmp .le 5, 3) := by decide +kernel
theorem dX11_markNodes_9 : decode cX11_markNodes 9 = .ok (.iconst 0, 1) := by decide +kernel
theorem dX11_markNodes_10 : decode cX11_markNodes 10 = .ok (.ireturn, 1) := by decide +kernel
theorem dX11_markNodes_11 : decode cX11_markNodes 11 = .ok (.aload_n 0, 1) := by decide +kernel
theorem dX11_markNodes_12 : decode cX11_markNodes 12 = .ok (.getfield 525, 3) := by decide +kernel
theorem dX11_markNodes_15 : decode cX11_markNodes 15 = .ok (.iload_n 1, 1) := by decide +kernel
theorem dX11_markNodes_16 : decode cX11_markNodes 16 = .ok (.if_icmp .ne 7, 3) := by decide +kernel
theorem dX11_markNodes_19 : decode cX11_markNodes 19 = .ok (.iconst 0, 1) := by decide +kernel
theorem dX11_markNodes_20 : decode cX11_markNodes 20 = .ok (.goto 4, 3) := by decide +kernel
theorem dX11_markNodes_23 : decode cX11_markNodes 23 = .ok (.iconst 1, 1) := by decide +kernel
theorem dX11_markNodes_24 : decode cX11_markNodes 24 = .ok (.istore_n 3, 1) := by decide +kernel
theorem dX11_markNodes_25 : decode cX11_markNodes 25 = .ok (.aload_n 0, 1) := by decide +kernel
theorem dX11_markNodes_26 : decode cX11_markNodes 26 = .ok (.iload_n 1, 1) := by decide +kernel
theorem dX11_markNodes_27 : decode cX11_markNodes 27 = .ok (.putfield 525, 3) := by decide +kernel
theorem dX11_markNodes_30 : decode cX11_markNodes 30 = .ok (.aload_n 0, 1) := by decide +kernel
theorem dX11_markNodes_31 : decode cX11_markNodes 31 = .ok (.getfield 521, 3) := by decide +kernel
theorem dX11_markNodes_34 : decode cX11_markNodes 34 = .ok (.ifnull 49, 3) := by decide +kernel
theorem dX11_markNodes_37 : decode cX11_markNodes 37 = .ok (.aload_n 0, 1) := by decide +kernel
theorem dX11_markNodes_38 : decode cX11_markNodes 38 = .ok (.getfield 521, 3) := by decide +kernel
theorem dX11_markNodes_41 : decode cX11_markNodes 41 = .ok (.astore 4, 2) := by decide +kernel
theorem dX11_markNodes_43 : decode cX11_markNodes 43 = .ok (.aload 4, 2) := by decide +kernel
theorem dX11_markNodes_45 : decode cX11_markNodes 45 = .ok (.arraylength, 1) := by decide +kernel
theorem dX11_markNodes_46 : decode cX11_markNodes 46 = .ok (.istore 5, 2) := by decide +kernel
theorem dX11_markNodes_48 : decode cX11_markNodes 48 = .ok (.iconst 0, 1) := by decide +kernel
theorem dX11_markNodes_49 : decode cX11_markNodes 49 = .ok (.istore 6, 2) := by decide +kernel
theorem dX11_markNodes_51 : decode cX11_markNodes 51 = .ok (.iload 6, 2) := by decide +kernel
theorem dX11_markNodes_53 : decode cX11_markNodes 53 = .ok (.iload 5, 2) := by decide +kernel
theorem dX11_markNodes_55 : decode cX11_markNodes 55 = .ok (.if_icmp .ge 28, 3) := by decide +kernel
theorem dX11_markNodes_58 : decode cX11_markNodes 58 = .ok (.aload 4, 2) := by decide +kernel
theorem dX11_markNodes_60 : decode cX11_markNodes 60 = .ok (.iload 6, 2) := by decide +kernel
theorem dX11_markNodes_62 : decode cX11_markNodes 62 = .ok (.aaload, 1) := by decide +kernel
theorem dX11_markNodes_63 : decode cX11_markNodes 63 = .ok (.astore 7, 2) := by decide +kernel
theorem dX11_markNodes_65 : decode cX11_markNodes 65 = .ok (.iload_n 3, 1) := by decide +kernel
theorem dX11_markNodes_66 : decode cX11_markNodes 66 = .ok (.aload 7, 2) := by decide +kernel
theorem dX11_markNodes_68 : decode cX11_markNodes 68 = .ok (.iload_n 1, 1) := by decide +kernel
theorem dX11_markNodes_69 : decode cX11_markNodes 69 = .ok (.iload_n 2, 1) := by decide +kernel
theorem dX11_markNodes_70 : decode cX11_markNodes 70 = .ok (.iconst 1, 1) := by decide +kernel
theorem dX11_markNodes_71 : decode cX11_markNodes 71 = .ok (.iadd, 1) := by decide +kernel
theorem dX11_markNodes_72 : decode cX11_markNodes 72 = .ok (.invokestatic 244, 3) := by decide +kernel
theorem dX11_markNodes_75 : decode cX11_markNodes 75 = .ok (.iadd, 1) := by decide +kernel
theorem dX11_markNodes_76 : decode cX11_markNodes 76 = .ok (.istore_n 3, 1) := by decide +kernel
theorem dX11_markNodes_77 : decode cX11_markNodes 77 = .ok (.iinc 6 1, 3) := by decide +kernel
theorem dX11_markNodes_80 : decode cX11_markNodes 80 = .ok (.goto (-29), 3) := by decide +kernel
theorem dX11_markNodes_83 : decode cX11_markNodes 83 = .ok (.iload_n 3, 1) := by decide +kernel
theorem dX11_markNodes_84 : decode cX11_markNodes 84 = .ok (.ireturn, 1) := by decide +kernel
theorem dX11_sequenceNumbered_0 : decode cX11_sequenceNumbered 0 = .ok (.iload_n 1, 1) := by decide +kernel
theorem dX11_sequenceNumbered_1 : decode cX11_sequenceNumbered 1 = .ok (.ifCond .lt 11, 3) := by decide +kernel
theorem dX11_sequenceNumbered_4 : decode cX11_sequenceNumbered 4 = .ok (.iload_n 1, 1) := by decide +kernel
theorem dX11_sequenceNumbered_5 : decode cX11_sequenceNumbered 5 = .ok (.aload_n 0, 1) := by decide +kernel
theorem dX11_sequenceNumbered_6 : decode cX11_sequenceNumbered 6 = .ok (.getfield 35, 3) := by decide +kernel
theorem dX11_sequenceNumbered_9 : decode cX11_sequenceNumbered 9 = .ok (.if_icmp .lt 7, 3) := by decide +kernel
theorem dX11_sequenceNumbered_12 : decode cX11_sequenceNumbered 12 = .ok (.aconst_null, 1) := by decide +kernel
theorem dX11_sequenceNumbered_13 : decode cX11_sequenceNumbered 13 = .ok (.goto 9, 3) := by decide +kernel
theorem dX11_sequenceNumbered_16 : decode cX11_sequenceNumbered 16 = .ok (.aload_n 0, 1) := by decide +kernel
theorem dX11_sequenceNumbered_17 : decode cX11_sequenceNumbered 17 = .ok (.getfield 31, 3) := by decide +kernel
theorem dX11_sequenceNumbered_20 : decode cX11_sequenceNumbered 20 = .ok (.iload_n 1, 1) := by decide +kernel
theorem dX11_sequenceNumbered_21 : decode cX11_sequenceNumbered 21 = .ok (.aaload, 1) := by decide +kernel
theorem dX11_sequenceNumbered_22 : decode cX11_sequenceNumbered 22 = .ok (.astore_n 2, 1) := by decide +kernel
theorem dX11_sequenceNumbered_23 : decode cX11_sequenceNumbered 23 = .ok (.aload_n 2, 1) := by decide +kernel
theorem dX11_sequenceNumbered_24 : decode cX11_sequenceNumbered 24 = .ok (.ifnonnull 14, 3) := by decide +kernel
theorem dX11_sequenceNumbered_27 : decode cX11_sequenceNumbered 27 = .ok (.new 434, 3) := by decide +kernel
theorem dX11_sequenceNumbered_30 : decode cX11_sequenceNumbered 30 = .ok (.dup, 1) := by decide +kernel
theorem dX11_sequenceNumbered_31 : decode cX11_sequenceNumbered 31 = .ok (.ldc_w 528, 3) := by decide +kernel
theorem dX11_sequenceNumbered_34 : decode cX11_sequenceNumbered 34 = .ok (.invokespecial 438, 3) := by decide +kernel
theorem dX11_sequenceNumbered_37 : decode cX11_sequenceNumbered 37 = .ok (.athrow, 1) := by decide +kernel
theorem dX11_sequenceNumbered_38 : decode cX11_sequenceNumbered 38 = .ok (.aload_n 2, 1) := by decide +kernel
theorem dX11_sequenceNumbered_39 : decode cX11_sequenceNumbered 39 = .ok (.areturn, 1) := by decide +kernel
theorem dX11_refuseMoreSequences_0 : decode cX11_refuseMoreSequences 0 = .ok (.aload_n 0, 1) := by decide +kernel
theorem dX11_refuseMoreSequences_1 : decode cX11_refuseMoreSequences 1 = .ok (.getfield 35, 3) := by decide +kernel
theorem dX11_refuseMoreSequences_4 : decode cX11_refuseMoreSequences 4 = .ok (.bipush 12, 2) := by decide +kernel
theorem dX11_refuseMoreSequences_6 : decode cX11_refuseMoreSequences 6 = .ok (.if_icmp .lt 14, 3) := by decide +kernel
theorem dX11_refuseMoreSequences_9 : decode cX11_refuseMoreSequences 9 = .ok (.new 320, 3) := by decide +kernel
theorem dX11_refuseMoreSequences_12 : decode cX11_refuseMoreSequences 12 = .ok (.dup, 1) := by decide +kernel
theorem dX11_refuseMoreSequences_13 : decode cX11_refuseMoreSequences 13 = .ok (.ldc_w 530, 3) := by decide +kernel
theorem dX11_refuseMoreSequences_16 : decode cX11_refuseMoreSequences 16 = .ok (.invokespecial 324, 3) := by decide +kernel
theorem dX11_refuseMoreSequences_19 : decode cX11_refuseMoreSequences 19 = .ok (.athrow, 1) := by decide +kernel
theorem dX11_refuseMoreSequences_20 : decode cX11_refuseMoreSequences 20 = .ok (.return_, 1) := by decide +kernel
theorem dX11_refuseBroken_0 : decode cX11_refuseBroken 0 = .ok (.aload_n 0, 1) := by decide +kernel
theorem dX11_refuseBroken_1 : decode cX11_refuseBroken 1 = .ok (.getfield 532, 3) := by decide +kernel
theorem dX11_refuseBroken_4 : decode cX11_refuseBroken 4 = .ok (.ifCond .eq 14, 3) := by decide +kernel
theorem dX11_refuseBroken_7 : decode cX11_refuseBroken 7 = .ok (.new 152, 3) := by decide +kernel
theorem dX11_refuseBroken_10 : decode cX11_refuseBroken 10 = .ok (.dup, 1) := by decide +kernel
theorem dX11_refuseBroken_11 : decode cX11_refuseBroken 11 = .ok (.ldc_w 535, 3) := by decide +kernel
theorem dX11_refuseBroken_14 : decode cX11_refuseBroken 14 = .ok (.invokespecial 156, 3) := by decide +kernel
theorem dX11_refuseBroken_17 : decode cX11_refuseBroken 17 = .ok (.athrow, 1) := by decide +kernel
theorem dX11_refuseBroken_18 : decode cX11_refuseBroken 18 = .ok (.return_, 1) := by decide +kernel
theorem dX11_keepSequence_0 : decode cX11_keepSequence 0 = .ok (.aload_n 0, 1) := by decide +kernel
theorem dX11_keepSequence_1 : decode cX11_keepSequence 1 = .ok (.getfield 31, 3) := by decide +kernel
theorem dX11_keepSequence_4 : decode cX11_keepSequence 4 = .ok (.aload_n 0, 1) := by decide +kernel
theorem dX11_keepSequence_5 : decode cX11_keepSequence 5 = .ok (.getfield 35, 3) := by decide +kernel
theorem dX11_keepSequence_8 : decode cX11_keepSequence 8 = .ok (.aload_n 1, 1) := by decide +kernel
theorem dX11_keepSequence_9 : decode cX11_keepSequence 9 = .ok (.aastore, 1) := by decide +kernel
theorem dX11_keepSequence_10 : decode cX11_keepSequence 10 = .ok (.aload_n 0, 1) := by decide +kernel
theorem dX11_keepSequence_11 : decode cX11_keepSequence 11 = .ok (.dup, 1) := by decide +kernel
theorem dX11_keepSequence_12 : decode cX11_keepSequence 12 = .ok (.getfield 35, 3) := by decide +kernel
theorem dX11_keepSequence_15 : decode cX11_keepSequence 15 = .ok (.iconst 1, 1) := by decide +kernel
theorem dX11_keepSequence_16 : decode cX11_keepSequence 16 = .ok (.iadd, 1) := by decide +kernel
theorem dX11_keepSequence_17 : decode cX11_keepSequence 17 = .ok (.putfield 35, 3) := by decide +kernel
theorem dX11_keepSequence_20 : decode cX11_keepSequence 20 = .ok (.aload_n 0, 1) := by decide +kernel
theorem dX11_keepSequence_21 : decode cX11_keepSequence 21 = .ok (.getfield 35, 3) := by decide +kernel
theorem dX11_keepSequence_24 : decode cX11_keepSequence 24 = .ok (.iconst 1, 1) := by decide +kernel
theorem dX11_keepSequence_25 : decode cX11_keepSequence 25 = .ok (.isub, 1) := by decide +kernel
theorem dX11_keepSequence_26 : decode cX11_keepSequence 26 = .ok (.ireturn, 1) := by decide +kernel
theorem dX11_realise_0 : decode cX11_realise 0 = .ok (.aload_n 0, 1) := by decide +kernel
theorem dX11_realise_1 : decode cX11_realise 1 = .ok (.astore_n 3, 1) := by decide +kernel
theorem dX11_realise_2 : decode cX11_realise 2 = .ok (.iload_n 1, 1) := by decide +kernel
theorem dX11_realise_3 : decode cX11_realise 3 = .ok (.istore 4, 2) := by decide +kernel
theorem dX11_realise_5 : decode cX11_realise 5 = .ok (.iload_n 2, 1) := by decide +kernel
theorem dX11_realise_6 : decode cX11_realise 6 = .ok (.istore 5, 2) := by decide +kernel
theorem dX11_realise_8 : decode cX11_realise 8 = .ok (.iconst 0, 1) := by decide +kernel
theorem dX11_realise_9 : decode cX11_realise 9 = .ok (.istore 6, 2) := by decide +kernel
theorem dX11_realise_11 : decode cX11_realise 11 = .ok (.iload 6, 2) := by decide +kernel
theorem dX11_realise_13 : decode cX11_realise 13 = .ok (.bipush 12, 2) := by decide +kernel
theorem dX11_realise_15 : decode cX11_realise 15 = .ok (.if_icmp .ge 70, 3) := by decide +kernel
theorem dX11_realise_18 : decode cX11_realise 18 = .ok (.aload_n 3, 1) := by decide +kernel
theorem dX11_realise_19 : decode cX11_realise 19 = .ok (.ifnull 66, 3) := by decide +kernel
theorem dX11_realise_22 : decode cX11_realise 22 = .ok (.aload_n 3, 1) := by decide +kernel
theorem dX11_realise_23 : decode cX11_realise 23 = .ok (.aload_n 3, 1) := by decide +kernel
theorem dX11_realise_24 : decode cX11_realise 24 = .ok (.getfield 308, 3) := by decide +kernel
theorem dX11_realise_27 : decode cX11_realise 27 = .ok (.iload 4, 2) := by decide +kernel
theorem dX11_realise_29 : decode cX11_realise 29 = .ok (.invokestatic 512, 3) := by decide +kernel
theorem dX11_realise_32 : decode cX11_realise 32 = .ok (.putfield 308, 3) := by decide +kernel
theorem dX11_realise_35 : decode cX11_realise 35 = .ok (.iload 5, 2) := by decide +kernel
theorem dX11_realise_37 : decode cX11_realise 37 = .ok (.ifCond .eq 14, 3) := by decide +kernel
theorem dX11_realise_40 : decode cX11_realise 40 = .ok (.aload_n 3, 1) := by decide +kernel
theorem dX11_realise_41 : decode cX11_realise 41 = .ok (.invokevirtual 537, 3) := by decide +kernel
theorem dX11_realise_44 : decode cX11_realise 44 = .ok (.ifCond .eq 7, 3) := by decide +kernel
theorem dX11_realise_47 : decode cX11_realise 47 = .ok (.iconst 1, 1) := by decide +kernel
theorem dX11_realise_48 : decode cX11_realise 48 = .ok (.goto 4, 3) := by decide +kernel
theorem dX11_realise_51 : decode cX11_realise 51 = .ok (.iconst 0, 1) := by decide +kernel
theorem dX11_realise_52 : decode cX11_realise 52 = .ok (.istore 5, 2) := by decide +kernel
theorem dX11_realise_54 : decode cX11_realise 54 = .ok (.aload_n 3, 1) := by decide +kernel
theorem dX11_realise_55 : decode cX11_realise 55 = .ok (.iload 4, 2) := by decide +kernel
theorem dX11_realise_57 : decode cX11_realise 57 = .ok (.iload 5, 2) := by decide +kernel
theorem dX11_realise_59 : decode cX11_realise 59 = .ok (.invokevirtual 540, 3) := by decide +kernel
theorem dX11_realise_62 : decode cX11_realise 62 = .ok (.istore 4, 2) := by decide +kernel
theorem dX11_realise_64 : decode cX11_realise 64 = .ok (.iload 4, 2) := by decide +kernel
theorem dX11_realise_66 : decode cX11_realise 66 = .ok (.iconst (-1), 1) := by decide +kernel
theorem dX11_realise_67 : decode cX11_realise 67 = .ok (.if_icmp .ne 7, 3) := by decide +kernel
theorem dX11_realise_70 : decode cX11_realise 70 = .ok (.aconst_null, 1) := by decide +kernel
theorem dX11_realise_71 : decode cX11_realise 71 = .ok (.goto 7, 3) := by decide +kernel
theorem dX11_realise_74 : decode cX11_realise 74 = .ok (.aload_n 3, 1) := by decide +kernel
theorem dX11_realise_75 : decode cX11_realise 75 = .ok (.getfield 544, 3) := by decide +kernel
theorem dX11_realise_78 : decode cX11_realise 78 = .ok (.astore_n 3, 1) := by decide +kernel
theorem dX11_realise_79 : decode cX11_realise 79 = .ok (.iinc 6 1, 3) := by decide +kernel
theorem dX11_realise_82 : decode cX11_realise 82 = .ok (.goto (-71), 3) := by decide +kernel
theorem dX11_realise_85 : decode cX11_realise 85 = .ok (.return_, 1) := by decide +kernel
theorem dX11_refuseBounds_0 : decode cX11_refuseBounds 0 = .ok (.iload_n 1, 1) := by decide +kernel
theorem dX11_refuseBounds_1 : decode cX11_refuseBounds 1 = .ok (.sipush (-999), 3) := by decide +kernel
theorem dX11_refuseBounds_4 : decode cX11_refuseBounds 4 = .ok (.if_icmp .lt 19, 3) := by decide +kernel
theorem dX11_refuseBounds_7 : decode cX11_refuseBounds 7 = .ok (.iload_n 2, 1) := by decide +kernel
theorem dX11_refuseBounds_8 : decode cX11_refuseBounds 8 = .ok (.sipush 999, 3) := by decide +kernel
theorem dX11_refuseBounds_11 : decode cX11_refuseBounds 11 = .ok (.if_icmp .gt 12, 3) := by decide +kernel
theorem dX11_refuseBounds_14 : decode cX11_refuseBounds 14 = .ok (.iload_n 0, 1) := by decide +kernel
theorem dX11_refuseBounds_15 : decode cX11_refuseBounds 15 = .ok (.iload_n 1, 1) := by decide +kernel
theorem dX11_refuseBounds_16 : decode cX11_refuseBounds 16 = .ok (.iload_n 2, 1) := by decide +kernel
theorem dX11_refuseBounds_17 : decode cX11_refuseBounds 17 = .ok (.invokestatic 256, 3) := by decide +kernel
theorem dX11_refuseBounds_20 : decode cX11_refuseBounds 20 = .ok (.ifCond .ne 14, 3) := by decide +kernel
theorem dX11_refuseBounds_23 : decode cX11_refuseBounds 23 = .ok (.new 189, 3) := by decide +kernel
theorem dX11_refuseBounds_26 : decode cX11_refuseBounds 26 = .ok (.dup, 1) := by decide +kernel
theorem dX11_refuseBounds_27 : decode cX11_refuseBounds 27 = .ok (.ldc_w 548, 3) := by decide +kernel
theorem dX11_refuseBounds_30 : decode cX11_refuseBounds 30 = .ok (.invokespecial 193, 3) := by decide +kernel
theorem dX11_refuseBounds_33 : decode cX11_refuseBounds 33 = .ok (.athrow, 1) := by decide +kernel
theorem dX11_refuseBounds_34 : decode cX11_refuseBounds 34 = .ok (.return_, 1) := by decide +kernel
theorem dX11_referenceNumbered_0 : decode cX11_referenceNumbered 0 = .ok (.iload_n 1, 1) := by decide +kernel
theorem dX11_referenceNumbered_1 : decode cX11_referenceNumbered 1 = .ok (.ifCond .lt 11, 3) := by decide +kernel
theorem dX11_referenceNumbered_4 : decode cX11_referenceNumbered 4 = .ok (.iload_n 1, 1) := by decide +kernel
theorem dX11_referenceNumbered_5 : decode cX11_referenceNumbered 5 = .ok (.aload_n 0, 1) := by decide +kernel
theorem dX11_referenceNumbered_6 : decode cX11_referenceNumbered 6 = .ok (.getfield 44, 3) := by decide +kernel
theorem dX11_referenceNumbered_9 : decode cX11_referenceNumbered 9 = .ok (.if_icmp .lt 7, 3) := by decide +kernel
theorem dX11_referenceNumbered_12 : decode cX11_referenceNumbered 12 = .ok (.aconst_null, 1) := by decide +kernel
theorem dX11_referenceNumbered_13 : decode cX11_referenceNumbered 13 = .ok (.goto 9, 3) := by decide +kernel
theorem dX11_referenceNumbered_16 : decode cX11_referenceNumbered 16 = .ok (.aload_n 0, 1) := by decide +kernel
theorem dX11_referenceNumbered_17 : decode cX11_referenceNumbered 17 = .ok (.getfield 40, 3) := by decide +kernel
theorem dX11_referenceNumbered_20 : decode cX11_referenceNumbered 20 = .ok (.iload_n 1, 1) := by decide +kernel
theorem dX11_referenceNumbered_21 : decode cX11_referenceNumbered 21 = .ok (.aaload, 1) := by decide +kernel
theorem dX11_referenceNumbered_22 : decode cX11_referenceNumbered 22 = .ok (.astore_n 2, 1) := by decide +kernel
theorem dX11_referenceNumbered_23 : decode cX11_referenceNumbered 23 = .ok (.aload_n 2, 1) := by decide +kernel
theorem dX11_referenceNumbered_24 : decode cX11_referenceNumbered 24 = .ok (.ifnonnull 14, 3) := by decide +kernel
theorem dX11_referenceNumbered_27 : decode cX11_referenceNumbered 27 = .ok (.new 434, 3) := by decide +kernel
theorem dX11_referenceNumbered_30 : decode cX11_referenceNumbered 30 = .ok (.dup, 1) := by decide +kernel
theorem dX11_referenceNumbered_31 : decode cX11_referenceNumbered 31 = .ok (.ldc_w 550, 3) := by decide +kernel
theorem dX11_referenceNumbered_34 : decode cX11_referenceNumbered 34 = .ok (.invokespecial 438, 3) := by decide +kernel
theorem dX11_referenceNumbered_37 : decode cX11_referenceNumbered 37 = .ok (.athrow, 1) := by decide +kernel
theorem dX11_referenceNumbered_38 : decode cX11_referenceNumbered 38 = .ok (.aload_n 2, 1) := by decide +kernel
theorem dX11_referenceNumbered_39 : decode cX11_referenceNumbered 39 = .ok (.areturn, 1) := by decide +kernel
theorem dX11_transactionNumbered_0 : decode cX11_transactionNumbered 0 = .ok (.iload_n 1, 1) := by decide +kernel
theorem dX11_transactionNumbered_1 : decode cX11_transactionNumbered 1 = .ok (.ifCond .lt 8, 3) := by decide +kernel
theorem dX11_transactionNumbered_4 : decode cX11_transactionNumbered 4 = .ok (.iload_n 1, 1) := by decide +kernel
theorem dX11_transactionNumbered_5 : decode cX11_transactionNumbered 5 = .ok (.iconst 3, 1) := by decide +kernel
theorem dX11_transactionNumbered_6 : decode cX11_transactionNumbered 6 = .ok (.if_icmp .lt 7, 3) := by decide +kernel
theorem dX11_transactionNumbered_9 : decode cX11_transactionNumbered 9 = .ok (.aconst_null, 1) := by decide +kernel
theorem dX11_transactionNumbered_10 : decode cX11_transactionNumbered 10 = .ok (.goto 9, 3) := by decide +kernel
theorem dX11_transactionNumbered_13 : decode cX11_transactionNumbered 13 = .ok (.aload_n 0, 1) := by decide +kernel
theorem dX11_transactionNumbered_14 : decode cX11_transactionNumbered 14 = .ok (.getfield 49, 3) := by decide +kernel
theorem dX11_transactionNumbered_17 : decode cX11_transactionNumbered 17 = .ok (.iload_n 1, 1) := by decide +kernel
theorem dX11_transactionNumbered_18 : decode cX11_transactionNumbered 18 = .ok (.aaload, 1) := by decide +kernel
theorem dX11_transactionNumbered_19 : decode cX11_transactionNumbered 19 = .ok (.astore_n 2, 1) := by decide +kernel
theorem dX11_transactionNumbered_20 : decode cX11_transactionNumbered 20 = .ok (.aload_n 2, 1) := by decide +kernel
theorem dX11_transactionNumbered_21 : decode cX11_transactionNumbered 21 = .ok (.ifnonnull 14, 3) := by decide +kernel
theorem dX11_transactionNumbered_24 : decode cX11_transactionNumbered 24 = .ok (.new 189, 3) := by decide +kernel
theorem dX11_transactionNumbered_27 : decode cX11_transactionNumbered 27 = .ok (.dup, 1) := by decide +kernel
theorem dX11_transactionNumbered_28 : decode cX11_transactionNumbered 28 = .ok (.ldc_w 552, 3) := by decide +kernel
theorem dX11_transactionNumbered_31 : decode cX11_transactionNumbered 31 = .ok (.invokespecial 193, 3) := by decide +kernel
theorem dX11_transactionNumbered_34 : decode cX11_transactionNumbered 34 = .ok (.athrow, 1) := by decide +kernel
theorem dX11_transactionNumbered_35 : decode cX11_transactionNumbered 35 = .ok (.aload_n 2, 1) := by decide +kernel
theorem dX11_transactionNumbered_36 : decode cX11_transactionNumbered 36 = .ok (.areturn, 1) := by decide +kernel
theorem dX11_agentNumbered_0 : decode cX11_agentNumbered 0 = .ok (.iload_n 1, 1) := by decide +kernel
theorem dX11_agentNumbered_1 : decode cX11_agentNumbered 1 = .ok (.ifCond .lt 11, 3) := by decide +kernel
theorem dX11_agentNumbered_4 : decode cX11_agentNumbered 4 = .ok (.iload_n 1, 1) := by decide +kernel
theorem dX11_agentNumbered_5 : decode cX11_agentNumbered 5 = .ok (.aload_n 0, 1) := by decide +kernel
theorem dX11_agentNumbered_6 : decode cX11_agentNumbered 6 = .ok (.getfield 72, 3) := by decide +kernel
theorem dX11_agentNumbered_9 : decode cX11_agentNumbered 9 = .ok (.if_icmp .lt 7, 3) := by decide +kernel
theorem dX11_agentNumbered_12 : decode cX11_agentNumbered 12 = .ok (.aconst_null, 1) := by decide +kernel
theorem dX11_agentNumbered_13 : decode cX11_agentNumbered 13 = .ok (.goto 9, 3) := by decide +kernel
theorem dX11_agentNumbered_16 : decode cX11_agentNumbered 16 = .ok (.aload_n 0, 1) := by decide +kernel
theorem dX11_agentNumbered_17 : decode cX11_agentNumbered 17 = .ok (.getfield 68, 3) := by decide +kernel
theorem dX11_agentNumbered_20 : decode cX11_agentNumbered 20 = .ok (.iload_n 1, 1) := by decide +kernel
theorem dX11_agentNumbered_21 : decode cX11_agentNumbered 21 = .ok (.aaload, 1) := by decide +kernel
theorem dX11_agentNumbered_22 : decode cX11_agentNumbered 22 = .ok (.astore_n 2, 1) := by decide +kernel
theorem dX11_agentNumbered_23 : decode cX11_agentNumbered 23 = .ok (.aload_n 2, 1) := by decide +kernel
theorem dX11_agentNumbered_24 : decode cX11_agentNumbered 24 = .ok (.ifnonnull 14, 3) := by decide +kernel
theorem dX11_agentNumbered_27 : decode cX11_agentNumbered 27 = .ok (.new 434, 3) := by decide +kernel
theorem dX11_agentNumbered_30 : decode cX11_agentNumbered 30 = .ok (.dup, 1) := by decide +kernel
theorem dX11_agentNumbered_31 : decode cX11_agentNumbered 31 = .ok (.ldc_w 554, 3) := by decide +kernel
theorem dX11_agentNumbered_34 : decode cX11_agentNumbered 34 = .ok (.invokespecial 438, 3) := by decide +kernel
theorem dX11_agentNumbered_37 : decode cX11_agentNumbered 37 = .ok (.athrow, 1) := by decide +kernel
theorem dX11_agentNumbered_38 : decode cX11_agentNumbered 38 = .ok (.aload_n 2, 1) := by decide +kernel
theorem dX11_agentNumbered_39 : decode cX11_agentNumbered 39 = .ok (.areturn, 1) := by decide +kernel
theorem dX11_refuseEnded_0 : decode cX11_refuseEnded 0 = .ok (.aload_n 0, 1) := by decide +kernel
theorem dX11_refuseEnded_1 : decode cX11_refuseEnded 1 = .ok (.getfield 331, 3) := by decide +kernel
theorem dX11_refuseEnded_4 : decode cX11_refuseEnded 4 = .ok (.ifCond .ne 14, 3) := by decide +kernel
theorem dX11_refuseEnded_7 : decode cX11_refuseEnded 7 = .ok (.new 320, 3) := by decide +kernel
theorem dX11_refuseEnded_10 : decode cX11_refuseEnded 10 = .ok (.dup, 1) := by decide +kernel
theorem dX11_refuseEnded_11 : decode cX11_refuseEnded 11 = .ok (.ldc_w 556, 3) := by decide +kernel
theorem dX11_refuseEnded_14 : decode cX11_refuseEnded 14 = .ok (.invokespecial 324, 3) := by decide +kernel
theorem dX11_refuseEnded_17 : decode cX11_refuseEnded 17 = .ok (.athrow, 1) := by decide +kernel
theorem dX11_refuseEnded_18 : decode cX11_refuseEnded 18 = .ok (.return_, 1) := by decide +kernel
theorem dX11_holdsPoint_0 : decode cX11_holdsPoint 0 = .ok (.aload_n 2, 1) := by decide +kernel
theorem dX11_holdsPoint_1 : decode cX11_holdsPoint 1 = .ok (.invokevirtual 558, 3) := by decide +kernel
theorem dX11_holdsPoint_4 : decode cX11_holdsPoint 4 = .ok (.aload_n 1, 1) := by decide +kernel
theorem dX11_holdsPoint_5 : decode cX11_holdsPoint 5 = .ok (.getfield 355, 3) := by decide +kernel
theorem dX11_holdsPoint_8 : decode cX11_holdsPoint 8 = .ok (.if_icmp .gt 5, 3) := by decide +kernel
theorem dX11_holdsPoint_11 : decode cX11_holdsPoint 11 = .ok (.iconst 1, 1) := by decide +kernel
theorem dX11_holdsPoint_12 : decode cX11_holdsPoint 12 = .ok (.ireturn, 1) := by decide +kernel
theorem dX11_holdsPoint_13 : decode cX11_holdsPoint 13 = .ok (.aload_n 1, 1) := by decide +kernel
theorem dX11_holdsPoint_14 : decode cX11_holdsPoint 14 = .ok (.aload_n 0, 1) := by decide +kernel
theorem dX11_holdsPoint_15 : decode cX11_holdsPoint 15 = .ok (.getfield 56, 3) := by decide +kernel
theorem dX11_holdsPoint_18 : decode cX11_holdsPoint 18 = .ok (.invokevirtual 364, 3) := by decide +kernel
theorem dX11_holdsPoint_21 : decode cX11_holdsPoint 21 = .ok (.iconst 0, 1) := by decide +kernel
theorem dX11_holdsPoint_22 : decode cX11_holdsPoint 22 = .ok (.ireturn, 1) := by decide +kernel
theorem dX11_winsAgainstOthers_0 : decode cX11_winsAgainstOthers 0 = .ok (.aload_n 0, 1) := by decide +kernel
theorem dX11_winsAgainstOthers_1 : decode cX11_winsAgainstOthers 1 = .ok (.getfield 49, 3) := by decide +kernel
theorem dX11_winsAgainstOthers_4 : decode cX11_winsAgainstOthers 4 = .ok (.astore 4, 2) := by decide +kernel
theorem dX11_winsAgainstOthers_6 : decode cX11_winsAgainstOthers 6 = .ok (.aload 4, 2) := by decide +kernel
theorem dX11_winsAgainstOthers_8 : decode cX11_winsAgainstOthers 8 = .ok (.arraylength, 1) := by decide +kernel
theorem dX11_winsAgainstOthers_9 : decode cX11_winsAgainstOthers 9 = .ok (.istore 5, 2) := by decide +kernel
theorem dX11_winsAgainstOthers_11 : decode cX11_winsAgainstOthers 11 = .ok (.iconst 0, 1) := by decide +kernel
theorem dX11_winsAgainstOthers_12 : decode cX11_winsAgainstOthers 12 = .ok (.istore 6, 2) := by decide +kernel
theorem dX11_winsAgainstOthers_14 : decode cX11_winsAgainstOthers 14 = .ok (.iload 6, 2) := by decide +kernel
theorem dX11_winsAgainstOthers_16 : decode cX11_winsAgainstOthers 16 = .ok (.iload 5, 2) := by decide +kernel
theorem dX11_winsAgainstOthers_18 : decode cX11_winsAgainstOthers 18 = .ok (.if_icmp .ge 68, 3) := by decide +kernel
theorem dX11_winsAgainstOthers_21 : decode cX11_winsAgainstOthers 21 = .ok (.aload 4, 2) := by decide +kernel
theorem dX11_winsAgainstOthers_23 : decode cX11_winsAgainstOthers 23 = .ok (.iload 6, 2) := by decide +kernel
theorem dX11_winsAgainstOthers_25 : decode cX11_winsAgainstOthers 25 = .ok (.aaload, 1) := by decide +kernel
theorem dX11_winsAgainstOthers_26 : decode cX11_winsAgainstOthers 26 = .ok (.astore 7, 2) := by decide +kernel
theorem dX11_winsAgainstOthers_28 : decode cX11_winsAgainstOthers 28 = .ok (.aload 7, 2) := by decide +kernel
theorem dX11_winsAgainstOthers_30 : decode cX11_winsAgainstOthers 30 = .ok (.ifnull 50, 3) := by decide +kernel
theorem dX11_winsAgainstOthers_33 : decode cX11_winsAgainstOthers 33 = .ok (.aload 7, 2) := by decide +kernel
theorem dX11_winsAgainstOthers_35 : decode cX11_winsAgainstOthers 35 = .ok (.aload_n 1, 1) := by decide +kernel
theorem dX11_winsAgainstOthers_36 : decode cX11_winsAgainstOthers 36 = .ok (.if_acmp .eq 44, 3) := by decide +kernel
theorem dX11_winsAgainstOthers_39 : decode cX11_winsAgainstOthers 39 = .ok (.aload 7, 2) := by decide +kernel
theorem dX11_winsAgainstOthers_41 : decode cX11_winsAgainstOthers 41 = .ok (.iload_n 2, 1) := by decide +kernel
theorem dX11_winsAgainstOthers_42 : decode cX11_winsAgainstOthers 42 = .ok (.iload_n 3, 1) := by decide +kernel
theorem dX11_winsAgainstOthers_43 : decode cX11_winsAgainstOthers 43 = .ok (.invokevirtual 561, 3) := by decide +kernel
theorem dX11_winsAgainstOthers_46 : decode cX11_winsAgainstOthers 46 = .ok (.ifCond .eq 34, 3) := by decide +kernel
theorem dX11_winsAgainstOthers_49 : decode cX11_winsAgainstOthers 49 = .ok (.aload_n 1, 1) := by decide +kernel
theorem dX11_winsAgainstOthers_50 : decode cX11_winsAgainstOthers 50 = .ok (.getfield 565, 3) := by decide +kernel
theorem dX11_winsAgainstOthers_53 : decode cX11_winsAgainstOthers 53 = .ok (.aload 7, 2) := by decide +kernel
theorem dX11_winsAgainstOthers_55 : decode cX11_winsAgainstOthers 55 = .ok (.getfield 565, 3) := by decide +kernel
theorem dX11_winsAgainstOthers_58 : decode cX11_winsAgainstOthers 58 = .ok (.if_icmp .le 13, 3) := by decide +kernel
theorem dX11_winsAgainstOthers_61 : decode cX11_winsAgainstOthers 61 = .ok (.aload_n 1, 1) := by decide +kernel
theorem dX11_winsAgainstOthers_62 : decode cX11_winsAgainstOthers 62 = .ok (.aload_n 0, 1) := by decide +kernel
theorem dX11_winsAgainstOthers_63 : decode cX11_winsAgainstOthers 63 = .ok (.getfield 56, 3) := by decide +kernel
theorem dX11_winsAgainstOthers_66 : decode cX11_winsAgainstOthers 66 = .ok (.invokevirtual 364, 3) := by decide +kernel
theorem dX11_winsAgainstOthers_69 : decode cX11_winsAgainstOthers 69 = .ok (.iconst 0, 1) := by decide +kernel
theorem dX11_winsAgainstOthers_70 : decode cX11_winsAgainstOthers 70 = .ok (.ireturn, 1) := by decide +kernel
theorem dX11_winsAgainstOthers_71 : decode cX11_winsAgainstOthers 71 = .ok (.aload 7, 2) := by decide +kernel
theorem dX11_winsAgainstOthers_73 : decode cX11_winsAgainstOthers 73 = .ok (.aload_n 0, 1) := by decide +kernel
theorem dX11_winsAgainstOthers_74 : decode cX11_winsAgainstOthers 74 = .ok (.getfield 56, 3) := by decide +kernel
theorem dX11_winsAgainstOthers_77 : decode cX11_winsAgainstOthers 77 = .ok (.invokevirtual 364, 3) := by decide +kernel
theorem dX11_winsAgainstOthers_80 : decode cX11_winsAgainstOthers 80 = .ok (.iinc 6 1, 3) := by decide +kernel
theorem dX11_winsAgainstOthers_83 : decode cX11_winsAgainstOthers 83 = .ok (.goto (-69), 3) := by decide +kernel
theorem dX11_winsAgainstOthers_86 : decode cX11_winsAgainstOthers 86 = .ok (.iconst 1, 1) := by decide +kernel
theorem dX11_winsAgainstOthers_87 : decode cX11_winsAgainstOthers 87 = .ok (.ireturn, 1) := by decide +kernel
theorem dX11_valueToCommit_0 : decode cX11_valueToCommit 0 = .ok (.aload_n 1, 1) := by decide +kernel
theorem dX11_valueToCommit_1 : decode cX11_valueToCommit 1 = .ok (.getfield 348, 3) := by decide +kernel
theorem dX11_valueToCommit_4 : decode cX11_valueToCommit 4 = .ok (.iload_n 2, 1) := by decide +kernel
theorem dX11_valueToCommit_5 : decode cX11_valueToCommit 5 = .ok (.baload, 1) := by decide +kernel
theorem dX11_valueToCommit_6 : decode cX11_valueToCommit 6 = .ok (.ifCond .eq 12, 3) := by decide +kernel
theorem dX11_valueToCommit_9 : decode cX11_valueToCommit 9 = .ok (.aload_n 1, 1) := by decide +kernel
theorem dX11_valueToCommit_10 : decode cX11_valueToCommit 10 = .ok (.getfield 352, 3) := by decide +kernel
theorem dX11_valueToCommit_13 : decode cX11_valueToCommit 13 = .ok (.iload_n 2, 1) := by decide +kernel
theorem dX11_valueToCommit_14 : decode cX11_valueToCommit 14 = .ok (.iaload, 1) := by decide +kernel
theorem dX11_valueToCommit_15 : decode cX11_valueToCommit 15 = .ok (.goto 18, 3) := by decide +kernel
theorem dX11_valueToCommit_18 : decode cX11_valueToCommit 18 = .ok (.aload_n 0, 1) := by decide +kernel
theorem dX11_valueToCommit_19 : decode cX11_valueToCommit 19 = .ok (.iload_n 2, 1) := by decide +kernel
theorem dX11_valueToCommit_20 : decode cX11_valueToCommit 20 = .ok (.invokevirtual 340, 3) := by decide +kernel
theorem dX11_valueToCommit_23 : decode cX11_valueToCommit 23 = .ok (.invokevirtual 410, 3) := by decide +kernel
theorem dX11_valueToCommit_26 : decode cX11_valueToCommit 26 = .ok (.aload_n 1, 1) := by decide +kernel
theorem dX11_valueToCommit_27 : decode cX11_valueToCommit 27 = .ok (.getfield 370, 3) := by decide +kernel
theorem dX11_valueToCommit_30 : decode cX11_valueToCommit 30 = .ok (.iload_n 2, 1) := by decide +kernel
theorem dX11_valueToCommit_31 : decode cX11_valueToCommit 31 = .ok (.iaload, 1) := by decide +kernel
theorem dX11_valueToCommit_32 : decode cX11_valueToCommit 32 = .ok (.iadd, 1) := by decide +kernel
theorem dX11_valueToCommit_33 : decode cX11_valueToCommit 33 = .ok (.ireturn, 1) := by decide +kernel
theorem dX11_staysWithinBounds_0 : decode cX11_staysWithinBounds 0 = .ok (.iconst 0, 1) := by decide +kernel
theorem dX11_staysWithinBounds_1 : decode cX11_staysWithinBounds 1 = .ok (.istore_n 2, 1) := by decide +kernel
theorem dX11_staysWithinBounds_2 : decode cX11_staysWithinBounds 2 = .ok (.iload_n 2, 1) := by decide +kernel
theorem dX11_staysWithinBounds_3 : decode cX11_staysWithinBounds 3 = .ok (.aload_n 0, 1) := by decide +kernel
theorem dX11_staysWithinBounds_4 : decode cX11_staysWithinBounds 4 = .ok (.getfield 44, 3) := by decide +kernel
theorem dX11_staysWithinBounds_7 : decode cX11_staysWithinBounds 7 = .ok (.if_icmp .ge 45, 3) := by decide +kernel
theorem dX11_staysWithinBounds_10 : decode cX11_staysWithinBounds 10 = .ok (.aload_n 0, 1) := by decide +kernel
theorem dX11_staysWithinBounds_11 : decode cX11_staysWithinBounds 11 = .ok (.iload_n 2, 1) := by decide +kernel
theorem dX11_staysWithinBounds_12 : decode cX11_staysWithinBounds 12 = .ok (.invokevirtual 340, 3) := by decide +kernel
theorem dX11_staysWithinBounds_15 : decode cX11_staysWithinBounds 15 = .ok (.astore_n 3, 1) := by decide +kernel
theorem dX11_staysWithinBounds_16 : decode cX11_staysWithinBounds 16 = .ok (.aload_n 1, 1) := by decide +kernel
theorem dX11_staysWithinBounds_17 : decode cX11_staysWithinBounds 17 = .ok (.iload_n 2, 1) := by decide +kernel
theorem dX11_staysWithinBounds_18 : decode cX11_staysWithinBounds 18 = .ok (.invokevirtual 568, 3) := by decide +kernel
theorem dX11_staysWithinBounds_21 : decode cX11_staysWithinBounds 21 = .ok (.ifCond .eq 25, 3) := by decide +kernel
theorem dX11_staysWithinBounds_24 : decode cX11_staysWithinBounds 24 = .ok (.aload_n 0, 1) := by decide +kernel
theorem dX11_staysWithinBounds_25 : decode cX11_staysWithinBounds 25 = .ok (.aload_n 1, 1) := by decide +kernel
theorem dX11_staysWithinBounds_26 : decode cX11_staysWithinBounds 26 = .ok (.iload_n 2, 1) := by decide +kernel
theorem dX11_staysWithinBounds_27 : decode cX11_staysWithinBounds 27 = .ok (.invokevirtual 572, 3) := by decide +kernel
theorem dX11_staysWithinBounds_30 : decode cX11_staysWithinBounds 30 = .ok (.aload_n 3, 1) := by decide +kernel
theorem dX11_staysWithinBounds_31 : decode cX11_staysWithinBounds 31 = .ok (.getfield 576, 3) := by decide +kernel
theorem dX11_staysWithinBounds_34 : decode cX11_staysWithinBounds 34 = .ok (.aload_n 3, 1) := by decide +kernel
theorem dX11_staysWithinBounds_35 : decode cX11_staysWithinBounds 35 = .ok (.getfield 577, 3) := by decide +kernel
theorem dX11_staysWithinBounds_38 : decode cX11_staysWithinBounds 38 = .ok (.invokestatic 256, 3) := by decide +kernel
theorem dX11_staysWithinBounds_41 : decode cX11_staysWithinBounds 41 = .ok (.ifCond .ne 5, 3) := by decide +kernel
theorem dX11_staysWithinBounds_44 : decode cX11_staysWithinBounds 44 = .ok (.iconst 0, 1) := by decide +kernel
theorem dX11_staysWithinBounds_45 : decode cX11_staysWithinBounds 45 = .ok (.ireturn, 1) := by decide +kernel
theorem dX11_staysWithinBounds_46 : decode cX11_staysWithinBounds 46 = .ok (.iinc 2 1, 3) := by decide +kernel
theorem dX11_staysWithinBounds_49 : decode cX11_staysWithinBounds 49 = .ok (.goto (-47), 3) := by decide +kernel
theorem dX11_staysWithinBounds_52 : decode cX11_staysWithinBounds 52 = .ok (.iconst 1, 1) := by decide +kernel
theorem dX11_staysWithinBounds_53 : decode cX11_staysWithinBounds 53 = .ok (.ireturn, 1) := by decide +kernel
theorem dX11_changesAny_0 : decode cX11_changesAny 0 = .ok (.iconst 0, 1) := by decide +kernel
theorem dX11_changesAny_1 : decode cX11_changesAny 1 = .ok (.istore_n 2, 1) := by decide +kernel
theorem dX11_changesAny_2 : decode cX11_changesAny 2 = .ok (.iload_n 2, 1) := by decide +kernel
theorem dX11_changesAny_3 : decode cX11_changesAny 3 = .ok (.aload_n 0, 1) := by decide +kernel
theorem dX11_changesAny_4 : decode cX11_changesAny 4 = .ok (.getfield 44, 3) := by decide +kernel
theorem dX11_changesAny_7 : decode cX11_changesAny 7 = .ok (.if_icmp .ge 19, 3) := by decide +kernel
theorem dX11_changesAny_10 : decode cX11_changesAny 10 = .ok (.aload_n 1, 1) := by decide +kernel
theorem dX11_changesAny_11 : decode cX11_changesAny 11 = .ok (.iload_n 2, 1) := by decide +kernel
theorem dX11_changesAny_12 : decode cX11_changesAny 12 = .ok (.invokevirtual 568, 3) := by decide +kernel
theorem dX11_changesAny_15 : decode cX11_changesAny 15 = .ok (.ifCond .eq 5, 3) := by decide +kernel
theorem dX11_changesAny_18 : decode cX11_changesAny 18 = .ok (.iconst 1, 1) := by decide +kernel
theorem dX11_changesAny_19 : decode cX11_changesAny 19 = .ok (.ireturn, 1) := by decide +kernel
theorem dX11_changesAny_20 : decode cX11_changesAny 20 = .ok (.iinc 2 1, 3) := by decide +kernel
theorem dX11_changesAny_23 : decode cX11_changesAny 23 = .ok (.goto (-21), 3) := by decide +kernel
theorem dX11_changesAny_26 : decode cX11_changesAny 26 = .ok (.iconst 0, 1) := by decide +kernel
theorem dX11_changesAny_27 : decode cX11_changesAny 27 = .ok (.ireturn, 1) := by decide +kernel
theorem dX11_recordChanges_0 : decode cX11_recordChanges 0 = .ok (.aload_n 0, 1) := by decide +kernel
theorem dX11_recordChanges_1 : decode cX11_recordChanges 1 = .ok (.dup, 1) := by decide +kernel
theorem dX11_recordChanges_2 : decode cX11_recordChanges 2 = .ok (.getfield 56, 3) := by decide +kernel
theorem dX11_recordChanges_5 : decode cX11_recordChanges 5 = .ok (.iconst 1, 1) := by decide +kernel
theorem dX11_recordChanges_6 : decode cX11_recordChanges 6 = .ok (.iadd, 1) := by decide +kernel
theorem dX11_recordChanges_7 : decode cX11_recordChanges 7 = .ok (.putfield 56, 3) := by decide +kernel
theorem dX11_recordChanges_10 : decode cX11_recordChanges 10 = .ok (.iconst 0, 1) := by decide +kernel
theorem dX11_recordChanges_11 : decode cX11_recordChanges 11 = .ok (.istore_n 2, 1) := by decide +kernel
theorem dX11_recordChanges_12 : decode cX11_recordChanges 12 = .ok (.iload_n 2, 1) := by decide +kernel
theorem dX11_recordChanges_13 : decode cX11_recordChanges 13 = .ok (.aload_n 0, 1) := by decide +kernel
theorem dX11_recordChanges_14 : decode cX11_recordChanges 14 = .ok (.getfield 44, 3) := by decide +kernel
theorem dX11_recordChanges_17 : decode cX11_recordChanges 17 = .ok (.if_icmp .ge 84, 3) := by decide +kernel
theorem dX11_recordChanges_20 : decode cX11_recordChanges 20 = .ok (.aload_n 1, 1) := by decide +kernel
theorem dX11_recordChanges_21 : decode cX11_recordChanges 21 = .ok (.iload_n 2, 1) := by decide +kernel
theorem dX11_recordChanges_22 : decode cX11_recordChanges 22 = .ok (.invokevirtual 568, 3) := by decide +kernel
theorem dX11_recordChanges_25 : decode cX11_recordChanges 25 = .ok (.ifCond .eq 70, 3) := by decide +kernel
theorem dX11_recordChanges_28 : decode cX11_recordChanges 28 = .ok (.aload_n 0, 1) := by decide +kernel
theorem dX11_recordChanges_29 : decode cX11_recordChanges 29 = .ok (.iload_n 2, 1) := by decide +kernel
theorem dX11_recordChanges_30 : decode cX11_recordChanges 30 = .ok (.invokevirtual 340, 3) := by decide +kernel
theorem dX11_recordChanges_33 : decode cX11_recordChanges 33 = .ok (.astore_n 3, 1) := by decide +kernel
theorem dX11_recordChanges_34 : decode cX11_recordChanges 34 = .ok (.aload_n 3, 1) := by decide +kernel
theorem dX11_recordChanges_35 : decode cX11_recordChanges 35 = .ok (.invokevirtual 410, 3) := by decide +kernel
theorem dX11_recordChanges_38 : decode cX11_recordChanges 38 = .ok (.istore 4, 2) := by decide +kernel
theorem dX11_recordChanges_40 : decode cX11_recordChanges 40 = .ok (.aload_n 0, 1) := by decide +kernel
theorem dX11_recordChanges_41 : decode cX11_recordChanges 41 = .ok (.aload_n 1, 1) := by decide +kernel
theorem dX11_recordChanges_42 : decode cX11_recordChanges 42 = .ok (.iload_n 2, 1) := by decide +kernel
theorem dX11_recordChanges_43 : decode cX11_recordChanges 43 = .ok (.invokevirtual 572, 3) := by decide +kernel
theorem dX11_recordChanges_46 : decode cX11_recordChanges 46 = .ok (.istore 5, 2) := by decide +kernel
theorem dX11_recordChanges_48 : decode cX11_recordChanges 48 = .ok (.aload_n 3, 1) := by decide +kernel
theorem dX11_recordChanges_49 : decode cX11_recordChanges 49 = .ok (.iload 5, 2) := by decide +kernel
theorem dX11_recordChanges_51 : decode cX11_recordChanges 51 = .ok (.aload_n 0, 1) := by decide +kernel
theorem dX11_recordChanges_52 : decode cX11_recordChanges 52 = .ok (.getfield 56, 3) := by decide +kernel
theorem dX11_recordChanges_55 : decode cX11_recordChanges 55 = .ok (.invokevirtual 578, 3) := by decide +kernel
theorem dX11_recordChanges_58 : decode cX11_recordChanges 58 = .ok (.aload_n 0, 1) := by decide +kernel
theorem dX11_recordChanges_59 : decode cX11_recordChanges 59 = .ok (.getfield 62, 3) := by decide +kernel
theorem dX11_recordChanges_62 : decode cX11_recordChanges 62 = .ok (.invokevirtual 417, 3) := by decide +kernel
theorem dX11_recordChanges_65 : decode cX11_recordChanges 65 = .ok (.sipush 512, 3) := by decide +kernel
theorem dX11_recordChanges_68 : decode cX11_recordChanges 68 = .ok (.if_icmp .ge 27, 3) := by decide +kernel
theorem dX11_recordChanges_71 : decode cX11_recordChanges 71 = .ok (.aload_n 0, 1) := by decide +kernel
theorem dX11_recordChanges_72 : decode cX11_recordChanges 72 = .ok (.getfield 62, 3) := by decide +kernel
theorem dX11_recordChanges_75 : decode cX11_recordChanges 75 = .ok (.new 423, 3) := by decide +kernel
theorem dX11_recordChanges_78 : decode cX11_recordChanges 78 = .ok (.dup, 1) := by decide +kernel
theorem dX11_recordChanges_79 : decode cX11_recordChanges 79 = .ok (.aload_n 0, 1) := by decide +kernel
theorem dX11_recordChanges_80 : decode cX11_recordChanges 80 = .ok (.getfield 56, 3) := by decide +kernel
theorem dX11_recordChanges_83 : decode cX11_recordChanges 83 = .ok (.iload_n 2, 1) := by decide +kernel
theorem dX11_recordChanges_84 : decode cX11_recordChanges 84 = .ok (.iload 4, 2) := by decide +kernel
theorem dX11_recordChanges_86 : decode cX11_recordChanges 86 = .ok (.iload 5, 2) := by decide +kernel
theorem dX11_recordChanges_88 : decode cX11_recordChanges 88 = .ok (.invokespecial 581, 3) := by decide +kernel
theorem dX11_recordChanges_91 : decode cX11_recordChanges 91 = .ok (.invokevirtual 584, 3) := by decide +kernel
theorem dX11_recordChanges_94 : decode cX11_recordChanges 94 = .ok (.pop, 1) := by decide +kernel
theorem dX11_recordChanges_95 : decode cX11_recordChanges 95 = .ok (.iinc 2 1, 3) := by decide +kernel
theorem dX11_recordChanges_98 : decode cX11_recordChanges 98 = .ok (.goto (-86), 3) := by decide +kernel
theorem dX11_recordChanges_101 : decode cX11_recordChanges 101 = .ok (.return_, 1) := by decide +kernel
theorem dX11_deliver_0 : decode cX11_deliver 0 = .ok (.iconst 0, 1) := by decide +kernel
theorem dX11_deliver_1 : decode cX11_deliver 1 = .ok (.istore_n 2, 1) := by decide +kernel
theorem dX11_deliver_2 : decode cX11_deliver 2 = .ok (.iload_n 2, 1) := by decide +kernel
theorem dX11_deliver_3 : decode cX11_deliver 3 = .ok (.aload_n 0, 1) := by decide +kernel
theorem dX11_deliver_4 : decode cX11_deliver 4 = .ok (.getfield 72, 3) := by decide +kernel
theorem dX11_deliver_7 : decode cX11_deliver 7 = .ok (.if_icmp .ge 26, 3) := by decide +kernel
theorem dX11_deliver_10 : decode cX11_deliver 10 = .ok (.aload_n 0, 1) := by decide +kernel
theorem dX11_deliver_11 : decode cX11_deliver 11 = .ok (.iload_n 2, 1) := by decide +kernel
theorem dX11_deliver_12 : decode cX11_deliver 12 = .ok (.invokevirtual 454, 3) := by decide +kernel
theorem dX11_deliver_15 : decode cX11_deliver 15 = .ok (.getfield 458, 3) := by decide +kernel
theorem dX11_deliver_18 : decode cX11_deliver 18 = .ok (.aload_n 1, 1) := by decide +kernel
theorem dX11_deliver_19 : decode cX11_deliver 19 = .ok (.getfield 467, 3) := by decide +kernel
theorem dX11_deliver_22 : decode cX11_deliver 22 = .ok (.iload_n 2, 1) := by decide +kernel
theorem dX11_deliver_23 : decode cX11_deliver 23 = .ok (.aaload, 1) := by decide +kernel
theorem dX11_deliver_24 : decode cX11_deliver 24 = .ok (.invokevirtual 588, 3) := by decide +kernel
theorem dX11_deliver_27 : decode cX11_deliver 27 = .ok (.iinc 2 1, 3) := by decide +kernel
theorem dX11_deliver_30 : decode cX11_deliver 30 = .ok (.goto (-28), 3) := by decide +kernel
theorem dX11_deliver_33 : decode cX11_deliver 33 = .ok (.return_, 1) := by decide +kernel
