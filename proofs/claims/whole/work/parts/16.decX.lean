theorem dX0_init_0 : decode cX0_init 0 = .ok (.aload_n 0, 1) := by decide +kernel
theorem dX0_init_1 : decode cX0_init 1 = .ok (.invokespecial 1, 3) := by decide +kernel
theorem dX0_init_4 : decode cX0_init 4 = .ok (.aload_n 0, 1) := by decide +kernel
theorem dX0_init_5 : decode cX0_init 5 = .ok (.new 7, 3) := by decide +kernel
theorem dX0_init_8 : decode cX0_init 8 = .ok (.dup, 1) := by decide +kernel
theorem dX0_init_9 : decode cX0_init 9 = .ok (.invokespecial 9, 3) := by decide +kernel
theorem dX0_init_12 : decode cX0_init 12 = .ok (.putfield 10, 3) := by decide +kernel
theorem dX0_init_15 : decode cX0_init 15 = .ok (.aload_n 0, 1) := by decide +kernel
theorem dX0_init_16 : decode cX0_init 16 = .ok (.iconst 0, 1) := by decide +kernel
theorem dX0_init_17 : decode cX0_init 17 = .ok (.putfield 16, 3) := by decide +kernel
theorem dX0_init_20 : decode cX0_init 20 = .ok (.aload_n 0, 1) := by decide +kernel
theorem dX0_init_21 : decode cX0_init 21 = .ok (.iconst 0, 1) := by decide +kernel
theorem dX0_init_22 : decode cX0_init 22 = .ok (.putfield 20, 3) := by decide +kernel
theorem dX0_init_25 : decode cX0_init 25 = .ok (.aload_n 0, 1) := by decide +kernel
theorem dX0_init_26 : decode cX0_init 26 = .ok (.iload_n 1, 1) := by decide +kernel
theorem dX0_init_27 : decode cX0_init 27 = .ok (.putfield 24, 3) := by decide +kernel
theorem dX0_init_30 : decode cX0_init 30 = .ok (.aload_n 0, 1) := by decide +kernel
theorem dX0_init_31 : decode cX0_init 31 = .ok (.iload_n 2, 1) := by decide +kernel
theorem dX0_init_32 : decode cX0_init 32 = .ok (.putfield 27, 3) := by decide +kernel
theorem dX0_init_35 : decode cX0_init 35 = .ok (.aload_n 0, 1) := by decide +kernel
theorem dX0_init_36 : decode cX0_init 36 = .ok (.iload_n 3, 1) := by decide +kernel
theorem dX0_init_37 : decode cX0_init 37 = .ok (.putfield 30, 3) := by decide +kernel
theorem dX0_init_40 : decode cX0_init 40 = .ok (.aload_n 0, 1) := by decide +kernel
theorem dX0_init_41 : decode cX0_init 41 = .ok (.iload 4, 2) := by decide +kernel
theorem dX0_init_43 : decode cX0_init 43 = .ok (.putfield 33, 3) := by decide +kernel
theorem dX0_init_46 : decode cX0_init 46 = .ok (.return_, 1) := by decide +kernel
theorem dX0_takeNumber_0 : decode cX0_takeNumber 0 = .ok (.aload_n 0, 1) := by decide +kernel
theorem dX0_takeNumber_1 : decode cX0_takeNumber 1 = .ok (.getfield 24, 3) := by decide +kernel
theorem dX0_takeNumber_4 : decode cX0_takeNumber 4 = .ok (.aload_n 0, 1) := by decide +kernel
theorem dX0_takeNumber_5 : decode cX0_takeNumber 5 = .ok (.getfield 10, 3) := by decide +kernel
theorem dX0_takeNumber_8 : decode cX0_takeNumber 8 = .ok (.invokevirtual 36, 3) := by decide +kernel
theorem dX0_takeNumber_11 : decode cX0_takeNumber 11 = .ok (.iadd, 1) := by decide +kernel
theorem dX0_takeNumber_12 : decode cX0_takeNumber 12 = .ok (.istore_n 1, 1) := by decide +kernel
theorem dX0_takeNumber_13 : decode cX0_takeNumber 13 = .ok (.iload_n 1, 1) := by decide +kernel
theorem dX0_takeNumber_14 : decode cX0_takeNumber 14 = .ok (.aload_n 0, 1) := by decide +kernel
theorem dX0_takeNumber_15 : decode cX0_takeNumber 15 = .ok (.getfield 27, 3) := by decide +kernel
theorem dX0_takeNumber_18 : decode cX0_takeNumber 18 = .ok (.aload_n 0, 1) := by decide +kernel
theorem dX0_takeNumber_19 : decode cX0_takeNumber 19 = .ok (.getfield 30, 3) := by decide +kernel
theorem dX0_takeNumber_22 : decode cX0_takeNumber 22 = .ok (.invokestatic 40, 3) := by decide +kernel
theorem dX0_takeNumber_25 : decode cX0_takeNumber 25 = .ok (.ifCond .eq 9, 3) := by decide +kernel
theorem dX0_takeNumber_28 : decode cX0_takeNumber 28 = .ok (.aload_n 0, 1) := by decide +kernel
theorem dX0_takeNumber_29 : decode cX0_takeNumber 29 = .ok (.iload_n 1, 1) := by decide +kernel
theorem dX0_takeNumber_30 : decode cX0_takeNumber 30 = .ok (.putfield 24, 3) := by decide +kernel
theorem dX0_takeNumber_33 : decode cX0_takeNumber 33 = .ok (.return_, 1) := by decide +kernel
theorem dX0_takeNumber_34 : decode cX0_takeNumber 34 = .ok (.aload_n 0, 1) := by decide +kernel
theorem dX0_takeNumber_35 : decode cX0_takeNumber 35 = .ok (.dup, 1) := by decide +kernel
theorem dX0_takeNumber_36 : decode cX0_takeNumber 36 = .ok (.getfield 16, 3) := by decide +kernel
theorem dX0_takeNumber_39 : decode cX0_takeNumber 39 = .ok (.iconst 1, 1) := by decide +kernel
theorem dX0_takeNumber_40 : decode cX0_takeNumber 40 = .ok (.iadd, 1) := by decide +kernel
theorem dX0_takeNumber_41 : decode cX0_takeNumber 41 = .ok (.putfield 16, 3) := by decide +kernel
theorem dX0_takeNumber_44 : decode cX0_takeNumber 44 = .ok (.aload_n 0, 1) := by decide +kernel
theorem dX0_takeNumber_45 : decode cX0_takeNumber 45 = .ok (.aload_n 0, 1) := by decide +kernel
theorem dX0_takeNumber_46 : decode cX0_takeNumber 46 = .ok (.getfield 33, 3) := by decide +kernel
theorem dX0_takeNumber_49 : decode cX0_takeNumber 49 = .ok (.putfield 20, 3) := by decide +kernel
theorem dX0_takeNumber_52 : decode cX0_takeNumber 52 = .ok (.return_, 1) := by decide +kernel
theorem dX1_init_0 : decode cX1_init 0 = .ok (.aload_n 0, 1) := by decide +kernel
theorem dX1_init_1 : decode cX1_init 1 = .ok (.invokespecial 1, 3) := by decide +kernel
theorem dX1_init_4 : decode cX1_init 4 = .ok (.aload_n 0, 1) := by decide +kernel
theorem dX1_init_5 : decode cX1_init 5 = .ok (.iload_n 1, 1) := by decide +kernel
theorem dX1_init_6 : decode cX1_init 6 = .ok (.putfield 7, 3) := by decide +kernel
theorem dX1_init_9 : decode cX1_init 9 = .ok (.aload_n 0, 1) := by decide +kernel
theorem dX1_init_10 : decode cX1_init 10 = .ok (.iload_n 2, 1) := by decide +kernel
theorem dX1_init_11 : decode cX1_init 11 = .ok (.putfield 13, 3) := by decide +kernel
theorem dX1_init_14 : decode cX1_init 14 = .ok (.aload_n 0, 1) := by decide +kernel
theorem dX1_init_15 : decode cX1_init 15 = .ok (.iload_n 3, 1) := by decide +kernel
theorem dX1_init_16 : decode cX1_init 16 = .ok (.putfield 16, 3) := by decide +kernel
theorem dX1_init_19 : decode cX1_init 19 = .ok (.aload_n 0, 1) := by decide +kernel
theorem dX1_init_20 : decode cX1_init 20 = .ok (.iload 4, 2) := by decide +kernel
theorem dX1_init_22 : decode cX1_init 22 = .ok (.putfield 19, 3) := by decide +kernel
theorem dX1_init_25 : decode cX1_init 25 = .ok (.return_, 1) := by decide +kernel
theorem dX2_placeOf_0 : decode cX2_placeOf 0 = .ok (.bipush 37, 2) := by decide +kernel
theorem dX2_placeOf_2 : decode cX2_placeOf 2 = .ok (.iload_n 0, 1) := by decide +kernel
theorem dX2_placeOf_3 : decode cX2_placeOf 3 = .ok (.imul, 1) := by decide +kernel
theorem dX2_placeOf_4 : decode cX2_placeOf 4 = .ok (.iload_n 0, 1) := by decide +kernel
theorem dX2_placeOf_5 : decode cX2_placeOf 5 = .ok (.bipush 8, 2) := by decide +kernel
theorem dX2_placeOf_7 : decode cX2_placeOf 7 = .ok (.idiv, 1) := by decide +kernel
theorem dX2_placeOf_8 : decode cX2_placeOf 8 = .ok (.ixor, 1) := by decide +kernel
theorem dX2_placeOf_9 : decode cX2_placeOf 9 = .ok (.sipush 255, 3) := by decide +kernel
theorem dX2_placeOf_12 : decode cX2_placeOf 12 = .ok (.iand, 1) := by decide +kernel
theorem dX2_placeOf_13 : decode cX2_placeOf 13 = .ok (.istore_n 2, 1) := by decide +kernel
theorem dX2_placeOf_14 : decode cX2_placeOf 14 = .ok (.iload_n 2, 1) := by decide +kernel
theorem dX2_placeOf_15 : decode cX2_placeOf 15 = .ok (.iconst 2, 1) := by decide +kernel
theorem dX2_placeOf_16 : decode cX2_placeOf 16 = .ok (.iload_n 1, 1) := by decide +kernel
theorem dX2_placeOf_17 : decode cX2_placeOf 17 = .ok (.imul, 1) := by decide +kernel
theorem dX2_placeOf_18 : decode cX2_placeOf 18 = .ok (.ishr, 1) := by decide +kernel
theorem dX2_placeOf_19 : decode cX2_placeOf 19 = .ok (.iconst 3, 1) := by decide +kernel
theorem dX2_placeOf_20 : decode cX2_placeOf 20 = .ok (.iand, 1) := by decide +kernel
theorem dX2_placeOf_21 : decode cX2_placeOf 21 = .ok (.ireturn, 1) := by decide +kernel
theorem dX2_holderOf_0 : decode cX2_holderOf 0 = .ok (.iload_n 1, 1) := by decide +kernel
theorem dX2_holderOf_1 : decode cX2_holderOf 1 = .ok (.ifCond .lt 10, 3) := by decide +kernel
theorem dX2_holderOf_4 : decode cX2_holderOf 4 = .ok (.iload_n 1, 1) := by decide +kernel
theorem dX2_holderOf_5 : decode cX2_holderOf 5 = .ok (.sipush 999, 3) := by decide +kernel
theorem dX2_holderOf_8 : decode cX2_holderOf 8 = .ok (.if_icmp .le 7, 3) := by decide +kernel
theorem dX2_holderOf_11 : decode cX2_holderOf 11 = .ok (.aconst_null, 1) := by decide +kernel
theorem dX2_holderOf_12 : decode cX2_holderOf 12 = .ok (.goto 4, 3) := by decide +kernel
theorem dX2_holderOf_15 : decode cX2_holderOf 15 = .ok (.aload_n 0, 1) := by decide +kernel
theorem dX2_holderOf_16 : decode cX2_holderOf 16 = .ok (.astore_n 2, 1) := by decide +kernel
theorem dX2_holderOf_17 : decode cX2_holderOf 17 = .ok (.iconst 0, 1) := by decide +kernel
theorem dX2_holderOf_18 : decode cX2_holderOf 18 = .ok (.istore_n 3, 1) := by decide +kernel
theorem dX2_holderOf_19 : decode cX2_holderOf 19 = .ok (.iload_n 3, 1) := by decide +kernel
theorem dX2_holderOf_20 : decode cX2_holderOf 20 = .ok (.iconst 5, 1) := by decide +kernel
theorem dX2_holderOf_21 : decode cX2_holderOf 21 = .ok (.if_icmp .ge 37, 3) := by decide +kernel
theorem dX2_holderOf_24 : decode cX2_holderOf 24 = .ok (.aload_n 2, 1) := by decide +kernel
theorem dX2_holderOf_25 : decode cX2_holderOf 25 = .ok (.ifnull 33, 3) := by decide +kernel
theorem dX2_holderOf_28 : decode cX2_holderOf 28 = .ok (.aload_n 2, 1) := by decide +kernel
theorem dX2_holderOf_29 : decode cX2_holderOf 29 = .ok (.iload_n 1, 1) := by decide +kernel
theorem dX2_holderOf_30 : decode cX2_holderOf 30 = .ok (.invokevirtual 9, 3) := by decide +kernel
theorem dX2_holderOf_33 : decode cX2_holderOf 33 = .ok (.iconst (-1), 1) := by decide +kernel
theorem dX2_holderOf_34 : decode cX2_holderOf 34 = .ok (.if_icmp .eq 5, 3) := by decide +kernel
theorem dX2_holderOf_37 : decode cX2_holderOf 37 = .ok (.aload_n 2, 1) := by decide +kernel
theorem dX2_holderOf_38 : decode cX2_holderOf 38 = .ok (.areturn, 1) := by decide +kernel
theorem dX2_holderOf_39 : decode cX2_holderOf 39 = .ok (.aload_n 2, 1) := by decide +kernel
theorem dX2_holderOf_40 : decode cX2_holderOf 40 = .ok (.iload_n 1, 1) := by decide +kernel
theorem dX2_holderOf_41 : decode cX2_holderOf 41 = .ok (.aload_n 2, 1) := by decide +kernel
theorem dX2_holderOf_42 : decode cX2_holderOf 42 = .ok (.getfield 15, 3) := by decide +kernel
theorem dX2_holderOf_45 : decode cX2_holderOf 45 = .ok (.invokestatic 19, 3) := by decide +kernel
theorem dX2_holderOf_48 : decode cX2_holderOf 48 = .ok (.invokevirtual 25, 3) := by decide +kernel
theorem dX2_holderOf_51 : decode cX2_holderOf 51 = .ok (.astore_n 2, 1) := by decide +kernel
theorem dX2_holderOf_52 : decode cX2_holderOf 52 = .ok (.iinc 3 1, 3) := by decide +kernel
theorem dX2_holderOf_55 : decode cX2_holderOf 55 = .ok (.goto (-36), 3) := by decide +kernel
theorem dX2_holderOf_58 : decode cX2_holderOf 58 = .ok (.aconst_null, 1) := by decide +kernel
theorem dX2_holderOf_59 : decode cX2_holderOf 59 = .ok (.areturn, 1) := by decide +kernel
theorem dX2_withPair_0 : decode cX2_withPair 0 = .ok (.aload_n 1, 1) := by decide +kernel
theorem dX2_withPair_1 : decode cX2_withPair 1 = .ok (.iload_n 2, 1) := by decide +kernel
theorem dX2_withPair_2 : decode cX2_withPair 2 = .ok (.invokestatic 29, 3) := by decide +kernel
theorem dX2_withPair_5 : decode cX2_withPair 5 = .ok (.ifnonnull 7, 3) := by decide +kernel
theorem dX2_withPair_8 : decode cX2_withPair 8 = .ok (.iconst 1, 1) := by decide +kernel
theorem dX2_withPair_9 : decode cX2_withPair 9 = .ok (.goto 4, 3) := by decide +kernel
theorem dX2_withPair_12 : decode cX2_withPair 12 = .ok (.iconst 0, 1) := by decide +kernel
theorem dX2_withPair_13 : decode cX2_withPair 13 = .ok (.istore 4, 2) := by decide +kernel
theorem dX2_withPair_15 : decode cX2_withPair 15 = .ok (.aload_n 0, 1) := by decide +kernel
theorem dX2_withPair_16 : decode cX2_withPair 16 = .ok (.aload_n 1, 1) := by decide +kernel
theorem dX2_withPair_17 : decode cX2_withPair 17 = .ok (.iconst (-1), 1) := by decide +kernel
theorem dX2_withPair_18 : decode cX2_withPair 18 = .ok (.invokevirtual 33, 3) := by decide +kernel
theorem dX2_withPair_21 : decode cX2_withPair 21 = .ok (.astore 5, 2) := by decide +kernel
theorem dX2_withPair_23 : decode cX2_withPair 23 = .ok (.aload 5, 2) := by decide +kernel
theorem dX2_withPair_25 : decode cX2_withPair 25 = .ok (.astore 6, 2) := by decide +kernel
theorem dX2_withPair_27 : decode cX2_withPair 27 = .ok (.iconst 0, 1) := by decide +kernel
theorem dX2_withPair_28 : decode cX2_withPair 28 = .ok (.istore 7, 2) := by decide +kernel
theorem dX2_withPair_30 : decode cX2_withPair 30 = .ok (.iload 7, 2) := by decide +kernel
theorem dX2_withPair_32 : decode cX2_withPair 32 = .ok (.iconst 4, 1) := by decide +kernel
theorem dX2_withPair_33 : decode cX2_withPair 33 = .ok (.if_icmp .ge 82, 3) := by decide +kernel
theorem dX2_withPair_36 : decode cX2_withPair 36 = .ok (.iload_n 2, 1) := by decide +kernel
theorem dX2_withPair_37 : decode cX2_withPair 37 = .ok (.iload 7, 2) := by decide +kernel
theorem dX2_withPair_39 : decode cX2_withPair 39 = .ok (.invokestatic 19, 3) := by decide +kernel
theorem dX2_withPair_42 : decode cX2_withPair 42 = .ok (.istore 8, 2) := by decide +kernel
theorem dX2_withPair_44 : decode cX2_withPair 44 = .ok (.aload 6, 2) := by decide +kernel
theorem dX2_withPair_46 : decode cX2_withPair 46 = .ok (.iload 8, 2) := by decide +kernel
theorem dX2_withPair_48 : decode cX2_withPair 48 = .ok (.invokevirtual 38, 3) := by decide +kernel
theorem dX2_withPair_51 : decode cX2_withPair 51 = .ok (.istore 9, 2) := by decide +kernel
theorem dX2_withPair_53 : decode cX2_withPair 53 = .ok (.aload 6, 2) := by decide +kernel
theorem dX2_withPair_55 : decode cX2_withPair 55 = .ok (.dup, 1) := by decide +kernel
theorem dX2_withPair_56 : decode cX2_withPair 56 = .ok (.getfield 41, 3) := by decide +kernel
theorem dX2_withPair_59 : decode cX2_withPair 59 = .ok (.iload 4, 2) := by decide +kernel
theorem dX2_withPair_61 : decode cX2_withPair 61 = .ok (.iadd, 1) := by decide +kernel
theorem dX2_withPair_62 : decode cX2_withPair 62 = .ok (.putfield 41, 3) := by decide +kernel
theorem dX2_withPair_65 : decode cX2_withPair 65 = .ok (.aload 6, 2) := by decide +kernel
theorem dX2_withPair_67 : decode cX2_withPair 67 = .ok (.iload 8, 2) := by decide +kernel
theorem dX2_withPair_69 : decode cX2_withPair 69 = .ok (.invokevirtual 25, 3) := by decide +kernel
theorem dX2_withPair_72 : decode cX2_withPair 72 = .ok (.ifnonnull 27, 3) := by decide +kernel
theorem dX2_withPair_75 : decode cX2_withPair 75 = .ok (.iload 9, 2) := by decide +kernel
theorem dX2_withPair_77 : decode cX2_withPair 77 = .ok (.iconst (-1), 1) := by decide +kernel
theorem dX2_withPair_78 : decode cX2_withPair 78 = .ok (.if_icmp .eq 9, 3) := by decide +kernel
theorem dX2_withPair_81 : decode cX2_withPair 81 = .ok (.iload 9, 2) := by decide +kernel
theorem dX2_withPair_83 : decode cX2_withPair 83 = .ok (.iload_n 2, 1) := by decide +kernel
theorem dX2_withPair_84 : decode cX2_withPair 84 = .ok (.if_icmp .ne 15, 3) := by decide +kernel
theorem dX2_withPair_87 : decode cX2_withPair 87 = .ok (.aload 6, 2) := by decide +kernel
theorem dX2_withPair_89 : decode cX2_withPair 89 = .ok (.iload 8, 2) := by decide +kernel
theorem dX2_withPair_91 : decode cX2_withPair 91 = .ok (.iload_n 2, 1) := by decide +kernel
theorem dX2_withPair_92 : decode cX2_withPair 92 = .ok (.iload_n 3, 1) := by decide +kernel
theorem dX2_withPair_93 : decode cX2_withPair 93 = .ok (.invokevirtual 44, 3) := by decide +kernel
theorem dX2_withPair_96 : decode cX2_withPair 96 = .ok (.aload 5, 2) := by decide +kernel
theorem dX2_withPair_98 : decode cX2_withPair 98 = .ok (.areturn, 1) := by decide +kernel
theorem dX2_withPair_99 : decode cX2_withPair 99 = .ok (.aload_n 0, 1) := by decide +kernel
theorem dX2_withPair_100 : decode cX2_withPair 100 = .ok (.aload 6, 2) := by decide +kernel
theorem dX2_withPair_102 : decode cX2_withPair 102 = .ok (.iload 8, 2) := by decide +kernel
theorem dX2_withPair_104 : decode cX2_withPair 104 = .ok (.invokestatic 48, 3) := by decide +kernel
theorem dX2_withPair_107 : decode cX2_withPair 107 = .ok (.astore 6, 2) := by decide +kernel
theorem dX2_withPair_109 : decode cX2_withPair 109 = .ok (.iinc 7 1, 3) := by decide +kernel
theorem dX2_withPair_112 : decode cX2_withPair 112 = .ok (.goto (-82), 3) := by decide +kernel
theorem dX2_withPair_115 : decode cX2_withPair 115 = .ok (.iload 4, 2) := by decide +kernel
theorem dX2_withPair_117 : decode cX2_withPair 117 = .ok (.iconst 1, 1) := by decide +kernel
theorem dX2_withPair_118 : decode cX2_withPair 118 = .ok (.if_icmp .ne 11, 3) := by decide +kernel
theorem dX2_withPair_121 : decode cX2_withPair 121 = .ok (.aload 6, 2) := by decide +kernel
theorem dX2_withPair_123 : decode cX2_withPair 123 = .ok (.getfield 41, 3) := by decide +kernel
theorem dX2_withPair_126 : decode cX2_withPair 126 = .ok (.goto 9, 3) := by decide +kernel
theorem dX2_withPair_129 : decode cX2_withPair 129 = .ok (.aload 6, 2) := by decide +kernel
theorem dX2_withPair_131 : decode cX2_withPair 131 = .ok (.iload_n 2, 1) := by decide +kernel
theorem dX2_withPair_132 : decode cX2_withPair 132 = .ok (.invokevirtual 9, 3) := by decide +kernel
theorem dX2_withPair_135 : decode cX2_withPair 135 = .ok (.istore 7, 2) := by decide +kernel
theorem dX2_withPair_137 : decode cX2_withPair 137 = .ok (.aload 6, 2) := by decide +kernel
theorem dX2_withPair_139 : decode cX2_withPair 139 = .ok (.iload 7, 2) := by decide +kernel
theorem dX2_withPair_141 : decode cX2_withPair 141 = .ok (.iload_n 2, 1) := by decide +kernel
theorem dX2_withPair_142 : decode cX2_withPair 142 = .ok (.iload_n 3, 1) := by decide +kernel
theorem dX2_withPair_143 : decode cX2_withPair 143 = .ok (.invokevirtual 44, 3) := by decide +kernel
theorem dX2_withPair_146 : decode cX2_withPair 146 = .ok (.aload 6, 2) := by decide +kernel
theorem dX2_withPair_148 : decode cX2_withPair 148 = .ok (.dup, 1) := by decide +kernel
theorem dX2_withPair_149 : decode cX2_withPair 149 = .ok (.getfield 41, 3) := by decide +kernel
theorem dX2_withPair_152 : decode cX2_withPair 152 = .ok (.iload 4, 2) := by decide +kernel
theorem dX2_withPair_154 : decode cX2_withPair 154 = .ok (.iadd, 1) := by decide +kernel
theorem dX2_withPair_155 : decode cX2_withPair 155 = .ok (.putfield 41, 3) := by decide +kernel
theorem dX2_withPair_158 : decode cX2_withPair 158 = .ok (.aload 5, 2) := by decide +kernel
theorem dX2_withPair_160 : decode cX2_withPair 160 = .ok (.areturn, 1) := by decide +kernel
theorem dX2_changeableChild_0 : decode cX2_changeableChild 0 = .ok (.aload_n 1, 1) := by decide +kernel
theorem dX2_changeableChild_1 : decode cX2_changeableChild 1 = .ok (.iload_n 2, 1) := by decide +kernel
theorem dX2_changeableChild_2 : decode cX2_changeableChild 2 = .ok (.invokevirtual 25, 3) := by decide +kernel
theorem dX2_changeableChild_5 : decode cX2_changeableChild 5 = .ok (.astore_n 3, 1) := by decide +kernel
theorem dX2_changeableChild_6 : decode cX2_changeableChild 6 = .ok (.aload_n 3, 1) := by decide +kernel
theorem dX2_changeableChild_7 : decode cX2_changeableChild 7 = .ok (.ifnonnull 12, 3) := by decide +kernel
theorem dX2_changeableChild_10 : decode cX2_changeableChild 10 = .ok (.aload_n 0, 1) := by decide +kernel
theorem dX2_changeableChild_11 : decode cX2_changeableChild 11 = .ok (.aload_n 1, 1) := by decide +kernel
theorem dX2_changeableChild_12 : decode cX2_changeableChild 12 = .ok (.iload_n 2, 1) := by decide +kernel
theorem dX2_changeableChild_13 : decode cX2_changeableChild 13 = .ok (.invokestatic 52, 3) := by decide +kernel
theorem dX2_changeableChild_16 : decode cX2_changeableChild 16 = .ok (.goto 9, 3) := by decide +kernel
theorem dX2_changeableChild_19 : decode cX2_changeableChild 19 = .ok (.aload_n 0, 1) := by decide +kernel
theorem dX2_changeableChild_20 : decode cX2_changeableChild 20 = .ok (.aload_n 3, 1) := by decide +kernel
theorem dX2_changeableChild_21 : decode cX2_changeableChild 21 = .ok (.iconst (-1), 1) := by decide +kernel
theorem dX2_changeableChild_22 : decode cX2_changeableChild 22 = .ok (.invokevirtual 33, 3) := by decide +kernel
theorem dX2_changeableChild_25 : decode cX2_changeableChild 25 = .ok (.astore 4, 2) := by decide +kernel
theorem dX2_changeableChild_27 : decode cX2_changeableChild 27 = .ok (.aload_n 1, 1) := by decide +kernel
theorem dX2_changeableChild_28 : decode cX2_changeableChild 28 = .ok (.iload_n 2, 1) := by decide +kernel
theorem dX2_changeableChild_29 : decode cX2_changeableChild 29 = .ok (.iconst (-1), 1) := by decide +kernel
theorem dX2_changeableChild_30 : decode cX2_changeableChild 30 = .ok (.iconst 0, 1) := by decide +kernel
theorem dX2_changeableChild_31 : decode cX2_changeableChild 31 = .ok (.invokevirtual 44, 3) := by decide +kernel
theorem dX2_changeableChild_34 : decode cX2_changeableChild 34 = .ok (.aload_n 1, 1) := by decide +kernel
theorem dX2_changeableChild_35 : decode cX2_changeableChild 35 = .ok (.iload_n 2, 1) := by decide +kernel
theorem dX2_changeableChild_36 : decode cX2_changeableChild 36 = .ok (.aload 4, 2) := by decide +kernel
theorem dX2_changeableChild_38 : decode cX2_changeableChild 38 = .ok (.invokevirtual 55, 3) := by decide +kernel
theorem dX2_changeableChild_41 : decode cX2_changeableChild 41 = .ok (.aload 4, 2) := by decide +kernel
theorem dX2_changeableChild_43 : decode cX2_changeableChild 43 = .ok (.areturn, 1) := by decide +kernel
theorem dX2_lowered_0 : decode cX2_lowered 0 = .ok (.aload_n 1, 1) := by decide +kernel
theorem dX2_lowered_1 : decode cX2_lowered 1 = .ok (.iload_n 2, 1) := by decide +kernel
theorem dX2_lowered_2 : decode cX2_lowered 2 = .ok (.invokevirtual 38, 3) := by decide +kernel
theorem dX2_lowered_5 : decode cX2_lowered 5 = .ok (.istore_n 3, 1) := by decide +kernel
theorem dX2_lowered_6 : decode cX2_lowered 6 = .ok (.aload_n 0, 1) := by decide +kernel
theorem dX2_lowered_7 : decode cX2_lowered 7 = .ok (.aload_n 1, 1) := by decide +kernel
theorem dX2_lowered_8 : decode cX2_lowered 8 = .ok (.getfield 15, 3) := by decide +kernel
theorem dX2_lowered_11 : decode cX2_lowered 11 = .ok (.iconst 1, 1) := by decide +kernel
theorem dX2_lowered_12 : decode cX2_lowered 12 = .ok (.iadd, 1) := by decide +kernel
theorem dX2_lowered_13 : decode cX2_lowered 13 = .ok (.invokevirtual 59, 3) := by decide +kernel
theorem dX2_lowered_16 : decode cX2_lowered 16 = .ok (.astore 4, 2) := by decide +kernel
theorem dX2_lowered_18 : decode cX2_lowered 18 = .ok (.aload 4, 2) := by decide +kernel
theorem dX2_lowered_20 : decode cX2_lowered 20 = .ok (.aload 4, 2) := by decide +kernel
theorem dX2_lowered_22 : decode cX2_lowered 22 = .ok (.getfield 15, 3) := by decide +kernel
theorem dX2_lowered_25 : decode cX2_lowered 25 = .ok (.iconst 4, 1) := by decide +kernel
theorem dX2_lowered_26 : decode cX2_lowered 26 = .ok (.if_icmp .ge 15, 3) := by decide +kernel
theorem dX2_lowered_29 : decode cX2_lowered 29 = .ok (.iload_n 3, 1) := by decide +kernel
theorem dX2_lowered_30 : decode cX2_lowered 30 = .ok (.aload 4, 2) := by decide +kernel
theorem dX2_lowered_32 : decode cX2_lowered 32 = .ok (.getfield 15, 3) := by decide +kernel
theorem dX2_lowered_35 : decode cX2_lowered 35 = .ok (.invokestatic 19, 3) := by decide +kernel
theorem dX2_lowered_38 : decode cX2_lowered 38 = .ok (.goto 4, 3) := by decide +kernel
theorem dX2_lowered_41 : decode cX2_lowered 41 = .ok (.iconst 0, 1) := by decide +kernel
theorem dX2_lowered_42 : decode cX2_lowered 42 = .ok (.iload_n 3, 1) := by decide +kernel
theorem dX2_lowered_43 : decode cX2_lowered 43 = .ok (.aload_n 1, 1) := by decide +kernel
theorem dX2_lowered_44 : decode cX2_lowered 44 = .ok (.iload_n 2, 1) := by decide +kernel
theorem dX2_lowered_45 : decode cX2_lowered 45 = .ok (.invokevirtual 62, 3) := by decide +kernel
theorem dX2_lowered_48 : decode cX2_lowered 48 = .ok (.invokevirtual 44, 3) := by decide +kernel
theorem dX2_lowered_51 : decode cX2_lowered 51 = .ok (.aload 4, 2) := by decide +kernel
theorem dX2_lowered_53 : decode cX2_lowered 53 = .ok (.iconst 1, 1) := by decide +kernel
theorem dX2_lowered_54 : decode cX2_lowered 54 = .ok (.putfield 41, 3) := by decide +kernel
theorem dX2_lowered_57 : decode cX2_lowered 57 = .ok (.aload 4, 2) := by decide +kernel
theorem dX2_lowered_59 : decode cX2_lowered 59 = .ok (.areturn, 1) := by decide +kernel
theorem dX2_withoutKey_0 : decode cX2_withoutKey 0 = .ok (.aload_n 0, 1) := by decide +kernel
theorem dX2_withoutKey_1 : decode cX2_withoutKey 1 = .ok (.aload_n 1, 1) := by decide +kernel
theorem dX2_withoutKey_2 : decode cX2_withoutKey 2 = .ok (.iconst (-1), 1) := by decide +kernel
theorem dX2_withoutKey_3 : decode cX2_withoutKey 3 = .ok (.invokevirtual 33, 3) := by decide +kernel
theorem dX2_withoutKey_6 : decode cX2_withoutKey 6 = .ok (.astore_n 3, 1) := by decide +kernel
theorem dX2_withoutKey_7 : decode cX2_withoutKey 7 = .ok (.aload_n 3, 1) := by decide +kernel
theorem dX2_withoutKey_8 : decode cX2_withoutKey 8 = .ok (.astore 4, 2) := by decide +kernel
theorem dX2_withoutKey_10 : decode cX2_withoutKey 10 = .ok (.iconst 0, 1) := by decide +kernel
theorem dX2_withoutKey_11 : decode cX2_withoutKey 11 = .ok (.istore 5, 2) := by decide +kernel
theorem dX2_withoutKey_13 : decode cX2_withoutKey 13 = .ok (.iload 5, 2) := by decide +kernel
theorem dX2_withoutKey_15 : decode cX2_withoutKey 15 = .ok (.iconst 4, 1) := by decide +kernel
theorem dX2_withoutKey_16 : decode cX2_withoutKey 16 = .ok (.if_icmp .ge 84, 3) := by decide +kernel
theorem dX2_withoutKey_19 : decode cX2_withoutKey 19 = .ok (.iload_n 2, 1) := by decide +kernel
theorem dX2_withoutKey_20 : decode cX2_withoutKey 20 = .ok (.iload 5, 2) := by decide +kernel
theorem dX2_withoutKey_22 : decode cX2_withoutKey 22 = .ok (.invokestatic 19, 3) := by decide +kernel
theorem dX2_withoutKey_25 : decode cX2_withoutKey 25 = .ok (.istore 6, 2) := by decide +kernel
theorem dX2_withoutKey_27 : decode cX2_withoutKey 27 = .ok (.aload 4, 2) := by decide +kernel
theorem dX2_withoutKey_29 : decode cX2_withoutKey 29 = .ok (.iload 6, 2) := by decide +kernel
theorem dX2_withoutKey_31 : decode cX2_withoutKey 31 = .ok (.invokevirtual 25, 3) := by decide +kernel
theorem dX2_withoutKey_34 : decode cX2_withoutKey 34 = .ok (.astore 7, 2) := by decide +kernel
theorem dX2_withoutKey_36 : decode cX2_withoutKey 36 = .ok (.aload 4, 2) := by decide +kernel
theorem dX2_withoutKey_38 : decode cX2_withoutKey 38 = .ok (.dup, 1) := by decide +kernel
theorem dX2_withoutKey_39 : decode cX2_withoutKey 39 = .ok (.getfield 41, 3) := by decide +kernel
theorem dX2_withoutKey_42 : decode cX2_withoutKey 42 = .ok (.iconst 1, 1) := by decide +kernel
theorem dX2_withoutKey_43 : decode cX2_withoutKey 43 = .ok (.isub, 1) := by decide +kernel
theorem dX2_withoutKey_44 : decode cX2_withoutKey 44 = .ok (.putfield 41, 3) := by decide +kernel
theorem dX2_withoutKey_47 : decode cX2_withoutKey 47 = .ok (.aload 7, 2) := by decide +kernel
theorem dX2_withoutKey_49 : decode cX2_withoutKey 49 = .ok (.ifnonnull 14, 3) := by decide +kernel
theorem dX2_withoutKey_52 : decode cX2_withoutKey 52 = .ok (.aload 4, 2) := by decide +kernel
theorem dX2_withoutKey_54 : decode cX2_withoutKey 54 = .ok (.iload 6, 2) := by decide +kernel
theorem dX2_withoutKey_56 : decode cX2_withoutKey 56 = .ok (.iconst (-1), 1) := by decide +kernel
theorem dX2_withoutKey_57 : decode cX2_withoutKey 57 = .ok (.iconst 0, 1) := by decide +kernel
theorem dX2_withoutKey_58 : decode cX2_withoutKey 58 = .ok (.invokevirtual 44, 3) := by decide +kernel
theorem dX2_withoutKey_61 : decode cX2_withoutKey 61 = .ok (.aload_n 3, 1) := by decide +kernel
theorem dX2_withoutKey_62 : decode cX2_withoutKey 62 = .ok (.areturn, 1) := by decide +kernel
theorem dX2_withoutKey_63 : decode cX2_withoutKey 63 = .ok (.aload 7, 2) := by decide +kernel
theorem dX2_withoutKey_65 : decode cX2_withoutKey 65 = .ok (.getfield 41, 3) := by decide +kernel
theorem dX2_withoutKey_68 : decode cX2_withoutKey 68 = .ok (.iconst 2, 1) := by decide +kernel
theorem dX2_withoutKey_69 : decode cX2_withoutKey 69 = .ok (.if_icmp .gt 15, 3) := by decide +kernel
theorem dX2_withoutKey_72 : decode cX2_withoutKey 72 = .ok (.aload 4, 2) := by decide +kernel
theorem dX2_withoutKey_74 : decode cX2_withoutKey 74 = .ok (.iload 6, 2) := by decide +kernel
theorem dX2_withoutKey_76 : decode cX2_withoutKey 76 = .ok (.aload 7, 2) := by decide +kernel
theorem dX2_withoutKey_78 : decode cX2_withoutKey 78 = .ok (.iload_n 2, 1) := by decide +kernel
theorem dX2_withoutKey_79 : decode cX2_withoutKey 79 = .ok (.invokestatic 65, 3) := by decide +kernel
theorem dX2_withoutKey_82 : decode cX2_withoutKey 82 = .ok (.aload_n 3, 1) := by decide +kernel
theorem dX2_withoutKey_83 : decode cX2_withoutKey 83 = .ok (.areturn, 1) := by decide +kernel
theorem dX2_withoutKey_84 : decode cX2_withoutKey 84 = .ok (.aload_n 0, 1) := by decide +kernel
theorem dX2_withoutKey_85 : decode cX2_withoutKey 85 = .ok (.aload 4, 2) := by decide +kernel
theorem dX2_withoutKey_87 : decode cX2_withoutKey 87 = .ok (.iload 6, 2) := by decide +kernel
theorem dX2_withoutKey_89 : decode cX2_withoutKey 89 = .ok (.invokestatic 48, 3) := by decide +kernel
theorem dX2_withoutKey_92 : decode cX2_withoutKey 92 = .ok (.astore 4, 2) := by decide +kernel
theorem dX2_withoutKey_94 : decode cX2_withoutKey 94 = .ok (.iinc 5 1, 3) := by decide +kernel
theorem dX2_withoutKey_97 : decode cX2_withoutKey 97 = .ok (.goto (-84), 3) := by decide +kernel
theorem dX2_withoutKey_100 : decode cX2_withoutKey 100 = .ok (.aload 4, 2) := by decide +kernel
theorem dX2_withoutKey_102 : decode cX2_withoutKey 102 = .ok (.iload_n 2, 1) := by decide +kernel
theorem dX2_withoutKey_103 : decode cX2_withoutKey 103 = .ok (.invokestatic 69, 3) := by decide +kernel
theorem dX2_withoutKey_106 : decode cX2_withoutKey 106 = .ok (.aload_n 3, 1) := by decide +kernel
theorem dX2_withoutKey_107 : decode cX2_withoutKey 107 = .ok (.areturn, 1) := by decide +kernel
theorem dX2_lift_0 : decode cX2_lift 0 = .ok (.aload_n 0, 1) := by decide +kernel
theorem dX2_lift_1 : decode cX2_lift 1 = .ok (.iload_n 1, 1) := by decide +kernel
theorem dX2_lift_2 : decode cX2_lift 2 = .ok (.aconst_null, 1) := by decide +kernel
theorem dX2_lift_3 : decode cX2_lift 3 = .ok (.invokevirtual 55, 3) := by decide +kernel
theorem dX2_lift_6 : decode cX2_lift 6 = .ok (.aload_n 2, 1) := by decide +kernel
theorem dX2_lift_7 : decode cX2_lift 7 = .ok (.iload_n 3, 1) := by decide +kernel
theorem dX2_lift_8 : decode cX2_lift 8 = .ok (.invokestatic 29, 3) := by decide +kernel
theorem dX2_lift_11 : decode cX2_lift 11 = .ok (.astore 4, 2) := by decide +kernel
theorem dX2_lift_13 : decode cX2_lift 13 = .ok (.aload 4, 2) := by decide +kernel
theorem dX2_lift_15 : decode cX2_lift 15 = .ok (.ifnonnull 4, 3) := by decide +kernel
theorem dX2_lift_18 : decode cX2_lift 18 = .ok (.return_, 1) := by decide +kernel
theorem dX2_lift_19 : decode cX2_lift 19 = .ok (.aload 4, 2) := by decide +kernel
theorem dX2_lift_21 : decode cX2_lift 21 = .ok (.getfield 15, 3) := by decide +kernel
theorem dX2_lift_24 : decode cX2_lift 24 = .ok (.iconst 4, 1) := by decide +kernel
theorem dX2_lift_25 : decode cX2_lift 25 = .ok (.if_icmp .ge 7, 3) := by decide +kernel
theorem dX2_lift_28 : decode cX2_lift 28 = .ok (.iconst 4, 1) := by decide +kernel
theorem dX2_lift_29 : decode cX2_lift 29 = .ok (.goto 8, 3) := by decide +kernel
theorem dX2_lift_32 : decode cX2_lift 32 = .ok (.aload 4, 2) := by decide +kernel
theorem dX2_lift_34 : decode cX2_lift 34 = .ok (.getfield 41, 3) := by decide +kernel
theorem dX2_lift_37 : decode cX2_lift 37 = .ok (.istore 5, 2) := by decide +kernel
theorem dX2_lift_39 : decode cX2_lift 39 = .ok (.iconst 0, 1) := by decide +kernel
theorem dX2_lift_40 : decode cX2_lift 40 = .ok (.istore 6, 2) := by decide +kernel
theorem dX2_lift_42 : decode cX2_lift 42 = .ok (.iload 6, 2) := by decide +kernel
theorem dX2_lift_44 : decode cX2_lift 44 = .ok (.iload 5, 2) := by decide +kernel
theorem dX2_lift_46 : decode cX2_lift 46 = .ok (.if_icmp .ge 44, 3) := by decide +kernel
theorem dX2_lift_49 : decode cX2_lift 49 = .ok (.aload 4, 2) := by decide +kernel
theorem dX2_lift_51 : decode cX2_lift 51 = .ok (.iload 6, 2) := by decide +kernel
theorem dX2_lift_53 : decode cX2_lift 53 = .ok (.invokevirtual 38, 3) := by decide +kernel
theorem dX2_lift_56 : decode cX2_lift 56 = .ok (.istore 7, 2) := by decide +kernel
theorem dX2_lift_58 : decode cX2_lift 58 = .ok (.iload 7, 2) := by decide +kernel
theorem dX2_lift_60 : decode cX2_lift 60 = .ok (.iconst (-1), 1) := by decide +kernel
theorem dX2_lift_61 : decode cX2_lift 61 = .ok (.if_icmp .eq 23, 3) := by decide +kernel
theorem dX2_lift_64 : decode cX2_lift 64 = .ok (.iload 7, 2) := by decide +kernel
theorem dX2_lift_66 : decode cX2_lift 66 = .ok (.iload_n 3, 1) := by decide +kernel
theorem dX2_lift_67 : decode cX2_lift 67 = .ok (.if_icmp .eq 17, 3) := by decide +kernel
theorem dX2_lift_70 : decode cX2_lift 70 = .ok (.aload_n 0, 1) := by decide +kernel
theorem dX2_lift_71 : decode cX2_lift 71 = .ok (.iload_n 1, 1) := by decide +kernel
theorem dX2_lift_72 : decode cX2_lift 72 = .ok (.iload 7, 2) := by decide +kernel
theorem dX2_lift_74 : decode cX2_lift 74 = .ok (.aload 4, 2) := by decide +kernel
theorem dX2_lift_76 : decode cX2_lift 76 = .ok (.iload 6, 2) := by decide +kernel
theorem dX2_lift_78 : decode cX2_lift 78 = .ok (.invokevirtual 62, 3) := by decide +kernel
theorem dX2_lift_81 : decode cX2_lift 81 = .ok (.invokevirtual 44, 3) := by decide +kernel
theorem dX2_lift_84 : decode cX2_lift 84 = .ok (.iinc 6 1, 3) := by decide +kernel
theorem dX2_lift_87 : decode cX2_lift 87 = .ok (.goto (-45), 3) := by decide +kernel
theorem dX2_lift_90 : decode cX2_lift 90 = .ok (.return_, 1) := by decide +kernel
theorem dX2_dropFromRow_0 : decode cX2_dropFromRow 0 = .ok (.aload_n 0, 1) := by decide +kernel
theorem dX2_dropFromRow_1 : decode cX2_dropFromRow 1 = .ok (.iload_n 1, 1) := by decide +kernel
theorem dX2_dropFromRow_2 : decode cX2_dropFromRow 2 = .ok (.invokevirtual 9, 3) := by decide +kernel
theorem dX2_dropFromRow_5 : decode cX2_dropFromRow 5 = .ok (.istore_n 2, 1) := by decide +kernel
theorem dX2_dropFromRow_6 : decode cX2_dropFromRow 6 = .ok (.iload_n 2, 1) := by decide +kernel
theorem dX2_dropFromRow_7 : decode cX2_dropFromRow 7 = .ok (.iconst (-1), 1) := by decide +kernel
theorem dX2_dropFromRow_8 : decode cX2_dropFromRow 8 = .ok (.if_icmp .ne 4, 3) := by decide +kernel
theorem dX2_dropFromRow_11 : decode cX2_dropFromRow 11 = .ok (.return_, 1) := by decide +kernel
theorem dX2_dropFromRow_12 : decode cX2_dropFromRow 12 = .ok (.aload_n 0, 1) := by decide +kernel
theorem dX2_dropFromRow_13 : decode cX2_dropFromRow 13 = .ok (.dup, 1) := by decide +kernel
theorem dX2_dropFromRow_14 : decode cX2_dropFromRow 14 = .ok (.getfield 41, 3) := by decide +kernel
theorem dX2_dropFromRow_17 : decode cX2_dropFromRow 17 = .ok (.iconst 1, 1) := by decide +kernel
theorem dX2_dropFromRow_18 : decode cX2_dropFromRow 18 = .ok (.isub, 1) := by decide +kernel
theorem dX2_dropFromRow_19 : decode cX2_dropFromRow 19 = .ok (.putfield 41, 3) := by decide +kernel
theorem dX2_dropFromRow_22 : decode cX2_dropFromRow 22 = .ok (.iload_n 2, 1) := by decide +kernel
theorem dX2_dropFromRow_23 : decode cX2_dropFromRow 23 = .ok (.istore_n 3, 1) := by decide +kernel
theorem dX2_dropFromRow_24 : decode cX2_dropFromRow 24 = .ok (.iload_n 3, 1) := by decide +kernel
theorem dX2_dropFromRow_25 : decode cX2_dropFromRow 25 = .ok (.aload_n 0, 1) := by decide +kernel
theorem dX2_dropFromRow_26 : decode cX2_dropFromRow 26 = .ok (.getfield 41, 3) := by decide +kernel
theorem dX2_dropFromRow_29 : decode cX2_dropFromRow 29 = .ok (.if_icmp .ge 28, 3) := by decide +kernel
theorem dX2_dropFromRow_32 : decode cX2_dropFromRow 32 = .ok (.aload_n 0, 1) := by decide +kernel
theorem dX2_dropFromRow_33 : decode cX2_dropFromRow 33 = .ok (.iload_n 3, 1) := by decide +kernel
theorem dX2_dropFromRow_34 : decode cX2_dropFromRow 34 = .ok (.aload_n 0, 1) := by decide +kernel
theorem dX2_dropFromRow_35 : decode cX2_dropFromRow 35 = .ok (.iload_n 3, 1) := by decide +kernel
theorem dX2_dropFromRow_36 : decode cX2_dropFromRow 36 = .ok (.iconst 1, 1) := by decide +kernel
theorem dX2_dropFromRow_37 : decode cX2_dropFromRow 37 = .ok (.iadd, 1) := by decide +kernel
theorem dX2_dropFromRow_38 : decode cX2_dropFromRow 38 = .ok (.invokevirtual 38, 3) := by decide +kernel
theorem dX2_dropFromRow_41 : decode cX2_dropFromRow 41 = .ok (.aload_n 0, 1) := by decide +kernel
theorem dX2_dropFromRow_42 : decode cX2_dropFromRow 42 = .ok (.iload_n 3, 1) := by decide +kernel
theorem dX2_dropFromRow_43 : decode cX2_dropFromRow 43 = .ok (.iconst 1, 1) := by decide +kernel
theorem dX2_dropFromRow_44 : decode cX2_dropFromRow 44 = .ok (.iadd, 1) := by decide +kernel
theorem dX2_dropFromRow_45 : decode cX2_dropFromRow 45 = .ok (.invokevirtual 62, 3) := by decide +kernel
theorem dX2_dropFromRow_48 : decode cX2_dropFromRow 48 = .ok (.invokevirtual 44, 3) := by decide +kernel
theorem dX2_dropFromRow_51 : decode cX2_dropFromRow 51 = .ok (.iinc 3 1, 3) := by decide +kernel
theorem dX2_dropFromRow_54 : decode cX2_dropFromRow 54 = .ok (.goto (-30), 3) := by decide +kernel
theorem dX2_dropFromRow_57 : decode cX2_dropFromRow 57 = .ok (.aload_n 0, 1) := by decide +kernel
theorem dX2_dropFromRow_58 : decode cX2_dropFromRow 58 = .ok (.aload_n 0, 1) := by decide +kernel
theorem dX2_dropFromRow_59 : decode cX2_dropFromRow 59 = .ok (.getfield 41, 3) := by decide +kernel
theorem dX2_dropFromRow_62 : decode cX2_dropFromRow 62 = .ok (.iconst (-1), 1) := by decide +kernel
theorem dX2_dropFromRow_63 : decode cX2_dropFromRow 63 = .ok (.iconst 0, 1) := by decide +kernel
theorem dX2_dropFromRow_64 : decode cX2_dropFromRow 64 = .ok (.invokevirtual 44, 3) := by decide +kernel
theorem dX2_dropFromRow_67 : decode cX2_dropFromRow 67 = .ok (.return_, 1) := by decide +kernel
theorem dX3_init_0 : decode cX3_init 0 = .ok (.aload_n 0, 1) := by decide +kernel
theorem dX3_init_1 : decode cX3_init 1 = .ok (.invokespecial 3, 3) := by decide +kernel
theorem dX3_init_4 : decode cX3_init 4 = .ok (.aload_n 0, 1) := by decide +kernel
theorem dX3_init_5 : decode cX3_init 5 = .ok (.iconst 0, 1) := by decide +kernel
theorem dX3_init_6 : decode cX3_init 6 = .ok (.putfield 9, 3) := by decide +kernel
theorem dX3_init_9 : decode cX3_init 9 = .ok (.aload_n 0, 1) := by decide +kernel
theorem dX3_init_10 : decode cX3_init 10 = .ok (.iconst 0, 1) := by decide +kernel
theorem dX3_init_11 : decode cX3_init 11 = .ok (.putfield 15, 3) := by decide +kernel
theorem dX3_init_14 : decode cX3_init 14 = .ok (.aload_n 0, 1) := by decide +kernel
theorem dX3_init_15 : decode cX3_init 15 = .ok (.iload_n 1, 1) := by decide +kernel
theorem dX3_init_16 : decode cX3_init 16 = .ok (.putfield 18, 3) := by decide +kernel
theorem dX3_init_19 : decode cX3_init 19 = .ok (.aload_n 0, 1) := by decide +kernel
theorem dX3_init_20 : decode cX3_init 20 = .ok (.iload_n 2, 1) := by decide +kernel
theorem dX3_init_21 : decode cX3_init 21 = .ok (.putfield 21, 3) := by decide +kernel
theorem dX3_init_24 : decode cX3_init 24 = .ok (.aload_n 0, 1) := by decide +kernel
theorem dX3_init_25 : decode cX3_init 25 = .ok (.aload_n 3, 1) := by decide +kernel
theorem dX3_init_26 : decode cX3_init 26 = .ok (.putfield 24, 3) := by decide +kernel
theorem dX3_init_29 : decode cX3_init 29 = .ok (.aload_n 0, 1) := by decide +kernel
theorem dX3_init_30 : decode cX3_init 30 = .ok (.aload 4, 2) := by decide +kernel
theorem dX3_init_32 : decode cX3_init 32 = .ok (.putfield 28, 3) := by decide +kernel
theorem dX3_init_35 : decode cX3_init 35 = .ok (.aload_n 0, 1) := by decide +kernel
theorem dX3_init_36 : decode cX3_init 36 = .ok (.aload 5, 2) := by decide +kernel
theorem dX3_init_38 : decode cX3_init 38 = .ok (.putfield 31, 3) := by decide +kernel
theorem dX3_init_41 : decode cX3_init 41 = .ok (.return_, 1) := by decide +kernel
theorem dX3_childAt_0 : decode cX3_childAt 0 = .ok (.aload_n 0, 1) := by decide +kernel
theorem dX3_childAt_1 : decode cX3_childAt 1 = .ok (.getfield 31, 3) := by decide +kernel
theorem dX3_childAt_4 : decode cX3_childAt 4 = .ok (.ifnull 16, 3) := by decide +kernel
theorem dX3_childAt_7 : decode cX3_childAt 7 = .ok (.iload_n 1, 1) := by decide +kernel
theorem dX3_childAt_8 : decode cX3_childAt 8 = .ok (.ifCond .lt 12, 3) := by decide +kernel
theorem dX3_childAt_11 : decode cX3_childAt 11 = .ok (.iload_n 1, 1) := by decide +kernel
theorem dX3_childAt_12 : decode cX3_childAt 12 = .ok (.aload_n 0, 1) := by decide +kernel
theorem dX3_childAt_13 : decode cX3_childAt 13 = .ok (.getfield 31, 3) := by decide +kernel
theorem dX3_childAt_16 : decode cX3_childAt 16 = .ok (.arraylength, 1) := by decide +kernel
theorem dX3_childAt_17 : decode cX3_childAt 17 = .ok (.if_icmp .lt 7, 3) := by decide +kernel
theorem dX3_childAt_20 : decode cX3_childAt 20 = .ok (.aconst_null, 1) := by decide +kernel
theorem dX3_childAt_21 : decode cX3_childAt 21 = .ok (.goto 9, 3) := by decide +kernel
theorem dX3_childAt_24 : decode cX3_childAt 24 = .ok (.aload_n 0, 1) := by decide +kernel
theorem dX3_childAt_25 : decode cX3_childAt 25 = .ok (.getfield 31, 3) := by decide +kernel
theorem dX3_childAt_28 : decode cX3_childAt 28 = .ok (.iload_n 1, 1) := by decide +kernel
theorem dX3_childAt_29 : decode cX3_childAt 29 = .ok (.aaload, 1) := by decide +kernel
theorem dX3_childAt_30 : decode cX3_childAt 30 = .ok (.areturn, 1) := by decide +kernel
theorem dX3_putChild_0 : decode cX3_putChild 0 = .ok (.aload_n 0, 1) := by decide +kernel
theorem dX3_putChild_1 : decode cX3_putChild 1 = .ok (.getfield 31, 3) := by decide +kernel
theorem dX3_putChild_4 : decode cX3_putChild 4 = .ok (.ifnull 23, 3) := by decide +kernel
theorem dX3_putChild_7 : decode cX3_putChild 7 = .ok (.iload_n 1, 1) := by decide +kernel
theorem dX3_putChild_8 : decode cX3_putChild 8 = .ok (.ifCond .lt 19, 3) := by decide +kernel
theorem dX3_putChild_11 : decode cX3_putChild 11 = .ok (.iload_n 1, 1) := by decide +kernel
theorem dX3_putChild_12 : decode cX3_putChild 12 = .ok (.aload_n 0, 1) := by decide +kernel
theorem dX3_putChild_13 : decode cX3_putChild 13 = .ok (.getfield 31, 3) := by decide +kernel
theorem dX3_putChild_16 : decode cX3_putChild 16 = .ok (.arraylength, 1) := by decide +kernel
theorem dX3_putChild_17 : decode cX3_putChild 17 = .ok (.if_icmp .ge 10, 3) := by decide +kernel
theorem dX3_putChild_20 : decode cX3_putChild 20 = .ok (.aload_n 0, 1) := by decide +kernel
theorem dX3_putChild_21 : decode cX3_putChild 21 = .ok (.getfield 31, 3) := by decide +kernel
theorem dX3_putChild_24 : decode cX3_putChild 24 = .ok (.iload_n 1, 1) := by decide +kernel
theorem dX3_putChild_25 : decode cX3_putChild 25 = .ok (.aload_n 2, 1) := by decide +kernel
theorem dX3_putChild_26 : decode cX3_putChild 26 = .ok (.aastore, 1) := by decide +kernel
theorem dX3_putChild_27 : decode cX3_putChild 27 = .ok (.return_, 1) := by decide +kernel
theorem dX3_elementAt_0 : decode cX3_elementAt 0 = .ok (.aload_n 0, 1) := by decide +kernel
theorem dX3_elementAt_1 : decode cX3_elementAt 1 = .ok (.getfield 28, 3) := by decide +kernel
theorem dX3_elementAt_4 : decode cX3_elementAt 4 = .ok (.ifnull 16, 3) := by decide +kernel
theorem dX3_elementAt_7 : decode cX3_elementAt 7 = .ok (.iload_n 1, 1) := by decide +kernel
theorem dX3_elementAt_8 : decode cX3_elementAt 8 = .ok (.ifCond .lt 12, 3) := by decide +kernel
theorem dX3_elementAt_11 : decode cX3_elementAt 11 = .ok (.iload_n 1, 1) := by decide +kernel
theorem dX3_elementAt_12 : decode cX3_elementAt 12 = .ok (.aload_n 0, 1) := by decide +kernel
theorem dX3_elementAt_13 : decode cX3_elementAt 13 = .ok (.getfield 28, 3) := by decide +kernel
theorem dX3_elementAt_16 : decode cX3_elementAt 16 = .ok (.arraylength, 1) := by decide +kernel
theorem dX3_elementAt_17 : decode cX3_elementAt 17 = .ok (.if_icmp .lt 7, 3) := by decide +kernel
theorem dX3_elementAt_20 : decode cX3_elementAt 20 = .ok (.iconst 0, 1) := by decide +kernel
theorem dX3_elementAt_21 : decode cX3_elementAt 21 = .ok (.goto 9, 3) := by decide +kernel
theorem dX3_elementAt_24 : decode cX3_elementAt 24 = .ok (.aload_n 0, 1) := by decide +kernel
theorem dX3_elementAt_25 : decode cX3_elementAt 25 = .ok (.getfield 28, 3) := by decide +kernel
theorem dX3_elementAt_28 : decode cX3_elementAt 28 = .ok (.iload_n 1, 1) := by decide +kernel
theorem dX3_elementAt_29 : decode cX3_elementAt 29 = .ok (.iaload, 1) := by decide +kernel
theorem dX3_elementAt_30 : decode cX3_elementAt 30 = .ok (.ireturn, 1) := by decide +kernel
theorem dX3_putElement_0 : decode cX3_putElement 0 = .ok (.aload_n 0, 1) := by decide +kernel
theorem dX3_putElement_1 : decode cX3_putElement 1 = .ok (.getfield 28, 3) := by decide +kernel
theorem dX3_putElement_4 : decode cX3_putElement 4 = .ok (.ifnull 23, 3) := by decide +kernel
theorem dX3_putElement_7 : decode cX3_putElement 7 = .ok (.iload_n 1, 1) := by decide +kernel
theorem dX3_putElement_8 : decode cX3_putElement 8 = .ok (.ifCond .lt 19, 3) := by decide +kernel
theorem dX3_putElement_11 : decode cX3_putElement 11 = .ok (.iload_n 1, 1) := by decide +kernel
theorem dX3_putElement_12 : decode cX3_putElement 12 = .ok (.aload_n 0, 1) := by decide +kernel
theorem dX3_putElement_13 : decode cX3_putElement 13 = .ok (.getfield 28, 3) := by decide +kernel
theorem dX3_putElement_16 : decode cX3_putElement 16 = .ok (.arraylength, 1) := by decide +kernel
theorem dX3_putElement_17 : decode cX3_putElement 17 = .ok (.if_icmp .ge 10, 3) := by decide +kernel
theorem dX3_putElement_20 : decode cX3_putElement 20 = .ok (.aload_n 0, 1) := by decide +kernel
theorem dX3_putElement_21 : decode cX3_putElement 21 = .ok (.getfield 28, 3) := by decide +kernel
theorem dX3_putElement_24 : decode cX3_putElement 24 = .ok (.iload_n 1, 1) := by decide +kernel
theorem dX3_putElement_25 : decode cX3_putElement 25 = .ok (.iload_n 2, 1) := by decide +kernel
theorem dX3_putElement_26 : decode cX3_putElement 26 = .ok (.iastore, 1) := by decide +kernel
theorem dX3_putElement_27 : decode cX3_putElement 27 = .ok (.return_, 1) := by decide +kernel
theorem dX3_keyAt_0 : decode cX3_keyAt 0 = .ok (.aload_n 0, 1) := by decide +kernel
theorem dX3_keyAt_1 : decode cX3_keyAt 1 = .ok (.getfield 24, 3) := by decide +kernel
theorem dX3_keyAt_4 : decode cX3_keyAt 4 = .ok (.ifnull 16, 3) := by decide +kernel
theorem dX3_keyAt_7 : decode cX3_keyAt 7 = .ok (.iload_n 1, 1) := by decide +kernel
theorem dX3_keyAt_8 : decode cX3_keyAt 8 = .ok (.ifCond .lt 12, 3) := by decide +kernel
theorem dX3_keyAt_11 : decode cX3_keyAt 11 = .ok (.iload_n 1, 1) := by decide +kernel
theorem dX3_keyAt_12 : decode cX3_keyAt 12 = .ok (.aload_n 0, 1) := by decide +kernel
theorem dX3_keyAt_13 : decode cX3_keyAt 13 = .ok (.getfield 24, 3) := by decide +kernel
theorem dX3_keyAt_16 : decode cX3_keyAt 16 = .ok (.arraylength, 1) := by decide +kernel
theorem dX3_keyAt_17 : decode cX3_keyAt 17 = .ok (.if_icmp .lt 7, 3) := by decide +kernel
theorem dX3_keyAt_20 : decode cX3_keyAt 20 = .ok (.iconst (-1), 1) := by decide +kernel
theorem dX3_keyAt_21 : decode cX3_keyAt 21 = .ok (.goto 9, 3) := by decide +kernel
theorem dX3_keyAt_24 : decode cX3_keyAt 24 = .ok (.aload_n 0, 1) := by decide +kernel
theorem dX3_keyAt_25 : decode cX3_keyAt 25 = .ok (.getfield 24, 3) := by decide +kernel
theorem dX3_keyAt_28 : decode cX3_keyAt 28 = .ok (.iload_n 1, 1) := by decide +kernel
theorem dX3_keyAt_29 : decode cX3_keyAt 29 = .ok (.iaload, 1) := by decide +kernel
theorem dX3_keyAt_30 : decode cX3_keyAt 30 = .ok (.ireturn, 1) := by decide +kernel
theorem dX3_putPair_0 : decode cX3_putPair 0 = .ok (.aload_n 0, 1) := by decide +kernel
theorem dX3_putPair_1 : decode cX3_putPair 1 = .ok (.getfield 24, 3) := by decide +kernel
theorem dX3_putPair_4 : decode cX3_putPair 4 = .ok (.ifnull 29, 3) := by decide +kernel
theorem dX3_putPair_7 : decode cX3_putPair 7 = .ok (.iload_n 1, 1) := by decide +kernel
theorem dX3_putPair_8 : decode cX3_putPair 8 = .ok (.ifCond .lt 25, 3) := by decide +kernel
theorem dX3_putPair_11 : decode cX3_putPair 11 = .ok (.iload_n 1, 1) := by decide +kernel
theorem dX3_putPair_12 : decode cX3_putPair 12 = .ok (.aload_n 0, 1) := by decide +kernel
theorem dX3_putPair_13 : decode cX3_putPair 13 = .ok (.getfield 24, 3) := by decide +kernel
theorem dX3_putPair_16 : decode cX3_putPair 16 = .ok (.arraylength, 1) := by decide +kernel
theorem dX3_putPair_17 : decode cX3_putPair 17 = .ok (.if_icmp .ge 16, 3) := by decide +kernel
theorem dX3_putPair_20 : decode cX3_putPair 20 = .ok (.aload_n 0, 1) := by decide +kernel
theorem dX3_putPair_21 : decode cX3_putPair 21 = .ok (.getfield 24, 3) := by decide +kernel
theorem dX3_putPair_24 : decode cX3_putPair 24 = .ok (.iload_n 1, 1) := by decide +kernel
theorem dX3_putPair_25 : decode cX3_putPair 25 = .ok (.iload_n 2, 1) := by decide +kernel
theorem dX3_putPair_26 : decode cX3_putPair 26 = .ok (.iastore, 1) := by decide +kernel
theorem dX3_putPair_27 : decode cX3_putPair 27 = .ok (.aload_n 0, 1) := by decide +kernel
theorem dX3_putPair_28 : decode cX3_putPair 28 = .ok (.iload_n 1, 1) := by decide +kernel
theorem dX3_putPair_29 : decode cX3_putPair 29 = .ok (.iload_n 3, 1) := by decide +kernel
theorem dX3_putPair_30 : decode cX3_putPair 30 = .ok (.invokevirtual 35, 3) := by decide +kernel
theorem dX3_putPair_33 : decode cX3_putPair 33 = .ok (.return_, 1) := by decide +kernel
theorem dX3_slotOf_0 : decode cX3_slotOf 0 = .ok (.aload_n 0, 1) := by decide +kernel
theorem dX3_slotOf_1 : decode cX3_slotOf 1 = .ok (.getfield 18, 3) := by decide +kernel
theorem dX3_slotOf_4 : decode cX3_slotOf 4 = .ok (.iconst 4, 1) := by decide +kernel
theorem dX3_slotOf_5 : decode cX3_slotOf 5 = .ok (.if_icmp .ge 27, 3) := by decide +kernel
theorem dX3_slotOf_8 : decode cX3_slotOf 8 = .ok (.iload_n 1, 1) := by decide +kernel
theorem dX3_slotOf_9 : decode cX3_slotOf 9 = .ok (.aload_n 0, 1) := by decide +kernel
theorem dX3_slotOf_10 : decode cX3_slotOf 10 = .ok (.getfield 18, 3) := by decide +kernel
theorem dX3_slotOf_13 : decode cX3_slotOf 13 = .ok (.invokestatic 39, 3) := by decide +kernel
theorem dX3_slotOf_16 : decode cX3_slotOf 16 = .ok (.istore_n 2, 1) := by decide +kernel
theorem dX3_slotOf_17 : decode cX3_slotOf 17 = .ok (.aload_n 0, 1) := by decide +kernel
theorem dX3_slotOf_18 : decode cX3_slotOf 18 = .ok (.iload_n 2, 1) := by decide +kernel
theorem dX3_slotOf_19 : decode cX3_slotOf 19 = .ok (.invokevirtual 45, 3) := by decide +kernel
theorem dX3_slotOf_22 : decode cX3_slotOf 22 = .ok (.iload_n 1, 1) := by decide +kernel
theorem dX3_slotOf_23 : decode cX3_slotOf 23 = .ok (.if_icmp .ne 7, 3) := by decide +kernel
theorem dX3_slotOf_26 : decode cX3_slotOf 26 = .ok (.iload_n 2, 1) := by decide +kernel
theorem dX3_slotOf_27 : decode cX3_slotOf 27 = .ok (.goto 4, 3) := by decide +kernel
theorem dX3_slotOf_30 : decode cX3_slotOf 30 = .ok (.iconst (-1), 1) := by decide +kernel
theorem dX3_slotOf_31 : decode cX3_slotOf 31 = .ok (.ireturn, 1) := by decide +kernel
theorem dX3_slotOf_32 : decode cX3_slotOf 32 = .ok (.iconst 0, 1) := by decide +kernel
theorem dX3_slotOf_33 : decode cX3_slotOf 33 = .ok (.istore_n 2, 1) := by decide +kernel
theorem dX3_slotOf_34 : decode cX3_slotOf 34 = .ok (.iload_n 2, 1) := by decide +kernel
theorem dX3_slotOf_35 : decode cX3_slotOf 35 = .ok (.aload_n 0, 1) := by decide +kernel
theorem dX3_slotOf_36 : decode cX3_slotOf 36 = .ok (.getfield 9, 3) := by decide +kernel
theorem dX3_slotOf_39 : decode cX3_slotOf 39 = .ok (.if_icmp .ge 20, 3) := by decide +kernel
theorem dX3_slotOf_42 : decode cX3_slotOf 42 = .ok (.aload_n 0, 1) := by decide +kernel
theorem dX3_slotOf_43 : decode cX3_slotOf 43 = .ok (.iload_n 2, 1) := by decide +kernel
theorem dX3_slotOf_44 : decode cX3_slotOf 44 = .ok (.invokevirtual 45, 3) := by decide +kernel
theorem dX3_slotOf_47 : decode cX3_slotOf 47 = .ok (.iload_n 1, 1) := by decide +kernel
theorem dX3_slotOf_48 : decode cX3_slotOf 48 = .ok (.if_icmp .ne 5, 3) := by decide +kernel
theorem dX3_slotOf_51 : decode cX3_slotOf 51 = .ok (.iload_n 2, 1) := by decide +kernel
theorem dX3_slotOf_52 : decode cX3_slotOf 52 = .ok (.ireturn, 1) := by decide +kernel
theorem dX3_slotOf_53 : decode cX3_slotOf 53 = .ok (.iinc 2 1, 3) := by decide +kernel
theorem dX3_slotOf_56 : decode cX3_slotOf 56 = .ok (.goto (-22), 3) := by decide +kernel
theorem dX3_slotOf_59 : decode cX3_slotOf 59 = .ok (.iconst (-1), 1) := by decide +kernel
theorem dX3_slotOf_60 : decode cX3_slotOf 60 = .ok (.ireturn, 1) := by decide +kernel
theorem dX4_init_0 : decode cX4_init 0 = .ok (.aload_n 0, 1) := by decide +kernel
theorem dX4_init_1 : decode cX4_init 1 = .ok (.invokespecial 3, 3) := by decide +kernel
theorem dX4_init_4 : decode cX4_init 4 = .ok (.aload_n 0, 1) := by decide +kernel
theorem dX4_init_5 : decode cX4_init 5 = .ok (.lconst 0, 1) := by decide +kernel
theorem dX4_init_6 : decode cX4_init 6 = .ok (.putfield 9, 3) := by decide +kernel
theorem dX4_init_9 : decode cX4_init 9 = .ok (.return_, 1) := by decide +kernel
theorem dX4_freshLeaf_0 : decode cX4_freshLeaf 0 = .ok (.aload_n 0, 1) := by decide +kernel
theorem dX4_freshLeaf_1 : decode cX4_freshLeaf 1 = .ok (.dup, 1) := by decide +kernel
theorem dX4_freshLeaf_2 : decode cX4_freshLeaf 2 = .ok (.getfield 9, 3) := by decide +kernel
theorem dX4_freshLeaf_5 : decode cX4_freshLeaf 5 = .ok (.lconst 1, 1) := by decide +kernel
theorem dX4_freshLeaf_6 : decode cX4_freshLeaf 6 = .ok (.ladd, 1) := by decide +kernel
theorem dX4_freshLeaf_7 : decode cX4_freshLeaf 7 = .ok (.putfield 9, 3) := by decide +kernel
theorem dX4_freshLeaf_10 : decode cX4_freshLeaf 10 = .ok (.new 15, 3) := by decide +kernel
theorem dX4_freshLeaf_13 : decode cX4_freshLeaf 13 = .ok (.dup, 1) := by decide +kernel
theorem dX4_freshLeaf_14 : decode cX4_freshLeaf 14 = .ok (.iconst 0, 1) := by decide +kernel
theorem dX4_freshLeaf_15 : decode cX4_freshLeaf 15 = .ok (.iload_n 1, 1) := by decide +kernel
theorem dX4_freshLeaf_16 : decode cX4_freshLeaf 16 = .ok (.aconst_null, 1) := by decide +kernel
theorem dX4_freshLeaf_17 : decode cX4_freshLeaf 17 = .ok (.iconst 4, 1) := by decide +kernel
theorem dX4_freshLeaf_18 : decode cX4_freshLeaf 18 = .ok (.newarray .int, 2) := by decide +kernel
theorem dX4_freshLeaf_20 : decode cX4_freshLeaf 20 = .ok (.aconst_null, 1) := by decide +kernel
theorem dX4_freshLeaf_21 : decode cX4_freshLeaf 21 = .ok (.invokespecial 17, 3) := by decide +kernel
theorem dX4_freshLeaf_24 : decode cX4_freshLeaf 24 = .ok (.areturn, 1) := by decide +kernel
theorem dX4_freshInner_0 : decode cX4_freshInner 0 = .ok (.aload_n 0, 1) := by decide +kernel
theorem dX4_freshInner_1 : decode cX4_freshInner 1 = .ok (.dup, 1) := by decide +kernel
theorem dX4_freshInner_2 : decode cX4_freshInner 2 = .ok (.getfield 9, 3) := by decide +kernel
theorem dX4_freshInner_5 : decode cX4_freshInner 5 = .ok (.lconst 1, 1) := by decide +kernel
theorem dX4_freshInner_6 : decode cX4_freshInner 6 = .ok (.ladd, 1) := by decide +kernel
theorem dX4_freshInner_7 : decode cX4_freshInner 7 = .ok (.putfield 9, 3) := by decide +kernel
theorem dX4_freshInner_10 : decode cX4_freshInner 10 = .ok (.new 15, 3) := by decide +kernel
theorem dX4_freshInner_13 : decode cX4_freshInner 13 = .ok (.dup, 1) := by decide +kernel
theorem dX4_freshInner_14 : decode cX4_freshInner 14 = .ok (.iconst 0, 1) := by decide +kernel
theorem dX4_freshInner_15 : decode cX4_freshInner 15 = .ok (.iload_n 1, 1) := by decide +kernel
theorem dX4_freshInner_16 : decode cX4_freshInner 16 = .ok (.aconst_null, 1) := by decide +kernel
theorem dX4_freshInner_17 : decode cX4_freshInner 17 = .ok (.aconst_null, 1) := by decide +kernel
theorem dX4_freshInner_18 : decode cX4_freshInner 18 = .ok (.iconst 4, 1) := by decide +kernel
theorem dX4_freshInner_19 : decode cX4_freshInner 19 = .ok (.anewarray 15, 3) := by decide +kernel
theorem dX4_freshInner_22 : decode cX4_freshInner 22 = .ok (.invokespecial 17, 3) := by decide +kernel
theorem dX4_freshInner_25 : decode cX4_freshInner 25 = .ok (.areturn, 1) := by decide +kernel
theorem dX4_freshMapNode_0 : decode cX4_freshMapNode 0 = .ok (.aload_n 0, 1) := by decide +kernel
theorem dX4_freshMapNode_1 : decode cX4_freshMapNode 1 = .ok (.dup, 1) := by decide +kernel
theorem dX4_freshMapNode_2 : decode cX4_freshMapNode 2 = .ok (.getfield 9, 3) := by decide +kernel
theorem dX4_freshMapNode_5 : decode cX4_freshMapNode 5 = .ok (.lconst 1, 1) := by decide +kernel
theorem dX4_freshMapNode_6 : decode cX4_freshMapNode 6 = .ok (.ladd, 1) := by decide +kernel
theorem dX4_freshMapNode_7 : decode cX4_freshMapNode 7 = .ok (.putfield 9, 3) := by decide +kernel
theorem dX4_freshMapNode_10 : decode cX4_freshMapNode 10 = .ok (.iload_n 1, 1) := by decide +kernel
theorem dX4_freshMapNode_11 : decode cX4_freshMapNode 11 = .ok (.iconst 4, 1) := by decide +kernel
theorem dX4_freshMapNode_12 : decode cX4_freshMapNode 12 = .ok (.if_icmp .lt 7, 3) := by decide +kernel
theorem dX4_freshMapNode_15 : decode cX4_freshMapNode 15 = .ok (.iconst 1, 1) := by decide +kernel
theorem dX4_freshMapNode_16 : decode cX4_freshMapNode 16 = .ok (.goto 4, 3) := by decide +kernel
theorem dX4_freshMapNode_19 : decode cX4_freshMapNode 19 = .ok (.iconst 0, 1) := by decide +kernel
theorem dX4_freshMapNode_20 : decode cX4_freshMapNode 20 = .ok (.istore_n 2, 1) := by decide +kernel
theorem dX4_freshMapNode_21 : decode cX4_freshMapNode 21 = .ok (.iload_n 2, 1) := by decide +kernel
theorem dX4_freshMapNode_22 : decode cX4_freshMapNode 22 = .ok (.ifCond .eq 8, 3) := by decide +kernel
theorem dX4_freshMapNode_25 : decode cX4_freshMapNode 25 = .ok (.bipush 40, 2) := by decide +kernel
theorem dX4_freshMapNode_27 : decode cX4_freshMapNode 27 = .ok (.goto 4, 3) := by decide +kernel
theorem dX4_freshMapNode_30 : decode cX4_freshMapNode 30 = .ok (.iconst 4, 1) := by decide +kernel
theorem dX4_freshMapNode_31 : decode cX4_freshMapNode 31 = .ok (.istore_n 3, 1) := by decide +kernel
theorem dX4_freshMapNode_32 : decode cX4_freshMapNode 32 = .ok (.iload_n 3, 1) := by decide +kernel
theorem dX4_freshMapNode_33 : decode cX4_freshMapNode 33 = .ok (.newarray .int, 2) := by decide +kernel
theorem dX4_freshMapNode_35 : decode cX4_freshMapNode 35 = .ok (.astore 4, 2) := by decide +kernel
theorem dX4_freshMapNode_37 : decode cX4_freshMapNode 37 = .ok (.aload 4, 2) := by decide +kernel
theorem dX4_freshMapNode_39 : decode cX4_freshMapNode 39 = .ok (.iconst (-1), 1) := by decide +kernel
theorem dX4_freshMapNode_40 : decode cX4_freshMapNode 40 = .ok (.invokestatic 20, 3) := by decide +kernel
theorem dX4_freshMapNode_43 : decode cX4_freshMapNode 43 = .ok (.new 15, 3) := by decide +kernel
theorem dX4_freshMapNode_46 : decode cX4_freshMapNode 46 = .ok (.dup, 1) := by decide +kernel
theorem dX4_freshMapNode_47 : decode cX4_freshMapNode 47 = .ok (.iload_n 1, 1) := by decide +kernel
theorem dX4_freshMapNode_48 : decode cX4_freshMapNode 48 = .ok (.iconst (-1), 1) := by decide +kernel
theorem dX4_freshMapNode_49 : decode cX4_freshMapNode 49 = .ok (.aload 4, 2) := by decide +kernel
theorem dX4_freshMapNode_51 : decode cX4_freshMapNode 51 = .ok (.iload_n 3, 1) := by decide +kernel
theorem dX4_freshMapNode_52 : decode cX4_freshMapNode 52 = .ok (.newarray .int, 2) := by decide +kernel
theorem dX4_freshMapNode_54 : decode cX4_freshMapNode 54 = .ok (.iload_n 2, 1) := by decide +kernel
theorem dX4_freshMapNode_55 : decode cX4_freshMapNode 55 = .ok (.ifCond .eq 7, 3) := by decide +kernel
theorem dX4_freshMapNode_58 : decode cX4_freshMapNode 58 = .ok (.aconst_null, 1) := by decide +kernel
theorem dX4_freshMapNode_59 : decode cX4_freshMapNode 59 = .ok (.goto 7, 3) := by decide +kernel
theorem dX4_freshMapNode_62 : decode cX4_freshMapNode 62 = .ok (.iconst 4, 1) := by decide +kernel
theorem dX4_freshMapNode_63 : decode cX4_freshMapNode 63 = .ok (.anewarray 15, 3) := by decide +kernel
theorem dX4_freshMapNode_66 : decode cX4_freshMapNode 66 = .ok (.invokespecial 17, 3) := by decide +kernel
theorem dX4_freshMapNode_69 : decode cX4_freshMapNode 69 = .ok (.areturn, 1) := by decide +kernel
theorem dX4_copyOf_0 : decode cX4_copyOf 0 = .ok (.aload_n 0, 1) := by decide +kernel
theorem dX4_copyOf_1 : decode cX4_copyOf 1 = .ok (.dup, 1) := by decide +kernel
theorem dX4_copyOf_2 : decode cX4_copyOf 2 = .ok (.getfield 9, 3) := by decide +kernel
theorem dX4_copyOf_5 : decode cX4_copyOf 5 = .ok (.lconst 1, 1) := by decide +kernel
theorem dX4_copyOf_6 : decode cX4_copyOf 6 = .ok (.ladd, 1) := by decide +kernel
theorem dX4_copyOf_7 : decode cX4_copyOf 7 = .ok (.putfield 9, 3) := by decide +kernel
theorem dX4_copyOf_10 : decode cX4_copyOf 10 = .ok (.aload_n 1, 1) := by decide +kernel
theorem dX4_copyOf_11 : decode cX4_copyOf 11 = .ok (.getfield 26, 3) := by decide +kernel
theorem dX4_copyOf_14 : decode cX4_copyOf 14 = .ok (.ifnonnull 7, 3) := by decide +kernel
theorem dX4_copyOf_17 : decode cX4_copyOf 17 = .ok (.aconst_null, 1) := by decide +kernel
theorem dX4_copyOf_18 : decode cX4_copyOf 18 = .ok (.goto 15, 3) := by decide +kernel
theorem dX4_copyOf_21 : decode cX4_copyOf 21 = .ok (.aload_n 1, 1) := by decide +kernel
theorem dX4_copyOf_22 : decode cX4_copyOf 22 = .ok (.getfield 26, 3) := by decide +kernel
theorem dX4_copyOf_25 : decode cX4_copyOf 25 = .ok (.aload_n 1, 1) := by decide +kernel
theorem dX4_copyOf_26 : decode cX4_copyOf 26 = .ok (.getfield 26, 3) := by decide +kernel
theorem dX4_copyOf_29 : decode cX4_copyOf 29 = .ok (.arraylength, 1) := by decide +kernel
theorem dX4_copyOf_30 : decode cX4_copyOf 30 = .ok (.invokestatic 30, 3) := by decide +kernel
theorem dX4_copyOf_33 : decode cX4_copyOf 33 = .ok (.astore_n 3, 1) := by decide +kernel
theorem dX4_copyOf_34 : decode cX4_copyOf 34 = .ok (.aload_n 1, 1) := by decide +kernel
theorem dX4_copyOf_35 : decode cX4_copyOf 35 = .ok (.getfield 34, 3) := by decide +kernel
theorem dX4_copyOf_38 : decode cX4_copyOf 38 = .ok (.ifnonnull 7, 3) := by decide +kernel
theorem dX4_copyOf_41 : decode cX4_copyOf 41 = .ok (.aconst_null, 1) := by decide +kernel
theorem dX4_copyOf_42 : decode cX4_copyOf 42 = .ok (.goto 15, 3) := by decide +kernel
theorem dX4_copyOf_45 : decode cX4_copyOf 45 = .ok (.aload_n 1, 1) := by decide +kernel
theorem dX4_copyOf_46 : decode cX4_copyOf 46 = .ok (.getfield 34, 3) := by decide +kernel
theorem dX4_copyOf_49 : decode cX4_copyOf 49 = .ok (.aload_n 1, 1) := by decide +kernel
theorem dX4_copyOf_50 : decode cX4_copyOf 50 = .ok (.getfield 34, 3) := by decide +kernel
theorem dX4_copyOf_53 : decode cX4_copyOf 53 = .ok (.arraylength, 1) := by decide +kernel
theorem dX4_copyOf_54 : decode cX4_copyOf 54 = .ok (.invokestatic 30, 3) := by decide +kernel
theorem dX4_copyOf_57 : decode cX4_copyOf 57 = .ok (.astore 4, 2) := by decide +kernel
theorem dX4_copyOf_59 : decode cX4_copyOf 59 = .ok (.aload_n 1, 1) := by decide +kernel
theorem dX4_copyOf_60 : decode cX4_copyOf 60 = .ok (.getfield 37, 3) := by decide +kernel
theorem dX4_copyOf_63 : decode cX4_copyOf 63 = .ok (.ifnonnull 7, 3) := by decide +kernel
theorem dX4_copyOf_66 : decode cX4_copyOf 66 = .ok (.aconst_null, 1) := by decide +kernel
theorem dX4_copyOf_67 : decode cX4_copyOf 67 = .ok (.goto 7, 3) := by decide +kernel
theorem dX4_copyOf_70 : decode cX4_copyOf 70 = .ok (.iconst 4, 1) := by decide +kernel
theorem dX4_copyOf_71 : decode cX4_copyOf 71 = .ok (.anewarray 15, 3) := by decide +kernel
theorem dX4_copyOf_74 : decode cX4_copyOf 74 = .ok (.astore 5, 2) := by decide +kernel
theorem dX4_copyOf_76 : decode cX4_copyOf 76 = .ok (.new 15, 3) := by decide +kernel
theorem dX4_copyOf_79 : decode cX4_copyOf 79 = .ok (.dup, 1) := by decide +kernel
theorem dX4_copyOf_80 : decode cX4_copyOf 80 = .ok (.aload_n 1, 1) := by decide +kernel
theorem dX4_copyOf_81 : decode cX4_copyOf 81 = .ok (.getfield 41, 3) := by decide +kernel
theorem dX4_copyOf_84 : decode cX4_copyOf 84 = .ok (.iload_n 2, 1) := by decide +kernel
theorem dX4_copyOf_85 : decode cX4_copyOf 85 = .ok (.aload_n 3, 1) := by decide +kernel
theorem dX4_copyOf_86 : decode cX4_copyOf 86 = .ok (.aload 4, 2) := by decide +kernel
theorem dX4_copyOf_88 : decode cX4_copyOf 88 = .ok (.aload 5, 2) := by decide +kernel
theorem dX4_copyOf_90 : decode cX4_copyOf 90 = .ok (.invokespecial 17, 3) := by decide +kernel
theorem dX4_copyOf_93 : decode cX4_copyOf 93 = .ok (.astore 6, 2) := by decide +kernel
theorem dX4_copyOf_95 : decode cX4_copyOf 95 = .ok (.iconst 0, 1) := by decide +kernel
theorem dX4_copyOf_96 : decode cX4_copyOf 96 = .ok (.istore 7, 2) := by decide +kernel
theorem dX4_copyOf_98 : decode cX4_copyOf 98 = .ok (.iload 7, 2) := by decide +kernel
theorem dX4_copyOf_100 : decode cX4_copyOf 100 = .ok (.iconst 4, 1) := by decide +kernel
theorem dX4_copyOf_101 : decode cX4_copyOf 101 = .ok (.if_icmp .ge 22, 3) := by decide +kernel
theorem dX4_copyOf_104 : decode cX4_copyOf 104 = .ok (.aload 6, 2) := by decide +kernel
theorem dX4_copyOf_106 : decode cX4_copyOf 106 = .ok (.iload 7, 2) := by decide +kernel
theorem dX4_copyOf_108 : decode cX4_copyOf 108 = .ok (.aload_n 1, 1) := by decide +kernel
theorem dX4_copyOf_109 : decode cX4_copyOf 109 = .ok (.iload 7, 2) := by decide +kernel
theorem dX4_copyOf_111 : decode cX4_copyOf 111 = .ok (.invokevirtual 45, 3) := by decide +kernel
theorem dX4_copyOf_114 : decode cX4_copyOf 114 = .ok (.invokevirtual 49, 3) := by decide +kernel
theorem dX4_copyOf_117 : decode cX4_copyOf 117 = .ok (.iinc 7 1, 3) := by decide +kernel
theorem dX4_copyOf_120 : decode cX4_copyOf 120 = .ok (.goto (-22), 3) := by decide +kernel
theorem dX4_copyOf_123 : decode cX4_copyOf 123 = .ok (.aload 6, 2) := by decide +kernel
theorem dX4_copyOf_125 : decode cX4_copyOf 125 = .ok (.aload_n 1, 1) := by decide +kernel
theorem dX4_copyOf_126 : decode cX4_copyOf 126 = .ok (.getfield 53, 3) := by decide +kernel
theorem dX4_copyOf_129 : decode cX4_copyOf 129 = .ok (.putfield 53, 3) := by decide +kernel
theorem dX4_copyOf_132 : decode cX4_copyOf 132 = .ok (.aload 6, 2) := by decide +kernel
theorem dX4_copyOf_134 : decode cX4_copyOf 134 = .ok (.areturn, 1) := by decide +kernel
theorem dX4_ownOrCopy_0 : decode cX4_ownOrCopy 0 = .ok (.iload_n 2, 1) := by decide +kernel
theorem dX4_ownOrCopy_1 : decode cX4_ownOrCopy 1 = .ok (.iconst (-1), 1) := by decide +kernel
theorem dX4_ownOrCopy_2 : decode cX4_ownOrCopy 2 = .ok (.if_icmp .eq 15, 3) := by decide +kernel
theorem dX4_ownOrCopy_5 : decode cX4_ownOrCopy 5 = .ok (.aload_n 1, 1) := by decide +kernel
theorem dX4_ownOrCopy_6 : decode cX4_ownOrCopy 6 = .ok (.getfield 56, 3) := by decide +kernel
theorem dX4_ownOrCopy_9 : decode cX4_ownOrCopy 9 = .ok (.iload_n 2, 1) := by decide +kernel
theorem dX4_ownOrCopy_10 : decode cX4_ownOrCopy 10 = .ok (.if_icmp .ne 7, 3) := by decide +kernel
theorem dX4_ownOrCopy_13 : decode cX4_ownOrCopy 13 = .ok (.aload_n 1, 1) := by decide +kernel
theorem dX4_ownOrCopy_14 : decode cX4_ownOrCopy 14 = .ok (.goto 9, 3) := by decide +kernel
theorem dX4_ownOrCopy_17 : decode cX4_ownOrCopy 17 = .ok (.aload_n 0, 1) := by decide +kernel
theorem dX4_ownOrCopy_18 : decode cX4_ownOrCopy 18 = .ok (.aload_n 1, 1) := by decide +kernel
theorem dX4_ownOrCopy_19 : decode cX4_ownOrCopy 19 = .ok (.iload_n 2, 1) := by decide +kernel
theorem dX4_ownOrCopy_20 : decode cX4_ownOrCopy 20 = .ok (.invokevirtual 59, 3) := by decide +kernel
theorem dX4_ownOrCopy_23 : decode cX4_ownOrCopy 23 = .ok (.areturn, 1) := by decide +kernel
theorem dX5_init_0 : decode cX5_init 0 = .ok (.aload_n 0, 1) := by decide +kernel
theorem dX5_init_1 : decode cX5_init 1 = .ok (.invokespecial 3, 3) := by decide +kernel
theorem dX5_init_4 : decode cX5_init 4 = .ok (.aload_n 0, 1) := by decide +kernel
theorem dX5_init_5 : decode cX5_init 5 = .ok (.bipush 8, 2) := by decide +kernel
theorem dX5_init_7 : decode cX5_init 7 = .ok (.newarray .int, 2) := by decide +kernel
theorem dX5_init_9 : decode cX5_init 9 = .ok (.putfield 9, 3) := by decide +kernel
theorem dX5_init_12 : decode cX5_init 12 = .ok (.aload_n 0, 1) := by decide +kernel
theorem dX5_init_13 : decode cX5_init 13 = .ok (.bipush 8, 2) := by decide +kernel
theorem dX5_init_15 : decode cX5_init 15 = .ok (.newarray .int, 2) := by decide +kernel
theorem dX5_init_17 : decode cX5_init 17 = .ok (.putfield 15, 3) := by decide +kernel
theorem dX5_init_20 : decode cX5_init 20 = .ok (.aload_n 0, 1) := by decide +kernel
theorem dX5_init_21 : decode cX5_init 21 = .ok (.iconst 1, 1) := by decide +kernel
theorem dX5_init_22 : decode cX5_init 22 = .ok (.putfield 18, 3) := by decide +kernel
theorem dX5_init_25 : decode cX5_init 25 = .ok (.aload_n 0, 1) := by decide +kernel
theorem dX5_init_26 : decode cX5_init 26 = .ok (.iconst 2, 1) := by decide +kernel
theorem dX5_init_27 : decode cX5_init 27 = .ok (.putfield 22, 3) := by decide +kernel
theorem dX5_init_30 : decode cX5_init 30 = .ok (.aload_n 0, 1) := by decide +kernel
theorem dX5_init_31 : decode cX5_init 31 = .ok (.iload_n 1, 1) := by decide +kernel
theorem dX5_init_32 : decode cX5_init 32 = .ok (.putfield 25, 3) := by decide +kernel
theorem dX5_init_35 : decode cX5_init 35 = .ok (.aload_n 0, 1) := by decide +kernel
theorem dX5_init_36 : decode cX5_init 36 = .ok (.iload_n 2, 1) := by decide +kernel
theorem dX5_init_37 : decode cX5_init 37 = .ok (.putfield 28, 3) := by decide +kernel
theorem dX5_init_40 : decode cX5_init 40 = .ok (.aload_n 0, 1) := by decide +kernel
theorem dX5_init_41 : decode cX5_init 41 = .ok (.iload_n 3, 1) := by decide +kernel
theorem dX5_init_42 : decode cX5_init 42 = .ok (.putfield 31, 3) := by decide +kernel
theorem dX5_init_45 : decode cX5_init 45 = .ok (.aload_n 0, 1) := by decide +kernel
theorem dX5_init_46 : decode cX5_init 46 = .ok (.getfield 9, 3) := by decide +kernel
theorem dX5_init_49 : decode cX5_init 49 = .ok (.iconst 0, 1) := by decide +kernel
theorem dX5_init_50 : decode cX5_init 50 = .ok (.iload_n 1, 1) := by decide +kernel
theorem dX5_init_51 : decode cX5_init 51 = .ok (.iastore, 1) := by decide +kernel
theorem dX5_init_52 : decode cX5_init 52 = .ok (.return_, 1) := by decide +kernel
theorem dX5_latestValue_0 : decode cX5_latestValue 0 = .ok (.aload_n 0, 1) := by decide +kernel
theorem dX5_latestValue_1 : decode cX5_latestValue 1 = .ok (.aload_n 0, 1) := by decide +kernel
theorem dX5_latestValue_2 : decode cX5_latestValue 2 = .ok (.getfield 18, 3) := by decide +kernel
theorem dX5_latestValue_5 : decode cX5_latestValue 5 = .ok (.iconst 1, 1) := by decide +kernel
theorem dX5_latestValue_6 : decode cX5_latestValue 6 = .ok (.isub, 1) := by decide +kernel
theorem dX5_latestValue_7 : decode cX5_latestValue 7 = .ok (.invokevirtual 34, 3) := by decide +kernel
theorem dX5_latestValue_10 : decode cX5_latestValue 10 = .ok (.ireturn, 1) := by decide +kernel
theorem dX5_latestMoment_0 : decode cX5_latestMoment 0 = .ok (.aload_n 0, 1) := by decide +kernel
theorem dX5_latestMoment_1 : decode cX5_latestMoment 1 = .ok (.aload_n 0, 1) := by decide +kernel
theorem dX5_latestMoment_2 : decode cX5_latestMoment 2 = .ok (.getfield 18, 3) := by decide +kernel
theorem dX5_latestMoment_5 : decode cX5_latestMoment 5 = .ok (.iconst 1, 1) := by decide +kernel
theorem dX5_latestMoment_6 : decode cX5_latestMoment 6 = .ok (.isub, 1) := by decide +kernel
theorem dX5_latestMoment_7 : decode cX5_latestMoment 7 = .ok (.invokevirtual 38, 3) := by decide +kernel
theorem dX5_latestMoment_10 : decode cX5_latestMoment 10 = .ok (.ireturn, 1) := by decide +kernel
theorem dX5_valueAt_0 : decode cX5_valueAt 0 = .ok (.iload_n 1, 1) := by decide +kernel
theorem dX5_valueAt_1 : decode cX5_valueAt 1 = .ok (.ifCond .lt 12, 3) := by decide +kernel
theorem dX5_valueAt_4 : decode cX5_valueAt 4 = .ok (.iload_n 1, 1) := by decide +kernel
theorem dX5_valueAt_5 : decode cX5_valueAt 5 = .ok (.aload_n 0, 1) := by decide +kernel
theorem dX5_valueAt_6 : decode cX5_valueAt 6 = .ok (.getfield 9, 3) := by decide +kernel
theorem dX5_valueAt_9 : decode cX5_valueAt 9 = .ok (.arraylength, 1) := by decide +kernel
theorem dX5_valueAt_10 : decode cX5_valueAt 10 = .ok (.if_icmp .lt 10, 3) := by decide +kernel
theorem dX5_valueAt_13 : decode cX5_valueAt 13 = .ok (.aload_n 0, 1) := by decide +kernel
theorem dX5_valueAt_14 : decode cX5_valueAt 14 = .ok (.getfield 25, 3) := by decide +kernel
theorem dX5_valueAt_17 : decode cX5_valueAt 17 = .ok (.goto 9, 3) := by decide +kernel
theorem dX5_valueAt_20 : decode cX5_valueAt 20 = .ok (.aload_n 0, 1) := by decide +kernel
theorem dX5_valueAt_21 : decode cX5_valueAt 21 = .ok (.getfield 9, 3) := by decide +kernel
theorem dX5_valueAt_24 : decode cX5_valueAt 24 = .ok (.iload_n 1, 1) := by decide +kernel
theorem dX5_valueAt_25 : decode cX5_valueAt 25 = .ok (.iaload, 1) := by decide +kernel
theorem dX5_valueAt_26 : decode cX5_valueAt 26 = .ok (.ireturn, 1) := by decide +kernel
theorem dX5_momentAt_0 : decode cX5_momentAt 0 = .ok (.iload_n 1, 1) := by decide +kernel
theorem dX5_momentAt_1 : decode cX5_momentAt 1 = .ok (.ifCond .lt 12, 3) := by decide +kernel
theorem dX5_momentAt_4 : decode cX5_momentAt 4 = .ok (.iload_n 1, 1) := by decide +kernel
theorem dX5_momentAt_5 : decode cX5_momentAt 5 = .ok (.aload_n 0, 1) := by decide +kernel
theorem dX5_momentAt_6 : decode cX5_momentAt 6 = .ok (.getfield 15, 3) := by decide +kernel
theorem dX5_momentAt_9 : decode cX5_momentAt 9 = .ok (.arraylength, 1) := by decide +kernel
theorem dX5_momentAt_10 : decode cX5_momentAt 10 = .ok (.if_icmp .lt 7, 3) := by decide +kernel
theorem dX5_momentAt_13 : decode cX5_momentAt 13 = .ok (.iconst 0, 1) := by decide +kernel
theorem dX5_momentAt_14 : decode cX5_momentAt 14 = .ok (.goto 9, 3) := by decide +kernel
theorem dX5_momentAt_17 : decode cX5_momentAt 17 = .ok (.aload_n 0, 1) := by decide +kernel
theorem dX5_momentAt_18 : decode cX5_momentAt 18 = .ok (.getfield 15, 3) := by decide +kernel
theorem dX5_momentAt_21 : decode cX5_momentAt 21 = .ok (.iload_n 1, 1) := by decide +kernel
theorem dX5_momentAt_22 : decode cX5_momentAt 22 = .ok (.iaload, 1) := by decide +kernel
theorem dX5_momentAt_23 : decode cX5_momentAt 23 = .ok (.ireturn, 1) := by decide +kernel
theorem dX5_entryNotBehind_0 : decode cX5_entryNotBehind 0 = .ok (.aload_n 0, 1) := by decide +kernel
theorem dX5_entryNotBehind_1 : decode cX5_entryNotBehind 1 = .ok (.getfield 18, 3) := by decide +kernel
theorem dX5_entryNotBehind_4 : decode cX5_entryNotBehind 4 = .ok (.iconst 1, 1) := by decide +kernel
theorem dX5_entryNotBehind_5 : decode cX5_entryNotBehind 5 = .ok (.isub, 1) := by decide +kernel
theorem dX5_entryNotBehind_6 : decode cX5_entryNotBehind 6 = .ok (.istore_n 2, 1) := by decide +kernel
theorem dX5_entryNotBehind_7 : decode cX5_entryNotBehind 7 = .ok (.iload_n 2, 1) := by decide +kernel
theorem dX5_entryNotBehind_8 : decode cX5_entryNotBehind 8 = .ok (.ifCond .lt 20, 3) := by decide +kernel
theorem dX5_entryNotBehind_11 : decode cX5_entryNotBehind 11 = .ok (.aload_n 0, 1) := by decide +kernel
theorem dX5_entryNotBehind_12 : decode cX5_entryNotBehind 12 = .ok (.iload_n 2, 1) := by decide +kernel
theorem dX5_entryNotBehind_13 : decode cX5_entryNotBehind 13 = .ok (.invokevirtual 38, 3) := by decide +kernel
theorem dX5_entryNotBehind_16 : decode cX5_entryNotBehind 16 = .ok (.iload_n 1, 1) := by decide +kernel
theorem dX5_entryNotBehind_17 : decode cX5_entryNotBehind 17 = .ok (.if_icmp .gt 5, 3) := by decide +kernel
theorem dX5_entryNotBehind_20 : decode cX5_entryNotBehind 20 = .ok (.iload_n 2, 1) := by decide +kernel
theorem dX5_entryNotBehind_21 : decode cX5_entryNotBehind 21 = .ok (.ireturn, 1) := by decide +kernel
theorem dX5_entryNotBehind_22 : decode cX5_entryNotBehind 22 = .ok (.iinc 2 (-1), 3) := by decide +kernel
theorem dX5_entryNotBehind_25 : decode cX5_entryNotBehind 25 = .ok (.goto (-18), 3) := by decide +kernel
theorem dX5_entryNotBehind_28 : decode cX5_entryNotBehind 28 = .ok (.iconst (-1), 1) := by decide +kernel
theorem dX5_entryNotBehind_29 : decode cX5_entryNotBehind 29 = .ok (.ireturn, 1) := by decide +kernel
theorem dX5_raiseLimit_0 : decode cX5_raiseLimit 0 = .ok (.aload_n 0, 1) := by decide +kernel
theorem dX5_raiseLimit_1 : decode cX5_raiseLimit 1 = .ok (.aload_n 0, 1) := by decide +kernel
theorem dX5_raiseLimit_2 : decode cX5_raiseLimit 2 = .ok (.getfield 22, 3) := by decide +kernel
theorem dX5_raiseLimit_5 : decode cX5_raiseLimit 5 = .ok (.iconst 1, 1) := by decide +kernel
theorem dX5_raiseLimit_6 : decode cX5_raiseLimit 6 = .ok (.iadd, 1) := by decide +kernel
theorem dX5_raiseLimit_7 : decode cX5_raiseLimit 7 = .ok (.bipush 8, 2) := by decide +kernel
theorem dX5_raiseLimit_9 : decode cX5_raiseLimit 9 = .ok (.invokestatic 41, 3) := by decide +kernel
theorem dX5_raiseLimit_12 : decode cX5_raiseLimit 12 = .ok (.putfield 22, 3) := by decide +kernel
theorem dX5_raiseLimit_15 : decode cX5_raiseLimit 15 = .ok (.return_, 1) := by decide +kernel
theorem dX5_come_0 : decode cX5_come 0 = .ok (.aload_n 0, 1) := by decide +kernel
theorem dX5_come_1 : decode cX5_come 1 = .ok (.getfield 18, 3) := by decide +kernel
theorem dX5_come_4 : decode cX5_come 4 = .ok (.aload_n 0, 1) := by decide +kernel
theorem dX5_come_5 : decode cX5_come 5 = .ok (.getfield 22, 3) := by decide +kernel
theorem dX5_come_8 : decode cX5_come 8 = .ok (.if_icmp .lt 7, 3) := by decide +kernel
theorem dX5_come_11 : decode cX5_come 11 = .ok (.aload_n 0, 1) := by decide +kernel
theorem dX5_come_12 : decode cX5_come 12 = .ok (.invokevirtual 47, 3) := by decide +kernel
theorem dX5_come_15 : decode cX5_come 15 = .ok (.aload_n 0, 1) := by decide +kernel
theorem dX5_come_16 : decode cX5_come 16 = .ok (.getfield 18, 3) := by decide +kernel
theorem dX5_come_19 : decode cX5_come 19 = .ok (.bipush 8, 2) := by decide +kernel
theorem dX5_come_21 : decode cX5_come 21 = .ok (.if_icmp .ge 33, 3) := by decide +kernel
theorem dX5_come_24 : decode cX5_come 24 = .ok (.aload_n 0, 1) := by decide +kernel
theorem dX5_come_25 : decode cX5_come 25 = .ok (.getfield 9, 3) := by decide +kernel
theorem dX5_come_28 : decode cX5_come 28 = .ok (.aload_n 0, 1) := by decide +kernel
theorem dX5_come_29 : decode cX5_come 29 = .ok (.getfield 18, 3) := by decide +kernel
theorem dX5_come_32 : decode cX5_come 32 = .ok (.iload_n 1, 1) := by decide +kernel
theorem dX5_come_33 : decode cX5_come 33 = .ok (.iastore, 1) := by decide +kernel
theorem dX5_come_34 : decode cX5_come 34 = .ok (.aload_n 0, 1) := by decide +kernel
theorem dX5_come_35 : decode cX5_come 35 = .ok (.getfield 15, 3) := by decide +kernel
theorem dX5_come_38 : decode cX5_come 38 = .ok (.aload_n 0, 1) := by decide +kernel
theorem dX5_come_39 : decode cX5_come 39 = .ok (.getfield 18, 3) := by decide +kernel
theorem dX5_come_42 : decode cX5_come 42 = .ok (.iload_n 2, 1) := by decide +kernel
theorem dX5_come_43 : decode cX5_come 43 = .ok (.iastore, 1) := by decide +kernel
theorem dX5_come_44 : decode cX5_come 44 = .ok (.aload_n 0, 1) := by decide +kernel
theorem dX5_come_45 : decode cX5_come 45 = .ok (.dup, 1) := by decide +kernel
theorem dX5_come_46 : decode cX5_come 46 = .ok (.getfield 18, 3) := by decide +kernel
theorem dX5_come_49 : decode cX5_come 49 = .ok (.iconst 1, 1) := by decide +kernel
theorem dX5_come_50 : decode cX5_come 50 = .ok (.iadd, 1) := by decide +kernel
theorem dX5_come_51 : decode cX5_come 51 = .ok (.putfield 18, 3) := by decide +kernel
theorem dX5_come_54 : decode cX5_come 54 = .ok (.return_, 1) := by decide +kernel
theorem dX5_dropOldest_0 : decode cX5_dropOldest 0 = .ok (.iconst 1, 1) := by decide +kernel
theorem dX5_dropOldest_1 : decode cX5_dropOldest 1 = .ok (.istore_n 1, 1) := by decide +kernel
theorem dX5_dropOldest_2 : decode cX5_dropOldest 2 = .ok (.iload_n 1, 1) := by decide +kernel
theorem dX5_dropOldest_3 : decode cX5_dropOldest 3 = .ok (.aload_n 0, 1) := by decide +kernel
theorem dX5_dropOldest_4 : decode cX5_dropOldest 4 = .ok (.getfield 18, 3) := by decide +kernel
theorem dX5_dropOldest_7 : decode cX5_dropOldest 7 = .ok (.if_icmp .ge 43, 3) := by decide +kernel
theorem dX5_dropOldest_10 : decode cX5_dropOldest 10 = .ok (.iload_n 1, 1) := by decide +kernel
theorem dX5_dropOldest_11 : decode cX5_dropOldest 11 = .ok (.bipush 8, 2) := by decide +kernel
theorem dX5_dropOldest_13 : decode cX5_dropOldest 13 = .ok (.if_icmp .ge 37, 3) := by decide +kernel
theorem dX5_dropOldest_16 : decode cX5_dropOldest 16 = .ok (.aload_n 0, 1) := by decide +kernel
theorem dX5_dropOldest_17 : decode cX5_dropOldest 17 = .ok (.getfield 9, 3) := by decide +kernel
theorem dX5_dropOldest_20 : decode cX5_dropOldest 20 = .ok (.iload_n 1, 1) := by decide +kernel
theorem dX5_dropOldest_21 : decode cX5_dropOldest 21 = .ok (.iconst 1, 1) := by decide +kernel
theorem dX5_dropOldest_22 : decode cX5_dropOldest 22 = .ok (.isub, 1) := by decide +kernel
theorem dX5_dropOldest_23 : decode cX5_dropOldest 23 = .ok (.aload_n 0, 1) := by decide +kernel
theorem dX5_dropOldest_24 : decode cX5_dropOldest 24 = .ok (.getfield 9, 3) := by decide +kernel
theorem dX5_dropOldest_27 : decode cX5_dropOldest 27 = .ok (.iload_n 1, 1) := by decide +kernel
theorem dX5_dropOldest_28 : decode cX5_dropOldest 28 = .ok (.iaload, 1) := by decide +kernel
theorem dX5_dropOldest_29 : decode cX5_dropOldest 29 = .ok (.iastore, 1) := by decide +kernel
theorem dX5_dropOldest_30 : decode cX5_dropOldest 30 = .ok (.aload_n 0, 1) := by decide +kernel
theorem dX5_dropOldest_31 : decode cX5_dropOldest 31 = .ok (.getfield 15, 3) := by decide +kernel
theorem dX5_dropOldest_34 : decode cX5_dropOldest 34 = .ok (.iload_n 1, 1) := by decide +kernel
theorem dX5_dropOldest_35 : decode cX5_dropOldest 35 = .ok (.iconst 1, 1) := by decide +kernel
theorem dX5_dropOldest_36 : decode cX5_dropOldest 36 = .ok (.isub, 1) := by decide +kernel
theorem dX5_dropOldest_37 : decode cX5_dropOldest 37 = .ok (.aload_n 0, 1) := by decide +kernel
theorem dX5_dropOldest_38 : decode cX5_dropOldest 38 = .ok (.getfield 15, 3) := by decide +kernel
theorem dX5_dropOldest_41 : decode cX5_dropOldest 41 = .ok (.iload_n 1, 1) := by decide +kernel
theorem dX5_dropOldest_42 : decode cX5_dropOldest 42 = .ok (.iaload, 1) := by decide +kernel
theorem dX5_dropOldest_43 : decode cX5_dropOldest 43 = .ok (.iastore, 1) := by decide +kernel
theorem dX5_dropOldest_44 : decode cX5_dropOldest 44 = .ok (.iinc 1 1, 3) := by decide +kernel
theorem dX5_dropOldest_47 : decode cX5_dropOldest 47 = .ok (.goto (-45), 3) := by decide +kernel
theorem dX5_dropOldest_50 : decode cX5_dropOldest 50 = .ok (.aload_n 0, 1) := by decide +kernel
theorem dX5_dropOldest_51 : decode cX5_dropOldest 51 = .ok (.dup, 1) := by decide +kernel
theorem dX5_dropOldest_52 : decode cX5_dropOldest 52 = .ok (.getfield 18, 3) := by decide +kernel
theorem dX5_dropOldest_55 : decode cX5_dropOldest 55 = .ok (.iconst 1, 1) := by decide +kernel
theorem dX5_dropOldest_56 : decode cX5_dropOldest 56 = .ok (.isub, 1) := by decide +kernel
theorem dX5_dropOldest_57 : decode cX5_dropOldest 57 = .ok (.putfield 18, 3) := by decide +kernel
theorem dX5_dropOldest_60 : decode cX5_dropOldest 60 = .ok (.return_, 1) := by decide +kernel
theorem dX6_init_0 : decode cX6_init 0 = .ok (.aload_n 0, 1) := by decide +kernel
theorem dX6_init_1 : decode cX6_init 1 = .ok (.invokespecial 3, 3) := by decide +kernel
theorem dX6_init_4 : decode cX6_init 4 = .ok (.aload_n 0, 1) := by decide +kernel
theorem dX6_init_5 : decode cX6_init 5 = .ok (.bipush 24, 2) := by decide +kernel
theorem dX6_init_7 : decode cX6_init 7 = .ok (.newarray .int, 2) := by decide +kernel
theorem dX6_init_9 : decode cX6_init 9 = .ok (.putfield 9, 3) := by decide +kernel
theorem dX6_init_12 : decode cX6_init 12 = .ok (.aload_n 0, 1) := by decide +kernel
theorem dX6_init_13 : decode cX6_init 13 = .ok (.iconst 0, 1) := by decide +kernel
theorem dX6_init_14 : decode cX6_init 14 = .ok (.putfield 15, 3) := by decide +kernel
theorem dX6_init_17 : decode cX6_init 17 = .ok (.aload_n 0, 1) := by decide +kernel
theorem dX6_init_18 : decode cX6_init 18 = .ok (.bipush 24, 2) := by decide +kernel
theorem dX6_init_20 : decode cX6_init 20 = .ok (.newarray .int, 2) := by decide +kernel
theorem dX6_init_22 : decode cX6_init 22 = .ok (.putfield 19, 3) := by decide +kernel
theorem dX6_init_25 : decode cX6_init 25 = .ok (.aload_n 0, 1) := by decide +kernel
theorem dX6_init_26 : decode cX6_init 26 = .ok (.iconst 0, 1) := by decide +kernel
theorem dX6_init_27 : decode cX6_init 27 = .ok (.putfield 22, 3) := by decide +kernel
theorem dX6_init_30 : decode cX6_init 30 = .ok (.aload_n 0, 1) := by decide +kernel
theorem dX6_init_31 : decode cX6_init 31 = .ok (.iconst 0, 1) := by decide +kernel
theorem dX6_init_32 : decode cX6_init 32 = .ok (.putfield 25, 3) := by decide +kernel
theorem dX6_init_35 : decode cX6_init 35 = .ok (.aload_n 0, 1) := by decide +kernel
theorem dX6_init_36 : decode cX6_init 36 = .ok (.iconst 0, 1) := by decide +kernel
theorem dX6_init_37 : decode cX6_init 37 = .ok (.putfield 29, 3) := by decide +kernel
theorem dX6_init_40 : decode cX6_init 40 = .ok (.aload_n 0, 1) := by decide +kernel
theorem dX6_init_41 : decode cX6_init 41 = .ok (.aload_n 1, 1) := by decide +kernel
theorem dX6_init_42 : decode cX6_init 42 = .ok (.putfield 32, 3) := by decide +kernel
theorem dX6_init_45 : decode cX6_init 45 = .ok (.aload_n 0, 1) := by decide +kernel
theorem dX6_init_46 : decode cX6_init 46 = .ok (.iload_n 2, 1) := by decide +kernel
theorem dX6_init_47 : decode cX6_init 47 = .ok (.putfield 36, 3) := by decide +kernel
theorem dX6_init_50 : decode cX6_init 50 = .ok (.aload_n 0, 1) := by decide +kernel
theorem dX6_init_51 : decode cX6_init 51 = .ok (.iload_n 3, 1) := by decide +kernel
theorem dX6_init_52 : decode cX6_init 52 = .ok (.putfield 40, 3) := by decide +kernel
theorem dX6_init_55 : decode cX6_init 55 = .ok (.return_, 1) := by decide +kernel
theorem dX6_fillRange_0 : decode cX6_fillRange 0 = .ok (.iconst 0, 1) := by decide +kernel
theorem dX6_fillRange_1 : decode cX6_fillRange 1 = .ok (.istore 4, 2) := by decide +kernel
theorem dX6_fillRange_3 : decode cX6_fillRange 3 = .ok (.iload 4, 2) := by decide +kernel
theorem dX6_fillRange_5 : decode cX6_fillRange 5 = .ok (.iload_n 3, 1) := by decide +kernel
theorem dX6_fillRange_6 : decode cX6_fillRange 6 = .ok (.if_icmp .ge 40, 3) := by decide +kernel
theorem dX6_fillRange_9 : decode cX6_fillRange 9 = .ok (.aload_n 0, 1) := by decide +kernel
theorem dX6_fillRange_10 : decode cX6_fillRange 10 = .ok (.iload_n 1, 1) := by decide +kernel
theorem dX6_fillRange_11 : decode cX6_fillRange 11 = .ok (.iload 4, 2) := by decide +kernel
theorem dX6_fillRange_13 : decode cX6_fillRange 13 = .ok (.iload_n 2, 1) := by decide +kernel
theorem dX6_fillRange_14 : decode cX6_fillRange 14 = .ok (.imul, 1) := by decide +kernel
theorem dX6_fillRange_15 : decode cX6_fillRange 15 = .ok (.iadd, 1) := by decide +kernel
theorem dX6_fillRange_16 : decode cX6_fillRange 16 = .ok (.invokevirtual 43, 3) := by decide +kernel
theorem dX6_fillRange_19 : decode cX6_fillRange 19 = .ok (.aload_n 0, 1) := by decide +kernel
theorem dX6_fillRange_20 : decode cX6_fillRange 20 = .ok (.getfield 15, 3) := by decide +kernel
theorem dX6_fillRange_23 : decode cX6_fillRange 23 = .ok (.iconst 4, 1) := by decide +kernel
theorem dX6_fillRange_24 : decode cX6_fillRange 24 = .ok (.irem, 1) := by decide +kernel
theorem dX6_fillRange_25 : decode cX6_fillRange 25 = .ok (.ifCond .eq 11, 3) := by decide +kernel
theorem dX6_fillRange_28 : decode cX6_fillRange 28 = .ok (.iload 4, 2) := by decide +kernel
theorem dX6_fillRange_30 : decode cX6_fillRange 30 = .ok (.iload_n 3, 1) := by decide +kernel
theorem dX6_fillRange_31 : decode cX6_fillRange 31 = .ok (.iconst 1, 1) := by decide +kernel
theorem dX6_fillRange_32 : decode cX6_fillRange 32 = .ok (.isub, 1) := by decide +kernel
theorem dX6_fillRange_33 : decode cX6_fillRange 33 = .ok (.if_icmp .ne 7, 3) := by decide +kernel
theorem dX6_fillRange_36 : decode cX6_fillRange 36 = .ok (.aload_n 0, 1) := by decide +kernel
theorem dX6_fillRange_37 : decode cX6_fillRange 37 = .ok (.invokevirtual 47, 3) := by decide +kernel
theorem dX6_fillRange_40 : decode cX6_fillRange 40 = .ok (.iinc 4 1, 3) := by decide +kernel
theorem dX6_fillRange_43 : decode cX6_fillRange 43 = .ok (.goto (-40), 3) := by decide +kernel
theorem dX6_fillRange_46 : decode cX6_fillRange 46 = .ok (.return_, 1) := by decide +kernel
theorem dX6_fillFirst_0 : decode cX6_fillFirst 0 = .ok (.aload_n 0, 1) := by decide +kernel
theorem dX6_fillFirst_1 : decode cX6_fillFirst 1 = .ok (.getfield 32, 3) := by decide +kernel
theorem dX6_fillFirst_4 : decode cX6_fillFirst 4 = .ok (.ifnonnull 4, 3) := by decide +kernel
theorem dX6_fillFirst_7 : decode cX6_fillFirst 7 = .ok (.return_, 1) := by decide +kernel
theorem dX6_fillFirst_8 : decode cX6_fillFirst 8 = .ok (.iconst 0, 1) := by decide +kernel
theorem dX6_fillFirst_9 : decode cX6_fillFirst 9 = .ok (.istore_n 1, 1) := by decide +kernel
theorem dX6_fillFirst_10 : decode cX6_fillFirst 10 = .ok (.iload_n 1, 1) := by decide +kernel
theorem dX6_fillFirst_11 : decode cX6_fillFirst 11 = .ok (.aload_n 0, 1) := by decide +kernel
theorem dX6_fillFirst_12 : decode cX6_fillFirst 12 = .ok (.getfield 32, 3) := by decide +kernel
theorem dX6_fillFirst_15 : decode cX6_fillFirst 15 = .ok (.getfield 15, 3) := by decide +kernel
theorem dX6_fillFirst_18 : decode cX6_fillFirst 18 = .ok (.if_icmp .ge 33, 3) := by decide +kernel
theorem dX6_fillFirst_21 : decode cX6_fillFirst 21 = .ok (.iload_n 1, 1) := by decide +kernel
theorem dX6_fillFirst_22 : decode cX6_fillFirst 22 = .ok (.aload_n 0, 1) := by decide +kernel
theorem dX6_fillFirst_23 : decode cX6_fillFirst 23 = .ok (.getfield 40, 3) := by decide +kernel
theorem dX6_fillFirst_26 : decode cX6_fillFirst 26 = .ok (.if_icmp .ge 25, 3) := by decide +kernel
theorem dX6_fillFirst_29 : decode cX6_fillFirst 29 = .ok (.aload_n 0, 1) := by decide +kernel
theorem dX6_fillFirst_30 : decode cX6_fillFirst 30 = .ok (.aload_n 0, 1) := by decide +kernel
theorem dX6_fillFirst_31 : decode cX6_fillFirst 31 = .ok (.getfield 32, 3) := by decide +kernel
theorem dX6_fillFirst_34 : decode cX6_fillFirst 34 = .ok (.iload_n 1, 1) := by decide +kernel
theorem dX6_fillFirst_35 : decode cX6_fillFirst 35 = .ok (.invokevirtual 50, 3) := by decide +kernel
theorem dX6_fillFirst_38 : decode cX6_fillFirst 38 = .ok (.invokevirtual 43, 3) := by decide +kernel
theorem dX6_fillFirst_41 : decode cX6_fillFirst 41 = .ok (.aload_n 0, 1) := by decide +kernel
theorem dX6_fillFirst_42 : decode cX6_fillFirst 42 = .ok (.invokevirtual 47, 3) := by decide +kernel
theorem dX6_fillFirst_45 : decode cX6_fillFirst 45 = .ok (.iinc 1 1, 3) := by decide +kernel
theorem dX6_fillFirst_48 : decode cX6_fillFirst 48 = .ok (.goto (-38), 3) := by decide +kernel
theorem dX6_fillFirst_51 : decode cX6_fillFirst 51 = .ok (.aload_n 0, 1) := by decide +kernel
theorem dX6_fillFirst_52 : decode cX6_fillFirst 52 = .ok (.aload_n 0, 1) := by decide +kernel
theorem dX6_fillFirst_53 : decode cX6_fillFirst 53 = .ok (.getfield 32, 3) := by decide +kernel
theorem dX6_fillFirst_56 : decode cX6_fillFirst 56 = .ok (.getfield 25, 3) := by decide +kernel
theorem dX6_fillFirst_59 : decode cX6_fillFirst 59 = .ok (.ifCond .eq 21, 3) := by decide +kernel
theorem dX6_fillFirst_62 : decode cX6_fillFirst 62 = .ok (.aload_n 0, 1) := by decide +kernel
theorem dX6_fillFirst_63 : decode cX6_fillFirst 63 = .ok (.getfield 40, 3) := by decide +kernel
theorem dX6_fillFirst_66 : decode cX6_fillFirst 66 = .ok (.aload_n 0, 1) := by decide +kernel
theorem dX6_fillFirst_67 : decode cX6_fillFirst 67 = .ok (.getfield 32, 3) := by decide +kernel
theorem dX6_fillFirst_70 : decode cX6_fillFirst 70 = .ok (.getfield 15, 3) := by decide +kernel
theorem dX6_fillFirst_73 : decode cX6_fillFirst 73 = .ok (.if_icmp .le 7, 3) := by decide +kernel
theorem dX6_fillFirst_76 : decode cX6_fillFirst 76 = .ok (.iconst 1, 1) := by decide +kernel
theorem dX6_fillFirst_77 : decode cX6_fillFirst 77 = .ok (.goto 4, 3) := by decide +kernel
theorem dX6_fillFirst_80 : decode cX6_fillFirst 80 = .ok (.iconst 0, 1) := by decide +kernel
theorem dX6_fillFirst_81 : decode cX6_fillFirst 81 = .ok (.putfield 25, 3) := by decide +kernel
theorem dX6_fillFirst_84 : decode cX6_fillFirst 84 = .ok (.return_, 1) := by decide +kernel
theorem dX6_fillByChunks_0 : decode cX6_fillByChunks 0 = .ok (.aload_n 0, 1) := by decide +kernel
theorem dX6_fillByChunks_1 : decode cX6_fillByChunks 1 = .ok (.getfield 32, 3) := by decide +kernel
theorem dX6_fillByChunks_4 : decode cX6_fillByChunks 4 = .ok (.ifnonnull 4, 3) := by decide +kernel
theorem dX6_fillByChunks_7 : decode cX6_fillByChunks 7 = .ok (.return_, 1) := by decide +kernel
theorem dX6_fillByChunks_8 : decode cX6_fillByChunks 8 = .ok (.iconst 0, 1) := by decide +kernel
theorem dX6_fillByChunks_9 : decode cX6_fillByChunks 9 = .ok (.istore_n 1, 1) := by decide +kernel
theorem dX6_fillByChunks_10 : decode cX6_fillByChunks 10 = .ok (.iload_n 1, 1) := by decide +kernel
theorem dX6_fillByChunks_11 : decode cX6_fillByChunks 11 = .ok (.aload_n 0, 1) := by decide +kernel
theorem dX6_fillByChunks_12 : decode cX6_fillByChunks 12 = .ok (.getfield 32, 3) := by decide +kernel
theorem dX6_fillByChunks_15 : decode cX6_fillByChunks 15 = .ok (.getfield 22, 3) := by decide +kernel
theorem dX6_fillByChunks_18 : decode cX6_fillByChunks 18 = .ok (.if_icmp .ge 88, 3) := by decide +kernel
theorem dX6_fillByChunks_21 : decode cX6_fillByChunks 21 = .ok (.aload_n 0, 1) := by decide +kernel
theorem dX6_fillByChunks_22 : decode cX6_fillByChunks 22 = .ok (.getfield 32, 3) := by decide +kernel
theorem dX6_fillByChunks_25 : decode cX6_fillByChunks 25 = .ok (.iload_n 1, 1) := by decide +kernel
theorem dX6_fillByChunks_26 : decode cX6_fillByChunks 26 = .ok (.invokevirtual 54, 3) := by decide +kernel
theorem dX6_fillByChunks_29 : decode cX6_fillByChunks 29 = .ok (.istore_n 2, 1) := by decide +kernel
theorem dX6_fillByChunks_30 : decode cX6_fillByChunks 30 = .ok (.aload_n 0, 1) := by decide +kernel
theorem dX6_fillByChunks_31 : decode cX6_fillByChunks 31 = .ok (.getfield 32, 3) := by decide +kernel
theorem dX6_fillByChunks_34 : decode cX6_fillByChunks 34 = .ok (.iload_n 1, 1) := by decide +kernel
theorem dX6_fillByChunks_35 : decode cX6_fillByChunks 35 = .ok (.iconst 1, 1) := by decide +kernel
theorem dX6_fillByChunks_36 : decode cX6_fillByChunks 36 = .ok (.iadd, 1) := by decide +kernel
theorem dX6_fillByChunks_37 : decode cX6_fillByChunks 37 = .ok (.invokevirtual 54, 3) := by decide +kernel
theorem dX6_fillByChunks_40 : decode cX6_fillByChunks 40 = .ok (.istore_n 3, 1) := by decide +kernel
theorem dX6_fillByChunks_41 : decode cX6_fillByChunks 41 = .ok (.aload_n 0, 1) := by decide +kernel
theorem dX6_fillByChunks_42 : decode cX6_fillByChunks 42 = .ok (.getfield 36, 3) := by decide +kernel
theorem dX6_fillByChunks_45 : decode cX6_fillByChunks 45 = .ok (.bipush 100, 2) := by decide +kernel
theorem dX6_fillByChunks_47 : decode cX6_fillByChunks 47 = .ok (.if_icmp .ne 21, 3) := by decide +kernel
theorem dX6_fillByChunks_50 : decode cX6_fillByChunks 50 = .ok (.aload_n 0, 1) := by decide +kernel
theorem dX6_fillByChunks_51 : decode cX6_fillByChunks 51 = .ok (.getfield 32, 3) := by decide +kernel
theorem dX6_fillByChunks_54 : decode cX6_fillByChunks 54 = .ok (.iload_n 2, 1) := by decide +kernel
theorem dX6_fillByChunks_55 : decode cX6_fillByChunks 55 = .ok (.iload_n 3, 1) := by decide +kernel
theorem dX6_fillByChunks_56 : decode cX6_fillByChunks 56 = .ok (.invokevirtual 57, 3) := by decide +kernel
theorem dX6_fillByChunks_59 : decode cX6_fillByChunks 59 = .ok (.ifCond .eq 9, 3) := by decide +kernel
theorem dX6_fillByChunks_62 : decode cX6_fillByChunks 62 = .ok (.aload_n 0, 1) := by decide +kernel
theorem dX6_fillByChunks_63 : decode cX6_fillByChunks 63 = .ok (.iconst 1, 1) := by decide +kernel
theorem dX6_fillByChunks_64 : decode cX6_fillByChunks 64 = .ok (.putfield 25, 3) := by decide +kernel
theorem dX6_fillByChunks_67 : decode cX6_fillByChunks 67 = .ok (.return_, 1) := by decide +kernel
theorem dX6_fillByChunks_68 : decode cX6_fillByChunks 68 = .ok (.iload_n 2, 1) := by decide +kernel
theorem dX6_fillByChunks_69 : decode cX6_fillByChunks 69 = .ok (.istore 4, 2) := by decide +kernel
theorem dX6_fillByChunks_71 : decode cX6_fillByChunks 71 = .ok (.iload 4, 2) := by decide +kernel
theorem dX6_fillByChunks_73 : decode cX6_fillByChunks 73 = .ok (.iload_n 3, 1) := by decide +kernel
theorem dX6_fillByChunks_74 : decode cX6_fillByChunks 74 = .ok (.if_icmp .ge 22, 3) := by decide +kernel
theorem dX6_fillByChunks_77 : decode cX6_fillByChunks 77 = .ok (.aload_n 0, 1) := by decide +kernel
theorem dX6_fillByChunks_78 : decode cX6_fillByChunks 78 = .ok (.aload_n 0, 1) := by decide +kernel
theorem dX6_fillByChunks_79 : decode cX6_fillByChunks 79 = .ok (.getfield 32, 3) := by decide +kernel
theorem dX6_fillByChunks_82 : decode cX6_fillByChunks 82 = .ok (.iload 4, 2) := by decide +kernel
theorem dX6_fillByChunks_84 : decode cX6_fillByChunks 84 = .ok (.invokevirtual 50, 3) := by decide +kernel
theorem dX6_fillByChunks_87 : decode cX6_fillByChunks 87 = .ok (.invokevirtual 61, 3) := by decide +kernel
theorem dX6_fillByChunks_90 : decode cX6_fillByChunks 90 = .ok (.iinc 4 1, 3) := by decide +kernel
theorem dX6_fillByChunks_93 : decode cX6_fillByChunks 93 = .ok (.goto (-22), 3) := by decide +kernel
theorem dX6_fillByChunks_96 : decode cX6_fillByChunks 96 = .ok (.aload_n 0, 1) := by decide +kernel
theorem dX6_fillByChunks_97 : decode cX6_fillByChunks 97 = .ok (.invokevirtual 47, 3) := by decide +kernel
theorem dX6_fillByChunks_100 : decode cX6_fillByChunks 100 = .ok (.iinc 1 1, 3) := by decide +kernel
theorem dX6_fillByChunks_103 : decode cX6_fillByChunks 103 = .ok (.goto (-93), 3) := by decide +kernel
theorem dX6_fillByChunks_106 : decode cX6_fillByChunks 106 = .ok (.aload_n 0, 1) := by decide +kernel
theorem dX6_fillByChunks_107 : decode cX6_fillByChunks 107 = .ok (.aload_n 0, 1) := by decide +kernel
theorem dX6_fillByChunks_108 : decode cX6_fillByChunks 108 = .ok (.getfield 32, 3) := by decide +kernel
theorem dX6_fillByChunks_111 : decode cX6_fillByChunks 111 = .ok (.getfield 25, 3) := by decide +kernel
theorem dX6_fillByChunks_114 : decode cX6_fillByChunks 114 = .ok (.putfield 25, 3) := by decide +kernel
theorem dX6_fillByChunks_117 : decode cX6_fillByChunks 117 = .ok (.return_, 1) := by decide +kernel
theorem dX6_takeFrom_0 : decode cX6_takeFrom 0 = .ok (.aload_n 0, 1) := by decide +kernel
theorem dX6_takeFrom_1 : decode cX6_takeFrom 1 = .ok (.getfield 36, 3) := by decide +kernel
theorem dX6_takeFrom_4 : decode cX6_takeFrom 4 = .ok (.bipush 97, 2) := by decide +kernel
theorem dX6_takeFrom_6 : decode cX6_takeFrom 6 = .ok (.if_icmp .ne 16, 3) := by decide +kernel
theorem dX6_takeFrom_9 : decode cX6_takeFrom 9 = .ok (.aload_n 0, 1) := by decide +kernel
theorem dX6_takeFrom_10 : decode cX6_takeFrom 10 = .ok (.iload_n 1, 1) := by decide +kernel
theorem dX6_takeFrom_11 : decode cX6_takeFrom 11 = .ok (.aload_n 0, 1) := by decide +kernel
theorem dX6_takeFrom_12 : decode cX6_takeFrom 12 = .ok (.getfield 40, 3) := by decide +kernel
theorem dX6_takeFrom_15 : decode cX6_takeFrom 15 = .ok (.iadd, 1) := by decide +kernel
theorem dX6_takeFrom_16 : decode cX6_takeFrom 16 = .ok (.invokevirtual 43, 3) := by decide +kernel
theorem dX6_takeFrom_19 : decode cX6_takeFrom 19 = .ok (.goto 59, 3) := by decide +kernel
theorem dX6_takeFrom_22 : decode cX6_takeFrom 22 = .ok (.aload_n 0, 1) := by decide +kernel
theorem dX6_takeFrom_23 : decode cX6_takeFrom 23 = .ok (.getfield 36, 3) := by decide +kernel
theorem dX6_takeFrom_26 : decode cX6_takeFrom 26 = .ok (.bipush 100, 2) := by decide +kernel
theorem dX6_takeFrom_28 : decode cX6_takeFrom 28 = .ok (.if_icmp .ne 20, 3) := by decide +kernel
theorem dX6_takeFrom_31 : decode cX6_takeFrom 31 = .ok (.iload_n 1, 1) := by decide +kernel
theorem dX6_takeFrom_32 : decode cX6_takeFrom 32 = .ok (.ifCond .eq 16, 3) := by decide +kernel
theorem dX6_takeFrom_35 : decode cX6_takeFrom 35 = .ok (.aload_n 0, 1) := by decide +kernel
theorem dX6_takeFrom_36 : decode cX6_takeFrom 36 = .ok (.aload_n 0, 1) := by decide +kernel
theorem dX6_takeFrom_37 : decode cX6_takeFrom 37 = .ok (.getfield 40, 3) := by decide +kernel
theorem dX6_takeFrom_40 : decode cX6_takeFrom 40 = .ok (.iload_n 1, 1) := by decide +kernel
theorem dX6_takeFrom_41 : decode cX6_takeFrom 41 = .ok (.idiv, 1) := by decide +kernel
theorem dX6_takeFrom_42 : decode cX6_takeFrom 42 = .ok (.invokevirtual 43, 3) := by decide +kernel
theorem dX6_takeFrom_45 : decode cX6_takeFrom 45 = .ok (.goto 33, 3) := by decide +kernel
theorem dX6_takeFrom_48 : decode cX6_takeFrom 48 = .ok (.aload_n 0, 1) := by decide +kernel
theorem dX6_takeFrom_49 : decode cX6_takeFrom 49 = .ok (.getfield 36, 3) := by decide +kernel
theorem dX6_takeFrom_52 : decode cX6_takeFrom 52 = .ok (.bipush 107, 2) := by decide +kernel
theorem dX6_takeFrom_54 : decode cX6_takeFrom 54 = .ok (.if_icmp .ne 24, 3) := by decide +kernel
theorem dX6_takeFrom_57 : decode cX6_takeFrom 57 = .ok (.aload_n 0, 1) := by decide +kernel
theorem dX6_takeFrom_58 : decode cX6_takeFrom 58 = .ok (.getfield 40, 3) := by decide +kernel
theorem dX6_takeFrom_61 : decode cX6_takeFrom 61 = .ok (.ifCond .eq 17, 3) := by decide +kernel
theorem dX6_takeFrom_64 : decode cX6_takeFrom 64 = .ok (.iload_n 1, 1) := by decide +kernel
theorem dX6_takeFrom_65 : decode cX6_takeFrom 65 = .ok (.aload_n 0, 1) := by decide +kernel
theorem dX6_takeFrom_66 : decode cX6_takeFrom 66 = .ok (.getfield 40, 3) := by decide +kernel
theorem dX6_takeFrom_69 : decode cX6_takeFrom 69 = .ok (.irem, 1) := by decide +kernel
theorem dX6_takeFrom_70 : decode cX6_takeFrom 70 = .ok (.ifCond .ne 8, 3) := by decide +kernel
theorem dX6_takeFrom_73 : decode cX6_takeFrom 73 = .ok (.aload_n 0, 1) := by decide +kernel
theorem dX6_takeFrom_74 : decode cX6_takeFrom 74 = .ok (.iload_n 1, 1) := by decide +kernel
theorem dX6_takeFrom_75 : decode cX6_takeFrom 75 = .ok (.invokevirtual 43, 3) := by decide +kernel
theorem dX6_takeFrom_78 : decode cX6_takeFrom 78 = .ok (.return_, 1) := by decide +kernel
theorem dX6_hasZero_0 : decode cX6_hasZero 0 = .ok (.iload_n 1, 1) := by decide +kernel
theorem dX6_hasZero_1 : decode cX6_hasZero 1 = .ok (.istore_n 3, 1) := by decide +kernel
theorem dX6_hasZero_2 : decode cX6_hasZero 2 = .ok (.iload_n 3, 1) := by decide +kernel
theorem dX6_hasZero_3 : decode cX6_hasZero 3 = .ok (.iload_n 2, 1) := by decide +kernel
theorem dX6_hasZero_4 : decode cX6_hasZero 4 = .ok (.if_icmp .ge 19, 3) := by decide +kernel
theorem dX6_hasZero_7 : decode cX6_hasZero 7 = .ok (.aload_n 0, 1) := by decide +kernel
theorem dX6_hasZero_8 : decode cX6_hasZero 8 = .ok (.iload_n 3, 1) := by decide +kernel
theorem dX6_hasZero_9 : decode cX6_hasZero 9 = .ok (.invokevirtual 50, 3) := by decide +kernel
theorem dX6_hasZero_12 : decode cX6_hasZero 12 = .ok (.ifCond .ne 5, 3) := by decide +kernel
theorem dX6_hasZero_15 : decode cX6_hasZero 15 = .ok (.iconst 1, 1) := by decide +kernel
theorem dX6_hasZero_16 : decode cX6_hasZero 16 = .ok (.ireturn, 1) := by decide +kernel
theorem dX6_hasZero_17 : decode cX6_hasZero 17 = .ok (.iinc 3 1, 3) := by decide +kernel
theorem dX6_hasZero_20 : decode cX6_hasZero 20 = .ok (.goto (-18), 3) := by decide +kernel
theorem dX6_hasZero_23 : decode cX6_hasZero 23 = .ok (.iconst 0, 1) := by decide +kernel
theorem dX6_hasZero_24 : decode cX6_hasZero 24 = .ok (.ireturn, 1) := by decide +kernel
theorem dX6_elementAt_0 : decode cX6_elementAt 0 = .ok (.iload_n 1, 1) := by decide +kernel
theorem dX6_elementAt_1 : decode cX6_elementAt 1 = .ok (.ifCond .lt 12, 3) := by decide +kernel
theorem dX6_elementAt_4 : decode cX6_elementAt 4 = .ok (.iload_n 1, 1) := by decide +kernel
theorem dX6_elementAt_5 : decode cX6_elementAt 5 = .ok (.aload_n 0, 1) := by decide +kernel
theorem dX6_elementAt_6 : decode cX6_elementAt 6 = .ok (.getfield 9, 3) := by decide +kernel
theorem dX6_elementAt_9 : decode cX6_elementAt 9 = .ok (.arraylength, 1) := by decide +kernel
theorem dX6_elementAt_10 : decode cX6_elementAt 10 = .ok (.if_icmp .lt 7, 3) := by decide +kernel
theorem dX6_elementAt_13 : decode cX6_elementAt 13 = .ok (.iconst 0, 1) := by decide +kernel
theorem dX6_elementAt_14 : decode cX6_elementAt 14 = .ok (.goto 9, 3) := by decide +kernel
theorem dX6_elementAt_17 : decode cX6_elementAt 17 = .ok (.aload_n 0, 1) := by decide +kernel
theorem dX6_elementAt_18 : decode cX6_elementAt 18 = .ok (.getfield 9, 3) := by decide +kernel
theorem dX6_elementAt_21 : decode cX6_elementAt 21 = .ok (.iload_n 1, 1) := by decide +kernel
theorem dX6_elementAt_22 : decode cX6_elementAt 22 = .ok (.iaload, 1) := by decide +kernel
theorem dX6_elementAt_23 : decode cX6_elementAt 23 = .ok (.ireturn, 1) := by decide +kernel
theorem dX6_takeElement_0 : decode cX6_takeElement 0 = .ok (.aload_n 0, 1) := by decide +kernel
theorem dX6_takeElement_1 : decode cX6_takeElement 1 = .ok (.getfield 15, 3) := by decide +kernel
theorem dX6_takeElement_4 : decode cX6_takeElement 4 = .ok (.aload_n 0, 1) := by decide +kernel
theorem dX6_takeElement_5 : decode cX6_takeElement 5 = .ok (.getfield 9, 3) := by decide +kernel
theorem dX6_takeElement_8 : decode cX6_takeElement 8 = .ok (.arraylength, 1) := by decide +kernel
theorem dX6_takeElement_9 : decode cX6_takeElement 9 = .ok (.if_icmp .ge 23, 3) := by decide +kernel
theorem dX6_takeElement_12 : decode cX6_takeElement 12 = .ok (.aload_n 0, 1) := by decide +kernel
theorem dX6_takeElement_13 : decode cX6_takeElement 13 = .ok (.getfield 9, 3) := by decide +kernel
theorem dX6_takeElement_16 : decode cX6_takeElement 16 = .ok (.aload_n 0, 1) := by decide +kernel
theorem dX6_takeElement_17 : decode cX6_takeElement 17 = .ok (.getfield 15, 3) := by decide +kernel
theorem dX6_takeElement_20 : decode cX6_takeElement 20 = .ok (.iload_n 1, 1) := by decide +kernel
theorem dX6_takeElement_21 : decode cX6_takeElement 21 = .ok (.iastore, 1) := by decide +kernel
theorem dX6_takeElement_22 : decode cX6_takeElement 22 = .ok (.aload_n 0, 1) := by decide +kernel
theorem dX6_takeElement_23 : decode cX6_takeElement 23 = .ok (.dup, 1) := by decide +kernel
theorem dX6_takeElement_24 : decode cX6_takeElement 24 = .ok (.getfield 15, 3) := by decide +kernel
theorem dX6_takeElement_27 : decode cX6_takeElement 27 = .ok (.iconst 1, 1) := by decide +kernel
theorem dX6_takeElement_28 : decode cX6_takeElement 28 = .ok (.iadd, 1) := by decide +kernel
theorem dX6_takeElement_29 : decode cX6_takeElement 29 = .ok (.putfield 15, 3) := by decide +kernel
theorem dX6_takeElement_32 : decode cX6_takeElement 32 = .ok (.return_, 1) := by decide +kernel
theorem dX6_closeChunk_0 : decode cX6_closeChunk 0 = .ok (.aload_n 0, 1) := by decide +kernel
theorem dX6_closeChunk_1 : decode cX6_closeChunk 1 = .ok (.getfield 22, 3) := by decide +kernel
theorem dX6_closeChunk_4 : decode cX6_closeChunk 4 = .ok (.aload_n 0, 1) := by decide +kernel
theorem dX6_closeChunk_5 : decode cX6_closeChunk 5 = .ok (.getfield 19, 3) := by decide +kernel
theorem dX6_closeChunk_8 : decode cX6_closeChunk 8 = .ok (.arraylength, 1) := by decide +kernel
theorem dX6_closeChunk_9 : decode cX6_closeChunk 9 = .ok (.if_icmp .ge 26, 3) := by decide +kernel
theorem dX6_closeChunk_12 : decode cX6_closeChunk 12 = .ok (.aload_n 0, 1) := by decide +kernel
theorem dX6_closeChunk_13 : decode cX6_closeChunk 13 = .ok (.getfield 19, 3) := by decide +kernel
theorem dX6_closeChunk_16 : decode cX6_closeChunk 16 = .ok (.aload_n 0, 1) := by decide +kernel
theorem dX6_closeChunk_17 : decode cX6_closeChunk 17 = .ok (.getfield 22, 3) := by decide +kernel
theorem dX6_closeChunk_20 : decode cX6_closeChunk 20 = .ok (.aload_n 0, 1) := by decide +kernel
theorem dX6_closeChunk_21 : decode cX6_closeChunk 21 = .ok (.getfield 15, 3) := by decide +kernel
theorem dX6_closeChunk_24 : decode cX6_closeChunk 24 = .ok (.iastore, 1) := by decide +kernel
theorem dX6_closeChunk_25 : decode cX6_closeChunk 25 = .ok (.aload_n 0, 1) := by decide +kernel
theorem dX6_closeChunk_26 : decode cX6_closeChunk 26 = .ok (.dup, 1) := by decide +kernel
theorem dX6_closeChunk_27 : decode cX6_closeChunk 27 = .ok (.getfield 22, 3) := by decide +kernel
theorem dX6_closeChunk_30 : decode cX6_closeChunk 30 = .ok (.iconst 1, 1) := by decide +kernel
theorem dX6_closeChunk_31 : decode cX6_closeChunk 31 = .ok (.iadd, 1) := by decide +kernel
theorem dX6_closeChunk_32 : decode cX6_closeChunk 32 = .ok (.putfield 22, 3) := by decide +kernel
theorem dX6_closeChunk_35 : decode cX6_closeChunk 35 = .ok (.return_, 1) := by decide +kernel
theorem dX6_elementsIn_0 : decode cX6_elementsIn 0 = .ok (.iload_n 1, 1) := by decide +kernel
theorem dX6_elementsIn_1 : decode cX6_elementsIn 1 = .ok (.iconst 1, 1) := by decide +kernel
theorem dX6_elementsIn_2 : decode cX6_elementsIn 2 = .ok (.if_icmp .lt 11, 3) := by decide +kernel
theorem dX6_elementsIn_5 : decode cX6_elementsIn 5 = .ok (.iload_n 1, 1) := by decide +kernel
theorem dX6_elementsIn_6 : decode cX6_elementsIn 6 = .ok (.aload_n 0, 1) := by decide +kernel
theorem dX6_elementsIn_7 : decode cX6_elementsIn 7 = .ok (.getfield 22, 3) := by decide +kernel
theorem dX6_elementsIn_10 : decode cX6_elementsIn 10 = .ok (.if_icmp .le 7, 3) := by decide +kernel
theorem dX6_elementsIn_13 : decode cX6_elementsIn 13 = .ok (.iconst 0, 1) := by decide +kernel
theorem dX6_elementsIn_14 : decode cX6_elementsIn 14 = .ok (.goto 11, 3) := by decide +kernel
theorem dX6_elementsIn_17 : decode cX6_elementsIn 17 = .ok (.aload_n 0, 1) := by decide +kernel
theorem dX6_elementsIn_18 : decode cX6_elementsIn 18 = .ok (.getfield 19, 3) := by decide +kernel
theorem dX6_elementsIn_21 : decode cX6_elementsIn 21 = .ok (.iload_n 1, 1) := by decide +kernel
theorem dX6_elementsIn_22 : decode cX6_elementsIn 22 = .ok (.iconst 1, 1) := by decide +kernel
theorem dX6_elementsIn_23 : decode cX6_elementsIn 23 = .ok (.isub, 1) := by decide +kernel
theorem dX6_elementsIn_24 : decode cX6_elementsIn 24 = .ok (.iaload, 1) := by decide +kernel
theorem dX6_elementsIn_25 : decode cX6_elementsIn 25 = .ok (.ireturn, 1) := by decide +kernel
theorem dX6_chunksFor_0 : decode cX6_chunksFor 0 = .ok (.iconst 1, 1) := by decide +kernel
theorem dX6_chunksFor_1 : decode cX6_chunksFor 1 = .ok (.istore_n 2, 1) := by decide +kernel
theorem dX6_chunksFor_2 : decode cX6_chunksFor 2 = .ok (.iload_n 2, 1) := by decide +kernel
theorem dX6_chunksFor_3 : decode cX6_chunksFor 3 = .ok (.aload_n 0, 1) := by decide +kernel
theorem dX6_chunksFor_4 : decode cX6_chunksFor 4 = .ok (.getfield 22, 3) := by decide +kernel
theorem dX6_chunksFor_7 : decode cX6_chunksFor 7 = .ok (.if_icmp .ge 18, 3) := by decide +kernel
theorem dX6_chunksFor_10 : decode cX6_chunksFor 10 = .ok (.aload_n 0, 1) := by decide +kernel
theorem dX6_chunksFor_11 : decode cX6_chunksFor 11 = .ok (.iload_n 2, 1) := by decide +kernel
theorem dX6_chunksFor_12 : decode cX6_chunksFor 12 = .ok (.invokevirtual 54, 3) := by decide +kernel
theorem dX6_chunksFor_15 : decode cX6_chunksFor 15 = .ok (.iload_n 1, 1) := by decide +kernel
theorem dX6_chunksFor_16 : decode cX6_chunksFor 16 = .ok (.if_icmp .gt 9, 3) := by decide +kernel
theorem dX6_chunksFor_19 : decode cX6_chunksFor 19 = .ok (.iinc 2 1, 3) := by decide +kernel
theorem dX6_chunksFor_22 : decode cX6_chunksFor 22 = .ok (.goto (-20), 3) := by decide +kernel
theorem dX6_chunksFor_25 : decode cX6_chunksFor 25 = .ok (.iload_n 2, 1) := by decide +kernel
theorem dX6_chunksFor_26 : decode cX6_chunksFor 26 = .ok (.ireturn, 1) := by decide +kernel
theorem dX6_endsWithSource_0 : decode cX6_endsWithSource 0 = .ok (.aload_n 0, 1) := by decide +kernel
theorem dX6_endsWithSource_1 : decode cX6_endsWithSource 1 = .ok (.getfield 32, 3) := by decide +kernel
theorem dX6_endsWithSource_4 : decode cX6_endsWithSource 4 = .ok (.ifnull 30, 3) := by decide +kernel
theorem dX6_endsWithSource_7 : decode cX6_endsWithSource 7 = .ok (.aload_n 0, 1) := by decide +kernel
theorem dX6_endsWithSource_8 : decode cX6_endsWithSource 8 = .ok (.getfield 36, 3) := by decide +kernel
theorem dX6_endsWithSource_11 : decode cX6_endsWithSource 11 = .ok (.bipush 116, 2) := by decide +kernel
theorem dX6_endsWithSource_13 : decode cX6_endsWithSource 13 = .ok (.if_icmp .ne 17, 3) := by decide +kernel
theorem dX6_endsWithSource_16 : decode cX6_endsWithSource 16 = .ok (.aload_n 0, 1) := by decide +kernel
theorem dX6_endsWithSource_17 : decode cX6_endsWithSource 17 = .ok (.getfield 40, 3) := by decide +kernel
theorem dX6_endsWithSource_20 : decode cX6_endsWithSource 20 = .ok (.aload_n 0, 1) := by decide +kernel
theorem dX6_endsWithSource_21 : decode cX6_endsWithSource 21 = .ok (.getfield 32, 3) := by decide +kernel
theorem dX6_endsWithSource_24 : decode cX6_endsWithSource 24 = .ok (.getfield 15, 3) := by decide +kernel
theorem dX6_endsWithSource_27 : decode cX6_endsWithSource 27 = .ok (.if_icmp .le 7, 3) := by decide +kernel
theorem dX6_endsWithSource_30 : decode cX6_endsWithSource 30 = .ok (.iconst 1, 1) := by decide +kernel
theorem dX6_endsWithSource_31 : decode cX6_endsWithSource 31 = .ok (.goto 4, 3) := by decide +kernel
theorem dX6_endsWithSource_34 : decode cX6_endsWithSource 34 = .ok (.iconst 0, 1) := by decide +kernel
theorem dX6_endsWithSource_35 : decode cX6_endsWithSource 35 = .ok (.ireturn, 1) := by decide +kernel
theorem dX6_sourceChunksFor_0 : decode cX6_sourceChunksFor 0 = .ok (.aload_n 0, 1) := by decide +kernel
theorem dX6_sourceChunksFor_1 : decode cX6_sourceChunksFor 1 = .ok (.getfield 32, 3) := by decide +kernel
theorem dX6_sourceChunksFor_4 : decode cX6_sourceChunksFor 4 = .ok (.ifnonnull 5, 3) := by decide +kernel
theorem dX6_sourceChunksFor_7 : decode cX6_sourceChunksFor 7 = .ok (.iconst (-1), 1) := by decide +kernel
theorem dX6_sourceChunksFor_8 : decode cX6_sourceChunksFor 8 = .ok (.ireturn, 1) := by decide +kernel
theorem dX6_sourceChunksFor_9 : decode cX6_sourceChunksFor 9 = .ok (.iload_n 2, 1) := by decide +kernel
theorem dX6_sourceChunksFor_10 : decode cX6_sourceChunksFor 10 = .ok (.ifCond .eq 11, 3) := by decide +kernel
theorem dX6_sourceChunksFor_13 : decode cX6_sourceChunksFor 13 = .ok (.aload_n 0, 1) := by decide +kernel
theorem dX6_sourceChunksFor_14 : decode cX6_sourceChunksFor 14 = .ok (.getfield 32, 3) := by decide +kernel
theorem dX6_sourceChunksFor_17 : decode cX6_sourceChunksFor 17 = .ok (.getfield 22, 3) := by decide +kernel
theorem dX6_sourceChunksFor_20 : decode cX6_sourceChunksFor 20 = .ok (.ireturn, 1) := by decide +kernel
theorem dX6_sourceChunksFor_21 : decode cX6_sourceChunksFor 21 = .ok (.aload_n 0, 1) := by decide +kernel
theorem dX6_sourceChunksFor_22 : decode cX6_sourceChunksFor 22 = .ok (.getfield 36, 3) := by decide +kernel
theorem dX6_sourceChunksFor_25 : decode cX6_sourceChunksFor 25 = .ok (.bipush 116, 2) := by decide +kernel
theorem dX6_sourceChunksFor_27 : decode cX6_sourceChunksFor 27 = .ok (.if_icmp .eq 5, 3) := by decide +kernel
theorem dX6_sourceChunksFor_30 : decode cX6_sourceChunksFor 30 = .ok (.iload_n 1, 1) := by decide +kernel
theorem dX6_sourceChunksFor_31 : decode cX6_sourceChunksFor 31 = .ok (.ireturn, 1) := by decide +kernel
theorem dX6_sourceChunksFor_32 : decode cX6_sourceChunksFor 32 = .ok (.iload_n 1, 1) := by decide +kernel
theorem dX6_sourceChunksFor_33 : decode cX6_sourceChunksFor 33 = .ok (.ifCond .ne 7, 3) := by decide +kernel
theorem dX6_sourceChunksFor_36 : decode cX6_sourceChunksFor 36 = .ok (.iconst (-1), 1) := by decide +kernel
theorem dX6_sourceChunksFor_37 : decode cX6_sourceChunksFor 37 = .ok (.goto 13, 3) := by decide +kernel
theorem dX6_sourceChunksFor_40 : decode cX6_sourceChunksFor 40 = .ok (.aload_n 0, 1) := by decide +kernel
theorem dX6_sourceChunksFor_41 : decode cX6_sourceChunksFor 41 = .ok (.getfield 32, 3) := by decide +kernel
theorem dX6_sourceChunksFor_44 : decode cX6_sourceChunksFor 44 = .ok (.iload_n 1, 1) := by decide +kernel
theorem dX6_sourceChunksFor_45 : decode cX6_sourceChunksFor 45 = .ok (.iconst 1, 1) := by decide +kernel
theorem dX6_sourceChunksFor_46 : decode cX6_sourceChunksFor 46 = .ok (.isub, 1) := by decide +kernel
theorem dX6_sourceChunksFor_47 : decode cX6_sourceChunksFor 47 = .ok (.invokevirtual 64, 3) := by decide +kernel
theorem dX6_sourceChunksFor_50 : decode cX6_sourceChunksFor 50 = .ok (.ireturn, 1) := by decide +kernel
theorem dX7_init_0 : decode cX7_init 0 = .ok (.aload_n 0, 1) := by decide +kernel
theorem dX7_init_1 : decode cX7_init 1 = .ok (.invokespecial 3, 3) := by decide +kernel
theorem dX7_init_4 : decode cX7_init 4 = .ok (.aload_n 0, 1) := by decide +kernel
theorem dX7_init_5 : decode cX7_init 5 = .ok (.iconst 0, 1) := by decide +kernel
theorem dX7_init_6 : decode cX7_init 6 = .ok (.putfield 9, 3) := by decide +kernel
theorem dX7_init_9 : decode cX7_init 9 = .ok (.aload_n 0, 1) := by decide +kernel
theorem dX7_init_10 : decode cX7_init 10 = .ok (.iconst 0, 1) := by decide +kernel
theorem dX7_init_11 : decode cX7_init 11 = .ok (.putfield 15, 3) := by decide +kernel
theorem dX7_init_14 : decode cX7_init 14 = .ok (.aload_n 0, 1) := by decide +kernel
theorem dX7_init_15 : decode cX7_init 15 = .ok (.iconst 0, 1) := by decide +kernel
theorem dX7_init_16 : decode cX7_init 16 = .ok (.putfield 19, 3) := by decide +kernel
theorem dX7_init_19 : decode cX7_init 19 = .ok (.aload_n 0, 1) := by decide +kernel
theorem dX7_init_20 : decode cX7_init 20 = .ok (.iconst 0, 1) := by decide +kernel
theorem dX7_init_21 : decode cX7_init 21 = .ok (.putfield 22, 3) := by decide +kernel
theorem dX7_init_24 : decode cX7_init 24 = .ok (.aload_n 0, 1) := by decide +kernel
theorem dX7_init_25 : decode cX7_init 25 = .ok (.bipush 6, 2) := by decide +kernel
theorem dX7_init_27 : decode cX7_init 27 = .ok (.newarray .boolean, 2) := by decide +kernel
theorem dX7_init_29 : decode cX7_init 29 = .ok (.putfield 25, 3) := by decide +kernel
theorem dX7_init_32 : decode cX7_init 32 = .ok (.aload_n 0, 1) := by decide +kernel
theorem dX7_init_33 : decode cX7_init 33 = .ok (.bipush 6, 2) := by decide +kernel
theorem dX7_init_35 : decode cX7_init 35 = .ok (.newarray .int, 2) := by decide +kernel
theorem dX7_init_37 : decode cX7_init 37 = .ok (.putfield 29, 3) := by decide +kernel
theorem dX7_init_40 : decode cX7_init 40 = .ok (.aload_n 0, 1) := by decide +kernel
theorem dX7_init_41 : decode cX7_init 41 = .ok (.bipush 6, 2) := by decide +kernel
theorem dX7_init_43 : decode cX7_init 43 = .ok (.newarray .boolean, 2) := by decide +kernel
theorem dX7_init_45 : decode cX7_init 45 = .ok (.putfield 33, 3) := by decide +kernel
theorem dX7_init_48 : decode cX7_init 48 = .ok (.aload_n 0, 1) := by decide +kernel
theorem dX7_init_49 : decode cX7_init 49 = .ok (.bipush 6, 2) := by decide +kernel
theorem dX7_init_51 : decode cX7_init 51 = .ok (.newarray .boolean, 2) := by decide +kernel
theorem dX7_init_53 : decode cX7_init 53 = .ok (.putfield 36, 3) := by decide +kernel
theorem dX7_init_56 : decode cX7_init 56 = .ok (.aload_n 0, 1) := by decide +kernel
theorem dX7_init_57 : decode cX7_init 57 = .ok (.bipush 6, 2) := by decide +kernel
theorem dX7_init_59 : decode cX7_init 59 = .ok (.newarray .int, 2) := by decide +kernel
theorem dX7_init_61 : decode cX7_init 61 = .ok (.putfield 39, 3) := by decide +kernel
theorem dX7_init_64 : decode cX7_init 64 = .ok (.aload_n 0, 1) := by decide +kernel
theorem dX7_init_65 : decode cX7_init 65 = .ok (.iconst 4, 1) := by decide +kernel
theorem dX7_init_66 : decode cX7_init 66 = .ok (.anewarray 42, 3) := by decide +kernel
theorem dX7_init_69 : decode cX7_init 69 = .ok (.putfield 44, 3) := by decide +kernel
theorem dX7_init_72 : decode cX7_init 72 = .ok (.iconst 0, 1) := by decide +kernel
theorem dX7_init_73 : decode cX7_init 73 = .ok (.istore_n 1, 1) := by decide +kernel
theorem dX7_init_74 : decode cX7_init 74 = .ok (.iload_n 1, 1) := by decide +kernel
theorem dX7_init_75 : decode cX7_init 75 = .ok (.iconst 4, 1) := by decide +kernel
theorem dX7_init_76 : decode cX7_init 76 = .ok (.if_icmp .ge 22, 3) := by decide +kernel
theorem dX7_init_79 : decode cX7_init 79 = .ok (.aload_n 0, 1) := by decide +kernel
theorem dX7_init_80 : decode cX7_init 80 = .ok (.getfield 44, 3) := by decide +kernel
theorem dX7_init_83 : decode cX7_init 83 = .ok (.iload_n 1, 1) := by decide +kernel
theorem dX7_init_84 : decode cX7_init 84 = .ok (.new 42, 3) := by decide +kernel
theorem dX7_init_87 : decode cX7_init 87 = .ok (.dup, 1) := by decide +kernel
theorem dX7_init_88 : decode cX7_init 88 = .ok (.invokespecial 48, 3) := by decide +kernel
theorem dX7_init_91 : decode cX7_init 91 = .ok (.aastore, 1) := by decide +kernel
theorem dX7_init_92 : decode cX7_init 92 = .ok (.iinc 1 1, 3) := by decide +kernel
theorem dX7_init_95 : decode cX7_init 95 = .ok (.goto (-21), 3) := by decide +kernel
theorem dX7_init_98 : decode cX7_init 98 = .ok (.return_, 1) := by decide +kernel
theorem dX7_start_0 : decode cX7_start 0 = .ok (.aload_n 0, 1) := by decide +kernel
theorem dX7_start_1 : decode cX7_start 1 = .ok (.iconst 1, 1) := by decide +kernel
theorem dX7_start_2 : decode cX7_start 2 = .ok (.putfield 9, 3) := by decide +kernel
theorem dX7_start_5 : decode cX7_start 5 = .ok (.aload_n 0, 1) := by decide +kernel
theorem dX7_start_6 : decode cX7_start 6 = .ok (.iload_n 1, 1) := by decide +kernel
theorem dX7_start_7 : decode cX7_start 7 = .ok (.putfield 15, 3) := by decide +kernel
theorem dX7_start_10 : decode cX7_start 10 = .ok (.aload_n 0, 1) := by decide +kernel
theorem dX7_start_11 : decode cX7_start 11 = .ok (.iload_n 2, 1) := by decide +kernel
theorem dX7_start_12 : decode cX7_start 12 = .ok (.putfield 19, 3) := by decide +kernel
theorem dX7_start_15 : decode cX7_start 15 = .ok (.aload_n 0, 1) := by decide +kernel
theorem dX7_start_16 : decode cX7_start 16 = .ok (.iconst 0, 1) := by decide +kernel
theorem dX7_start_17 : decode cX7_start 17 = .ok (.putfield 22, 3) := by decide +kernel
theorem dX7_start_20 : decode cX7_start 20 = .ok (.return_, 1) := by decide +kernel
theorem dX7_goBack_0 : decode cX7_goBack 0 = .ok (.aload_n 0, 1) := by decide +kernel
theorem dX7_goBack_1 : decode cX7_goBack 1 = .ok (.invokevirtual 49, 3) := by decide +kernel
theorem dX7_goBack_4 : decode cX7_goBack 4 = .ok (.aload_n 0, 1) := by decide +kernel
theorem dX7_goBack_5 : decode cX7_goBack 5 = .ok (.iload_n 1, 1) := by decide +kernel
theorem dX7_goBack_6 : decode cX7_goBack 6 = .ok (.putfield 19, 3) := by decide +kernel
theorem dX7_goBack_9 : decode cX7_goBack 9 = .ok (.aload_n 0, 1) := by decide +kernel
theorem dX7_goBack_10 : decode cX7_goBack 10 = .ok (.dup, 1) := by decide +kernel
theorem dX7_goBack_11 : decode cX7_goBack 11 = .ok (.getfield 22, 3) := by decide +kernel
theorem dX7_goBack_14 : decode cX7_goBack 14 = .ok (.iconst 1, 1) := by decide +kernel
theorem dX7_goBack_15 : decode cX7_goBack 15 = .ok (.iadd, 1) := by decide +kernel
theorem dX7_goBack_16 : decode cX7_goBack 16 = .ok (.putfield 22, 3) := by decide +kernel
theorem dX7_goBack_19 : decode cX7_goBack 19 = .ok (.return_, 1) := by decide +kernel
theorem dX7_stop_0 : decode cX7_stop 0 = .ok (.aload_n 0, 1) := by decide +kernel
theorem dX7_stop_1 : decode cX7_stop 1 = .ok (.invokevirtual 49, 3) := by decide +kernel
theorem dX7_stop_4 : decode cX7_stop 4 = .ok (.aload_n 0, 1) := by decide +kernel
theorem dX7_stop_5 : decode cX7_stop 5 = .ok (.iconst 0, 1) := by decide +kernel
theorem dX7_stop_6 : decode cX7_stop 6 = .ok (.putfield 9, 3) := by decide +kernel
theorem dX7_stop_9 : decode cX7_stop 9 = .ok (.return_, 1) := by decide +kernel
theorem dX7_forget_0 : decode cX7_forget 0 = .ok (.iconst 0, 1) := by decide +kernel
theorem dX7_forget_1 : decode cX7_forget 1 = .ok (.istore_n 1, 1) := by decide +kernel
theorem dX7_forget_2 : decode cX7_forget 2 = .ok (.iload_n 1, 1) := by decide +kernel
theorem dX7_forget_3 : decode cX7_forget 3 = .ok (.bipush 6, 2) := by decide +kernel
theorem dX7_forget_5 : decode cX7_forget 5 = .ok (.if_icmp .ge 37, 3) := by decide +kernel
theorem dX7_forget_8 : decode cX7_forget 8 = .ok (.aload_n 0, 1) := by decide +kernel
theorem dX7_forget_9 : decode cX7_forget 9 = .ok (.getfield 25, 3) := by decide +kernel
theorem dX7_forget_12 : decode cX7_forget 12 = .ok (.iload_n 1, 1) := by decide +kernel
theorem dX7_forget_13 : decode cX7_forget 13 = .ok (.iconst 0, 1) := by decide +kernel
theorem dX7_forget_14 : decode cX7_forget 14 = .ok (.bastore, 1) := by decide +kernel
theorem dX7_forget_15 : decode cX7_forget 15 = .ok (.aload_n 0, 1) := by decide +kernel
theorem dX7_forget_16 : decode cX7_forget 16 = .ok (.getfield 33, 3) := by decide +kernel
theorem dX7_forget_19 : decode cX7_forget 19 = .ok (.iload_n 1, 1) := by decide +kernel
theorem dX7_forget_20 : decode cX7_forget 20 = .ok (.iconst 0, 1) := by decide +kernel
theorem dX7_forget_21 : decode cX7_forget 21 = .ok (.bastore, 1) := by decide +kernel
theorem dX7_forget_22 : decode cX7_forget 22 = .ok (.aload_n 0, 1) := by decide +kernel
theorem dX7_forget_23 : decode cX7_forget 23 = .ok (.getfield 36, 3) := by decide +kernel
theorem dX7_forget_26 : decode cX7_forget 26 = .ok (.iload_n 1, 1) := by decide +kernel
theorem dX7_forget_27 : decode cX7_forget 27 = .ok (.iconst 0, 1) := by decide +kernel
theorem dX7_forget_28 : decode cX7_forget 28 = .ok (.bastore, 1) := by decide +kernel
theorem dX7_forget_29 : decode cX7_forget 29 = .ok (.aload_n 0, 1) := by decide +kernel
theorem dX7_forget_30 : decode cX7_forget 30 = .ok (.getfield 39, 3) := by decide +kernel
theorem dX7_forget_33 : decode cX7_forget 33 = .ok (.iload_n 1, 1) := by decide +kernel
theorem dX7_forget_34 : decode cX7_forget 34 = .ok (.iconst 0, 1) := by decide +kernel
theorem dX7_forget_35 : decode cX7_forget 35 = .ok (.iastore, 1) := by decide +kernel
theorem dX7_forget_36 : decode cX7_forget 36 = .ok (.iinc 1 1, 3) := by decide +kernel
theorem dX7_forget_39 : decode cX7_forget 39 = .ok (.goto (-37), 3) := by decide +kernel
theorem dX7_forget_42 : decode cX7_forget 42 = .ok (.aload_n 0, 1) := by decide +kernel
theorem dX7_forget_43 : decode cX7_forget 43 = .ok (.getfield 44, 3) := by decide +kernel
theorem dX7_forget_46 : decode cX7_forget 46 = .ok (.astore_n 1, 1) := by decide +kernel
theorem dX7_forget_47 : decode cX7_forget 47 = .ok (.aload_n 1, 1) := by decide +kernel
theorem dX7_forget_48 : decode cX7_forget 48 = .ok (.arraylength, 1) := by decide +kernel
theorem dX7_forget_49 : decode cX7_forget 49 = .ok (.istore_n 2, 1) := by decide +kernel
theorem dX7_forget_50 : decode cX7_forget 50 = .ok (.iconst 0, 1) := by decide +kernel
theorem dX7_forget_51 : decode cX7_forget 51 = .ok (.istore_n 3, 1) := by decide +kernel
theorem dX7_forget_52 : decode cX7_forget 52 = .ok (.iload_n 3, 1) := by decide +kernel
theorem dX7_forget_53 : decode cX7_forget 53 = .ok (.iload_n 2, 1) := by decide +kernel
theorem dX7_forget_54 : decode cX7_forget 54 = .ok (.if_icmp .ge 20, 3) := by decide +kernel
theorem dX7_forget_57 : decode cX7_forget 57 = .ok (.aload_n 1, 1) := by decide +kernel
theorem dX7_forget_58 : decode cX7_forget 58 = .ok (.iload_n 3, 1) := by decide +kernel
theorem dX7_forget_59 : decode cX7_forget 59 = .ok (.aaload, 1) := by decide +kernel
theorem dX7_forget_60 : decode cX7_forget 60 = .ok (.astore 4, 2) := by decide +kernel
theorem dX7_forget_62 : decode cX7_forget 62 = .ok (.aload 4, 2) := by decide +kernel
theorem dX7_forget_64 : decode cX7_forget 64 = .ok (.iconst 0, 1) := by decide +kernel
theorem dX7_forget_65 : decode cX7_forget 65 = .ok (.putfield 52, 3) := by decide +kernel
theorem dX7_forget_68 : decode cX7_forget 68 = .ok (.iinc 3 1, 3) := by decide +kernel
theorem dX7_forget_71 : decode cX7_forget 71 = .ok (.goto (-19), 3) := by decide +kernel
theorem dX7_forget_74 : decode cX7_forget 74 = .ok (.return_, 1) := by decide +kernel
theorem dX7_holds_0 : decode cX7_holds 0 = .ok (.aload_n 0, 1) := by decide +kernel
theorem dX7_holds_1 : decode cX7_holds 1 = .ok (.getfield 25, 3) := by decide +kernel
theorem dX7_holds_4 : decode cX7_holds 4 = .ok (.iload_n 1, 1) := by decide +kernel
theorem dX7_holds_5 : decode cX7_holds 5 = .ok (.baload, 1) := by decide +kernel
theorem dX7_holds_6 : decode cX7_holds 6 = .ok (.ifCond .ne 16, 3) := by decide +kernel
theorem dX7_holds_9 : decode cX7_holds 9 = .ok (.iload_n 2, 1) := by decide +kernel
theorem dX7_holds_10 : decode cX7_holds 10 = .ok (.ifCond .eq 16, 3) := by decide +kernel
theorem dX7_holds_13 : decode cX7_holds 13 = .ok (.aload_n 0, 1) := by decide +kernel
theorem dX7_holds_14 : decode cX7_holds 14 = .ok (.getfield 33, 3) := by decide +kernel
theorem dX7_holds_17 : decode cX7_holds 17 = .ok (.iload_n 1, 1) := by decide +kernel
theorem dX7_holds_18 : decode cX7_holds 18 = .ok (.baload, 1) := by decide +kernel
theorem dX7_holds_19 : decode cX7_holds 19 = .ok (.ifCond .eq 7, 3) := by decide +kernel
theorem dX7_holds_22 : decode cX7_holds 22 = .ok (.iconst 1, 1) := by decide +kernel
theorem dX7_holds_23 : decode cX7_holds 23 = .ok (.goto 4, 3) := by decide +kernel
theorem dX7_holds_26 : decode cX7_holds 26 = .ok (.iconst 0, 1) := by decide +kernel
theorem dX7_holds_27 : decode cX7_holds 27 = .ok (.ireturn, 1) := by decide +kernel
theorem dX7_changes_0 : decode cX7_changes 0 = .ok (.aload_n 0, 1) := by decide +kernel
theorem dX7_changes_1 : decode cX7_changes 1 = .ok (.getfield 25, 3) := by decide +kernel
theorem dX7_changes_4 : decode cX7_changes 4 = .ok (.iload_n 1, 1) := by decide +kernel
theorem dX7_changes_5 : decode cX7_changes 5 = .ok (.baload, 1) := by decide +kernel
theorem dX7_changes_6 : decode cX7_changes 6 = .ok (.ifCond .ne 12, 3) := by decide +kernel
theorem dX7_changes_9 : decode cX7_changes 9 = .ok (.aload_n 0, 1) := by decide +kernel
theorem dX7_changes_10 : decode cX7_changes 10 = .ok (.getfield 36, 3) := by decide +kernel
theorem dX7_changes_13 : decode cX7_changes 13 = .ok (.iload_n 1, 1) := by decide +kernel
theorem dX7_changes_14 : decode cX7_changes 14 = .ok (.baload, 1) := by decide +kernel
theorem dX7_changes_15 : decode cX7_changes 15 = .ok (.ifCond .eq 7, 3) := by decide +kernel
theorem dX7_changes_18 : decode cX7_changes 18 = .ok (.iconst 1, 1) := by decide +kernel
theorem dX7_changes_19 : decode cX7_changes 19 = .ok (.goto 4, 3) := by decide +kernel
theorem dX7_changes_22 : decode cX7_changes 22 = .ok (.iconst 0, 1) := by decide +kernel
theorem dX7_changes_23 : decode cX7_changes 23 = .ok (.ireturn, 1) := by decide +kernel
theorem dX8_init_0 : decode cX8_init 0 = .ok (.aload_n 0, 1) := by decide +kernel
theorem dX8_init_1 : decode cX8_init 1 = .ok (.invokespecial 3, 3) := by decide +kernel
theorem dX8_init_4 : decode cX8_init 4 = .ok (.aload_n 0, 1) := by decide +kernel
theorem dX8_init_5 : decode cX8_init 5 = .ok (.iload_n 1, 1) := by decide +kernel
theorem dX8_init_6 : decode cX8_init 6 = .ok (.putfield 9, 3) := by decide +kernel
theorem dX8_init_9 : decode cX8_init 9 = .ok (.aload_n 0, 1) := by decide +kernel
theorem dX8_init_10 : decode cX8_init 10 = .ok (.aload_n 2, 1) := by decide +kernel
theorem dX8_init_11 : decode cX8_init 11 = .ok (.putfield 15, 3) := by decide +kernel
theorem dX8_init_14 : decode cX8_init 14 = .ok (.aload_n 0, 1) := by decide +kernel
theorem dX8_init_15 : decode cX8_init 15 = .ok (.iload_n 3, 1) := by decide +kernel
theorem dX8_init_16 : decode cX8_init 16 = .ok (.putfield 19, 3) := by decide +kernel
theorem dX8_init_19 : decode cX8_init 19 = .ok (.aload_n 0, 1) := by decide +kernel
theorem dX8_init_20 : decode cX8_init 20 = .ok (.aload 4, 2) := by decide +kernel
theorem dX8_init_22 : decode cX8_init 22 = .ok (.putfield 22, 3) := by decide +kernel
theorem dX8_init_25 : decode cX8_init 25 = .ok (.aload_n 0, 1) := by decide +kernel
theorem dX8_init_26 : decode cX8_init 26 = .ok (.aload 5, 2) := by decide +kernel
theorem dX8_init_28 : decode cX8_init 28 = .ok (.putfield 26, 3) := by decide +kernel
theorem dX8_init_31 : decode cX8_init 31 = .ok (.return_, 1) := by decide +kernel
theorem dX8_isLiveVector_0 : decode cX8_isLiveVector 0 = .ok (.aload_n 0, 1) := by decide +kernel
theorem dX8_isLiveVector_1 : decode cX8_isLiveVector 1 = .ok (.getfield 9, 3) := by decide +kernel
theorem dX8_isLiveVector_4 : decode cX8_isLiveVector 4 = .ok (.ifCond .eq 11, 3) := by decide +kernel
theorem dX8_isLiveVector_7 : decode cX8_isLiveVector 7 = .ok (.aload_n 0, 1) := by decide +kernel
theorem dX8_isLiveVector_8 : decode cX8_isLiveVector 8 = .ok (.getfield 9, 3) := by decide +kernel
theorem dX8_isLiveVector_11 : decode cX8_isLiveVector 11 = .ok (.iconst 1, 1) := by decide +kernel
theorem dX8_isLiveVector_12 : decode cX8_isLiveVector 12 = .ok (.if_icmp .ne 7, 3) := by decide +kernel
theorem dX8_isLiveVector_15 : decode cX8_isLiveVector 15 = .ok (.iconst 1, 1) := by decide +kernel
theorem dX8_isLiveVector_16 : decode cX8_isLiveVector 16 = .ok (.goto 4, 3) := by decide +kernel
theorem dX8_isLiveVector_19 : decode cX8_isLiveVector 19 = .ok (.iconst 0, 1) := by decide +kernel
theorem dX8_isLiveVector_20 : decode cX8_isLiveVector 20 = .ok (.ireturn, 1) := by decide +kernel
theorem dX8_plainSlotOf_0 : decode cX8_plainSlotOf 0 = .ok (.aload_n 0, 1) := by decide +kernel
theorem dX8_plainSlotOf_1 : decode cX8_plainSlotOf 1 = .ok (.getfield 22, 3) := by decide +kernel
theorem dX8_plainSlotOf_4 : decode cX8_plainSlotOf 4 = .ok (.ifnonnull 30, 3) := by decide +kernel
theorem dX8_plainSlotOf_7 : decode cX8_plainSlotOf 7 = .ok (.iload_n 1, 1) := by decide +kernel
theorem dX8_plainSlotOf_8 : decode cX8_plainSlotOf 8 = .ok (.ifCond .lt 24, 3) := by decide +kernel
theorem dX8_plainSlotOf_11 : decode cX8_plainSlotOf 11 = .ok (.iload_n 1, 1) := by decide +kernel
theorem dX8_plainSlotOf_12 : decode cX8_plainSlotOf 12 = .ok (.aload_n 0, 1) := by decide +kernel
theorem dX8_plainSlotOf_13 : decode cX8_plainSlotOf 13 = .ok (.getfield 19, 3) := by decide +kernel
theorem dX8_plainSlotOf_16 : decode cX8_plainSlotOf 16 = .ok (.if_icmp .ge 16, 3) := by decide +kernel
theorem dX8_plainSlotOf_19 : decode cX8_plainSlotOf 19 = .ok (.iload_n 1, 1) := by decide +kernel
theorem dX8_plainSlotOf_20 : decode cX8_plainSlotOf 20 = .ok (.aload_n 0, 1) := by decide +kernel
theorem dX8_plainSlotOf_21 : decode cX8_plainSlotOf 21 = .ok (.getfield 26, 3) := by decide +kernel
theorem dX8_plainSlotOf_24 : decode cX8_plainSlotOf 24 = .ok (.arraylength, 1) := by decide +kernel
theorem dX8_plainSlotOf_25 : decode cX8_plainSlotOf 25 = .ok (.if_icmp .ge 7, 3) := by decide +kernel
theorem dX8_plainSlotOf_28 : decode cX8_plainSlotOf 28 = .ok (.iload_n 1, 1) := by decide +kernel
theorem dX8_plainSlotOf_29 : decode cX8_plainSlotOf 29 = .ok (.goto 4, 3) := by decide +kernel
theorem dX8_plainSlotOf_32 : decode cX8_plainSlotOf 32 = .ok (.iconst (-1), 1) := by decide +kernel
theorem dX8_plainSlotOf_33 : decode cX8_plainSlotOf 33 = .ok (.ireturn, 1) := by decide +kernel
theorem dX8_plainSlotOf_34 : decode cX8_plainSlotOf 34 = .ok (.iconst 0, 1) := by decide +kernel
theorem dX8_plainSlotOf_35 : decode cX8_plainSlotOf 35 = .ok (.istore_n 2, 1) := by decide +kernel
theorem dX8_plainSlotOf_36 : decode cX8_plainSlotOf 36 = .ok (.iload_n 2, 1) := by decide +kernel
theorem dX8_plainSlotOf_37 : decode cX8_plainSlotOf 37 = .ok (.aload_n 0, 1) := by decide +kernel
theorem dX8_plainSlotOf_38 : decode cX8_plainSlotOf 38 = .ok (.getfield 22, 3) := by decide +kernel
theorem dX8_plainSlotOf_41 : decode cX8_plainSlotOf 41 = .ok (.arraylength, 1) := by decide +kernel
theorem dX8_plainSlotOf_42 : decode cX8_plainSlotOf 42 = .ok (.if_icmp .ge 21, 3) := by decide +kernel
theorem dX8_plainSlotOf_45 : decode cX8_plainSlotOf 45 = .ok (.aload_n 0, 1) := by decide +kernel
theorem dX8_plainSlotOf_46 : decode cX8_plainSlotOf 46 = .ok (.getfield 22, 3) := by decide +kernel
theorem dX8_plainSlotOf_49 : decode cX8_plainSlotOf 49 = .ok (.iload_n 2, 1) := by decide +kernel
theorem dX8_plainSlotOf_50 : decode cX8_plainSlotOf 50 = .ok (.iaload, 1) := by decide +kernel
theorem dX8_plainSlotOf_51 : decode cX8_plainSlotOf 51 = .ok (.iload_n 1, 1) := by decide +kernel
theorem dX8_plainSlotOf_52 : decode cX8_plainSlotOf 52 = .ok (.if_icmp .ne 5, 3) := by decide +kernel
theorem dX8_plainSlotOf_55 : decode cX8_plainSlotOf 55 = .ok (.iload_n 2, 1) := by decide +kernel
theorem dX8_plainSlotOf_56 : decode cX8_plainSlotOf 56 = .ok (.ireturn, 1) := by decide +kernel
theorem dX8_plainSlotOf_57 : decode cX8_plainSlotOf 57 = .ok (.iinc 2 1, 3) := by decide +kernel
theorem dX8_plainSlotOf_60 : decode cX8_plainSlotOf 60 = .ok (.goto (-24), 3) := by decide +kernel
theorem dX8_plainSlotOf_63 : decode cX8_plainSlotOf 63 = .ok (.iconst (-1), 1) := by decide +kernel
theorem dX8_plainSlotOf_64 : decode cX8_plainSlotOf 64 = .ok (.ireturn, 1) := by decide +kernel
theorem dX8_plainKeyAt_0 : decode cX8_plainKeyAt 0 = .ok (.aload_n 0, 1) := by decide +kernel
theorem dX8_plainKeyAt_1 : decode cX8_plainKeyAt 1 = .ok (.getfield 22, 3) := by decide +kernel
theorem dX8_plainKeyAt_4 : decode cX8_plainKeyAt 4 = .ok (.ifnull 16, 3) := by decide +kernel
theorem dX8_plainKeyAt_7 : decode cX8_plainKeyAt 7 = .ok (.iload_n 1, 1) := by decide +kernel
theorem dX8_plainKeyAt_8 : decode cX8_plainKeyAt 8 = .ok (.ifCond .lt 12, 3) := by decide +kernel
theorem dX8_plainKeyAt_11 : decode cX8_plainKeyAt 11 = .ok (.iload_n 1, 1) := by decide +kernel
theorem dX8_plainKeyAt_12 : decode cX8_plainKeyAt 12 = .ok (.aload_n 0, 1) := by decide +kernel
theorem dX8_plainKeyAt_13 : decode cX8_plainKeyAt 13 = .ok (.getfield 22, 3) := by decide +kernel
theorem dX8_plainKeyAt_16 : decode cX8_plainKeyAt 16 = .ok (.arraylength, 1) := by decide +kernel
theorem dX8_plainKeyAt_17 : decode cX8_plainKeyAt 17 = .ok (.if_icmp .lt 7, 3) := by decide +kernel
theorem dX8_plainKeyAt_20 : decode cX8_plainKeyAt 20 = .ok (.iconst (-1), 1) := by decide +kernel
theorem dX8_plainKeyAt_21 : decode cX8_plainKeyAt 21 = .ok (.goto 9, 3) := by decide +kernel
theorem dX8_plainKeyAt_24 : decode cX8_plainKeyAt 24 = .ok (.aload_n 0, 1) := by decide +kernel
theorem dX8_plainKeyAt_25 : decode cX8_plainKeyAt 25 = .ok (.getfield 22, 3) := by decide +kernel
theorem dX8_plainKeyAt_28 : decode cX8_plainKeyAt 28 = .ok (.iload_n 1, 1) := by decide +kernel
theorem dX8_plainKeyAt_29 : decode cX8_plainKeyAt 29 = .ok (.iaload, 1) := by decide +kernel
theorem dX8_plainKeyAt_30 : decode cX8_plainKeyAt 30 = .ok (.ireturn, 1) := by decide +kernel
theorem dX8_plainElementAt_0 : decode cX8_plainElementAt 0 = .ok (.iload_n 1, 1) := by decide +kernel
theorem dX8_plainElementAt_1 : decode cX8_plainElementAt 1 = .ok (.ifCond .lt 12, 3) := by decide +kernel
theorem dX8_plainElementAt_4 : decode cX8_plainElementAt 4 = .ok (.iload_n 1, 1) := by decide +kernel
theorem dX8_plainElementAt_5 : decode cX8_plainElementAt 5 = .ok (.aload_n 0, 1) := by decide +kernel
theorem dX8_plainElementAt_6 : decode cX8_plainElementAt 6 = .ok (.getfield 26, 3) := by decide +kernel
theorem dX8_plainElementAt_9 : decode cX8_plainElementAt 9 = .ok (.arraylength, 1) := by decide +kernel
theorem dX8_plainElementAt_10 : decode cX8_plainElementAt 10 = .ok (.if_icmp .lt 7, 3) := by decide +kernel
theorem dX8_plainElementAt_13 : decode cX8_plainElementAt 13 = .ok (.iconst 0, 1) := by decide +kernel
theorem dX8_plainElementAt_14 : decode cX8_plainElementAt 14 = .ok (.goto 9, 3) := by decide +kernel
theorem dX8_plainElementAt_17 : decode cX8_plainElementAt 17 = .ok (.aload_n 0, 1) := by decide +kernel
theorem dX8_plainElementAt_18 : decode cX8_plainElementAt 18 = .ok (.getfield 26, 3) := by decide +kernel
theorem dX8_plainElementAt_21 : decode cX8_plainElementAt 21 = .ok (.iload_n 1, 1) := by decide +kernel
theorem dX8_plainElementAt_22 : decode cX8_plainElementAt 22 = .ok (.iaload, 1) := by decide +kernel
theorem dX8_plainElementAt_23 : decode cX8_plainElementAt 23 = .ok (.ireturn, 1) := by decide +kernel
theorem dX8_putPlain_0 : decode cX8_putPlain 0 = .ok (.iload_n 1, 1) := by decide +kernel
theorem dX8_putPlain_1 : decode cX8_putPlain 1 = .ok (.ifCond .lt 19, 3) := by decide +kernel
theorem dX8_putPlain_4 : decode cX8_putPlain 4 = .ok (.iload_n 1, 1) := by decide +kernel
theorem dX8_putPlain_5 : decode cX8_putPlain 5 = .ok (.aload_n 0, 1) := by decide +kernel
theorem dX8_putPlain_6 : decode cX8_putPlain 6 = .ok (.getfield 26, 3) := by decide +kernel
theorem dX8_putPlain_9 : decode cX8_putPlain 9 = .ok (.arraylength, 1) := by decide +kernel
theorem dX8_putPlain_10 : decode cX8_putPlain 10 = .ok (.if_icmp .ge 10, 3) := by decide +kernel
theorem dX8_putPlain_13 : decode cX8_putPlain 13 = .ok (.aload_n 0, 1) := by decide +kernel
theorem dX8_putPlain_14 : decode cX8_putPlain 14 = .ok (.getfield 26, 3) := by decide +kernel
theorem dX8_putPlain_17 : decode cX8_putPlain 17 = .ok (.iload_n 1, 1) := by decide +kernel
theorem dX8_putPlain_18 : decode cX8_putPlain 18 = .ok (.iload_n 2, 1) := by decide +kernel
theorem dX8_putPlain_19 : decode cX8_putPlain 19 = .ok (.iastore, 1) := by decide +kernel
theorem dX8_putPlain_20 : decode cX8_putPlain 20 = .ok (.return_, 1) := by decide +kernel
theorem dX8_putPlainPair_0 : decode cX8_putPlainPair 0 = .ok (.aload_n 0, 1) := by decide +kernel
theorem dX8_putPlainPair_1 : decode cX8_putPlainPair 1 = .ok (.iload_n 1, 1) := by decide +kernel
theorem dX8_putPlainPair_2 : decode cX8_putPlainPair 2 = .ok (.iload_n 3, 1) := by decide +kernel
theorem dX8_putPlainPair_3 : decode cX8_putPlainPair 3 = .ok (.invokevirtual 29, 3) := by decide +kernel
theorem dX8_putPlainPair_6 : decode cX8_putPlainPair 6 = .ok (.iload_n 1, 1) := by decide +kernel
theorem dX8_putPlainPair_7 : decode cX8_putPlainPair 7 = .ok (.ifCond .lt 26, 3) := by decide +kernel
theorem dX8_putPlainPair_10 : decode cX8_putPlainPair 10 = .ok (.aload_n 0, 1) := by decide +kernel
theorem dX8_putPlainPair_11 : decode cX8_putPlainPair 11 = .ok (.getfield 22, 3) := by decide +kernel
theorem dX8_putPlainPair_14 : decode cX8_putPlainPair 14 = .ok (.ifnull 19, 3) := by decide +kernel
theorem dX8_putPlainPair_17 : decode cX8_putPlainPair 17 = .ok (.iload_n 1, 1) := by decide +kernel
theorem dX8_putPlainPair_18 : decode cX8_putPlainPair 18 = .ok (.aload_n 0, 1) := by decide +kernel
theorem dX8_putPlainPair_19 : decode cX8_putPlainPair 19 = .ok (.getfield 22, 3) := by decide +kernel
theorem dX8_putPlainPair_22 : decode cX8_putPlainPair 22 = .ok (.arraylength, 1) := by decide +kernel
theorem dX8_putPlainPair_23 : decode cX8_putPlainPair 23 = .ok (.if_icmp .ge 10, 3) := by decide +kernel
theorem dX8_putPlainPair_26 : decode cX8_putPlainPair 26 = .ok (.aload_n 0, 1) := by decide +kernel
theorem dX8_putPlainPair_27 : decode cX8_putPlainPair 27 = .ok (.getfield 22, 3) := by decide +kernel
theorem dX8_putPlainPair_30 : decode cX8_putPlainPair 30 = .ok (.iload_n 1, 1) := by decide +kernel
theorem dX8_putPlainPair_31 : decode cX8_putPlainPair 31 = .ok (.iload_n 2, 1) := by decide +kernel
theorem dX8_putPlainPair_32 : decode cX8_putPlainPair 32 = .ok (.iastore, 1) := by decide +kernel
theorem dX8_putPlainPair_33 : decode cX8_putPlainPair 33 = .ok (.return_, 1) := by decide +kernel
theorem dX8_spend_0 : decode cX8_spend 0 = .ok (.aload_n 0, 1) := by decide +kernel
theorem dX8_spend_1 : decode cX8_spend 1 = .ok (.iconst 3, 1) := by decide +kernel
theorem dX8_spend_2 : decode cX8_spend 2 = .ok (.putfield 9, 3) := by decide +kernel
theorem dX8_spend_5 : decode cX8_spend 5 = .ok (.aload_n 0, 1) := by decide +kernel
theorem dX8_spend_6 : decode cX8_spend 6 = .ok (.aconst_null, 1) := by decide +kernel
theorem dX8_spend_7 : decode cX8_spend 7 = .ok (.putfield 15, 3) := by decide +kernel
theorem dX8_spend_10 : decode cX8_spend 10 = .ok (.aload_n 0, 1) := by decide +kernel
theorem dX8_spend_11 : decode cX8_spend 11 = .ok (.iconst 0, 1) := by decide +kernel
theorem dX8_spend_12 : decode cX8_spend 12 = .ok (.putfield 19, 3) := by decide +kernel
theorem dX8_spend_15 : decode cX8_spend 15 = .ok (.return_, 1) := by decide +kernel
theorem dX9_depthFor_0 : decode cX9_depthFor 0 = .ok (.iload_n 0, 1) := by decide +kernel
theorem dX9_depthFor_1 : decode cX9_depthFor 1 = .ok (.iconst 4, 1) := by decide +kernel
theorem dX9_depthFor_2 : decode cX9_depthFor 2 = .ok (.if_icmp .gt 7, 3) := by decide +kernel
theorem dX9_depthFor_5 : decode cX9_depthFor 5 = .ok (.iconst 1, 1) := by decide +kernel
theorem dX9_depthFor_6 : decode cX9_depthFor 6 = .ok (.goto 14, 3) := by decide +kernel
theorem dX9_depthFor_9 : decode cX9_depthFor 9 = .ok (.iload_n 0, 1) := by decide +kernel
theorem dX9_depthFor_10 : decode cX9_depthFor 10 = .ok (.bipush 16, 2) := by decide +kernel
theorem dX9_depthFor_12 : decode cX9_depthFor 12 = .ok (.if_icmp .gt 7, 3) := by decide +kernel
theorem dX9_depthFor_15 : decode cX9_depthFor 15 = .ok (.iconst 2, 1) := by decide +kernel
theorem dX9_depthFor_16 : decode cX9_depthFor 16 = .ok (.goto 4, 3) := by decide +kernel
theorem dX9_depthFor_19 : decode cX9_depthFor 19 = .ok (.iconst 3, 1) := by decide +kernel
theorem dX9_depthFor_20 : decode cX9_depthFor 20 = .ok (.ireturn, 1) := by decide +kernel
theorem dX9_placeAt_0 : decode cX9_placeAt 0 = .ok (.iload_n 1, 1) := by decide +kernel
theorem dX9_placeAt_1 : decode cX9_placeAt 1 = .ok (.iconst 2, 1) := by decide +kernel
theorem dX9_placeAt_2 : decode cX9_placeAt 2 = .ok (.iload_n 0, 1) := by decide +kernel
theorem dX9_placeAt_3 : decode cX9_placeAt 3 = .ok (.iconst 1, 1) := by decide +kernel
theorem dX9_placeAt_4 : decode cX9_placeAt 4 = .ok (.isub, 1) := by decide +kernel
theorem dX9_placeAt_5 : decode cX9_placeAt 5 = .ok (.imul, 1) := by decide +kernel
theorem dX9_placeAt_6 : decode cX9_placeAt 6 = .ok (.ishr, 1) := by decide +kernel
theorem dX9_placeAt_7 : decode cX9_placeAt 7 = .ok (.iconst 3, 1) := by decide +kernel
theorem dX9_placeAt_8 : decode cX9_placeAt 8 = .ok (.iand, 1) := by decide +kernel
theorem dX9_placeAt_9 : decode cX9_placeAt 9 = .ok (.ireturn, 1) := by decide +kernel
theorem dX9_elementIn_0 : decode cX9_elementIn 0 = .ok (.aload_n 0, 1) := by decide +kernel
theorem dX9_elementIn_1 : decode cX9_elementIn 1 = .ok (.astore_n 3, 1) := by decide +kernel
theorem dX9_elementIn_2 : decode cX9_elementIn 2 = .ok (.iload_n 1, 1) := by decide +kernel
theorem dX9_elementIn_3 : decode cX9_elementIn 3 = .ok (.invokestatic 9, 3) := by decide +kernel
theorem dX9_elementIn_6 : decode cX9_elementIn 6 = .ok (.istore 4, 2) := by decide +kernel
theorem dX9_elementIn_8 : decode cX9_elementIn 8 = .ok (.iload 4, 2) := by decide +kernel
theorem dX9_elementIn_10 : decode cX9_elementIn 10 = .ok (.iconst 1, 1) := by decide +kernel
theorem dX9_elementIn_11 : decode cX9_elementIn 11 = .ok (.if_icmp .le 24, 3) := by decide +kernel
theorem dX9_elementIn_14 : decode cX9_elementIn 14 = .ok (.aload_n 3, 1) := by decide +kernel
theorem dX9_elementIn_15 : decode cX9_elementIn 15 = .ok (.ifnull 20, 3) := by decide +kernel
theorem dX9_elementIn_18 : decode cX9_elementIn 18 = .ok (.aload_n 3, 1) := by decide +kernel
theorem dX9_elementIn_19 : decode cX9_elementIn 19 = .ok (.iload 4, 2) := by decide +kernel
theorem dX9_elementIn_21 : decode cX9_elementIn 21 = .ok (.iload_n 2, 1) := by decide +kernel
theorem dX9_elementIn_22 : decode cX9_elementIn 22 = .ok (.invokestatic 15, 3) := by decide +kernel
theorem dX9_elementIn_25 : decode cX9_elementIn 25 = .ok (.invokevirtual 19, 3) := by decide +kernel
theorem dX9_elementIn_28 : decode cX9_elementIn 28 = .ok (.astore_n 3, 1) := by decide +kernel
theorem dX9_elementIn_29 : decode cX9_elementIn 29 = .ok (.iinc 4 (-1), 3) := by decide +kernel
theorem dX9_elementIn_32 : decode cX9_elementIn 32 = .ok (.goto (-24), 3) := by decide +kernel
theorem dX9_elementIn_35 : decode cX9_elementIn 35 = .ok (.aload_n 3, 1) := by decide +kernel
theorem dX9_elementIn_36 : decode cX9_elementIn 36 = .ok (.ifnonnull 7, 3) := by decide +kernel
theorem dX9_elementIn_39 : decode cX9_elementIn 39 = .ok (.iconst 0, 1) := by decide +kernel
theorem dX9_elementIn_40 : decode cX9_elementIn 40 = .ok (.goto 12, 3) := by decide +kernel
theorem dX9_elementIn_43 : decode cX9_elementIn 43 = .ok (.aload_n 3, 1) := by decide +kernel
theorem dX9_elementIn_44 : decode cX9_elementIn 44 = .ok (.iconst 1, 1) := by decide +kernel
theorem dX9_elementIn_45 : decode cX9_elementIn 45 = .ok (.iload_n 2, 1) := by decide +kernel
theorem dX9_elementIn_46 : decode cX9_elementIn 46 = .ok (.invokestatic 15, 3) := by decide +kernel
theorem dX9_elementIn_49 : decode cX9_elementIn 49 = .ok (.invokevirtual 25, 3) := by decide +kernel
theorem dX9_elementIn_52 : decode cX9_elementIn 52 = .ok (.ireturn, 1) := by decide +kernel
theorem dX9_withOneMore_0 : decode cX9_withOneMore 0 = .ok (.iload_n 2, 1) := by decide +kernel
theorem dX9_withOneMore_1 : decode cX9_withOneMore 1 = .ok (.iconst 1, 1) := by decide +kernel
theorem dX9_withOneMore_2 : decode cX9_withOneMore 2 = .ok (.iadd, 1) := by decide +kernel
theorem dX9_withOneMore_3 : decode cX9_withOneMore 3 = .ok (.invokestatic 9, 3) := by decide +kernel
theorem dX9_withOneMore_6 : decode cX9_withOneMore 6 = .ok (.istore 5, 2) := by decide +kernel
theorem dX9_withOneMore_8 : decode cX9_withOneMore 8 = .ok (.iload 5, 2) := by decide +kernel
theorem dX9_withOneMore_10 : decode cX9_withOneMore 10 = .ok (.iload_n 2, 1) := by decide +kernel
theorem dX9_withOneMore_11 : decode cX9_withOneMore 11 = .ok (.invokestatic 9, 3) := by decide +kernel
theorem dX9_withOneMore_14 : decode cX9_withOneMore 14 = .ok (.if_icmp .le 21, 3) := by decide +kernel
theorem dX9_withOneMore_17 : decode cX9_withOneMore 17 = .ok (.aload_n 0, 1) := by decide +kernel
theorem dX9_withOneMore_18 : decode cX9_withOneMore 18 = .ok (.iload 4, 2) := by decide +kernel
theorem dX9_withOneMore_20 : decode cX9_withOneMore 20 = .ok (.invokevirtual 28, 3) := by decide +kernel
theorem dX9_withOneMore_23 : decode cX9_withOneMore 23 = .ok (.astore 6, 2) := by decide +kernel
theorem dX9_withOneMore_25 : decode cX9_withOneMore 25 = .ok (.aload 6, 2) := by decide +kernel
theorem dX9_withOneMore_27 : decode cX9_withOneMore 27 = .ok (.iconst 0, 1) := by decide +kernel
theorem dX9_withOneMore_28 : decode cX9_withOneMore 28 = .ok (.aload_n 1, 1) := by decide +kernel
theorem dX9_withOneMore_29 : decode cX9_withOneMore 29 = .ok (.invokevirtual 33, 3) := by decide +kernel
theorem dX9_withOneMore_32 : decode cX9_withOneMore 32 = .ok (.goto 12, 3) := by decide +kernel
theorem dX9_withOneMore_35 : decode cX9_withOneMore 35 = .ok (.aload_n 0, 1) := by decide +kernel
theorem dX9_withOneMore_36 : decode cX9_withOneMore 36 = .ok (.aload_n 1, 1) := by decide +kernel
theorem dX9_withOneMore_37 : decode cX9_withOneMore 37 = .ok (.iload 4, 2) := by decide +kernel
theorem dX9_withOneMore_39 : decode cX9_withOneMore 39 = .ok (.invokevirtual 37, 3) := by decide +kernel
theorem dX9_withOneMore_42 : decode cX9_withOneMore 42 = .ok (.astore 6, 2) := by decide +kernel
theorem dX9_withOneMore_44 : decode cX9_withOneMore 44 = .ok (.aload_n 0, 1) := by decide +kernel
theorem dX9_withOneMore_45 : decode cX9_withOneMore 45 = .ok (.aload 6, 2) := by decide +kernel
theorem dX9_withOneMore_47 : decode cX9_withOneMore 47 = .ok (.iload 5, 2) := by decide +kernel
theorem dX9_withOneMore_49 : decode cX9_withOneMore 49 = .ok (.iload_n 2, 1) := by decide +kernel
theorem dX9_withOneMore_50 : decode cX9_withOneMore 50 = .ok (.iload_n 3, 1) := by decide +kernel
theorem dX9_withOneMore_51 : decode cX9_withOneMore 51 = .ok (.iload 4, 2) := by decide +kernel
theorem dX9_withOneMore_53 : decode cX9_withOneMore 53 = .ok (.invokestatic 41, 3) := by decide +kernel
theorem dX9_withOneMore_56 : decode cX9_withOneMore 56 = .ok (.aload 6, 2) := by decide +kernel
theorem dX9_withOneMore_58 : decode cX9_withOneMore 58 = .ok (.areturn, 1) := by decide +kernel
theorem dX9_withOther_0 : decode cX9_withOther 0 = .ok (.aload_n 0, 1) := by decide +kernel
theorem dX9_withOther_1 : decode cX9_withOther 1 = .ok (.aload_n 1, 1) := by decide +kernel
theorem dX9_withOther_2 : decode cX9_withOther 2 = .ok (.iload 5, 2) := by decide +kernel
theorem dX9_withOther_4 : decode cX9_withOther 4 = .ok (.invokevirtual 37, 3) := by decide +kernel
theorem dX9_withOther_7 : decode cX9_withOther 7 = .ok (.astore 6, 2) := by decide +kernel
theorem dX9_withOther_9 : decode cX9_withOther 9 = .ok (.aload_n 0, 1) := by decide +kernel
theorem dX9_withOther_10 : decode cX9_withOther 10 = .ok (.aload 6, 2) := by decide +kernel
theorem dX9_withOther_12 : decode cX9_withOther 12 = .ok (.iload_n 2, 1) := by decide +kernel
theorem dX9_withOther_13 : decode cX9_withOther 13 = .ok (.invokestatic 9, 3) := by decide +kernel
theorem dX9_withOther_16 : decode cX9_withOther 16 = .ok (.iload_n 3, 1) := by decide +kernel
theorem dX9_withOther_17 : decode cX9_withOther 17 = .ok (.iload 4, 2) := by decide +kernel
theorem dX9_withOther_19 : decode cX9_withOther 19 = .ok (.iload 5, 2) := by decide +kernel
theorem dX9_withOther_21 : decode cX9_withOther 21 = .ok (.invokestatic 41, 3) := by decide +kernel
theorem dX9_withOther_24 : decode cX9_withOther 24 = .ok (.aload 6, 2) := by decide +kernel
theorem dX9_withOther_26 : decode cX9_withOther 26 = .ok (.areturn, 1) := by decide +kernel
theorem dX9_withOneLess_0 : decode cX9_withOneLess 0 = .ok (.iload_n 2, 1) := by decide +kernel
theorem dX9_withOneLess_1 : decode cX9_withOneLess 1 = .ok (.iconst 1, 1) := by decide +kernel
theorem dX9_withOneLess_2 : decode cX9_withOneLess 2 = .ok (.isub, 1) := by decide +kernel
theorem dX9_withOneLess_3 : decode cX9_withOneLess 3 = .ok (.istore_n 3, 1) := by decide +kernel
theorem dX9_withOneLess_4 : decode cX9_withOneLess 4 = .ok (.iload_n 3, 1) := by decide +kernel
theorem dX9_withOneLess_5 : decode cX9_withOneLess 5 = .ok (.invokestatic 9, 3) := by decide +kernel
theorem dX9_withOneLess_8 : decode cX9_withOneLess 8 = .ok (.iload_n 2, 1) := by decide +kernel
theorem dX9_withOneLess_9 : decode cX9_withOneLess 9 = .ok (.invokestatic 9, 3) := by decide +kernel
theorem dX9_withOneLess_12 : decode cX9_withOneLess 12 = .ok (.if_icmp .ge 9, 3) := by decide +kernel
theorem dX9_withOneLess_15 : decode cX9_withOneLess 15 = .ok (.aload_n 1, 1) := by decide +kernel
theorem dX9_withOneLess_16 : decode cX9_withOneLess 16 = .ok (.iconst 0, 1) := by decide +kernel
theorem dX9_withOneLess_17 : decode cX9_withOneLess 17 = .ok (.invokevirtual 19, 3) := by decide +kernel
theorem dX9_withOneLess_20 : decode cX9_withOneLess 20 = .ok (.areturn, 1) := by decide +kernel
theorem dX9_withOneLess_21 : decode cX9_withOneLess 21 = .ok (.aload_n 0, 1) := by decide +kernel
theorem dX9_withOneLess_22 : decode cX9_withOneLess 22 = .ok (.aload_n 1, 1) := by decide +kernel
theorem dX9_withOneLess_23 : decode cX9_withOneLess 23 = .ok (.iconst (-1), 1) := by decide +kernel
theorem dX9_withOneLess_24 : decode cX9_withOneLess 24 = .ok (.invokevirtual 45, 3) := by decide +kernel
theorem dX9_withOneLess_27 : decode cX9_withOneLess 27 = .ok (.astore 4, 2) := by decide +kernel
theorem dX9_withOneLess_29 : decode cX9_withOneLess 29 = .ok (.aload 4, 2) := by decide +kernel
theorem dX9_withOneLess_31 : decode cX9_withOneLess 31 = .ok (.astore 5, 2) := by decide +kernel
theorem dX9_withOneLess_33 : decode cX9_withOneLess 33 = .ok (.iload_n 2, 1) := by decide +kernel
theorem dX9_withOneLess_34 : decode cX9_withOneLess 34 = .ok (.invokestatic 9, 3) := by decide +kernel
theorem dX9_withOneLess_37 : decode cX9_withOneLess 37 = .ok (.istore 6, 2) := by decide +kernel
theorem dX9_withOneLess_39 : decode cX9_withOneLess 39 = .ok (.iload 6, 2) := by decide +kernel
theorem dX9_withOneLess_41 : decode cX9_withOneLess 41 = .ok (.iconst 1, 1) := by decide +kernel
theorem dX9_withOneLess_42 : decode cX9_withOneLess 42 = .ok (.if_icmp .le 55, 3) := by decide +kernel
theorem dX9_withOneLess_45 : decode cX9_withOneLess 45 = .ok (.iconst 1, 1) := by decide +kernel
theorem dX9_withOneLess_46 : decode cX9_withOneLess 46 = .ok (.iconst 2, 1) := by decide +kernel
theorem dX9_withOneLess_47 : decode cX9_withOneLess 47 = .ok (.iload 6, 2) := by decide +kernel
theorem dX9_withOneLess_49 : decode cX9_withOneLess 49 = .ok (.iconst 1, 1) := by decide +kernel
theorem dX9_withOneLess_50 : decode cX9_withOneLess 50 = .ok (.isub, 1) := by decide +kernel
theorem dX9_withOneLess_51 : decode cX9_withOneLess 51 = .ok (.imul, 1) := by decide +kernel
theorem dX9_withOneLess_52 : decode cX9_withOneLess 52 = .ok (.ishl, 1) := by decide +kernel
theorem dX9_withOneLess_53 : decode cX9_withOneLess 53 = .ok (.istore 7, 2) := by decide +kernel
theorem dX9_withOneLess_55 : decode cX9_withOneLess 55 = .ok (.iload_n 3, 1) := by decide +kernel
theorem dX9_withOneLess_56 : decode cX9_withOneLess 56 = .ok (.iload 7, 2) := by decide +kernel
theorem dX9_withOneLess_58 : decode cX9_withOneLess 58 = .ok (.iconst 1, 1) := by decide +kernel
theorem dX9_withOneLess_59 : decode cX9_withOneLess 59 = .ok (.isub, 1) := by decide +kernel
theorem dX9_withOneLess_60 : decode cX9_withOneLess 60 = .ok (.iand, 1) := by decide +kernel
theorem dX9_withOneLess_61 : decode cX9_withOneLess 61 = .ok (.ifCond .ne 18, 3) := by decide +kernel
theorem dX9_withOneLess_64 : decode cX9_withOneLess 64 = .ok (.aload 5, 2) := by decide +kernel
theorem dX9_withOneLess_66 : decode cX9_withOneLess 66 = .ok (.iload 6, 2) := by decide +kernel
theorem dX9_withOneLess_68 : decode cX9_withOneLess 68 = .ok (.iload_n 3, 1) := by decide +kernel
theorem dX9_withOneLess_69 : decode cX9_withOneLess 69 = .ok (.invokestatic 15, 3) := by decide +kernel
theorem dX9_withOneLess_72 : decode cX9_withOneLess 72 = .ok (.aconst_null, 1) := by decide +kernel
theorem dX9_withOneLess_73 : decode cX9_withOneLess 73 = .ok (.invokevirtual 33, 3) := by decide +kernel
theorem dX9_withOneLess_76 : decode cX9_withOneLess 76 = .ok (.aload 4, 2) := by decide +kernel
theorem dX9_withOneLess_78 : decode cX9_withOneLess 78 = .ok (.areturn, 1) := by decide +kernel
theorem dX9_withOneLess_79 : decode cX9_withOneLess 79 = .ok (.aload_n 0, 1) := by decide +kernel
theorem dX9_withOneLess_80 : decode cX9_withOneLess 80 = .ok (.aload 5, 2) := by decide +kernel
theorem dX9_withOneLess_82 : decode cX9_withOneLess 82 = .ok (.iload 6, 2) := by decide +kernel
theorem dX9_withOneLess_84 : decode cX9_withOneLess 84 = .ok (.iload_n 3, 1) := by decide +kernel
theorem dX9_withOneLess_85 : decode cX9_withOneLess 85 = .ok (.iconst (-1), 1) := by decide +kernel
theorem dX9_withOneLess_86 : decode cX9_withOneLess 86 = .ok (.invokestatic 48, 3) := by decide +kernel
theorem dX9_withOneLess_89 : decode cX9_withOneLess 89 = .ok (.astore 5, 2) := by decide +kernel
theorem dX9_withOneLess_91 : decode cX9_withOneLess 91 = .ok (.iinc 6 (-1), 3) := by decide +kernel
theorem dX9_withOneLess_94 : decode cX9_withOneLess 94 = .ok (.goto (-55), 3) := by decide +kernel
theorem dX9_withOneLess_97 : decode cX9_withOneLess 97 = .ok (.aload 5, 2) := by decide +kernel
theorem dX9_withOneLess_99 : decode cX9_withOneLess 99 = .ok (.iconst 1, 1) := by decide +kernel
theorem dX9_withOneLess_100 : decode cX9_withOneLess 100 = .ok (.iload_n 3, 1) := by decide +kernel
theorem dX9_withOneLess_101 : decode cX9_withOneLess 101 = .ok (.invokestatic 15, 3) := by decide +kernel
theorem dX9_withOneLess_104 : decode cX9_withOneLess 104 = .ok (.iconst 0, 1) := by decide +kernel
theorem dX9_withOneLess_105 : decode cX9_withOneLess 105 = .ok (.invokevirtual 52, 3) := by decide +kernel
theorem dX9_withOneLess_108 : decode cX9_withOneLess 108 = .ok (.aload 4, 2) := by decide +kernel
theorem dX9_withOneLess_110 : decode cX9_withOneLess 110 = .ok (.areturn, 1) := by decide +kernel
theorem dX9_putIn_0 : decode cX9_putIn 0 = .ok (.aload_n 1, 1) := by decide +kernel
theorem dX9_putIn_1 : decode cX9_putIn 1 = .ok (.astore 6, 2) := by decide +kernel
theorem dX9_putIn_3 : decode cX9_putIn 3 = .ok (.iload_n 2, 1) := by decide +kernel
theorem dX9_putIn_4 : decode cX9_putIn 4 = .ok (.istore 7, 2) := by decide +kernel
theorem dX9_putIn_6 : decode cX9_putIn 6 = .ok (.iload 7, 2) := by decide +kernel
theorem dX9_putIn_8 : decode cX9_putIn 8 = .ok (.iconst 1, 1) := by decide +kernel
theorem dX9_putIn_9 : decode cX9_putIn 9 = .ok (.if_icmp .le 22, 3) := by decide +kernel
theorem dX9_putIn_12 : decode cX9_putIn 12 = .ok (.aload_n 0, 1) := by decide +kernel
theorem dX9_putIn_13 : decode cX9_putIn 13 = .ok (.aload 6, 2) := by decide +kernel
theorem dX9_putIn_15 : decode cX9_putIn 15 = .ok (.iload 7, 2) := by decide +kernel
theorem dX9_putIn_17 : decode cX9_putIn 17 = .ok (.iload_n 3, 1) := by decide +kernel
theorem dX9_putIn_18 : decode cX9_putIn 18 = .ok (.iload 5, 2) := by decide +kernel
theorem dX9_putIn_20 : decode cX9_putIn 20 = .ok (.invokestatic 48, 3) := by decide +kernel
theorem dX9_putIn_23 : decode cX9_putIn 23 = .ok (.astore 6, 2) := by decide +kernel
theorem dX9_putIn_25 : decode cX9_putIn 25 = .ok (.iinc 7 (-1), 3) := by decide +kernel
theorem dX9_putIn_28 : decode cX9_putIn 28 = .ok (.goto (-22), 3) := by decide +kernel
theorem dX9_putIn_31 : decode cX9_putIn 31 = .ok (.aload 6, 2) := by decide +kernel
theorem dX9_putIn_33 : decode cX9_putIn 33 = .ok (.iconst 1, 1) := by decide +kernel
theorem dX9_putIn_34 : decode cX9_putIn 34 = .ok (.iload_n 3, 1) := by decide +kernel
theorem dX9_putIn_35 : decode cX9_putIn 35 = .ok (.invokestatic 15, 3) := by decide +kernel
theorem dX9_putIn_38 : decode cX9_putIn 38 = .ok (.iload 4, 2) := by decide +kernel
theorem dX9_putIn_40 : decode cX9_putIn 40 = .ok (.invokevirtual 52, 3) := by decide +kernel
theorem dX9_putIn_43 : decode cX9_putIn 43 = .ok (.return_, 1) := by decide +kernel
theorem dX9_changeableChild_0 : decode cX9_changeableChild 0 = .ok (.aload_n 1, 1) := by decide +kernel
theorem dX9_changeableChild_1 : decode cX9_changeableChild 1 = .ok (.iload_n 2, 1) := by decide +kernel
theorem dX9_changeableChild_2 : decode cX9_changeableChild 2 = .ok (.iload_n 3, 1) := by decide +kernel
theorem dX9_changeableChild_3 : decode cX9_changeableChild 3 = .ok (.invokestatic 15, 3) := by decide +kernel
theorem dX9_changeableChild_6 : decode cX9_changeableChild 6 = .ok (.invokevirtual 19, 3) := by decide +kernel
theorem dX9_changeableChild_9 : decode cX9_changeableChild 9 = .ok (.astore 5, 2) := by decide +kernel
theorem dX9_changeableChild_11 : decode cX9_changeableChild 11 = .ok (.aload 5, 2) := by decide +kernel
theorem dX9_changeableChild_13 : decode cX9_changeableChild 13 = .ok (.ifnull 16, 3) := by decide +kernel
theorem dX9_changeableChild_16 : decode cX9_changeableChild 16 = .ok (.aload_n 0, 1) := by decide +kernel
theorem dX9_changeableChild_17 : decode cX9_changeableChild 17 = .ok (.aload 5, 2) := by decide +kernel
theorem dX9_changeableChild_19 : decode cX9_changeableChild 19 = .ok (.iload 4, 2) := by decide +kernel
theorem dX9_changeableChild_21 : decode cX9_changeableChild 21 = .ok (.invokevirtual 37, 3) := by decide +kernel
theorem dX9_changeableChild_24 : decode cX9_changeableChild 24 = .ok (.astore 6, 2) := by decide +kernel
theorem dX9_changeableChild_26 : decode cX9_changeableChild 26 = .ok (.goto 25, 3) := by decide +kernel
theorem dX9_changeableChild_29 : decode cX9_changeableChild 29 = .ok (.iload_n 2, 1) := by decide +kernel
theorem dX9_changeableChild_30 : decode cX9_changeableChild 30 = .ok (.iconst 2, 1) := by decide +kernel
theorem dX9_changeableChild_31 : decode cX9_changeableChild 31 = .ok (.if_icmp .ne 12, 3) := by decide +kernel
theorem dX9_changeableChild_34 : decode cX9_changeableChild 34 = .ok (.aload_n 0, 1) := by decide +kernel
theorem dX9_changeableChild_35 : decode cX9_changeableChild 35 = .ok (.iload 4, 2) := by decide +kernel
theorem dX9_changeableChild_37 : decode cX9_changeableChild 37 = .ok (.invokevirtual 56, 3) := by decide +kernel
theorem dX9_changeableChild_40 : decode cX9_changeableChild 40 = .ok (.goto 9, 3) := by decide +kernel
theorem dX9_changeableChild_43 : decode cX9_changeableChild 43 = .ok (.aload_n 0, 1) := by decide +kernel
theorem dX9_changeableChild_44 : decode cX9_changeableChild 44 = .ok (.iload 4, 2) := by decide +kernel
theorem dX9_changeableChild_46 : decode cX9_changeableChild 46 = .ok (.invokevirtual 28, 3) := by decide +kernel
theorem dX9_changeableChild_49 : decode cX9_changeableChild 49 = .ok (.astore 6, 2) := by decide +kernel
theorem dX9_changeableChild_51 : decode cX9_changeableChild 51 = .ok (.aload_n 1, 1) := by decide +kernel
theorem dX9_changeableChild_52 : decode cX9_changeableChild 52 = .ok (.iload_n 2, 1) := by decide +kernel
theorem dX9_changeableChild_53 : decode cX9_changeableChild 53 = .ok (.iload_n 3, 1) := by decide +kernel
theorem dX9_changeableChild_54 : decode cX9_changeableChild 54 = .ok (.invokestatic 15, 3) := by decide +kernel
theorem dX9_changeableChild_57 : decode cX9_changeableChild 57 = .ok (.aload 6, 2) := by decide +kernel
theorem dX9_changeableChild_59 : decode cX9_changeableChild 59 = .ok (.invokevirtual 33, 3) := by decide +kernel
theorem dX9_changeableChild_62 : decode cX9_changeableChild 62 = .ok (.aload 6, 2) := by decide +kernel
theorem dX9_changeableChild_64 : decode cX9_changeableChild 64 = .ok (.areturn, 1) := by decide +kernel
theorem dX10_init_0 : decode cX10_init 0 = .ok (.aload_n 0, 1) := by decide +kernel
theorem dX10_init_1 : decode cX10_init 1 = .ok (.invokespecial 3, 3) := by decide +kernel
theorem dX10_init_4 : decode cX10_init 4 = .ok (.aload_n 0, 1) := by decide +kernel
theorem dX10_init_5 : decode cX10_init 5 = .ok (.bipush 12, 2) := by decide +kernel
theorem dX10_init_7 : decode cX10_init 7 = .ok (.newarray .int, 2) := by decide +kernel
theorem dX10_init_9 : decode cX10_init 9 = .ok (.putfield 9, 3) := by decide +kernel
theorem dX10_init_12 : decode cX10_init 12 = .ok (.aload_n 0, 1) := by decide +kernel
theorem dX10_init_13 : decode cX10_init 13 = .ok (.iconst 0, 1) := by decide +kernel
theorem dX10_init_14 : decode cX10_init 14 = .ok (.putfield 15, 3) := by decide +kernel
theorem dX10_init_17 : decode cX10_init 17 = .ok (.return_, 1) := by decide +kernel
theorem dX10_lineUp_0 : decode cX10_lineUp 0 = .ok (.aload_n 0, 1) := by decide +kernel
theorem dX10_lineUp_1 : decode cX10_lineUp 1 = .ok (.getfield 15, 3) := by decide +kernel
theorem dX10_lineUp_4 : decode cX10_lineUp 4 = .ok (.aload_n 0, 1) := by decide +kernel
theorem dX10_lineUp_5 : decode cX10_lineUp 5 = .ok (.getfield 9, 3) := by decide +kernel
theorem dX10_lineUp_8 : decode cX10_lineUp 8 = .ok (.arraylength, 1) := by decide +kernel
theorem dX10_lineUp_9 : decode cX10_lineUp 9 = .ok (.if_icmp .ge 23, 3) := by decide +kernel
theorem dX10_lineUp_12 : decode cX10_lineUp 12 = .ok (.aload_n 0, 1) := by decide +kernel
theorem dX10_lineUp_13 : decode cX10_lineUp 13 = .ok (.getfield 9, 3) := by decide +kernel
theorem dX10_lineUp_16 : decode cX10_lineUp 16 = .ok (.aload_n 0, 1) := by decide +kernel
theorem dX10_lineUp_17 : decode cX10_lineUp 17 = .ok (.getfield 15, 3) := by decide +kernel
theorem dX10_lineUp_20 : decode cX10_lineUp 20 = .ok (.iload_n 1, 1) := by decide +kernel
theorem dX10_lineUp_21 : decode cX10_lineUp 21 = .ok (.iastore, 1) := by decide +kernel
theorem dX10_lineUp_22 : decode cX10_lineUp 22 = .ok (.aload_n 0, 1) := by decide +kernel
theorem dX10_lineUp_23 : decode cX10_lineUp 23 = .ok (.dup, 1) := by decide +kernel
theorem dX10_lineUp_24 : decode cX10_lineUp 24 = .ok (.getfield 15, 3) := by decide +kernel
theorem dX10_lineUp_27 : decode cX10_lineUp 27 = .ok (.iconst 1, 1) := by decide +kernel
theorem dX10_lineUp_28 : decode cX10_lineUp 28 = .ok (.iadd, 1) := by decide +kernel
theorem dX10_lineUp_29 : decode cX10_lineUp 29 = .ok (.putfield 15, 3) := by decide +kernel
theorem dX10_lineUp_32 : decode cX10_lineUp 32 = .ok (.return_, 1) := by decide +kernel
theorem dX10_lineUpAll_0 : decode cX10_lineUpAll 0 = .ok (.iconst 0, 1) := by decide +kernel
theorem dX10_lineUpAll_1 : decode cX10_lineUpAll 1 = .ok (.istore_n 2, 1) := by decide +kernel
theorem dX10_lineUpAll_2 : decode cX10_lineUpAll 2 = .ok (.iload_n 2, 1) := by decide +kernel
theorem dX10_lineUpAll_3 : decode cX10_lineUpAll 3 = .ok (.aload_n 1, 1) := by decide +kernel
theorem dX10_lineUpAll_4 : decode cX10_lineUpAll 4 = .ok (.getfield 15, 3) := by decide +kernel
theorem dX10_lineUpAll_7 : decode cX10_lineUpAll 7 = .ok (.if_icmp .ge 28, 3) := by decide +kernel
theorem dX10_lineUpAll_10 : decode cX10_lineUpAll 10 = .ok (.iload_n 2, 1) := by decide +kernel
theorem dX10_lineUpAll_11 : decode cX10_lineUpAll 11 = .ok (.aload_n 1, 1) := by decide +kernel
theorem dX10_lineUpAll_12 : decode cX10_lineUpAll 12 = .ok (.getfield 9, 3) := by decide +kernel
theorem dX10_lineUpAll_15 : decode cX10_lineUpAll 15 = .ok (.arraylength, 1) := by decide +kernel
theorem dX10_lineUpAll_16 : decode cX10_lineUpAll 16 = .ok (.if_icmp .ge 19, 3) := by decide +kernel
theorem dX10_lineUpAll_19 : decode cX10_lineUpAll 19 = .ok (.aload_n 0, 1) := by decide +kernel
theorem dX10_lineUpAll_20 : decode cX10_lineUpAll 20 = .ok (.aload_n 1, 1) := by decide +kernel
theorem dX10_lineUpAll_21 : decode cX10_lineUpAll 21 = .ok (.getfield 9, 3) := by decide +kernel
theorem dX10_lineUpAll_24 : decode cX10_lineUpAll 24 = .ok (.iload_n 2, 1) := by decide +kernel
theorem dX10_lineUpAll_25 : decode cX10_lineUpAll 25 = .ok (.iaload, 1) := by decide +kernel
theorem dX10_lineUpAll_26 : decode cX10_lineUpAll 26 = .ok (.invokevirtual 19, 3) := by decide +kernel
theorem dX10_lineUpAll_29 : decode cX10_lineUpAll 29 = .ok (.iinc 2 1, 3) := by decide +kernel
theorem dX10_lineUpAll_32 : decode cX10_lineUpAll 32 = .ok (.goto (-30), 3) := by decide +kernel
theorem dX10_lineUpAll_35 : decode cX10_lineUpAll 35 = .ok (.return_, 1) := by decide +kernel
theorem dX10_takeFirst_0 : decode cX10_takeFirst 0 = .ok (.aload_n 0, 1) := by decide +kernel
theorem dX10_takeFirst_1 : decode cX10_takeFirst 1 = .ok (.getfield 9, 3) := by decide +kernel
theorem dX10_takeFirst_4 : decode cX10_takeFirst 4 = .ok (.iconst 0, 1) := by decide +kernel
theorem dX10_takeFirst_5 : decode cX10_takeFirst 5 = .ok (.iaload, 1) := by decide +kernel
theorem dX10_takeFirst_6 : decode cX10_takeFirst 6 = .ok (.istore_n 1, 1) := by decide +kernel
theorem dX10_takeFirst_7 : decode cX10_takeFirst 7 = .ok (.iconst 1, 1) := by decide +kernel
theorem dX10_takeFirst_8 : decode cX10_takeFirst 8 = .ok (.istore_n 2, 1) := by decide +kernel
theorem dX10_takeFirst_9 : decode cX10_takeFirst 9 = .ok (.iload_n 2, 1) := by decide +kernel
theorem dX10_takeFirst_10 : decode cX10_takeFirst 10 = .ok (.aload_n 0, 1) := by decide +kernel
theorem dX10_takeFirst_11 : decode cX10_takeFirst 11 = .ok (.getfield 15, 3) := by decide +kernel
theorem dX10_takeFirst_14 : decode cX10_takeFirst 14 = .ok (.if_icmp .ge 32, 3) := by decide +kernel
theorem dX10_takeFirst_17 : decode cX10_takeFirst 17 = .ok (.iload_n 2, 1) := by decide +kernel
theorem dX10_takeFirst_18 : decode cX10_takeFirst 18 = .ok (.aload_n 0, 1) := by decide +kernel
theorem dX10_takeFirst_19 : decode cX10_takeFirst 19 = .ok (.getfield 9, 3) := by decide +kernel
theorem dX10_takeFirst_22 : decode cX10_takeFirst 22 = .ok (.arraylength, 1) := by decide +kernel
theorem dX10_takeFirst_23 : decode cX10_takeFirst 23 = .ok (.if_icmp .ge 23, 3) := by decide +kernel
theorem dX10_takeFirst_26 : decode cX10_takeFirst 26 = .ok (.aload_n 0, 1) := by decide +kernel
theorem dX10_takeFirst_27 : decode cX10_takeFirst 27 = .ok (.getfield 9, 3) := by decide +kernel
theorem dX10_takeFirst_30 : decode cX10_takeFirst 30 = .ok (.iload_n 2, 1) := by decide +kernel
theorem dX10_takeFirst_31 : decode cX10_takeFirst 31 = .ok (.iconst 1, 1) := by decide +kernel
theorem dX10_takeFirst_32 : decode cX10_takeFirst 32 = .ok (.isub, 1) := by decide +kernel
theorem dX10_takeFirst_33 : decode cX10_takeFirst 33 = .ok (.aload_n 0, 1) := by decide +kernel
theorem dX10_takeFirst_34 : decode cX10_takeFirst 34 = .ok (.getfield 9, 3) := by decide +kernel
theorem dX10_takeFirst_37 : decode cX10_takeFirst 37 = .ok (.iload_n 2, 1) := by decide +kernel
theorem dX10_takeFirst_38 : decode cX10_takeFirst 38 = .ok (.iaload, 1) := by decide +kernel
theorem dX10_takeFirst_39 : decode cX10_takeFirst 39 = .ok (.iastore, 1) := by decide +kernel
theorem dX10_takeFirst_40 : decode cX10_takeFirst 40 = .ok (.iinc 2 1, 3) := by decide +kernel
theorem dX10_takeFirst_43 : decode cX10_takeFirst 43 = .ok (.goto (-34), 3) := by decide +kernel
theorem dX10_takeFirst_46 : decode cX10_takeFirst 46 = .ok (.aload_n 0, 1) := by decide +kernel
theorem dX10_takeFirst_47 : decode cX10_takeFirst 47 = .ok (.aload_n 0, 1) := by decide +kernel
theorem dX10_takeFirst_48 : decode cX10_takeFirst 48 = .ok (.getfield 15, 3) := by decide +kernel
theorem dX10_takeFirst_51 : decode cX10_takeFirst 51 = .ok (.iconst 1, 1) := by decide +kernel
theorem dX10_takeFirst_52 : decode cX10_takeFirst 52 = .ok (.isub, 1) := by decide +kernel
theorem dX10_takeFirst_53 : decode cX10_takeFirst 53 = .ok (.iconst 0, 1) := by decide +kernel
theorem dX10_takeFirst_54 : decode cX10_takeFirst 54 = .ok (.invokestatic 23, 3) := by decide +kernel
theorem dX10_takeFirst_57 : decode cX10_takeFirst 57 = .ok (.putfield 15, 3) := by decide +kernel
theorem dX10_takeFirst_60 : decode cX10_takeFirst 60 = .ok (.iload_n 1, 1) := by decide +kernel
theorem dX10_takeFirst_61 : decode cX10_takeFirst 61 = .ok (.ireturn, 1) := by decide +kernel
theorem dX11_init_0 : decode cX11_init 0 = .ok (.aload_n 0, 1) := by decide +kernel
theorem dX11_init_1 : decode cX11_init 1 = .ok (.invokespecial 1, 3) := by decide +kernel
theorem dX11_init_4 : decode cX11_init 4 = .ok (.aload_n 0, 1) := by decide +kernel
theorem dX11_init_5 : decode cX11_init 5 = .ok (.bipush 60, 2) := by decide +kernel
theorem dX11_init_7 : decode cX11_init 7 = .ok (.anewarray 9, 3) := by decide +kernel
theorem dX11_init_10 : decode cX11_init 10 = .ok (.putfield 11, 3) := by decide +kernel
theorem dX11_init_13 : decode cX11_init 13 = .ok (.aload_n 0, 1) := by decide +kernel
theorem dX11_init_14 : decode cX11_init 14 = .ok (.iconst 0, 1) := by decide +kernel
theorem dX11_init_15 : decode cX11_init 15 = .ok (.putfield 15, 3) := by decide +kernel
theorem dX11_init_18 : decode cX11_init 18 = .ok (.aload_n 0, 1) := by decide +kernel
theorem dX11_init_19 : decode cX11_init 19 = .ok (.new 19, 3) := by decide +kernel
theorem dX11_init_22 : decode cX11_init 22 = .ok (.dup, 1) := by decide +kernel
theorem dX11_init_23 : decode cX11_init 23 = .ok (.invokespecial 21, 3) := by decide +kernel
theorem dX11_init_26 : decode cX11_init 26 = .ok (.putfield 22, 3) := by decide +kernel
theorem dX11_init_29 : decode cX11_init 29 = .ok (.aload_n 0, 1) := by decide +kernel
theorem dX11_init_30 : decode cX11_init 30 = .ok (.iconst 0, 1) := by decide +kernel
theorem dX11_init_31 : decode cX11_init 31 = .ok (.putfield 26, 3) := by decide +kernel
theorem dX11_init_34 : decode cX11_init 34 = .ok (.aload_n 0, 1) := by decide +kernel
theorem dX11_init_35 : decode cX11_init 35 = .ok (.bipush 12, 2) := by decide +kernel
theorem dX11_init_37 : decode cX11_init 37 = .ok (.anewarray 29, 3) := by decide +kernel
theorem dX11_init_40 : decode cX11_init 40 = .ok (.putfield 31, 3) := by decide +kernel
theorem dX11_init_43 : decode cX11_init 43 = .ok (.aload_n 0, 1) := by decide +kernel
theorem dX11_init_44 : decode cX11_init 44 = .ok (.iconst 0, 1) := by decide +kernel
theorem dX11_init_45 : decode cX11_init 45 = .ok (.putfield 35, 3) := by decide +kernel
theorem dX11_init_48 : decode cX11_init 48 = .ok (.aload_n 0, 1) := by decide +kernel
theorem dX11_init_49 : decode cX11_init 49 = .ok (.bipush 6, 2) := by decide +kernel
theorem dX11_init_51 : decode cX11_init 51 = .ok (.anewarray 38, 3) := by decide +kernel
theorem dX11_init_54 : decode cX11_init 54 = .ok (.putfield 40, 3) := by decide +kernel
theorem dX11_init_57 : decode cX11_init 57 = .ok (.aload_n 0, 1) := by decide +kernel
theorem dX11_init_58 : decode cX11_init 58 = .ok (.iconst 0, 1) := by decide +kernel
theorem dX11_init_59 : decode cX11_init 59 = .ok (.putfield 44, 3) := by decide +kernel
theorem dX11_init_62 : decode cX11_init 62 = .ok (.aload_n 0, 1) := by decide +kernel
theorem dX11_init_63 : decode cX11_init 63 = .ok (.iconst 3, 1) := by decide +kernel
theorem dX11_init_64 : decode cX11_init 64 = .ok (.anewarray 47, 3) := by decide +kernel
theorem dX11_init_67 : decode cX11_init 67 = .ok (.putfield 49, 3) := by decide +kernel
theorem dX11_init_70 : decode cX11_init 70 = .ok (.aload_n 0, 1) := by decide +kernel
theorem dX11_init_71 : decode cX11_init 71 = .ok (.iconst 0, 1) := by decide +kernel
theorem dX11_init_72 : decode cX11_init 72 = .ok (.putfield 53, 3) := by decide +kernel
theorem dX11_init_75 : decode cX11_init 75 = .ok (.aload_n 0, 1) := by decide +kernel
theorem dX11_init_76 : decode cX11_init 76 = .ok (.iconst 0, 1) := by decide +kernel
theorem dX11_init_77 : decode cX11_init 77 = .ok (.putfield 56, 3) := by decide +kernel
theorem dX11_init_80 : decode cX11_init 80 = .ok (.aload_n 0, 1) := by decide +kernel
theorem dX11_init_81 : decode cX11_init 81 = .ok (.new 59, 3) := by decide +kernel
theorem dX11_init_84 : decode cX11_init 84 = .ok (.dup, 1) := by decide +kernel
theorem dX11_init_85 : decode cX11_init 85 = .ok (.invokespecial 61, 3) := by decide +kernel
theorem dX11_init_88 : decode cX11_init 88 = .ok (.putfield 62, 3) := by decide +kernel
theorem dX11_init_91 : decode cX11_init 91 = .ok (.aload_n 0, 1) := by decide +kernel
theorem dX11_init_92 : decode cX11_init 92 = .ok (.iconst 4, 1) := by decide +kernel
theorem dX11_init_93 : decode cX11_init 93 = .ok (.anewarray 66, 3) := by decide +kernel
theorem dX11_init_96 : decode cX11_init 96 = .ok (.putfield 68, 3) := by decide +kernel
theorem dX11_init_99 : decode cX11_init 99 = .ok (.aload_n 0, 1) := by decide +kernel
theorem dX11_init_100 : decode cX11_init 100 = .ok (.iconst 0, 1) := by decide +kernel
theorem dX11_init_101 : decode cX11_init 101 = .ok (.putfield 72, 3) := by decide +kernel
theorem dX11_init_104 : decode cX11_init 104 = .ok (.iconst 0, 1) := by decide +kernel
theorem dX11_init_105 : decode cX11_init 105 = .ok (.istore_n 1, 1) := by decide +kernel
theorem dX11_init_106 : decode cX11_init 106 = .ok (.iload_n 1, 1) := by decide +kernel
theorem dX11_init_107 : decode cX11_init 107 = .ok (.iconst 3, 1) := by decide +kernel
theorem dX11_init_108 : decode cX11_init 108 = .ok (.if_icmp .ge 22, 3) := by decide +kernel
theorem dX11_init_111 : decode cX11_init 111 = .ok (.aload_n 0, 1) := by decide +kernel
theorem dX11_init_112 : decode cX11_init 112 = .ok (.getfield 49, 3) := by decide +kernel
theorem dX11_init_115 : decode cX11_init 115 = .ok (.iload_n 1, 1) := by decide +kernel
theorem dX11_init_116 : decode cX11_init 116 = .ok (.new 47, 3) := by decide +kernel
theorem dX11_init_119 : decode cX11_init 119 = .ok (.dup, 1) := by decide +kernel
theorem dX11_init_120 : decode cX11_init 120 = .ok (.invokespecial 75, 3) := by decide +kernel
theorem dX11_init_123 : decode cX11_init 123 = .ok (.aastore, 1) := by decide +kernel
theorem dX11_init_124 : decode cX11_init 124 = .ok (.iinc 1 1, 3) := by decide +kernel
theorem dX11_init_127 : decode cX11_init 127 = .ok (.goto (-21), 3) := by decide +kernel
theorem dX11_init_130 : decode cX11_init 130 = .ok (.return_, 1) := by decide +kernel
theorem dX11_vector_0 : decode cX11_vector 0 = .ok (.aload_n 0, 1) := by decide +kernel
theorem dX11_vector_1 : decode cX11_vector 1 = .ok (.invokevirtual 76, 3) := by decide +kernel
theorem dX11_vector_4 : decode cX11_vector 4 = .ok (.aload_n 0, 1) := by decide +kernel
theorem dX11_vector_5 : decode cX11_vector 5 = .ok (.aload_n 0, 1) := by decide +kernel
theorem dX11_vector_6 : decode cX11_vector 6 = .ok (.getfield 22, 3) := by decide +kernel
theorem dX11_vector_9 : decode cX11_vector 9 = .ok (.iconst (-1), 1) := by decide +kernel
theorem dX11_vector_10 : decode cX11_vector 10 = .ok (.invokevirtual 79, 3) := by decide +kernel
theorem dX11_vector_13 : decode cX11_vector 13 = .ok (.iconst 0, 1) := by decide +kernel
theorem dX11_vector_14 : decode cX11_vector 14 = .ok (.iconst 0, 1) := by decide +kernel
theorem dX11_vector_15 : decode cX11_vector 15 = .ok (.newarray .int, 2) := by decide +kernel
theorem dX11_vector_17 : decode cX11_vector 17 = .ok (.invokevirtual 83, 3) := by decide +kernel
theorem dX11_vector_20 : decode cX11_vector 20 = .ok (.ireturn, 1) := by decide +kernel
theorem dX11_append_0 : decode cX11_append 0 = .ok (.aload_n 0, 1) := by decide +kernel
theorem dX11_append_1 : decode cX11_append 1 = .ok (.iload_n 1, 1) := by decide +kernel
theorem dX11_append_2 : decode cX11_append 2 = .ok (.invokevirtual 87, 3) := by decide +kernel
theorem dX11_append_5 : decode cX11_append 5 = .ok (.astore_n 3, 1) := by decide +kernel
theorem dX11_append_6 : decode cX11_append 6 = .ok (.iload_n 2, 1) := by decide +kernel
theorem dX11_append_7 : decode cX11_append 7 = .ok (.invokestatic 91, 3) := by decide +kernel
theorem dX11_append_10 : decode cX11_append 10 = .ok (.aload_n 3, 1) := by decide +kernel
theorem dX11_append_11 : decode cX11_append 11 = .ok (.iconst 0, 1) := by decide +kernel
theorem dX11_append_12 : decode cX11_append 12 = .ok (.invokestatic 95, 3) := by decide +kernel
theorem dX11_append_15 : decode cX11_append 15 = .ok (.aload_n 3, 1) := by decide +kernel
theorem dX11_append_16 : decode cX11_append 16 = .ok (.invokestatic 99, 3) := by decide +kernel
theorem dX11_append_19 : decode cX11_append 19 = .ok (.aload_n 0, 1) := by decide +kernel
theorem dX11_append_20 : decode cX11_append 20 = .ok (.invokevirtual 76, 3) := by decide +kernel
theorem dX11_append_23 : decode cX11_append 23 = .ok (.aload_n 3, 1) := by decide +kernel
theorem dX11_append_24 : decode cX11_append 24 = .ok (.getfield 103, 3) := by decide +kernel
theorem dX11_append_27 : decode cX11_append 27 = .ok (.istore 4, 2) := by decide +kernel
theorem dX11_append_29 : decode cX11_append 29 = .ok (.aload_n 3, 1) := by decide +kernel
theorem dX11_append_30 : decode cX11_append 30 = .ok (.getfield 106, 3) := by decide +kernel
theorem dX11_append_33 : decode cX11_append 33 = .ok (.iload 4, 2) := by decide +kernel
theorem dX11_append_35 : decode cX11_append 35 = .ok (.iconst 1, 1) := by decide +kernel
theorem dX11_append_36 : decode cX11_append 36 = .ok (.iadd, 1) := by decide +kernel
theorem dX11_append_37 : decode cX11_append 37 = .ok (.invokestatic 110, 3) := by decide +kernel
theorem dX11_append_40 : decode cX11_append 40 = .ok (.astore 5, 2) := by decide +kernel
theorem dX11_append_42 : decode cX11_append 42 = .ok (.aload 5, 2) := by decide +kernel
theorem dX11_append_44 : decode cX11_append 44 = .ok (.iload 4, 2) := by decide +kernel
theorem dX11_append_46 : decode cX11_append 46 = .ok (.iload_n 2, 1) := by decide +kernel
theorem dX11_append_47 : decode cX11_append 47 = .ok (.iastore, 1) := by decide +kernel
theorem dX11_append_48 : decode cX11_append 48 = .ok (.aload_n 0, 1) := by decide +kernel
theorem dX11_append_49 : decode cX11_append 49 = .ok (.aload_n 0, 1) := by decide +kernel
theorem dX11_append_50 : decode cX11_append 50 = .ok (.getfield 22, 3) := by decide +kernel
theorem dX11_append_53 : decode cX11_append 53 = .ok (.aload_n 3, 1) := by decide +kernel
theorem dX11_append_54 : decode cX11_append 54 = .ok (.getfield 116, 3) := by decide +kernel
theorem dX11_append_57 : decode cX11_append 57 = .ok (.iload 4, 2) := by decide +kernel
theorem dX11_append_59 : decode cX11_append 59 = .ok (.iload_n 2, 1) := by decide +kernel
theorem dX11_append_60 : decode cX11_append 60 = .ok (.iconst (-1), 1) := by decide +kernel
theorem dX11_append_61 : decode cX11_append 61 = .ok (.invokestatic 120, 3) := by decide +kernel
theorem dX11_append_64 : decode cX11_append 64 = .ok (.iload 4, 2) := by decide +kernel
theorem dX11_append_66 : decode cX11_append 66 = .ok (.iconst 1, 1) := by decide +kernel
theorem dX11_append_67 : decode cX11_append 67 = .ok (.iadd, 1) := by decide +kernel
theorem dX11_append_68 : decode cX11_append 68 = .ok (.aload 5, 2) := by decide +kernel
theorem dX11_append_70 : decode cX11_append 70 = .ok (.invokevirtual 83, 3) := by decide +kernel
theorem dX11_append_73 : decode cX11_append 73 = .ok (.ireturn, 1) := by decide +kernel
theorem dX11_set_0 : decode cX11_set 0 = .ok (.aload_n 0, 1) := by decide +kernel
theorem dX11_set_1 : decode cX11_set 1 = .ok (.iload_n 1, 1) := by decide +kernel
theorem dX11_set_2 : decode cX11_set 2 = .ok (.invokevirtual 87, 3) := by decide +kernel
theorem dX11_set_5 : decode cX11_set 5 = .ok (.astore 4, 2) := by decide +kernel
theorem dX11_set_7 : decode cX11_set 7 = .ok (.iload_n 3, 1) := by decide +kernel
theorem dX11_set_8 : decode cX11_set 8 = .ok (.invokestatic 91, 3) := by decide +kernel
theorem dX11_set_11 : decode cX11_set 11 = .ok (.aload 4, 2) := by decide +kernel
theorem dX11_set_13 : decode cX11_set 13 = .ok (.iconst 0, 1) := by decide +kernel
theorem dX11_set_14 : decode cX11_set 14 = .ok (.invokestatic 95, 3) := by decide +kernel
theorem dX11_set_17 : decode cX11_set 17 = .ok (.aload 4, 2) := by decide +kernel
theorem dX11_set_19 : decode cX11_set 19 = .ok (.iload_n 2, 1) := by decide +kernel
theorem dX11_set_20 : decode cX11_set 20 = .ok (.invokestatic 126, 3) := by decide +kernel
theorem dX11_set_23 : decode cX11_set 23 = .ok (.aload_n 0, 1) := by decide +kernel
theorem dX11_set_24 : decode cX11_set 24 = .ok (.invokevirtual 76, 3) := by decide +kernel
theorem dX11_set_27 : decode cX11_set 27 = .ok (.aload 4, 2) := by decide +kernel
theorem dX11_set_29 : decode cX11_set 29 = .ok (.getfield 103, 3) := by decide +kernel
theorem dX11_set_32 : decode cX11_set 32 = .ok (.istore 5, 2) := by decide +kernel
theorem dX11_set_34 : decode cX11_set 34 = .ok (.aload 4, 2) := by decide +kernel
theorem dX11_set_36 : decode cX11_set 36 = .ok (.getfield 116, 3) := by decide +kernel
theorem dX11_set_39 : decode cX11_set 39 = .ok (.iload 5, 2) := by decide +kernel
theorem dX11_set_41 : decode cX11_set 41 = .ok (.iload_n 2, 1) := by decide +kernel
theorem dX11_set_42 : decode cX11_set 42 = .ok (.invokestatic 129, 3) := by decide +kernel
theorem dX11_set_45 : decode cX11_set 45 = .ok (.iload_n 3, 1) := by decide +kernel
theorem dX11_set_46 : decode cX11_set 46 = .ok (.if_icmp .ne 20, 3) := by decide +kernel
theorem dX11_set_49 : decode cX11_set 49 = .ok (.aload_n 0, 1) := by decide +kernel
theorem dX11_set_50 : decode cX11_set 50 = .ok (.aload 4, 2) := by decide +kernel
theorem dX11_set_52 : decode cX11_set 52 = .ok (.getfield 116, 3) := by decide +kernel
theorem dX11_set_55 : decode cX11_set 55 = .ok (.iload 5, 2) := by decide +kernel
theorem dX11_set_57 : decode cX11_set 57 = .ok (.aload 4, 2) := by decide +kernel
theorem dX11_set_59 : decode cX11_set 59 = .ok (.getfield 106, 3) := by decide +kernel
theorem dX11_set_62 : decode cX11_set 62 = .ok (.invokevirtual 83, 3) := by decide +kernel
theorem dX11_set_65 : decode cX11_set 65 = .ok (.ireturn, 1) := by decide +kernel
theorem dX11_set_66 : decode cX11_set 66 = .ok (.aload 4, 2) := by decide +kernel
theorem dX11_set_68 : decode cX11_set 68 = .ok (.getfield 106, 3) := by decide +kernel
theorem dX11_set_71 : decode cX11_set 71 = .ok (.iload 5, 2) := by decide +kernel
theorem dX11_set_73 : decode cX11_set 73 = .ok (.invokestatic 110, 3) := by decide +kernel
theorem dX11_set_76 : decode cX11_set 76 = .ok (.astore 6, 2) := by decide +kernel
theorem dX11_set_78 : decode cX11_set 78 = .ok (.aload 6, 2) := by decide +kernel
theorem dX11_set_80 : decode cX11_set 80 = .ok (.iload_n 2, 1) := by decide +kernel
theorem dX11_set_81 : decode cX11_set 81 = .ok (.iload_n 3, 1) := by decide +kernel
theorem dX11_set_82 : decode cX11_set 82 = .ok (.iastore, 1) := by decide +kernel
theorem dX11_set_83 : decode cX11_set 83 = .ok (.aload_n 0, 1) := by decide +kernel
theorem dX11_set_84 : decode cX11_set 84 = .ok (.aload_n 0, 1) := by decide +kernel
theorem dX11_set_85 : decode cX11_set 85 = .ok (.getfield 22, 3) := by decide +kernel
theorem dX11_set_88 : decode cX11_set 88 = .ok (.aload 4, 2) := by decide +kernel
theorem dX11_set_90 : decode cX11_set 90 = .ok (.getfield 116, 3) := by decide +kernel
theorem dX11_set_93 : decode cX11_set 93 = .ok (.iload 5, 2) := by decide +kernel
theorem dX11_set_95 : decode cX11_set 95 = .ok (.iload_n 2, 1) := by decide +kernel
theorem dX11_set_96 : decode cX11_set 96 = .ok (.iload_n 3, 1) := by decide +kernel
theorem dX11_set_97 : decode cX11_set 97 = .ok (.iconst (-1), 1) := by decide +kernel
theorem dX11_set_98 : decode cX11_set 98 = .ok (.invokestatic 133, 3) := by decide +kernel
theorem dX11_set_101 : decode cX11_set 101 = .ok (.iload 5, 2) := by decide +kernel
theorem dX11_set_103 : decode cX11_set 103 = .ok (.aload 6, 2) := by decide +kernel
theorem dX11_set_105 : decode cX11_set 105 = .ok (.invokevirtual 83, 3) := by decide +kernel
theorem dX11_set_108 : decode cX11_set 108 = .ok (.ireturn, 1) := by decide +kernel
theorem dX11_cut_0 : decode cX11_cut 0 = .ok (.aload_n 0, 1) := by decide +kernel
theorem dX11_cut_1 : decode cX11_cut 1 = .ok (.iload_n 1, 1) := by decide +kernel
theorem dX11_cut_2 : decode cX11_cut 2 = .ok (.invokevirtual 87, 3) := by decide +kernel
theorem dX11_cut_5 : decode cX11_cut 5 = .ok (.astore_n 2, 1) := by decide +kernel
theorem dX11_cut_6 : decode cX11_cut 6 = .ok (.aload_n 2, 1) := by decide +kernel
theorem dX11_cut_7 : decode cX11_cut 7 = .ok (.iconst 0, 1) := by decide +kernel
theorem dX11_cut_8 : decode cX11_cut 8 = .ok (.invokestatic 95, 3) := by decide +kernel
theorem dX11_cut_11 : decode cX11_cut 11 = .ok (.aload_n 2, 1) := by decide +kernel
theorem dX11_cut_12 : decode cX11_cut 12 = .ok (.getfield 103, 3) := by decide +kernel
theorem dX11_cut_15 : decode cX11_cut 15 = .ok (.iconst 1, 1) := by decide +kernel
theorem dX11_cut_16 : decode cX11_cut 16 = .ok (.isub, 1) := by decide +kernel
theorem dX11_cut_17 : decode cX11_cut 17 = .ok (.istore_n 3, 1) := by decide +kernel
theorem dX11_cut_18 : decode cX11_cut 18 = .ok (.iload_n 3, 1) := by decide +kernel
theorem dX11_cut_19 : decode cX11_cut 19 = .ok (.ifCond .ge 13, 3) := by decide +kernel
theorem dX11_cut_22 : decode cX11_cut 22 = .ok (.new 137, 3) := by decide +kernel
theorem dX11_cut_25 : decode cX11_cut 25 = .ok (.dup, 1) := by decide +kernel
theorem dX11_cut_26 : decode cX11_cut 26 = .ok (.ldc 139, 2) := by decide +kernel
theorem dX11_cut_28 : decode cX11_cut 28 = .ok (.invokespecial 141, 3) := by decide +kernel
theorem dX11_cut_31 : decode cX11_cut 31 = .ok (.athrow, 1) := by decide +kernel
theorem dX11_cut_32 : decode cX11_cut 32 = .ok (.aload_n 0, 1) := by decide +kernel
theorem dX11_cut_33 : decode cX11_cut 33 = .ok (.invokevirtual 76, 3) := by decide +kernel
theorem dX11_cut_36 : decode cX11_cut 36 = .ok (.aload_n 0, 1) := by decide +kernel
theorem dX11_cut_37 : decode cX11_cut 37 = .ok (.aload_n 0, 1) := by decide +kernel
theorem dX11_cut_38 : decode cX11_cut 38 = .ok (.getfield 22, 3) := by decide +kernel
theorem dX11_cut_41 : decode cX11_cut 41 = .ok (.aload_n 2, 1) := by decide +kernel
theorem dX11_cut_42 : decode cX11_cut 42 = .ok (.getfield 116, 3) := by decide +kernel
theorem dX11_cut_45 : decode cX11_cut 45 = .ok (.aload_n 2, 1) := by decide +kernel
theorem dX11_cut_46 : decode cX11_cut 46 = .ok (.getfield 103, 3) := by decide +kernel
theorem dX11_cut_49 : decode cX11_cut 49 = .ok (.invokestatic 144, 3) := by decide +kernel
theorem dX11_cut_52 : decode cX11_cut 52 = .ok (.iload_n 3, 1) := by decide +kernel
theorem dX11_cut_53 : decode cX11_cut 53 = .ok (.aload_n 2, 1) := by decide +kernel
theorem dX11_cut_54 : decode cX11_cut 54 = .ok (.getfield 106, 3) := by decide +kernel
theorem dX11_cut_57 : decode cX11_cut 57 = .ok (.iload_n 3, 1) := by decide +kernel
theorem dX11_cut_58 : decode cX11_cut 58 = .ok (.invokestatic 110, 3) := by decide +kernel
theorem dX11_cut_61 : decode cX11_cut 61 = .ok (.invokevirtual 83, 3) := by decide +kernel
theorem dX11_cut_64 : decode cX11_cut 64 = .ok (.ireturn, 1) := by decide +kernel
theorem dX11_depth_0 : decode cX11_depth 0 = .ok (.aload_n 0, 1) := by decide +kernel
theorem dX11_depth_1 : decode cX11_depth 1 = .ok (.iload_n 1, 1) := by decide +kernel
theorem dX11_depth_2 : decode cX11_depth 2 = .ok (.invokevirtual 87, 3) := by decide +kernel
theorem dX11_depth_5 : decode cX11_depth 5 = .ok (.astore_n 2, 1) := by decide +kernel
theorem dX11_depth_6 : decode cX11_depth 6 = .ok (.aload_n 2, 1) := by decide +kernel
theorem dX11_depth_7 : decode cX11_depth 7 = .ok (.invokevirtual 148, 3) := by decide +kernel
theorem dX11_depth_10 : decode cX11_depth 10 = .ok (.ifCond .ne 13, 3) := by decide +kernel
theorem dX11_depth_13 : decode cX11_depth 13 = .ok (.new 152, 3) := by decide +kernel
theorem dX11_depth_16 : decode cX11_depth 16 = .ok (.dup, 1) := by decide +kernel
theorem dX11_depth_17 : decode cX11_depth 17 = .ok (.ldc 154, 2) := by decide +kernel
theorem dX11_depth_19 : decode cX11_depth 19 = .ok (.invokespecial 156, 3) := by decide +kernel
theorem dX11_depth_22 : decode cX11_depth 22 = .ok (.athrow, 1) := by decide +kernel
theorem dX11_depth_23 : decode cX11_depth 23 = .ok (.aload_n 2, 1) := by decide +kernel
theorem dX11_depth_24 : decode cX11_depth 24 = .ok (.getfield 103, 3) := by decide +kernel
theorem dX11_depth_27 : decode cX11_depth 27 = .ok (.invokestatic 157, 3) := by decide +kernel
theorem dX11_depth_30 : decode cX11_depth 30 = .ok (.ireturn, 1) := by decide +kernel
theorem dX11_open_0 : decode cX11_open 0 = .ok (.aload_n 0, 1) := by decide +kernel
theorem dX11_open_1 : decode cX11_open 1 = .ok (.iload_n 1, 1) := by decide +kernel
theorem dX11_open_2 : decode cX11_open 2 = .ok (.invokevirtual 87, 3) := by decide +kernel
theorem dX11_open_5 : decode cX11_open 5 = .ok (.astore_n 2, 1) := by decide +kernel
theorem dX11_open_6 : decode cX11_open 6 = .ok (.aload_n 2, 1) := by decide +kernel
theorem dX11_open_7 : decode cX11_open 7 = .ok (.iconst 0, 1) := by decide +kernel
theorem dX11_open_8 : decode cX11_open 8 = .ok (.invokestatic 95, 3) := by decide +kernel
theorem dX11_open_11 : decode cX11_open 11 = .ok (.aload_n 0, 1) := by decide +kernel
theorem dX11_open_12 : decode cX11_open 12 = .ok (.invokevirtual 76, 3) := by decide +kernel
theorem dX11_open_15 : decode cX11_open 15 = .ok (.aload_n 2, 1) := by decide +kernel
theorem dX11_open_16 : decode cX11_open 16 = .ok (.getfield 106, 3) := by decide +kernel
theorem dX11_open_19 : decode cX11_open 19 = .ok (.bipush 64, 2) := by decide +kernel
theorem dX11_open_21 : decode cX11_open 21 = .ok (.invokestatic 110, 3) := by decide +kernel
theorem dX11_open_24 : decode cX11_open 24 = .ok (.astore_n 3, 1) := by decide +kernel
theorem dX11_open_25 : decode cX11_open 25 = .ok (.aload_n 0, 1) := by decide +kernel
theorem dX11_open_26 : decode cX11_open 26 = .ok (.new 9, 3) := by decide +kernel
theorem dX11_open_29 : decode cX11_open 29 = .ok (.dup, 1) := by decide +kernel
theorem dX11_open_30 : decode cX11_open 30 = .ok (.iconst 1, 1) := by decide +kernel
theorem dX11_open_31 : decode cX11_open 31 = .ok (.aload_n 2, 1) := by decide +kernel
theorem dX11_open_32 : decode cX11_open 32 = .ok (.getfield 116, 3) := by decide +kernel
theorem dX11_open_35 : decode cX11_open 35 = .ok (.aload_n 2, 1) := by decide +kernel
theorem dX11_open_36 : decode cX11_open 36 = .ok (.getfield 103, 3) := by decide +kernel
theorem dX11_open_39 : decode cX11_open 39 = .ok (.aconst_null, 1) := by decide +kernel
theorem dX11_open_40 : decode cX11_open 40 = .ok (.aload_n 3, 1) := by decide +kernel
theorem dX11_open_41 : decode cX11_open 41 = .ok (.invokespecial 161, 3) := by decide +kernel
theorem dX11_open_44 : decode cX11_open 44 = .ok (.invokevirtual 164, 3) := by decide +kernel
theorem dX11_open_47 : decode cX11_open 47 = .ok (.ireturn, 1) := by decide +kernel
theorem dX11_appendTo_0 : decode cX11_appendTo 0 = .ok (.aload_n 0, 1) := by decide +kernel
theorem dX11_appendTo_1 : decode cX11_appendTo 1 = .ok (.iload_n 1, 1) := by decide +kernel
theorem dX11_appendTo_2 : decode cX11_appendTo 2 = .ok (.invokevirtual 87, 3) := by decide +kernel
theorem dX11_appendTo_5 : decode cX11_appendTo 5 = .ok (.astore_n 3, 1) := by decide +kernel
theorem dX11_appendTo_6 : decode cX11_appendTo 6 = .ok (.iload_n 2, 1) := by decide +kernel
theorem dX11_appendTo_7 : decode cX11_appendTo 7 = .ok (.invokestatic 91, 3) := by decide +kernel
theorem dX11_appendTo_10 : decode cX11_appendTo 10 = .ok (.aload_n 3, 1) := by decide +kernel
theorem dX11_appendTo_11 : decode cX11_appendTo 11 = .ok (.iconst 1, 1) := by decide +kernel
theorem dX11_appendTo_12 : decode cX11_appendTo 12 = .ok (.invokestatic 95, 3) := by decide +kernel
theorem dX11_appendTo_15 : decode cX11_appendTo 15 = .ok (.aload_n 3, 1) := by decide +kernel
theorem dX11_appendTo_16 : decode cX11_appendTo 16 = .ok (.invokestatic 99, 3) := by decide +kernel
theorem dX11_appendTo_19 : decode cX11_appendTo 19 = .ok (.aload_n 0, 1) := by decide +kernel
theorem dX11_appendTo_20 : decode cX11_appendTo 20 = .ok (.getfield 22, 3) := by decide +kernel
theorem dX11_appendTo_23 : decode cX11_appendTo 23 = .ok (.getfield 168, 3) := by decide +kernel
theorem dX11_appendTo_26 : decode cX11_appendTo 26 = .ok (.lstore 4, 2) := by decide +kernel
theorem dX11_appendTo_28 : decode cX11_appendTo 28 = .ok (.aload_n 3, 1) := by decide +kernel
theorem dX11_appendTo_29 : decode cX11_appendTo 29 = .ok (.getfield 103, 3) := by decide +kernel
theorem dX11_appendTo_32 : decode cX11_appendTo 32 = .ok (.istore 6, 2) := by decide +kernel
theorem dX11_appendTo_34 : decode cX11_appendTo 34 = .ok (.aload_n 3, 1) := by decide +kernel
theorem dX11_appendTo_35 : decode cX11_appendTo 35 = .ok (.aload_n 0, 1) := by decide +kernel
theorem dX11_appendTo_36 : decode cX11_appendTo 36 = .ok (.getfield 22, 3) := by decide +kernel
theorem dX11_appendTo_39 : decode cX11_appendTo 39 = .ok (.aload_n 3, 1) := by decide +kernel
theorem dX11_appendTo_40 : decode cX11_appendTo 40 = .ok (.getfield 116, 3) := by decide +kernel
theorem dX11_appendTo_43 : decode cX11_appendTo 43 = .ok (.iload 6, 2) := by decide +kernel
theorem dX11_appendTo_45 : decode cX11_appendTo 45 = .ok (.iload_n 2, 1) := by decide +kernel
theorem dX11_appendTo_46 : decode cX11_appendTo 46 = .ok (.iload_n 1, 1) := by decide +kernel
theorem dX11_appendTo_47 : decode cX11_appendTo 47 = .ok (.invokestatic 120, 3) := by decide +kernel
theorem dX11_appendTo_50 : decode cX11_appendTo 50 = .ok (.putfield 116, 3) := by decide +kernel
theorem dX11_appendTo_53 : decode cX11_appendTo 53 = .ok (.aload_n 3, 1) := by decide +kernel
theorem dX11_appendTo_54 : decode cX11_appendTo 54 = .ok (.iload 6, 2) := by decide +kernel
theorem dX11_appendTo_56 : decode cX11_appendTo 56 = .ok (.iload_n 2, 1) := by decide +kernel
theorem dX11_appendTo_57 : decode cX11_appendTo 57 = .ok (.invokevirtual 172, 3) := by decide +kernel
theorem dX11_appendTo_60 : decode cX11_appendTo 60 = .ok (.aload_n 3, 1) := by decide +kernel
theorem dX11_appendTo_61 : decode cX11_appendTo 61 = .ok (.iload 6, 2) := by decide +kernel
theorem dX11_appendTo_63 : decode cX11_appendTo 63 = .ok (.iconst 1, 1) := by decide +kernel
theorem dX11_appendTo_64 : decode cX11_appendTo 64 = .ok (.iadd, 1) := by decide +kernel
theorem dX11_appendTo_65 : decode cX11_appendTo 65 = .ok (.putfield 103, 3) := by decide +kernel
theorem dX11_appendTo_68 : decode cX11_appendTo 68 = .ok (.aload_n 0, 1) := by decide +kernel
theorem dX11_appendTo_69 : decode cX11_appendTo 69 = .ok (.getfield 22, 3) := by decide +kernel
theorem dX11_appendTo_72 : decode cX11_appendTo 72 = .ok (.getfield 168, 3) := by decide +kernel
theorem dX11_appendTo_75 : decode cX11_appendTo 75 = .ok (.lload 4, 2) := by decide +kernel
theorem dX11_appendTo_77 : decode cX11_appendTo 77 = .ok (.lsub, 1) := by decide +kernel
theorem dX11_appendTo_78 : decode cX11_appendTo 78 = .ok (.l2i, 1) := by decide +kernel
theorem dX11_appendTo_79 : decode cX11_appendTo 79 = .ok (.ireturn, 1) := by decide +kernel
theorem dX11_setIn_0 : decode cX11_setIn 0 = .ok (.aload_n 0, 1) := by decide +kernel
theorem dX11_setIn_1 : decode cX11_setIn 1 = .ok (.iload_n 1, 1) := by decide +kernel
theorem dX11_setIn_2 : decode cX11_setIn 2 = .ok (.invokevirtual 87, 3) := by decide +kernel
theorem dX11_setIn_5 : decode cX11_setIn 5 = .ok (.astore 4, 2) := by decide +kernel
theorem dX11_setIn_7 : decode cX11_setIn 7 = .ok (.iload_n 3, 1) := by decide +kernel
theorem dX11_setIn_8 : decode cX11_setIn 8 = .ok (.invokestatic 91, 3) := by decide +kernel
theorem dX11_setIn_11 : decode cX11_setIn 11 = .ok (.aload 4, 2) := by decide +kernel
theorem dX11_setIn_13 : decode cX11_setIn 13 = .ok (.iconst 1, 1) := by decide +kernel
theorem dX11_setIn_14 : decode cX11_setIn 14 = .ok (.invokestatic 95, 3) := by decide +kernel
theorem dX11_setIn_17 : decode cX11_setIn 17 = .ok (.aload 4, 2) := by decide +kernel
theorem dX11_setIn_19 : decode cX11_setIn 19 = .ok (.iload_n 2, 1) := by decide +kernel
theorem dX11_setIn_20 : decode cX11_setIn 20 = .ok (.invokestatic 126, 3) := by decide +kernel
theorem dX11_setIn_23 : decode cX11_setIn 23 = .ok (.aload 4, 2) := by decide +kernel
theorem dX11_setIn_25 : decode cX11_setIn 25 = .ok (.getfield 116, 3) := by decide +kernel
theorem dX11_setIn_28 : decode cX11_setIn 28 = .ok (.aload 4, 2) := by decide +kernel
theorem dX11_setIn_30 : decode cX11_setIn 30 = .ok (.getfield 103, 3) := by decide +kernel
theorem dX11_setIn_33 : decode cX11_setIn 33 = .ok (.iload_n 2, 1) := by decide +kernel
theorem dX11_setIn_34 : decode cX11_setIn 34 = .ok (.invokestatic 129, 3) := by decide +kernel
theorem dX11_setIn_37 : decode cX11_setIn 37 = .ok (.iload_n 3, 1) := by decide +kernel
theorem dX11_setIn_38 : decode cX11_setIn 38 = .ok (.if_icmp .ne 5, 3) := by decide +kernel
theorem dX11_setIn_41 : decode cX11_setIn 41 = .ok (.iconst 0, 1) := by decide +kernel
theorem dX11_setIn_42 : decode cX11_setIn 42 = .ok (.ireturn, 1) := by decide +kernel
theorem dX11_setIn_43 : decode cX11_setIn 43 = .ok (.aload_n 0, 1) := by decide +kernel
theorem dX11_setIn_44 : decode cX11_setIn 44 = .ok (.getfield 22, 3) := by decide +kernel
theorem dX11_setIn_47 : decode cX11_setIn 47 = .ok (.getfield 168, 3) := by decide +kernel
theorem dX11_setIn_50 : decode cX11_setIn 50 = .ok (.lstore 5, 2) := by decide +kernel
theorem dX11_setIn_52 : decode cX11_setIn 52 = .ok (.aload 4, 2) := by decide +kernel
theorem dX11_setIn_54 : decode cX11_setIn 54 = .ok (.aload_n 0, 1) := by decide +kernel
theorem dX11_setIn_55 : decode cX11_setIn 55 = .ok (.getfield 22, 3) := by decide +kernel
theorem dX11_setIn_58 : decode cX11_setIn 58 = .ok (.aload 4, 2) := by decide +kernel
theorem dX11_setIn_60 : decode cX11_setIn 60 = .ok (.getfield 116, 3) := by decide +kernel
theorem dX11_setIn_63 : decode cX11_setIn 63 = .ok (.aload 4, 2) := by decide +kernel
theorem dX11_setIn_65 : decode cX11_setIn 65 = .ok (.getfield 103, 3) := by decide +kernel
theorem dX11_setIn_68 : decode cX11_setIn 68 = .ok (.iload_n 2, 1) := by decide +kernel
theorem dX11_setIn_69 : decode cX11_setIn 69 = .ok (.iload_n 3, 1) := by decide +kernel
theorem dX11_setIn_70 : decode cX11_setIn 70 = .ok (.iload_n 1, 1) := by decide +kernel
theorem dX11_setIn_71 : decode cX11_setIn 71 = .ok (.invokestatic 133, 3) := by decide +kernel
theorem dX11_setIn_74 : decode cX11_setIn 74 = .ok (.putfield 116, 3) := by decide +kernel
theorem dX11_setIn_77 : decode cX11_setIn 77 = .ok (.aload 4, 2) := by decide +kernel
theorem dX11_setIn_79 : decode cX11_setIn 79 = .ok (.iload_n 2, 1) := by decide +kernel
theorem dX11_setIn_80 : decode cX11_setIn 80 = .ok (.iload_n 3, 1) := by decide +kernel
theorem dX11_setIn_81 : decode cX11_setIn 81 = .ok (.invokevirtual 172, 3) := by decide +kernel
theorem dX11_setIn_84 : decode cX11_setIn 84 = .ok (.aload_n 0, 1) := by decide +kernel
theorem dX11_setIn_85 : decode cX11_setIn 85 = .ok (.getfield 22, 3) := by decide +kernel
theorem dX11_setIn_88 : decode cX11_setIn 88 = .ok (.getfield 168, 3) := by decide +kernel
theorem dX11_setIn_91 : decode cX11_setIn 91 = .ok (.lload 5, 2) := by decide +kernel
theorem dX11_setIn_93 : decode cX11_setIn 93 = .ok (.lsub, 1) := by decide +kernel
theorem dX11_setIn_94 : decode cX11_setIn 94 = .ok (.l2i, 1) := by decide +kernel
theorem dX11_setIn_95 : decode cX11_setIn 95 = .ok (.ireturn, 1) := by decide +kernel
theorem dX11_makeLasting_0 : decode cX11_makeLasting 0 = .ok (.aload_n 0, 1) := by decide +kernel
theorem dX11_makeLasting_1 : decode cX11_makeLasting 1 = .ok (.iload_n 1, 1) := by decide +kernel
theorem dX11_makeLasting_2 : decode cX11_makeLasting 2 = .ok (.invokevirtual 87, 3) := by decide +kernel
theorem dX11_makeLasting_5 : decode cX11_makeLasting 5 = .ok (.astore_n 2, 1) := by decide +kernel
theorem dX11_makeLasting_6 : decode cX11_makeLasting 6 = .ok (.aload_n 2, 1) := by decide +kernel
theorem dX11_makeLasting_7 : decode cX11_makeLasting 7 = .ok (.iconst 1, 1) := by decide +kernel
theorem dX11_makeLasting_8 : decode cX11_makeLasting 8 = .ok (.invokestatic 95, 3) := by decide +kernel
theorem dX11_makeLasting_11 : decode cX11_makeLasting 11 = .ok (.aload_n 0, 1) := by decide +kernel
theorem dX11_makeLasting_12 : decode cX11_makeLasting 12 = .ok (.invokevirtual 76, 3) := by decide +kernel
theorem dX11_makeLasting_15 : decode cX11_makeLasting 15 = .ok (.aload_n 0, 1) := by decide +kernel
theorem dX11_makeLasting_16 : decode cX11_makeLasting 16 = .ok (.aload_n 2, 1) := by decide +kernel
theorem dX11_makeLasting_17 : decode cX11_makeLasting 17 = .ok (.getfield 116, 3) := by decide +kernel
theorem dX11_makeLasting_20 : decode cX11_makeLasting 20 = .ok (.aload_n 2, 1) := by decide +kernel
theorem dX11_makeLasting_21 : decode cX11_makeLasting 21 = .ok (.getfield 103, 3) := by decide +kernel
theorem dX11_makeLasting_24 : decode cX11_makeLasting 24 = .ok (.aload_n 2, 1) := by decide +kernel
theorem dX11_makeLasting_25 : decode cX11_makeLasting 25 = .ok (.getfield 106, 3) := by decide +kernel
theorem dX11_makeLasting_28 : decode cX11_makeLasting 28 = .ok (.aload_n 2, 1) := by decide +kernel
theorem dX11_makeLasting_29 : decode cX11_makeLasting 29 = .ok (.getfield 103, 3) := by decide +kernel
theorem dX11_makeLasting_32 : decode cX11_makeLasting 32 = .ok (.invokestatic 110, 3) := by decide +kernel
theorem dX11_makeLasting_35 : decode cX11_makeLasting 35 = .ok (.invokevirtual 83, 3) := by decide +kernel
theorem dX11_makeLasting_38 : decode cX11_makeLasting 38 = .ok (.istore_n 3, 1) := by decide +kernel
theorem dX11_makeLasting_39 : decode cX11_makeLasting 39 = .ok (.aload_n 2, 1) := by decide +kernel
theorem dX11_makeLasting_40 : decode cX11_makeLasting 40 = .ok (.invokevirtual 176, 3) := by decide +kernel
theorem dX11_makeLasting_43 : decode cX11_makeLasting 43 = .ok (.iload_n 3, 1) := by decide +kernel
theorem dX11_makeLasting_44 : decode cX11_makeLasting 44 = .ok (.ireturn, 1) := by decide +kernel
theorem dX11_isOpen_0 : decode cX11_isOpen 0 = .ok (.aload_n 0, 1) := by decide +kernel
theorem dX11_isOpen_1 : decode cX11_isOpen 1 = .ok (.iload_n 1, 1) := by decide +kernel
theorem dX11_isOpen_2 : decode cX11_isOpen 2 = .ok (.invokevirtual 87, 3) := by decide +kernel
theorem dX11_isOpen_5 : decode cX11_isOpen 5 = .ok (.getfield 179, 3) := by decide +kernel
theorem dX11_isOpen_8 : decode cX11_isOpen 8 = .ok (.iconst 1, 1) := by decide +kernel
theorem dX11_isOpen_9 : decode cX11_isOpen 9 = .ok (.if_icmp .ne 7, 3) := by decide +kernel
theorem dX11_isOpen_12 : decode cX11_isOpen 12 = .ok (.iconst 1, 1) := by decide +kernel
theorem dX11_isOpen_13 : decode cX11_isOpen 13 = .ok (.goto 4, 3) := by decide +kernel
theorem dX11_isOpen_16 : decode cX11_isOpen 16 = .ok (.iconst 0, 1) := by decide +kernel
theorem dX11_isOpen_17 : decode cX11_isOpen 17 = .ok (.ireturn, 1) := by decide +kernel
theorem dX11_map_0 : decode cX11_map 0 = .ok (.aload_n 0, 1) := by decide +kernel
theorem dX11_map_1 : decode cX11_map 1 = .ok (.invokevirtual 76, 3) := by decide +kernel
theorem dX11_map_4 : decode cX11_map 4 = .ok (.aload_n 0, 1) := by decide +kernel
theorem dX11_map_5 : decode cX11_map 5 = .ok (.aload_n 0, 1) := by decide +kernel
theorem dX11_map_6 : decode cX11_map 6 = .ok (.getfield 22, 3) := by decide +kernel
theorem dX11_map_9 : decode cX11_map 9 = .ok (.iconst 0, 1) := by decide +kernel
theorem dX11_map_10 : decode cX11_map 10 = .ok (.invokevirtual 182, 3) := by decide +kernel
theorem dX11_map_13 : decode cX11_map 13 = .ok (.iconst 0, 1) := by decide +kernel
theorem dX11_map_14 : decode cX11_map 14 = .ok (.iconst 0, 1) := by decide +kernel
theorem dX11_map_15 : decode cX11_map 15 = .ok (.newarray .int, 2) := by decide +kernel
theorem dX11_map_17 : decode cX11_map 17 = .ok (.iconst 0, 1) := by decide +kernel
theorem dX11_map_18 : decode cX11_map 18 = .ok (.newarray .int, 2) := by decide +kernel
theorem dX11_map_20 : decode cX11_map 20 = .ok (.invokevirtual 185, 3) := by decide +kernel
theorem dX11_map_23 : decode cX11_map 23 = .ok (.ireturn, 1) := by decide +kernel
theorem dX11_put_0 : decode cX11_put 0 = .ok (.aload_n 0, 1) := by decide +kernel
theorem dX11_put_1 : decode cX11_put 1 = .ok (.iload_n 1, 1) := by decide +kernel
theorem dX11_put_2 : decode cX11_put 2 = .ok (.invokevirtual 87, 3) := by decide +kernel
theorem dX11_put_5 : decode cX11_put 5 = .ok (.astore 4, 2) := by decide +kernel
theorem dX11_put_7 : decode cX11_put 7 = .ok (.iload_n 2, 1) := by decide +kernel
theorem dX11_put_8 : decode cX11_put 8 = .ok (.ifCond .lt 10, 3) := by decide +kernel
theorem dX11_put_11 : decode cX11_put 11 = .ok (.iload_n 2, 1) := by decide +kernel
theorem dX11_put_12 : decode cX11_put 12 = .ok (.sipush 999, 3) := by decide +kernel
theorem dX11_put_15 : decode cX11_put 15 = .ok (.if_icmp .le 13, 3) := by decide +kernel
theorem dX11_put_18 : decode cX11_put 18 = .ok (.new 189, 3) := by decide +kernel
theorem dX11_put_21 : decode cX11_put 21 = .ok (.dup, 1) := by decide +kernel
theorem dX11_put_22 : decode cX11_put 22 = .ok (.ldc 191, 2) := by decide +kernel
theorem dX11_put_24 : decode cX11_put 24 = .ok (.invokespecial 193, 3) := by decide +kernel
theorem dX11_put_27 : decode cX11_put 27 = .ok (.athrow, 1) := by decide +kernel
theorem dX11_put_28 : decode cX11_put 28 = .ok (.iload_n 3, 1) := by decide +kernel
theorem dX11_put_29 : decode cX11_put 29 = .ok (.invokestatic 91, 3) := by decide +kernel
theorem dX11_put_32 : decode cX11_put 32 = .ok (.aload 4, 2) := by decide +kernel
theorem dX11_put_34 : decode cX11_put 34 = .ok (.iconst 2, 1) := by decide +kernel
theorem dX11_put_35 : decode cX11_put 35 = .ok (.invokestatic 95, 3) := by decide +kernel
theorem dX11_put_38 : decode cX11_put 38 = .ok (.aload 4, 2) := by decide +kernel
theorem dX11_put_40 : decode cX11_put 40 = .ok (.getfield 116, 3) := by decide +kernel
theorem dX11_put_43 : decode cX11_put 43 = .ok (.iload_n 2, 1) := by decide +kernel
theorem dX11_put_44 : decode cX11_put 44 = .ok (.invokestatic 194, 3) := by decide +kernel
theorem dX11_put_47 : decode cX11_put 47 = .ok (.astore 5, 2) := by decide +kernel
theorem dX11_put_49 : decode cX11_put 49 = .ok (.aload 5, 2) := by decide +kernel
theorem dX11_put_51 : decode cX11_put 51 = .ok (.ifnonnull 23, 3) := by decide +kernel
theorem dX11_put_54 : decode cX11_put 54 = .ok (.aload 4, 2) := by decide +kernel
theorem dX11_put_56 : decode cX11_put 56 = .ok (.getfield 103, 3) := by decide +kernel
theorem dX11_put_59 : decode cX11_put 59 = .ok (.bipush 40, 2) := by decide +kernel
theorem dX11_put_61 : decode cX11_put 61 = .ok (.if_icmp .lt 13, 3) := by decide +kernel
theorem dX11_put_64 : decode cX11_put 64 = .ok (.new 152, 3) := by decide +kernel
theorem dX11_put_67 : decode cX11_put 67 = .ok (.dup, 1) := by decide +kernel
theorem dX11_put_68 : decode cX11_put 68 = .ok (.ldc 200, 2) := by decide +kernel
theorem dX11_put_70 : decode cX11_put 70 = .ok (.invokespecial 156, 3) := by decide +kernel
theorem dX11_put_73 : decode cX11_put 73 = .ok (.athrow, 1) := by decide +kernel
theorem dX11_put_74 : decode cX11_put 74 = .ok (.aload_n 0, 1) := by decide +kernel
theorem dX11_put_75 : decode cX11_put 75 = .ok (.invokevirtual 76, 3) := by decide +kernel
theorem dX11_put_78 : decode cX11_put 78 = .ok (.aload 5, 2) := by decide +kernel
theorem dX11_put_80 : decode cX11_put 80 = .ok (.ifnull 43, 3) := by decide +kernel
theorem dX11_put_83 : decode cX11_put 83 = .ok (.aload 5, 2) := by decide +kernel
theorem dX11_put_85 : decode cX11_put 85 = .ok (.aload 5, 2) := by decide +kernel
theorem dX11_put_87 : decode cX11_put 87 = .ok (.iload_n 2, 1) := by decide +kernel
theorem dX11_put_88 : decode cX11_put 88 = .ok (.invokevirtual 202, 3) := by decide +kernel
theorem dX11_put_91 : decode cX11_put 91 = .ok (.invokevirtual 207, 3) := by decide +kernel
theorem dX11_put_94 : decode cX11_put 94 = .ok (.iload_n 3, 1) := by decide +kernel
theorem dX11_put_95 : decode cX11_put 95 = .ok (.if_icmp .ne 28, 3) := by decide +kernel
theorem dX11_put_98 : decode cX11_put 98 = .ok (.aload_n 0, 1) := by decide +kernel
theorem dX11_put_99 : decode cX11_put 99 = .ok (.aload 4, 2) := by decide +kernel
theorem dX11_put_101 : decode cX11_put 101 = .ok (.getfield 116, 3) := by decide +kernel
theorem dX11_put_104 : decode cX11_put 104 = .ok (.aload 4, 2) := by decide +kernel
theorem dX11_put_106 : decode cX11_put 106 = .ok (.getfield 103, 3) := by decide +kernel
theorem dX11_put_109 : decode cX11_put 109 = .ok (.aload 4, 2) := by decide +kernel
theorem dX11_put_111 : decode cX11_put 111 = .ok (.getfield 210, 3) := by decide +kernel
theorem dX11_put_114 : decode cX11_put 114 = .ok (.aload 4, 2) := by decide +kernel
theorem dX11_put_116 : decode cX11_put 116 = .ok (.getfield 106, 3) := by decide +kernel
theorem dX11_put_119 : decode cX11_put 119 = .ok (.invokevirtual 185, 3) := by decide +kernel
theorem dX11_put_122 : decode cX11_put 122 = .ok (.ireturn, 1) := by decide +kernel
theorem dX11_put_123 : decode cX11_put 123 = .ok (.aload 5, 2) := by decide +kernel
theorem dX11_put_125 : decode cX11_put 125 = .ok (.ifnonnull 11, 3) := by decide +kernel
theorem dX11_put_128 : decode cX11_put 128 = .ok (.aload 4, 2) := by decide +kernel
theorem dX11_put_130 : decode cX11_put 130 = .ok (.getfield 103, 3) := by decide +kernel
theorem dX11_put_133 : decode cX11_put 133 = .ok (.goto 9, 3) := by decide +kernel
theorem dX11_put_136 : decode cX11_put 136 = .ok (.aload 4, 2) := by decide +kernel
theorem dX11_put_138 : decode cX11_put 138 = .ok (.iload_n 2, 1) := by decide +kernel
theorem dX11_put_139 : decode cX11_put 139 = .ok (.invokevirtual 213, 3) := by decide +kernel
theorem dX11_put_142 : decode cX11_put 142 = .ok (.istore 6, 2) := by decide +kernel
theorem dX11_put_144 : decode cX11_put 144 = .ok (.aload 5, 2) := by decide +kernel
theorem dX11_put_146 : decode cX11_put 146 = .ok (.ifnonnull 13, 3) := by decide +kernel
theorem dX11_put_149 : decode cX11_put 149 = .ok (.aload 4, 2) := by decide +kernel
theorem dX11_put_151 : decode cX11_put 151 = .ok (.getfield 103, 3) := by decide +kernel
theorem dX11_put_154 : decode cX11_put 154 = .ok (.iconst 1, 1) := by decide +kernel
theorem dX11_put_155 : decode cX11_put 155 = .ok (.iadd, 1) := by decide +kernel
theorem dX11_put_156 : decode cX11_put 156 = .ok (.goto 8, 3) := by decide +kernel
theorem dX11_put_159 : decode cX11_put 159 = .ok (.aload 4, 2) := by decide +kernel
theorem dX11_put_161 : decode cX11_put 161 = .ok (.getfield 103, 3) := by decide +kernel
theorem dX11_put_164 : decode cX11_put 164 = .ok (.istore 7, 2) := by decide +kernel
theorem dX11_put_166 : decode cX11_put 166 = .ok (.new 9, 3) := by decide +kernel
theorem dX11_put_169 : decode cX11_put 169 = .ok (.dup, 1) := by decide +kernel
theorem dX11_put_170 : decode cX11_put 170 = .ok (.iconst 2, 1) := by decide +kernel
theorem dX11_put_171 : decode cX11_put 171 = .ok (.aload_n 0, 1) := by decide +kernel
theorem dX11_put_172 : decode cX11_put 172 = .ok (.getfield 22, 3) := by decide +kernel
theorem dX11_put_175 : decode cX11_put 175 = .ok (.aload 4, 2) := by decide +kernel
theorem dX11_put_177 : decode cX11_put 177 = .ok (.getfield 116, 3) := by decide +kernel
theorem dX11_put_180 : decode cX11_put 180 = .ok (.iload_n 2, 1) := by decide +kernel
theorem dX11_put_181 : decode cX11_put 181 = .ok (.iload_n 3, 1) := by decide +kernel
theorem dX11_put_182 : decode cX11_put 182 = .ok (.invokestatic 216, 3) := by decide +kernel
theorem dX11_put_185 : decode cX11_put 185 = .ok (.iload 7, 2) := by decide +kernel
theorem dX11_put_187 : decode cX11_put 187 = .ok (.aload 4, 2) := by decide +kernel
theorem dX11_put_189 : decode cX11_put 189 = .ok (.getfield 210, 3) := by decide +kernel
theorem dX11_put_192 : decode cX11_put 192 = .ok (.iload 7, 2) := by decide +kernel
theorem dX11_put_194 : decode cX11_put 194 = .ok (.invokestatic 110, 3) := by decide +kernel
theorem dX11_put_197 : decode cX11_put 197 = .ok (.aload 4, 2) := by decide +kernel
theorem dX11_put_199 : decode cX11_put 199 = .ok (.getfield 106, 3) := by decide +kernel
theorem dX11_put_202 : decode cX11_put 202 = .ok (.iload 7, 2) := by decide +kernel
theorem dX11_put_204 : decode cX11_put 204 = .ok (.invokestatic 110, 3) := by decide +kernel
theorem dX11_put_207 : decode cX11_put 207 = .ok (.invokespecial 161, 3) := by decide +kernel
theorem dX11_put_210 : decode cX11_put 210 = .ok (.astore 8, 2) := by decide +kernel
theorem dX11_put_212 : decode cX11_put 212 = .ok (.aload 8, 2) := by decide +kernel
theorem dX11_put_214 : decode cX11_put 214 = .ok (.iload 6, 2) := by decide +kernel
theorem dX11_put_216 : decode cX11_put 216 = .ok (.iload_n 2, 1) := by decide +kernel
theorem dX11_put_217 : decode cX11_put 217 = .ok (.iload_n 3, 1) := by decide +kernel
theorem dX11_put_218 : decode cX11_put 218 = .ok (.invokevirtual 220, 3) := by decide +kernel
theorem dX11_put_221 : decode cX11_put 221 = .ok (.aload_n 0, 1) := by decide +kernel
theorem dX11_put_222 : decode cX11_put 222 = .ok (.aload 8, 2) := by decide +kernel
theorem dX11_put_224 : decode cX11_put 224 = .ok (.invokevirtual 164, 3) := by decide +kernel
theorem dX11_put_227 : decode cX11_put 227 = .ok (.ireturn, 1) := by decide +kernel
theorem dX11_without_0 : decode cX11_without 0 = .ok (.aload_n 0, 1) := by decide +kernel
theorem dX11_without_1 : decode cX11_without 1 = .ok (.iload_n 1, 1) := by decide +kernel
theorem dX11_without_2 : decode cX11_without 2 = .ok (.invokevirtual 87, 3) := by decide +kernel
theorem dX11_without_5 : decode cX11_without 5 = .ok (.astore_n 3, 1) := by decide +kernel
theorem dX11_without_6 : decode cX11_without 6 = .ok (.aload_n 3, 1) := by decide +kernel
theorem dX11_without_7 : decode cX11_without 7 = .ok (.iconst 2, 1) := by decide +kernel
theorem dX11_without_8 : decode cX11_without 8 = .ok (.invokestatic 95, 3) := by decide +kernel
theorem dX11_without_11 : decode cX11_without 11 = .ok (.aload_n 3, 1) := by decide +kernel
theorem dX11_without_12 : decode cX11_without 12 = .ok (.getfield 116, 3) := by decide +kernel
theorem dX11_without_15 : decode cX11_without 15 = .ok (.iload_n 2, 1) := by decide +kernel
theorem dX11_without_16 : decode cX11_without 16 = .ok (.invokestatic 194, 3) := by decide +kernel
theorem dX11_without_19 : decode cX11_without 19 = .ok (.ifnonnull 13, 3) := by decide +kernel
theorem dX11_without_22 : decode cX11_without 22 = .ok (.new 137, 3) := by decide +kernel
theorem dX11_without_25 : decode cX11_without 25 = .ok (.dup, 1) := by decide +kernel
theorem dX11_without_26 : decode cX11_without 26 = .ok (.ldc 224, 2) := by decide +kernel
theorem dX11_without_28 : decode cX11_without 28 = .ok (.invokespecial 141, 3) := by decide +kernel
theorem dX11_without_31 : decode cX11_without 31 = .ok (.athrow, 1) := by decide +kernel
theorem dX11_without_32 : decode cX11_without 32 = .ok (.aload_n 0, 1) := by decide +kernel
theorem dX11_without_33 : decode cX11_without 33 = .ok (.invokevirtual 76, 3) := by decide +kernel
theorem dX11_without_36 : decode cX11_without 36 = .ok (.aload_n 3, 1) := by decide +kernel
theorem dX11_without_37 : decode cX11_without 37 = .ok (.iload_n 2, 1) := by decide +kernel
theorem dX11_without_38 : decode cX11_without 38 = .ok (.invokevirtual 213, 3) := by decide +kernel
theorem dX11_without_41 : decode cX11_without 41 = .ok (.istore 4, 2) := by decide +kernel
theorem dX11_without_43 : decode cX11_without 43 = .ok (.aload_n 0, 1) := by decide +kernel
theorem dX11_without_44 : decode cX11_without 44 = .ok (.aload_n 0, 1) := by decide +kernel
theorem dX11_without_45 : decode cX11_without 45 = .ok (.getfield 22, 3) := by decide +kernel
theorem dX11_without_48 : decode cX11_without 48 = .ok (.aload_n 3, 1) := by decide +kernel
theorem dX11_without_49 : decode cX11_without 49 = .ok (.getfield 116, 3) := by decide +kernel
theorem dX11_without_52 : decode cX11_without 52 = .ok (.iload_n 2, 1) := by decide +kernel
theorem dX11_without_53 : decode cX11_without 53 = .ok (.invokestatic 226, 3) := by decide +kernel
theorem dX11_without_56 : decode cX11_without 56 = .ok (.aload_n 3, 1) := by decide +kernel
theorem dX11_without_57 : decode cX11_without 57 = .ok (.getfield 103, 3) := by decide +kernel
theorem dX11_without_60 : decode cX11_without 60 = .ok (.iconst 1, 1) := by decide +kernel
theorem dX11_without_61 : decode cX11_without 61 = .ok (.isub, 1) := by decide +kernel
theorem dX11_without_62 : decode cX11_without 62 = .ok (.aload_n 3, 1) := by decide +kernel
theorem dX11_without_63 : decode cX11_without 63 = .ok (.getfield 210, 3) := by decide +kernel
theorem dX11_without_66 : decode cX11_without 66 = .ok (.iload 4, 2) := by decide +kernel
theorem dX11_without_68 : decode cX11_without 68 = .ok (.invokestatic 229, 3) := by decide +kernel
theorem dX11_without_71 : decode cX11_without 71 = .ok (.aload_n 3, 1) := by decide +kernel
theorem dX11_without_72 : decode cX11_without 72 = .ok (.getfield 106, 3) := by decide +kernel
theorem dX11_without_75 : decode cX11_without 75 = .ok (.iload 4, 2) := by decide +kernel
theorem dX11_without_77 : decode cX11_without 77 = .ok (.invokestatic 229, 3) := by decide +kernel
theorem dX11_without_80 : decode cX11_without 80 = .ok (.invokevirtual 185, 3) := by decide +kernel
theorem dX11_without_83 : decode cX11_without 83 = .ok (.ireturn, 1) := by decide +kernel
theorem dX11_get_0 : decode cX11_get 0 = .ok (.aload_n 0, 1) := by decide +kernel
theorem dX11_get_1 : decode cX11_get 1 = .ok (.iload_n 1, 1) := by decide +kernel
theorem dX11_get_2 : decode cX11_get 2 = .ok (.invokevirtual 87, 3) := by decide +kernel
theorem dX11_get_5 : decode cX11_get 5 = .ok (.astore_n 3, 1) := by decide +kernel
theorem dX11_get_6 : decode cX11_get 6 = .ok (.aload_n 3, 1) := by decide +kernel
theorem dX11_get_7 : decode cX11_get 7 = .ok (.getfield 179, 3) := by decide +kernel
theorem dX11_get_10 : decode cX11_get 10 = .ok (.iconst 2, 1) := by decide +kernel
theorem dX11_get_11 : decode cX11_get 11 = .ok (.if_icmp .ne 40, 3) := by decide +kernel
theorem dX11_get_14 : decode cX11_get 14 = .ok (.aload_n 3, 1) := by decide +kernel
theorem dX11_get_15 : decode cX11_get 15 = .ok (.getfield 116, 3) := by decide +kernel
theorem dX11_get_18 : decode cX11_get 18 = .ok (.iload_n 2, 1) := by decide +kernel
theorem dX11_get_19 : decode cX11_get 19 = .ok (.invokestatic 194, 3) := by decide +kernel
theorem dX11_get_22 : decode cX11_get 22 = .ok (.astore 4, 2) := by decide +kernel
theorem dX11_get_24 : decode cX11_get 24 = .ok (.aload 4, 2) := by decide +kernel
theorem dX11_get_26 : decode cX11_get 26 = .ok (.ifnonnull 13, 3) := by decide +kernel
theorem dX11_get_29 : decode cX11_get 29 = .ok (.new 137, 3) := by decide +kernel
theorem dX11_get_32 : decode cX11_get 32 = .ok (.dup, 1) := by decide +kernel
theorem dX11_get_33 : decode cX11_get 33 = .ok (.ldc 224, 2) := by decide +kernel
theorem dX11_get_35 : decode cX11_get 35 = .ok (.invokespecial 141, 3) := by decide +kernel
theorem dX11_get_38 : decode cX11_get 38 = .ok (.athrow, 1) := by decide +kernel
theorem dX11_get_39 : decode cX11_get 39 = .ok (.aload 4, 2) := by decide +kernel
theorem dX11_get_41 : decode cX11_get 41 = .ok (.aload 4, 2) := by decide +kernel
theorem dX11_get_43 : decode cX11_get 43 = .ok (.iload_n 2, 1) := by decide +kernel
theorem dX11_get_44 : decode cX11_get 44 = .ok (.invokevirtual 202, 3) := by decide +kernel
theorem dX11_get_47 : decode cX11_get 47 = .ok (.invokevirtual 207, 3) := by decide +kernel
theorem dX11_get_50 : decode cX11_get 50 = .ok (.ireturn, 1) := by decide +kernel
theorem dX11_get_51 : decode cX11_get 51 = .ok (.aload_n 3, 1) := by decide +kernel
theorem dX11_get_52 : decode cX11_get 52 = .ok (.iload_n 2, 1) := by decide +kernel
theorem dX11_get_53 : decode cX11_get 53 = .ok (.invokestatic 126, 3) := by decide +kernel
theorem dX11_get_56 : decode cX11_get 56 = .ok (.aload_n 3, 1) := by decide +kernel
theorem dX11_get_57 : decode cX11_get 57 = .ok (.getfield 116, 3) := by decide +kernel
theorem dX11_get_60 : decode cX11_get 60 = .ok (.aload_n 3, 1) := by decide +kernel
theorem dX11_get_61 : decode cX11_get 61 = .ok (.getfield 103, 3) := by decide +kernel
theorem dX11_get_64 : decode cX11_get 64 = .ok (.iload_n 2, 1) := by decide +kernel
theorem dX11_get_65 : decode cX11_get 65 = .ok (.invokestatic 129, 3) := by decide +kernel
theorem dX11_get_68 : decode cX11_get 68 = .ok (.ireturn, 1) := by decide +kernel
theorem dX11_getPlain_0 : decode cX11_getPlain 0 = .ok (.aload_n 0, 1) := by decide +kernel
theorem dX11_getPlain_1 : decode cX11_getPlain 1 = .ok (.iload_n 1, 1) := by decide +kernel
theorem dX11_getPlain_2 : decode cX11_getPlain 2 = .ok (.invokevirtual 87, 3) := by decide +kernel
theorem dX11_getPlain_5 : decode cX11_getPlain 5 = .ok (.astore_n 3, 1) := by decide +kernel
theorem dX11_getPlain_6 : decode cX11_getPlain 6 = .ok (.aload_n 3, 1) := by decide +kernel
theorem dX11_getPlain_7 : decode cX11_getPlain 7 = .ok (.iload_n 2, 1) := by decide +kernel
theorem dX11_getPlain_8 : decode cX11_getPlain 8 = .ok (.invokevirtual 213, 3) := by decide +kernel
theorem dX11_getPlain_11 : decode cX11_getPlain 11 = .ok (.istore 4, 2) := by decide +kernel
theorem dX11_getPlain_13 : decode cX11_getPlain 13 = .ok (.iload 4, 2) := by decide +kernel
theorem dX11_getPlain_15 : decode cX11_getPlain 15 = .ok (.iconst (-1), 1) := by decide +kernel
theorem dX11_getPlain_16 : decode cX11_getPlain 16 = .ok (.if_icmp .ne 13, 3) := by decide +kernel
theorem dX11_getPlain_19 : decode cX11_getPlain 19 = .ok (.new 137, 3) := by decide +kernel
theorem dX11_getPlain_22 : decode cX11_getPlain 22 = .ok (.dup, 1) := by decide +kernel
theorem dX11_getPlain_23 : decode cX11_getPlain 23 = .ok (.ldc 232, 2) := by decide +kernel
theorem dX11_getPlain_25 : decode cX11_getPlain 25 = .ok (.invokespecial 141, 3) := by decide +kernel
theorem dX11_getPlain_28 : decode cX11_getPlain 28 = .ok (.athrow, 1) := by decide +kernel
theorem dX11_getPlain_29 : decode cX11_getPlain 29 = .ok (.aload_n 3, 1) := by decide +kernel
theorem dX11_getPlain_30 : decode cX11_getPlain 30 = .ok (.iload 4, 2) := by decide +kernel
theorem dX11_getPlain_32 : decode cX11_getPlain 32 = .ok (.invokevirtual 234, 3) := by decide +kernel
theorem dX11_getPlain_35 : decode cX11_getPlain 35 = .ok (.ireturn, 1) := by decide +kernel
theorem dX11_levelOf_0 : decode cX11_levelOf 0 = .ok (.aload_n 0, 1) := by decide +kernel
theorem dX11_levelOf_1 : decode cX11_levelOf 1 = .ok (.iload_n 1, 1) := by decide +kernel
theorem dX11_levelOf_2 : decode cX11_levelOf 2 = .ok (.invokevirtual 87, 3) := by decide +kernel
theorem dX11_levelOf_5 : decode cX11_levelOf 5 = .ok (.astore_n 3, 1) := by decide +kernel
theorem dX11_levelOf_6 : decode cX11_levelOf 6 = .ok (.aload_n 3, 1) := by decide +kernel
theorem dX11_levelOf_7 : decode cX11_levelOf 7 = .ok (.iconst 2, 1) := by decide +kernel
theorem dX11_levelOf_8 : decode cX11_levelOf 8 = .ok (.invokestatic 95, 3) := by decide +kernel
theorem dX11_levelOf_11 : decode cX11_levelOf 11 = .ok (.aload_n 3, 1) := by decide +kernel
theorem dX11_levelOf_12 : decode cX11_levelOf 12 = .ok (.getfield 116, 3) := by decide +kernel
theorem dX11_levelOf_15 : decode cX11_levelOf 15 = .ok (.iload_n 2, 1) := by decide +kernel
theorem dX11_levelOf_16 : decode cX11_levelOf 16 = .ok (.invokestatic 194, 3) := by decide +kernel
theorem dX11_levelOf_19 : decode cX11_levelOf 19 = .ok (.astore 4, 2) := by decide +kernel
theorem dX11_levelOf_21 : decode cX11_levelOf 21 = .ok (.aload 4, 2) := by decide +kernel
theorem dX11_levelOf_23 : decode cX11_levelOf 23 = .ok (.ifnonnull 13, 3) := by decide +kernel
theorem dX11_levelOf_26 : decode cX11_levelOf 26 = .ok (.new 137, 3) := by decide +kernel
theorem dX11_levelOf_29 : decode cX11_levelOf 29 = .ok (.dup, 1) := by decide +kernel
theorem dX11_levelOf_30 : decode cX11_levelOf 30 = .ok (.ldc 224, 2) := by decide +kernel
theorem dX11_levelOf_32 : decode cX11_levelOf 32 = .ok (.invokespecial 141, 3) := by decide +kernel
theorem dX11_levelOf_35 : decode cX11_levelOf 35 = .ok (.athrow, 1) := by decide +kernel
theorem dX11_levelOf_36 : decode cX11_levelOf 36 = .ok (.aload 4, 2) := by decide +kernel
theorem dX11_levelOf_38 : decode cX11_levelOf 38 = .ok (.getfield 237, 3) := by decide +kernel
theorem dX11_levelOf_41 : decode cX11_levelOf 41 = .ok (.ireturn, 1) := by decide +kernel
theorem dX11_size_0 : decode cX11_size 0 = .ok (.aload_n 0, 1) := by decide +kernel
theorem dX11_size_1 : decode cX11_size 1 = .ok (.iload_n 1, 1) := by decide +kernel
theorem dX11_size_2 : decode cX11_size 2 = .ok (.invokevirtual 87, 3) := by decide +kernel
theorem dX11_size_5 : decode cX11_size 5 = .ok (.getfield 103, 3) := by decide +kernel
theorem dX11_size_8 : decode cX11_size 8 = .ok (.ireturn, 1) := by decide +kernel
theorem dX11_nodes_0 : decode cX11_nodes 0 = .ok (.aload_n 0, 1) := by decide +kernel
theorem dX11_nodes_1 : decode cX11_nodes 1 = .ok (.iload_n 1, 1) := by decide +kernel
theorem dX11_nodes_2 : decode cX11_nodes 2 = .ok (.invokevirtual 87, 3) := by decide +kernel
theorem dX11_nodes_5 : decode cX11_nodes 5 = .ok (.getfield 116, 3) := by decide +kernel
theorem dX11_nodes_8 : decode cX11_nodes 8 = .ok (.iconst 1, 1) := by decide +kernel
theorem dX11_nodes_9 : decode cX11_nodes 9 = .ok (.invokestatic 240, 3) := by decide +kernel
theorem dX11_nodes_12 : decode cX11_nodes 12 = .ok (.ireturn, 1) := by decide +kernel
theorem dX11_shared_0 : decode cX11_shared 0 = .ok (.aload_n 0, 1) := by decide +kernel
theorem dX11_shared_1 : decode cX11_shared 1 = .ok (.iload_n 1, 1) := by decide +kernel
theorem dX11_shared_2 : decode cX11_shared 2 = .ok (.invokevirtual 87, 3) := by decide +kernel
theorem dX11_shared_5 : decode cX11_shared 5 = .ok (.astore_n 3, 1) := by decide +kernel
theorem dX11_shared_6 : decode cX11_shared 6 = .ok (.aload_n 0, 1) := by decide +kernel
theorem dX11_shared_7 : decode cX11_shared 7 = .ok (.iload_n 2, 1) := by decide +kernel
theorem dX11_shared_8 : decode cX11_shared 8 = .ok (.invokevirtual 87, 3) := by decide +kernel
theorem dX11_shared_11 : decode cX11_shared 11 = .ok (.astore 4, 2) := by decide +kernel
theorem dX11_shared_13 : decode cX11_shared 13 = .ok (.aload_n 0, 1) := by decide +kernel
theorem dX11_shared_14 : decode cX11_shared 14 = .ok (.dup, 1) := by decide +kernel
theorem dX11_shared_15 : decode cX11_shared 15 = .ok (.getfield 26, 3) := by decide +kernel
theorem dX11_shared_18 : decode cX11_shared 18 = .ok (.iconst 1, 1) := by decide +kernel
theorem dX11_shared_19 : decode cX11_shared 19 = .ok (.iadd, 1) := by decide +kernel
theorem dX11_shared_20 : decode cX11_shared 20 = .ok (.putfield 26, 3) := by decide +kernel
theorem dX11_shared_23 : decode cX11_shared 23 = .ok (.aload_n 3, 1) := by decide +kernel
theorem dX11_shared_24 : decode cX11_shared 24 = .ok (.getfield 116, 3) := by decide +kernel
theorem dX11_shared_27 : decode cX11_shared 27 = .ok (.aload_n 0, 1) := by decide +kernel
theorem dX11_shared_28 : decode cX11_shared 28 = .ok (.getfield 26, 3) := by decide +kernel
theorem dX11_shared_31 : decode cX11_shared 31 = .ok (.iconst 1, 1) := by decide +kernel
theorem dX11_shared_32 : decode cX11_shared 32 = .ok (.invokestatic 244, 3) := by decide +kernel
theorem dX11_shared_35 : decode cX11_shared 35 = .ok (.pop, 1) := by decide +kernel
theorem dX11_shared_36 : decode cX11_shared 36 = .ok (.aload 4, 2) := by decide +kernel
theorem dX11_shared_38 : decode cX11_shared 38 = .ok (.getfield 116, 3) := by decide +kernel
theorem dX11_shared_41 : decode cX11_shared 41 = .ok (.iconst 1, 1) := by decide +kernel
theorem dX11_shared_42 : decode cX11_shared 42 = .ok (.invokestatic 240, 3) := by decide +kernel
theorem dX11_shared_45 : decode cX11_shared 45 = .ok (.aload 4, 2) := by decide +kernel
theorem dX11_shared_47 : decode cX11_shared 47 = .ok (.getfield 116, 3) := by decide +kernel
theorem dX11_shared_50 : decode cX11_shared 50 = .ok (.aload_n 0, 1) := by decide +kernel
theorem dX11_shared_51 : decode cX11_shared 51 = .ok (.getfield 26, 3) := by decide +kernel
theorem dX11_shared_54 : decode cX11_shared 54 = .ok (.iconst 1, 1) := by decide +kernel
theorem dX11_shared_55 : decode cX11_shared 55 = .ok (.invokestatic 244, 3) := by decide +kernel
theorem dX11_shared_58 : decode cX11_shared 58 = .ok (.isub, 1) := by decide +kernel
theorem dX11_shared_59 : decode cX11_shared 59 = .ok (.ireturn, 1) := by decide +kernel
theorem dX11_areSame_0 : decode cX11_areSame 0 = .ok (.aload_n 0, 1) := by decide +kernel
theorem dX11_areSame_1 : decode cX11_areSame 1 = .ok (.iload_n 1, 1) := by decide +kernel
theorem dX11_areSame_2 : decode cX11_areSame 2 = .ok (.invokevirtual 87, 3) := by decide +kernel
theorem dX11_areSame_5 : decode cX11_areSame 5 = .ok (.astore_n 3, 1) := by decide +kernel
theorem dX11_areSame_6 : decode cX11_areSame 6 = .ok (.aload_n 0, 1) := by decide +kernel
theorem dX11_areSame_7 : decode cX11_areSame 7 = .ok (.iload_n 2, 1) := by decide +kernel
theorem dX11_areSame_8 : decode cX11_areSame 8 = .ok (.invokevirtual 87, 3) := by decide +kernel
theorem dX11_areSame_11 : decode cX11_areSame 11 = .ok (.astore 4, 2) := by decide +kernel
theorem dX11_areSame_13 : decode cX11_areSame 13 = .ok (.aload_n 3, 1) := by decide +kernel
theorem dX11_areSame_14 : decode cX11_areSame 14 = .ok (.getfield 179, 3) := by decide +kernel
theorem dX11_areSame_17 : decode cX11_areSame 17 = .ok (.iconst 3, 1) := by decide +kernel
theorem dX11_areSame_18 : decode cX11_areSame 18 = .ok (.if_icmp .eq 12, 3) := by decide +kernel
theorem dX11_areSame_21 : decode cX11_areSame 21 = .ok (.aload 4, 2) := by decide +kernel
theorem dX11_areSame_23 : decode cX11_areSame 23 = .ok (.getfield 179, 3) := by decide +kernel
theorem dX11_areSame_26 : decode cX11_areSame 26 = .ok (.iconst 3, 1) := by decide +kernel
theorem dX11_areSame_27 : decode cX11_areSame 27 = .ok (.if_icmp .ne 13, 3) := by decide +kernel
theorem dX11_areSame_30 : decode cX11_areSame 30 = .ok (.new 137, 3) := by decide +kernel
theorem dX11_areSame_33 : decode cX11_areSame 33 = .ok (.dup, 1) := by decide +kernel
theorem dX11_areSame_34 : decode cX11_areSame 34 = .ok (.ldc 247, 2) := by decide +kernel
theorem dX11_areSame_36 : decode cX11_areSame 36 = .ok (.invokespecial 141, 3) := by decide +kernel
theorem dX11_areSame_39 : decode cX11_areSame 39 = .ok (.athrow, 1) := by decide +kernel
theorem dX11_areSame_40 : decode cX11_areSame 40 = .ok (.aload_n 3, 1) := by decide +kernel
theorem dX11_areSame_41 : decode cX11_areSame 41 = .ok (.invokevirtual 148, 3) := by decide +kernel
theorem dX11_areSame_44 : decode cX11_areSame 44 = .ok (.aload 4, 2) := by decide +kernel
theorem dX11_areSame_46 : decode cX11_areSame 46 = .ok (.invokevirtual 148, 3) := by decide +kernel
theorem dX11_areSame_49 : decode cX11_areSame 49 = .ok (.if_icmp .ne 15, 3) := by decide +kernel
theorem dX11_areSame_52 : decode cX11_areSame 52 = .ok (.aload_n 3, 1) := by decide +kernel
theorem dX11_areSame_53 : decode cX11_areSame 53 = .ok (.getfield 103, 3) := by decide +kernel
theorem dX11_areSame_56 : decode cX11_areSame 56 = .ok (.aload 4, 2) := by decide +kernel
theorem dX11_areSame_58 : decode cX11_areSame 58 = .ok (.getfield 103, 3) := by decide +kernel
theorem dX11_areSame_61 : decode cX11_areSame 61 = .ok (.if_icmp .eq 5, 3) := by decide +kernel
theorem dX11_areSame_64 : decode cX11_areSame 64 = .ok (.iconst 0, 1) := by decide +kernel
theorem dX11_areSame_65 : decode cX11_areSame 65 = .ok (.ireturn, 1) := by decide +kernel
theorem dX11_areSame_66 : decode cX11_areSame 66 = .ok (.aload_n 3, 1) := by decide +kernel
theorem dX11_areSame_67 : decode cX11_areSame 67 = .ok (.invokevirtual 148, 3) := by decide +kernel
theorem dX11_areSame_70 : decode cX11_areSame 70 = .ok (.ifCond .eq 12, 3) := by decide +kernel
theorem dX11_areSame_73 : decode cX11_areSame 73 = .ok (.aload_n 3, 1) := by decide +kernel
theorem dX11_areSame_74 : decode cX11_areSame 74 = .ok (.aload 4, 2) := by decide +kernel
theorem dX11_areSame_76 : decode cX11_areSame 76 = .ok (.invokestatic 249, 3) := by decide +kernel
theorem dX11_areSame_79 : decode cX11_areSame 79 = .ok (.goto 9, 3) := by decide +kernel
theorem dX11_areSame_82 : decode cX11_areSame 82 = .ok (.aload_n 3, 1) := by decide +kernel
theorem dX11_areSame_83 : decode cX11_areSame 83 = .ok (.aload 4, 2) := by decide +kernel
theorem dX11_areSame_85 : decode cX11_areSame 85 = .ok (.invokestatic 253, 3) := by decide +kernel
theorem dX11_areSame_88 : decode cX11_areSame 88 = .ok (.ireturn, 1) := by decide +kernel
theorem dX11_made_0 : decode cX11_made 0 = .ok (.aload_n 0, 1) := by decide +kernel
theorem dX11_made_1 : decode cX11_made 1 = .ok (.getfield 22, 3) := by decide +kernel
theorem dX11_made_4 : decode cX11_made 4 = .ok (.getfield 168, 3) := by decide +kernel
theorem dX11_made_7 : decode cX11_made 7 = .ok (.lreturn, 1) := by decide +kernel
theorem dX11_range_0 : decode cX11_range 0 = .ok (.iload_n 1, 1) := by decide +kernel
theorem dX11_range_1 : decode cX11_range 1 = .ok (.bipush (-99), 2) := by decide +kernel
theorem dX11_range_3 : decode cX11_range 3 = .ok (.bipush 99, 2) := by decide +kernel
theorem dX11_range_5 : decode cX11_range 5 = .ok (.invokestatic 256, 3) := by decide +kernel
theorem dX11_range_8 : decode cX11_range 8 = .ok (.ifCond .eq 24, 3) := by decide +kernel
theorem dX11_range_11 : decode cX11_range 11 = .ok (.iload_n 2, 1) := by decide +kernel
theorem dX11_range_12 : decode cX11_range 12 = .ok (.bipush (-9), 2) := by decide +kernel
theorem dX11_range_14 : decode cX11_range 14 = .ok (.bipush 9, 2) := by decide +kernel
theorem dX11_range_16 : decode cX11_range 16 = .ok (.invokestatic 256, 3) := by decide +kernel
theorem dX11_range_19 : decode cX11_range 19 = .ok (.ifCond .eq 13, 3) := by decide +kernel
theorem dX11_range_22 : decode cX11_range 22 = .ok (.iload_n 3, 1) := by decide +kernel
theorem dX11_range_23 : decode cX11_range 23 = .ok (.iconst 0, 1) := by decide +kernel
theorem dX11_range_24 : decode cX11_range 24 = .ok (.bipush 24, 2) := by decide +kernel
theorem dX11_range_26 : decode cX11_range 26 = .ok (.invokestatic 256, 3) := by decide +kernel
theorem dX11_range_29 : decode cX11_range 29 = .ok (.ifCond .ne 14, 3) := by decide +kernel
theorem dX11_range_32 : decode cX11_range 32 = .ok (.new 189, 3) := by decide +kernel
theorem dX11_range_35 : decode cX11_range 35 = .ok (.dup, 1) := by decide +kernel
theorem dX11_range_36 : decode cX11_range 36 = .ok (.ldc_w 260, 3) := by decide +kernel
theorem dX11_range_39 : decode cX11_range 39 = .ok (.invokespecial 193, 3) := by decide +kernel
theorem dX11_range_42 : decode cX11_range 42 = .ok (.athrow, 1) := by decide +kernel
theorem dX11_range_43 : decode cX11_range 43 = .ok (.aload_n 0, 1) := by decide +kernel
theorem dX11_range_44 : decode cX11_range 44 = .ok (.invokevirtual 262, 3) := by decide +kernel
theorem dX11_range_47 : decode cX11_range 47 = .ok (.new 29, 3) := by decide +kernel
theorem dX11_range_50 : decode cX11_range 50 = .ok (.dup, 1) := by decide +kernel
theorem dX11_range_51 : decode cX11_range 51 = .ok (.aconst_null, 1) := by decide +kernel
theorem dX11_range_52 : decode cX11_range 52 = .ok (.bipush 114, 2) := by decide +kernel
theorem dX11_range_54 : decode cX11_range 54 = .ok (.iconst 0, 1) := by decide +kernel
theorem dX11_range_55 : decode cX11_range 55 = .ok (.invokespecial 265, 3) := by decide +kernel
theorem dX11_range_58 : decode cX11_range 58 = .ok (.astore 4, 2) := by decide +kernel
theorem dX11_range_60 : decode cX11_range 60 = .ok (.aload 4, 2) := by decide +kernel
theorem dX11_range_62 : decode cX11_range 62 = .ok (.iload_n 1, 1) := by decide +kernel
theorem dX11_range_63 : decode cX11_range 63 = .ok (.iload_n 2, 1) := by decide +kernel
theorem dX11_range_64 : decode cX11_range 64 = .ok (.iload_n 3, 1) := by decide +kernel
theorem dX11_range_65 : decode cX11_range 65 = .ok (.invokevirtual 268, 3) := by decide +kernel
theorem dX11_range_68 : decode cX11_range 68 = .ok (.aload_n 0, 1) := by decide +kernel
theorem dX11_range_69 : decode cX11_range 69 = .ok (.aload 4, 2) := by decide +kernel
theorem dX11_range_71 : decode cX11_range 71 = .ok (.invokevirtual 271, 3) := by decide +kernel
theorem dX11_range_74 : decode cX11_range 74 = .ok (.ireturn, 1) := by decide +kernel
theorem dX11_over_0 : decode cX11_over 0 = .ok (.aload_n 0, 1) := by decide +kernel
theorem dX11_over_1 : decode cX11_over 1 = .ok (.iload_n 1, 1) := by decide +kernel
theorem dX11_over_2 : decode cX11_over 2 = .ok (.invokevirtual 275, 3) := by decide +kernel
theorem dX11_over_5 : decode cX11_over 5 = .ok (.astore 4, 2) := by decide +kernel
theorem dX11_over_7 : decode cX11_over 7 = .ok (.iload_n 2, 1) := by decide +kernel
theorem dX11_over_8 : decode cX11_over 8 = .ok (.bipush 97, 2) := by decide +kernel
theorem dX11_over_10 : decode cX11_over 10 = .ok (.if_icmp .eq 32, 3) := by decide +kernel
theorem dX11_over_13 : decode cX11_over 13 = .ok (.iload_n 2, 1) := by decide +kernel
theorem dX11_over_14 : decode cX11_over 14 = .ok (.bipush 100, 2) := by decide +kernel
theorem dX11_over_16 : decode cX11_over 16 = .ok (.if_icmp .eq 26, 3) := by decide +kernel
theorem dX11_over_19 : decode cX11_over 19 = .ok (.iload_n 2, 1) := by decide +kernel
theorem dX11_over_20 : decode cX11_over 20 = .ok (.bipush 107, 2) := by decide +kernel
theorem dX11_over_22 : decode cX11_over 22 = .ok (.if_icmp .eq 20, 3) := by decide +kernel
theorem dX11_over_25 : decode cX11_over 25 = .ok (.iload_n 2, 1) := by decide +kernel
theorem dX11_over_26 : decode cX11_over 26 = .ok (.bipush 116, 2) := by decide +kernel
theorem dX11_over_28 : decode cX11_over 28 = .ok (.if_icmp .eq 14, 3) := by decide +kernel
theorem dX11_over_31 : decode cX11_over 31 = .ok (.new 189, 3) := by decide +kernel
theorem dX11_over_34 : decode cX11_over 34 = .ok (.dup, 1) := by decide +kernel
theorem dX11_over_35 : decode cX11_over 35 = .ok (.ldc_w 279, 3) := by decide +kernel
theorem dX11_over_38 : decode cX11_over 38 = .ok (.invokespecial 193, 3) := by decide +kernel
theorem dX11_over_41 : decode cX11_over 41 = .ok (.athrow, 1) := by decide +kernel
theorem dX11_over_42 : decode cX11_over 42 = .ok (.iload_n 2, 1) := by decide +kernel
theorem dX11_over_43 : decode cX11_over 43 = .ok (.bipush 107, 2) := by decide +kernel
theorem dX11_over_45 : decode cX11_over 45 = .ok (.if_icmp .ne 7, 3) := by decide +kernel
theorem dX11_over_48 : decode cX11_over 48 = .ok (.iconst 1, 1) := by decide +kernel
theorem dX11_over_49 : decode cX11_over 49 = .ok (.goto 15, 3) := by decide +kernel
theorem dX11_over_52 : decode cX11_over 52 = .ok (.iload_n 2, 1) := by decide +kernel
theorem dX11_over_53 : decode cX11_over 53 = .ok (.bipush 116, 2) := by decide +kernel
theorem dX11_over_55 : decode cX11_over 55 = .ok (.if_icmp .ne 7, 3) := by decide +kernel
theorem dX11_over_58 : decode cX11_over 58 = .ok (.iconst 0, 1) := by decide +kernel
theorem dX11_over_59 : decode cX11_over 59 = .ok (.goto 5, 3) := by decide +kernel
theorem dX11_over_62 : decode cX11_over 62 = .ok (.bipush (-99), 2) := by decide +kernel
theorem dX11_over_64 : decode cX11_over 64 = .ok (.istore 5, 2) := by decide +kernel
theorem dX11_over_66 : decode cX11_over 66 = .ok (.iload_n 3, 1) := by decide +kernel
theorem dX11_over_67 : decode cX11_over 67 = .ok (.iload 5, 2) := by decide +kernel
theorem dX11_over_69 : decode cX11_over 69 = .ok (.bipush 99, 2) := by decide +kernel
theorem dX11_over_71 : decode cX11_over 71 = .ok (.invokestatic 256, 3) := by decide +kernel
theorem dX11_over_74 : decode cX11_over 74 = .ok (.ifCond .ne 14, 3) := by decide +kernel
theorem dX11_over_77 : decode cX11_over 77 = .ok (.new 189, 3) := by decide +kernel
theorem dX11_over_80 : decode cX11_over 80 = .ok (.dup, 1) := by decide +kernel
theorem dX11_over_81 : decode cX11_over 81 = .ok (.ldc_w 281, 3) := by decide +kernel
theorem dX11_over_84 : decode cX11_over 84 = .ok (.invokespecial 193, 3) := by decide +kernel
theorem dX11_over_87 : decode cX11_over 87 = .ok (.athrow, 1) := by decide +kernel
theorem dX11_over_88 : decode cX11_over 88 = .ok (.aload_n 0, 1) := by decide +kernel
theorem dX11_over_89 : decode cX11_over 89 = .ok (.invokevirtual 262, 3) := by decide +kernel
theorem dX11_over_92 : decode cX11_over 92 = .ok (.new 29, 3) := by decide +kernel
theorem dX11_over_95 : decode cX11_over 95 = .ok (.dup, 1) := by decide +kernel
theorem dX11_over_96 : decode cX11_over 96 = .ok (.aload 4, 2) := by decide +kernel
theorem dX11_over_98 : decode cX11_over 98 = .ok (.iload_n 2, 1) := by decide +kernel
theorem dX11_over_99 : decode cX11_over 99 = .ok (.iload_n 3, 1) := by decide +kernel
theorem dX11_over_100 : decode cX11_over 100 = .ok (.invokespecial 265, 3) := by decide +kernel
theorem dX11_over_103 : decode cX11_over 103 = .ok (.astore 6, 2) := by decide +kernel
theorem dX11_over_105 : decode cX11_over 105 = .ok (.iload_n 2, 1) := by decide +kernel
theorem dX11_over_106 : decode cX11_over 106 = .ok (.bipush 116, 2) := by decide +kernel
theorem dX11_over_108 : decode cX11_over 108 = .ok (.if_icmp .ne 11, 3) := by decide +kernel
theorem dX11_over_111 : decode cX11_over 111 = .ok (.aload 6, 2) := by decide +kernel
theorem dX11_over_113 : decode cX11_over 113 = .ok (.invokevirtual 283, 3) := by decide +kernel
theorem dX11_over_116 : decode cX11_over 116 = .ok (.goto 8, 3) := by decide +kernel
theorem dX11_over_119 : decode cX11_over 119 = .ok (.aload 6, 2) := by decide +kernel
theorem dX11_over_121 : decode cX11_over 121 = .ok (.invokevirtual 286, 3) := by decide +kernel
theorem dX11_over_124 : decode cX11_over 124 = .ok (.aload_n 0, 1) := by decide +kernel
theorem dX11_over_125 : decode cX11_over 125 = .ok (.aload 6, 2) := by decide +kernel
theorem dX11_over_127 : decode cX11_over 127 = .ok (.invokevirtual 271, 3) := by decide +kernel
theorem dX11_over_130 : decode cX11_over 130 = .ok (.ireturn, 1) := by decide +kernel
theorem dX11_at_0 : decode cX11_at 0 = .ok (.aload_n 0, 1) := by decide +kernel
theorem dX11_at_1 : decode cX11_at 1 = .ok (.iload_n 1, 1) := by decide +kernel
theorem dX11_at_2 : decode cX11_at 2 = .ok (.invokevirtual 275, 3) := by decide +kernel
theorem dX11_at_5 : decode cX11_at 5 = .ok (.astore_n 3, 1) := by decide +kernel
theorem dX11_at_6 : decode cX11_at 6 = .ok (.iload_n 2, 1) := by decide +kernel
theorem dX11_at_7 : decode cX11_at 7 = .ok (.ifCond .lt 11, 3) := by decide +kernel
theorem dX11_at_10 : decode cX11_at 10 = .ok (.iload_n 2, 1) := by decide +kernel
theorem dX11_at_11 : decode cX11_at 11 = .ok (.aload_n 3, 1) := by decide +kernel
theorem dX11_at_12 : decode cX11_at 12 = .ok (.getfield 289, 3) := by decide +kernel
theorem dX11_at_15 : decode cX11_at 15 = .ok (.if_icmp .lt 18, 3) := by decide +kernel
theorem dX11_at_18 : decode cX11_at 18 = .ok (.aload_n 3, 1) := by decide +kernel
theorem dX11_at_19 : decode cX11_at 19 = .ok (.invokestatic 291, 3) := by decide +kernel
theorem dX11_at_22 : decode cX11_at 22 = .ok (.new 137, 3) := by decide +kernel
theorem dX11_at_25 : decode cX11_at 25 = .ok (.dup, 1) := by decide +kernel
theorem dX11_at_26 : decode cX11_at 26 = .ok (.ldc_w 295, 3) := by decide +kernel
theorem dX11_at_29 : decode cX11_at 29 = .ok (.invokespecial 141, 3) := by decide +kernel
theorem dX11_at_32 : decode cX11_at 32 = .ok (.athrow, 1) := by decide +kernel
theorem dX11_at_33 : decode cX11_at 33 = .ok (.aload_n 3, 1) := by decide +kernel
theorem dX11_at_34 : decode cX11_at 34 = .ok (.aload_n 3, 1) := by decide +kernel
theorem dX11_at_35 : decode cX11_at 35 = .ok (.iload_n 2, 1) := by decide +kernel
theorem dX11_at_36 : decode cX11_at 36 = .ok (.invokevirtual 297, 3) := by decide +kernel
theorem dX11_at_39 : decode cX11_at 39 = .ok (.iconst 0, 1) := by decide +kernel
theorem dX11_at_40 : decode cX11_at 40 = .ok (.invokestatic 300, 3) := by decide +kernel
theorem dX11_at_43 : decode cX11_at 43 = .ok (.aload_n 3, 1) := by decide +kernel
theorem dX11_at_44 : decode cX11_at 44 = .ok (.iload_n 2, 1) := by decide +kernel
theorem dX11_at_45 : decode cX11_at 45 = .ok (.invokevirtual 304, 3) := by decide +kernel
theorem dX11_at_48 : decode cX11_at 48 = .ok (.ireturn, 1) := by decide +kernel
theorem dX11_all_0 : decode cX11_all 0 = .ok (.aload_n 0, 1) := by decide +kernel
theorem dX11_all_1 : decode cX11_all 1 = .ok (.iload_n 1, 1) := by decide +kernel
theorem dX11_all_2 : decode cX11_all 2 = .ok (.invokevirtual 275, 3) := by decide +kernel
theorem dX11_all_5 : decode cX11_all 5 = .ok (.astore_n 2, 1) := by decide +kernel
theorem dX11_all_6 : decode cX11_all 6 = .ok (.aload_n 2, 1) := by decide +kernel
theorem dX11_all_7 : decode cX11_all 7 = .ok (.invokestatic 291, 3) := by decide +kernel
theorem dX11_all_10 : decode cX11_all 10 = .ok (.aload_n 2, 1) := by decide +kernel
theorem dX11_all_11 : decode cX11_all 11 = .ok (.aload_n 2, 1) := by decide +kernel
theorem dX11_all_12 : decode cX11_all 12 = .ok (.getfield 305, 3) := by decide +kernel
theorem dX11_all_15 : decode cX11_all 15 = .ok (.iconst 1, 1) := by decide +kernel
theorem dX11_all_16 : decode cX11_all 16 = .ok (.invokestatic 300, 3) := by decide +kernel
theorem dX11_all_19 : decode cX11_all 19 = .ok (.aload_n 2, 1) := by decide +kernel
theorem dX11_all_20 : decode cX11_all 20 = .ok (.getfield 289, 3) := by decide +kernel
theorem dX11_all_23 : decode cX11_all 23 = .ok (.ireturn, 1) := by decide +kernel
theorem dX11_realised_0 : decode cX11_realised 0 = .ok (.aload_n 0, 1) := by decide +kernel
theorem dX11_realised_1 : decode cX11_realised 1 = .ok (.iload_n 1, 1) := by decide +kernel
theorem dX11_realised_2 : decode cX11_realised 2 = .ok (.invokevirtual 275, 3) := by decide +kernel
theorem dX11_realised_5 : decode cX11_realised 5 = .ok (.astore_n 2, 1) := by decide +kernel
theorem dX11_realised_6 : decode cX11_realised 6 = .ok (.aload_n 2, 1) := by decide +kernel
theorem dX11_realised_7 : decode cX11_realised 7 = .ok (.aload_n 2, 1) := by decide +kernel
theorem dX11_realised_8 : decode cX11_realised 8 = .ok (.getfield 308, 3) := by decide +kernel
theorem dX11_realised_11 : decode cX11_realised 11 = .ok (.invokevirtual 311, 3) := by decide +kernel
theorem dX11_realised_14 : decode cX11_realised 14 = .ok (.ireturn, 1) := by decide +kernel
theorem dX11_chunks_0 : decode cX11_chunks 0 = .ok (.aload_n 0, 1) := by decide +kernel
theorem dX11_chunks_1 : decode cX11_chunks 1 = .ok (.iload_n 1, 1) := by decide +kernel
theorem dX11_chunks_2 : decode cX11_chunks 2 = .ok (.invokevirtual 275, 3) := by decide +kernel
theorem dX11_chunks_5 : decode cX11_chunks 5 = .ok (.getfield 308, 3) := by decide +kernel
theorem dX11_chunks_8 : decode cX11_chunks 8 = .ok (.ireturn, 1) := by decide +kernel
theorem dX11_collect_0 : decode cX11_collect 0 = .ok (.aload_n 0, 1) := by decide +kernel
theorem dX11_collect_1 : decode cX11_collect 1 = .ok (.iload_n 1, 1) := by decide +kernel
theorem dX11_collect_2 : decode cX11_collect 2 = .ok (.invokevirtual 275, 3) := by decide +kernel
theorem dX11_collect_5 : decode cX11_collect 5 = .ok (.astore_n 2, 1) := by decide +kernel
theorem dX11_collect_6 : decode cX11_collect 6 = .ok (.aload_n 2, 1) := by decide +kernel
theorem dX11_collect_7 : decode cX11_collect 7 = .ok (.invokestatic 291, 3) := by decide +kernel
theorem dX11_collect_10 : decode cX11_collect 10 = .ok (.iconst 0, 1) := by decide +kernel
theorem dX11_collect_11 : decode cX11_collect 11 = .ok (.istore_n 3, 1) := by decide +kernel
theorem dX11_collect_12 : decode cX11_collect 12 = .ok (.iload_n 3, 1) := by decide +kernel
theorem dX11_collect_13 : decode cX11_collect 13 = .ok (.aload_n 2, 1) := by decide +kernel
theorem dX11_collect_14 : decode cX11_collect 14 = .ok (.getfield 289, 3) := by decide +kernel
theorem dX11_collect_17 : decode cX11_collect 17 = .ok (.if_icmp .ge 17, 3) := by decide +kernel
theorem dX11_collect_20 : decode cX11_collect 20 = .ok (.aload_n 2, 1) := by decide +kernel
theorem dX11_collect_21 : decode cX11_collect 21 = .ok (.iload_n 3, 1) := by decide +kernel
theorem dX11_collect_22 : decode cX11_collect 22 = .ok (.invokevirtual 304, 3) := by decide +kernel
theorem dX11_collect_25 : decode cX11_collect 25 = .ok (.invokestatic 91, 3) := by decide +kernel
theorem dX11_collect_28 : decode cX11_collect 28 = .ok (.iinc 3 1, 3) := by decide +kernel
theorem dX11_collect_31 : decode cX11_collect 31 = .ok (.goto (-19), 3) := by decide +kernel
theorem dX11_collect_34 : decode cX11_collect 34 = .ok (.aload_n 0, 1) := by decide +kernel
theorem dX11_collect_35 : decode cX11_collect 35 = .ok (.invokevirtual 76, 3) := by decide +kernel
theorem dX11_collect_38 : decode cX11_collect 38 = .ok (.aload_n 2, 1) := by decide +kernel
theorem dX11_collect_39 : decode cX11_collect 39 = .ok (.aload_n 2, 1) := by decide +kernel
theorem dX11_collect_40 : decode cX11_collect 40 = .ok (.getfield 305, 3) := by decide +kernel
theorem dX11_collect_43 : decode cX11_collect 43 = .ok (.iconst 1, 1) := by decide +kernel
theorem dX11_collect_44 : decode cX11_collect 44 = .ok (.invokestatic 300, 3) := by decide +kernel
theorem dX11_collect_47 : decode cX11_collect 47 = .ok (.aload_n 0, 1) := by decide +kernel
theorem dX11_collect_48 : decode cX11_collect 48 = .ok (.getfield 15, 3) := by decide +kernel
theorem dX11_collect_51 : decode cX11_collect 51 = .ok (.istore_n 3, 1) := by decide +kernel
theorem dX11_collect_52 : decode cX11_collect 52 = .ok (.aload_n 0, 1) := by decide +kernel
theorem dX11_collect_53 : decode cX11_collect 53 = .ok (.getfield 22, 3) := by decide +kernel
theorem dX11_collect_56 : decode cX11_collect 56 = .ok (.iload_n 3, 1) := by decide +kernel
theorem dX11_collect_57 : decode cX11_collect 57 = .ok (.invokevirtual 79, 3) := by decide +kernel
theorem dX11_collect_60 : decode cX11_collect 60 = .ok (.astore 4, 2) := by decide +kernel
theorem dX11_collect_62 : decode cX11_collect 62 = .ok (.iconst 0, 1) := by decide +kernel
theorem dX11_collect_63 : decode cX11_collect 63 = .ok (.istore 5, 2) := by decide +kernel
theorem dX11_collect_65 : decode cX11_collect 65 = .ok (.iload 5, 2) := by decide +kernel
theorem dX11_collect_67 : decode cX11_collect 67 = .ok (.aload_n 2, 1) := by decide +kernel
theorem dX11_collect_68 : decode cX11_collect 68 = .ok (.getfield 289, 3) := by decide +kernel
theorem dX11_collect_71 : decode cX11_collect 71 = .ok (.if_icmp .ge 29, 3) := by decide +kernel
theorem dX11_collect_74 : decode cX11_collect 74 = .ok (.aload_n 0, 1) := by decide +kernel
theorem dX11_collect_75 : decode cX11_collect 75 = .ok (.getfield 22, 3) := by decide +kernel
theorem dX11_collect_78 : decode cX11_collect 78 = .ok (.aload 4, 2) := by decide +kernel
theorem dX11_collect_80 : decode cX11_collect 80 = .ok (.iload 5, 2) := by decide +kernel
theorem dX11_collect_82 : decode cX11_collect 82 = .ok (.aload_n 2, 1) := by decide +kernel
theorem dX11_collect_83 : decode cX11_collect 83 = .ok (.iload 5, 2) := by decide +kernel
theorem dX11_collect_85 : decode cX11_collect 85 = .ok (.invokevirtual 304, 3) := by decide +kernel
theorem dX11_collect_88 : decode cX11_collect 88 = .ok (.iload_n 3, 1) := by decide +kernel
theorem dX11_collect_89 : decode cX11_collect 89 = .ok (.invokestatic 120, 3) := by decide +kernel
theorem dX11_collect_92 : decode cX11_collect 92 = .ok (.astore 4, 2) := by decide +kernel
theorem dX11_collect_94 : decode cX11_collect 94 = .ok (.iinc 5 1, 3) := by decide +kernel
theorem dX11_collect_97 : decode cX11_collect 97 = .ok (.goto (-32), 3) := by decide +kernel
theorem dX11_collect_100 : decode cX11_collect 100 = .ok (.aload_n 0, 1) := by decide +kernel
theorem dX11_collect_101 : decode cX11_collect 101 = .ok (.aload 4, 2) := by decide +kernel
theorem dX11_collect_103 : decode cX11_collect 103 = .ok (.aload_n 2, 1) := by decide +kernel
theorem dX11_collect_104 : decode cX11_collect 104 = .ok (.getfield 289, 3) := by decide +kernel
theorem dX11_collect_107 : decode cX11_collect 107 = .ok (.aload_n 2, 1) := by decide +kernel
theorem dX11_collect_108 : decode cX11_collect 108 = .ok (.getfield 314, 3) := by decide +kernel
theorem dX11_collect_111 : decode cX11_collect 111 = .ok (.aload_n 2, 1) := by decide +kernel
theorem dX11_collect_112 : decode cX11_collect 112 = .ok (.getfield 289, 3) := by decide +kernel
theorem dX11_collect_115 : decode cX11_collect 115 = .ok (.invokestatic 110, 3) := by decide +kernel
theorem dX11_collect_118 : decode cX11_collect 118 = .ok (.invokevirtual 83, 3) := by decide +kernel
theorem dX11_collect_121 : decode cX11_collect 121 = .ok (.ireturn, 1) := by decide +kernel
theorem dX11_addReference_0 : decode cX11_addReference 0 = .ok (.iload_n 1, 1) := by decide +kernel
theorem dX11_addReference_1 : decode cX11_addReference 1 = .ok (.iload_n 2, 1) := by decide +kernel
theorem dX11_addReference_2 : decode cX11_addReference 2 = .ok (.iload_n 3, 1) := by decide +kernel
theorem dX11_addReference_3 : decode cX11_addReference 3 = .ok (.invokestatic 317, 3) := by decide +kernel
theorem dX11_addReference_6 : decode cX11_addReference 6 = .ok (.aload_n 0, 1) := by decide +kernel
theorem dX11_addReference_7 : decode cX11_addReference 7 = .ok (.getfield 44, 3) := by decide +kernel
theorem dX11_addReference_10 : decode cX11_addReference 10 = .ok (.bipush 6, 2) := by decide +kernel
theorem dX11_addReference_12 : decode cX11_addReference 12 = .ok (.if_icmp .lt 14, 3) := by decide +kernel
theorem dX11_addReference_15 : decode cX11_addReference 15 = .ok (.new 320, 3) := by decide +kernel
theorem dX11_addReference_18 : decode cX11_addReference 18 = .ok (.dup, 1) := by decide +kernel
theorem dX11_addReference_19 : decode cX11_addReference 19 = .ok (.ldc_w 322, 3) := by decide +kernel
theorem dX11_addReference_22 : decode cX11_addReference 22 = .ok (.invokespecial 324, 3) := by decide +kernel
theorem dX11_addReference_25 : decode cX11_addReference 25 = .ok (.athrow, 1) := by decide +kernel
theorem dX11_addReference_26 : decode cX11_addReference 26 = .ok (.aload_n 0, 1) := by decide +kernel
theorem dX11_addReference_27 : decode cX11_addReference 27 = .ok (.getfield 40, 3) := by decide +kernel
theorem dX11_addReference_30 : decode cX11_addReference 30 = .ok (.aload_n 0, 1) := by decide +kernel
theorem dX11_addReference_31 : decode cX11_addReference 31 = .ok (.getfield 44, 3) := by decide +kernel
theorem dX11_addReference_34 : decode cX11_addReference 34 = .ok (.new 38, 3) := by decide +kernel
theorem dX11_addReference_37 : decode cX11_addReference 37 = .ok (.dup, 1) := by decide +kernel
theorem dX11_addReference_38 : decode cX11_addReference 38 = .ok (.iload_n 1, 1) := by decide +kernel
theorem dX11_addReference_39 : decode cX11_addReference 39 = .ok (.iload_n 2, 1) := by decide +kernel
theorem dX11_addReference_40 : decode cX11_addReference 40 = .ok (.iload_n 3, 1) := by decide +kernel
theorem dX11_addReference_41 : decode cX11_addReference 41 = .ok (.invokespecial 325, 3) := by decide +kernel
theorem dX11_addReference_44 : decode cX11_addReference 44 = .ok (.aastore, 1) := by decide +kernel
theorem dX11_addReference_45 : decode cX11_addReference 45 = .ok (.aload_n 0, 1) := by decide +kernel
theorem dX11_addReference_46 : decode cX11_addReference 46 = .ok (.dup, 1) := by decide +kernel
theorem dX11_addReference_47 : decode cX11_addReference 47 = .ok (.getfield 44, 3) := by decide +kernel
theorem dX11_addReference_50 : decode cX11_addReference 50 = .ok (.iconst 1, 1) := by decide +kernel
theorem dX11_addReference_51 : decode cX11_addReference 51 = .ok (.iadd, 1) := by decide +kernel
theorem dX11_addReference_52 : decode cX11_addReference 52 = .ok (.putfield 44, 3) := by decide +kernel
theorem dX11_addReference_55 : decode cX11_addReference 55 = .ok (.aload_n 0, 1) := by decide +kernel
theorem dX11_addReference_56 : decode cX11_addReference 56 = .ok (.getfield 44, 3) := by decide +kernel
theorem dX11_addReference_59 : decode cX11_addReference 59 = .ok (.iconst 1, 1) := by decide +kernel
theorem dX11_addReference_60 : decode cX11_addReference 60 = .ok (.isub, 1) := by decide +kernel
theorem dX11_addReference_61 : decode cX11_addReference 61 = .ok (.ireturn, 1) := by decide +kernel
theorem dX11_begin_0 : decode cX11_begin 0 = .ok (.aload_n 0, 1) := by decide +kernel
theorem dX11_begin_1 : decode cX11_begin 1 = .ok (.iload_n 1, 1) := by decide +kernel
theorem dX11_begin_2 : decode cX11_begin 2 = .ok (.invokevirtual 327, 3) := by decide +kernel
theorem dX11_begin_5 : decode cX11_begin 5 = .ok (.astore_n 2, 1) := by decide +kernel
theorem dX11_begin_6 : decode cX11_begin 6 = .ok (.aload_n 2, 1) := by decide +kernel
theorem dX11_begin_7 : decode cX11_begin 7 = .ok (.getfield 331, 3) := by decide +kernel
theorem dX11_begin_10 : decode cX11_begin 10 = .ok (.ifCond .eq 14, 3) := by decide +kernel
theorem dX11_begin_13 : decode cX11_begin 13 = .ok (.new 320, 3) := by decide +kernel
theorem dX11_begin_16 : decode cX11_begin 16 = .ok (.dup, 1) := by decide +kernel
theorem dX11_begin_17 : decode cX11_begin 17 = .ok (.ldc_w 335, 3) := by decide +kernel
theorem dX11_begin_20 : decode cX11_begin 20 = .ok (.invokespecial 324, 3) := by decide +kernel
theorem dX11_begin_23 : decode cX11_begin 23 = .ok (.athrow, 1) := by decide +kernel
theorem dX11_begin_24 : decode cX11_begin 24 = .ok (.aload_n 0, 1) := by decide +kernel
theorem dX11_begin_25 : decode cX11_begin 25 = .ok (.dup, 1) := by decide +kernel
theorem dX11_begin_26 : decode cX11_begin 26 = .ok (.getfield 53, 3) := by decide +kernel
theorem dX11_begin_29 : decode cX11_begin 29 = .ok (.iconst 1, 1) := by decide +kernel
theorem dX11_begin_30 : decode cX11_begin 30 = .ok (.iadd, 1) := by decide +kernel
theorem dX11_begin_31 : decode cX11_begin 31 = .ok (.putfield 53, 3) := by decide +kernel
theorem dX11_begin_34 : decode cX11_begin 34 = .ok (.aload_n 2, 1) := by decide +kernel
theorem dX11_begin_35 : decode cX11_begin 35 = .ok (.aload_n 0, 1) := by decide +kernel
theorem dX11_begin_36 : decode cX11_begin 36 = .ok (.getfield 53, 3) := by decide +kernel
theorem dX11_begin_39 : decode cX11_begin 39 = .ok (.aload_n 0, 1) := by decide +kernel
theorem dX11_begin_40 : decode cX11_begin 40 = .ok (.getfield 56, 3) := by decide +kernel
theorem dX11_begin_43 : decode cX11_begin 43 = .ok (.invokevirtual 337, 3) := by decide +kernel
theorem dX11_begin_46 : decode cX11_begin 46 = .ok (.aload_n 0, 1) := by decide +kernel
theorem dX11_begin_47 : decode cX11_begin 47 = .ok (.getfield 56, 3) := by decide +kernel
theorem dX11_begin_50 : decode cX11_begin 50 = .ok (.ireturn, 1) := by decide +kernel
theorem dX11_read_0 : decode cX11_read 0 = .ok (.aload_n 0, 1) := by decide +kernel
theorem dX11_read_1 : decode cX11_read 1 = .ok (.iload_n 1, 1) := by decide +kernel
theorem dX11_read_2 : decode cX11_read 2 = .ok (.invokevirtual 327, 3) := by decide +kernel
theorem dX11_read_5 : decode cX11_read 5 = .ok (.astore_n 3, 1) := by decide +kernel
theorem dX11_read_6 : decode cX11_read 6 = .ok (.aload_n 0, 1) := by decide +kernel
theorem dX11_read_7 : decode cX11_read 7 = .ok (.iload_n 2, 1) := by decide +kernel
theorem dX11_read_8 : decode cX11_read 8 = .ok (.invokevirtual 340, 3) := by decide +kernel
theorem dX11_read_11 : decode cX11_read 11 = .ok (.astore 4, 2) := by decide +kernel
theorem dX11_read_13 : decode cX11_read 13 = .ok (.aload_n 3, 1) := by decide +kernel
theorem dX11_read_14 : decode cX11_read 14 = .ok (.invokestatic 344, 3) := by decide +kernel
theorem dX11_read_17 : decode cX11_read 17 = .ok (.aload_n 3, 1) := by decide +kernel
theorem dX11_read_18 : decode cX11_read 18 = .ok (.getfield 348, 3) := by decide +kernel
theorem dX11_read_21 : decode cX11_read 21 = .ok (.iload_n 2, 1) := by decide +kernel
theorem dX11_read_22 : decode cX11_read 22 = .ok (.baload, 1) := by decide +kernel
theorem dX11_read_23 : decode cX11_read 23 = .ok (.ifCond .eq 10, 3) := by decide +kernel
theorem dX11_read_26 : decode cX11_read 26 = .ok (.aload_n 3, 1) := by decide +kernel
theorem dX11_read_27 : decode cX11_read 27 = .ok (.getfield 352, 3) := by decide +kernel
theorem dX11_read_30 : decode cX11_read 30 = .ok (.iload_n 2, 1) := by decide +kernel
theorem dX11_read_31 : decode cX11_read 31 = .ok (.iaload, 1) := by decide +kernel
theorem dX11_read_32 : decode cX11_read 32 = .ok (.ireturn, 1) := by decide +kernel
theorem dX11_read_33 : decode cX11_read 33 = .ok (.aload 4, 2) := by decide +kernel
theorem dX11_read_35 : decode cX11_read 35 = .ok (.aload_n 3, 1) := by decide +kernel
theorem dX11_read_36 : decode cX11_read 36 = .ok (.getfield 355, 3) := by decide +kernel
theorem dX11_read_39 : decode cX11_read 39 = .ok (.invokevirtual 358, 3) := by decide +kernel
theorem dX11_read_42 : decode cX11_read 42 = .ok (.istore 5, 2) := by decide +kernel
theorem dX11_read_44 : decode cX11_read 44 = .ok (.iload 5, 2) := by decide +kernel
theorem dX11_read_46 : decode cX11_read 46 = .ok (.iconst (-1), 1) := by decide +kernel
theorem dX11_read_47 : decode cX11_read 47 = .ok (.if_icmp .ne 20, 3) := by decide +kernel
theorem dX11_read_50 : decode cX11_read 50 = .ok (.aload 4, 2) := by decide +kernel
theorem dX11_read_52 : decode cX11_read 52 = .ok (.invokevirtual 361, 3) := by decide +kernel
theorem dX11_read_55 : decode cX11_read 55 = .ok (.aload_n 3, 1) := by decide +kernel
theorem dX11_read_56 : decode cX11_read 56 = .ok (.aload_n 0, 1) := by decide +kernel
theorem dX11_read_57 : decode cX11_read 57 = .ok (.getfield 56, 3) := by decide +kernel
theorem dX11_read_60 : decode cX11_read 60 = .ok (.invokevirtual 364, 3) := by decide +kernel
theorem dX11_read_63 : decode cX11_read 63 = .ok (.sipush (-10000), 3) := by decide +kernel
theorem dX11_read_66 : decode cX11_read 66 = .ok (.ireturn, 1) := by decide +kernel
theorem dX11_read_67 : decode cX11_read 67 = .ok (.aload 4, 2) := by decide +kernel
theorem dX11_read_69 : decode cX11_read 69 = .ok (.iload 5, 2) := by decide +kernel
theorem dX11_read_71 : decode cX11_read 71 = .ok (.invokevirtual 367, 3) := by decide +kernel
theorem dX11_read_74 : decode cX11_read 74 = .ok (.aload_n 3, 1) := by decide +kernel
theorem dX11_read_75 : decode cX11_read 75 = .ok (.getfield 370, 3) := by decide +kernel
theorem dX11_read_78 : decode cX11_read 78 = .ok (.iload_n 2, 1) := by decide +kernel
theorem dX11_read_79 : decode cX11_read 79 = .ok (.iaload, 1) := by decide +kernel
theorem dX11_read_80 : decode cX11_read 80 = .ok (.iadd, 1) := by decide +kernel
theorem dX11_read_81 : decode cX11_read 81 = .ok (.ireturn, 1) := by decide +kernel
theorem dX11_write_0 : decode cX11_write 0 = .ok (.aload_n 0, 1) := by decide +kernel
theorem dX11_write_1 : decode cX11_write 1 = .ok (.iload_n 1, 1) := by decide +kernel
theorem dX11_write_2 : decode cX11_write 2 = .ok (.invokevirtual 327, 3) := by decide +kernel
theorem dX11_write_5 : decode cX11_write 5 = .ok (.astore 4, 2) := by decide +kernel
theorem dX11_write_7 : decode cX11_write 7 = .ok (.aload_n 0, 1) := by decide +kernel
theorem dX11_write_8 : decode cX11_write 8 = .ok (.iload_n 2, 1) := by decide +kernel
theorem dX11_write_9 : decode cX11_write 9 = .ok (.invokevirtual 340, 3) := by decide +kernel
theorem dX11_write_12 : decode cX11_write 12 = .ok (.astore 5, 2) := by decide +kernel
theorem dX11_write_14 : decode cX11_write 14 = .ok (.aload 4, 2) := by decide +kernel
theorem dX11_write_16 : decode cX11_write 16 = .ok (.invokestatic 344, 3) := by decide +kernel
theorem dX11_write_19 : decode cX11_write 19 = .ok (.aload 4, 2) := by decide +kernel
theorem dX11_write_21 : decode cX11_write 21 = .ok (.getfield 373, 3) := by decide +kernel
theorem dX11_write_24 : decode cX11_write 24 = .ok (.iload_n 2, 1) := by decide +kernel
theorem dX11_write_25 : decode cX11_write 25 = .ok (.baload, 1) := by decide +kernel
theorem dX11_write_26 : decode cX11_write 26 = .ok (.ifCond .ne 16, 3) := by decide +kernel
theorem dX11_write_29 : decode cX11_write 29 = .ok (.iload_n 3, 1) := by decide +kernel
theorem dX11_write_30 : decode cX11_write 30 = .ok (.sipush (-999), 3) := by decide +kernel
theorem dX11_write_33 : decode cX11_write 33 = .ok (.sipush 999, 3) := by decide +kernel
theorem dX11_write_36 : decode cX11_write 36 = .ok (.invokestatic 256, 3) := by decide +kernel
theorem dX11_write_39 : decode cX11_write 39 = .ok (.ifCond .ne 14, 3) := by decide +kernel
theorem dX11_write_42 : decode cX11_write 42 = .ok (.new 152, 3) := by decide +kernel
theorem dX11_write_45 : decode cX11_write 45 = .ok (.dup, 1) := by decide +kernel
theorem dX11_write_46 : decode cX11_write 46 = .ok (.ldc_w 376, 3) := by decide +kernel
theorem dX11_write_49 : decode cX11_write 49 = .ok (.invokespecial 156, 3) := by decide +kernel
theorem dX11_write_52 : decode cX11_write 52 = .ok (.athrow, 1) := by decide +kernel
theorem dX11_write_53 : decode cX11_write 53 = .ok (.aload_n 0, 1) := by decide +kernel
theorem dX11_write_54 : decode cX11_write 54 = .ok (.aload 4, 2) := by decide +kernel
theorem dX11_write_56 : decode cX11_write 56 = .ok (.aload 5, 2) := by decide +kernel
theorem dX11_write_58 : decode cX11_write 58 = .ok (.invokevirtual 378, 3) := by decide +kernel
theorem dX11_write_61 : decode cX11_write 61 = .ok (.ifCond .eq 14, 3) := by decide +kernel
theorem dX11_write_64 : decode cX11_write 64 = .ok (.aload_n 0, 1) := by decide +kernel
theorem dX11_write_65 : decode cX11_write 65 = .ok (.aload 4, 2) := by decide +kernel
theorem dX11_write_67 : decode cX11_write 67 = .ok (.iload_n 2, 1) := by decide +kernel
theorem dX11_write_68 : decode cX11_write 68 = .ok (.iconst 1, 1) := by decide +kernel
theorem dX11_write_69 : decode cX11_write 69 = .ok (.invokevirtual 382, 3) := by decide +kernel
theorem dX11_write_72 : decode cX11_write 72 = .ok (.ifCond .ne 5, 3) := by decide +kernel
theorem dX11_write_75 : decode cX11_write 75 = .ok (.iconst 0, 1) := by decide +kernel
theorem dX11_write_76 : decode cX11_write 76 = .ok (.ireturn, 1) := by decide +kernel
theorem dX11_write_77 : decode cX11_write 77 = .ok (.aload 4, 2) := by decide +kernel
theorem dX11_write_79 : decode cX11_write 79 = .ok (.getfield 348, 3) := by decide +kernel
theorem dX11_write_82 : decode cX11_write 82 = .ok (.iload_n 2, 1) := by decide +kernel
theorem dX11_write_83 : decode cX11_write 83 = .ok (.iconst 1, 1) := by decide +kernel
theorem dX11_write_84 : decode cX11_write 84 = .ok (.bastore, 1) := by decide +kernel
theorem dX11_write_85 : decode cX11_write 85 = .ok (.aload 4, 2) := by decide +kernel
theorem dX11_write_87 : decode cX11_write 87 = .ok (.getfield 352, 3) := by decide +kernel
theorem dX11_write_90 : decode cX11_write 90 = .ok (.iload_n 2, 1) := by decide +kernel
theorem dX11_write_91 : decode cX11_write 91 = .ok (.iload_n 3, 1) := by decide +kernel
theorem dX11_write_92 : decode cX11_write 92 = .ok (.iastore, 1) := by decide +kernel
theorem dX11_write_93 : decode cX11_write 93 = .ok (.iconst 1, 1) := by decide +kernel
theorem dX11_write_94 : decode cX11_write 94 = .ok (.ireturn, 1) := by decide +kernel
theorem dX11_ensure_0 : decode cX11_ensure 0 = .ok (.aload_n 0, 1) := by decide +kernel
theorem dX11_ensure_1 : decode cX11_ensure 1 = .ok (.iload_n 1, 1) := by decide +kernel
theorem dX11_ensure_2 : decode cX11_ensure 2 = .ok (.invokevirtual 327, 3) := by decide +kernel
theorem dX11_ensure_5 : decode cX11_ensure 5 = .ok (.astore_n 3, 1) := by decide +kernel
theorem dX11_ensure_6 : decode cX11_ensure 6 = .ok (.aload_n 0, 1) := by decide +kernel
theorem dX11_ensure_7 : decode cX11_ensure 7 = .ok (.iload_n 2, 1) := by decide +kernel
theorem dX11_ensure_8 : decode cX11_ensure 8 = .ok (.invokevirtual 340, 3) := by decide +kernel
theorem dX11_ensure_11 : decode cX11_ensure 11 = .ok (.astore 4, 2) := by decide +kernel
theorem dX11_ensure_13 : decode cX11_ensure 13 = .ok (.aload_n 3, 1) := by decide +kernel
theorem dX11_ensure_14 : decode cX11_ensure 14 = .ok (.invokestatic 344, 3) := by decide +kernel
theorem dX11_ensure_17 : decode cX11_ensure 17 = .ok (.aload_n 0, 1) := by decide +kernel
theorem dX11_ensure_18 : decode cX11_ensure 18 = .ok (.aload_n 3, 1) := by decide +kernel
theorem dX11_ensure_19 : decode cX11_ensure 19 = .ok (.aload 4, 2) := by decide +kernel
theorem dX11_ensure_21 : decode cX11_ensure 21 = .ok (.invokevirtual 378, 3) := by decide +kernel
theorem dX11_ensure_24 : decode cX11_ensure 24 = .ok (.ifCond .eq 13, 3) := by decide +kernel
theorem dX11_ensure_27 : decode cX11_ensure 27 = .ok (.aload_n 0, 1) := by decide +kernel
theorem dX11_ensure_28 : decode cX11_ensure 28 = .ok (.aload_n 3, 1) := by decide +kernel
theorem dX11_ensure_29 : decode cX11_ensure 29 = .ok (.iload_n 2, 1) := by decide +kernel
theorem dX11_ensure_30 : decode cX11_ensure 30 = .ok (.iconst 0, 1) := by decide +kernel
theorem dX11_ensure_31 : decode cX11_ensure 31 = .ok (.invokevirtual 382, 3) := by decide +kernel
theorem dX11_ensure_34 : decode cX11_ensure 34 = .ok (.ifCond .ne 5, 3) := by decide +kernel
theorem dX11_ensure_37 : decode cX11_ensure 37 = .ok (.iconst 0, 1) := by decide +kernel
theorem dX11_ensure_38 : decode cX11_ensure 38 = .ok (.ireturn, 1) := by decide +kernel
theorem dX11_ensure_39 : decode cX11_ensure 39 = .ok (.aload_n 3, 1) := by decide +kernel
theorem dX11_ensure_40 : decode cX11_ensure 40 = .ok (.getfield 386, 3) := by decide +kernel
theorem dX11_ensure_43 : decode cX11_ensure 43 = .ok (.iload_n 2, 1) := by decide +kernel
theorem dX11_ensure_44 : decode cX11_ensure 44 = .ok (.iconst 1, 1) := by decide +kernel
theorem dX11_ensure_45 : decode cX11_ensure 45 = .ok (.bastore, 1) := by decide +kernel
theorem dX11_ensure_46 : decode cX11_ensure 46 = .ok (.iconst 1, 1) := by decide +kernel
theorem dX11_ensure_47 : decode cX11_ensure 47 = .ok (.ireturn, 1) := by decide +kernel
theorem dX11_add_0 : decode cX11_add 0 = .ok (.aload_n 0, 1) := by decide +kernel
theorem dX11_add_1 : decode cX11_add 1 = .ok (.iload_n 1, 1) := by decide +kernel
theorem dX11_add_2 : decode cX11_add 2 = .ok (.invokevirtual 327, 3) := by decide +kernel
theorem dX11_add_5 : decode cX11_add 5 = .ok (.astore 4, 2) := by decide +kernel
theorem dX11_add_7 : decode cX11_add 7 = .ok (.aload_n 0, 1) := by decide +kernel
theorem dX11_add_8 : decode cX11_add 8 = .ok (.iload_n 2, 1) := by decide +kernel
theorem dX11_add_9 : decode cX11_add 9 = .ok (.invokevirtual 340, 3) := by decide +kernel
theorem dX11_add_12 : decode cX11_add 12 = .ok (.pop, 1) := by decide +kernel
theorem dX11_add_13 : decode cX11_add 13 = .ok (.aload 4, 2) := by decide +kernel
theorem dX11_add_15 : decode cX11_add 15 = .ok (.invokestatic 344, 3) := by decide +kernel
theorem dX11_add_18 : decode cX11_add 18 = .ok (.iload_n 3, 1) := by decide +kernel
theorem dX11_add_19 : decode cX11_add 19 = .ok (.bipush (-99), 2) := by decide +kernel
theorem dX11_add_21 : decode cX11_add 21 = .ok (.bipush 99, 2) := by decide +kernel
theorem dX11_add_23 : decode cX11_add 23 = .ok (.invokestatic 256, 3) := by decide +kernel
theorem dX11_add_26 : decode cX11_add 26 = .ok (.ifCond .ne 14, 3) := by decide +kernel
theorem dX11_add_29 : decode cX11_add 29 = .ok (.new 152, 3) := by decide +kernel
theorem dX11_add_32 : decode cX11_add 32 = .ok (.dup, 1) := by decide +kernel
theorem dX11_add_33 : decode cX11_add 33 = .ok (.ldc_w 281, 3) := by decide +kernel
theorem dX11_add_36 : decode cX11_add 36 = .ok (.invokespecial 156, 3) := by decide +kernel
theorem dX11_add_39 : decode cX11_add 39 = .ok (.athrow, 1) := by decide +kernel
theorem dX11_add_40 : decode cX11_add 40 = .ok (.aload 4, 2) := by decide +kernel
theorem dX11_add_42 : decode cX11_add 42 = .ok (.getfield 348, 3) := by decide +kernel
theorem dX11_add_45 : decode cX11_add 45 = .ok (.iload_n 2, 1) := by decide +kernel
theorem dX11_add_46 : decode cX11_add 46 = .ok (.baload, 1) := by decide +kernel
theorem dX11_add_47 : decode cX11_add 47 = .ok (.istore 5, 2) := by decide +kernel
theorem dX11_add_49 : decode cX11_add 49 = .ok (.iload 5, 2) := by decide +kernel
theorem dX11_add_51 : decode cX11_add 51 = .ok (.ifCond .eq 13, 3) := by decide +kernel
theorem dX11_add_54 : decode cX11_add 54 = .ok (.aload 4, 2) := by decide +kernel
theorem dX11_add_56 : decode cX11_add 56 = .ok (.getfield 352, 3) := by decide +kernel
theorem dX11_add_59 : decode cX11_add 59 = .ok (.iload_n 2, 1) := by decide +kernel
theorem dX11_add_60 : decode cX11_add 60 = .ok (.iaload, 1) := by decide +kernel
theorem dX11_add_61 : decode cX11_add 61 = .ok (.goto 10, 3) := by decide +kernel
theorem dX11_add_64 : decode cX11_add 64 = .ok (.aload 4, 2) := by decide +kernel
theorem dX11_add_66 : decode cX11_add 66 = .ok (.getfield 370, 3) := by decide +kernel
theorem dX11_add_69 : decode cX11_add 69 = .ok (.iload_n 2, 1) := by decide +kernel
theorem dX11_add_70 : decode cX11_add 70 = .ok (.iaload, 1) := by decide +kernel
theorem dX11_add_71 : decode cX11_add 71 = .ok (.iload_n 3, 1) := by decide +kernel
theorem dX11_add_72 : decode cX11_add 72 = .ok (.iadd, 1) := by decide +kernel
theorem dX11_add_73 : decode cX11_add 73 = .ok (.istore 6, 2) := by decide +kernel
theorem dX11_add_75 : decode cX11_add 75 = .ok (.iload 6, 2) := by decide +kernel
theorem dX11_add_77 : decode cX11_add 77 = .ok (.sipush (-999), 3) := by decide +kernel
theorem dX11_add_80 : decode cX11_add 80 = .ok (.sipush 999, 3) := by decide +kernel
theorem dX11_add_83 : decode cX11_add 83 = .ok (.invokestatic 256, 3) := by decide +kernel
theorem dX11_add_86 : decode cX11_add 86 = .ok (.ifCond .ne 14, 3) := by decide +kernel
theorem dX11_add_89 : decode cX11_add 89 = .ok (.new 152, 3) := by decide +kernel
theorem dX11_add_92 : decode cX11_add 92 = .ok (.dup, 1) := by decide +kernel
theorem dX11_add_93 : decode cX11_add 93 = .ok (.ldc_w 389, 3) := by decide +kernel
theorem dX11_add_96 : decode cX11_add 96 = .ok (.invokespecial 156, 3) := by decide +kernel
theorem dX11_add_99 : decode cX11_add 99 = .ok (.athrow, 1) := by decide +kernel
theorem dX11_add_100 : decode cX11_add 100 = .ok (.iload 5, 2) := by decide +kernel
theorem dX11_add_102 : decode cX11_add 102 = .ok (.ifCond .eq 15, 3) := by decide +kernel
theorem dX11_add_105 : decode cX11_add 105 = .ok (.aload 4, 2) := by decide +kernel
theorem dX11_add_107 : decode cX11_add 107 = .ok (.getfield 352, 3) := by decide +kernel
theorem dX11_add_110 : decode cX11_add 110 = .ok (.iload_n 2, 1) := by decide +kernel
theorem dX11_add_111 : decode cX11_add 111 = .ok (.iload 6, 2) := by decide +kernel
theorem dX11_add_113 : decode cX11_add 113 = .ok (.iastore, 1) := by decide +kernel
theorem dX11_add_114 : decode cX11_add 114 = .ok (.goto 20, 3) := by decide +kernel
theorem dX11_add_117 : decode cX11_add 117 = .ok (.aload 4, 2) := by decide +kernel
theorem dX11_add_119 : decode cX11_add 119 = .ok (.getfield 373, 3) := by decide +kernel
theorem dX11_add_122 : decode cX11_add 122 = .ok (.iload_n 2, 1) := by decide +kernel
theorem dX11_add_123 : decode cX11_add 123 = .ok (.iconst 1, 1) := by decide +kernel
theorem dX11_add_124 : decode cX11_add 124 = .ok (.bastore, 1) := by decide +kernel
theorem dX11_add_125 : decode cX11_add 125 = .ok (.aload 4, 2) := by decide +kernel
theorem dX11_add_127 : decode cX11_add 127 = .ok (.getfield 370, 3) := by decide +kernel
theorem dX11_add_130 : decode cX11_add 130 = .ok (.iload_n 2, 1) := by decide +kernel
theorem dX11_add_131 : decode cX11_add 131 = .ok (.iload 6, 2) := by decide +kernel
theorem dX11_add_133 : decode cX11_add 133 = .ok (.iastore, 1) := by decide +kernel
theorem dX11_add_134 : decode cX11_add 134 = .ok (.iconst 1, 1) := by decide +kernel
theorem dX11_add_135 : decode cX11_add 135 = .ok (.ireturn, 1) := by decide +kernel
theorem dX11_commit_0 : decode cX11_commit 0 = .ok (.aload_n 0, 1) := by decide +kernel
theorem dX11_commit_1 : decode cX11_commit 1 = .ok (.iload_n 1, 1) := by decide +kernel
theorem dX11_commit_2 : decode cX11_commit 2 = .ok (.invokevirtual 327, 3) := by decide +kernel
theorem dX11_commit_5 : decode cX11_commit 5 = .ok (.astore_n 2, 1) := by decide +kernel
theorem dX11_commit_6 : decode cX11_commit 6 = .ok (.aload_n 2, 1) := by decide +kernel
theorem dX11_commit_7 : decode cX11_commit 7 = .ok (.invokestatic 344, 3) := by decide +kernel
theorem dX11_commit_10 : decode cX11_commit 10 = .ok (.iconst 0, 1) := by decide +kernel
theorem dX11_commit_11 : decode cX11_commit 11 = .ok (.istore_n 3, 1) := by decide +kernel
theorem dX11_commit_12 : decode cX11_commit 12 = .ok (.iload_n 3, 1) := by decide +kernel
theorem dX11_commit_13 : decode cX11_commit 13 = .ok (.aload_n 0, 1) := by decide +kernel
theorem dX11_commit_14 : decode cX11_commit 14 = .ok (.getfield 44, 3) := by decide +kernel
theorem dX11_commit_17 : decode cX11_commit 17 = .ok (.if_icmp .ge 31, 3) := by decide +kernel
theorem dX11_commit_20 : decode cX11_commit 20 = .ok (.aload_n 2, 1) := by decide +kernel
theorem dX11_commit_21 : decode cX11_commit 21 = .ok (.getfield 373, 3) := by decide +kernel
theorem dX11_commit_24 : decode cX11_commit 24 = .ok (.iload_n 3, 1) := by decide +kernel
theorem dX11_commit_25 : decode cX11_commit 25 = .ok (.baload, 1) := by decide +kernel
theorem dX11_commit_26 : decode cX11_commit 26 = .ok (.ifCond .eq 16, 3) := by decide +kernel
theorem dX11_commit_29 : decode cX11_commit 29 = .ok (.aload_n 0, 1) := by decide +kernel
theorem dX11_commit_30 : decode cX11_commit 30 = .ok (.aload_n 2, 1) := by decide +kernel
theorem dX11_commit_31 : decode cX11_commit 31 = .ok (.iload_n 3, 1) := by decide +kernel
theorem dX11_commit_32 : decode cX11_commit 32 = .ok (.iconst 1, 1) := by decide +kernel
theorem dX11_commit_33 : decode cX11_commit 33 = .ok (.invokevirtual 382, 3) := by decide +kernel
theorem dX11_commit_36 : decode cX11_commit 36 = .ok (.ifCond .ne 6, 3) := by decide +kernel
theorem dX11_commit_39 : decode cX11_commit 39 = .ok (.bipush 115, 2) := by decide +kernel
theorem dX11_commit_41 : decode cX11_commit 41 = .ok (.ireturn, 1) := by decide +kernel
theorem dX11_commit_42 : decode cX11_commit 42 = .ok (.iinc 3 1, 3) := by decide +kernel
theorem dX11_commit_45 : decode cX11_commit 45 = .ok (.goto (-33), 3) := by decide +kernel
theorem dX11_commit_48 : decode cX11_commit 48 = .ok (.aload_n 0, 1) := by decide +kernel
theorem dX11_commit_49 : decode cX11_commit 49 = .ok (.aload_n 2, 1) := by decide +kernel
theorem dX11_commit_50 : decode cX11_commit 50 = .ok (.invokevirtual 391, 3) := by decide +kernel
theorem dX11_commit_53 : decode cX11_commit 53 = .ok (.ifCond .ne 10, 3) := by decide +kernel
theorem dX11_commit_56 : decode cX11_commit 56 = .ok (.aload_n 2, 1) := by decide +kernel
theorem dX11_commit_57 : decode cX11_commit 57 = .ok (.invokevirtual 395, 3) := by decide +kernel
theorem dX11_commit_60 : decode cX11_commit 60 = .ok (.bipush 98, 2) := by decide +kernel
theorem dX11_commit_62 : decode cX11_commit 62 = .ok (.ireturn, 1) := by decide +kernel
theorem dX11_commit_63 : decode cX11_commit 63 = .ok (.aload_n 0, 1) := by decide +kernel
theorem dX11_commit_64 : decode cX11_commit 64 = .ok (.aload_n 2, 1) := by decide +kernel
theorem dX11_commit_65 : decode cX11_commit 65 = .ok (.invokevirtual 398, 3) := by decide +kernel
theorem dX11_commit_68 : decode cX11_commit 68 = .ok (.ifCond .eq 8, 3) := by decide +kernel
theorem dX11_commit_71 : decode cX11_commit 71 = .ok (.aload_n 0, 1) := by decide +kernel
theorem dX11_commit_72 : decode cX11_commit 72 = .ok (.aload_n 2, 1) := by decide +kernel
theorem dX11_commit_73 : decode cX11_commit 73 = .ok (.invokevirtual 401, 3) := by decide +kernel
theorem dX11_commit_76 : decode cX11_commit 76 = .ok (.aload_n 0, 1) := by decide +kernel
theorem dX11_commit_77 : decode cX11_commit 77 = .ok (.aload_n 2, 1) := by decide +kernel
theorem dX11_commit_78 : decode cX11_commit 78 = .ok (.invokevirtual 404, 3) := by decide +kernel
theorem dX11_commit_81 : decode cX11_commit 81 = .ok (.aload_n 2, 1) := by decide +kernel
theorem dX11_commit_82 : decode cX11_commit 82 = .ok (.invokevirtual 395, 3) := by decide +kernel
theorem dX11_commit_85 : decode cX11_commit 85 = .ok (.bipush 99, 2) := by decide +kernel
theorem dX11_commit_87 : decode cX11_commit 87 = .ok (.ireturn, 1) := by decide +kernel
theorem dX11_end_0 : decode cX11_end 0 = .ok (.aload_n 0, 1) := by decide +kernel
theorem dX11_end_1 : decode cX11_end 1 = .ok (.iload_n 1, 1) := by decide +kernel
theorem dX11_end_2 : decode cX11_end 2 = .ok (.invokevirtual 327, 3) := by decide +kernel
theorem dX11_end_5 : decode cX11_end 5 = .ok (.astore_n 2, 1) := by decide +kernel
theorem dX11_end_6 : decode cX11_end 6 = .ok (.aload_n 2, 1) := by decide +kernel
theorem dX11_end_7 : decode cX11_end 7 = .ok (.invokestatic 344, 3) := by decide +kernel
theorem dX11_end_10 : decode cX11_end 10 = .ok (.aload_n 2, 1) := by decide +kernel
theorem dX11_end_11 : decode cX11_end 11 = .ok (.invokevirtual 395, 3) := by decide +kernel
theorem dX11_end_14 : decode cX11_end 14 = .ok (.aload_n 2, 1) := by decide +kernel
theorem dX11_end_15 : decode cX11_end 15 = .ok (.getfield 407, 3) := by decide +kernel
theorem dX11_end_18 : decode cX11_end 18 = .ok (.ireturn, 1) := by decide +kernel
theorem dX11_sentBack_0 : decode cX11_sentBack 0 = .ok (.aload_n 0, 1) := by decide +kernel
theorem dX11_sentBack_1 : decode cX11_sentBack 1 = .ok (.iload_n 1, 1) := by decide +kernel
theorem dX11_sentBack_2 : decode cX11_sentBack 2 = .ok (.invokevirtual 327, 3) := by decide +kernel
theorem dX11_sentBack_5 : decode cX11_sentBack 5 = .ok (.getfield 407, 3) := by decide +kernel
theorem dX11_sentBack_8 : decode cX11_sentBack 8 = .ok (.ireturn, 1) := by decide +kernel
theorem dX11_valueOf_0 : decode cX11_valueOf 0 = .ok (.aload_n 0, 1) := by decide +kernel
theorem dX11_valueOf_1 : decode cX11_valueOf 1 = .ok (.iload_n 1, 1) := by decide +kernel
theorem dX11_valueOf_2 : decode cX11_valueOf 2 = .ok (.invokevirtual 340, 3) := by decide +kernel
theorem dX11_valueOf_5 : decode cX11_valueOf 5 = .ok (.invokevirtual 410, 3) := by decide +kernel
theorem dX11_valueOf_8 : decode cX11_valueOf 8 = .ok (.ireturn, 1) := by decide +kernel
theorem dX11_valueByLog_0 : decode cX11_valueByLog 0 = .ok (.aload_n 0, 1) := by decide +kernel
theorem dX11_valueByLog_1 : decode cX11_valueByLog 1 = .ok (.iload_n 1, 1) := by decide +kernel
theorem dX11_valueByLog_2 : decode cX11_valueByLog 2 = .ok (.invokevirtual 340, 3) := by decide +kernel
theorem dX11_valueByLog_5 : decode cX11_valueByLog 5 = .ok (.getfield 414, 3) := by decide +kernel
theorem dX11_valueByLog_8 : decode cX11_valueByLog 8 = .ok (.istore_n 2, 1) := by decide +kernel
theorem dX11_valueByLog_9 : decode cX11_valueByLog 9 = .ok (.iconst 0, 1) := by decide +kernel
theorem dX11_valueByLog_10 : decode cX11_valueByLog 10 = .ok (.istore_n 3, 1) := by decide +kernel
theorem dX11_valueByLog_11 : decode cX11_valueByLog 11 = .ok (.iload_n 3, 1) := by decide +kernel
theorem dX11_valueByLog_12 : decode cX11_valueByLog 12 = .ok (.aload_n 0, 1) := by decide +kernel
theorem dX11_valueByLog_13 : decode cX11_valueByLog 13 = .ok (.getfield 62, 3) := by decide +kernel
theorem dX11_valueByLog_16 : decode cX11_valueByLog 16 = .ok (.invokevirtual 417, 3) := by decide +kernel
theorem dX11_valueByLog_19 : decode cX11_valueByLog 19 = .ok (.if_icmp .ge 37, 3) := by decide +kernel
theorem dX11_valueByLog_22 : decode cX11_valueByLog 22 = .ok (.aload_n 0, 1) := by decide +kernel
theorem dX11_valueByLog_23 : decode cX11_valueByLog 23 = .ok (.getfield 62, 3) := by decide +kernel
theorem dX11_valueByLog_26 : decode cX11_valueByLog 26 = .ok (.iload_n 3, 1) := by decide +kernel
theorem dX11_valueByLog_27 : decode cX11_valueByLog 27 = .ok (.invokevirtual 419, 3) := by decide +kernel
theorem dX11_valueByLog_30 : decode cX11_valueByLog 30 = .ok (.checkcast 423, 3) := by decide +kernel
theorem dX11_valueByLog_33 : decode cX11_valueByLog 33 = .ok (.astore 4, 2) := by decide +kernel
theorem dX11_valueByLog_35 : decode cX11_valueByLog 35 = .ok (.aload 4, 2) := by decide +kernel
theorem dX11_valueByLog_37 : decode cX11_valueByLog 37 = .ok (.getfield 425, 3) := by decide +kernel
theorem dX11_valueByLog_40 : decode cX11_valueByLog 40 = .ok (.iload_n 1, 1) := by decide +kernel
theorem dX11_valueByLog_41 : decode cX11_valueByLog 41 = .ok (.if_icmp .ne 9, 3) := by decide +kernel
theorem dX11_valueByLog_44 : decode cX11_valueByLog 44 = .ok (.aload 4, 2) := by decide +kernel
theorem dX11_valueByLog_46 : decode cX11_valueByLog 46 = .ok (.getfield 428, 3) := by decide +kernel
theorem dX11_valueByLog_49 : decode cX11_valueByLog 49 = .ok (.istore_n 2, 1) := by decide +kernel
theorem dX11_valueByLog_50 : decode cX11_valueByLog 50 = .ok (.iinc 3 1, 3) := by decide +kernel
theorem dX11_valueByLog_53 : decode cX11_valueByLog 53 = .ok (.goto (-42), 3) := by decide +kernel
theorem dX11_valueByLog_56 : decode cX11_valueByLog 56 = .ok (.iload_n 2, 1) := by decide +kernel
theorem dX11_valueByLog_57 : decode cX11_valueByLog 57 = .ok (.ireturn, 1) := by decide +kernel
theorem dX11_history_0 : decode cX11_history 0 = .ok (.aload_n 0, 1) := by decide +kernel
theorem dX11_history_1 : decode cX11_history 1 = .ok (.iload_n 1, 1) := by decide +kernel
theorem dX11_history_2 : decode cX11_history 2 = .ok (.invokevirtual 340, 3) := by decide +kernel
theorem dX11_history_5 : decode cX11_history 5 = .ok (.getfield 431, 3) := by decide +kernel
theorem dX11_history_8 : decode cX11_history 8 = .ok (.ireturn, 1) := by decide +kernel
theorem dX11_moment_0 : decode cX11_moment 0 = .ok (.aload_n 0, 1) := by decide +kernel
theorem dX11_moment_1 : decode cX11_moment 1 = .ok (.getfield 56, 3) := by decide +kernel
theorem dX11_moment_4 : decode cX11_moment 4 = .ok (.ireturn, 1) := by decide +kernel
theorem dX11_logged_0 : decode cX11_logged 0 = .ok (.aload_n 0, 1) := by decide +kernel
theorem dX11_logged_1 : decode cX11_logged 1 = .ok (.getfield 62, 3) := by decide +kernel
theorem dX11_logged_4 : decode cX11_logged 4 = .ok (.invokevirtual 417, 3) := by decide +kernel
theorem dX11_logged_7 : decode cX11_logged 7 = .ok (.ireturn, 1) := by decide +kernel
theorem dX11_logAt_0 : decode cX11_logAt 0 = .ok (.iload_n 1, 1) := by decide +kernel
theorem dX11_logAt_1 : decode cX11_logAt 1 = .ok (.ifCond .lt 14, 3) := by decide +kernel
theorem dX11_logAt_4 : decode cX11_logAt 4 = .ok (.iload_n 1, 1) := by decide +kernel
theorem dX11_logAt_5 : decode cX11_logAt 5 = .ok (.aload_n 0, 1) := by decide +kernel
theorem dX11_logAt_6 : decode cX11_logAt 6 = .ok (.getfield 62, 3) := by decide +kernel
theorem dX11_logAt_9 : decode cX11_logAt 9 = .ok (.invokevirtual 417, 3) := by decide +kernel
theorem dX11_logAt_12 : decode cX11_logAt 12 = .ok (.if_icmp .lt 14, 3) := by decide +kernel
theorem dX11_logAt_15 : decode cX11_logAt 15 = .ok (.new 434, 3) := by decide +kernel
theorem dX11_logAt_18 : decode cX11_logAt 18 = .ok (.dup, 1) := by decide +kernel
theorem dX11_logAt_19 : decode cX11_logAt 19 = .ok (.ldc_w 436, 3) := by decide +kernel
theorem dX11_logAt_22 : decode cX11_logAt 22 = .ok (.invokespecial 438, 3) := by decide +kernel
theorem dX11_logAt_25 : decode cX11_logAt 25 = .ok (.athrow, 1) := by decide +kernel
theorem dX11_logAt_26 : decode cX11_logAt 26 = .ok (.aload_n 0, 1) := by decide +kernel
theorem dX11_logAt_27 : decode cX11_logAt 27 = .ok (.getfield 62, 3) := by decide +kernel
theorem dX11_logAt_30 : decode cX11_logAt 30 = .ok (.iload_n 1, 1) := by decide +kernel
theorem dX11_logAt_31 : decode cX11_logAt 31 = .ok (.invokevirtual 419, 3) := by decide +kernel
theorem dX11_logAt_34 : decode cX11_logAt 34 = .ok (.checkcast 423, 3) := by decide +kernel
theorem dX11_logAt_37 : decode cX11_logAt 37 = .ok (.astore_n 3, 1) := by decide +kernel
theorem dX11_logAt_38 : decode cX11_logAt 38 = .ok (.iload_n 2, 1) := by decide +kernel
theorem dX11_logAt_39 : decode cX11_logAt 39 = .ok (.tableswitch 49 0 3 #[29, 34, 39, 44], 29) := by decide +kernel
theorem dX11_logAt_68 : decode cX11_logAt 68 = .ok (.aload_n 3, 1) := by decide +kernel
theorem dX11_logAt_69 : decode cX11_logAt 69 = .ok (.getfield 439, 3) := by decide +kernel
theorem dX11_logAt_72 : decode cX11_logAt 72 = .ok (.ireturn, 1) := by decide +kernel
theorem dX11_logAt_73 : decode cX11_logAt 73 = .ok (.aload_n 3, 1) := by decide +kernel
theorem dX11_logAt_74 : decode cX11_logAt 74 = .ok (.getfield 425, 3) := by decide +kernel
theorem dX11_logAt_77 : decode cX11_logAt 77 = .ok (.ireturn, 1) := by decide +kernel
theorem dX11_logAt_78 : decode cX11_logAt 78 = .ok (.aload_n 3, 1) := by decide +kernel
theorem dX11_logAt_79 : decode cX11_logAt 79 = .ok (.getfield 442, 3) := by decide +kernel
theorem dX11_logAt_82 : decode cX11_logAt 82 = .ok (.ireturn, 1) := by decide +kernel
theorem dX11_logAt_83 : decode cX11_logAt 83 = .ok (.aload_n 3, 1) := by decide +kernel
theorem dX11_logAt_84 : decode cX11_logAt 84 = .ok (.getfield 428, 3) := by decide +kernel
theorem dX11_logAt_87 : decode cX11_logAt 87 = .ok (.ireturn, 1) := by decide +kernel
theorem dX11_logAt_88 : decode cX11_logAt 88 = .ok (.new 189, 3) := by decide +kernel
theorem dX11_logAt_91 : decode cX11_logAt 91 = .ok (.dup, 1) := by decide +kernel
theorem dX11_logAt_92 : decode cX11_logAt 92 = .ok (.ldc_w 445, 3) := by decide +kernel
theorem dX11_logAt_95 : decode cX11_logAt 95 = .ok (.invokespecial 193, 3) := by decide +kernel
theorem dX11_logAt_98 : decode cX11_logAt 98 = .ok (.athrow, 1) := by decide +kernel
theorem dX11_addAgent_0 : decode cX11_addAgent 0 = .ok (.iload_n 1, 1) := by decide +kernel
theorem dX11_addAgent_1 : decode cX11_addAgent 1 = .ok (.iload_n 2, 1) := by decide +kernel
theorem dX11_addAgent_2 : decode cX11_addAgent 2 = .ok (.iload_n 3, 1) := by decide +kernel
theorem dX11_addAgent_3 : decode cX11_addAgent 3 = .ok (.invokestatic 317, 3) := by decide +kernel
theorem dX11_addAgent_6 : decode cX11_addAgent 6 = .ok (.iload 4, 2) := by decide +kernel
theorem dX11_addAgent_8 : decode cX11_addAgent 8 = .ok (.bipush 102, 2) := by decide +kernel
theorem dX11_addAgent_10 : decode cX11_addAgent 10 = .ok (.if_icmp .eq 21, 3) := by decide +kernel
theorem dX11_addAgent_13 : decode cX11_addAgent 13 = .ok (.iload 4, 2) := by decide +kernel
theorem dX11_addAgent_15 : decode cX11_addAgent 15 = .ok (.bipush 99, 2) := by decide +kernel
theorem dX11_addAgent_17 : decode cX11_addAgent 17 = .ok (.if_icmp .eq 14, 3) := by decide +kernel
theorem dX11_addAgent_20 : decode cX11_addAgent 20 = .ok (.new 189, 3) := by decide +kernel
theorem dX11_addAgent_23 : decode cX11_addAgent 23 = .ok (.dup, 1) := by decide +kernel
theorem dX11_addAgent_24 : decode cX11_addAgent 24 = .ok (.ldc_w 447, 3) := by decide +kernel
theorem dX11_addAgent_27 : decode cX11_addAgent 27 = .ok (.invokespecial 193, 3) := by decide +kernel
theorem dX11_addAgent_30 : decode cX11_addAgent 30 = .ok (.athrow, 1) := by decide +kernel
theorem dX11_addAgent_31 : decode cX11_addAgent 31 = .ok (.aload_n 0, 1) := by decide +kernel
theorem dX11_addAgent_32 : decode cX11_addAgent 32 = .ok (.getfield 72, 3) := by decide +kernel
theorem dX11_addAgent_35 : decode cX11_addAgent 35 = .ok (.iconst 4, 1) := by decide +kernel
theorem dX11_addAgent_36 : decode cX11_addAgent 36 = .ok (.if_icmp .lt 14, 3) := by decide +kernel
theorem dX11_addAgent_39 : decode cX11_addAgent 39 = .ok (.new 320, 3) := by decide +kernel
theorem dX11_addAgent_42 : decode cX11_addAgent 42 = .ok (.dup, 1) := by decide +kernel
theorem dX11_addAgent_43 : decode cX11_addAgent 43 = .ok (.ldc_w 449, 3) := by decide +kernel
theorem dX11_addAgent_46 : decode cX11_addAgent 46 = .ok (.invokespecial 324, 3) := by decide +kernel
theorem dX11_addAgent_49 : decode cX11_addAgent 49 = .ok (.athrow, 1) := by decide +kernel
theorem dX11_addAgent_50 : decode cX11_addAgent 50 = .ok (.aload_n 0, 1) := by decide +kernel
theorem dX11_addAgent_51 : decode cX11_addAgent 51 = .ok (.getfield 68, 3) := by decide +kernel
theorem dX11_addAgent_54 : decode cX11_addAgent 54 = .ok (.aload_n 0, 1) := by decide +kernel
theorem dX11_addAgent_55 : decode cX11_addAgent 55 = .ok (.getfield 72, 3) := by decide +kernel
theorem dX11_addAgent_58 : decode cX11_addAgent 58 = .ok (.new 66, 3) := by decide +kernel
theorem dX11_addAgent_61 : decode cX11_addAgent 61 = .ok (.dup, 1) := by decide +kernel
theorem dX11_addAgent_62 : decode cX11_addAgent 62 = .ok (.iload_n 1, 1) := by decide +kernel
theorem dX11_addAgent_63 : decode cX11_addAgent 63 = .ok (.iload_n 2, 1) := by decide +kernel
theorem dX11_addAgent_64 : decode cX11_addAgent 64 = .ok (.iload_n 3, 1) := by decide +kernel
theorem dX11_addAgent_65 : decode cX11_addAgent 65 = .ok (.iload 4, 2) := by decide +kernel
theorem dX11_addAgent_67 : decode cX11_addAgent 67 = .ok (.bipush 102, 2) := by decide +kernel
theorem dX11_addAgent_69 : decode cX11_addAgent 69 = .ok (.if_icmp .ne 7, 3) := by decide +kernel
theorem dX11_addAgent_72 : decode cX11_addAgent 72 = .ok (.iconst 1, 1) := by decide +kernel
theorem dX11_addAgent_73 : decode cX11_addAgent 73 = .ok (.goto 4, 3) := by decide +kernel
theorem dX11_addAgent_76 : decode cX11_addAgent 76 = .ok (.iconst 0, 1) := by decide +kernel
theorem dX11_addAgent_77 : decode cX11_addAgent 77 = .ok (.invokespecial 451, 3) := by decide +kernel
theorem dX11_addAgent_80 : decode cX11_addAgent 80 = .ok (.aastore, 1) := by decide +kernel
theorem dX11_addAgent_81 : decode cX11_addAgent 81 = .ok (.aload_n 0, 1) := by decide +kernel
theorem dX11_addAgent_82 : decode cX11_addAgent 82 = .ok (.dup, 1) := by decide +kernel
theorem dX11_addAgent_83 : decode cX11_addAgent 83 = .ok (.getfield 72, 3) := by decide +kernel
theorem dX11_addAgent_86 : decode cX11_addAgent 86 = .ok (.iconst 1, 1) := by decide +kernel
theorem dX11_addAgent_87 : decode cX11_addAgent 87 = .ok (.iadd, 1) := by decide +kernel
theorem dX11_addAgent_88 : decode cX11_addAgent 88 = .ok (.putfield 72, 3) := by decide +kernel
theorem dX11_addAgent_91 : decode cX11_addAgent 91 = .ok (.aload_n 0, 1) := by decide +kernel
theorem dX11_addAgent_92 : decode cX11_addAgent 92 = .ok (.getfield 72, 3) := by decide +kernel
theorem dX11_addAgent_95 : decode cX11_addAgent 95 = .ok (.iconst 1, 1) := by decide +kernel
theorem dX11_addAgent_96 : decode cX11_addAgent 96 = .ok (.isub, 1) := by decide +kernel
theorem dX11_addAgent_97 : decode cX11_addAgent 97 = .ok (.ireturn, 1) := by decide +kernel
theorem dX11_send_0 : decode cX11_send 0 = .ok (.iload_n 1, 1) := by decide +kernel
theorem dX11_send_1 : decode cX11_send 1 = .ok (.iconst (-1), 1) := by decide +kernel
theorem dX11_send_2 : decode cX11_send 2 = .ok (.if_icmp .ne 7, 3) := by decide +kernel
theorem dX11_send_5 : decode cX11_send 5 = .ok (.aconst_null, 1) := by decide +kernel
theorem dX11_send_6 : decode cX11_send 6 = .ok (.goto 8, 3) := by decide +kernel
theorem dX11_send_9 : decode cX11_send 9 = .ok (.aload_n 0, 1) := by decide +kernel
theorem dX11_send_10 : decode cX11_send 10 = .ok (.iload_n 1, 1) := by decide +kernel
theorem dX11_send_11 : decode cX11_send 11 = .ok (.invokevirtual 327, 3) := by decide +kernel
theorem dX11_send_14 : decode cX11_send 14 = .ok (.astore 4, 2) := by decide +kernel
theorem dX11_send_16 : decode cX11_send 16 = .ok (.iload_n 3, 1) := by decide +kernel
theorem dX11_send_17 : decode cX11_send 17 = .ok (.bipush (-99), 2) := by decide +kernel
theorem dX11_send_19 : decode cX11_send 19 = .ok (.bipush 99, 2) := by decide +kernel
theorem dX11_send_21 : decode cX11_send 21 = .ok (.invokestatic 256, 3) := by decide +kernel
theorem dX11_send_24 : decode cX11_send 24 = .ok (.ifCond .ne 14, 3) := by decide +kernel
theorem dX11_send_27 : decode cX11_send 27 = .ok (.new 189, 3) := by decide +kernel
theorem dX11_send_30 : decode cX11_send 30 = .ok (.dup, 1) := by decide +kernel
theorem dX11_send_31 : decode cX11_send 31 = .ok (.ldc_w 281, 3) := by decide +kernel
theorem dX11_send_34 : decode cX11_send 34 = .ok (.invokespecial 193, 3) := by decide +kernel
theorem dX11_send_37 : decode cX11_send 37 = .ok (.athrow, 1) := by decide +kernel
theorem dX11_send_38 : decode cX11_send 38 = .ok (.aload_n 0, 1) := by decide +kernel
theorem dX11_send_39 : decode cX11_send 39 = .ok (.iload_n 2, 1) := by decide +kernel
theorem dX11_send_40 : decode cX11_send 40 = .ok (.invokevirtual 454, 3) := by decide +kernel
theorem dX11_send_43 : decode cX11_send 43 = .ok (.astore 5, 2) := by decide +kernel
theorem dX11_send_45 : decode cX11_send 45 = .ok (.aload 4, 2) := by decide +kernel
theorem dX11_send_47 : decode cX11_send 47 = .ok (.ifnonnull 15, 3) := by decide +kernel
theorem dX11_send_50 : decode cX11_send 50 = .ok (.aload 5, 2) := by decide +kernel
theorem dX11_send_52 : decode cX11_send 52 = .ok (.getfield 458, 3) := by decide +kernel
theorem dX11_send_55 : decode cX11_send 55 = .ok (.iload_n 3, 1) := by decide +kernel
theorem dX11_send_56 : decode cX11_send 56 = .ok (.invokevirtual 462, 3) := by decide +kernel
theorem dX11_send_59 : decode cX11_send 59 = .ok (.goto 19, 3) := by decide +kernel
theorem dX11_send_62 : decode cX11_send 62 = .ok (.aload 4, 2) := by decide +kernel
theorem dX11_send_64 : decode cX11_send 64 = .ok (.invokestatic 344, 3) := by decide +kernel
theorem dX11_send_67 : decode cX11_send 67 = .ok (.aload 4, 2) := by decide +kernel
theorem dX11_send_69 : decode cX11_send 69 = .ok (.getfield 467, 3) := by decide +kernel
theorem dX11_send_72 : decode cX11_send 72 = .ok (.iload_n 2, 1) := by decide +kernel
theorem dX11_send_73 : decode cX11_send 73 = .ok (.aaload, 1) := by decide +kernel
theorem dX11_send_74 : decode cX11_send 74 = .ok (.iload_n 3, 1) := by decide +kernel
theorem dX11_send_75 : decode cX11_send 75 = .ok (.invokevirtual 462, 3) := by decide +kernel
theorem dX11_send_78 : decode cX11_send 78 = .ok (.aload 5, 2) := by decide +kernel
theorem dX11_send_80 : decode cX11_send 80 = .ok (.getfield 458, 3) := by decide +kernel
theorem dX11_send_83 : decode cX11_send 83 = .ok (.getfield 471, 3) := by decide +kernel
theorem dX11_send_86 : decode cX11_send 86 = .ok (.ireturn, 1) := by decide +kernel
theorem dX11_act_0 : decode cX11_act 0 = .ok (.aload_n 0, 1) := by decide +kernel
theorem dX11_act_1 : decode cX11_act 1 = .ok (.iload_n 1, 1) := by decide +kernel
theorem dX11_act_2 : decode cX11_act 2 = .ok (.invokevirtual 454, 3) := by decide +kernel
theorem dX11_act_5 : decode cX11_act 5 = .ok (.astore_n 2, 1) := by decide +kernel
theorem dX11_act_6 : decode cX11_act 6 = .ok (.aload_n 2, 1) := by decide +kernel
theorem dX11_act_7 : decode cX11_act 7 = .ok (.getfield 458, 3) := by decide +kernel
theorem dX11_act_10 : decode cX11_act 10 = .ok (.getfield 471, 3) := by decide +kernel
theorem dX11_act_13 : decode cX11_act 13 = .ok (.ifCond .ne 14, 3) := by decide +kernel
theorem dX11_act_16 : decode cX11_act 16 = .ok (.new 137, 3) := by decide +kernel
theorem dX11_act_19 : decode cX11_act 19 = .ok (.dup, 1) := by decide +kernel
theorem dX11_act_20 : decode cX11_act 20 = .ok (.ldc_w 472, 3) := by decide +kernel
theorem dX11_act_23 : decode cX11_act 23 = .ok (.invokespecial 141, 3) := by decide +kernel
theorem dX11_act_26 : decode cX11_act 26 = .ok (.athrow, 1) := by decide +kernel
theorem dX11_act_27 : decode cX11_act 27 = .ok (.aload_n 2, 1) := by decide +kernel
theorem dX11_act_28 : decode cX11_act 28 = .ok (.getfield 474, 3) := by decide +kernel
theorem dX11_act_31 : decode cX11_act 31 = .ok (.ifCond .eq 14, 3) := by decide +kernel
theorem dX11_act_34 : decode cX11_act 34 = .ok (.new 320, 3) := by decide +kernel
theorem dX11_act_37 : decode cX11_act 37 = .ok (.dup, 1) := by decide +kernel
theorem dX11_act_38 : decode cX11_act 38 = .ok (.ldc_w 477, 3) := by decide +kernel
theorem dX11_act_41 : decode cX11_act 41 = .ok (.invokespecial 324, 3) := by decide +kernel
theorem dX11_act_44 : decode cX11_act 44 = .ok (.athrow, 1) := by decide +kernel
theorem dX11_act_45 : decode cX11_act 45 = .ok (.aload_n 2, 1) := by decide +kernel
theorem dX11_act_46 : decode cX11_act 46 = .ok (.invokevirtual 479, 3) := by decide +kernel
theorem dX11_act_49 : decode cX11_act 49 = .ok (.aload_n 2, 1) := by decide +kernel
theorem dX11_act_50 : decode cX11_act 50 = .ok (.getfield 482, 3) := by decide +kernel
theorem dX11_act_53 : decode cX11_act 53 = .ok (.ireturn, 1) := by decide +kernel
theorem dX11_beginAnew_0 : decode cX11_beginAnew 0 = .ok (.aload_n 0, 1) := by decide +kernel
theorem dX11_beginAnew_1 : decode cX11_beginAnew 1 = .ok (.iload_n 1, 1) := by decide +kernel
theorem dX11_beginAnew_2 : decode cX11_beginAnew 2 = .ok (.invokevirtual 454, 3) := by decide +kernel
theorem dX11_beginAnew_5 : decode cX11_beginAnew 5 = .ok (.astore_n 3, 1) := by decide +kernel
theorem dX11_beginAnew_6 : decode cX11_beginAnew 6 = .ok (.iload_n 2, 1) := by decide +kernel
theorem dX11_beginAnew_7 : decode cX11_beginAnew 7 = .ok (.aload_n 3, 1) := by decide +kernel
theorem dX11_beginAnew_8 : decode cX11_beginAnew 8 = .ok (.getfield 485, 3) := by decide +kernel
theorem dX11_beginAnew_11 : decode cX11_beginAnew 11 = .ok (.aload_n 3, 1) := by decide +kernel
theorem dX11_beginAnew_12 : decode cX11_beginAnew 12 = .ok (.getfield 488, 3) := by decide +kernel
theorem dX11_beginAnew_15 : decode cX11_beginAnew 15 = .ok (.invokestatic 256, 3) := by decide +kernel
theorem dX11_beginAnew_18 : decode cX11_beginAnew 18 = .ok (.ifCond .ne 14, 3) := by decide +kernel
theorem dX11_beginAnew_21 : decode cX11_beginAnew 21 = .ok (.new 189, 3) := by decide +kernel
theorem dX11_beginAnew_24 : decode cX11_beginAnew 24 = .ok (.dup, 1) := by decide +kernel
theorem dX11_beginAnew_25 : decode cX11_beginAnew 25 = .ok (.ldc_w 491, 3) := by decide +kernel
theorem dX11_beginAnew_28 : decode cX11_beginAnew 28 = .ok (.invokespecial 193, 3) := by decide +kernel
theorem dX11_beginAnew_31 : decode cX11_beginAnew 31 = .ok (.athrow, 1) := by decide +kernel
theorem dX11_beginAnew_32 : decode cX11_beginAnew 32 = .ok (.aload_n 3, 1) := by decide +kernel
theorem dX11_beginAnew_33 : decode cX11_beginAnew 33 = .ok (.getfield 474, 3) := by decide +kernel
theorem dX11_beginAnew_36 : decode cX11_beginAnew 36 = .ok (.ifCond .ne 14, 3) := by decide +kernel
theorem dX11_beginAnew_39 : decode cX11_beginAnew 39 = .ok (.new 320, 3) := by decide +kernel
theorem dX11_beginAnew_42 : decode cX11_beginAnew 42 = .ok (.dup, 1) := by decide +kernel
theorem dX11_beginAnew_43 : decode cX11_beginAnew 43 = .ok (.ldc_w 493, 3) := by decide +kernel
theorem dX11_beginAnew_46 : decode cX11_beginAnew 46 = .ok (.invokespecial 324, 3) := by decide +kernel
theorem dX11_beginAnew_49 : decode cX11_beginAnew 49 = .ok (.athrow, 1) := by decide +kernel
theorem dX11_beginAnew_50 : decode cX11_beginAnew 50 = .ok (.aload_n 3, 1) := by decide +kernel
theorem dX11_beginAnew_51 : decode cX11_beginAnew 51 = .ok (.getfield 482, 3) := by decide +kernel
theorem dX11_beginAnew_54 : decode cX11_beginAnew 54 = .ok (.istore 4, 2) := by decide +kernel
theorem dX11_beginAnew_56 : decode cX11_beginAnew 56 = .ok (.aload_n 3, 1) := by decide +kernel
theorem dX11_beginAnew_57 : decode cX11_beginAnew 57 = .ok (.iload_n 2, 1) := by decide +kernel
theorem dX11_beginAnew_58 : decode cX11_beginAnew 58 = .ok (.putfield 482, 3) := by decide +kernel
theorem dX11_beginAnew_61 : decode cX11_beginAnew 61 = .ok (.aload_n 3, 1) := by decide +kernel
theorem dX11_beginAnew_62 : decode cX11_beginAnew 62 = .ok (.iconst 0, 1) := by decide +kernel
theorem dX11_beginAnew_63 : decode cX11_beginAnew 63 = .ok (.putfield 474, 3) := by decide +kernel
theorem dX11_beginAnew_66 : decode cX11_beginAnew 66 = .ok (.iload 4, 2) := by decide +kernel
theorem dX11_beginAnew_68 : decode cX11_beginAnew 68 = .ok (.ireturn, 1) := by decide +kernel
theorem dX11_errors_0 : decode cX11_errors 0 = .ok (.aload_n 0, 1) := by decide +kernel
theorem dX11_errors_1 : decode cX11_errors 1 = .ok (.iload_n 1, 1) := by decide +kernel
theorem dX11_errors_2 : decode cX11_errors 2 = .ok (.invokevirtual 454, 3) := by decide +kernel
theorem dX11_errors_5 : decode cX11_errors 5 = .ok (.getfield 495, 3) := by decide +kernel
theorem dX11_errors_8 : decode cX11_errors 8 = .ok (.ireturn, 1) := by decide +kernel
theorem dX11_sharing_0 : decode cX11_sharing 0 = .ok (.iconst 0, 1) := by decide +kernel
theorem dX11_sharing_1 : decode cX11_sharing 1 = .ok (.istore_n 1, 1) := by decide +kernel
theorem dX11_sharing_2 : decode cX11_sharing 2 = .ok (.iconst 0, 1) := by decide +kernel
theorem dX11_sharing_3 : decode cX11_sharing 3 = .ok (.istore_n 2, 1) := by decide +kernel
theorem dX11_sharing_4 : decode cX11_sharing 4 = .ok (.aload_n 0, 1) := by decide +kernel
theorem dX11_sharing_5 : decode cX11_sharing 5 = .ok (.dup, 1) := by decide +kernel
theorem dX11_sharing_6 : decode cX11_sharing 6 = .ok (.getfield 26, 3) := by decide +kernel
theorem dX11_sharing_9 : decode cX11_sharing 9 = .ok (.iconst 1, 1) := by decide +kernel
theorem dX11_sharing_10 : decode cX11_sharing 10 = .ok (.iadd, 1) := by decide +kernel
theorem dX11_sharing_11 : decode cX11_sharing 11 = .ok (.putfield 26, 3) := by decide +kernel
theorem dX11_sharing_14 : decode cX11_sharing 14 = .ok (.iconst 0, 1) := by decide +kernel
theorem dX11_sharing_15 : decode cX11_sharing 15 = .ok (.istore_n 3, 1) := by decide +kernel
theorem dX11_sharing_16 : decode cX11_sharing 16 = .ok (.iload_n 3, 1) := by decide +kernel
theorem dX11_sharing_17 : decode cX11_sharing 17 = .ok (.aload_n 0, 1) := by decide +kernel
theorem dX11_sharing_18 : decode cX11_sharing 18 = .ok (.getfield 15, 3) := by decide +kernel
theorem dX11_sharing_21 : decode cX11_sharing 21 = .ok (.if_icmp .ge 41, 3) := by decide +kernel
theorem dX11_sharing_24 : decode cX11_sharing 24 = .ok (.aload_n 0, 1) := by decide +kernel
theorem dX11_sharing_25 : decode cX11_sharing 25 = .ok (.iload_n 3, 1) := by decide +kernel
theorem dX11_sharing_26 : decode cX11_sharing 26 = .ok (.invokevirtual 87, 3) := by decide +kernel
theorem dX11_sharing_29 : decode cX11_sharing 29 = .ok (.getfield 116, 3) := by decide +kernel
theorem dX11_sharing_32 : decode cX11_sharing 32 = .ok (.astore 4, 2) := by decide +kernel
theorem dX11_sharing_34 : decode cX11_sharing 34 = .ok (.iload_n 1, 1) := by decide +kernel
theorem dX11_sharing_35 : decode cX11_sharing 35 = .ok (.aload 4, 2) := by decide +kernel
theorem dX11_sharing_37 : decode cX11_sharing 37 = .ok (.aload_n 0, 1) := by decide +kernel
theorem dX11_sharing_38 : decode cX11_sharing 38 = .ok (.getfield 26, 3) := by decide +kernel
theorem dX11_sharing_41 : decode cX11_sharing 41 = .ok (.iconst 1, 1) := by decide +kernel
theorem dX11_sharing_42 : decode cX11_sharing 42 = .ok (.invokestatic 244, 3) := by decide +kernel
theorem dX11_sharing_45 : decode cX11_sharing 45 = .ok (.iadd, 1) := by decide +kernel
theorem dX11_sharing_46 : decode cX11_sharing 46 = .ok (.istore_n 1, 1) := by decide +kernel
theorem dX11_sharing_47 : decode cX11_sharing 47 = .ok (.iload_n 2, 1) := by decide +kernel
theorem dX11_sharing_48 : decode cX11_sharing 48 = .ok (.aload 4, 2) := by decide +kernel
theorem dX11_sharing_50 : decode cX11_sharing 50 = .ok (.iconst 1, 1) := by decide +kernel
theorem dX11_sharing_51 : decode cX11_sharing 51 = .ok (.invokestatic 240, 3) := by decide +kernel
theorem dX11_sharing_54 : decode cX11_sharing 54 = .ok (.iadd, 1) := by decide +kernel
theorem dX11_sharing_55 : decode cX11_sharing 55 = .ok (.istore_n 2, 1) := by decide +kernel
theorem dX11_sharing_56 : decode cX11_sharing 56 = .ok (.iinc 3 1, 3) := by decide +kernel
theorem dX11_sharing_59 : decode cX11_sharing 59 = .ok (.goto (-43), 3) := by decide +kernel
theorem dX11_sharing_62 : decode cX11_sharing 62 = .ok (.iload_n 2, 1) := by decide +kernel
theorem dX11_sharing_63 : decode cX11_sharing 63 = .ok (.ifCond .ne 14, 3) := by decide +kernel
theorem dX11_sharing_66 : decode cX11_sharing 66 = .ok (.new 137, 3) := by decide +kernel
theorem dX11_sharing_69 : decode cX11_sharing 69 = .ok (.dup, 1) := by decide +kernel
theorem dX11_sharing_70 : decode cX11_sharing 70 = .ok (.ldc_w 498, 3) := by decide +kernel
theorem dX11_sharing_73 : decode cX11_sharing 73 = .ok (.invokespecial 141, 3) := by decide +kernel
theorem dX11_sharing_76 : decode cX11_sharing 76 = .ok (.athrow, 1) := by decide +kernel
theorem dX11_sharing_77 : decode cX11_sharing 77 = .ok (.iload_n 1, 1) := by decide +kernel
theorem dX11_sharing_78 : decode cX11_sharing 78 = .ok (.i2f, 1) := by decide +kernel
theorem dX11_sharing_79 : decode cX11_sharing 79 = .ok (.iload_n 2, 1) := by decide +kernel
theorem dX11_sharing_80 : decode cX11_sharing 80 = .ok (.i2f, 1) := by decide +kernel
theorem dX11_sharing_81 : decode cX11_sharing 81 = .ok (.fdiv, 1) := by decide +kernel
theorem dX11_sharing_82 : decode cX11_sharing 82 = .ok (.freturn, 1) := by decide +kernel
theorem dX11_valueNumbered_0 : decode cX11_valueNumbered 0 = .ok (.iload_n 1, 1) := by decide +kernel
theorem dX11_valueNumbered_1 : decode cX11_valueNumbered 1 = .ok (.ifCond .lt 11, 3) := by decide +kernel
theorem dX11_valueNumbered_4 : decode cX11_valueNumbered 4 = .ok (.iload_n 1, 1) := by decide +kernel
theorem dX11_valueNumbered_5 : decode cX11_valueNumbered 5 = .ok (.aload_n 0, 1) := by decide +kernel
theorem dX11_valueNumbered_6 : decode cX11_valueNumbered 6 = .ok (.getfield 15, 3) := by decide +kernel
theorem dX11_valueNumbered_9 : decode cX11_valueNumbered 9 = .ok (.if_icmp .lt 7, 3) := by decide +kernel
theorem dX11_valueNumbered_12 : decode cX11_valueNumbered 12 = .ok (.aconst_null, 1) := by decide +kernel
theorem dX11_valueNumbered_13 : decode cX11_valueNumbered 13 = .ok (.goto 9, 3) := by decide +kernel
theorem dX11_valueNumbered_16 : decode cX11_valueNumbered 16 = .ok (.aload_n 0, 1) := by decide +kernel
theorem dX11_valueNumbered_17 : decode cX11_valueNumbered 17 = .ok (.getfield 11, 3) := by decide +kernel
theorem dX11_valueNumbered_20 : decode cX11_valueNumbered 20 = .ok (.iload_n 1, 1) := by decide +kernel
theorem dX11_valueNumbered_21 : decode cX11_valueNumbered 21 = .ok (.aaload, 1) := by decide +kernel
theorem dX11_valueNumbered_22 : decode cX11_valueNumbered 22 = .ok (.astore_n 2, 1) := by decide +kernel
theorem dX11_valueNumbered_23 : decode cX11_valueNumbered 23 = .ok (.aload_n 2, 1) := by decide +kernel
theorem dX11_valueNumbered_24 : decode cX11_valueNumbered 24 = .ok (.ifnonnull 14, 3) := by decide +kernel
theorem dX11_valueNumbered_27 : decode cX11_valueNumbered 27 = .ok (.new 434, 3) := by decide +kernel
theorem dX11_valueNumbered_30 : decode cX11_valueNumbered 30 = .ok (.dup, 1) := by decide +kernel
theorem dX11_valueNumbered_31 : decode cX11_valueNumbered 31 = .ok (.ldc_w 500, 3) := by decide +kernel
theorem dX11_valueNumbered_34 : decode cX11_valueNumbered 34 = .ok (.invokespecial 438, 3) := by decide +kernel
theorem dX11_valueNumbered_37 : decode cX11_valueNumbered 37 = .ok (.athrow, 1) := by decide +kernel
theorem dX11_valueNumbered_38 : decode cX11_valueNumbered 38 = .ok (.aload_n 2, 1) := by decide +kernel
theorem dX11_valueNumbered_39 : decode cX11_valueNumbered 39 = .ok (.areturn, 1) := by decide +kernel
theorem dX11_refuseMoreValues_0 : decode cX11_refuseMoreValues 0 = .ok (.aload_n 0, 1) := by decide +kernel
theorem dX11_refuseMoreValues_1 : decode cX11_refuseMoreValues 1 = .ok (.getfield 15, 3) := by decide +kernel
theorem dX11_refuseMoreValues_4 : decode cX11_refuseMoreValues 4 = .ok (.bipush 60, 2) := by decide +kernel
theorem dX11_refuseMoreValues_6 : decode cX11_refuseMoreValues 6 = .ok (.if_icmp .lt 14, 3) := by decide +kernel
theorem dX11_refuseMoreValues_9 : decode cX11_refuseMoreValues 9 = .ok (.new 320, 3) := by decide +kernel
theorem dX11_refuseMoreValues_12 : decode cX11_refuseMoreValues 12 = .ok (.dup, 1) := by decide +kernel
theorem dX11_refuseMoreValues_13 : decode cX11_refuseMoreValues 13 = .ok (.ldc_w 502, 3) := by decide +kernel
theorem dX11_refuseMoreValues_16 : decode cX11_refuseMoreValues 16 = .ok (.invokespecial 324, 3) := by decide +kernel
theorem dX11_refuseMoreValues_19 : decode cX11_refuseMoreValues 19 = .ok (.athrow, 1) := by decide +kernel
theorem dX11_refuseMoreValues_20 : decode cX11_refuseMoreValues 20 = .ok (.return_, 1) := by decide +kernel
theorem dX11_refuseElement_0 : decode cX11_refuseElement 0 = .ok (.iload_n 0, 1) := by decide +kernel
theorem dX11_refuseElement_1 : decode cX11_refuseElement 1 = .ok (.sipush (-999), 3) := by decide +kernel
theorem dX11_refuseElement_4 : decode cX11_refuseElement 4 = .ok (.sipush 999, 3) := by decide +kernel
theorem dX11_refuseElement_7 : decode cX11_refuseElement 7 = .ok (.invokestatic 256, 3) := by decide +kernel
theorem dX11_refuseElement_10 : decode cX11_refuseElement 10 = .ok (.ifCond .ne 14, 3) := by decide +kernel
theorem dX11_refuseElement_13 : decode cX11_refuseElement 13 = .ok (.new 189, 3) := by decide +kernel
theorem dX11_refuseElement_16 : decode cX11_refuseElement 16 = .ok (.dup, 1) := by decide +kernel
theorem dX11_refuseElement_17 : decode cX11_refuseElement 17 = .ok (.ldc_w 504, 3) := by decide +kernel
theorem dX11_refuseElement_20 : decode cX11_refuseElement 20 = .ok (.invokespecial 193, 3) := by decide +kernel
theorem dX11_refuseElement_23 : decode cX11_refuseElement 23 = .ok (.athrow, 1) := by decide +kernel
theorem dX11_refuseElement_24 : decode cX11_refuseElement 24 = .ok (.return_, 1) := by decide +kernel
theorem dX11_refuseUnless_0 : decode cX11_refuseUnless 0 = .ok (.aload_n 0, 1) := by decide +kernel
theorem dX11_refuseUnless_1 : decode cX11_refuseUnless 1 = .ok (.getfield 179, 3) := by decide +kernel
theorem dX11_refuseUnless_4 : decode cX11_refuseUnless 4 = .ok (.iload_n 1, 1) := by decide +kernel
theorem dX11_refuseUnless_5 : decode cX11_refuseUnless 5 = .ok (.if_icmp .eq 14, 3) := by decide +kernel
theorem dX11_refuseUnless_8 : decode cX11_refuseUnless 8 = .ok (.new 152, 3) := by decide +kernel
theorem dX11_refuseUnless_11 : decode cX11_refuseUnless 11 = .ok (.dup, 1) := by decide +kernel
theorem dX11_refuseUnless_12 : decode cX11_refuseUnless 12 = .ok (.ldc_w 506, 3) := by decide +kernel
theorem dX11_refuseUnless_15 : decode cX11_refuseUnless 15 = .ok (.invokespecial 156, 3) := by decide +kernel
theorem dX11_refuseUnless_18 : decode cX11_refuseUnless 18 = .ok (.athrow, 1) := by decide +kernel
theorem dX11_refuseUnless_19 : decode cX11_refuseUnless 19 = .ok (.return_, 1) := by decide +kernel
theorem dX11_refuseFull_0 : decode cX11_refuseFull 0 = .ok (.aload_n 0, 1) := by decide +kernel
theorem dX11_refuseFull_1 : decode cX11_refuseFull 1 = .ok (.getfield 103, 3) := by decide +kernel
theorem dX11_refuseFull_4 : decode cX11_refuseFull 4 = .ok (.bipush 64, 2) := by decide +kernel
theorem dX11_refuseFull_6 : decode cX11_refuseFull 6 = .ok (.if_icmp .lt 14, 3) := by decide +kernel
theorem dX11_refuseFull_9 : decode cX11_refuseFull 9 = .ok (.new 152, 3) := by decide +kernel
theorem dX11_refuseFull_12 : decode cX11_refuseFull 12 = .ok (.dup, 1) := by decide +kernel
theorem dX11_refuseFull_13 : decode cX11_refuseFull 13 = .ok (.ldc_w 508, 3) := by decide +kernel
theorem dX11_refuseFull_16 : decode cX11_refuseFull 16 = .ok (.invokespecial 156, 3) := by decide +kernel
theorem dX11_refuseFull_19 : decode cX11_refuseFull 19 = .ok (.athrow, 1) := by decide +kernel
theorem dX11_refuseFull_20 : decode cX11_refuseFull 20 = .ok (.return_, 1) := by decide +kernel
theorem dX11_refusePlace_0 : decode cX11_refusePlace 0 = .ok (.iload_n 1, 1) := by decide +kernel
theorem dX11_refusePlace_1 : decode cX11_refusePlace 1 = .ok (.ifCond .lt 11, 3) := by decide +kernel
theorem dX11_refusePlace_4 : decode cX11_refusePlace 4 = .ok (.iload_n 1, 1) := by decide +kernel
theorem dX11_refusePlace_5 : decode cX11_refusePlace 5 = .ok (.aload_n 0, 1) := by decide +kernel
theorem dX11_refusePlace_6 : decode cX11_refusePlace 6 = .ok (.getfield 103, 3) := by decide +kernel
theorem dX11_refusePlace_9 : decode cX11_refusePlace 9 = .ok (.if_icmp .lt 14, 3) := by decide +kernel
theorem dX11_refusePlace_12 : decode cX11_refusePlace 12 = .ok (.new 137, 3) := by decide +kernel
theorem dX11_refusePlace_15 : decode cX11_refusePlace 15 = .ok (.dup, 1) := by decide +kernel
theorem dX11_refusePlace_16 : decode cX11_refusePlace 16 = .ok (.ldc_w 510, 3) := by decide +kernel
theorem dX11_refusePlace_19 : decode cX11_refusePlace 19 = .ok (.invokespecial 141, 3) := by decide +kernel
theorem dX11_refusePlace_22 : decode cX11_refusePlace 22 = .ok (.athrow, 1) := by decide +kernel
theorem dX11_refusePlace_23 : decode cX11_refusePlace 23 = .ok (.return_, 1) := by decide +kernel
theorem dX11_isWithin_0 : decode cX11_isWithin 0 = .ok (.iload_n 0, 1) := by decide +kernel
theorem dX11_isWithin_1 : decode cX11_isWithin 1 = .ok (.iload_n 1, 1) := by decide +kernel
theorem dX11_isWithin_2 : decode cX11_isWithin 2 = .ok (.if_icmp .lt 12, 3) := by decide +kernel
theorem dX11_isWithin_5 : decode cX11_isWithin 5 = .ok (.iload_n 0, 1) := by decide +kernel
theorem dX11_isWithin_6 : decode cX11_isWithin 6 = .ok (.iload_n 2, 1) := by decide +kernel
theorem dX11_isWithin_7 : decode cX11_isWithin 7 = .ok (.if_icmp .gt 7, 3) := by decide +kernel
theorem dX11_isWithin_10 : decode cX11_isWithin 10 = .ok (.iconst 1, 1) := by decide +kernel
theorem dX11_isWithin_11 : decode cX11_isWithin 11 = .ok (.goto 4, 3) := by decide +kernel
theorem dX11_isWithin_14 : decode cX11_isWithin 14 = .ok (.iconst 0, 1) := by decide +kernel
theorem dX11_isWithin_15 : decode cX11_isWithin 15 = .ok (.ireturn, 1) := by decide +kernel
theorem dX11_keep_0 : decode cX11_keep 0 = .ok (.aload_n 0, 1) := by decide +kernel
theorem dX11_keep_1 : decode cX11_keep 1 = .ok (.getfield 11, 3) := by decide +kernel
theorem dX11_keep_4 : decode cX11_keep 4 = .ok (.aload_n 0, 1) := by decide +kernel
theorem dX11_keep_5 : decode cX11_keep 5 = .ok (.getfield 15, 3) := by decide +kernel
theorem dX11_keep_8 : decode cX11_keep 8 = .ok (.aload_n 1, 1) := by decide +kernel
theorem dX11_keep_9 : decode cX11_keep 9 = .ok (.aastore, 1) := by decide +kernel
theorem dX11_keep_10 : decode cX11_keep 10 = .ok (.aload_n 0, 1) := by decide +kernel
theorem dX11_keep_11 : decode cX11_keep 11 = .ok (.dup, 1) := by decide +kernel
theorem dX11_keep_12 : decode cX11_keep 12 = .ok (.getfield 15, 3) := by decide +kernel
theorem dX11_keep_15 : decode cX11_keep 15 = .ok (.iconst 1, 1) := by decide +kernel
theorem dX11_keep_16 : decode cX11_keep 16 = .ok (.iadd, 1) := by decide +kernel
theorem dX11_keep_17 : decode cX11_keep 17 = .ok (.putfield 15, 3) := by decide +kernel
theorem dX11_keep_20 : decode cX11_keep 20 = .ok (.aload_n 0, 1) := by decide +kernel
theorem dX11_keep_21 : decode cX11_keep 21 = .ok (.getfield 15, 3) := by decide +kernel
theorem dX11_keep_24 : decode cX11_keep 24 = .ok (.iconst 1, 1) := by decide +kernel
theorem dX11_keep_25 : decode cX11_keep 25 = .ok (.isub, 1) := by decide +kernel
theorem dX11_keep_26 : decode cX11_keep 26 = .ok (.ireturn, 1) := by decide +kernel
theorem dX11_keepVector_0 : decode cX11_keepVector 0 = .ok (.aload_n 0, 1) := by decide +kernel
theorem dX11_keepVector_1 : decode cX11_keepVector 1 = .ok (.new 9, 3) := by decide +kernel
theorem dX11_keepVector_4 : decode cX11_keepVector 4 = .ok (.dup, 1) := by decide +kernel
theorem dX11_keepVector_5 : decode cX11_keepVector 5 = .ok (.iconst 0, 1) := by decide +kernel
theorem dX11_keepVector_6 : decode cX11_keepVector 6 = .ok (.aload_n 1, 1) := by decide +kernel
theorem dX11_keepVector_7 : decode cX11_keepVector 7 = .ok (.iload_n 2, 1) := by decide +kernel
theorem dX11_keepVector_8 : decode cX11_keepVector 8 = .ok (.aconst_null, 1) := by decide +kernel
theorem dX11_keepVector_9 : decode cX11_keepVector 9 = .ok (.aload_n 3, 1) := by decide +kernel
theorem dX11_keepVector_10 : decode cX11_keepVector 10 = .ok (.invokespecial 161, 3) := by decide +kernel
theorem dX11_keepVector_13 : decode cX11_keepVector 13 = .ok (.invokevirtual 164, 3) := by decide +kernel
theorem dX11_keepVector_16 : decode cX11_keepVector 16 = .ok (.ireturn, 1) := by decide +kernel
theorem dX11_keepMap_0 : decode cX11_keepMap 0 = .ok (.aload_n 0, 1) := by decide +kernel
theorem dX11_keepMap_1 : decode cX11_keepMap 1 = .ok (.new 9, 3) := by decide +kernel
theorem dX11_keepMap_4 : decode cX11_keepMap 4 = .ok (.dup, 1) := by decide +kernel
theorem dX11_keepMap_5 : decode cX11_keepMap 5 = .ok (.iconst 2, 1) := by decide +kernel
theorem dX11_keepMap_6 : decode cX11_keepMap 6 = .ok (.aload_n 1, 1) := by decide +kernel
theorem dX11_keepMap_7 : decode cX11_keepMap 7 = .ok (.iload_n 2, 1) := by decide +kernel
theorem dX11_keepMap_8 : decode cX11_keepMap 8 = .ok (.aload_n 3, 1) := by decide +kernel
theorem dX11_keepMap_9 : decode cX11_keepMap 9 = .ok (.aload 4, 2) := by decide +kernel
theorem dX11_keepMap_11 : decode cX11_keepMap 11 = .ok (.invokespecial 161, 3) := by decide +kernel
theorem dX11_keepMap_14 : decode cX11_keepMap 14 = .ok (.invokevirtual 164, 3) := by decide +kernel
theorem dX11_keepMap_17 : decode cX11_keepMap 17 = .ok (.ireturn, 1) := by decide +kernel
theorem dX11_rowWithout_0 : decode cX11_rowWithout 0 = .ok (.aload_n 0, 1) := by decide +kernel
theorem dX11_rowWithout_1 : decode cX11_rowWithout 1 = .ok (.arraylength, 1) := by decide +kernel
theorem dX11_rowWithout_2 : decode cX11_rowWithout 2 = .ok (.iconst 1, 1) := by decide +kernel
theorem dX11_rowWithout_3 : decode cX11_rowWithout 3 = .ok (.isub, 1) := by decide +kernel
theorem dX11_rowWithout_4 : decode cX11_rowWithout 4 = .ok (.iconst 0, 1) := by decide +kernel
theorem dX11_rowWithout_5 : decode cX11_rowWithout 5 = .ok (.invokestatic 512, 3) := by decide +kernel
theorem dX11_rowWithout_8 : decode cX11_rowWithout 8 = .ok (.newarray .int, 2) := by decide +kernel
theorem dX11_rowWithout_10 : decode cX11_rowWithout 10 = .ok (.astore_n 2, 1) := by decide +kernel
theorem dX11_rowWithout_11 : decode cX11_rowWithout 11 = .ok (.iconst 0, 1) := by decide +kernel
theorem dX11_rowWithout_12 : decode cX11_rowWithout 12 = .ok (.istore_n 3, 1) := by decide +kernel
theorem dX11_rowWithout_13 : decode cX11_rowWithout 13 = .ok (.iload_n 3, 1) := by decide +kernel
theorem dX11_rowWithout_14 : decode cX11_rowWithout 14 = .ok (.aload_n 2, 1) := by decide +kernel
theorem dX11_rowWithout_15 : decode cX11_rowWithout 15 = .ok (.arraylength, 1) := by decide +kernel
theorem dX11_rowWithout_16 : decode cX11_rowWithout 16 = .ok (.if_icmp .ge 28, 3) := by decide +kernel
theorem dX11_rowWithout_19 : decode cX11_rowWithout 19 = .ok (.aload_n 2, 1) := by decide +kernel
theorem dX11_rowWithout_20 : decode cX11_rowWithout 20 = .ok (.iload_n 3, 1) := by decide +kernel
theorem dX11_rowWithout_21 : decode cX11_rowWithout 21 = .ok (.iload_n 3, 1) := by decide +kernel
theorem dX11_rowWithout_22 : decode cX11_rowWithout 22 = .ok (.iload_n 1, 1) := by decide +kernel
theorem dX11_rowWithout_23 : decode cX11_rowWithout 23 = .ok (.if_icmp .ge 9, 3) := by decide +kernel
theorem dX11_rowWithout_26 : decode cX11_rowWithout 26 = .ok (.aload_n 0, 1) := by decide +kernel
theorem dX11_rowWithout_27 : decode cX11_rowWithout 27 = .ok (.iload_n 3, 1) := by decide +kernel
theorem dX11_rowWithout_28 : decode cX11_rowWithout 28 = .ok (.iaload, 1) := by decide +kernel
theorem dX11_rowWithout_29 : decode cX11_rowWithout 29 = .ok (.goto 8, 3) := by decide +kernel
theorem dX11_rowWithout_32 : decode cX11_rowWithout 32 = .ok (.aload_n 0, 1) := by decide +kernel
theorem dX11_rowWithout_33 : decode cX11_rowWithout 33 = .ok (.iload_n 3, 1) := by decide +kernel
theorem dX11_rowWithout_34 : decode cX11_rowWithout 34 = .ok (.iconst 1, 1) := by decide +kernel
theorem dX11_rowWithout_35 : decode cX11_rowWithout 35 = .ok (.iadd, 1) := by decide +kernel
theorem dX11_rowWithout_36 : decode cX11_rowWithout 36 = .ok (.iaload, 1) := by decide +kernel
theorem dX11_rowWithout_37 : decode cX11_rowWithout 37 = .ok (.iastore, 1) := by decide +kernel
theorem dX11_rowWithout_38 : decode cX11_rowWithout 38 = .ok (.iinc 3 1, 3) := by decide +kernel
theorem dX11_rowWithout_41 : decode cX11_rowWithout 41 = .ok (.goto (-28), 3) := by decide +kernel
theorem dX11_rowWithout_44 : decode cX11_rowWithout 44 = .ok (.aload_n 2, 1) := by decide +kernel
theorem dX11_rowWithout_45 : decode cX11_rowWithout 45 = .ok (.areturn, 1) := by decide +kernel
theorem dX11_sameElements_0 : decode cX11_sameElements 0 = .ok (.iconst 0, 1) := by decide +kernel
theorem dX11_sameElements_1 : decode cX11_sameElements 1 = .ok (.istore_n 2, 1) := by decide +kernel
theorem dX11_sameElements_2 : decode cX11_sameElements 2 = .ok (.iload_n 2, 1) := by decide +kernel
theorem dX11_sameElements_3 : decode cX11_sameElements 3 = .ok (.aload_n 0, 1) := by decide +kernel
theorem dX11_sameElements_4 : decode cX11_sameElements 4 = .ok (.getfield 103, 3) := by decide +kernel
theorem dX11_sameElements_7 : decode cX11_sameElements 7 = .ok (.if_icmp .ge 38, 3) := by decide +kernel
theorem dX11_sameElements_10 : decode cX11_sameElements 10 = .ok (.aload_n 0, 1) := by decide +kernel
theorem dX11_sameElements_11 : decode cX11_sameElements 11 = .ok (.getfield 116, 3) := by decide +kernel
theorem dX11_sameElements_14 : decode cX11_sameElements 14 = .ok (.aload_n 0, 1) := by decide +kernel
theorem dX11_sameElements_15 : decode cX11_sameElements 15 = .ok (.getfield 103, 3) := by decide +kernel
theorem dX11_sameElements_18 : decode cX11_sameElements 18 = .ok (.iload_n 2, 1) := by decide +kernel
theorem dX11_sameElements_19 : decode cX11_sameElements 19 = .ok (.invokestatic 129, 3) := by decide +kernel
theorem dX11_sameElements_22 : decode cX11_sameElements 22 = .ok (.aload_n 1, 1) := by decide +kernel
theorem dX11_sameElements_23 : decode cX11_sameElements 23 = .ok (.getfield 116, 3) := by decide +kernel
theorem dX11_sameElements_26 : decode cX11_sameElements 26 = .ok (.aload_n 1, 1) := by decide +kernel
theorem dX11_sameElements_27 : decode cX11_sameElements 27 = .ok (.getfield 103, 3) := by decide +kernel
theorem dX11_sameElements_30 : decode cX11_sameElements 30 = .ok (.iload_n 2, 1) := by decide +kernel
theorem dX11_sameElements_31 : decode cX11_sameElements 31 = .ok (.invokestatic 129, 3) := by decide +kernel
theorem dX11_sameElements_34 : decode cX11_sameElements 34 = .ok (.if_icmp .eq 5, 3) := by decide +kernel
theorem dX11_sameElements_37 : decode cX11_sameElements 37 = .ok (.iconst 0, 1) := by decide +kernel
theorem dX11_sameElements_38 : decode cX11_sameElements 38 = .ok (.ireturn, 1) := by decide +kernel
theorem dX11_sameElements_39 : decode cX11_sameElements 39 = .ok (.iinc 2 1, 3) := by decide +kernel
theorem dX11_sameElements_42 : decode cX11_sameElements 42 = .ok (.goto (-40), 3) := by decide +kernel
theorem dX11_sameElements_45 : decode cX11_sameElements 45 = .ok (.iconst 1, 1) := by decide +kernel
theorem dX11_sameElements_46 : decode cX11_sameElements 46 = .ok (.ireturn, 1) := by decide +kernel
theorem dX11_samePairs_0 : decode cX11_samePairs 0 = .ok (.iconst 0, 1) := by decide +kernel
theorem dX11_samePairs_1 : decode cX11_samePairs 1 = .ok (.istore_n 2, 1) := by decide +kernel
theorem dX11_samePairs_2 : decode cX11_samePairs 2 = .ok (.iload_n 2, 1) := by decide +kernel
theorem dX11_samePairs_3 : decode cX11_samePairs 3 = .ok (.aload_n 0, 1) := by decide +kernel
theorem dX11_samePairs_4 : decode cX11_samePairs 4 = .ok (.getfield 103, 3) := by decide +kernel
theorem dX11_samePairs_7 : decode cX11_samePairs 7 = .ok (.if_icmp .ge 51, 3) := by decide +kernel
theorem dX11_samePairs_10 : decode cX11_samePairs 10 = .ok (.aload_n 0, 1) := by decide +kernel
theorem dX11_samePairs_11 : decode cX11_samePairs 11 = .ok (.iload_n 2, 1) := by decide +kernel
theorem dX11_samePairs_12 : decode cX11_samePairs 12 = .ok (.invokevirtual 518, 3) := by decide +kernel
theorem dX11_samePairs_15 : decode cX11_samePairs 15 = .ok (.istore_n 3, 1) := by decide +kernel
theorem dX11_samePairs_16 : decode cX11_samePairs 16 = .ok (.aload_n 1, 1) := by decide +kernel
theorem dX11_samePairs_17 : decode cX11_samePairs 17 = .ok (.getfield 116, 3) := by decide +kernel
theorem dX11_samePairs_20 : decode cX11_samePairs 20 = .ok (.iload_n 3, 1) := by decide +kernel
theorem dX11_samePairs_21 : decode cX11_samePairs 21 = .ok (.invokestatic 194, 3) := by decide +kernel
theorem dX11_samePairs_24 : decode cX11_samePairs 24 = .ok (.astore 4, 2) := by decide +kernel
theorem dX11_samePairs_26 : decode cX11_samePairs 26 = .ok (.aload 4, 2) := by decide +kernel
theorem dX11_samePairs_28 : decode cX11_samePairs 28 = .ok (.ifnull 22, 3) := by decide +kernel
theorem dX11_samePairs_31 : decode cX11_samePairs 31 = .ok (.aload 4, 2) := by decide +kernel
theorem dX11_samePairs_33 : decode cX11_samePairs 33 = .ok (.aload 4, 2) := by decide +kernel
theorem dX11_samePairs_35 : decode cX11_samePairs 35 = .ok (.iload_n 3, 1) := by decide +kernel
theorem dX11_samePairs_36 : decode cX11_samePairs 36 = .ok (.invokevirtual 202, 3) := by decide +kernel
theorem dX11_samePairs_39 : decode cX11_samePairs 39 = .ok (.invokevirtual 207, 3) := by decide +kernel
theorem dX11_samePairs_42 : decode cX11_samePairs 42 = .ok (.aload_n 0, 1) := by decide +kernel
theorem dX11_samePairs_43 : decode cX11_samePairs 43 = .ok (.iload_n 2, 1) := by decide +kernel
theorem dX11_samePairs_44 : decode cX11_samePairs 44 = .ok (.invokevirtual 234, 3) := by decide +kernel
theorem dX11_samePairs_47 : decode cX11_samePairs 47 = .ok (.if_icmp .eq 5, 3) := by decide +kernel
theorem dX11_samePairs_50 : decode cX11_samePairs 50 = .ok (.iconst 0, 1) := by decide +kernel
theorem dX11_samePairs_51 : decode cX11_samePairs 51 = .ok (.ireturn, 1) := by decide +kernel
theorem dX11_samePairs_52 : decode cX11_samePairs 52 = .ok (.iinc 2 1, 3) := by decide +kernel
theorem dX11_samePairs_55 : decode cX11_samePairs 55 = .ok (.goto (-53), 3) := by decide +kernel
theorem dX11_samePairs_58 : decode cX11_samePairs 58 = .ok (.iconst 1, 1) := by decide +kernel
theorem dX11_samePairs_59 : decode cX11_samePairs 59 = .ok (.ireturn, 1) := by decide +kernel
theorem dX11_countNodes_0 : decode cX11_countNodes 0 = .ok (.aload_n 0, 1) := by decide +kernel
theorem dX11_countNodes_1 : decode cX11_countNodes 1 = .ok (.ifnull 8, 3) := by decide +kernel
theorem dX11_countNodes_4 : decode cX11_countNodes 4 = .ok (.iload_n 1, 1) := by decide +kernel
theorem dX11_countNodes_5 : decode cX11_countNodes 5 = .ok (.iconst 5, 1) := by decide +kernel
theorem dX11_countNodes_6 : decode cX11_countNodes 6 = .ok (.if_icmp .le 5, 3) := by decide +kernel
theorem dX11_countNodes_9 : decode cX11_countNodes 9 = .ok (.iconst 0, 1) := by decide +kernel
theorem dX11_countNodes_10 : decode cX11_countNodes 10 = .ok (.ireturn, 1) := by decide +kernel
theorem dX11_countNodes_11 : decode cX11_countNodes 11 = .ok (.iconst 1, 1) := by decide +kernel
theorem dX11_countNodes_12 : decode cX11_countNodes 12 = .ok (.istore_n 2, 1) := by decide +kernel
theorem dX11_countNodes_13 : decode cX11_countNodes 13 = .ok (.aload_n 0, 1) := by decide +kernel
theorem dX11_countNodes_14 : decode cX11_countNodes 14 = .ok (.getfield 521, 3) := by decide +kernel
theorem dX11_countNodes_17 : decode cX11_countNodes 17 = .ok (.ifnull 45, 3) := by decide +kernel
theorem dX11_countNodes_20 : decode cX11_countNodes 20 = .ok (.aload_n 0, 1) := by decide +kernel
theorem dX11_countNodes_21 : decode cX11_countNodes 21 = .ok (.getfield 521, 3) := by decide +kernel
theorem dX11_countNodes_24 : decode cX11_countNodes 24 = .ok (.astore_n 3, 1) := by decide +kernel
theorem dX11_countNodes_25 : decode cX11_countNodes 25 = .ok (.aload_n 3, 1) := by decide +kernel
theorem dX11_countNodes_26 : decode cX11_countNodes 26 = .ok (.arraylength, 1) := by decide +kernel
theorem dX11_countNodes_27 : decode cX11_countNodes 27 = .ok (.istore 4, 2) := by decide +kernel
theorem dX11_countNodes_29 : decode cX11_countNodes 29 = .ok (.iconst 0, 1) := by decide +kernel
theorem dX11_countNodes_30 : decode cX11_countNodes 30 = .ok (.istore 5, 2) := by decide +kernel
theorem dX11_countNodes_32 : decode cX11_countNodes 32 = .ok (.iload 5, 2) := by decide +kernel
theorem dX11_countNodes_34 : decode cX11_countNodes 34 = .ok (.iload 4, 2) := by decide +kernel
theorem dX11_countNodes_36 : decode cX11_countNodes 36 = .ok (.if_icmp .ge 26, 3) := by decide +kernel
theorem dX11_countNodes_39 : decode cX11_countNodes 39 = .ok (.aload_n 3, 1) := by decide +kernel
theorem dX11_countNodes_40 : decode cX11_countNodes 40 = .ok (.iload 5, 2) := by decide +kernel
theorem dX11_countNodes_42 : decode cX11_countNodes 42 = .ok (.aaload, 1) := by decide +kernel
theorem dX11_countNodes_43 : decode cX11_countNodes 43 = .ok (.astore 6, 2) := by decide +kernel
theorem dX11_countNodes_45 : decode cX11_countNodes 45 = .ok (.iload_n 2, 1) := by decide +kernel
theorem dX11_countNodes_46 : decode cX11_countNodes 46 = .ok (.aload 6, 2) := by decide +kernel
theorem dX11_countNodes_48 : decode cX11_countNodes 48 = .ok (.iload_n 1, 1) := by decide +kernel
theorem dX11_countNodes_49 : decode cX11_countNodes 49 = .ok (.iconst 1, 1) := by decide +kernel
theorem dX11_countNodes_50 : decode cX11_countNodes 50 = .ok (.iadd, 1) := by decide +kernel
theorem dX11_countNodes_51 : decode cX11_countNodes 51 = .ok (.invokestatic 240, 3) := by decide +kernel
theorem dX11_countNodes_54 : decode cX11_countNodes 54 = .ok (.iadd, 1) := by decide +kernel
theorem dX11_countNodes_55 : decode cX11_countNodes 55 = .ok (.istore_n 2, 1) := by decide +kernel
theorem dX11_countNodes_56 : decode cX11_countNodes 56 = .ok (.iinc 5 1, 3) := by decide +kernel
theorem dX11_countNodes_59 : decode cX11_countNodes 59 = .ok (.goto (-27), 3) := by decide +kernel
theorem dX11_countNodes_62 : decode cX11_countNodes 62 = .ok (.iload_n 2, 1) := by decide +kernel
theorem dX11_countNodes_63 : decode cX11_countNodes 63 = .ok (.ireturn, 1) := by decide +kernel
theorem dX11_markNodes_0 : decode cX11_markNodes 0 = .ok (.aload_n 0, 1) := by decide +kernel
theorem dX11_markNodes_1 : decode cX11_markNodes 1 = .ok (.ifnull 8, 3) := by decide +kernel
theorem dX11_markNodes_4 : decode cX11_markNodes 4 = .ok (.iload_n 2, 1) := by decide +kernel
theorem dX11_markNodes_5 : decode cX11_markNodes 5 = .ok (.iconst 5, 1) := by decide +kernel
theorem dX11_markNodes_6 : decode cX11_markNodes 6 = .ok (.if_icmp .le 5, 3) := by decide +kernel
theorem dX11_markNodes_9 : decode cX11_markNodes 9 = .ok (.iconst 0, 1) := by decide +kernel
theorem dX11_markNodes_10 : decode cX11_markNodes 10 = .ok (.ireturn, 1) := by decide +kernel
theorem dX11_markNodes_11 : decode cX11_markNodes 11 = .ok (.aload_n 0, 1) := by decide +kernel
theorem dX11_markNodes_12 : decode cX11_markNodes 12 = .ok (.getfield 525, 3) := by decide +kernel
theorem dX11_markNodes_15 : decode cX11_markNodes 15 = .ok (.iload_n 1, 1) := by decide +kernel
theorem dX11_markNodes_16 : decode cX11_markNodes 16 = .ok (.if_icmp .ne 7, 3) := by decide +kernel
theorem dX11_markNodes_19 : decode cX11_markNodes 19 = .ok (.iconst 0, 1) := by decide +kernel
theorem dX11_markNodes_20 : decode cX11_markNodes 20 = .ok (.goto 4, 3) := by decide +kernel
theorem dX11_markNodes_23 : decode cX11_markNodes 23 = .ok (.iconst 1, 1) := by decide +kernel
theorem dX11_markNodes_24 : decode cX11_markNodes 24 = .ok (.istore_n 3, 1) := by decide +kernel
theorem dX11_markNodes_25 : decode cX11_markNodes 25 = .ok (.aload_n 0, 1) := by decide +kernel
theorem dX11_markNodes_26 : decode cX11_markNodes 26 = .ok (.iload_n 1, 1) := by decide +kernel
theorem dX11_markNodes_27 : decode cX11_markNodes 27 = .ok (.putfield 525, 3) := by decide +kernel
theorem dX11_markNodes_30 : decode cX11_markNodes 30 = .ok (.aload_n 0, 1) := by decide +kernel
theorem dX11_markNodes_31 : decode cX11_markNodes 31 = .ok (.getfield 521, 3) := by decide +kernel
theorem dX11_markNodes_34 : decode cX11_markNodes 34 = .ok (.ifnull 49, 3) := by decide +kernel
theorem dX11_markNodes_37 : decode cX11_markNodes 37 = .ok (.aload_n 0, 1) := by decide +kernel
theorem dX11_markNodes_38 : decode cX11_markNodes 38 = .ok (.getfield 521, 3) := by decide +kernel
theorem dX11_markNodes_41 : decode cX11_markNodes 41 = .ok (.astore 4, 2) := by decide +kernel
theorem dX11_markNodes_43 : decode cX11_markNodes 43 = .ok (.aload 4, 2) := by decide +kernel
theorem dX11_markNodes_45 : decode cX11_markNodes 45 = .ok (.arraylength, 1) := by decide +kernel
theorem dX11_markNodes_46 : decode cX11_markNodes 46 = .ok (.istore 5, 2) := by decide +kernel
theorem dX11_markNodes_48 : decode cX11_markNodes 48 = .ok (.iconst 0, 1) := by decide +kernel
theorem dX11_markNodes_49 : decode cX11_markNodes 49 = .ok (.istore 6, 2) := by decide +kernel
theorem dX11_markNodes_51 : decode cX11_markNodes 51 = .ok (.iload 6, 2) := by decide +kernel
theorem dX11_markNodes_53 : decode cX11_markNodes 53 = .ok (.iload 5, 2) := by decide +kernel
theorem dX11_markNodes_55 : decode cX11_markNodes 55 = .ok (.if_icmp .ge 28, 3) := by decide +kernel
theorem dX11_markNodes_58 : decode cX11_markNodes 58 = .ok (.aload 4, 2) := by decide +kernel
theorem dX11_markNodes_60 : decode cX11_markNodes 60 = .ok (.iload 6, 2) := by decide +kernel
theorem dX11_markNodes_62 : decode cX11_markNodes 62 = .ok (.aaload, 1) := by decide +kernel
theorem dX11_markNodes_63 : decode cX11_markNodes 63 = .ok (.astore 7, 2) := by decide +kernel
theorem dX11_markNodes_65 : decode cX11_markNodes 65 = .ok (.iload_n 3, 1) := by decide +kernel
theorem dX11_markNodes_66 : decode cX11_markNodes 66 = .ok (.aload 7, 2) := by decide +kernel
theorem dX11_markNodes_68 : decode cX11_markNodes 68 = .ok (.iload_n 1, 1) := by decide +kernel
theorem dX11_markNodes_69 : decode cX11_markNodes 69 = .ok (.iload_n 2, 1) := by decide +kernel
theorem dX11_markNodes_70 : decode cX11_markNodes 70 = .ok (.iconst 1, 1) := by decide +kernel
theorem dX11_markNodes_71 : decode cX11_markNodes 71 = .ok (.iadd, 1) := by decide +kernel
theorem dX11_markNodes_72 : decode cX11_markNodes 72 = .ok (.invokestatic 244, 3) := by decide +kernel
theorem dX11_markNodes_75 : decode cX11_markNodes 75 = .ok (.iadd, 1) := by decide +kernel
theorem dX11_markNodes_76 : decode cX11_markNodes 76 = .ok (.istore_n 3, 1) := by decide +kernel
theorem dX11_markNodes_77 : decode cX11_markNodes 77 = .ok (.iinc 6 1, 3) := by decide +kernel
theorem dX11_markNodes_80 : decode cX11_markNodes 80 = .ok (.goto (-29), 3) := by decide +kernel
theorem dX11_markNodes_83 : decode cX11_markNodes 83 = .ok (.iload_n 3, 1) := by decide +kernel
theorem dX11_markNodes_84 : decode cX11_markNodes 84 = .ok (.ireturn, 1) := by decide +kernel
theorem dX11_sequenceNumbered_0 : decode cX11_sequenceNumbered 0 = .ok (.iload_n 1, 1) := by decide +kernel
theorem dX11_sequenceNumbered_1 : decode cX11_sequenceNumbered 1 = .ok (.ifCond .lt 11, 3) := by decide +kernel
theorem dX11_sequenceNumbered_4 : decode cX11_sequenceNumbered 4 = .ok (.iload_n 1, 1) := by decide +kernel
theorem dX11_sequenceNumbered_5 : decode cX11_sequenceNumbered 5 = .ok (.aload_n 0, 1) := by decide +kernel
theorem dX11_sequenceNumbered_6 : decode cX11_sequenceNumbered 6 = .ok (.getfield 35, 3) := by decide +kernel
theorem dX11_sequenceNumbered_9 : decode cX11_sequenceNumbered 9 = .ok (.if_icmp .lt 7, 3) := by decide +kernel
theorem dX11_sequenceNumbered_12 : decode cX11_sequenceNumbered 12 = .ok (.aconst_null, 1) := by decide +kernel
theorem dX11_sequenceNumbered_13 : decode cX11_sequenceNumbered 13 = .ok (.goto 9, 3) := by decide +kernel
theorem dX11_sequenceNumbered_16 : decode cX11_sequenceNumbered 16 = .ok (.aload_n 0, 1) := by decide +kernel
theorem dX11_sequenceNumbered_17 : decode cX11_sequenceNumbered 17 = .ok (.getfield 31, 3) := by decide +kernel
theorem dX11_sequenceNumbered_20 : decode cX11_sequenceNumbered 20 = .ok (.iload_n 1, 1) := by decide +kernel
theorem dX11_sequenceNumbered_21 : decode cX11_sequenceNumbered 21 = .ok (.aaload, 1) := by decide +kernel
theorem dX11_sequenceNumbered_22 : decode cX11_sequenceNumbered 22 = .ok (.astore_n 2, 1) := by decide +kernel
theorem dX11_sequenceNumbered_23 : decode cX11_sequenceNumbered 23 = .ok (.aload_n 2, 1) := by decide +kernel
theorem dX11_sequenceNumbered_24 : decode cX11_sequenceNumbered 24 = .ok (.ifnonnull 14, 3) := by decide +kernel
theorem dX11_sequenceNumbered_27 : decode cX11_sequenceNumbered 27 = .ok (.new 434, 3) := by decide +kernel
theorem dX11_sequenceNumbered_30 : decode cX11_sequenceNumbered 30 = .ok (.dup, 1) := by decide +kernel
theorem dX11_sequenceNumbered_31 : decode cX11_sequenceNumbered 31 = .ok (.ldc_w 528, 3) := by decide +kernel
theorem dX11_sequenceNumbered_34 : decode cX11_sequenceNumbered 34 = .ok (.invokespecial 438, 3) := by decide +kernel
theorem dX11_sequenceNumbered_37 : decode cX11_sequenceNumbered 37 = .ok (.athrow, 1) := by decide +kernel
theorem dX11_sequenceNumbered_38 : decode cX11_sequenceNumbered 38 = .ok (.aload_n 2, 1) := by decide +kernel
theorem dX11_sequenceNumbered_39 : decode cX11_sequenceNumbered 39 = .ok (.areturn, 1) := by decide +kernel
theorem dX11_refuseMoreSequences_0 : decode cX11_refuseMoreSequences 0 = .ok (.aload_n 0, 1) := by decide +kernel
theorem dX11_refuseMoreSequences_1 : decode cX11_refuseMoreSequences 1 = .ok (.getfield 35, 3) := by decide +kernel
theorem dX11_refuseMoreSequences_4 : decode cX11_refuseMoreSequences 4 = .ok (.bipush 12, 2) := by decide +kernel
theorem dX11_refuseMoreSequences_6 : decode cX11_refuseMoreSequences 6 = .ok (.if_icmp .lt 14, 3) := by decide +kernel
theorem dX11_refuseMoreSequences_9 : decode cX11_refuseMoreSequences 9 = .ok (.new 320, 3) := by decide +kernel
theorem dX11_refuseMoreSequences_12 : decode cX11_refuseMoreSequences 12 = .ok (.dup, 1) := by decide +kernel
theorem dX11_refuseMoreSequences_13 : decode cX11_refuseMoreSequences 13 = .ok (.ldc_w 530, 3) := by decide +kernel
theorem dX11_refuseMoreSequences_16 : decode cX11_refuseMoreSequences 16 = .ok (.invokespecial 324, 3) := by decide +kernel
theorem dX11_refuseMoreSequences_19 : decode cX11_refuseMoreSequences 19 = .ok (.athrow, 1) := by decide +kernel
theorem dX11_refuseMoreSequences_20 : decode cX11_refuseMoreSequences 20 = .ok (.return_, 1) := by decide +kernel
theorem dX11_refuseBroken_0 : decode cX11_refuseBroken 0 = .ok (.aload_n 0, 1) := by decide +kernel
theorem dX11_refuseBroken_1 : decode cX11_refuseBroken 1 = .ok (.getfield 532, 3) := by decide +kernel
theorem dX11_refuseBroken_4 : decode cX11_refuseBroken 4 = .ok (.ifCond .eq 14, 3) := by decide +kernel
theorem dX11_refuseBroken_7 : decode cX11_refuseBroken 7 = .ok (.new 152, 3) := by decide +kernel
theorem dX11_refuseBroken_10 : decode cX11_refuseBroken 10 = .ok (.dup, 1) := by decide +kernel
theorem dX11_refuseBroken_11 : decode cX11_refuseBroken 11 = .ok (.ldc_w 535, 3) := by decide +kernel
theorem dX11_refuseBroken_14 : decode cX11_refuseBroken 14 = .ok (.invokespecial 156, 3) := by decide +kernel
theorem dX11_refuseBroken_17 : decode cX11_refuseBroken 17 = .ok (.athrow, 1) := by decide +kernel
theorem dX11_refuseBroken_18 : decode cX11_refuseBroken 18 = .ok (.return_, 1) := by decide +kernel
theorem dX11_keepSequence_0 : decode cX11_keepSequence 0 = .ok (.aload_n 0, 1) := by decide +kernel
theorem dX11_keepSequence_1 : decode cX11_keepSequence 1 = .ok (.getfield 31, 3) := by decide +kernel
theorem dX11_keepSequence_4 : decode cX11_keepSequence 4 = .ok (.aload_n 0, 1) := by decide +kernel
theorem dX11_keepSequence_5 : decode cX11_keepSequence 5 = .ok (.getfield 35, 3) := by decide +kernel
theorem dX11_keepSequence_8 : decode cX11_keepSequence 8 = .ok (.aload_n 1, 1) := by decide +kernel
theorem dX11_keepSequence_9 : decode cX11_keepSequence 9 = .ok (.aastore, 1) := by decide +kernel
theorem dX11_keepSequence_10 : decode cX11_keepSequence 10 = .ok (.aload_n 0, 1) := by decide +kernel
theorem dX11_keepSequence_11 : decode cX11_keepSequence 11 = .ok (.dup, 1) := by decide +kernel
theorem dX11_keepSequence_12 : decode cX11_keepSequence 12 = .ok (.getfield 35, 3) := by decide +kernel
theorem dX11_keepSequence_15 : decode cX11_keepSequence 15 = .ok (.iconst 1, 1) := by decide +kernel
theorem dX11_keepSequence_16 : decode cX11_keepSequence 16 = .ok (.iadd, 1) := by decide +kernel
theorem dX11_keepSequence_17 : decode cX11_keepSequence 17 = .ok (.putfield 35, 3) := by decide +kernel
theorem dX11_keepSequence_20 : decode cX11_keepSequence 20 = .ok (.aload_n 0, 1) := by decide +kernel
theorem dX11_keepSequence_21 : decode cX11_keepSequence 21 = .ok (.getfield 35, 3) := by decide +kernel
theorem dX11_keepSequence_24 : decode cX11_keepSequence 24 = .ok (.iconst 1, 1) := by decide +kernel
theorem dX11_keepSequence_25 : decode cX11_keepSequence 25 = .ok (.isub, 1) := by decide +kernel
theorem dX11_keepSequence_26 : decode cX11_keepSequence 26 = .ok (.ireturn, 1) := by decide +kernel
theorem dX11_realise_0 : decode cX11_realise 0 = .ok (.aload_n 0, 1) := by decide +kernel
theorem dX11_realise_1 : decode cX11_realise 1 = .ok (.astore_n 3, 1) := by decide +kernel
theorem dX11_realise_2 : decode cX11_realise 2 = .ok (.iload_n 1, 1) := by decide +kernel
theorem dX11_realise_3 : decode cX11_realise 3 = .ok (.istore 4, 2) := by decide +kernel
theorem dX11_realise_5 : decode cX11_realise 5 = .ok (.iload_n 2, 1) := by decide +kernel
theorem dX11_realise_6 : decode cX11_realise 6 = .ok (.istore 5, 2) := by decide +kernel
theorem dX11_realise_8 : decode cX11_realise 8 = .ok (.iconst 0, 1) := by decide +kernel
theorem dX11_realise_9 : decode cX11_realise 9 = .ok (.istore 6, 2) := by decide +kernel
theorem dX11_realise_11 : decode cX11_realise 11 = .ok (.iload 6, 2) := by decide +kernel
theorem dX11_realise_13 : decode cX11_realise 13 = .ok (.bipush 12, 2) := by decide +kernel
theorem dX11_realise_15 : decode cX11_realise 15 = .ok (.if_icmp .ge 70, 3) := by decide +kernel
theorem dX11_realise_18 : decode cX11_realise 18 = .ok (.aload_n 3, 1) := by decide +kernel
theorem dX11_realise_19 : decode cX11_realise 19 = .ok (.ifnull 66, 3) := by decide +kernel
theorem dX11_realise_22 : decode cX11_realise 22 = .ok (.aload_n 3, 1) := by decide +kernel
theorem dX11_realise_23 : decode cX11_realise 23 = .ok (.aload_n 3, 1) := by decide +kernel
theorem dX11_realise_24 : decode cX11_realise 24 = .ok (.getfield 308, 3) := by decide +kernel
theorem dX11_realise_27 : decode cX11_realise 27 = .ok (.iload 4, 2) := by decide +kernel
theorem dX11_realise_29 : decode cX11_realise 29 = .ok (.invokestatic 512, 3) := by decide +kernel
theorem dX11_realise_32 : decode cX11_realise 32 = .ok (.putfield 308, 3) := by decide +kernel
theorem dX11_realise_35 : decode cX11_realise 35 = .ok (.iload 5, 2) := by decide +kernel
theorem dX11_realise_37 : decode cX11_realise 37 = .ok (.ifCond .eq 14, 3) := by decide +kernel
theorem dX11_realise_40 : decode cX11_realise 40 = .ok (.aload_n 3, 1) := by decide +kernel
theorem dX11_realise_41 : decode cX11_realise 41 = .ok (.invokevirtual 537, 3) := by decide +kernel
theorem dX11_realise_44 : decode cX11_realise 44 = .ok (.ifCond .eq 7, 3) := by decide +kernel
theorem dX11_realise_47 : decode cX11_realise 47 = .ok (.iconst 1, 1) := by decide +kernel
theorem dX11_realise_48 : decode cX11_realise 48 = .ok (.goto 4, 3) := by decide +kernel
theorem dX11_realise_51 : decode cX11_realise 51 = .ok (.iconst 0, 1) := by decide +kernel
theorem dX11_realise_52 : decode cX11_realise 52 = .ok (.istore 5, 2) := by decide +kernel
theorem dX11_realise_54 : decode cX11_realise 54 = .ok (.aload_n 3, 1) := by decide +kernel
theorem dX11_realise_55 : decode cX11_realise 55 = .ok (.iload 4, 2) := by decide +kernel
theorem dX11_realise_57 : decode cX11_realise 57 = .ok (.iload 5, 2) := by decide +kernel
theorem dX11_realise_59 : decode cX11_realise 59 = .ok (.invokevirtual 540, 3) := by decide +kernel
theorem dX11_realise_62 : decode cX11_realise 62 = .ok (.istore 4, 2) := by decide +kernel
theorem dX11_realise_64 : decode cX11_realise 64 = .ok (.iload 4, 2) := by decide +kernel
theorem dX11_realise_66 : decode cX11_realise 66 = .ok (.iconst (-1), 1) := by decide +kernel
theorem dX11_realise_67 : decode cX11_realise 67 = .ok (.if_icmp .ne 7, 3) := by decide +kernel
theorem dX11_realise_70 : decode cX11_realise 70 = .ok (.aconst_null, 1) := by decide +kernel
theorem dX11_realise_71 : decode cX11_realise 71 = .ok (.goto 7, 3) := by decide +kernel
theorem dX11_realise_74 : decode cX11_realise 74 = .ok (.aload_n 3, 1) := by decide +kernel
theorem dX11_realise_75 : decode cX11_realise 75 = .ok (.getfield 544, 3) := by decide +kernel
theorem dX11_realise_78 : decode cX11_realise 78 = .ok (.astore_n 3, 1) := by decide +kernel
theorem dX11_realise_79 : decode cX11_realise 79 = .ok (.iinc 6 1, 3) := by decide +kernel
theorem dX11_realise_82 : decode cX11_realise 82 = .ok (.goto (-71), 3) := by decide +kernel
theorem dX11_realise_85 : decode cX11_realise 85 = .ok (.return_, 1) := by decide +kernel
theorem dX11_refuseBounds_0 : decode cX11_refuseBounds 0 = .ok (.iload_n 1, 1) := by decide +kernel
theorem dX11_refuseBounds_1 : decode cX11_refuseBounds 1 = .ok (.sipush (-999), 3) := by decide +kernel
theorem dX11_refuseBounds_4 : decode cX11_refuseBounds 4 = .ok (.if_icmp .lt 19, 3) := by decide +kernel
theorem dX11_refuseBounds_7 : decode cX11_refuseBounds 7 = .ok (.iload_n 2, 1) := by decide +kernel
theorem dX11_refuseBounds_8 : decode cX11_refuseBounds 8 = .ok (.sipush 999, 3) := by decide +kernel
theorem dX11_refuseBounds_11 : decode cX11_refuseBounds 11 = .ok (.if_icmp .gt 12, 3) := by decide +kernel
theorem dX11_refuseBounds_14 : decode cX11_refuseBounds 14 = .ok (.iload_n 0, 1) := by decide +kernel
theorem dX11_refuseBounds_15 : decode cX11_refuseBounds 15 = .ok (.iload_n 1, 1) := by decide +kernel
theorem dX11_refuseBounds_16 : decode cX11_refuseBounds 16 = .ok (.iload_n 2, 1) := by decide +kernel
theorem dX11_refuseBounds_17 : decode cX11_refuseBounds 17 = .ok (.invokestatic 256, 3) := by decide +kernel
theorem dX11_refuseBounds_20 : decode cX11_refuseBounds 20 = .ok (.ifCond .ne 14, 3) := by decide +kernel
theorem dX11_refuseBounds_23 : decode cX11_refuseBounds 23 = .ok (.new 189, 3) := by decide +kernel
theorem dX11_refuseBounds_26 : decode cX11_refuseBounds 26 = .ok (.dup, 1) := by decide +kernel
theorem dX11_refuseBounds_27 : decode cX11_refuseBounds 27 = .ok (.ldc_w 548, 3) := by decide +kernel
theorem dX11_refuseBounds_30 : decode cX11_refuseBounds 30 = .ok (.invokespecial 193, 3) := by decide +kernel
theorem dX11_refuseBounds_33 : decode cX11_refuseBounds 33 = .ok (.athrow, 1) := by decide +kernel
theorem dX11_refuseBounds_34 : decode cX11_refuseBounds 34 = .ok (.return_, 1) := by decide +kernel
theorem dX11_referenceNumbered_0 : decode cX11_referenceNumbered 0 = .ok (.iload_n 1, 1) := by decide +kernel
theorem dX11_referenceNumbered_1 : decode cX11_referenceNumbered 1 = .ok (.ifCond .lt 11, 3) := by decide +kernel
theorem dX11_referenceNumbered_4 : decode cX11_referenceNumbered 4 = .ok (.iload_n 1, 1) := by decide +kernel
theorem dX11_referenceNumbered_5 : decode cX11_referenceNumbered 5 = .ok (.aload_n 0, 1) := by decide +kernel
theorem dX11_referenceNumbered_6 : decode cX11_referenceNumbered 6 = .ok (.getfield 44, 3) := by decide +kernel
theorem dX11_referenceNumbered_9 : decode cX11_referenceNumbered 9 = .ok (.if_icmp .lt 7, 3) := by decide +kernel
theorem dX11_referenceNumbered_12 : decode cX11_referenceNumbered 12 = .ok (.aconst_null, 1) := by decide +kernel
theorem dX11_referenceNumbered_13 : decode cX11_referenceNumbered 13 = .ok (.goto 9, 3) := by decide +kernel
theorem dX11_referenceNumbered_16 : decode cX11_referenceNumbered 16 = .ok (.aload_n 0, 1) := by decide +kernel
theorem dX11_referenceNumbered_17 : decode cX11_referenceNumbered 17 = .ok (.getfield 40, 3) := by decide +kernel
theorem dX11_referenceNumbered_20 : decode cX11_referenceNumbered 20 = .ok (.iload_n 1, 1) := by decide +kernel
theorem dX11_referenceNumbered_21 : decode cX11_referenceNumbered 21 = .ok (.aaload, 1) := by decide +kernel
theorem dX11_referenceNumbered_22 : decode cX11_referenceNumbered 22 = .ok (.astore_n 2, 1) := by decide +kernel
theorem dX11_referenceNumbered_23 : decode cX11_referenceNumbered 23 = .ok (.aload_n 2, 1) := by decide +kernel
theorem dX11_referenceNumbered_24 : decode cX11_referenceNumbered 24 = .ok (.ifnonnull 14, 3) := by decide +kernel
theorem dX11_referenceNumbered_27 : decode cX11_referenceNumbered 27 = .ok (.new 434, 3) := by decide +kernel
theorem dX11_referenceNumbered_30 : decode cX11_referenceNumbered 30 = .ok (.dup, 1) := by decide +kernel
theorem dX11_referenceNumbered_31 : decode cX11_referenceNumbered 31 = .ok (.ldc_w 550, 3) := by decide +kernel
theorem dX11_referenceNumbered_34 : decode cX11_referenceNumbered 34 = .ok (.invokespecial 438, 3) := by decide +kernel
theorem dX11_referenceNumbered_37 : decode cX11_referenceNumbered 37 = .ok (.athrow, 1) := by decide +kernel
theorem dX11_referenceNumbered_38 : decode cX11_referenceNumbered 38 = .ok (.aload_n 2, 1) := by decide +kernel
theorem dX11_referenceNumbered_39 : decode cX11_referenceNumbered 39 = .ok (.areturn, 1) := by decide +kernel
theorem dX11_transactionNumbered_0 : decode cX11_transactionNumbered 0 = .ok (.iload_n 1, 1) := by decide +kernel
theorem dX11_transactionNumbered_1 : decode cX11_transactionNumbered 1 = .ok (.ifCond .lt 8, 3) := by decide +kernel
theorem dX11_transactionNumbered_4 : decode cX11_transactionNumbered 4 = .ok (.iload_n 1, 1) := by decide +kernel
theorem dX11_transactionNumbered_5 : decode cX11_transactionNumbered 5 = .ok (.iconst 3, 1) := by decide +kernel
theorem dX11_transactionNumbered_6 : decode cX11_transactionNumbered 6 = .ok (.if_icmp .lt 7, 3) := by decide +kernel
theorem dX11_transactionNumbered_9 : decode cX11_transactionNumbered 9 = .ok (.aconst_null, 1) := by decide +kernel
theorem dX11_transactionNumbered_10 : decode cX11_transactionNumbered 10 = .ok (.goto 9, 3) := by decide +kernel
theorem dX11_transactionNumbered_13 : decode cX11_transactionNumbered 13 = .ok (.aload_n 0, 1) := by decide +kernel
theorem dX11_transactionNumbered_14 : decode cX11_transactionNumbered 14 = .ok (.getfield 49, 3) := by decide +kernel
theorem dX11_transactionNumbered_17 : decode cX11_transactionNumbered 17 = .ok (.iload_n 1, 1) := by decide +kernel
theorem dX11_transactionNumbered_18 : decode cX11_transactionNumbered 18 = .ok (.aaload, 1) := by decide +kernel
theorem dX11_transactionNumbered_19 : decode cX11_transactionNumbered 19 = .ok (.astore_n 2, 1) := by decide +kernel
theorem dX11_transactionNumbered_20 : decode cX11_transactionNumbered 20 = .ok (.aload_n 2, 1) := by decide +kernel
theorem dX11_transactionNumbered_21 : decode cX11_transactionNumbered 21 = .ok (.ifnonnull 14, 3) := by decide +kernel
theorem dX11_transactionNumbered_24 : decode cX11_transactionNumbered 24 = .ok (.new 189, 3) := by decide +kernel
theorem dX11_transactionNumbered_27 : decode cX11_transactionNumbered 27 = .ok (.dup, 1) := by decide +kernel
theorem dX11_transactionNumbered_28 : decode cX11_transactionNumbered 28 = .ok (.ldc_w 552, 3) := by decide +kernel
theorem dX11_transactionNumbered_31 : decode cX11_transactionNumbered 31 = .ok (.invokespecial 193, 3) := by decide +kernel
theorem dX11_transactionNumbered_34 : decode cX11_transactionNumbered 34 = .ok (.athrow, 1) := by decide +kernel
theorem dX11_transactionNumbered_35 : decode cX11_transactionNumbered 35 = .ok (.aload_n 2, 1) := by decide +kernel
theorem dX11_transactionNumbered_36 : decode cX11_transactionNumbered 36 = .ok (.areturn, 1) := by decide +kernel
theorem dX11_agentNumbered_0 : decode cX11_agentNumbered 0 = .ok (.iload_n 1, 1) := by decide +kernel
theorem dX11_agentNumbered_1 : decode cX11_agentNumbered 1 = .ok (.ifCond .lt 11, 3) := by decide +kernel
theorem dX11_agentNumbered_4 : decode cX11_agentNumbered 4 = .ok (.iload_n 1, 1) := by decide +kernel
theorem dX11_agentNumbered_5 : decode cX11_agentNumbered 5 = .ok (.aload_n 0, 1) := by decide +kernel
theorem dX11_agentNumbered_6 : decode cX11_agentNumbered 6 = .ok (.getfield 72, 3) := by decide +kernel
theorem dX11_agentNumbered_9 : decode cX11_agentNumbered 9 = .ok (.if_icmp .lt 7, 3) := by decide +kernel
theorem dX11_agentNumbered_12 : decode cX11_agentNumbered 12 = .ok (.aconst_null, 1) := by decide +kernel
theorem dX11_agentNumbered_13 : decode cX11_agentNumbered 13 = .ok (.goto 9, 3) := by decide +kernel
theorem dX11_agentNumbered_16 : decode cX11_agentNumbered 16 = .ok (.aload_n 0, 1) := by decide +kernel
theorem dX11_agentNumbered_17 : decode cX11_agentNumbered 17 = .ok (.getfield 68, 3) := by decide +kernel
theorem dX11_agentNumbered_20 : decode cX11_agentNumbered 20 = .ok (.iload_n 1, 1) := by decide +kernel
theorem dX11_agentNumbered_21 : decode cX11_agentNumbered 21 = .ok (.aaload, 1) := by decide +kernel
theorem dX11_agentNumbered_22 : decode cX11_agentNumbered 22 = .ok (.astore_n 2, 1) := by decide +kernel
theorem dX11_agentNumbered_23 : decode cX11_agentNumbered 23 = .ok (.aload_n 2, 1) := by decide +kernel
theorem dX11_agentNumbered_24 : decode cX11_agentNumbered 24 = .ok (.ifnonnull 14, 3) := by decide +kernel
theorem dX11_agentNumbered_27 : decode cX11_agentNumbered 27 = .ok (.new 434, 3) := by decide +kernel
theorem dX11_agentNumbered_30 : decode cX11_agentNumbered 30 = .ok (.dup, 1) := by decide +kernel
theorem dX11_agentNumbered_31 : decode cX11_agentNumbered 31 = .ok (.ldc_w 554, 3) := by decide +kernel
theorem dX11_agentNumbered_34 : decode cX11_agentNumbered 34 = .ok (.invokespecial 438, 3) := by decide +kernel
theorem dX11_agentNumbered_37 : decode cX11_agentNumbered 37 = .ok (.athrow, 1) := by decide +kernel
theorem dX11_agentNumbered_38 : decode cX11_agentNumbered 38 = .ok (.aload_n 2, 1) := by decide +kernel
theorem dX11_agentNumbered_39 : decode cX11_agentNumbered 39 = .ok (.areturn, 1) := by decide +kernel
theorem dX11_refuseEnded_0 : decode cX11_refuseEnded 0 = .ok (.aload_n 0, 1) := by decide +kernel
theorem dX11_refuseEnded_1 : decode cX11_refuseEnded 1 = .ok (.getfield 331, 3) := by decide +kernel
theorem dX11_refuseEnded_4 : decode cX11_refuseEnded 4 = .ok (.ifCond .ne 14, 3) := by decide +kernel
theorem dX11_refuseEnded_7 : decode cX11_refuseEnded 7 = .ok (.new 320, 3) := by decide +kernel
theorem dX11_refuseEnded_10 : decode cX11_refuseEnded 10 = .ok (.dup, 1) := by decide +kernel
theorem dX11_refuseEnded_11 : decode cX11_refuseEnded 11 = .ok (.ldc_w 556, 3) := by decide +kernel
theorem dX11_refuseEnded_14 : decode cX11_refuseEnded 14 = .ok (.invokespecial 324, 3) := by decide +kernel
theorem dX11_refuseEnded_17 : decode cX11_refuseEnded 17 = .ok (.athrow, 1) := by decide +kernel
theorem dX11_refuseEnded_18 : decode cX11_refuseEnded 18 = .ok (.return_, 1) := by decide +kernel
theorem dX11_holdsPoint_0 : decode cX11_holdsPoint 0 = .ok (.aload_n 2, 1) := by decide +kernel
theorem dX11_holdsPoint_1 : decode cX11_holdsPoint 1 = .ok (.invokevirtual 558, 3) := by decide +kernel
theorem dX11_holdsPoint_4 : decode cX11_holdsPoint 4 = .ok (.aload_n 1, 1) := by decide +kernel
theorem dX11_holdsPoint_5 : decode cX11_holdsPoint 5 = .ok (.getfield 355, 3) := by decide +kernel
theorem dX11_holdsPoint_8 : decode cX11_holdsPoint 8 = .ok (.if_icmp .gt 5, 3) := by decide +kernel
theorem dX11_holdsPoint_11 : decode cX11_holdsPoint 11 = .ok (.iconst 1, 1) := by decide +kernel
theorem dX11_holdsPoint_12 : decode cX11_holdsPoint 12 = .ok (.ireturn, 1) := by decide +kernel
theorem dX11_holdsPoint_13 : decode cX11_holdsPoint 13 = .ok (.aload_n 1, 1) := by decide +kernel
theorem dX11_holdsPoint_14 : decode cX11_holdsPoint 14 = .ok (.aload_n 0, 1) := by decide +kernel
theorem dX11_holdsPoint_15 : decode cX11_holdsPoint 15 = .ok (.getfield 56, 3) := by decide +kernel
theorem dX11_holdsPoint_18 : decode cX11_holdsPoint 18 = .ok (.invokevirtual 364, 3) := by decide +kernel
theorem dX11_holdsPoint_21 : decode cX11_holdsPoint 21 = .ok (.iconst 0, 1) := by decide +kernel
theorem dX11_holdsPoint_22 : decode cX11_holdsPoint 22 = .ok (.ireturn, 1) := by decide +kernel
theorem dX11_winsAgainstOthers_0 : decode cX11_winsAgainstOthers 0 = .ok (.aload_n 0, 1) := by decide +kernel
theorem dX11_winsAgainstOthers_1 : decode cX11_winsAgainstOthers 1 = .ok (.getfield 49, 3) := by decide +kernel
theorem dX11_winsAgainstOthers_4 : decode cX11_winsAgainstOthers 4 = .ok (.astore 4, 2) := by decide +kernel
theorem dX11_winsAgainstOthers_6 : decode cX11_winsAgainstOthers 6 = .ok (.aload 4, 2) := by decide +kernel
theorem dX11_winsAgainstOthers_8 : decode cX11_winsAgainstOthers 8 = .ok (.arraylength, 1) := by decide +kernel
theorem dX11_winsAgainstOthers_9 : decode cX11_winsAgainstOthers 9 = .ok (.istore 5, 2) := by decide +kernel
theorem dX11_winsAgainstOthers_11 : decode cX11_winsAgainstOthers 11 = .ok (.iconst 0, 1) := by decide +kernel
theorem dX11_winsAgainstOthers_12 : decode cX11_winsAgainstOthers 12 = .ok (.istore 6, 2) := by decide +kernel
theorem dX11_winsAgainstOthers_14 : decode cX11_winsAgainstOthers 14 = .ok (.iload 6, 2) := by decide +kernel
theorem dX11_winsAgainstOthers_16 : decode cX11_winsAgainstOthers 16 = .ok (.iload 5, 2) := by decide +kernel
theorem dX11_winsAgainstOthers_18 : decode cX11_winsAgainstOthers 18 = .ok (.if_icmp .ge 68, 3) := by decide +kernel
theorem dX11_winsAgainstOthers_21 : decode cX11_winsAgainstOthers 21 = .ok (.aload 4, 2) := by decide +kernel
theorem dX11_winsAgainstOthers_23 : decode cX11_winsAgainstOthers 23 = .ok (.iload 6, 2) := by decide +kernel
theorem dX11_winsAgainstOthers_25 : decode cX11_winsAgainstOthers 25 = .ok (.aaload, 1) := by decide +kernel
theorem dX11_winsAgainstOthers_26 : decode cX11_winsAgainstOthers 26 = .ok (.astore 7, 2) := by decide +kernel
theorem dX11_winsAgainstOthers_28 : decode cX11_winsAgainstOthers 28 = .ok (.aload 7, 2) := by decide +kernel
theorem dX11_winsAgainstOthers_30 : decode cX11_winsAgainstOthers 30 = .ok (.ifnull 50, 3) := by decide +kernel
theorem dX11_winsAgainstOthers_33 : decode cX11_winsAgainstOthers 33 = .ok (.aload 7, 2) := by decide +kernel
theorem dX11_winsAgainstOthers_35 : decode cX11_winsAgainstOthers 35 = .ok (.aload_n 1, 1) := by decide +kernel
theorem dX11_winsAgainstOthers_36 : decode cX11_winsAgainstOthers 36 = .ok (.if_acmp .eq 44, 3) := by decide +kernel
theorem dX11_winsAgainstOthers_39 : decode cX11_winsAgainstOthers 39 = .ok (.aload 7, 2) := by decide +kernel
theorem dX11_winsAgainstOthers_41 : decode cX11_winsAgainstOthers 41 = .ok (.iload_n 2, 1) := by decide +kernel
theorem dX11_winsAgainstOthers_42 : decode cX11_winsAgainstOthers 42 = .ok (.iload_n 3, 1) := by decide +kernel
theorem dX11_winsAgainstOthers_43 : decode cX11_winsAgainstOthers 43 = .ok (.invokevirtual 561, 3) := by decide +kernel
theorem dX11_winsAgainstOthers_46 : decode cX11_winsAgainstOthers 46 = .ok (.ifCond .eq 34, 3) := by decide +kernel
theorem dX11_winsAgainstOthers_49 : decode cX11_winsAgainstOthers 49 = .ok (.aload_n 1, 1) := by decide +kernel
theorem dX11_winsAgainstOthers_50 : decode cX11_winsAgainstOthers 50 = .ok (.getfield 565, 3) := by decide +kernel
theorem dX11_winsAgainstOthers_53 : decode cX11_winsAgainstOthers 53 = .ok (.aload 7, 2) := by decide +kernel
theorem dX11_winsAgainstOthers_55 : decode cX11_winsAgainstOthers 55 = .ok (.getfield 565, 3) := by decide +kernel
theorem dX11_winsAgainstOthers_58 : decode cX11_winsAgainstOthers 58 = .ok (.if_icmp .le 13, 3) := by decide +kernel
theorem dX11_winsAgainstOthers_61 : decode cX11_winsAgainstOthers 61 = .ok (.aload_n 1, 1) := by decide +kernel
theorem dX11_winsAgainstOthers_62 : decode cX11_winsAgainstOthers 62 = .ok (.aload_n 0, 1) := by decide +kernel
theorem dX11_winsAgainstOthers_63 : decode cX11_winsAgainstOthers 63 = .ok (.getfield 56, 3) := by decide +kernel
theorem dX11_winsAgainstOthers_66 : decode cX11_winsAgainstOthers 66 = .ok (.invokevirtual 364, 3) := by decide +kernel
theorem dX11_winsAgainstOthers_69 : decode cX11_winsAgainstOthers 69 = .ok (.iconst 0, 1) := by decide +kernel
theorem dX11_winsAgainstOthers_70 : decode cX11_winsAgainstOthers 70 = .ok (.ireturn, 1) := by decide +kernel
theorem dX11_winsAgainstOthers_71 : decode cX11_winsAgainstOthers 71 = .ok (.aload 7, 2) := by decide +kernel
theorem dX11_winsAgainstOthers_73 : decode cX11_winsAgainstOthers 73 = .ok (.aload_n 0, 1) := by decide +kernel
theorem dX11_winsAgainstOthers_74 : decode cX11_winsAgainstOthers 74 = .ok (.getfield 56, 3) := by decide +kernel
theorem dX11_winsAgainstOthers_77 : decode cX11_winsAgainstOthers 77 = .ok (.invokevirtual 364, 3) := by decide +kernel
theorem dX11_winsAgainstOthers_80 : decode cX11_winsAgainstOthers 80 = .ok (.iinc 6 1, 3) := by decide +kernel
theorem dX11_winsAgainstOthers_83 : decode cX11_winsAgainstOthers 83 = .ok (.goto (-69), 3) := by decide +kernel
theorem dX11_winsAgainstOthers_86 : decode cX11_winsAgainstOthers 86 = .ok (.iconst 1, 1) := by decide +kernel
theorem dX11_winsAgainstOthers_87 : decode cX11_winsAgainstOthers 87 = .ok (.ireturn, 1) := by decide +kernel
theorem dX11_valueToCommit_0 : decode cX11_valueToCommit 0 = .ok (.aload_n 1, 1) := by decide +kernel
theorem dX11_valueToCommit_1 : decode cX11_valueToCommit 1 = .ok (.getfield 348, 3) := by decide +kernel
theorem dX11_valueToCommit_4 : decode cX11_valueToCommit 4 = .ok (.iload_n 2, 1) := by decide +kernel
theorem dX11_valueToCommit_5 : decode cX11_valueToCommit 5 = .ok (.baload, 1) := by decide +kernel
theorem dX11_valueToCommit_6 : decode cX11_valueToCommit 6 = .ok (.ifCond .eq 12, 3) := by decide +kernel
theorem dX11_valueToCommit_9 : decode cX11_valueToCommit 9 = .ok (.aload_n 1, 1) := by decide +kernel
theorem dX11_valueToCommit_10 : decode cX11_valueToCommit 10 = .ok (.getfield 352, 3) := by decide +kernel
theorem dX11_valueToCommit_13 : decode cX11_valueToCommit 13 = .ok (.iload_n 2, 1) := by decide +kernel
theorem dX11_valueToCommit_14 : decode cX11_valueToCommit 14 = .ok (.iaload, 1) := by decide +kernel
theorem dX11_valueToCommit_15 : decode cX11_valueToCommit 15 = .ok (.goto 18, 3) := by decide +kernel
theorem dX11_valueToCommit_18 : decode cX11_valueToCommit 18 = .ok (.aload_n 0, 1) := by decide +kernel
theorem dX11_valueToCommit_19 : decode cX11_valueToCommit 19 = .ok (.iload_n 2, 1) := by decide +kernel
theorem dX11_valueToCommit_20 : decode cX11_valueToCommit 20 = .ok (.invokevirtual 340, 3) := by decide +kernel
theorem dX11_valueToCommit_23 : decode cX11_valueToCommit 23 = .ok (.invokevirtual 410, 3) := by decide +kernel
theorem dX11_valueToCommit_26 : decode cX11_valueToCommit 26 = .ok (.aload_n 1, 1) := by decide +kernel
theorem dX11_valueToCommit_27 : decode cX11_valueToCommit 27 = .ok (.getfield 370, 3) := by decide +kernel
theorem dX11_valueToCommit_30 : decode cX11_valueToCommit 30 = .ok (.iload_n 2, 1) := by decide +kernel
theorem dX11_valueToCommit_31 : decode cX11_valueToCommit 31 = .ok (.iaload, 1) := by decide +kernel
theorem dX11_valueToCommit_32 : decode cX11_valueToCommit 32 = .ok (.iadd, 1) := by decide +kernel
theorem dX11_valueToCommit_33 : decode cX11_valueToCommit 33 = .ok (.ireturn, 1) := by decide +kernel
theorem dX11_staysWithinBounds_0 : decode cX11_staysWithinBounds 0 = .ok (.iconst 0, 1) := by decide +kernel
theorem dX11_staysWithinBounds_1 : decode cX11_staysWithinBounds 1 = .ok (.istore_n 2, 1) := by decide +kernel
theorem dX11_staysWithinBounds_2 : decode cX11_staysWithinBounds 2 = .ok (.iload_n 2, 1) := by decide +kernel
theorem dX11_staysWithinBounds_3 : decode cX11_staysWithinBounds 3 = .ok (.aload_n 0, 1) := by decide +kernel
theorem dX11_staysWithinBounds_4 : decode cX11_staysWithinBounds 4 = .ok (.getfield 44, 3) := by decide +kernel
theorem dX11_staysWithinBounds_7 : decode cX11_staysWithinBounds 7 = .ok (.if_icmp .ge 45, 3) := by decide +kernel
theorem dX11_staysWithinBounds_10 : decode cX11_staysWithinBounds 10 = .ok (.aload_n 0, 1) := by decide +kernel
theorem dX11_staysWithinBounds_11 : decode cX11_staysWithinBounds 11 = .ok (.iload_n 2, 1) := by decide +kernel
theorem dX11_staysWithinBounds_12 : decode cX11_staysWithinBounds 12 = .ok (.invokevirtual 340, 3) := by decide +kernel
theorem dX11_staysWithinBounds_15 : decode cX11_staysWithinBounds 15 = .ok (.astore_n 3, 1) := by decide +kernel
theorem dX11_staysWithinBounds_16 : decode cX11_staysWithinBounds 16 = .ok (.aload_n 1, 1) := by decide +kernel
theorem dX11_staysWithinBounds_17 : decode cX11_staysWithinBounds 17 = .ok (.iload_n 2, 1) := by decide +kernel
theorem dX11_staysWithinBounds_18 : decode cX11_staysWithinBounds 18 = .ok (.invokevirtual 568, 3) := by decide +kernel
theorem dX11_staysWithinBounds_21 : decode cX11_staysWithinBounds 21 = .ok (.ifCond .eq 25, 3) := by decide +kernel
theorem dX11_staysWithinBounds_24 : decode cX11_staysWithinBounds 24 = .ok (.aload_n 0, 1) := by decide +kernel
theorem dX11_staysWithinBounds_25 : decode cX11_staysWithinBounds 25 = .ok (.aload_n 1, 1) := by decide +kernel
theorem dX11_staysWithinBounds_26 : decode cX11_staysWithinBounds 26 = .ok (.iload_n 2, 1) := by decide +kernel
theorem dX11_staysWithinBounds_27 : decode cX11_staysWithinBounds 27 = .ok (.invokevirtual 572, 3) := by decide +kernel
theorem dX11_staysWithinBounds_30 : decode cX11_staysWithinBounds 30 = .ok (.aload_n 3, 1) := by decide +kernel
theorem dX11_staysWithinBounds_31 : decode cX11_staysWithinBounds 31 = .ok (.getfield 576, 3) := by decide +kernel
theorem dX11_staysWithinBounds_34 : decode cX11_staysWithinBounds 34 = .ok (.aload_n 3, 1) := by decide +kernel
theorem dX11_staysWithinBounds_35 : decode cX11_staysWithinBounds 35 = .ok (.getfield 577, 3) := by decide +kernel
theorem dX11_staysWithinBounds_38 : decode cX11_staysWithinBounds 38 = .ok (.invokestatic 256, 3) := by decide +kernel
theorem dX11_staysWithinBounds_41 : decode cX11_staysWithinBounds 41 = .ok (.ifCond .ne 5, 3) := by decide +kernel
theorem dX11_staysWithinBounds_44 : decode cX11_staysWithinBounds 44 = .ok (.iconst 0, 1) := by decide +kernel
theorem dX11_staysWithinBounds_45 : decode cX11_staysWithinBounds 45 = .ok (.ireturn, 1) := by decide +kernel
theorem dX11_staysWithinBounds_46 : decode cX11_staysWithinBounds 46 = .ok (.iinc 2 1, 3) := by decide +kernel
theorem dX11_staysWithinBounds_49 : decode cX11_staysWithinBounds 49 = .ok (.goto (-47), 3) := by decide +kernel
theorem dX11_staysWithinBounds_52 : decode cX11_staysWithinBounds 52 = .ok (.iconst 1, 1) := by decide +kernel
theorem dX11_staysWithinBounds_53 : decode cX11_staysWithinBounds 53 = .ok (.ireturn, 1) := by decide +kernel
theorem dX11_changesAny_0 : decode cX11_changesAny 0 = .ok (.iconst 0, 1) := by decide +kernel
theorem dX11_changesAny_1 : decode cX11_changesAny 1 = .ok (.istore_n 2, 1) := by decide +kernel
theorem dX11_changesAny_2 : decode cX11_changesAny 2 = .ok (.iload_n 2, 1) := by decide +kernel
theorem dX11_changesAny_3 : decode cX11_changesAny 3 = .ok (.aload_n 0, 1) := by decide +kernel
theorem dX11_changesAny_4 : decode cX11_changesAny 4 = .ok (.getfield 44, 3) := by decide +kernel
theorem dX11_changesAny_7 : decode cX11_changesAny 7 = .ok (.if_icmp .ge 19, 3) := by decide +kernel
theorem dX11_changesAny_10 : decode cX11_changesAny 10 = .ok (.aload_n 1, 1) := by decide +kernel
theorem dX11_changesAny_11 : decode cX11_changesAny 11 = .ok (.iload_n 2, 1) := by decide +kernel
theorem dX11_changesAny_12 : decode cX11_changesAny 12 = .ok (.invokevirtual 568, 3) := by decide +kernel
theorem dX11_changesAny_15 : decode cX11_changesAny 15 = .ok (.ifCond .eq 5, 3) := by decide +kernel
theorem dX11_changesAny_18 : decode cX11_changesAny 18 = .ok (.iconst 1, 1) := by decide +kernel
theorem dX11_changesAny_19 : decode cX11_changesAny 19 = .ok (.ireturn, 1) := by decide +kernel
theorem dX11_changesAny_20 : decode cX11_changesAny 20 = .ok (.iinc 2 1, 3) := by decide +kernel
theorem dX11_changesAny_23 : decode cX11_changesAny 23 = .ok (.goto (-21), 3) := by decide +kernel
theorem dX11_changesAny_26 : decode cX11_changesAny 26 = .ok (.iconst 0, 1) := by decide +kernel
theorem dX11_changesAny_27 : decode cX11_changesAny 27 = .ok (.ireturn, 1) := by decide +kernel
theorem dX11_recordChanges_0 : decode cX11_recordChanges 0 = .ok (.aload_n 0, 1) := by decide +kernel
theorem dX11_recordChanges_1 : decode cX11_recordChanges 1 = .ok (.dup, 1) := by decide +kernel
theorem dX11_recordChanges_2 : decode cX11_recordChanges 2 = .ok (.getfield 56, 3) := by decide +kernel
theorem dX11_recordChanges_5 : decode cX11_recordChanges 5 = .ok (.iconst 1, 1) := by decide +kernel
theorem dX11_recordChanges_6 : decode cX11_recordChanges 6 = .ok (.iadd, 1) := by decide +kernel
theorem dX11_recordChanges_7 : decode cX11_recordChanges 7 = .ok (.putfield 56, 3) := by decide +kernel
theorem dX11_recordChanges_10 : decode cX11_recordChanges 10 = .ok (.iconst 0, 1) := by decide +kernel
theorem dX11_recordChanges_11 : decode cX11_recordChanges 11 = .ok (.istore_n 2, 1) := by decide +kernel
theorem dX11_recordChanges_12 : decode cX11_recordChanges 12 = .ok (.iload_n 2, 1) := by decide +kernel
theorem dX11_recordChanges_13 : decode cX11_recordChanges 13 = .ok (.aload_n 0, 1) := by decide +kernel
theorem dX11_recordChanges_14 : decode cX11_recordChanges 14 = .ok (.getfield 44, 3) := by decide +kernel
theorem dX11_recordChanges_17 : decode cX11_recordChanges 17 = .ok (.if_icmp .ge 84, 3) := by decide +kernel
theorem dX11_recordChanges_20 : decode cX11_recordChanges 20 = .ok (.aload_n 1, 1) := by decide +kernel
theorem dX11_recordChanges_21 : decode cX11_recordChanges 21 = .ok (.iload_n 2, 1) := by decide +kernel
theorem dX11_recordChanges_22 : decode cX11_recordChanges 22 = .ok (.invokevirtual 568, 3) := by decide +kernel
theorem dX11_recordChanges_25 : decode cX11_recordChanges 25 = .ok (.ifCond .eq 70, 3) := by decide +kernel
theorem dX11_recordChanges_28 : decode cX11_recordChanges 28 = .ok (.aload_n 0, 1) := by decide +kernel
theorem dX11_recordChanges_29 : decode cX11_recordChanges 29 = .ok (.iload_n 2, 1) := by decide +kernel
theorem dX11_recordChanges_30 : decode cX11_recordChanges 30 = .ok (.invokevirtual 340, 3) := by decide +kernel
theorem dX11_recordChanges_33 : decode cX11_recordChanges 33 = .ok (.astore_n 3, 1) := by decide +kernel
theorem dX11_recordChanges_34 : decode cX11_recordChanges 34 = .ok (.aload_n 3, 1) := by decide +kernel
theorem dX11_recordChanges_35 : decode cX11_recordChanges 35 = .ok (.invokevirtual 410, 3) := by decide +kernel
theorem dX11_recordChanges_38 : decode cX11_recordChanges 38 = .ok (.istore 4, 2) := by decide +kernel
theorem dX11_recordChanges_40 : decode cX11_recordChanges 40 = .ok (.aload_n 0, 1) := by decide +kernel
theorem dX11_recordChanges_41 : decode cX11_recordChanges 41 = .ok (.aload_n 1, 1) := by decide +kernel
theorem dX11_recordChanges_42 : decode cX11_recordChanges 42 = .ok (.iload_n 2, 1) := by decide +kernel
theorem dX11_recordChanges_43 : decode cX11_recordChanges 43 = .ok (.invokevirtual 572, 3) := by decide +kernel
theorem dX11_recordChanges_46 : decode cX11_recordChanges 46 = .ok (.istore 5, 2) := by decide +kernel
theorem dX11_recordChanges_48 : decode cX11_recordChanges 48 = .ok (.aload_n 3, 1) := by decide +kernel
theorem dX11_recordChanges_49 : decode cX11_recordChanges 49 = .ok (.iload 5, 2) := by decide +kernel
theorem dX11_recordChanges_51 : decode cX11_recordChanges 51 = .ok (.aload_n 0, 1) := by decide +kernel
theorem dX11_recordChanges_52 : decode cX11_recordChanges 52 = .ok (.getfield 56, 3) := by decide +kernel
theorem dX11_recordChanges_55 : decode cX11_recordChanges 55 = .ok (.invokevirtual 578, 3) := by decide +kernel
theorem dX11_recordChanges_58 : decode cX11_recordChanges 58 = .ok (.aload_n 0, 1) := by decide +kernel
theorem dX11_recordChanges_59 : decode cX11_recordChanges 59 = .ok (.getfield 62, 3) := by decide +kernel
theorem dX11_recordChanges_62 : decode cX11_recordChanges 62 = .ok (.invokevirtual 417, 3) := by decide +kernel
theorem dX11_recordChanges_65 : decode cX11_recordChanges 65 = .ok (.sipush 512, 3) := by decide +kernel
theorem dX11_recordChanges_68 : decode cX11_recordChanges 68 = .ok (.if_icmp .ge 27, 3) := by decide +kernel
theorem dX11_recordChanges_71 : decode cX11_recordChanges 71 = .ok (.aload_n 0, 1) := by decide +kernel
theorem dX11_recordChanges_72 : decode cX11_recordChanges 72 = .ok (.getfield 62, 3) := by decide +kernel
theorem dX11_recordChanges_75 : decode cX11_recordChanges 75 = .ok (.new 423, 3) := by decide +kernel
theorem dX11_recordChanges_78 : decode cX11_recordChanges 78 = .ok (.dup, 1) := by decide +kernel
theorem dX11_recordChanges_79 : decode cX11_recordChanges 79 = .ok (.aload_n 0, 1) := by decide +kernel
theorem dX11_recordChanges_80 : decode cX11_recordChanges 80 = .ok (.getfield 56, 3) := by decide +kernel
theorem dX11_recordChanges_83 : decode cX11_recordChanges 83 = .ok (.iload_n 2, 1) := by decide +kernel
theorem dX11_recordChanges_84 : decode cX11_recordChanges 84 = .ok (.iload 4, 2) := by decide +kernel
theorem dX11_recordChanges_86 : decode cX11_recordChanges 86 = .ok (.iload 5, 2) := by decide +kernel
theorem dX11_recordChanges_88 : decode cX11_recordChanges 88 = .ok (.invokespecial 581, 3) := by decide +kernel
theorem dX11_recordChanges_91 : decode cX11_recordChanges 91 = .ok (.invokevirtual 584, 3) := by decide +kernel
theorem dX11_recordChanges_94 : decode cX11_recordChanges 94 = .ok (.pop, 1) := by decide +kernel
theorem dX11_recordChanges_95 : decode cX11_recordChanges 95 = .ok (.iinc 2 1, 3) := by decide +kernel
theorem dX11_recordChanges_98 : decode cX11_recordChanges 98 = .ok (.goto (-86), 3) := by decide +kernel
theorem dX11_recordChanges_101 : decode cX11_recordChanges 101 = .ok (.return_, 1) := by decide +kernel
theorem dX11_deliver_0 : decode cX11_deliver 0 = .ok (.iconst 0, 1) := by decide +kernel
theorem dX11_deliver_1 : decode cX11_deliver 1 = .ok (.istore_n 2, 1) := by decide +kernel
theorem dX11_deliver_2 : decode cX11_deliver 2 = .ok (.iload_n 2, 1) := by decide +kernel
theorem dX11_deliver_3 : decode cX11_deliver 3 = .ok (.aload_n 0, 1) := by decide +kernel
theorem dX11_deliver_4 : decode cX11_deliver 4 = .ok (.getfield 72, 3) := by decide +kernel
theorem dX11_deliver_7 : decode cX11_deliver 7 = .ok (.if_icmp .ge 26, 3) := by decide +kernel
theorem dX11_deliver_10 : decode cX11_deliver 10 = .ok (.aload_n 0, 1) := by decide +kernel
theorem dX11_deliver_11 : decode cX11_deliver 11 = .ok (.iload_n 2, 1) := by decide +kernel
theorem dX11_deliver_12 : decode cX11_deliver 12 = .ok (.invokevirtual 454, 3) := by decide +kernel
theorem dX11_deliver_15 : decode cX11_deliver 15 = .ok (.getfield 458, 3) := by decide +kernel
theorem dX11_deliver_18 : decode cX11_deliver 18 = .ok (.aload_n 1, 1) := by decide +kernel
theorem dX11_deliver_19 : decode cX11_deliver 19 = .ok (.getfield 467, 3) := by decide +kernel
theorem dX11_deliver_22 : decode cX11_deliver 22 = .ok (.iload_n 2, 1) := by decide +kernel
theorem dX11_deliver_23 : decode cX11_deliver 23 = .ok (.aaload, 1) := by decide +kernel
theorem dX11_deliver_24 : decode cX11_deliver 24 = .ok (.invokevirtual 588, 3) := by decide +kernel
theorem dX11_deliver_27 : decode cX11_deliver 27 = .ok (.iinc 2 1, 3) := by decide +kernel
theorem dX11_deliver_30 : decode cX11_deliver 30 = .ok (.goto (-28), 3) := by decide +kernel
theorem dX11_deliver_33 : decode cX11_deliver 33 = .ok (.return_, 1) := by decide +kernel
theorem dX12_init_0 : decode cX12_init 0 = .ok (.aload_n 0, 1) := by decide +kernel
theorem dX12_init_1 : decode cX12_init 1 = .ok (.invokespecial 3, 3) := by decide +kernel
theorem dX12_init_4 : decode cX12_init 4 = .ok (.aload_n 0, 1) := by decide +kernel
theorem dX12_init_5 : decode cX12_init 5 = .ok (.new 9, 3) := by decide +kernel
theorem dX12_init_8 : decode cX12_init 8 = .ok (.dup, 1) := by decide +kernel
theorem dX12_init_9 : decode cX12_init 9 = .ok (.invokespecial 11, 3) := by decide +kernel
theorem dX12_init_12 : decode cX12_init 12 = .ok (.putfield 12, 3) := by decide +kernel
theorem dX12_init_15 : decode cX12_init 15 = .ok (.aload_n 0, 1) := by decide +kernel
theorem dX12_init_16 : decode cX12_init 16 = .ok (.iload_n 1, 1) := by decide +kernel
theorem dX12_init_17 : decode cX12_init 17 = .ok (.putfield 18, 3) := by decide +kernel
theorem dX12_init_20 : decode cX12_init 20 = .ok (.aload_n 0, 1) := by decide +kernel
theorem dX12_init_21 : decode cX12_init 21 = .ok (.iload_n 2, 1) := by decide +kernel
theorem dX12_init_22 : decode cX12_init 22 = .ok (.putfield 22, 3) := by decide +kernel
theorem dX12_init_25 : decode cX12_init 25 = .ok (.aload_n 0, 1) := by decide +kernel
theorem dX12_init_26 : decode cX12_init 26 = .ok (.iload_n 3, 1) := by decide +kernel
theorem dX12_init_27 : decode cX12_init 27 = .ok (.putfield 25, 3) := by decide +kernel
theorem dX12_init_30 : decode cX12_init 30 = .ok (.aload_n 0, 1) := by decide +kernel
theorem dX12_init_31 : decode cX12_init 31 = .ok (.iload 4, 2) := by decide +kernel
theorem dX12_init_33 : decode cX12_init 33 = .ok (.putfield 28, 3) := by decide +kernel
theorem dX12_init_36 : decode cX12_init 36 = .ok (.return_, 1) := by decide +kernel
theorem dX12_take_0 : decode cX12_take 0 = .ok (.aload_n 0, 1) := by decide +kernel
theorem dX12_take_1 : decode cX12_take 1 = .ok (.getfield 12, 3) := by decide +kernel
theorem dX12_take_4 : decode cX12_take 4 = .ok (.invokevirtual 32, 3) := by decide +kernel
theorem dX12_take_7 : decode cX12_take 7 = .ok (.bipush 12, 2) := by decide +kernel
theorem dX12_take_9 : decode cX12_take 9 = .ok (.if_icmp .ge 15, 3) := by decide +kernel
theorem dX12_take_12 : decode cX12_take 12 = .ok (.aload_n 0, 1) := by decide +kernel
theorem dX12_take_13 : decode cX12_take 13 = .ok (.getfield 12, 3) := by decide +kernel
theorem dX12_take_16 : decode cX12_take 16 = .ok (.iload_n 1, 1) := by decide +kernel
theorem dX12_take_17 : decode cX12_take 17 = .ok (.invokestatic 36, 3) := by decide +kernel
theorem dX12_take_20 : decode cX12_take 20 = .ok (.invokevirtual 42, 3) := by decide +kernel
theorem dX12_take_23 : decode cX12_take 23 = .ok (.pop, 1) := by decide +kernel
theorem dX12_take_24 : decode cX12_take 24 = .ok (.return_, 1) := by decide +kernel
theorem dX13_init_0 : decode cX13_init 0 = .ok (.aload_n 0, 1) := by decide +kernel
theorem dX13_init_1 : decode cX13_init 1 = .ok (.invokespecial 1, 3) := by decide +kernel
theorem dX13_init_4 : decode cX13_init 4 = .ok (.aload_n 0, 1) := by decide +kernel
theorem dX13_init_5 : decode cX13_init 5 = .ok (.iconst 2, 1) := by decide +kernel
theorem dX13_init_6 : decode cX13_init 6 = .ok (.putfield 7, 3) := by decide +kernel
theorem dX13_init_9 : decode cX13_init 9 = .ok (.aload_n 0, 1) := by decide +kernel
theorem dX13_init_10 : decode cX13_init 10 = .ok (.new 13, 3) := by decide +kernel
theorem dX13_init_13 : decode cX13_init 13 = .ok (.dup, 1) := by decide +kernel
theorem dX13_init_14 : decode cX13_init 14 = .ok (.invokespecial 15, 3) := by decide +kernel
theorem dX13_init_17 : decode cX13_init 17 = .ok (.putfield 16, 3) := by decide +kernel
theorem dX13_init_20 : decode cX13_init 20 = .ok (.aload_n 0, 1) := by decide +kernel
theorem dX13_init_21 : decode cX13_init 21 = .ok (.iload_n 2, 1) := by decide +kernel
theorem dX13_init_22 : decode cX13_init 22 = .ok (.putfield 20, 3) := by decide +kernel
theorem dX13_init_25 : decode cX13_init 25 = .ok (.aload_n 0, 1) := by decide +kernel
theorem dX13_init_26 : decode cX13_init 26 = .ok (.iload_n 3, 1) := by decide +kernel
theorem dX13_init_27 : decode cX13_init 27 = .ok (.putfield 23, 3) := by decide +kernel
theorem dX13_init_30 : decode cX13_init 30 = .ok (.aload_n 0, 1) := by decide +kernel
theorem dX13_init_31 : decode cX13_init 31 = .ok (.iload_n 1, 1) := by decide +kernel
theorem dX13_init_32 : decode cX13_init 32 = .ok (.putfield 26, 3) := by decide +kernel
theorem dX13_init_35 : decode cX13_init 35 = .ok (.return_, 1) := by decide +kernel
theorem dX13_last_0 : decode cX13_last 0 = .ok (.aload_n 0, 1) := by decide +kernel
theorem dX13_last_1 : decode cX13_last 1 = .ok (.getfield 16, 3) := by decide +kernel
theorem dX13_last_4 : decode cX13_last 4 = .ok (.aload_n 0, 1) := by decide +kernel
theorem dX13_last_5 : decode cX13_last 5 = .ok (.getfield 16, 3) := by decide +kernel
theorem dX13_last_8 : decode cX13_last 8 = .ok (.invokevirtual 29, 3) := by decide +kernel
theorem dX13_last_11 : decode cX13_last 11 = .ok (.iconst 1, 1) := by decide +kernel
theorem dX13_last_12 : decode cX13_last 12 = .ok (.isub, 1) := by decide +kernel
theorem dX13_last_13 : decode cX13_last 13 = .ok (.invokevirtual 33, 3) := by decide +kernel
theorem dX13_last_16 : decode cX13_last 16 = .ok (.checkcast 37, 3) := by decide +kernel
theorem dX13_last_19 : decode cX13_last 19 = .ok (.areturn, 1) := by decide +kernel
theorem dX13_come_0 : decode cX13_come 0 = .ok (.iconst 2, 1) := by decide +kernel
theorem dX13_come_1 : decode cX13_come 1 = .ok (.newarray .int, 2) := by decide +kernel
theorem dX13_come_3 : decode cX13_come 3 = .ok (.dup, 1) := by decide +kernel
theorem dX13_come_4 : decode cX13_come 4 = .ok (.iconst 0, 1) := by decide +kernel
theorem dX13_come_5 : decode cX13_come 5 = .ok (.iload_n 1, 1) := by decide +kernel
theorem dX13_come_6 : decode cX13_come 6 = .ok (.iastore, 1) := by decide +kernel
theorem dX13_come_7 : decode cX13_come 7 = .ok (.dup, 1) := by decide +kernel
theorem dX13_come_8 : decode cX13_come 8 = .ok (.iconst 1, 1) := by decide +kernel
theorem dX13_come_9 : decode cX13_come 9 = .ok (.iload_n 2, 1) := by decide +kernel
theorem dX13_come_10 : decode cX13_come 10 = .ok (.iastore, 1) := by decide +kernel
theorem dX13_come_11 : decode cX13_come 11 = .ok (.astore_n 3, 1) := by decide +kernel
theorem dX13_come_12 : decode cX13_come 12 = .ok (.aload_n 0, 1) := by decide +kernel
theorem dX13_come_13 : decode cX13_come 13 = .ok (.getfield 16, 3) := by decide +kernel
theorem dX13_come_16 : decode cX13_come 16 = .ok (.aload_n 3, 1) := by decide +kernel
theorem dX13_come_17 : decode cX13_come 17 = .ok (.invokevirtual 39, 3) := by decide +kernel
theorem dX13_come_20 : decode cX13_come 20 = .ok (.pop, 1) := by decide +kernel
theorem dX13_come_21 : decode cX13_come 21 = .ok (.aload_n 0, 1) := by decide +kernel
theorem dX13_come_22 : decode cX13_come 22 = .ok (.getfield 16, 3) := by decide +kernel
theorem dX13_come_25 : decode cX13_come 25 = .ok (.invokevirtual 29, 3) := by decide +kernel
theorem dX13_come_28 : decode cX13_come 28 = .ok (.aload_n 0, 1) := by decide +kernel
theorem dX13_come_29 : decode cX13_come 29 = .ok (.getfield 7, 3) := by decide +kernel
theorem dX13_come_32 : decode cX13_come 32 = .ok (.if_icmp .le 15, 3) := by decide +kernel
theorem dX13_come_35 : decode cX13_come 35 = .ok (.aload_n 0, 1) := by decide +kernel
theorem dX13_come_36 : decode cX13_come 36 = .ok (.getfield 16, 3) := by decide +kernel
theorem dX13_come_39 : decode cX13_come 39 = .ok (.iconst 0, 1) := by decide +kernel
theorem dX13_come_40 : decode cX13_come 40 = .ok (.invokevirtual 43, 3) := by decide +kernel
theorem dX13_come_43 : decode cX13_come 43 = .ok (.pop, 1) := by decide +kernel
theorem dX13_come_44 : decode cX13_come 44 = .ok (.goto (-23), 3) := by decide +kernel
theorem dX13_come_47 : decode cX13_come 47 = .ok (.return_, 1) := by decide +kernel
theorem dX14_init_0 : decode cX14_init 0 = .ok (.aload_n 0, 1) := by decide +kernel
theorem dX14_init_1 : decode cX14_init 1 = .ok (.invokespecial 1, 3) := by decide +kernel
theorem dX14_init_4 : decode cX14_init 4 = .ok (.aload_n 0, 1) := by decide +kernel
theorem dX14_init_5 : decode cX14_init 5 = .ok (.new 7, 3) := by decide +kernel
theorem dX14_init_8 : decode cX14_init 8 = .ok (.dup, 1) := by decide +kernel
theorem dX14_init_9 : decode cX14_init 9 = .ok (.invokespecial 9, 3) := by decide +kernel
theorem dX14_init_12 : decode cX14_init 12 = .ok (.putfield 10, 3) := by decide +kernel
theorem dX14_init_15 : decode cX14_init 15 = .ok (.aload_n 0, 1) := by decide +kernel
theorem dX14_init_16 : decode cX14_init 16 = .ok (.iload_n 1, 1) := by decide +kernel
theorem dX14_init_17 : decode cX14_init 17 = .ok (.putfield 16, 3) := by decide +kernel
theorem dX14_init_20 : decode cX14_init 20 = .ok (.aload_n 0, 1) := by decide +kernel
theorem dX14_init_21 : decode cX14_init 21 = .ok (.iload_n 2, 1) := by decide +kernel
theorem dX14_init_22 : decode cX14_init 22 = .ok (.putfield 20, 3) := by decide +kernel
theorem dX14_init_25 : decode cX14_init 25 = .ok (.aload_n 0, 1) := by decide +kernel
theorem dX14_init_26 : decode cX14_init 26 = .ok (.iload_n 3, 1) := by decide +kernel
theorem dX14_init_27 : decode cX14_init 27 = .ok (.putfield 24, 3) := by decide +kernel
theorem dX14_init_30 : decode cX14_init 30 = .ok (.aload_n 0, 1) := by decide +kernel
theorem dX14_init_31 : decode cX14_init 31 = .ok (.iload 4, 2) := by decide +kernel
theorem dX14_init_33 : decode cX14_init 33 = .ok (.putfield 27, 3) := by decide +kernel
theorem dX14_init_36 : decode cX14_init 36 = .ok (.aload_n 0, 1) := by decide +kernel
theorem dX14_init_37 : decode cX14_init 37 = .ok (.iload 5, 2) := by decide +kernel
theorem dX14_init_39 : decode cX14_init 39 = .ok (.putfield 30, 3) := by decide +kernel
theorem dX14_init_42 : decode cX14_init 42 = .ok (.return_, 1) := by decide +kernel
theorem dX14_elements_0 : decode cX14_elements 0 = .ok (.iconst 0, 1) := by decide +kernel
theorem dX14_elements_1 : decode cX14_elements 1 = .ok (.istore_n 1, 1) := by decide +kernel
theorem dX14_elements_2 : decode cX14_elements 2 = .ok (.aload_n 0, 1) := by decide +kernel
theorem dX14_elements_3 : decode cX14_elements 3 = .ok (.getfield 10, 3) := by decide +kernel
theorem dX14_elements_6 : decode cX14_elements 6 = .ok (.invokevirtual 33, 3) := by decide +kernel
theorem dX14_elements_9 : decode cX14_elements 9 = .ok (.astore_n 2, 1) := by decide +kernel
theorem dX14_elements_10 : decode cX14_elements 10 = .ok (.aload_n 2, 1) := by decide +kernel
theorem dX14_elements_11 : decode cX14_elements 11 = .ok (.invokeinterface 37 1, 5) := by decide +kernel
theorem dX14_elements_16 : decode cX14_elements 16 = .ok (.ifCond .eq 21, 3) := by decide +kernel
theorem dX14_elements_19 : decode cX14_elements 19 = .ok (.aload_n 2, 1) := by decide +kernel
theorem dX14_elements_20 : decode cX14_elements 20 = .ok (.invokeinterface 43 1, 5) := by decide +kernel
theorem dX14_elements_25 : decode cX14_elements 25 = .ok (.checkcast 47, 3) := by decide +kernel
theorem dX14_elements_28 : decode cX14_elements 28 = .ok (.astore_n 3, 1) := by decide +kernel
theorem dX14_elements_29 : decode cX14_elements 29 = .ok (.iload_n 1, 1) := by decide +kernel
theorem dX14_elements_30 : decode cX14_elements 30 = .ok (.aload_n 3, 1) := by decide +kernel
theorem dX14_elements_31 : decode cX14_elements 31 = .ok (.arraylength, 1) := by decide +kernel
theorem dX14_elements_32 : decode cX14_elements 32 = .ok (.iadd, 1) := by decide +kernel
theorem dX14_elements_33 : decode cX14_elements 33 = .ok (.istore_n 1, 1) := by decide +kernel
theorem dX14_elements_34 : decode cX14_elements 34 = .ok (.goto (-24), 3) := by decide +kernel
theorem dX14_elements_37 : decode cX14_elements 37 = .ok (.iload_n 1, 1) := by decide +kernel
theorem dX14_elements_38 : decode cX14_elements 38 = .ok (.ireturn, 1) := by decide +kernel
theorem dX14_at_0 : decode cX14_at 0 = .ok (.iload_n 1, 1) := by decide +kernel
theorem dX14_at_1 : decode cX14_at 1 = .ok (.istore_n 2, 1) := by decide +kernel
theorem dX14_at_2 : decode cX14_at 2 = .ok (.aload_n 0, 1) := by decide +kernel
theorem dX14_at_3 : decode cX14_at 3 = .ok (.getfield 10, 3) := by decide +kernel
theorem dX14_at_6 : decode cX14_at 6 = .ok (.invokevirtual 33, 3) := by decide +kernel
theorem dX14_at_9 : decode cX14_at 9 = .ok (.astore_n 3, 1) := by decide +kernel
theorem dX14_at_10 : decode cX14_at 10 = .ok (.aload_n 3, 1) := by decide +kernel
theorem dX14_at_11 : decode cX14_at 11 = .ok (.invokeinterface 37 1, 5) := by decide +kernel
theorem dX14_at_16 : decode cX14_at 16 = .ok (.ifCond .eq 35, 3) := by decide +kernel
theorem dX14_at_19 : decode cX14_at 19 = .ok (.aload_n 3, 1) := by decide +kernel
theorem dX14_at_20 : decode cX14_at 20 = .ok (.invokeinterface 43 1, 5) := by decide +kernel
theorem dX14_at_25 : decode cX14_at 25 = .ok (.checkcast 47, 3) := by decide +kernel
theorem dX14_at_28 : decode cX14_at 28 = .ok (.astore 4, 2) := by decide +kernel
theorem dX14_at_30 : decode cX14_at 30 = .ok (.iload_n 2, 1) := by decide +kernel
theorem dX14_at_31 : decode cX14_at 31 = .ok (.aload 4, 2) := by decide +kernel
theorem dX14_at_33 : decode cX14_at 33 = .ok (.arraylength, 1) := by decide +kernel
theorem dX14_at_34 : decode cX14_at 34 = .ok (.if_icmp .ge 8, 3) := by decide +kernel
theorem dX14_at_37 : decode cX14_at 37 = .ok (.aload 4, 2) := by decide +kernel
theorem dX14_at_39 : decode cX14_at 39 = .ok (.iload_n 2, 1) := by decide +kernel
theorem dX14_at_40 : decode cX14_at 40 = .ok (.iaload, 1) := by decide +kernel
theorem dX14_at_41 : decode cX14_at 41 = .ok (.ireturn, 1) := by decide +kernel
theorem dX14_at_42 : decode cX14_at 42 = .ok (.iload_n 2, 1) := by decide +kernel
theorem dX14_at_43 : decode cX14_at 43 = .ok (.aload 4, 2) := by decide +kernel
theorem dX14_at_45 : decode cX14_at 45 = .ok (.arraylength, 1) := by decide +kernel
theorem dX14_at_46 : decode cX14_at 46 = .ok (.isub, 1) := by decide +kernel
theorem dX14_at_47 : decode cX14_at 47 = .ok (.istore_n 2, 1) := by decide +kernel
theorem dX14_at_48 : decode cX14_at 48 = .ok (.goto (-38), 3) := by decide +kernel
theorem dX14_at_51 : decode cX14_at 51 = .ok (.iconst 0, 1) := by decide +kernel
theorem dX14_at_52 : decode cX14_at 52 = .ok (.ireturn, 1) := by decide +kernel
theorem dX15_init_0 : decode cX15_init 0 = .ok (.aload_n 0, 1) := by decide +kernel
theorem dX15_init_1 : decode cX15_init 1 = .ok (.invokespecial 3, 3) := by decide +kernel
theorem dX15_init_4 : decode cX15_init 4 = .ok (.aload_n 0, 1) := by decide +kernel
theorem dX15_init_5 : decode cX15_init 5 = .ok (.bipush 6, 2) := by decide +kernel
theorem dX15_init_7 : decode cX15_init 7 = .ok (.newarray .boolean, 2) := by decide +kernel
theorem dX15_init_9 : decode cX15_init 9 = .ok (.putfield 9, 3) := by decide +kernel
theorem dX15_init_12 : decode cX15_init 12 = .ok (.aload_n 0, 1) := by decide +kernel
theorem dX15_init_13 : decode cX15_init 13 = .ok (.bipush 6, 2) := by decide +kernel
theorem dX15_init_15 : decode cX15_init 15 = .ok (.newarray .int, 2) := by decide +kernel
theorem dX15_init_17 : decode cX15_init 17 = .ok (.putfield 15, 3) := by decide +kernel
theorem dX15_init_20 : decode cX15_init 20 = .ok (.aload_n 0, 1) := by decide +kernel
theorem dX15_init_21 : decode cX15_init 21 = .ok (.bipush 6, 2) := by decide +kernel
theorem dX15_init_23 : decode cX15_init 23 = .ok (.newarray .boolean, 2) := by decide +kernel
theorem dX15_init_25 : decode cX15_init 25 = .ok (.putfield 19, 3) := by decide +kernel
theorem dX15_init_28 : decode cX15_init 28 = .ok (.aload_n 0, 1) := by decide +kernel
theorem dX15_init_29 : decode cX15_init 29 = .ok (.bipush 6, 2) := by decide +kernel
theorem dX15_init_31 : decode cX15_init 31 = .ok (.newarray .boolean, 2) := by decide +kernel
theorem dX15_init_33 : decode cX15_init 33 = .ok (.putfield 22, 3) := by decide +kernel
theorem dX15_init_36 : decode cX15_init 36 = .ok (.aload_n 0, 1) := by decide +kernel
theorem dX15_init_37 : decode cX15_init 37 = .ok (.bipush 6, 2) := by decide +kernel
theorem dX15_init_39 : decode cX15_init 39 = .ok (.newarray .int, 2) := by decide +kernel
theorem dX15_init_41 : decode cX15_init 41 = .ok (.putfield 25, 3) := by decide +kernel
theorem dX15_init_44 : decode cX15_init 44 = .ok (.aload_n 0, 1) := by decide +kernel
theorem dX15_init_45 : decode cX15_init 45 = .ok (.new 28, 3) := by decide +kernel
theorem dX15_init_48 : decode cX15_init 48 = .ok (.dup, 1) := by decide +kernel
theorem dX15_init_49 : decode cX15_init 49 = .ok (.invokespecial 30, 3) := by decide +kernel
theorem dX15_init_52 : decode cX15_init 52 = .ok (.putfield 31, 3) := by decide +kernel
theorem dX15_init_55 : decode cX15_init 55 = .ok (.return_, 1) := by decide +kernel
theorem dX15_forget_0 : decode cX15_forget 0 = .ok (.iconst 0, 1) := by decide +kernel
theorem dX15_forget_1 : decode cX15_forget 1 = .ok (.istore_n 1, 1) := by decide +kernel
theorem dX15_forget_2 : decode cX15_forget 2 = .ok (.iload_n 1, 1) := by decide +kernel
theorem dX15_forget_3 : decode cX15_forget 3 = .ok (.bipush 6, 2) := by decide +kernel
theorem dX15_forget_5 : decode cX15_forget 5 = .ok (.if_icmp .ge 44, 3) := by decide +kernel
theorem dX15_forget_8 : decode cX15_forget 8 = .ok (.aload_n 0, 1) := by decide +kernel
theorem dX15_forget_9 : decode cX15_forget 9 = .ok (.getfield 9, 3) := by decide +kernel
theorem dX15_forget_12 : decode cX15_forget 12 = .ok (.iload_n 1, 1) := by decide +kernel
theorem dX15_forget_13 : decode cX15_forget 13 = .ok (.iconst 0, 1) := by decide +kernel
theorem dX15_forget_14 : decode cX15_forget 14 = .ok (.bastore, 1) := by decide +kernel
theorem dX15_forget_15 : decode cX15_forget 15 = .ok (.aload_n 0, 1) := by decide +kernel
theorem dX15_forget_16 : decode cX15_forget 16 = .ok (.getfield 15, 3) := by decide +kernel
theorem dX15_forget_19 : decode cX15_forget 19 = .ok (.iload_n 1, 1) := by decide +kernel
theorem dX15_forget_20 : decode cX15_forget 20 = .ok (.iconst 0, 1) := by decide +kernel
theorem dX15_forget_21 : decode cX15_forget 21 = .ok (.iastore, 1) := by decide +kernel
theorem dX15_forget_22 : decode cX15_forget 22 = .ok (.aload_n 0, 1) := by decide +kernel
theorem dX15_forget_23 : decode cX15_forget 23 = .ok (.getfield 19, 3) := by decide +kernel
theorem dX15_forget_26 : decode cX15_forget 26 = .ok (.iload_n 1, 1) := by decide +kernel
theorem dX15_forget_27 : decode cX15_forget 27 = .ok (.iconst 0, 1) := by decide +kernel
theorem dX15_forget_28 : decode cX15_forget 28 = .ok (.bastore, 1) := by decide +kernel
theorem dX15_forget_29 : decode cX15_forget 29 = .ok (.aload_n 0, 1) := by decide +kernel
theorem dX15_forget_30 : decode cX15_forget 30 = .ok (.getfield 22, 3) := by decide +kernel
theorem dX15_forget_33 : decode cX15_forget 33 = .ok (.iload_n 1, 1) := by decide +kernel
theorem dX15_forget_34 : decode cX15_forget 34 = .ok (.iconst 0, 1) := by decide +kernel
theorem dX15_forget_35 : decode cX15_forget 35 = .ok (.bastore, 1) := by decide +kernel
theorem dX15_forget_36 : decode cX15_forget 36 = .ok (.aload_n 0, 1) := by decide +kernel
theorem dX15_forget_37 : decode cX15_forget 37 = .ok (.getfield 25, 3) := by decide +kernel
theorem dX15_forget_40 : decode cX15_forget 40 = .ok (.iload_n 1, 1) := by decide +kernel
theorem dX15_forget_41 : decode cX15_forget 41 = .ok (.iconst 0, 1) := by decide +kernel
theorem dX15_forget_42 : decode cX15_forget 42 = .ok (.iastore, 1) := by decide +kernel
theorem dX15_forget_43 : decode cX15_forget 43 = .ok (.iinc 1 1, 3) := by decide +kernel
theorem dX15_forget_46 : decode cX15_forget 46 = .ok (.goto (-44), 3) := by decide +kernel
theorem dX15_forget_49 : decode cX15_forget 49 = .ok (.aload_n 0, 1) := by decide +kernel
theorem dX15_forget_50 : decode cX15_forget 50 = .ok (.getfield 31, 3) := by decide +kernel
theorem dX15_forget_53 : decode cX15_forget 53 = .ok (.invokevirtual 35, 3) := by decide +kernel
theorem dX15_forget_56 : decode cX15_forget 56 = .ok (.return_, 1) := by decide +kernel
theorem dX16_init_0 : decode cX16_init 0 = .ok (.aload_n 0, 1) := by decide +kernel
theorem dX16_init_1 : decode cX16_init 1 = .ok (.invokespecial 1, 3) := by decide +kernel
theorem dX16_init_4 : decode cX16_init 4 = .ok (.aload_n 0, 1) := by decide +kernel
theorem dX16_init_5 : decode cX16_init 5 = .ok (.bipush 60, 2) := by decide +kernel
theorem dX16_init_7 : decode cX16_init 7 = .ok (.newarray .char, 2) := by decide +kernel
theorem dX16_init_9 : decode cX16_init 9 = .ok (.putfield 7, 3) := by decide +kernel
theorem dX16_init_12 : decode cX16_init 12 = .ok (.aload_n 0, 1) := by decide +kernel
theorem dX16_init_13 : decode cX16_init 13 = .ok (.bipush 60, 2) := by decide +kernel
theorem dX16_init_15 : decode cX16_init 15 = .ok (.newarray .int, 2) := by decide +kernel
theorem dX16_init_17 : decode cX16_init 17 = .ok (.putfield 13, 3) := by decide +kernel
theorem dX16_init_20 : decode cX16_init 20 = .ok (.aload_n 0, 1) := by decide +kernel
theorem dX16_init_21 : decode cX16_init 21 = .ok (.sipush 3840, 3) := by decide +kernel
theorem dX16_init_24 : decode cX16_init 24 = .ok (.newarray .int, 2) := by decide +kernel
theorem dX16_init_26 : decode cX16_init 26 = .ok (.putfield 17, 3) := by decide +kernel
theorem dX16_init_29 : decode cX16_init 29 = .ok (.aload_n 0, 1) := by decide +kernel
theorem dX16_init_30 : decode cX16_init 30 = .ok (.sipush 1260, 3) := by decide +kernel
theorem dX16_init_33 : decode cX16_init 33 = .ok (.newarray .int, 2) := by decide +kernel
theorem dX16_init_35 : decode cX16_init 35 = .ok (.putfield 20, 3) := by decide +kernel
theorem dX16_init_38 : decode cX16_init 38 = .ok (.aload_n 0, 1) := by decide +kernel
theorem dX16_init_39 : decode cX16_init 39 = .ok (.sipush 1260, 3) := by decide +kernel
theorem dX16_init_42 : decode cX16_init 42 = .ok (.newarray .boolean, 2) := by decide +kernel
theorem dX16_init_44 : decode cX16_init 44 = .ok (.putfield 23, 3) := by decide +kernel
theorem dX16_init_47 : decode cX16_init 47 = .ok (.aload_n 0, 1) := by decide +kernel
theorem dX16_init_48 : decode cX16_init 48 = .ok (.ldc 27, 2) := by decide +kernel
theorem dX16_init_50 : decode cX16_init 50 = .ok (.newarray .boolean, 2) := by decide +kernel
theorem dX16_init_52 : decode cX16_init 52 = .ok (.putfield 28, 3) := by decide +kernel
theorem dX16_init_55 : decode cX16_init 55 = .ok (.aload_n 0, 1) := by decide +kernel
theorem dX16_init_56 : decode cX16_init 56 = .ok (.ldc 27, 2) := by decide +kernel
theorem dX16_init_58 : decode cX16_init 58 = .ok (.newarray .int, 2) := by decide +kernel
theorem dX16_init_60 : decode cX16_init 60 = .ok (.putfield 31, 3) := by decide +kernel
theorem dX16_init_63 : decode cX16_init 63 = .ok (.aload_n 0, 1) := by decide +kernel
theorem dX16_init_64 : decode cX16_init 64 = .ok (.sipush 20460, 3) := by decide +kernel
theorem dX16_init_67 : decode cX16_init 67 = .ok (.newarray .int, 2) := by decide +kernel
theorem dX16_init_69 : decode cX16_init 69 = .ok (.putfield 34, 3) := by decide +kernel
theorem dX16_init_72 : decode cX16_init 72 = .ok (.aload_n 0, 1) := by decide +kernel
theorem dX16_init_73 : decode cX16_init 73 = .ok (.new 37, 3) := by decide +kernel
theorem dX16_init_76 : decode cX16_init 76 = .ok (.dup, 1) := by decide +kernel
theorem dX16_init_77 : decode cX16_init 77 = .ok (.invokespecial 39, 3) := by decide +kernel
theorem dX16_init_80 : decode cX16_init 80 = .ok (.putfield 40, 3) := by decide +kernel
theorem dX16_init_83 : decode cX16_init 83 = .ok (.aload_n 0, 1) := by decide +kernel
theorem dX16_init_84 : decode cX16_init 84 = .ok (.bipush 12, 2) := by decide +kernel
theorem dX16_init_86 : decode cX16_init 86 = .ok (.newarray .int, 2) := by decide +kernel
theorem dX16_init_88 : decode cX16_init 88 = .ok (.putfield 44, 3) := by decide +kernel
theorem dX16_init_91 : decode cX16_init 91 = .ok (.aload_n 0, 1) := by decide +kernel
theorem dX16_init_92 : decode cX16_init 92 = .ok (.new 37, 3) := by decide +kernel
theorem dX16_init_95 : decode cX16_init 95 = .ok (.dup, 1) := by decide +kernel
theorem dX16_init_96 : decode cX16_init 96 = .ok (.invokespecial 39, 3) := by decide +kernel
theorem dX16_init_99 : decode cX16_init 99 = .ok (.putfield 47, 3) := by decide +kernel
theorem dX16_init_102 : decode cX16_init 102 = .ok (.aload_n 0, 1) := by decide +kernel
theorem dX16_init_103 : decode cX16_init 103 = .ok (.new 37, 3) := by decide +kernel
theorem dX16_init_106 : decode cX16_init 106 = .ok (.dup, 1) := by decide +kernel
theorem dX16_init_107 : decode cX16_init 107 = .ok (.invokespecial 39, 3) := by decide +kernel
theorem dX16_init_110 : decode cX16_init 110 = .ok (.putfield 50, 3) := by decide +kernel
theorem dX16_init_113 : decode cX16_init 113 = .ok (.aload_n 0, 1) := by decide +kernel
theorem dX16_init_114 : decode cX16_init 114 = .ok (.iconst 3, 1) := by decide +kernel
theorem dX16_init_115 : decode cX16_init 115 = .ok (.anewarray 53, 3) := by decide +kernel
theorem dX16_init_118 : decode cX16_init 118 = .ok (.dup, 1) := by decide +kernel
theorem dX16_init_119 : decode cX16_init 119 = .ok (.iconst 0, 1) := by decide +kernel
theorem dX16_init_120 : decode cX16_init 120 = .ok (.new 53, 3) := by decide +kernel
theorem dX16_init_123 : decode cX16_init 123 = .ok (.dup, 1) := by decide +kernel
theorem dX16_init_124 : decode cX16_init 124 = .ok (.invokespecial 55, 3) := by decide +kernel
theorem dX16_init_127 : decode cX16_init 127 = .ok (.aastore, 1) := by decide +kernel
theorem dX16_init_128 : decode cX16_init 128 = .ok (.dup, 1) := by decide +kernel
theorem dX16_init_129 : decode cX16_init 129 = .ok (.iconst 1, 1) := by decide +kernel
theorem dX16_init_130 : decode cX16_init 130 = .ok (.new 53, 3) := by decide +kernel
theorem dX16_init_133 : decode cX16_init 133 = .ok (.dup, 1) := by decide +kernel
theorem dX16_init_134 : decode cX16_init 134 = .ok (.invokespecial 55, 3) := by decide +kernel
theorem dX16_init_137 : decode cX16_init 137 = .ok (.aastore, 1) := by decide +kernel
theorem dX16_init_138 : decode cX16_init 138 = .ok (.dup, 1) := by decide +kernel
theorem dX16_init_139 : decode cX16_init 139 = .ok (.iconst 2, 1) := by decide +kernel
theorem dX16_init_140 : decode cX16_init 140 = .ok (.new 53, 3) := by decide +kernel
theorem dX16_init_143 : decode cX16_init 143 = .ok (.dup, 1) := by decide +kernel
theorem dX16_init_144 : decode cX16_init 144 = .ok (.invokespecial 55, 3) := by decide +kernel
theorem dX16_init_147 : decode cX16_init 147 = .ok (.aastore, 1) := by decide +kernel
theorem dX16_init_148 : decode cX16_init 148 = .ok (.putfield 56, 3) := by decide +kernel
theorem dX16_init_151 : decode cX16_init 151 = .ok (.aload_n 0, 1) := by decide +kernel
theorem dX16_init_152 : decode cX16_init 152 = .ok (.new 37, 3) := by decide +kernel
theorem dX16_init_155 : decode cX16_init 155 = .ok (.dup, 1) := by decide +kernel
theorem dX16_init_156 : decode cX16_init 156 = .ok (.invokespecial 39, 3) := by decide +kernel
theorem dX16_init_159 : decode cX16_init 159 = .ok (.putfield 60, 3) := by decide +kernel
theorem dX16_init_162 : decode cX16_init 162 = .ok (.return_, 1) := by decide +kernel
theorem dX16_thrown_0 : decode cX16_thrown 0 = .ok (.aload_n 0, 1) := by decide +kernel
theorem dX16_thrown_1 : decode cX16_thrown 1 = .ok (.getfield 63, 3) := by decide +kernel
theorem dX16_thrown_4 : decode cX16_thrown 4 = .ok (.ireturn, 1) := by decide +kernel
theorem dX16_in_0 : decode cX16_in 0 = .ok (.iload_n 0, 1) := by decide +kernel
theorem dX16_in_1 : decode cX16_in 1 = .ok (.iload_n 1, 1) := by decide +kernel
theorem dX16_in_2 : decode cX16_in 2 = .ok (.if_icmp .lt 12, 3) := by decide +kernel
theorem dX16_in_5 : decode cX16_in 5 = .ok (.iload_n 0, 1) := by decide +kernel
theorem dX16_in_6 : decode cX16_in 6 = .ok (.iload_n 2, 1) := by decide +kernel
theorem dX16_in_7 : decode cX16_in 7 = .ok (.if_icmp .gt 7, 3) := by decide +kernel
theorem dX16_in_10 : decode cX16_in 10 = .ok (.iconst 1, 1) := by decide +kernel
theorem dX16_in_11 : decode cX16_in 11 = .ok (.goto 4, 3) := by decide +kernel
theorem dX16_in_14 : decode cX16_in 14 = .ok (.iconst 0, 1) := by decide +kernel
theorem dX16_in_15 : decode cX16_in 15 = .ok (.ireturn, 1) := by decide +kernel
theorem dX16_fails_0 : decode cX16_fails 0 = .ok (.iload_n 1, 1) := by decide +kernel
theorem dX16_fails_1 : decode cX16_fails 1 = .ok (.ifCond .eq 15, 3) := by decide +kernel
theorem dX16_fails_4 : decode cX16_fails 4 = .ok (.aload_n 0, 1) := by decide +kernel
theorem dX16_fails_5 : decode cX16_fails 5 = .ok (.getfield 63, 3) := by decide +kernel
theorem dX16_fails_8 : decode cX16_fails 8 = .ok (.ifCond .ne 8, 3) := by decide +kernel
theorem dX16_fails_11 : decode cX16_fails 11 = .ok (.aload_n 0, 1) := by decide +kernel
theorem dX16_fails_12 : decode cX16_fails 12 = .ok (.iload_n 2, 1) := by decide +kernel
theorem dX16_fails_13 : decode cX16_fails 13 = .ok (.putfield 63, 3) := by decide +kernel
theorem dX16_fails_16 : decode cX16_fails 16 = .ok (.aload_n 0, 1) := by decide +kernel
theorem dX16_fails_17 : decode cX16_fails 17 = .ok (.getfield 63, 3) := by decide +kernel
theorem dX16_fails_20 : decode cX16_fails 20 = .ok (.ifCond .eq 7, 3) := by decide +kernel
theorem dX16_fails_23 : decode cX16_fails 23 = .ok (.iconst 1, 1) := by decide +kernel
theorem dX16_fails_24 : decode cX16_fails 24 = .ok (.goto 4, 3) := by decide +kernel
theorem dX16_fails_27 : decode cX16_fails 27 = .ok (.iconst 0, 1) := by decide +kernel
theorem dX16_fails_28 : decode cX16_fails 28 = .ok (.ireturn, 1) := by decide +kernel
theorem dX16_noValue_0 : decode cX16_noValue 0 = .ok (.iload_n 1, 1) := by decide +kernel
theorem dX16_noValue_1 : decode cX16_noValue 1 = .ok (.iconst 0, 1) := by decide +kernel
theorem dX16_noValue_2 : decode cX16_noValue 2 = .ok (.aload_n 0, 1) := by decide +kernel
theorem dX16_noValue_3 : decode cX16_noValue 3 = .ok (.getfield 67, 3) := by decide +kernel
theorem dX16_noValue_6 : decode cX16_noValue 6 = .ok (.iconst 1, 1) := by decide +kernel
theorem dX16_noValue_7 : decode cX16_noValue 7 = .ok (.isub, 1) := by decide +kernel
theorem dX16_noValue_8 : decode cX16_noValue 8 = .ok (.invokestatic 70, 3) := by decide +kernel
theorem dX16_noValue_11 : decode cX16_noValue 11 = .ok (.ifCond .ne 7, 3) := by decide +kernel
theorem dX16_noValue_14 : decode cX16_noValue 14 = .ok (.iconst 1, 1) := by decide +kernel
theorem dX16_noValue_15 : decode cX16_noValue 15 = .ok (.goto 4, 3) := by decide +kernel
theorem dX16_noValue_18 : decode cX16_noValue 18 = .ok (.iconst 0, 1) := by decide +kernel
theorem dX16_noValue_19 : decode cX16_noValue 19 = .ok (.ireturn, 1) := by decide +kernel
theorem dX16_isFull_0 : decode cX16_isFull 0 = .ok (.aload_n 0, 1) := by decide +kernel
theorem dX16_isFull_1 : decode cX16_isFull 1 = .ok (.getfield 67, 3) := by decide +kernel
theorem dX16_isFull_4 : decode cX16_isFull 4 = .ok (.bipush 60, 2) := by decide +kernel
theorem dX16_isFull_6 : decode cX16_isFull 6 = .ok (.if_icmp .ne 7, 3) := by decide +kernel
theorem dX16_isFull_9 : decode cX16_isFull 9 = .ok (.iconst 1, 1) := by decide +kernel
theorem dX16_isFull_10 : decode cX16_isFull 10 = .ok (.goto 4, 3) := by decide +kernel
theorem dX16_isFull_13 : decode cX16_isFull 13 = .ok (.iconst 0, 1) := by decide +kernel
theorem dX16_isFull_14 : decode cX16_isFull 14 = .ok (.ireturn, 1) := by decide +kernel
theorem dX16_noElement_0 : decode cX16_noElement 0 = .ok (.iload_n 0, 1) := by decide +kernel
theorem dX16_noElement_1 : decode cX16_noElement 1 = .ok (.sipush (-999), 3) := by decide +kernel
theorem dX16_noElement_4 : decode cX16_noElement 4 = .ok (.sipush 999, 3) := by decide +kernel
theorem dX16_noElement_7 : decode cX16_noElement 7 = .ok (.invokestatic 70, 3) := by decide +kernel
theorem dX16_noElement_10 : decode cX16_noElement 10 = .ok (.ifCond .ne 7, 3) := by decide +kernel
theorem dX16_noElement_13 : decode cX16_noElement 13 = .ok (.iconst 1, 1) := by decide +kernel
theorem dX16_noElement_14 : decode cX16_noElement 14 = .ok (.goto 4, 3) := by decide +kernel
theorem dX16_noElement_17 : decode cX16_noElement 17 = .ok (.iconst 0, 1) := by decide +kernel
theorem dX16_noElement_18 : decode cX16_noElement 18 = .ok (.ireturn, 1) := by decide +kernel
theorem dX16_depthOf_0 : decode cX16_depthOf 0 = .ok (.iload_n 0, 1) := by decide +kernel
theorem dX16_depthOf_1 : decode cX16_depthOf 1 = .ok (.iconst 4, 1) := by decide +kernel
theorem dX16_depthOf_2 : decode cX16_depthOf 2 = .ok (.if_icmp .gt 7, 3) := by decide +kernel
theorem dX16_depthOf_5 : decode cX16_depthOf 5 = .ok (.iconst 1, 1) := by decide +kernel
theorem dX16_depthOf_6 : decode cX16_depthOf 6 = .ok (.goto 14, 3) := by decide +kernel
theorem dX16_depthOf_9 : decode cX16_depthOf 9 = .ok (.iload_n 0, 1) := by decide +kernel
theorem dX16_depthOf_10 : decode cX16_depthOf 10 = .ok (.bipush 16, 2) := by decide +kernel
theorem dX16_depthOf_12 : decode cX16_depthOf 12 = .ok (.if_icmp .gt 7, 3) := by decide +kernel
theorem dX16_depthOf_15 : decode cX16_depthOf 15 = .ok (.iconst 2, 1) := by decide +kernel
theorem dX16_depthOf_16 : decode cX16_depthOf 16 = .ok (.goto 4, 3) := by decide +kernel
theorem dX16_depthOf_19 : decode cX16_depthOf 19 = .ok (.iconst 3, 1) := by decide +kernel
theorem dX16_depthOf_20 : decode cX16_depthOf 20 = .ok (.ireturn, 1) := by decide +kernel
theorem dX16_width_0 : decode cX16_width 0 = .ok (.iload_n 0, 1) := by decide +kernel
theorem dX16_width_1 : decode cX16_width 1 = .ok (.bipush 16, 2) := by decide +kernel
theorem dX16_width_3 : decode cX16_width 3 = .ok (.if_icmp .ge 7, 3) := by decide +kernel
theorem dX16_width_6 : decode cX16_width 6 = .ok (.iconst 4, 1) := by decide +kernel
theorem dX16_width_7 : decode cX16_width 7 = .ok (.goto 16, 3) := by decide +kernel
theorem dX16_width_10 : decode cX16_width 10 = .ok (.iload_n 0, 1) := by decide +kernel
theorem dX16_width_11 : decode cX16_width 11 = .ok (.bipush 20, 2) := by decide +kernel
theorem dX16_width_13 : decode cX16_width 13 = .ok (.if_icmp .ge 8, 3) := by decide +kernel
theorem dX16_width_16 : decode cX16_width 16 = .ok (.bipush 16, 2) := by decide +kernel
theorem dX16_width_18 : decode cX16_width 18 = .ok (.goto 5, 3) := by decide +kernel
theorem dX16_width_21 : decode cX16_width 21 = .ok (.bipush 64, 2) := by decide +kernel
theorem dX16_width_23 : decode cX16_width 23 = .ok (.ireturn, 1) := by decide +kernel
theorem dX16_from_0 : decode cX16_from 0 = .ok (.iload_n 0, 1) := by decide +kernel
theorem dX16_from_1 : decode cX16_from 1 = .ok (.bipush 16, 2) := by decide +kernel
theorem dX16_from_3 : decode cX16_from 3 = .ok (.if_icmp .ge 9, 3) := by decide +kernel
theorem dX16_from_6 : decode cX16_from 6 = .ok (.iconst 4, 1) := by decide +kernel
theorem dX16_from_7 : decode cX16_from 7 = .ok (.iload_n 0, 1) := by decide +kernel
theorem dX16_from_8 : decode cX16_from 8 = .ok (.imul, 1) := by decide +kernel
theorem dX16_from_9 : decode cX16_from 9 = .ok (.goto 20, 3) := by decide +kernel
theorem dX16_from_12 : decode cX16_from 12 = .ok (.iload_n 0, 1) := by decide +kernel
theorem dX16_from_13 : decode cX16_from 13 = .ok (.bipush 20, 2) := by decide +kernel
theorem dX16_from_15 : decode cX16_from 15 = .ok (.if_icmp .ge 13, 3) := by decide +kernel
theorem dX16_from_18 : decode cX16_from 18 = .ok (.bipush 16, 2) := by decide +kernel
theorem dX16_from_20 : decode cX16_from 20 = .ok (.iload_n 0, 1) := by decide +kernel
theorem dX16_from_21 : decode cX16_from 21 = .ok (.bipush 16, 2) := by decide +kernel
theorem dX16_from_23 : decode cX16_from 23 = .ok (.isub, 1) := by decide +kernel
theorem dX16_from_24 : decode cX16_from 24 = .ok (.imul, 1) := by decide +kernel
theorem dX16_from_25 : decode cX16_from 25 = .ok (.goto 4, 3) := by decide +kernel
theorem dX16_from_28 : decode cX16_from 28 = .ok (.iconst 0, 1) := by decide +kernel
theorem dX16_from_29 : decode cX16_from 29 = .ok (.ireturn, 1) := by decide +kernel
theorem dX16_isThere_0 : decode cX16_isThere 0 = .ok (.iload_n 0, 1) := by decide +kernel
theorem dX16_isThere_1 : decode cX16_isThere 1 = .ok (.bipush 16, 2) := by decide +kernel
theorem dX16_isThere_3 : decode cX16_isThere 3 = .ok (.if_icmp .ge 7, 3) := by decide +kernel
theorem dX16_isThere_6 : decode cX16_isThere 6 = .ok (.iconst 1, 1) := by decide +kernel
theorem dX16_isThere_7 : decode cX16_isThere 7 = .ok (.goto 14, 3) := by decide +kernel
theorem dX16_isThere_10 : decode cX16_isThere 10 = .ok (.iload_n 0, 1) := by decide +kernel
theorem dX16_isThere_11 : decode cX16_isThere 11 = .ok (.bipush 20, 2) := by decide +kernel
theorem dX16_isThere_13 : decode cX16_isThere 13 = .ok (.if_icmp .ge 7, 3) := by decide +kernel
theorem dX16_isThere_16 : decode cX16_isThere 16 = .ok (.iconst 2, 1) := by decide +kernel
theorem dX16_isThere_17 : decode cX16_isThere 17 = .ok (.goto 4, 3) := by decide +kernel
theorem dX16_isThere_20 : decode cX16_isThere 20 = .ok (.iconst 3, 1) := by decide +kernel
theorem dX16_isThere_21 : decode cX16_isThere 21 = .ok (.istore_n 2, 1) := by decide +kernel
theorem dX16_isThere_22 : decode cX16_isThere 22 = .ok (.iload_n 2, 1) := by decide +kernel
theorem dX16_isThere_23 : decode cX16_isThere 23 = .ok (.iload_n 1, 1) := by decide +kernel
theorem dX16_isThere_24 : decode cX16_isThere 24 = .ok (.invokestatic 74, 3) := by decide +kernel
theorem dX16_isThere_27 : decode cX16_isThere 27 = .ok (.if_icmp .gt 19, 3) := by decide +kernel
theorem dX16_isThere_30 : decode cX16_isThere 30 = .ok (.iload_n 0, 1) := by decide +kernel
theorem dX16_isThere_31 : decode cX16_isThere 31 = .ok (.invokestatic 78, 3) := by decide +kernel
theorem dX16_isThere_34 : decode cX16_isThere 34 = .ok (.iload_n 1, 1) := by decide +kernel
theorem dX16_isThere_35 : decode cX16_isThere 35 = .ok (.if_icmp .lt 7, 3) := by decide +kernel
theorem dX16_isThere_38 : decode cX16_isThere 38 = .ok (.iload_n 0, 1) := by decide +kernel
theorem dX16_isThere_39 : decode cX16_isThere 39 = .ok (.ifCond .ne 7, 3) := by decide +kernel
theorem dX16_isThere_42 : decode cX16_isThere 42 = .ok (.iconst 1, 1) := by decide +kernel
theorem dX16_isThere_43 : decode cX16_isThere 43 = .ok (.goto 4, 3) := by decide +kernel
theorem dX16_isThere_46 : decode cX16_isThere 46 = .ok (.iconst 0, 1) := by decide +kernel
theorem dX16_isThere_47 : decode cX16_isThere 47 = .ok (.ireturn, 1) := by decide +kernel
theorem dX16_isSameBelow_0 : decode cX16_isSameBelow 0 = .ok (.iload_n 1, 1) := by decide +kernel
theorem dX16_isSameBelow_1 : decode cX16_isSameBelow 1 = .ok (.invokestatic 78, 3) := by decide +kernel
theorem dX16_isSameBelow_4 : decode cX16_isSameBelow 4 = .ok (.iload_n 1, 1) := by decide +kernel
theorem dX16_isSameBelow_5 : decode cX16_isSameBelow 5 = .ok (.invokestatic 81, 3) := by decide +kernel
theorem dX16_isSameBelow_8 : decode cX16_isSameBelow 8 = .ok (.iadd, 1) := by decide +kernel
theorem dX16_isSameBelow_9 : decode cX16_isSameBelow 9 = .ok (.istore 4, 2) := by decide +kernel
theorem dX16_isSameBelow_11 : decode cX16_isSameBelow 11 = .ok (.aload_n 0, 1) := by decide +kernel
theorem dX16_isSameBelow_12 : decode cX16_isSameBelow 12 = .ok (.getfield 13, 3) := by decide +kernel
theorem dX16_isSameBelow_15 : decode cX16_isSameBelow 15 = .ok (.iload_n 2, 1) := by decide +kernel
theorem dX16_isSameBelow_16 : decode cX16_isSameBelow 16 = .ok (.iaload, 1) := by decide +kernel
theorem dX16_isSameBelow_17 : decode cX16_isSameBelow 17 = .ok (.iload 4, 2) := by decide +kernel
theorem dX16_isSameBelow_19 : decode cX16_isSameBelow 19 = .ok (.if_icmp .ge 12, 3) := by decide +kernel
theorem dX16_isSameBelow_22 : decode cX16_isSameBelow 22 = .ok (.aload_n 0, 1) := by decide +kernel
theorem dX16_isSameBelow_23 : decode cX16_isSameBelow 23 = .ok (.getfield 13, 3) := by decide +kernel
theorem dX16_isSameBelow_26 : decode cX16_isSameBelow 26 = .ok (.iload_n 2, 1) := by decide +kernel
theorem dX16_isSameBelow_27 : decode cX16_isSameBelow 27 = .ok (.iaload, 1) := by decide +kernel
theorem dX16_isSameBelow_28 : decode cX16_isSameBelow 28 = .ok (.goto 5, 3) := by decide +kernel
theorem dX16_isSameBelow_31 : decode cX16_isSameBelow 31 = .ok (.iload 4, 2) := by decide +kernel
theorem dX16_isSameBelow_33 : decode cX16_isSameBelow 33 = .ok (.istore 5, 2) := by decide +kernel
theorem dX16_isSameBelow_35 : decode cX16_isSameBelow 35 = .ok (.aload_n 0, 1) := by decide +kernel
theorem dX16_isSameBelow_36 : decode cX16_isSameBelow 36 = .ok (.getfield 13, 3) := by decide +kernel
theorem dX16_isSameBelow_39 : decode cX16_isSameBelow 39 = .ok (.iload_n 3, 1) := by decide +kernel
theorem dX16_isSameBelow_40 : decode cX16_isSameBelow 40 = .ok (.iaload, 1) := by decide +kernel
theorem dX16_isSameBelow_41 : decode cX16_isSameBelow 41 = .ok (.iload 4, 2) := by decide +kernel
theorem dX16_isSameBelow_43 : decode cX16_isSameBelow 43 = .ok (.if_icmp .ge 12, 3) := by decide +kernel
theorem dX16_isSameBelow_46 : decode cX16_isSameBelow 46 = .ok (.aload_n 0, 1) := by decide +kernel
theorem dX16_isSameBelow_47 : decode cX16_isSameBelow 47 = .ok (.getfield 13, 3) := by decide +kernel
theorem dX16_isSameBelow_50 : decode cX16_isSameBelow 50 = .ok (.iload_n 3, 1) := by decide +kernel
theorem dX16_isSameBelow_51 : decode cX16_isSameBelow 51 = .ok (.iaload, 1) := by decide +kernel
theorem dX16_isSameBelow_52 : decode cX16_isSameBelow 52 = .ok (.goto 5, 3) := by decide +kernel
theorem dX16_isSameBelow_55 : decode cX16_isSameBelow 55 = .ok (.iload 4, 2) := by decide +kernel
theorem dX16_isSameBelow_57 : decode cX16_isSameBelow 57 = .ok (.istore 6, 2) := by decide +kernel
theorem dX16_isSameBelow_59 : decode cX16_isSameBelow 59 = .ok (.iload 5, 2) := by decide +kernel
theorem dX16_isSameBelow_61 : decode cX16_isSameBelow 61 = .ok (.iload 6, 2) := by decide +kernel
theorem dX16_isSameBelow_63 : decode cX16_isSameBelow 63 = .ok (.if_icmp .ne 7, 3) := by decide +kernel
theorem dX16_isSameBelow_66 : decode cX16_isSameBelow 66 = .ok (.iconst 1, 1) := by decide +kernel
theorem dX16_isSameBelow_67 : decode cX16_isSameBelow 67 = .ok (.goto 4, 3) := by decide +kernel
theorem dX16_isSameBelow_70 : decode cX16_isSameBelow 70 = .ok (.iconst 0, 1) := by decide +kernel
theorem dX16_isSameBelow_71 : decode cX16_isSameBelow 71 = .ok (.istore 7, 2) := by decide +kernel
theorem dX16_isSameBelow_73 : decode cX16_isSameBelow 73 = .ok (.iload_n 1, 1) := by decide +kernel
theorem dX16_isSameBelow_74 : decode cX16_isSameBelow 74 = .ok (.invokestatic 78, 3) := by decide +kernel
theorem dX16_isSameBelow_77 : decode cX16_isSameBelow 77 = .ok (.istore 8, 2) := by decide +kernel
theorem dX16_isSameBelow_79 : decode cX16_isSameBelow 79 = .ok (.iload 8, 2) := by decide +kernel
theorem dX16_isSameBelow_81 : decode cX16_isSameBelow 81 = .ok (.iload 5, 2) := by decide +kernel
theorem dX16_isSameBelow_83 : decode cX16_isSameBelow 83 = .ok (.if_icmp .ge 48, 3) := by decide +kernel
theorem dX16_isSameBelow_86 : decode cX16_isSameBelow 86 = .ok (.iload 7, 2) := by decide +kernel
theorem dX16_isSameBelow_88 : decode cX16_isSameBelow 88 = .ok (.ifCond .eq 43, 3) := by decide +kernel
theorem dX16_isSameBelow_91 : decode cX16_isSameBelow 91 = .ok (.aload_n 0, 1) := by decide +kernel
theorem dX16_isSameBelow_92 : decode cX16_isSameBelow 92 = .ok (.getfield 17, 3) := by decide +kernel
theorem dX16_isSameBelow_95 : decode cX16_isSameBelow 95 = .ok (.bipush 64, 2) := by decide +kernel
theorem dX16_isSameBelow_97 : decode cX16_isSameBelow 97 = .ok (.iload_n 2, 1) := by decide +kernel
theorem dX16_isSameBelow_98 : decode cX16_isSameBelow 98 = .ok (.imul, 1) := by decide +kernel
theorem dX16_isSameBelow_99 : decode cX16_isSameBelow 99 = .ok (.iload 8, 2) := by decide +kernel
theorem dX16_isSameBelow_101 : decode cX16_isSameBelow 101 = .ok (.iadd, 1) := by decide +kernel
theorem dX16_isSameBelow_102 : decode cX16_isSameBelow 102 = .ok (.iaload, 1) := by decide +kernel
theorem dX16_isSameBelow_103 : decode cX16_isSameBelow 103 = .ok (.aload_n 0, 1) := by decide +kernel
theorem dX16_isSameBelow_104 : decode cX16_isSameBelow 104 = .ok (.getfield 17, 3) := by decide +kernel
theorem dX16_isSameBelow_107 : decode cX16_isSameBelow 107 = .ok (.bipush 64, 2) := by decide +kernel
theorem dX16_isSameBelow_109 : decode cX16_isSameBelow 109 = .ok (.iload_n 3, 1) := by decide +kernel
theorem dX16_isSameBelow_110 : decode cX16_isSameBelow 110 = .ok (.imul, 1) := by decide +kernel
theorem dX16_isSameBelow_111 : decode cX16_isSameBelow 111 = .ok (.iload 8, 2) := by decide +kernel
theorem dX16_isSameBelow_113 : decode cX16_isSameBelow 113 = .ok (.iadd, 1) := by decide +kernel
theorem dX16_isSameBelow_114 : decode cX16_isSameBelow 114 = .ok (.iaload, 1) := by decide +kernel
theorem dX16_isSameBelow_115 : decode cX16_isSameBelow 115 = .ok (.if_icmp .ne 7, 3) := by decide +kernel
theorem dX16_isSameBelow_118 : decode cX16_isSameBelow 118 = .ok (.iconst 1, 1) := by decide +kernel
theorem dX16_isSameBelow_119 : decode cX16_isSameBelow 119 = .ok (.goto 4, 3) := by decide +kernel
theorem dX16_isSameBelow_122 : decode cX16_isSameBelow 122 = .ok (.iconst 0, 1) := by decide +kernel
theorem dX16_isSameBelow_123 : decode cX16_isSameBelow 123 = .ok (.istore 7, 2) := by decide +kernel
theorem dX16_isSameBelow_125 : decode cX16_isSameBelow 125 = .ok (.iinc 8 1, 3) := by decide +kernel
theorem dX16_isSameBelow_128 : decode cX16_isSameBelow 128 = .ok (.goto (-49), 3) := by decide +kernel
theorem dX16_isSameBelow_131 : decode cX16_isSameBelow 131 = .ok (.iload 7, 2) := by decide +kernel
theorem dX16_isSameBelow_133 : decode cX16_isSameBelow 133 = .ok (.ireturn, 1) := by decide +kernel
theorem dX16_newNode_0 : decode cX16_newNode 0 = .ok (.aload_n 0, 1) := by decide +kernel
theorem dX16_newNode_1 : decode cX16_newNode 1 = .ok (.dup, 1) := by decide +kernel
theorem dX16_newNode_2 : decode cX16_newNode 2 = .ok (.getfield 84, 3) := by decide +kernel
theorem dX16_newNode_5 : decode cX16_newNode 5 = .ok (.iconst 1, 1) := by decide +kernel
theorem dX16_newNode_6 : decode cX16_newNode 6 = .ok (.iadd, 1) := by decide +kernel
theorem dX16_newNode_7 : decode cX16_newNode 7 = .ok (.putfield 84, 3) := by decide +kernel
theorem dX16_newNode_10 : decode cX16_newNode 10 = .ok (.aload_n 0, 1) := by decide +kernel
theorem dX16_newNode_11 : decode cX16_newNode 11 = .ok (.getfield 84, 3) := by decide +kernel
theorem dX16_newNode_14 : decode cX16_newNode 14 = .ok (.ireturn, 1) := by decide +kernel
theorem dX16_nodesFrom_0 : decode cX16_nodesFrom 0 = .ok (.iconst 0, 1) := by decide +kernel
theorem dX16_nodesFrom_1 : decode cX16_nodesFrom 1 = .ok (.istore_n 3, 1) := by decide +kernel
theorem dX16_nodesFrom_2 : decode cX16_nodesFrom 2 = .ok (.iload_n 3, 1) := by decide +kernel
theorem dX16_nodesFrom_3 : decode cX16_nodesFrom 3 = .ok (.bipush 21, 2) := by decide +kernel
theorem dX16_nodesFrom_5 : decode cX16_nodesFrom 5 = .ok (.if_icmp .ge 107, 3) := by decide +kernel
theorem dX16_nodesFrom_8 : decode cX16_nodesFrom 8 = .ok (.iload_n 2, 1) := by decide +kernel
theorem dX16_nodesFrom_9 : decode cX16_nodesFrom 9 = .ok (.iconst (-1), 1) := by decide +kernel
theorem dX16_nodesFrom_10 : decode cX16_nodesFrom 10 = .ok (.if_icmp .eq 30, 3) := by decide +kernel
theorem dX16_nodesFrom_13 : decode cX16_nodesFrom 13 = .ok (.iload_n 3, 1) := by decide +kernel
theorem dX16_nodesFrom_14 : decode cX16_nodesFrom 14 = .ok (.aload_n 0, 1) := by decide +kernel
theorem dX16_nodesFrom_15 : decode cX16_nodesFrom 15 = .ok (.getfield 13, 3) := by decide +kernel
theorem dX16_nodesFrom_18 : decode cX16_nodesFrom 18 = .ok (.iload_n 2, 1) := by decide +kernel
theorem dX16_nodesFrom_19 : decode cX16_nodesFrom 19 = .ok (.iaload, 1) := by decide +kernel
theorem dX16_nodesFrom_20 : decode cX16_nodesFrom 20 = .ok (.invokestatic 87, 3) := by decide +kernel
theorem dX16_nodesFrom_23 : decode cX16_nodesFrom 23 = .ok (.ifCond .eq 17, 3) := by decide +kernel
theorem dX16_nodesFrom_26 : decode cX16_nodesFrom 26 = .ok (.aload_n 0, 1) := by decide +kernel
theorem dX16_nodesFrom_27 : decode cX16_nodesFrom 27 = .ok (.iload_n 3, 1) := by decide +kernel
theorem dX16_nodesFrom_28 : decode cX16_nodesFrom 28 = .ok (.iload_n 1, 1) := by decide +kernel
theorem dX16_nodesFrom_29 : decode cX16_nodesFrom 29 = .ok (.iload_n 2, 1) := by decide +kernel
theorem dX16_nodesFrom_30 : decode cX16_nodesFrom 30 = .ok (.invokevirtual 91, 3) := by decide +kernel
theorem dX16_nodesFrom_33 : decode cX16_nodesFrom 33 = .ok (.ifCond .eq 7, 3) := by decide +kernel
theorem dX16_nodesFrom_36 : decode cX16_nodesFrom 36 = .ok (.iconst 1, 1) := by decide +kernel
theorem dX16_nodesFrom_37 : decode cX16_nodesFrom 37 = .ok (.goto 4, 3) := by decide +kernel
theorem dX16_nodesFrom_40 : decode cX16_nodesFrom 40 = .ok (.iconst 0, 1) := by decide +kernel
theorem dX16_nodesFrom_41 : decode cX16_nodesFrom 41 = .ok (.istore 4, 2) := by decide +kernel
theorem dX16_nodesFrom_43 : decode cX16_nodesFrom 43 = .ok (.aload_n 0, 1) := by decide +kernel
theorem dX16_nodesFrom_44 : decode cX16_nodesFrom 44 = .ok (.getfield 20, 3) := by decide +kernel
theorem dX16_nodesFrom_47 : decode cX16_nodesFrom 47 = .ok (.bipush 21, 2) := by decide +kernel
theorem dX16_nodesFrom_49 : decode cX16_nodesFrom 49 = .ok (.iload_n 1, 1) := by decide +kernel
theorem dX16_nodesFrom_50 : decode cX16_nodesFrom 50 = .ok (.imul, 1) := by decide +kernel
theorem dX16_nodesFrom_51 : decode cX16_nodesFrom 51 = .ok (.iload_n 3, 1) := by decide +kernel
theorem dX16_nodesFrom_52 : decode cX16_nodesFrom 52 = .ok (.iadd, 1) := by decide +kernel
theorem dX16_nodesFrom_53 : decode cX16_nodesFrom 53 = .ok (.iload_n 3, 1) := by decide +kernel
theorem dX16_nodesFrom_54 : decode cX16_nodesFrom 54 = .ok (.aload_n 0, 1) := by decide +kernel
theorem dX16_nodesFrom_55 : decode cX16_nodesFrom 55 = .ok (.getfield 13, 3) := by decide +kernel
theorem dX16_nodesFrom_58 : decode cX16_nodesFrom 58 = .ok (.iload_n 1, 1) := by decide +kernel
theorem dX16_nodesFrom_59 : decode cX16_nodesFrom 59 = .ok (.iaload, 1) := by decide +kernel
theorem dX16_nodesFrom_60 : decode cX16_nodesFrom 60 = .ok (.invokestatic 87, 3) := by decide +kernel
theorem dX16_nodesFrom_63 : decode cX16_nodesFrom 63 = .ok (.ifCond .ne 7, 3) := by decide +kernel
theorem dX16_nodesFrom_66 : decode cX16_nodesFrom 66 = .ok (.iconst 0, 1) := by decide +kernel
theorem dX16_nodesFrom_67 : decode cX16_nodesFrom 67 = .ok (.goto 26, 3) := by decide +kernel
theorem dX16_nodesFrom_70 : decode cX16_nodesFrom 70 = .ok (.iload 4, 2) := by decide +kernel
theorem dX16_nodesFrom_72 : decode cX16_nodesFrom 72 = .ok (.ifCond .eq 17, 3) := by decide +kernel
theorem dX16_nodesFrom_75 : decode cX16_nodesFrom 75 = .ok (.aload_n 0, 1) := by decide +kernel
theorem dX16_nodesFrom_76 : decode cX16_nodesFrom 76 = .ok (.getfield 20, 3) := by decide +kernel
theorem dX16_nodesFrom_79 : decode cX16_nodesFrom 79 = .ok (.bipush 21, 2) := by decide +kernel
theorem dX16_nodesFrom_81 : decode cX16_nodesFrom 81 = .ok (.iload_n 2, 1) := by decide +kernel
theorem dX16_nodesFrom_82 : decode cX16_nodesFrom 82 = .ok (.imul, 1) := by decide +kernel
theorem dX16_nodesFrom_83 : decode cX16_nodesFrom 83 = .ok (.iload_n 3, 1) := by decide +kernel
theorem dX16_nodesFrom_84 : decode cX16_nodesFrom 84 = .ok (.iadd, 1) := by decide +kernel
theorem dX16_nodesFrom_85 : decode cX16_nodesFrom 85 = .ok (.iaload, 1) := by decide +kernel
theorem dX16_nodesFrom_86 : decode cX16_nodesFrom 86 = .ok (.goto 7, 3) := by decide +kernel
theorem dX16_nodesFrom_89 : decode cX16_nodesFrom 89 = .ok (.aload_n 0, 1) := by decide +kernel
theorem dX16_nodesFrom_90 : decode cX16_nodesFrom 90 = .ok (.invokevirtual 94, 3) := by decide +kernel
theorem dX16_nodesFrom_93 : decode cX16_nodesFrom 93 = .ok (.iastore, 1) := by decide +kernel
theorem dX16_nodesFrom_94 : decode cX16_nodesFrom 94 = .ok (.aload_n 0, 1) := by decide +kernel
theorem dX16_nodesFrom_95 : decode cX16_nodesFrom 95 = .ok (.getfield 23, 3) := by decide +kernel
theorem dX16_nodesFrom_98 : decode cX16_nodesFrom 98 = .ok (.bipush 21, 2) := by decide +kernel
theorem dX16_nodesFrom_100 : decode cX16_nodesFrom 100 = .ok (.iload_n 1, 1) := by decide +kernel
theorem dX16_nodesFrom_101 : decode cX16_nodesFrom 101 = .ok (.imul, 1) := by decide +kernel
theorem dX16_nodesFrom_102 : decode cX16_nodesFrom 102 = .ok (.iload_n 3, 1) := by decide +kernel
theorem dX16_nodesFrom_103 : decode cX16_nodesFrom 103 = .ok (.iadd, 1) := by decide +kernel
theorem dX16_nodesFrom_104 : decode cX16_nodesFrom 104 = .ok (.iconst 0, 1) := by decide +kernel
theorem dX16_nodesFrom_105 : decode cX16_nodesFrom 105 = .ok (.bastore, 1) := by decide +kernel
theorem dX16_nodesFrom_106 : decode cX16_nodesFrom 106 = .ok (.iinc 3 1, 3) := by decide +kernel
theorem dX16_nodesFrom_109 : decode cX16_nodesFrom 109 = .ok (.goto (-107), 3) := by decide +kernel
theorem dX16_nodesFrom_112 : decode cX16_nodesFrom 112 = .ok (.return_, 1) := by decide +kernel
theorem dX16_newValue_0 : decode cX16_newValue 0 = .ok (.aload_n 0, 1) := by decide +kernel
theorem dX16_newValue_1 : decode cX16_newValue 1 = .ok (.getfield 7, 3) := by decide +kernel
theorem dX16_newValue_4 : decode cX16_newValue 4 = .ok (.aload_n 0, 1) := by decide +kernel
theorem dX16_newValue_5 : decode cX16_newValue 5 = .ok (.getfield 67, 3) := by decide +kernel
theorem dX16_newValue_8 : decode cX16_newValue 8 = .ok (.iload_n 1, 1) := by decide +kernel
theorem dX16_newValue_9 : decode cX16_newValue 9 = .ok (.castore, 1) := by decide +kernel
theorem dX16_newValue_10 : decode cX16_newValue 10 = .ok (.aload_n 0, 1) := by decide +kernel
theorem dX16_newValue_11 : decode cX16_newValue 11 = .ok (.getfield 13, 3) := by decide +kernel
theorem dX16_newValue_14 : decode cX16_newValue 14 = .ok (.aload_n 0, 1) := by decide +kernel
theorem dX16_newValue_15 : decode cX16_newValue 15 = .ok (.getfield 67, 3) := by decide +kernel
theorem dX16_newValue_18 : decode cX16_newValue 18 = .ok (.iconst 0, 1) := by decide +kernel
theorem dX16_newValue_19 : decode cX16_newValue 19 = .ok (.iastore, 1) := by decide +kernel
theorem dX16_newValue_20 : decode cX16_newValue 20 = .ok (.aload_n 0, 1) := by decide +kernel
theorem dX16_newValue_21 : decode cX16_newValue 21 = .ok (.dup, 1) := by decide +kernel
theorem dX16_newValue_22 : decode cX16_newValue 22 = .ok (.getfield 67, 3) := by decide +kernel
theorem dX16_newValue_25 : decode cX16_newValue 25 = .ok (.iconst 1, 1) := by decide +kernel
theorem dX16_newValue_26 : decode cX16_newValue 26 = .ok (.iadd, 1) := by decide +kernel
theorem dX16_newValue_27 : decode cX16_newValue 27 = .ok (.putfield 67, 3) := by decide +kernel
theorem dX16_newValue_30 : decode cX16_newValue 30 = .ok (.aload_n 0, 1) := by decide +kernel
theorem dX16_newValue_31 : decode cX16_newValue 31 = .ok (.getfield 67, 3) := by decide +kernel
theorem dX16_newValue_34 : decode cX16_newValue 34 = .ok (.iconst 1, 1) := by decide +kernel
theorem dX16_newValue_35 : decode cX16_newValue 35 = .ok (.isub, 1) := by decide +kernel
theorem dX16_newValue_36 : decode cX16_newValue 36 = .ok (.ireturn, 1) := by decide +kernel
theorem dX16_copyElements_0 : decode cX16_copyElements 0 = .ok (.aload_n 0, 1) := by decide +kernel
theorem dX16_copyElements_1 : decode cX16_copyElements 1 = .ok (.getfield 13, 3) := by decide +kernel
theorem dX16_copyElements_4 : decode cX16_copyElements 4 = .ok (.iload_n 1, 1) := by decide +kernel
theorem dX16_copyElements_5 : decode cX16_copyElements 5 = .ok (.aload_n 0, 1) := by decide +kernel
theorem dX16_copyElements_6 : decode cX16_copyElements 6 = .ok (.getfield 13, 3) := by decide +kernel
theorem dX16_copyElements_9 : decode cX16_copyElements 9 = .ok (.iload_n 2, 1) := by decide +kernel
theorem dX16_copyElements_10 : decode cX16_copyElements 10 = .ok (.iaload, 1) := by decide +kernel
theorem dX16_copyElements_11 : decode cX16_copyElements 11 = .ok (.iastore, 1) := by decide +kernel
theorem dX16_copyElements_12 : decode cX16_copyElements 12 = .ok (.iconst 0, 1) := by decide +kernel
theorem dX16_copyElements_13 : decode cX16_copyElements 13 = .ok (.istore_n 3, 1) := by decide +kernel
theorem dX16_copyElements_14 : decode cX16_copyElements 14 = .ok (.iload_n 3, 1) := by decide +kernel
theorem dX16_copyElements_15 : decode cX16_copyElements 15 = .ok (.bipush 64, 2) := by decide +kernel
theorem dX16_copyElements_17 : decode cX16_copyElements 17 = .ok (.if_icmp .ge 31, 3) := by decide +kernel
theorem dX16_copyElements_20 : decode cX16_copyElements 20 = .ok (.aload_n 0, 1) := by decide +kernel
theorem dX16_copyElements_21 : decode cX16_copyElements 21 = .ok (.getfield 17, 3) := by decide +kernel
theorem dX16_copyElements_24 : decode cX16_copyElements 24 = .ok (.bipush 64, 2) := by decide +kernel
theorem dX16_copyElements_26 : decode cX16_copyElements 26 = .ok (.iload_n 1, 1) := by decide +kernel
theorem dX16_copyElements_27 : decode cX16_copyElements 27 = .ok (.imul, 1) := by decide +kernel
theorem dX16_copyElements_28 : decode cX16_copyElements 28 = .ok (.iload_n 3, 1) := by decide +kernel
theorem dX16_copyElements_29 : decode cX16_copyElements 29 = .ok (.iadd, 1) := by decide +kernel
theorem dX16_copyElements_30 : decode cX16_copyElements 30 = .ok (.aload_n 0, 1) := by decide +kernel
theorem dX16_copyElements_31 : decode cX16_copyElements 31 = .ok (.getfield 17, 3) := by decide +kernel
theorem dX16_copyElements_34 : decode cX16_copyElements 34 = .ok (.bipush 64, 2) := by decide +kernel
theorem dX16_copyElements_36 : decode cX16_copyElements 36 = .ok (.iload_n 2, 1) := by decide +kernel
theorem dX16_copyElements_37 : decode cX16_copyElements 37 = .ok (.imul, 1) := by decide +kernel
theorem dX16_copyElements_38 : decode cX16_copyElements 38 = .ok (.iload_n 3, 1) := by decide +kernel
theorem dX16_copyElements_39 : decode cX16_copyElements 39 = .ok (.iadd, 1) := by decide +kernel
theorem dX16_copyElements_40 : decode cX16_copyElements 40 = .ok (.iaload, 1) := by decide +kernel
theorem dX16_copyElements_41 : decode cX16_copyElements 41 = .ok (.iastore, 1) := by decide +kernel
theorem dX16_copyElements_42 : decode cX16_copyElements 42 = .ok (.iinc 3 1, 3) := by decide +kernel
theorem dX16_copyElements_45 : decode cX16_copyElements 45 = .ok (.goto (-31), 3) := by decide +kernel
theorem dX16_copyElements_48 : decode cX16_copyElements 48 = .ok (.return_, 1) := by decide +kernel
theorem dX16_vector_0 : decode cX16_vector 0 = .ok (.aload_n 0, 1) := by decide +kernel
theorem dX16_vector_1 : decode cX16_vector 1 = .ok (.iconst 0, 1) := by decide +kernel
theorem dX16_vector_2 : decode cX16_vector 2 = .ok (.putfield 63, 3) := by decide +kernel
theorem dX16_vector_5 : decode cX16_vector 5 = .ok (.aload_n 0, 1) := by decide +kernel
theorem dX16_vector_6 : decode cX16_vector 6 = .ok (.aload_n 0, 1) := by decide +kernel
theorem dX16_vector_7 : decode cX16_vector 7 = .ok (.invokevirtual 98, 3) := by decide +kernel
theorem dX16_vector_10 : decode cX16_vector 10 = .ok (.iconst 1, 1) := by decide +kernel
theorem dX16_vector_11 : decode cX16_vector 11 = .ok (.invokevirtual 102, 3) := by decide +kernel
theorem dX16_vector_14 : decode cX16_vector 14 = .ok (.ifCond .eq 5, 3) := by decide +kernel
theorem dX16_vector_17 : decode cX16_vector 17 = .ok (.iconst 0, 1) := by decide +kernel
theorem dX16_vector_18 : decode cX16_vector 18 = .ok (.ireturn, 1) := by decide +kernel
theorem dX16_vector_19 : decode cX16_vector 19 = .ok (.aload_n 0, 1) := by decide +kernel
theorem dX16_vector_20 : decode cX16_vector 20 = .ok (.bipush 118, 2) := by decide +kernel
theorem dX16_vector_22 : decode cX16_vector 22 = .ok (.invokevirtual 106, 3) := by decide +kernel
theorem dX16_vector_25 : decode cX16_vector 25 = .ok (.istore_n 1, 1) := by decide +kernel
theorem dX16_vector_26 : decode cX16_vector 26 = .ok (.aload_n 0, 1) := by decide +kernel
theorem dX16_vector_27 : decode cX16_vector 27 = .ok (.iload_n 1, 1) := by decide +kernel
theorem dX16_vector_28 : decode cX16_vector 28 = .ok (.iconst (-1), 1) := by decide +kernel
theorem dX16_vector_29 : decode cX16_vector 29 = .ok (.invokevirtual 110, 3) := by decide +kernel
theorem dX16_vector_32 : decode cX16_vector 32 = .ok (.iload_n 1, 1) := by decide +kernel
theorem dX16_vector_33 : decode cX16_vector 33 = .ok (.ireturn, 1) := by decide +kernel
theorem dX16_append_0 : decode cX16_append 0 = .ok (.aload_n 0, 1) := by decide +kernel
theorem dX16_append_1 : decode cX16_append 1 = .ok (.iconst 0, 1) := by decide +kernel
theorem dX16_append_2 : decode cX16_append 2 = .ok (.putfield 63, 3) := by decide +kernel
theorem dX16_append_5 : decode cX16_append 5 = .ok (.aload_n 0, 1) := by decide +kernel
theorem dX16_append_6 : decode cX16_append 6 = .ok (.aload_n 0, 1) := by decide +kernel
theorem dX16_append_7 : decode cX16_append 7 = .ok (.iload_n 1, 1) := by decide +kernel
theorem dX16_append_8 : decode cX16_append 8 = .ok (.invokevirtual 114, 3) := by decide +kernel
theorem dX16_append_11 : decode cX16_append 11 = .ok (.iconst 1, 1) := by decide +kernel
theorem dX16_append_12 : decode cX16_append 12 = .ok (.invokevirtual 102, 3) := by decide +kernel
theorem dX16_append_15 : decode cX16_append 15 = .ok (.ifCond .ne 62, 3) := by decide +kernel
theorem dX16_append_18 : decode cX16_append 18 = .ok (.aload_n 0, 1) := by decide +kernel
theorem dX16_append_19 : decode cX16_append 19 = .ok (.iload_n 2, 1) := by decide +kernel
theorem dX16_append_20 : decode cX16_append 20 = .ok (.invokestatic 118, 3) := by decide +kernel
theorem dX16_append_23 : decode cX16_append 23 = .ok (.iconst 2, 1) := by decide +kernel
theorem dX16_append_24 : decode cX16_append 24 = .ok (.invokevirtual 102, 3) := by decide +kernel
theorem dX16_append_27 : decode cX16_append 27 = .ok (.ifCond .ne 50, 3) := by decide +kernel
theorem dX16_append_30 : decode cX16_append 30 = .ok (.aload_n 0, 1) := by decide +kernel
theorem dX16_append_31 : decode cX16_append 31 = .ok (.aload_n 0, 1) := by decide +kernel
theorem dX16_append_32 : decode cX16_append 32 = .ok (.getfield 7, 3) := by decide +kernel
theorem dX16_append_35 : decode cX16_append 35 = .ok (.iload_n 1, 1) := by decide +kernel
theorem dX16_append_36 : decode cX16_append 36 = .ok (.caload, 1) := by decide +kernel
theorem dX16_append_37 : decode cX16_append 37 = .ok (.bipush 118, 2) := by decide +kernel
theorem dX16_append_39 : decode cX16_append 39 = .ok (.if_icmp .ne 14, 3) := by decide +kernel
theorem dX16_append_42 : decode cX16_append 42 = .ok (.aload_n 0, 1) := by decide +kernel
theorem dX16_append_43 : decode cX16_append 43 = .ok (.getfield 13, 3) := by decide +kernel
theorem dX16_append_46 : decode cX16_append 46 = .ok (.iload_n 1, 1) := by decide +kernel
theorem dX16_append_47 : decode cX16_append 47 = .ok (.iaload, 1) := by decide +kernel
theorem dX16_append_48 : decode cX16_append 48 = .ok (.bipush 64, 2) := by decide +kernel
theorem dX16_append_50 : decode cX16_append 50 = .ok (.if_icmp .ne 7, 3) := by decide +kernel
theorem dX16_append_53 : decode cX16_append 53 = .ok (.iconst 1, 1) := by decide +kernel
theorem dX16_append_54 : decode cX16_append 54 = .ok (.goto 4, 3) := by decide +kernel
theorem dX16_append_57 : decode cX16_append 57 = .ok (.iconst 0, 1) := by decide +kernel
theorem dX16_append_58 : decode cX16_append 58 = .ok (.iconst 3, 1) := by decide +kernel
theorem dX16_append_59 : decode cX16_append 59 = .ok (.invokevirtual 102, 3) := by decide +kernel
theorem dX16_append_62 : decode cX16_append 62 = .ok (.ifCond .ne 15, 3) := by decide +kernel
theorem dX16_append_65 : decode cX16_append 65 = .ok (.aload_n 0, 1) := by decide +kernel
theorem dX16_append_66 : decode cX16_append 66 = .ok (.aload_n 0, 1) := by decide +kernel
theorem dX16_append_67 : decode cX16_append 67 = .ok (.invokevirtual 98, 3) := by decide +kernel
theorem dX16_append_70 : decode cX16_append 70 = .ok (.iconst 4, 1) := by decide +kernel
theorem dX16_append_71 : decode cX16_append 71 = .ok (.invokevirtual 102, 3) := by decide +kernel
theorem dX16_append_74 : decode cX16_append 74 = .ok (.ifCond .eq 5, 3) := by decide +kernel
theorem dX16_append_77 : decode cX16_append 77 = .ok (.iconst 0, 1) := by decide +kernel
theorem dX16_append_78 : decode cX16_append 78 = .ok (.ireturn, 1) := by decide +kernel
theorem dX16_append_79 : decode cX16_append 79 = .ok (.aload_n 0, 1) := by decide +kernel
theorem dX16_append_80 : decode cX16_append 80 = .ok (.bipush 118, 2) := by decide +kernel
theorem dX16_append_82 : decode cX16_append 82 = .ok (.invokevirtual 106, 3) := by decide +kernel
theorem dX16_append_85 : decode cX16_append 85 = .ok (.istore_n 3, 1) := by decide +kernel
theorem dX16_append_86 : decode cX16_append 86 = .ok (.aload_n 0, 1) := by decide +kernel
theorem dX16_append_87 : decode cX16_append 87 = .ok (.iload_n 3, 1) := by decide +kernel
theorem dX16_append_88 : decode cX16_append 88 = .ok (.iload_n 1, 1) := by decide +kernel
theorem dX16_append_89 : decode cX16_append 89 = .ok (.invokevirtual 121, 3) := by decide +kernel
theorem dX16_append_92 : decode cX16_append 92 = .ok (.aload_n 0, 1) := by decide +kernel
theorem dX16_append_93 : decode cX16_append 93 = .ok (.getfield 17, 3) := by decide +kernel
theorem dX16_append_96 : decode cX16_append 96 = .ok (.bipush 64, 2) := by decide +kernel
theorem dX16_append_98 : decode cX16_append 98 = .ok (.iload_n 3, 1) := by decide +kernel
theorem dX16_append_99 : decode cX16_append 99 = .ok (.imul, 1) := by decide +kernel
theorem dX16_append_100 : decode cX16_append 100 = .ok (.aload_n 0, 1) := by decide +kernel
theorem dX16_append_101 : decode cX16_append 101 = .ok (.getfield 13, 3) := by decide +kernel
theorem dX16_append_104 : decode cX16_append 104 = .ok (.iload_n 3, 1) := by decide +kernel
theorem dX16_append_105 : decode cX16_append 105 = .ok (.iaload, 1) := by decide +kernel
theorem dX16_append_106 : decode cX16_append 106 = .ok (.iadd, 1) := by decide +kernel
theorem dX16_append_107 : decode cX16_append 107 = .ok (.iload_n 2, 1) := by decide +kernel
theorem dX16_append_108 : decode cX16_append 108 = .ok (.iastore, 1) := by decide +kernel
theorem dX16_append_109 : decode cX16_append 109 = .ok (.aload_n 0, 1) := by decide +kernel
theorem dX16_append_110 : decode cX16_append 110 = .ok (.getfield 13, 3) := by decide +kernel
theorem dX16_append_113 : decode cX16_append 113 = .ok (.iload_n 3, 1) := by decide +kernel
theorem dX16_append_114 : decode cX16_append 114 = .ok (.dup2, 1) := by decide +kernel
theorem dX16_append_115 : decode cX16_append 115 = .ok (.iaload, 1) := by decide +kernel
theorem dX16_append_116 : decode cX16_append 116 = .ok (.iconst 1, 1) := by decide +kernel
theorem dX16_append_117 : decode cX16_append 117 = .ok (.iadd, 1) := by decide +kernel
theorem dX16_append_118 : decode cX16_append 118 = .ok (.iastore, 1) := by decide +kernel
theorem dX16_append_119 : decode cX16_append 119 = .ok (.aload_n 0, 1) := by decide +kernel
theorem dX16_append_120 : decode cX16_append 120 = .ok (.iload_n 3, 1) := by decide +kernel
theorem dX16_append_121 : decode cX16_append 121 = .ok (.iload_n 1, 1) := by decide +kernel
theorem dX16_append_122 : decode cX16_append 122 = .ok (.invokevirtual 110, 3) := by decide +kernel
theorem dX16_append_125 : decode cX16_append 125 = .ok (.iload_n 3, 1) := by decide +kernel
theorem dX16_append_126 : decode cX16_append 126 = .ok (.ireturn, 1) := by decide +kernel
theorem dX16_set_0 : decode cX16_set 0 = .ok (.aload_n 0, 1) := by decide +kernel
theorem dX16_set_1 : decode cX16_set 1 = .ok (.iconst 0, 1) := by decide +kernel
theorem dX16_set_2 : decode cX16_set 2 = .ok (.putfield 63, 3) := by decide +kernel
theorem dX16_set_5 : decode cX16_set 5 = .ok (.aload_n 0, 1) := by decide +kernel
theorem dX16_set_6 : decode cX16_set 6 = .ok (.aload_n 0, 1) := by decide +kernel
theorem dX16_set_7 : decode cX16_set 7 = .ok (.iload_n 1, 1) := by decide +kernel
theorem dX16_set_8 : decode cX16_set 8 = .ok (.invokevirtual 114, 3) := by decide +kernel
theorem dX16_set_11 : decode cX16_set 11 = .ok (.iconst 1, 1) := by decide +kernel
theorem dX16_set_12 : decode cX16_set 12 = .ok (.invokevirtual 102, 3) := by decide +kernel
theorem dX16_set_15 : decode cX16_set 15 = .ok (.ifCond .ne 80, 3) := by decide +kernel
theorem dX16_set_18 : decode cX16_set 18 = .ok (.aload_n 0, 1) := by decide +kernel
theorem dX16_set_19 : decode cX16_set 19 = .ok (.iload_n 3, 1) := by decide +kernel
theorem dX16_set_20 : decode cX16_set 20 = .ok (.invokestatic 118, 3) := by decide +kernel
theorem dX16_set_23 : decode cX16_set 23 = .ok (.iconst 2, 1) := by decide +kernel
theorem dX16_set_24 : decode cX16_set 24 = .ok (.invokevirtual 102, 3) := by decide +kernel
theorem dX16_set_27 : decode cX16_set 27 = .ok (.ifCond .ne 68, 3) := by decide +kernel
theorem dX16_set_30 : decode cX16_set 30 = .ok (.aload_n 0, 1) := by decide +kernel
theorem dX16_set_31 : decode cX16_set 31 = .ok (.aload_n 0, 1) := by decide +kernel
theorem dX16_set_32 : decode cX16_set 32 = .ok (.getfield 7, 3) := by decide +kernel
theorem dX16_set_35 : decode cX16_set 35 = .ok (.iload_n 1, 1) := by decide +kernel
theorem dX16_set_36 : decode cX16_set 36 = .ok (.caload, 1) := by decide +kernel
theorem dX16_set_37 : decode cX16_set 37 = .ok (.bipush 118, 2) := by decide +kernel
theorem dX16_set_39 : decode cX16_set 39 = .ok (.if_icmp .eq 7, 3) := by decide +kernel
theorem dX16_set_42 : decode cX16_set 42 = .ok (.iconst 1, 1) := by decide +kernel
theorem dX16_set_43 : decode cX16_set 43 = .ok (.goto 4, 3) := by decide +kernel
theorem dX16_set_46 : decode cX16_set 46 = .ok (.iconst 0, 1) := by decide +kernel
theorem dX16_set_47 : decode cX16_set 47 = .ok (.iconst 3, 1) := by decide +kernel
theorem dX16_set_48 : decode cX16_set 48 = .ok (.invokevirtual 102, 3) := by decide +kernel
theorem dX16_set_51 : decode cX16_set 51 = .ok (.ifCond .ne 44, 3) := by decide +kernel
theorem dX16_set_54 : decode cX16_set 54 = .ok (.aload_n 0, 1) := by decide +kernel
theorem dX16_set_55 : decode cX16_set 55 = .ok (.iload_n 2, 1) := by decide +kernel
theorem dX16_set_56 : decode cX16_set 56 = .ok (.iconst 0, 1) := by decide +kernel
theorem dX16_set_57 : decode cX16_set 57 = .ok (.aload_n 0, 1) := by decide +kernel
theorem dX16_set_58 : decode cX16_set 58 = .ok (.getfield 13, 3) := by decide +kernel
theorem dX16_set_61 : decode cX16_set 61 = .ok (.iload_n 1, 1) := by decide +kernel
theorem dX16_set_62 : decode cX16_set 62 = .ok (.iaload, 1) := by decide +kernel
theorem dX16_set_63 : decode cX16_set 63 = .ok (.iconst 1, 1) := by decide +kernel
theorem dX16_set_64 : decode cX16_set 64 = .ok (.isub, 1) := by decide +kernel
theorem dX16_set_65 : decode cX16_set 65 = .ok (.invokestatic 70, 3) := by decide +kernel
theorem dX16_set_68 : decode cX16_set 68 = .ok (.ifCond .ne 7, 3) := by decide +kernel
theorem dX16_set_71 : decode cX16_set 71 = .ok (.iconst 1, 1) := by decide +kernel
theorem dX16_set_72 : decode cX16_set 72 = .ok (.goto 4, 3) := by decide +kernel
theorem dX16_set_75 : decode cX16_set 75 = .ok (.iconst 0, 1) := by decide +kernel
theorem dX16_set_76 : decode cX16_set 76 = .ok (.iconst 4, 1) := by decide +kernel
theorem dX16_set_77 : decode cX16_set 77 = .ok (.invokevirtual 102, 3) := by decide +kernel
theorem dX16_set_80 : decode cX16_set 80 = .ok (.ifCond .ne 15, 3) := by decide +kernel
theorem dX16_set_83 : decode cX16_set 83 = .ok (.aload_n 0, 1) := by decide +kernel
theorem dX16_set_84 : decode cX16_set 84 = .ok (.aload_n 0, 1) := by decide +kernel
theorem dX16_set_85 : decode cX16_set 85 = .ok (.invokevirtual 98, 3) := by decide +kernel
theorem dX16_set_88 : decode cX16_set 88 = .ok (.iconst 5, 1) := by decide +kernel
theorem dX16_set_89 : decode cX16_set 89 = .ok (.invokevirtual 102, 3) := by decide +kernel
theorem dX16_set_92 : decode cX16_set 92 = .ok (.ifCond .eq 5, 3) := by decide +kernel
theorem dX16_set_95 : decode cX16_set 95 = .ok (.iconst 0, 1) := by decide +kernel
theorem dX16_set_96 : decode cX16_set 96 = .ok (.ireturn, 1) := by decide +kernel
theorem dX16_set_97 : decode cX16_set 97 = .ok (.aload_n 0, 1) := by decide +kernel
theorem dX16_set_98 : decode cX16_set 98 = .ok (.bipush 118, 2) := by decide +kernel
theorem dX16_set_100 : decode cX16_set 100 = .ok (.invokevirtual 106, 3) := by decide +kernel
theorem dX16_set_103 : decode cX16_set 103 = .ok (.istore 4, 2) := by decide +kernel
theorem dX16_set_105 : decode cX16_set 105 = .ok (.aload_n 0, 1) := by decide +kernel
theorem dX16_set_106 : decode cX16_set 106 = .ok (.iload 4, 2) := by decide +kernel
theorem dX16_set_108 : decode cX16_set 108 = .ok (.iload_n 1, 1) := by decide +kernel
theorem dX16_set_109 : decode cX16_set 109 = .ok (.invokevirtual 121, 3) := by decide +kernel
theorem dX16_set_112 : decode cX16_set 112 = .ok (.aload_n 0, 1) := by decide +kernel
theorem dX16_set_113 : decode cX16_set 113 = .ok (.getfield 17, 3) := by decide +kernel
theorem dX16_set_116 : decode cX16_set 116 = .ok (.bipush 64, 2) := by decide +kernel
theorem dX16_set_118 : decode cX16_set 118 = .ok (.iload 4, 2) := by decide +kernel
theorem dX16_set_120 : decode cX16_set 120 = .ok (.imul, 1) := by decide +kernel
theorem dX16_set_121 : decode cX16_set 121 = .ok (.iload_n 2, 1) := by decide +kernel
theorem dX16_set_122 : decode cX16_set 122 = .ok (.iadd, 1) := by decide +kernel
theorem dX16_set_123 : decode cX16_set 123 = .ok (.iload_n 3, 1) := by decide +kernel
theorem dX16_set_124 : decode cX16_set 124 = .ok (.iastore, 1) := by decide +kernel
theorem dX16_set_125 : decode cX16_set 125 = .ok (.aload_n 0, 1) := by decide +kernel
theorem dX16_set_126 : decode cX16_set 126 = .ok (.iload 4, 2) := by decide +kernel
theorem dX16_set_128 : decode cX16_set 128 = .ok (.iload_n 1, 1) := by decide +kernel
theorem dX16_set_129 : decode cX16_set 129 = .ok (.invokevirtual 110, 3) := by decide +kernel
theorem dX16_set_132 : decode cX16_set 132 = .ok (.iload 4, 2) := by decide +kernel
theorem dX16_set_134 : decode cX16_set 134 = .ok (.ireturn, 1) := by decide +kernel
theorem dX16_cut_0 : decode cX16_cut 0 = .ok (.aload_n 0, 1) := by decide +kernel
theorem dX16_cut_1 : decode cX16_cut 1 = .ok (.iconst 0, 1) := by decide +kernel
theorem dX16_cut_2 : decode cX16_cut 2 = .ok (.putfield 63, 3) := by decide +kernel
theorem dX16_cut_5 : decode cX16_cut 5 = .ok (.aload_n 0, 1) := by decide +kernel
theorem dX16_cut_6 : decode cX16_cut 6 = .ok (.aload_n 0, 1) := by decide +kernel
theorem dX16_cut_7 : decode cX16_cut 7 = .ok (.iload_n 1, 1) := by decide +kernel
theorem dX16_cut_8 : decode cX16_cut 8 = .ok (.invokevirtual 114, 3) := by decide +kernel
theorem dX16_cut_11 : decode cX16_cut 11 = .ok (.iconst 1, 1) := by decide +kernel
theorem dX16_cut_12 : decode cX16_cut 12 = .ok (.invokevirtual 102, 3) := by decide +kernel
theorem dX16_cut_15 : decode cX16_cut 15 = .ok (.ifCond .ne 61, 3) := by decide +kernel
theorem dX16_cut_18 : decode cX16_cut 18 = .ok (.aload_n 0, 1) := by decide +kernel
theorem dX16_cut_19 : decode cX16_cut 19 = .ok (.aload_n 0, 1) := by decide +kernel
theorem dX16_cut_20 : decode cX16_cut 20 = .ok (.getfield 7, 3) := by decide +kernel
theorem dX16_cut_23 : decode cX16_cut 23 = .ok (.iload_n 1, 1) := by decide +kernel
theorem dX16_cut_24 : decode cX16_cut 24 = .ok (.caload, 1) := by decide +kernel
theorem dX16_cut_25 : decode cX16_cut 25 = .ok (.bipush 118, 2) := by decide +kernel
theorem dX16_cut_27 : decode cX16_cut 27 = .ok (.if_icmp .eq 7, 3) := by decide +kernel
theorem dX16_cut_30 : decode cX16_cut 30 = .ok (.iconst 1, 1) := by decide +kernel
theorem dX16_cut_31 : decode cX16_cut 31 = .ok (.goto 4, 3) := by decide +kernel
theorem dX16_cut_34 : decode cX16_cut 34 = .ok (.iconst 0, 1) := by decide +kernel
theorem dX16_cut_35 : decode cX16_cut 35 = .ok (.iconst 2, 1) := by decide +kernel
theorem dX16_cut_36 : decode cX16_cut 36 = .ok (.invokevirtual 102, 3) := by decide +kernel
theorem dX16_cut_39 : decode cX16_cut 39 = .ok (.ifCond .ne 37, 3) := by decide +kernel
theorem dX16_cut_42 : decode cX16_cut 42 = .ok (.aload_n 0, 1) := by decide +kernel
theorem dX16_cut_43 : decode cX16_cut 43 = .ok (.aload_n 0, 1) := by decide +kernel
theorem dX16_cut_44 : decode cX16_cut 44 = .ok (.getfield 13, 3) := by decide +kernel
theorem dX16_cut_47 : decode cX16_cut 47 = .ok (.iload_n 1, 1) := by decide +kernel
theorem dX16_cut_48 : decode cX16_cut 48 = .ok (.iaload, 1) := by decide +kernel
theorem dX16_cut_49 : decode cX16_cut 49 = .ok (.ifCond .ne 7, 3) := by decide +kernel
theorem dX16_cut_52 : decode cX16_cut 52 = .ok (.iconst 1, 1) := by decide +kernel
theorem dX16_cut_53 : decode cX16_cut 53 = .ok (.goto 4, 3) := by decide +kernel
theorem dX16_cut_56 : decode cX16_cut 56 = .ok (.iconst 0, 1) := by decide +kernel
theorem dX16_cut_57 : decode cX16_cut 57 = .ok (.iconst 3, 1) := by decide +kernel
theorem dX16_cut_58 : decode cX16_cut 58 = .ok (.invokevirtual 102, 3) := by decide +kernel
theorem dX16_cut_61 : decode cX16_cut 61 = .ok (.ifCond .ne 15, 3) := by decide +kernel
theorem dX16_cut_64 : decode cX16_cut 64 = .ok (.aload_n 0, 1) := by decide +kernel
theorem dX16_cut_65 : decode cX16_cut 65 = .ok (.aload_n 0, 1) := by decide +kernel
theorem dX16_cut_66 : decode cX16_cut 66 = .ok (.invokevirtual 98, 3) := by decide +kernel
theorem dX16_cut_69 : decode cX16_cut 69 = .ok (.iconst 4, 1) := by decide +kernel
theorem dX16_cut_70 : decode cX16_cut 70 = .ok (.invokevirtual 102, 3) := by decide +kernel
theorem dX16_cut_73 : decode cX16_cut 73 = .ok (.ifCond .eq 5, 3) := by decide +kernel
theorem dX16_cut_76 : decode cX16_cut 76 = .ok (.iconst 0, 1) := by decide +kernel
theorem dX16_cut_77 : decode cX16_cut 77 = .ok (.ireturn, 1) := by decide +kernel
theorem dX16_cut_78 : decode cX16_cut 78 = .ok (.aload_n 0, 1) := by decide +kernel
theorem dX16_cut_79 : decode cX16_cut 79 = .ok (.bipush 118, 2) := by decide +kernel
theorem dX16_cut_81 : decode cX16_cut 81 = .ok (.invokevirtual 106, 3) := by decide +kernel
theorem dX16_cut_84 : decode cX16_cut 84 = .ok (.istore_n 2, 1) := by decide +kernel
theorem dX16_cut_85 : decode cX16_cut 85 = .ok (.aload_n 0, 1) := by decide +kernel
theorem dX16_cut_86 : decode cX16_cut 86 = .ok (.iload_n 2, 1) := by decide +kernel
theorem dX16_cut_87 : decode cX16_cut 87 = .ok (.iload_n 1, 1) := by decide +kernel
theorem dX16_cut_88 : decode cX16_cut 88 = .ok (.invokevirtual 121, 3) := by decide +kernel
theorem dX16_cut_91 : decode cX16_cut 91 = .ok (.aload_n 0, 1) := by decide +kernel
theorem dX16_cut_92 : decode cX16_cut 92 = .ok (.getfield 13, 3) := by decide +kernel
theorem dX16_cut_95 : decode cX16_cut 95 = .ok (.iload_n 2, 1) := by decide +kernel
theorem dX16_cut_96 : decode cX16_cut 96 = .ok (.dup2, 1) := by decide +kernel
theorem dX16_cut_97 : decode cX16_cut 97 = .ok (.iaload, 1) := by decide +kernel
theorem dX16_cut_98 : decode cX16_cut 98 = .ok (.iconst 1, 1) := by decide +kernel
theorem dX16_cut_99 : decode cX16_cut 99 = .ok (.isub, 1) := by decide +kernel
theorem dX16_cut_100 : decode cX16_cut 100 = .ok (.iastore, 1) := by decide +kernel
theorem dX16_cut_101 : decode cX16_cut 101 = .ok (.aload_n 0, 1) := by decide +kernel
theorem dX16_cut_102 : decode cX16_cut 102 = .ok (.iload_n 2, 1) := by decide +kernel
theorem dX16_cut_103 : decode cX16_cut 103 = .ok (.iload_n 1, 1) := by decide +kernel
theorem dX16_cut_104 : decode cX16_cut 104 = .ok (.invokevirtual 110, 3) := by decide +kernel
theorem dX16_cut_107 : decode cX16_cut 107 = .ok (.iload_n 2, 1) := by decide +kernel
theorem dX16_cut_108 : decode cX16_cut 108 = .ok (.ireturn, 1) := by decide +kernel
theorem dX16_isVector_0 : decode cX16_isVector 0 = .ok (.aload_n 0, 1) := by decide +kernel
theorem dX16_isVector_1 : decode cX16_isVector 1 = .ok (.getfield 7, 3) := by decide +kernel
theorem dX16_isVector_4 : decode cX16_isVector 4 = .ok (.iload_n 1, 1) := by decide +kernel
theorem dX16_isVector_5 : decode cX16_isVector 5 = .ok (.caload, 1) := by decide +kernel
theorem dX16_isVector_6 : decode cX16_isVector 6 = .ok (.bipush 118, 2) := by decide +kernel
theorem dX16_isVector_8 : decode cX16_isVector 8 = .ok (.if_icmp .eq 14, 3) := by decide +kernel
theorem dX16_isVector_11 : decode cX16_isVector 11 = .ok (.aload_n 0, 1) := by decide +kernel
theorem dX16_isVector_12 : decode cX16_isVector 12 = .ok (.getfield 7, 3) := by decide +kernel
theorem dX16_isVector_15 : decode cX16_isVector 15 = .ok (.iload_n 1, 1) := by decide +kernel
theorem dX16_isVector_16 : decode cX16_isVector 16 = .ok (.caload, 1) := by decide +kernel
theorem dX16_isVector_17 : decode cX16_isVector 17 = .ok (.bipush 111, 2) := by decide +kernel
theorem dX16_isVector_19 : decode cX16_isVector 19 = .ok (.if_icmp .ne 7, 3) := by decide +kernel
theorem dX16_isVector_22 : decode cX16_isVector 22 = .ok (.iconst 1, 1) := by decide +kernel
theorem dX16_isVector_23 : decode cX16_isVector 23 = .ok (.goto 4, 3) := by decide +kernel
theorem dX16_isVector_26 : decode cX16_isVector 26 = .ok (.iconst 0, 1) := by decide +kernel
theorem dX16_isVector_27 : decode cX16_isVector 27 = .ok (.ireturn, 1) := by decide +kernel
theorem dX16_depth_0 : decode cX16_depth 0 = .ok (.aload_n 0, 1) := by decide +kernel
theorem dX16_depth_1 : decode cX16_depth 1 = .ok (.iconst 0, 1) := by decide +kernel
theorem dX16_depth_2 : decode cX16_depth 2 = .ok (.putfield 63, 3) := by decide +kernel
theorem dX16_depth_5 : decode cX16_depth 5 = .ok (.aload_n 0, 1) := by decide +kernel
theorem dX16_depth_6 : decode cX16_depth 6 = .ok (.aload_n 0, 1) := by decide +kernel
theorem dX16_depth_7 : decode cX16_depth 7 = .ok (.iload_n 1, 1) := by decide +kernel
theorem dX16_depth_8 : decode cX16_depth 8 = .ok (.invokevirtual 114, 3) := by decide +kernel
theorem dX16_depth_11 : decode cX16_depth 11 = .ok (.iconst 1, 1) := by decide +kernel
theorem dX16_depth_12 : decode cX16_depth 12 = .ok (.invokevirtual 102, 3) := by decide +kernel
theorem dX16_depth_15 : decode cX16_depth 15 = .ok (.ifCond .ne 24, 3) := by decide +kernel
theorem dX16_depth_18 : decode cX16_depth 18 = .ok (.aload_n 0, 1) := by decide +kernel
theorem dX16_depth_19 : decode cX16_depth 19 = .ok (.aload_n 0, 1) := by decide +kernel
theorem dX16_depth_20 : decode cX16_depth 20 = .ok (.iload_n 1, 1) := by decide +kernel
theorem dX16_depth_21 : decode cX16_depth 21 = .ok (.invokevirtual 124, 3) := by decide +kernel
theorem dX16_depth_24 : decode cX16_depth 24 = .ok (.ifCond .ne 7, 3) := by decide +kernel
theorem dX16_depth_27 : decode cX16_depth 27 = .ok (.iconst 1, 1) := by decide +kernel
theorem dX16_depth_28 : decode cX16_depth 28 = .ok (.goto 4, 3) := by decide +kernel
theorem dX16_depth_31 : decode cX16_depth 31 = .ok (.iconst 0, 1) := by decide +kernel
theorem dX16_depth_32 : decode cX16_depth 32 = .ok (.iconst 2, 1) := by decide +kernel
theorem dX16_depth_33 : decode cX16_depth 33 = .ok (.invokevirtual 102, 3) := by decide +kernel
theorem dX16_depth_36 : decode cX16_depth 36 = .ok (.ifCond .eq 7, 3) := by decide +kernel
theorem dX16_depth_39 : decode cX16_depth 39 = .ok (.iconst 0, 1) := by decide +kernel
theorem dX16_depth_40 : decode cX16_depth 40 = .ok (.goto 12, 3) := by decide +kernel
theorem dX16_depth_43 : decode cX16_depth 43 = .ok (.aload_n 0, 1) := by decide +kernel
theorem dX16_depth_44 : decode cX16_depth 44 = .ok (.getfield 13, 3) := by decide +kernel
theorem dX16_depth_47 : decode cX16_depth 47 = .ok (.iload_n 1, 1) := by decide +kernel
theorem dX16_depth_48 : decode cX16_depth 48 = .ok (.iaload, 1) := by decide +kernel
theorem dX16_depth_49 : decode cX16_depth 49 = .ok (.invokestatic 74, 3) := by decide +kernel
theorem dX16_depth_52 : decode cX16_depth 52 = .ok (.ireturn, 1) := by decide +kernel
theorem dX16_open_0 : decode cX16_open 0 = .ok (.aload_n 0, 1) := by decide +kernel
theorem dX16_open_1 : decode cX16_open 1 = .ok (.iconst 0, 1) := by decide +kernel
theorem dX16_open_2 : decode cX16_open 2 = .ok (.putfield 63, 3) := by decide +kernel
theorem dX16_open_5 : decode cX16_open 5 = .ok (.aload_n 0, 1) := by decide +kernel
theorem dX16_open_6 : decode cX16_open 6 = .ok (.aload_n 0, 1) := by decide +kernel
theorem dX16_open_7 : decode cX16_open 7 = .ok (.iload_n 1, 1) := by decide +kernel
theorem dX16_open_8 : decode cX16_open 8 = .ok (.invokevirtual 114, 3) := by decide +kernel
theorem dX16_open_11 : decode cX16_open 11 = .ok (.iconst 1, 1) := by decide +kernel
theorem dX16_open_12 : decode cX16_open 12 = .ok (.invokevirtual 102, 3) := by decide +kernel
theorem dX16_open_15 : decode cX16_open 15 = .ok (.ifCond .ne 39, 3) := by decide +kernel
theorem dX16_open_18 : decode cX16_open 18 = .ok (.aload_n 0, 1) := by decide +kernel
theorem dX16_open_19 : decode cX16_open 19 = .ok (.aload_n 0, 1) := by decide +kernel
theorem dX16_open_20 : decode cX16_open 20 = .ok (.getfield 7, 3) := by decide +kernel
theorem dX16_open_23 : decode cX16_open 23 = .ok (.iload_n 1, 1) := by decide +kernel
theorem dX16_open_24 : decode cX16_open 24 = .ok (.caload, 1) := by decide +kernel
theorem dX16_open_25 : decode cX16_open 25 = .ok (.bipush 118, 2) := by decide +kernel
theorem dX16_open_27 : decode cX16_open 27 = .ok (.if_icmp .eq 7, 3) := by decide +kernel
theorem dX16_open_30 : decode cX16_open 30 = .ok (.iconst 1, 1) := by decide +kernel
theorem dX16_open_31 : decode cX16_open 31 = .ok (.goto 4, 3) := by decide +kernel
theorem dX16_open_34 : decode cX16_open 34 = .ok (.iconst 0, 1) := by decide +kernel
theorem dX16_open_35 : decode cX16_open 35 = .ok (.iconst 2, 1) := by decide +kernel
theorem dX16_open_36 : decode cX16_open 36 = .ok (.invokevirtual 102, 3) := by decide +kernel
theorem dX16_open_39 : decode cX16_open 39 = .ok (.ifCond .ne 15, 3) := by decide +kernel
theorem dX16_open_42 : decode cX16_open 42 = .ok (.aload_n 0, 1) := by decide +kernel
theorem dX16_open_43 : decode cX16_open 43 = .ok (.aload_n 0, 1) := by decide +kernel
theorem dX16_open_44 : decode cX16_open 44 = .ok (.invokevirtual 98, 3) := by decide +kernel
theorem dX16_open_47 : decode cX16_open 47 = .ok (.iconst 3, 1) := by decide +kernel
theorem dX16_open_48 : decode cX16_open 48 = .ok (.invokevirtual 102, 3) := by decide +kernel
theorem dX16_open_51 : decode cX16_open 51 = .ok (.ifCond .eq 5, 3) := by decide +kernel
theorem dX16_open_54 : decode cX16_open 54 = .ok (.iconst 0, 1) := by decide +kernel
theorem dX16_open_55 : decode cX16_open 55 = .ok (.ireturn, 1) := by decide +kernel
theorem dX16_open_56 : decode cX16_open 56 = .ok (.aload_n 0, 1) := by decide +kernel
theorem dX16_open_57 : decode cX16_open 57 = .ok (.bipush 111, 2) := by decide +kernel
theorem dX16_open_59 : decode cX16_open 59 = .ok (.invokevirtual 106, 3) := by decide +kernel
theorem dX16_open_62 : decode cX16_open 62 = .ok (.istore_n 2, 1) := by decide +kernel
theorem dX16_open_63 : decode cX16_open 63 = .ok (.aload_n 0, 1) := by decide +kernel
theorem dX16_open_64 : decode cX16_open 64 = .ok (.iload_n 2, 1) := by decide +kernel
theorem dX16_open_65 : decode cX16_open 65 = .ok (.iload_n 1, 1) := by decide +kernel
theorem dX16_open_66 : decode cX16_open 66 = .ok (.invokevirtual 121, 3) := by decide +kernel
theorem dX16_open_69 : decode cX16_open 69 = .ok (.aload_n 0, 1) := by decide +kernel
theorem dX16_open_70 : decode cX16_open 70 = .ok (.iload_n 2, 1) := by decide +kernel
theorem dX16_open_71 : decode cX16_open 71 = .ok (.iload_n 1, 1) := by decide +kernel
theorem dX16_open_72 : decode cX16_open 72 = .ok (.invokevirtual 110, 3) := by decide +kernel
theorem dX16_open_75 : decode cX16_open 75 = .ok (.iload_n 2, 1) := by decide +kernel
theorem dX16_open_76 : decode cX16_open 76 = .ok (.ireturn, 1) := by decide +kernel
theorem dX16_change_0 : decode cX16_change 0 = .ok (.aload_n 0, 1) := by decide +kernel
theorem dX16_change_1 : decode cX16_change 1 = .ok (.getfield 84, 3) := by decide +kernel
theorem dX16_change_4 : decode cX16_change 4 = .ok (.istore 4, 2) := by decide +kernel
theorem dX16_change_6 : decode cX16_change 6 = .ok (.aload_n 0, 1) := by decide +kernel
theorem dX16_change_7 : decode cX16_change 7 = .ok (.getfield 13, 3) := by decide +kernel
theorem dX16_change_10 : decode cX16_change 10 = .ok (.iload_n 1, 1) := by decide +kernel
theorem dX16_change_11 : decode cX16_change 11 = .ok (.iaload, 1) := by decide +kernel
theorem dX16_change_12 : decode cX16_change 12 = .ok (.istore 5, 2) := by decide +kernel
theorem dX16_change_14 : decode cX16_change 14 = .ok (.iload_n 2, 1) := by decide +kernel
theorem dX16_change_15 : decode cX16_change 15 = .ok (.aload_n 0, 1) := by decide +kernel
theorem dX16_change_16 : decode cX16_change 16 = .ok (.getfield 13, 3) := by decide +kernel
theorem dX16_change_19 : decode cX16_change 19 = .ok (.iload_n 1, 1) := by decide +kernel
theorem dX16_change_20 : decode cX16_change 20 = .ok (.iaload, 1) := by decide +kernel
theorem dX16_change_21 : decode cX16_change 21 = .ok (.if_icmp .ge 22, 3) := by decide +kernel
theorem dX16_change_24 : decode cX16_change 24 = .ok (.aload_n 0, 1) := by decide +kernel
theorem dX16_change_25 : decode cX16_change 25 = .ok (.getfield 17, 3) := by decide +kernel
theorem dX16_change_28 : decode cX16_change 28 = .ok (.bipush 64, 2) := by decide +kernel
theorem dX16_change_30 : decode cX16_change 30 = .ok (.iload_n 1, 1) := by decide +kernel
theorem dX16_change_31 : decode cX16_change 31 = .ok (.imul, 1) := by decide +kernel
theorem dX16_change_32 : decode cX16_change 32 = .ok (.iload_n 2, 1) := by decide +kernel
theorem dX16_change_33 : decode cX16_change 33 = .ok (.iadd, 1) := by decide +kernel
theorem dX16_change_34 : decode cX16_change 34 = .ok (.iaload, 1) := by decide +kernel
theorem dX16_change_35 : decode cX16_change 35 = .ok (.iload_n 3, 1) := by decide +kernel
theorem dX16_change_36 : decode cX16_change 36 = .ok (.if_icmp .ne 7, 3) := by decide +kernel
theorem dX16_change_39 : decode cX16_change 39 = .ok (.iconst 1, 1) := by decide +kernel
theorem dX16_change_40 : decode cX16_change 40 = .ok (.goto 4, 3) := by decide +kernel
theorem dX16_change_43 : decode cX16_change 43 = .ok (.iconst 0, 1) := by decide +kernel
theorem dX16_change_44 : decode cX16_change 44 = .ok (.istore 6, 2) := by decide +kernel
theorem dX16_change_46 : decode cX16_change 46 = .ok (.aload_n 0, 1) := by decide +kernel
theorem dX16_change_47 : decode cX16_change 47 = .ok (.getfield 17, 3) := by decide +kernel
theorem dX16_change_50 : decode cX16_change 50 = .ok (.bipush 64, 2) := by decide +kernel
theorem dX16_change_52 : decode cX16_change 52 = .ok (.iload_n 1, 1) := by decide +kernel
theorem dX16_change_53 : decode cX16_change 53 = .ok (.imul, 1) := by decide +kernel
theorem dX16_change_54 : decode cX16_change 54 = .ok (.iload_n 2, 1) := by decide +kernel
theorem dX16_change_55 : decode cX16_change 55 = .ok (.iadd, 1) := by decide +kernel
theorem dX16_change_56 : decode cX16_change 56 = .ok (.iload_n 3, 1) := by decide +kernel
theorem dX16_change_57 : decode cX16_change 57 = .ok (.iastore, 1) := by decide +kernel
theorem dX16_change_58 : decode cX16_change 58 = .ok (.aload_n 0, 1) := by decide +kernel
theorem dX16_change_59 : decode cX16_change 59 = .ok (.getfield 13, 3) := by decide +kernel
theorem dX16_change_62 : decode cX16_change 62 = .ok (.iload_n 1, 1) := by decide +kernel
theorem dX16_change_63 : decode cX16_change 63 = .ok (.iload_n 2, 1) := by decide +kernel
theorem dX16_change_64 : decode cX16_change 64 = .ok (.aload_n 0, 1) := by decide +kernel
theorem dX16_change_65 : decode cX16_change 65 = .ok (.getfield 13, 3) := by decide +kernel
theorem dX16_change_68 : decode cX16_change 68 = .ok (.iload_n 1, 1) := by decide +kernel
theorem dX16_change_69 : decode cX16_change 69 = .ok (.iaload, 1) := by decide +kernel
theorem dX16_change_70 : decode cX16_change 70 = .ok (.if_icmp .ge 12, 3) := by decide +kernel
theorem dX16_change_73 : decode cX16_change 73 = .ok (.aload_n 0, 1) := by decide +kernel
theorem dX16_change_74 : decode cX16_change 74 = .ok (.getfield 13, 3) := by decide +kernel
theorem dX16_change_77 : decode cX16_change 77 = .ok (.iload_n 1, 1) := by decide +kernel
theorem dX16_change_78 : decode cX16_change 78 = .ok (.iaload, 1) := by decide +kernel
theorem dX16_change_79 : decode cX16_change 79 = .ok (.goto 6, 3) := by decide +kernel
theorem dX16_change_82 : decode cX16_change 82 = .ok (.iload_n 2, 1) := by decide +kernel
theorem dX16_change_83 : decode cX16_change 83 = .ok (.iconst 1, 1) := by decide +kernel
theorem dX16_change_84 : decode cX16_change 84 = .ok (.iadd, 1) := by decide +kernel
theorem dX16_change_85 : decode cX16_change 85 = .ok (.iastore, 1) := by decide +kernel
theorem dX16_change_86 : decode cX16_change 86 = .ok (.iconst 0, 1) := by decide +kernel
theorem dX16_change_87 : decode cX16_change 87 = .ok (.istore 7, 2) := by decide +kernel
theorem dX16_change_89 : decode cX16_change 89 = .ok (.iload 7, 2) := by decide +kernel
theorem dX16_change_91 : decode cX16_change 91 = .ok (.bipush 21, 2) := by decide +kernel
theorem dX16_change_93 : decode cX16_change 93 = .ok (.if_icmp .ge 122, 3) := by decide +kernel
theorem dX16_change_96 : decode cX16_change 96 = .ok (.iload 6, 2) := by decide +kernel
theorem dX16_change_98 : decode cX16_change 98 = .ok (.ifCond .ne 117, 3) := by decide +kernel
theorem dX16_change_101 : decode cX16_change 101 = .ok (.bipush 21, 2) := by decide +kernel
theorem dX16_change_103 : decode cX16_change 103 = .ok (.iload_n 1, 1) := by decide +kernel
theorem dX16_change_104 : decode cX16_change 104 = .ok (.imul, 1) := by decide +kernel
theorem dX16_change_105 : decode cX16_change 105 = .ok (.iload 7, 2) := by decide +kernel
theorem dX16_change_107 : decode cX16_change 107 = .ok (.iadd, 1) := by decide +kernel
theorem dX16_change_108 : decode cX16_change 108 = .ok (.istore 8, 2) := by decide +kernel
theorem dX16_change_110 : decode cX16_change 110 = .ok (.iload 7, 2) := by decide +kernel
theorem dX16_change_112 : decode cX16_change 112 = .ok (.iload 5, 2) := by decide +kernel
theorem dX16_change_114 : decode cX16_change 114 = .ok (.invokestatic 87, 3) := by decide +kernel
theorem dX16_change_117 : decode cX16_change 117 = .ok (.istore 9, 2) := by decide +kernel
theorem dX16_change_119 : decode cX16_change 119 = .ok (.iload 7, 2) := by decide +kernel
theorem dX16_change_121 : decode cX16_change 121 = .ok (.aload_n 0, 1) := by decide +kernel
theorem dX16_change_122 : decode cX16_change 122 = .ok (.getfield 13, 3) := by decide +kernel
theorem dX16_change_125 : decode cX16_change 125 = .ok (.iload_n 1, 1) := by decide +kernel
theorem dX16_change_126 : decode cX16_change 126 = .ok (.iaload, 1) := by decide +kernel
theorem dX16_change_127 : decode cX16_change 127 = .ok (.invokestatic 87, 3) := by decide +kernel
theorem dX16_change_130 : decode cX16_change 130 = .ok (.ifCond .eq 37, 3) := by decide +kernel
theorem dX16_change_133 : decode cX16_change 133 = .ok (.iload 9, 2) := by decide +kernel
theorem dX16_change_135 : decode cX16_change 135 = .ok (.ifCond .eq 28, 3) := by decide +kernel
theorem dX16_change_138 : decode cX16_change 138 = .ok (.iload_n 2, 1) := by decide +kernel
theorem dX16_change_139 : decode cX16_change 139 = .ok (.iload 7, 2) := by decide +kernel
theorem dX16_change_141 : decode cX16_change 141 = .ok (.invokestatic 78, 3) := by decide +kernel
theorem dX16_change_144 : decode cX16_change 144 = .ok (.iload 7, 2) := by decide +kernel
theorem dX16_change_146 : decode cX16_change 146 = .ok (.invokestatic 78, 3) := by decide +kernel
theorem dX16_change_149 : decode cX16_change 149 = .ok (.iload 7, 2) := by decide +kernel
theorem dX16_change_151 : decode cX16_change 151 = .ok (.invokestatic 81, 3) := by decide +kernel
theorem dX16_change_154 : decode cX16_change 154 = .ok (.iadd, 1) := by decide +kernel
theorem dX16_change_155 : decode cX16_change 155 = .ok (.iconst 1, 1) := by decide +kernel
theorem dX16_change_156 : decode cX16_change 156 = .ok (.isub, 1) := by decide +kernel
theorem dX16_change_157 : decode cX16_change 157 = .ok (.invokestatic 70, 3) := by decide +kernel
theorem dX16_change_160 : decode cX16_change 160 = .ok (.ifCond .eq 7, 3) := by decide +kernel
theorem dX16_change_163 : decode cX16_change 163 = .ok (.iconst 1, 1) := by decide +kernel
theorem dX16_change_164 : decode cX16_change 164 = .ok (.goto 4, 3) := by decide +kernel
theorem dX16_change_167 : decode cX16_change 167 = .ok (.iconst 0, 1) := by decide +kernel
theorem dX16_change_168 : decode cX16_change 168 = .ok (.istore 10, 2) := by decide +kernel
theorem dX16_change_170 : decode cX16_change 170 = .ok (.iload 10, 2) := by decide +kernel
theorem dX16_change_172 : decode cX16_change 172 = .ok (.ifCond .eq 37, 3) := by decide +kernel
theorem dX16_change_175 : decode cX16_change 175 = .ok (.iload 9, 2) := by decide +kernel
theorem dX16_change_177 : decode cX16_change 177 = .ok (.ifCond .eq 13, 3) := by decide +kernel
theorem dX16_change_180 : decode cX16_change 180 = .ok (.aload_n 0, 1) := by decide +kernel
theorem dX16_change_181 : decode cX16_change 181 = .ok (.getfield 23, 3) := by decide +kernel
theorem dX16_change_184 : decode cX16_change 184 = .ok (.iload 8, 2) := by decide +kernel
theorem dX16_change_186 : decode cX16_change 186 = .ok (.baload, 1) := by decide +kernel
theorem dX16_change_187 : decode cX16_change 187 = .ok (.ifCond .ne 22, 3) := by decide +kernel
theorem dX16_change_190 : decode cX16_change 190 = .ok (.aload_n 0, 1) := by decide +kernel
theorem dX16_change_191 : decode cX16_change 191 = .ok (.getfield 20, 3) := by decide +kernel
theorem dX16_change_194 : decode cX16_change 194 = .ok (.iload 8, 2) := by decide +kernel
theorem dX16_change_196 : decode cX16_change 196 = .ok (.aload_n 0, 1) := by decide +kernel
theorem dX16_change_197 : decode cX16_change 197 = .ok (.invokevirtual 94, 3) := by decide +kernel
theorem dX16_change_200 : decode cX16_change 200 = .ok (.iastore, 1) := by decide +kernel
theorem dX16_change_201 : decode cX16_change 201 = .ok (.aload_n 0, 1) := by decide +kernel
theorem dX16_change_202 : decode cX16_change 202 = .ok (.getfield 23, 3) := by decide +kernel
theorem dX16_change_205 : decode cX16_change 205 = .ok (.iload 8, 2) := by decide +kernel
theorem dX16_change_207 : decode cX16_change 207 = .ok (.iconst 1, 1) := by decide +kernel
theorem dX16_change_208 : decode cX16_change 208 = .ok (.bastore, 1) := by decide +kernel
theorem dX16_change_209 : decode cX16_change 209 = .ok (.iinc 7 1, 3) := by decide +kernel
theorem dX16_change_212 : decode cX16_change 212 = .ok (.goto (-123), 3) := by decide +kernel
theorem dX16_change_215 : decode cX16_change 215 = .ok (.aload_n 0, 1) := by decide +kernel
theorem dX16_change_216 : decode cX16_change 216 = .ok (.getfield 84, 3) := by decide +kernel
theorem dX16_change_219 : decode cX16_change 219 = .ok (.iload 4, 2) := by decide +kernel
theorem dX16_change_221 : decode cX16_change 221 = .ok (.isub, 1) := by decide +kernel
theorem dX16_change_222 : decode cX16_change 222 = .ok (.ireturn, 1) := by decide +kernel
theorem dX16_appendTo_0 : decode cX16_appendTo 0 = .ok (.aload_n 0, 1) := by decide +kernel
theorem dX16_appendTo_1 : decode cX16_appendTo 1 = .ok (.iconst 0, 1) := by decide +kernel
theorem dX16_appendTo_2 : decode cX16_appendTo 2 = .ok (.putfield 63, 3) := by decide +kernel
theorem dX16_appendTo_5 : decode cX16_appendTo 5 = .ok (.aload_n 0, 1) := by decide +kernel
theorem dX16_appendTo_6 : decode cX16_appendTo 6 = .ok (.aload_n 0, 1) := by decide +kernel
theorem dX16_appendTo_7 : decode cX16_appendTo 7 = .ok (.iload_n 1, 1) := by decide +kernel
theorem dX16_appendTo_8 : decode cX16_appendTo 8 = .ok (.invokevirtual 114, 3) := by decide +kernel
theorem dX16_appendTo_11 : decode cX16_appendTo 11 = .ok (.iconst 1, 1) := by decide +kernel
theorem dX16_appendTo_12 : decode cX16_appendTo 12 = .ok (.invokevirtual 102, 3) := by decide +kernel
theorem dX16_appendTo_15 : decode cX16_appendTo 15 = .ok (.ifCond .ne 50, 3) := by decide +kernel
theorem dX16_appendTo_18 : decode cX16_appendTo 18 = .ok (.aload_n 0, 1) := by decide +kernel
theorem dX16_appendTo_19 : decode cX16_appendTo 19 = .ok (.iload_n 2, 1) := by decide +kernel
theorem dX16_appendTo_20 : decode cX16_appendTo 20 = .ok (.invokestatic 118, 3) := by decide +kernel
theorem dX16_appendTo_23 : decode cX16_appendTo 23 = .ok (.iconst 2, 1) := by decide +kernel
theorem dX16_appendTo_24 : decode cX16_appendTo 24 = .ok (.invokevirtual 102, 3) := by decide +kernel
theorem dX16_appendTo_27 : decode cX16_appendTo 27 = .ok (.ifCond .ne 38, 3) := by decide +kernel
theorem dX16_appendTo_30 : decode cX16_appendTo 30 = .ok (.aload_n 0, 1) := by decide +kernel
theorem dX16_appendTo_31 : decode cX16_appendTo 31 = .ok (.aload_n 0, 1) := by decide +kernel
theorem dX16_appendTo_32 : decode cX16_appendTo 32 = .ok (.getfield 7, 3) := by decide +kernel
theorem dX16_appendTo_35 : decode cX16_appendTo 35 = .ok (.iload_n 1, 1) := by decide +kernel
theorem dX16_appendTo_36 : decode cX16_appendTo 36 = .ok (.caload, 1) := by decide +kernel
theorem dX16_appendTo_37 : decode cX16_appendTo 37 = .ok (.bipush 111, 2) := by decide +kernel
theorem dX16_appendTo_39 : decode cX16_appendTo 39 = .ok (.if_icmp .ne 14, 3) := by decide +kernel
theorem dX16_appendTo_42 : decode cX16_appendTo 42 = .ok (.aload_n 0, 1) := by decide +kernel
theorem dX16_appendTo_43 : decode cX16_appendTo 43 = .ok (.getfield 13, 3) := by decide +kernel
theorem dX16_appendTo_46 : decode cX16_appendTo 46 = .ok (.iload_n 1, 1) := by decide +kernel
theorem dX16_appendTo_47 : decode cX16_appendTo 47 = .ok (.iaload, 1) := by decide +kernel
theorem dX16_appendTo_48 : decode cX16_appendTo 48 = .ok (.bipush 64, 2) := by decide +kernel
theorem dX16_appendTo_50 : decode cX16_appendTo 50 = .ok (.if_icmp .ne 7, 3) := by decide +kernel
theorem dX16_appendTo_53 : decode cX16_appendTo 53 = .ok (.iconst 1, 1) := by decide +kernel
theorem dX16_appendTo_54 : decode cX16_appendTo 54 = .ok (.goto 4, 3) := by decide +kernel
theorem dX16_appendTo_57 : decode cX16_appendTo 57 = .ok (.iconst 0, 1) := by decide +kernel
theorem dX16_appendTo_58 : decode cX16_appendTo 58 = .ok (.iconst 3, 1) := by decide +kernel
theorem dX16_appendTo_59 : decode cX16_appendTo 59 = .ok (.invokevirtual 102, 3) := by decide +kernel
theorem dX16_appendTo_62 : decode cX16_appendTo 62 = .ok (.ifCond .eq 5, 3) := by decide +kernel
theorem dX16_appendTo_65 : decode cX16_appendTo 65 = .ok (.iconst 0, 1) := by decide +kernel
theorem dX16_appendTo_66 : decode cX16_appendTo 66 = .ok (.ireturn, 1) := by decide +kernel
theorem dX16_appendTo_67 : decode cX16_appendTo 67 = .ok (.aload_n 0, 1) := by decide +kernel
theorem dX16_appendTo_68 : decode cX16_appendTo 68 = .ok (.iload_n 1, 1) := by decide +kernel
theorem dX16_appendTo_69 : decode cX16_appendTo 69 = .ok (.aload_n 0, 1) := by decide +kernel
theorem dX16_appendTo_70 : decode cX16_appendTo 70 = .ok (.getfield 13, 3) := by decide +kernel
theorem dX16_appendTo_73 : decode cX16_appendTo 73 = .ok (.iload_n 1, 1) := by decide +kernel
theorem dX16_appendTo_74 : decode cX16_appendTo 74 = .ok (.iaload, 1) := by decide +kernel
theorem dX16_appendTo_75 : decode cX16_appendTo 75 = .ok (.iload_n 2, 1) := by decide +kernel
theorem dX16_appendTo_76 : decode cX16_appendTo 76 = .ok (.invokevirtual 127, 3) := by decide +kernel
theorem dX16_appendTo_79 : decode cX16_appendTo 79 = .ok (.ireturn, 1) := by decide +kernel
theorem dX16_setIn_0 : decode cX16_setIn 0 = .ok (.aload_n 0, 1) := by decide +kernel
theorem dX16_setIn_1 : decode cX16_setIn 1 = .ok (.iconst 0, 1) := by decide +kernel
theorem dX16_setIn_2 : decode cX16_setIn 2 = .ok (.putfield 63, 3) := by decide +kernel
theorem dX16_setIn_5 : decode cX16_setIn 5 = .ok (.aload_n 0, 1) := by decide +kernel
theorem dX16_setIn_6 : decode cX16_setIn 6 = .ok (.aload_n 0, 1) := by decide +kernel
theorem dX16_setIn_7 : decode cX16_setIn 7 = .ok (.iload_n 1, 1) := by decide +kernel
theorem dX16_setIn_8 : decode cX16_setIn 8 = .ok (.invokevirtual 114, 3) := by decide +kernel
theorem dX16_setIn_11 : decode cX16_setIn 11 = .ok (.iconst 1, 1) := by decide +kernel
theorem dX16_setIn_12 : decode cX16_setIn 12 = .ok (.invokevirtual 102, 3) := by decide +kernel
theorem dX16_setIn_15 : decode cX16_setIn 15 = .ok (.ifCond .ne 68, 3) := by decide +kernel
theorem dX16_setIn_18 : decode cX16_setIn 18 = .ok (.aload_n 0, 1) := by decide +kernel
theorem dX16_setIn_19 : decode cX16_setIn 19 = .ok (.iload_n 3, 1) := by decide +kernel
theorem dX16_setIn_20 : decode cX16_setIn 20 = .ok (.invokestatic 118, 3) := by decide +kernel
theorem dX16_setIn_23 : decode cX16_setIn 23 = .ok (.iconst 2, 1) := by decide +kernel
theorem dX16_setIn_24 : decode cX16_setIn 24 = .ok (.invokevirtual 102, 3) := by decide +kernel
theorem dX16_setIn_27 : decode cX16_setIn 27 = .ok (.ifCond .ne 56, 3) := by decide +kernel
theorem dX16_setIn_30 : decode cX16_setIn 30 = .ok (.aload_n 0, 1) := by decide +kernel
theorem dX16_setIn_31 : decode cX16_setIn 31 = .ok (.aload_n 0, 1) := by decide +kernel
theorem dX16_setIn_32 : decode cX16_setIn 32 = .ok (.getfield 7, 3) := by decide +kernel
theorem dX16_setIn_35 : decode cX16_setIn 35 = .ok (.iload_n 1, 1) := by decide +kernel
theorem dX16_setIn_36 : decode cX16_setIn 36 = .ok (.caload, 1) := by decide +kernel
theorem dX16_setIn_37 : decode cX16_setIn 37 = .ok (.bipush 111, 2) := by decide +kernel
theorem dX16_setIn_39 : decode cX16_setIn 39 = .ok (.if_icmp .eq 7, 3) := by decide +kernel
theorem dX16_setIn_42 : decode cX16_setIn 42 = .ok (.iconst 1, 1) := by decide +kernel
theorem dX16_setIn_43 : decode cX16_setIn 43 = .ok (.goto 4, 3) := by decide +kernel
theorem dX16_setIn_46 : decode cX16_setIn 46 = .ok (.iconst 0, 1) := by decide +kernel
theorem dX16_setIn_47 : decode cX16_setIn 47 = .ok (.iconst 3, 1) := by decide +kernel
theorem dX16_setIn_48 : decode cX16_setIn 48 = .ok (.invokevirtual 102, 3) := by decide +kernel
theorem dX16_setIn_51 : decode cX16_setIn 51 = .ok (.ifCond .ne 32, 3) := by decide +kernel
theorem dX16_setIn_54 : decode cX16_setIn 54 = .ok (.aload_n 0, 1) := by decide +kernel
theorem dX16_setIn_55 : decode cX16_setIn 55 = .ok (.iload_n 2, 1) := by decide +kernel
theorem dX16_setIn_56 : decode cX16_setIn 56 = .ok (.iconst 0, 1) := by decide +kernel
theorem dX16_setIn_57 : decode cX16_setIn 57 = .ok (.aload_n 0, 1) := by decide +kernel
theorem dX16_setIn_58 : decode cX16_setIn 58 = .ok (.getfield 13, 3) := by decide +kernel
theorem dX16_setIn_61 : decode cX16_setIn 61 = .ok (.iload_n 1, 1) := by decide +kernel
theorem dX16_setIn_62 : decode cX16_setIn 62 = .ok (.iaload, 1) := by decide +kernel
theorem dX16_setIn_63 : decode cX16_setIn 63 = .ok (.iconst 1, 1) := by decide +kernel
theorem dX16_setIn_64 : decode cX16_setIn 64 = .ok (.isub, 1) := by decide +kernel
theorem dX16_setIn_65 : decode cX16_setIn 65 = .ok (.invokestatic 70, 3) := by decide +kernel
theorem dX16_setIn_68 : decode cX16_setIn 68 = .ok (.ifCond .ne 7, 3) := by decide +kernel
theorem dX16_setIn_71 : decode cX16_setIn 71 = .ok (.iconst 1, 1) := by decide +kernel
theorem dX16_setIn_72 : decode cX16_setIn 72 = .ok (.goto 4, 3) := by decide +kernel
theorem dX16_setIn_75 : decode cX16_setIn 75 = .ok (.iconst 0, 1) := by decide +kernel
theorem dX16_setIn_76 : decode cX16_setIn 76 = .ok (.iconst 4, 1) := by decide +kernel
theorem dX16_setIn_77 : decode cX16_setIn 77 = .ok (.invokevirtual 102, 3) := by decide +kernel
theorem dX16_setIn_80 : decode cX16_setIn 80 = .ok (.ifCond .eq 5, 3) := by decide +kernel
theorem dX16_setIn_83 : decode cX16_setIn 83 = .ok (.iconst 0, 1) := by decide +kernel
theorem dX16_setIn_84 : decode cX16_setIn 84 = .ok (.ireturn, 1) := by decide +kernel
theorem dX16_setIn_85 : decode cX16_setIn 85 = .ok (.aload_n 0, 1) := by decide +kernel
theorem dX16_setIn_86 : decode cX16_setIn 86 = .ok (.iload_n 1, 1) := by decide +kernel
theorem dX16_setIn_87 : decode cX16_setIn 87 = .ok (.iload_n 2, 1) := by decide +kernel
theorem dX16_setIn_88 : decode cX16_setIn 88 = .ok (.iload_n 3, 1) := by decide +kernel
theorem dX16_setIn_89 : decode cX16_setIn 89 = .ok (.invokevirtual 127, 3) := by decide +kernel
theorem dX16_setIn_92 : decode cX16_setIn 92 = .ok (.ireturn, 1) := by decide +kernel
theorem dX16_makeLasting_0 : decode cX16_makeLasting 0 = .ok (.aload_n 0, 1) := by decide +kernel
theorem dX16_makeLasting_1 : decode cX16_makeLasting 1 = .ok (.iconst 0, 1) := by decide +kernel
theorem dX16_makeLasting_2 : decode cX16_makeLasting 2 = .ok (.putfield 63, 3) := by decide +kernel
theorem dX16_makeLasting_5 : decode cX16_makeLasting 5 = .ok (.aload_n 0, 1) := by decide +kernel
theorem dX16_makeLasting_6 : decode cX16_makeLasting 6 = .ok (.aload_n 0, 1) := by decide +kernel
theorem dX16_makeLasting_7 : decode cX16_makeLasting 7 = .ok (.iload_n 1, 1) := by decide +kernel
theorem dX16_makeLasting_8 : decode cX16_makeLasting 8 = .ok (.invokevirtual 114, 3) := by decide +kernel
theorem dX16_makeLasting_11 : decode cX16_makeLasting 11 = .ok (.iconst 1, 1) := by decide +kernel
theorem dX16_makeLasting_12 : decode cX16_makeLasting 12 = .ok (.invokevirtual 102, 3) := by decide +kernel
theorem dX16_makeLasting_15 : decode cX16_makeLasting 15 = .ok (.ifCond .ne 39, 3) := by decide +kernel
theorem dX16_makeLasting_18 : decode cX16_makeLasting 18 = .ok (.aload_n 0, 1) := by decide +kernel
theorem dX16_makeLasting_19 : decode cX16_makeLasting 19 = .ok (.aload_n 0, 1) := by decide +kernel
theorem dX16_makeLasting_20 : decode cX16_makeLasting 20 = .ok (.getfield 7, 3) := by decide +kernel
theorem dX16_makeLasting_23 : decode cX16_makeLasting 23 = .ok (.iload_n 1, 1) := by decide +kernel
theorem dX16_makeLasting_24 : decode cX16_makeLasting 24 = .ok (.caload, 1) := by decide +kernel
theorem dX16_makeLasting_25 : decode cX16_makeLasting 25 = .ok (.bipush 111, 2) := by decide +kernel
theorem dX16_makeLasting_27 : decode cX16_makeLasting 27 = .ok (.if_icmp .eq 7, 3) := by decide +kernel
theorem dX16_makeLasting_30 : decode cX16_makeLasting 30 = .ok (.iconst 1, 1) := by decide +kernel
theorem dX16_makeLasting_31 : decode cX16_makeLasting 31 = .ok (.goto 4, 3) := by decide +kernel
theorem dX16_makeLasting_34 : decode cX16_makeLasting 34 = .ok (.iconst 0, 1) := by decide +kernel
theorem dX16_makeLasting_35 : decode cX16_makeLasting 35 = .ok (.iconst 2, 1) := by decide +kernel
theorem dX16_makeLasting_36 : decode cX16_makeLasting 36 = .ok (.invokevirtual 102, 3) := by decide +kernel
theorem dX16_makeLasting_39 : decode cX16_makeLasting 39 = .ok (.ifCond .ne 15, 3) := by decide +kernel
theorem dX16_makeLasting_42 : decode cX16_makeLasting 42 = .ok (.aload_n 0, 1) := by decide +kernel
theorem dX16_makeLasting_43 : decode cX16_makeLasting 43 = .ok (.aload_n 0, 1) := by decide +kernel
theorem dX16_makeLasting_44 : decode cX16_makeLasting 44 = .ok (.invokevirtual 98, 3) := by decide +kernel
theorem dX16_makeLasting_47 : decode cX16_makeLasting 47 = .ok (.iconst 3, 1) := by decide +kernel
theorem dX16_makeLasting_48 : decode cX16_makeLasting 48 = .ok (.invokevirtual 102, 3) := by decide +kernel
theorem dX16_makeLasting_51 : decode cX16_makeLasting 51 = .ok (.ifCond .eq 5, 3) := by decide +kernel
theorem dX16_makeLasting_54 : decode cX16_makeLasting 54 = .ok (.iconst 0, 1) := by decide +kernel
theorem dX16_makeLasting_55 : decode cX16_makeLasting 55 = .ok (.ireturn, 1) := by decide +kernel
theorem dX16_makeLasting_56 : decode cX16_makeLasting 56 = .ok (.aload_n 0, 1) := by decide +kernel
theorem dX16_makeLasting_57 : decode cX16_makeLasting 57 = .ok (.bipush 118, 2) := by decide +kernel
theorem dX16_makeLasting_59 : decode cX16_makeLasting 59 = .ok (.invokevirtual 106, 3) := by decide +kernel
theorem dX16_makeLasting_62 : decode cX16_makeLasting 62 = .ok (.istore_n 2, 1) := by decide +kernel
theorem dX16_makeLasting_63 : decode cX16_makeLasting 63 = .ok (.aload_n 0, 1) := by decide +kernel
theorem dX16_makeLasting_64 : decode cX16_makeLasting 64 = .ok (.iload_n 2, 1) := by decide +kernel
theorem dX16_makeLasting_65 : decode cX16_makeLasting 65 = .ok (.iload_n 1, 1) := by decide +kernel
theorem dX16_makeLasting_66 : decode cX16_makeLasting 66 = .ok (.invokevirtual 121, 3) := by decide +kernel
theorem dX16_makeLasting_69 : decode cX16_makeLasting 69 = .ok (.aload_n 0, 1) := by decide +kernel
theorem dX16_makeLasting_70 : decode cX16_makeLasting 70 = .ok (.iload_n 2, 1) := by decide +kernel
theorem dX16_makeLasting_71 : decode cX16_makeLasting 71 = .ok (.iload_n 1, 1) := by decide +kernel
theorem dX16_makeLasting_72 : decode cX16_makeLasting 72 = .ok (.invokevirtual 110, 3) := by decide +kernel
theorem dX16_makeLasting_75 : decode cX16_makeLasting 75 = .ok (.aload_n 0, 1) := by decide +kernel
theorem dX16_makeLasting_76 : decode cX16_makeLasting 76 = .ok (.getfield 7, 3) := by decide +kernel
theorem dX16_makeLasting_79 : decode cX16_makeLasting 79 = .ok (.iload_n 1, 1) := by decide +kernel
theorem dX16_makeLasting_80 : decode cX16_makeLasting 80 = .ok (.bipush 120, 2) := by decide +kernel
theorem dX16_makeLasting_82 : decode cX16_makeLasting 82 = .ok (.castore, 1) := by decide +kernel
theorem dX16_makeLasting_83 : decode cX16_makeLasting 83 = .ok (.aload_n 0, 1) := by decide +kernel
theorem dX16_makeLasting_84 : decode cX16_makeLasting 84 = .ok (.getfield 13, 3) := by decide +kernel
theorem dX16_makeLasting_87 : decode cX16_makeLasting 87 = .ok (.iload_n 1, 1) := by decide +kernel
theorem dX16_makeLasting_88 : decode cX16_makeLasting 88 = .ok (.iconst 0, 1) := by decide +kernel
theorem dX16_makeLasting_89 : decode cX16_makeLasting 89 = .ok (.iastore, 1) := by decide +kernel
theorem dX16_makeLasting_90 : decode cX16_makeLasting 90 = .ok (.iload_n 2, 1) := by decide +kernel
theorem dX16_makeLasting_91 : decode cX16_makeLasting 91 = .ok (.ireturn, 1) := by decide +kernel
theorem dX16_isOpen_0 : decode cX16_isOpen 0 = .ok (.aload_n 0, 1) := by decide +kernel
theorem dX16_isOpen_1 : decode cX16_isOpen 1 = .ok (.iconst 0, 1) := by decide +kernel
theorem dX16_isOpen_2 : decode cX16_isOpen 2 = .ok (.putfield 63, 3) := by decide +kernel
theorem dX16_isOpen_5 : decode cX16_isOpen 5 = .ok (.aload_n 0, 1) := by decide +kernel
theorem dX16_isOpen_6 : decode cX16_isOpen 6 = .ok (.aload_n 0, 1) := by decide +kernel
theorem dX16_isOpen_7 : decode cX16_isOpen 7 = .ok (.iload_n 1, 1) := by decide +kernel
theorem dX16_isOpen_8 : decode cX16_isOpen 8 = .ok (.invokevirtual 114, 3) := by decide +kernel
theorem dX16_isOpen_11 : decode cX16_isOpen 11 = .ok (.iconst 1, 1) := by decide +kernel
theorem dX16_isOpen_12 : decode cX16_isOpen 12 = .ok (.invokevirtual 102, 3) := by decide +kernel
theorem dX16_isOpen_15 : decode cX16_isOpen 15 = .ok (.ifCond .ne 18, 3) := by decide +kernel
theorem dX16_isOpen_18 : decode cX16_isOpen 18 = .ok (.aload_n 0, 1) := by decide +kernel
theorem dX16_isOpen_19 : decode cX16_isOpen 19 = .ok (.getfield 7, 3) := by decide +kernel
theorem dX16_isOpen_22 : decode cX16_isOpen 22 = .ok (.iload_n 1, 1) := by decide +kernel
theorem dX16_isOpen_23 : decode cX16_isOpen 23 = .ok (.caload, 1) := by decide +kernel
theorem dX16_isOpen_24 : decode cX16_isOpen 24 = .ok (.bipush 111, 2) := by decide +kernel
theorem dX16_isOpen_26 : decode cX16_isOpen 26 = .ok (.if_icmp .ne 7, 3) := by decide +kernel
theorem dX16_isOpen_29 : decode cX16_isOpen 29 = .ok (.iconst 1, 1) := by decide +kernel
theorem dX16_isOpen_30 : decode cX16_isOpen 30 = .ok (.goto 4, 3) := by decide +kernel
theorem dX16_isOpen_33 : decode cX16_isOpen 33 = .ok (.iconst 0, 1) := by decide +kernel
theorem dX16_isOpen_34 : decode cX16_isOpen 34 = .ok (.ireturn, 1) := by decide +kernel
theorem dX16_codeOf_0 : decode cX16_codeOf 0 = .ok (.bipush 37, 2) := by decide +kernel
theorem dX16_codeOf_2 : decode cX16_codeOf 2 = .ok (.iload_n 0, 1) := by decide +kernel
theorem dX16_codeOf_3 : decode cX16_codeOf 3 = .ok (.imul, 1) := by decide +kernel
theorem dX16_codeOf_4 : decode cX16_codeOf 4 = .ok (.iload_n 0, 1) := by decide +kernel
theorem dX16_codeOf_5 : decode cX16_codeOf 5 = .ok (.bipush 8, 2) := by decide +kernel
theorem dX16_codeOf_7 : decode cX16_codeOf 7 = .ok (.idiv, 1) := by decide +kernel
theorem dX16_codeOf_8 : decode cX16_codeOf 8 = .ok (.ixor, 1) := by decide +kernel
theorem dX16_codeOf_9 : decode cX16_codeOf 9 = .ok (.sipush 255, 3) := by decide +kernel
theorem dX16_codeOf_12 : decode cX16_codeOf 12 = .ok (.iand, 1) := by decide +kernel
theorem dX16_codeOf_13 : decode cX16_codeOf 13 = .ok (.ireturn, 1) := by decide +kernel
theorem dX16_levelStart_0 : decode cX16_levelStart 0 = .ok (.iload_n 0, 1) := by decide +kernel
theorem dX16_levelStart_1 : decode cX16_levelStart 1 = .ok (.ifCond .ne 7, 3) := by decide +kernel
theorem dX16_levelStart_4 : decode cX16_levelStart 4 = .ok (.iconst 0, 1) := by decide +kernel
theorem dX16_levelStart_5 : decode cX16_levelStart 5 = .ok (.goto 33, 3) := by decide +kernel
theorem dX16_levelStart_8 : decode cX16_levelStart 8 = .ok (.iload_n 0, 1) := by decide +kernel
theorem dX16_levelStart_9 : decode cX16_levelStart 9 = .ok (.iconst 1, 1) := by decide +kernel
theorem dX16_levelStart_10 : decode cX16_levelStart 10 = .ok (.if_icmp .ne 7, 3) := by decide +kernel
theorem dX16_levelStart_13 : decode cX16_levelStart 13 = .ok (.iconst 1, 1) := by decide +kernel
theorem dX16_levelStart_14 : decode cX16_levelStart 14 = .ok (.goto 24, 3) := by decide +kernel
theorem dX16_levelStart_17 : decode cX16_levelStart 17 = .ok (.iload_n 0, 1) := by decide +kernel
theorem dX16_levelStart_18 : decode cX16_levelStart 18 = .ok (.iconst 2, 1) := by decide +kernel
theorem dX16_levelStart_19 : decode cX16_levelStart 19 = .ok (.if_icmp .ne 7, 3) := by decide +kernel
theorem dX16_levelStart_22 : decode cX16_levelStart 22 = .ok (.iconst 5, 1) := by decide +kernel
theorem dX16_levelStart_23 : decode cX16_levelStart 23 = .ok (.goto 15, 3) := by decide +kernel
theorem dX16_levelStart_26 : decode cX16_levelStart 26 = .ok (.iload_n 0, 1) := by decide +kernel
theorem dX16_levelStart_27 : decode cX16_levelStart 27 = .ok (.iconst 3, 1) := by decide +kernel
theorem dX16_levelStart_28 : decode cX16_levelStart 28 = .ok (.if_icmp .ne 8, 3) := by decide +kernel
theorem dX16_levelStart_31 : decode cX16_levelStart 31 = .ok (.bipush 21, 2) := by decide +kernel
theorem dX16_levelStart_33 : decode cX16_levelStart 33 = .ok (.goto 5, 3) := by decide +kernel
theorem dX16_levelStart_36 : decode cX16_levelStart 36 = .ok (.bipush 85, 2) := by decide +kernel
theorem dX16_levelStart_38 : decode cX16_levelStart 38 = .ok (.ireturn, 1) := by decide +kernel
theorem dX16_bitsOf_0 : decode cX16_bitsOf 0 = .ok (.iload_n 0, 1) := by decide +kernel
theorem dX16_bitsOf_1 : decode cX16_bitsOf 1 = .ok (.invokestatic 131, 3) := by decide +kernel
theorem dX16_bitsOf_4 : decode cX16_bitsOf 4 = .ok (.iconst 1, 1) := by decide +kernel
theorem dX16_bitsOf_5 : decode cX16_bitsOf 5 = .ok (.iconst 2, 1) := by decide +kernel
theorem dX16_bitsOf_6 : decode cX16_bitsOf 6 = .ok (.iload_n 1, 1) := by decide +kernel
theorem dX16_bitsOf_7 : decode cX16_bitsOf 7 = .ok (.imul, 1) := by decide +kernel
theorem dX16_bitsOf_8 : decode cX16_bitsOf 8 = .ok (.ishl, 1) := by decide +kernel
theorem dX16_bitsOf_9 : decode cX16_bitsOf 9 = .ok (.iconst 1, 1) := by decide +kernel
theorem dX16_bitsOf_10 : decode cX16_bitsOf 10 = .ok (.isub, 1) := by decide +kernel
theorem dX16_bitsOf_11 : decode cX16_bitsOf 11 = .ok (.iand, 1) := by decide +kernel
theorem dX16_bitsOf_12 : decode cX16_bitsOf 12 = .ok (.ireturn, 1) := by decide +kernel
theorem dX16_slotOf_0 : decode cX16_slotOf 0 = .ok (.iload_n 2, 1) := by decide +kernel
theorem dX16_slotOf_1 : decode cX16_slotOf 1 = .ok (.invokestatic 134, 3) := by decide +kernel
theorem dX16_slotOf_4 : decode cX16_slotOf 4 = .ok (.iload_n 1, 1) := by decide +kernel
theorem dX16_slotOf_5 : decode cX16_slotOf 5 = .ok (.iload_n 2, 1) := by decide +kernel
theorem dX16_slotOf_6 : decode cX16_slotOf 6 = .ok (.invokestatic 137, 3) := by decide +kernel
theorem dX16_slotOf_9 : decode cX16_slotOf 9 = .ok (.iadd, 1) := by decide +kernel
theorem dX16_slotOf_10 : decode cX16_slotOf 10 = .ok (.ireturn, 1) := by decide +kernel
theorem dX16_alike_0 : decode cX16_alike 0 = .ok (.iconst 0, 1) := by decide +kernel
theorem dX16_alike_1 : decode cX16_alike 1 = .ok (.istore 4, 2) := by decide +kernel
theorem dX16_alike_3 : decode cX16_alike 3 = .ok (.iconst 0, 1) := by decide +kernel
theorem dX16_alike_4 : decode cX16_alike 4 = .ok (.istore 5, 2) := by decide +kernel
theorem dX16_alike_6 : decode cX16_alike 6 = .ok (.iload 5, 2) := by decide +kernel
theorem dX16_alike_8 : decode cX16_alike 8 = .ok (.sipush 1000, 3) := by decide +kernel
theorem dX16_alike_11 : decode cX16_alike 11 = .ok (.if_icmp .ge 49, 3) := by decide +kernel
theorem dX16_alike_14 : decode cX16_alike 14 = .ok (.iload 4, 2) := by decide +kernel
theorem dX16_alike_16 : decode cX16_alike 16 = .ok (.aload_n 0, 1) := by decide +kernel
theorem dX16_alike_17 : decode cX16_alike 17 = .ok (.getfield 28, 3) := by decide +kernel
theorem dX16_alike_20 : decode cX16_alike 20 = .ok (.sipush 1000, 3) := by decide +kernel
theorem dX16_alike_23 : decode cX16_alike 23 = .ok (.iload_n 1, 1) := by decide +kernel
theorem dX16_alike_24 : decode cX16_alike 24 = .ok (.imul, 1) := by decide +kernel
theorem dX16_alike_25 : decode cX16_alike 25 = .ok (.iload 5, 2) := by decide +kernel
theorem dX16_alike_27 : decode cX16_alike 27 = .ok (.iadd, 1) := by decide +kernel
theorem dX16_alike_28 : decode cX16_alike 28 = .ok (.baload, 1) := by decide +kernel
theorem dX16_alike_29 : decode cX16_alike 29 = .ok (.ifCond .eq 21, 3) := by decide +kernel
theorem dX16_alike_32 : decode cX16_alike 32 = .ok (.iload 5, 2) := by decide +kernel
theorem dX16_alike_34 : decode cX16_alike 34 = .ok (.iload_n 3, 1) := by decide +kernel
theorem dX16_alike_35 : decode cX16_alike 35 = .ok (.invokestatic 137, 3) := by decide +kernel
theorem dX16_alike_38 : decode cX16_alike 38 = .ok (.iload_n 2, 1) := by decide +kernel
theorem dX16_alike_39 : decode cX16_alike 39 = .ok (.iload_n 3, 1) := by decide +kernel
theorem dX16_alike_40 : decode cX16_alike 40 = .ok (.invokestatic 137, 3) := by decide +kernel
theorem dX16_alike_43 : decode cX16_alike 43 = .ok (.if_icmp .ne 7, 3) := by decide +kernel
theorem dX16_alike_46 : decode cX16_alike 46 = .ok (.iconst 1, 1) := by decide +kernel
theorem dX16_alike_47 : decode cX16_alike 47 = .ok (.goto 4, 3) := by decide +kernel
theorem dX16_alike_50 : decode cX16_alike 50 = .ok (.iconst 0, 1) := by decide +kernel
theorem dX16_alike_51 : decode cX16_alike 51 = .ok (.iadd, 1) := by decide +kernel
theorem dX16_alike_52 : decode cX16_alike 52 = .ok (.istore 4, 2) := by decide +kernel
theorem dX16_alike_54 : decode cX16_alike 54 = .ok (.iinc 5 1, 3) := by decide +kernel
theorem dX16_alike_57 : decode cX16_alike 57 = .ok (.goto (-51), 3) := by decide +kernel
theorem dX16_alike_60 : decode cX16_alike 60 = .ok (.iload 4, 2) := by decide +kernel
theorem dX16_alike_62 : decode cX16_alike 62 = .ok (.ireturn, 1) := by decide +kernel
theorem dX16_newMap_0 : decode cX16_newMap 0 = .ok (.aload_n 0, 1) := by decide +kernel
theorem dX16_newMap_1 : decode cX16_newMap 1 = .ok (.bipush 109, 2) := by decide +kernel
theorem dX16_newMap_3 : decode cX16_newMap 3 = .ok (.invokevirtual 106, 3) := by decide +kernel
theorem dX16_newMap_6 : decode cX16_newMap 6 = .ok (.istore_n 2, 1) := by decide +kernel
theorem dX16_newMap_7 : decode cX16_newMap 7 = .ok (.aload_n 0, 1) := by decide +kernel
theorem dX16_newMap_8 : decode cX16_newMap 8 = .ok (.getfield 13, 3) := by decide +kernel
theorem dX16_newMap_11 : decode cX16_newMap 11 = .ok (.iload_n 2, 1) := by decide +kernel
theorem dX16_newMap_12 : decode cX16_newMap 12 = .ok (.iload_n 1, 1) := by decide +kernel
theorem dX16_newMap_13 : decode cX16_newMap 13 = .ok (.iconst (-1), 1) := by decide +kernel
theorem dX16_newMap_14 : decode cX16_newMap 14 = .ok (.if_icmp .ne 7, 3) := by decide +kernel
theorem dX16_newMap_17 : decode cX16_newMap 17 = .ok (.iconst 0, 1) := by decide +kernel
theorem dX16_newMap_18 : decode cX16_newMap 18 = .ok (.goto 9, 3) := by decide +kernel
theorem dX16_newMap_21 : decode cX16_newMap 21 = .ok (.aload_n 0, 1) := by decide +kernel
theorem dX16_newMap_22 : decode cX16_newMap 22 = .ok (.getfield 13, 3) := by decide +kernel
theorem dX16_newMap_25 : decode cX16_newMap 25 = .ok (.iload_n 1, 1) := by decide +kernel
theorem dX16_newMap_26 : decode cX16_newMap 26 = .ok (.iaload, 1) := by decide +kernel
theorem dX16_newMap_27 : decode cX16_newMap 27 = .ok (.iastore, 1) := by decide +kernel
theorem dX16_newMap_28 : decode cX16_newMap 28 = .ok (.iconst 0, 1) := by decide +kernel
theorem dX16_newMap_29 : decode cX16_newMap 29 = .ok (.istore_n 3, 1) := by decide +kernel
theorem dX16_newMap_30 : decode cX16_newMap 30 = .ok (.iload_n 3, 1) := by decide +kernel
theorem dX16_newMap_31 : decode cX16_newMap 31 = .ok (.sipush 1000, 3) := by decide +kernel
theorem dX16_newMap_34 : decode cX16_newMap 34 = .ok (.if_icmp .ge 79, 3) := by decide +kernel
theorem dX16_newMap_37 : decode cX16_newMap 37 = .ok (.aload_n 0, 1) := by decide +kernel
theorem dX16_newMap_38 : decode cX16_newMap 38 = .ok (.getfield 28, 3) := by decide +kernel
theorem dX16_newMap_41 : decode cX16_newMap 41 = .ok (.sipush 1000, 3) := by decide +kernel
theorem dX16_newMap_44 : decode cX16_newMap 44 = .ok (.iload_n 2, 1) := by decide +kernel
theorem dX16_newMap_45 : decode cX16_newMap 45 = .ok (.imul, 1) := by decide +kernel
theorem dX16_newMap_46 : decode cX16_newMap 46 = .ok (.iload_n 3, 1) := by decide +kernel
theorem dX16_newMap_47 : decode cX16_newMap 47 = .ok (.iadd, 1) := by decide +kernel
theorem dX16_newMap_48 : decode cX16_newMap 48 = .ok (.iload_n 1, 1) := by decide +kernel
theorem dX16_newMap_49 : decode cX16_newMap 49 = .ok (.iconst (-1), 1) := by decide +kernel
theorem dX16_newMap_50 : decode cX16_newMap 50 = .ok (.if_icmp .eq 22, 3) := by decide +kernel
theorem dX16_newMap_53 : decode cX16_newMap 53 = .ok (.aload_n 0, 1) := by decide +kernel
theorem dX16_newMap_54 : decode cX16_newMap 54 = .ok (.getfield 28, 3) := by decide +kernel
theorem dX16_newMap_57 : decode cX16_newMap 57 = .ok (.sipush 1000, 3) := by decide +kernel
theorem dX16_newMap_60 : decode cX16_newMap 60 = .ok (.iload_n 1, 1) := by decide +kernel
theorem dX16_newMap_61 : decode cX16_newMap 61 = .ok (.imul, 1) := by decide +kernel
theorem dX16_newMap_62 : decode cX16_newMap 62 = .ok (.iload_n 3, 1) := by decide +kernel
theorem dX16_newMap_63 : decode cX16_newMap 63 = .ok (.iadd, 1) := by decide +kernel
theorem dX16_newMap_64 : decode cX16_newMap 64 = .ok (.baload, 1) := by decide +kernel
theorem dX16_newMap_65 : decode cX16_newMap 65 = .ok (.ifCond .eq 7, 3) := by decide +kernel
theorem dX16_newMap_68 : decode cX16_newMap 68 = .ok (.iconst 1, 1) := by decide +kernel
theorem dX16_newMap_69 : decode cX16_newMap 69 = .ok (.goto 4, 3) := by decide +kernel
theorem dX16_newMap_72 : decode cX16_newMap 72 = .ok (.iconst 0, 1) := by decide +kernel
theorem dX16_newMap_73 : decode cX16_newMap 73 = .ok (.bastore, 1) := by decide +kernel
theorem dX16_newMap_74 : decode cX16_newMap 74 = .ok (.aload_n 0, 1) := by decide +kernel
theorem dX16_newMap_75 : decode cX16_newMap 75 = .ok (.getfield 31, 3) := by decide +kernel
theorem dX16_newMap_78 : decode cX16_newMap 78 = .ok (.sipush 1000, 3) := by decide +kernel
theorem dX16_newMap_81 : decode cX16_newMap 81 = .ok (.iload_n 2, 1) := by decide +kernel
theorem dX16_newMap_82 : decode cX16_newMap 82 = .ok (.imul, 1) := by decide +kernel
theorem dX16_newMap_83 : decode cX16_newMap 83 = .ok (.iload_n 3, 1) := by decide +kernel
theorem dX16_newMap_84 : decode cX16_newMap 84 = .ok (.iadd, 1) := by decide +kernel
theorem dX16_newMap_85 : decode cX16_newMap 85 = .ok (.iload_n 1, 1) := by decide +kernel
theorem dX16_newMap_86 : decode cX16_newMap 86 = .ok (.iconst (-1), 1) := by decide +kernel
theorem dX16_newMap_87 : decode cX16_newMap 87 = .ok (.if_icmp .ne 7, 3) := by decide +kernel
theorem dX16_newMap_90 : decode cX16_newMap 90 = .ok (.iconst 0, 1) := by decide +kernel
theorem dX16_newMap_91 : decode cX16_newMap 91 = .ok (.goto 15, 3) := by decide +kernel
theorem dX16_newMap_94 : decode cX16_newMap 94 = .ok (.aload_n 0, 1) := by decide +kernel
theorem dX16_newMap_95 : decode cX16_newMap 95 = .ok (.getfield 31, 3) := by decide +kernel
theorem dX16_newMap_98 : decode cX16_newMap 98 = .ok (.sipush 1000, 3) := by decide +kernel
theorem dX16_newMap_101 : decode cX16_newMap 101 = .ok (.iload_n 1, 1) := by decide +kernel
theorem dX16_newMap_102 : decode cX16_newMap 102 = .ok (.imul, 1) := by decide +kernel
theorem dX16_newMap_103 : decode cX16_newMap 103 = .ok (.iload_n 3, 1) := by decide +kernel
theorem dX16_newMap_104 : decode cX16_newMap 104 = .ok (.iadd, 1) := by decide +kernel
theorem dX16_newMap_105 : decode cX16_newMap 105 = .ok (.iaload, 1) := by decide +kernel
theorem dX16_newMap_106 : decode cX16_newMap 106 = .ok (.iastore, 1) := by decide +kernel
theorem dX16_newMap_107 : decode cX16_newMap 107 = .ok (.iinc 3 1, 3) := by decide +kernel
theorem dX16_newMap_110 : decode cX16_newMap 110 = .ok (.goto (-80), 3) := by decide +kernel
theorem dX16_newMap_113 : decode cX16_newMap 113 = .ok (.iconst 0, 1) := by decide +kernel
theorem dX16_newMap_114 : decode cX16_newMap 114 = .ok (.istore_n 3, 1) := by decide +kernel
theorem dX16_newMap_115 : decode cX16_newMap 115 = .ok (.iload_n 3, 1) := by decide +kernel
theorem dX16_newMap_116 : decode cX16_newMap 116 = .ok (.sipush 341, 3) := by decide +kernel
theorem dX16_newMap_119 : decode cX16_newMap 119 = .ok (.if_icmp .ge 42, 3) := by decide +kernel
theorem dX16_newMap_122 : decode cX16_newMap 122 = .ok (.aload_n 0, 1) := by decide +kernel
theorem dX16_newMap_123 : decode cX16_newMap 123 = .ok (.getfield 34, 3) := by decide +kernel
theorem dX16_newMap_126 : decode cX16_newMap 126 = .ok (.sipush 341, 3) := by decide +kernel
theorem dX16_newMap_129 : decode cX16_newMap 129 = .ok (.iload_n 2, 1) := by decide +kernel
theorem dX16_newMap_130 : decode cX16_newMap 130 = .ok (.imul, 1) := by decide +kernel
theorem dX16_newMap_131 : decode cX16_newMap 131 = .ok (.iload_n 3, 1) := by decide +kernel
theorem dX16_newMap_132 : decode cX16_newMap 132 = .ok (.iadd, 1) := by decide +kernel
theorem dX16_newMap_133 : decode cX16_newMap 133 = .ok (.iload_n 1, 1) := by decide +kernel
theorem dX16_newMap_134 : decode cX16_newMap 134 = .ok (.iconst (-1), 1) := by decide +kernel
theorem dX16_newMap_135 : decode cX16_newMap 135 = .ok (.if_icmp .ne 7, 3) := by decide +kernel
theorem dX16_newMap_138 : decode cX16_newMap 138 = .ok (.iconst 0, 1) := by decide +kernel
theorem dX16_newMap_139 : decode cX16_newMap 139 = .ok (.goto 15, 3) := by decide +kernel
theorem dX16_newMap_142 : decode cX16_newMap 142 = .ok (.aload_n 0, 1) := by decide +kernel
theorem dX16_newMap_143 : decode cX16_newMap 143 = .ok (.getfield 34, 3) := by decide +kernel
theorem dX16_newMap_146 : decode cX16_newMap 146 = .ok (.sipush 341, 3) := by decide +kernel
theorem dX16_newMap_149 : decode cX16_newMap 149 = .ok (.iload_n 1, 1) := by decide +kernel
theorem dX16_newMap_150 : decode cX16_newMap 150 = .ok (.imul, 1) := by decide +kernel
theorem dX16_newMap_151 : decode cX16_newMap 151 = .ok (.iload_n 3, 1) := by decide +kernel
theorem dX16_newMap_152 : decode cX16_newMap 152 = .ok (.iadd, 1) := by decide +kernel
theorem dX16_newMap_153 : decode cX16_newMap 153 = .ok (.iaload, 1) := by decide +kernel
theorem dX16_newMap_154 : decode cX16_newMap 154 = .ok (.iastore, 1) := by decide +kernel
theorem dX16_newMap_155 : decode cX16_newMap 155 = .ok (.iinc 3 1, 3) := by decide +kernel
theorem dX16_newMap_158 : decode cX16_newMap 158 = .ok (.goto (-43), 3) := by decide +kernel
theorem dX16_newMap_161 : decode cX16_newMap 161 = .ok (.iload_n 2, 1) := by decide +kernel
theorem dX16_newMap_162 : decode cX16_newMap 162 = .ok (.ireturn, 1) := by decide +kernel
theorem dX16_map_0 : decode cX16_map 0 = .ok (.aload_n 0, 1) := by decide +kernel
theorem dX16_map_1 : decode cX16_map 1 = .ok (.iconst 0, 1) := by decide +kernel
theorem dX16_map_2 : decode cX16_map 2 = .ok (.putfield 63, 3) := by decide +kernel
theorem dX16_map_5 : decode cX16_map 5 = .ok (.aload_n 0, 1) := by decide +kernel
theorem dX16_map_6 : decode cX16_map 6 = .ok (.aload_n 0, 1) := by decide +kernel
theorem dX16_map_7 : decode cX16_map 7 = .ok (.invokevirtual 98, 3) := by decide +kernel
theorem dX16_map_10 : decode cX16_map 10 = .ok (.iconst 1, 1) := by decide +kernel
theorem dX16_map_11 : decode cX16_map 11 = .ok (.invokevirtual 102, 3) := by decide +kernel
theorem dX16_map_14 : decode cX16_map 14 = .ok (.ifCond .eq 5, 3) := by decide +kernel
theorem dX16_map_17 : decode cX16_map 17 = .ok (.iconst 0, 1) := by decide +kernel
theorem dX16_map_18 : decode cX16_map 18 = .ok (.ireturn, 1) := by decide +kernel
theorem dX16_map_19 : decode cX16_map 19 = .ok (.aload_n 0, 1) := by decide +kernel
theorem dX16_map_20 : decode cX16_map 20 = .ok (.iconst (-1), 1) := by decide +kernel
theorem dX16_map_21 : decode cX16_map 21 = .ok (.invokevirtual 141, 3) := by decide +kernel
theorem dX16_map_24 : decode cX16_map 24 = .ok (.istore_n 1, 1) := by decide +kernel
theorem dX16_map_25 : decode cX16_map 25 = .ok (.aload_n 0, 1) := by decide +kernel
theorem dX16_map_26 : decode cX16_map 26 = .ok (.getfield 34, 3) := by decide +kernel
theorem dX16_map_29 : decode cX16_map 29 = .ok (.sipush 341, 3) := by decide +kernel
theorem dX16_map_32 : decode cX16_map 32 = .ok (.iload_n 1, 1) := by decide +kernel
theorem dX16_map_33 : decode cX16_map 33 = .ok (.imul, 1) := by decide +kernel
theorem dX16_map_34 : decode cX16_map 34 = .ok (.aload_n 0, 1) := by decide +kernel
theorem dX16_map_35 : decode cX16_map 35 = .ok (.invokevirtual 94, 3) := by decide +kernel
theorem dX16_map_38 : decode cX16_map 38 = .ok (.iastore, 1) := by decide +kernel
theorem dX16_map_39 : decode cX16_map 39 = .ok (.iload_n 1, 1) := by decide +kernel
theorem dX16_map_40 : decode cX16_map 40 = .ok (.ireturn, 1) := by decide +kernel
theorem dX16_changeNodes_0 : decode cX16_changeNodes 0 = .ok (.iconst 0, 1) := by decide +kernel
theorem dX16_changeNodes_1 : decode cX16_changeNodes 1 = .ok (.istore_n 3, 1) := by decide +kernel
theorem dX16_changeNodes_2 : decode cX16_changeNodes 2 = .ok (.iload_n 3, 1) := by decide +kernel
theorem dX16_changeNodes_3 : decode cX16_changeNodes 3 = .ok (.iconst 5, 1) := by decide +kernel
theorem dX16_changeNodes_4 : decode cX16_changeNodes 4 = .ok (.if_icmp .ge 53, 3) := by decide +kernel
theorem dX16_changeNodes_7 : decode cX16_changeNodes 7 = .ok (.sipush 341, 3) := by decide +kernel
theorem dX16_changeNodes_10 : decode cX16_changeNodes 10 = .ok (.iload_n 1, 1) := by decide +kernel
theorem dX16_changeNodes_11 : decode cX16_changeNodes 11 = .ok (.imul, 1) := by decide +kernel
theorem dX16_changeNodes_12 : decode cX16_changeNodes 12 = .ok (.aload_n 0, 1) := by decide +kernel
theorem dX16_changeNodes_13 : decode cX16_changeNodes 13 = .ok (.iload_n 2, 1) := by decide +kernel
theorem dX16_changeNodes_14 : decode cX16_changeNodes 14 = .ok (.iload_n 3, 1) := by decide +kernel
theorem dX16_changeNodes_15 : decode cX16_changeNodes 15 = .ok (.invokevirtual 144, 3) := by decide +kernel
theorem dX16_changeNodes_18 : decode cX16_changeNodes 18 = .ok (.iadd, 1) := by decide +kernel
theorem dX16_changeNodes_19 : decode cX16_changeNodes 19 = .ok (.istore 4, 2) := by decide +kernel
theorem dX16_changeNodes_21 : decode cX16_changeNodes 21 = .ok (.aload_n 0, 1) := by decide +kernel
theorem dX16_changeNodes_22 : decode cX16_changeNodes 22 = .ok (.getfield 34, 3) := by decide +kernel
theorem dX16_changeNodes_25 : decode cX16_changeNodes 25 = .ok (.iload 4, 2) := by decide +kernel
theorem dX16_changeNodes_27 : decode cX16_changeNodes 27 = .ok (.iload_n 3, 1) := by decide +kernel
theorem dX16_changeNodes_28 : decode cX16_changeNodes 28 = .ok (.ifCond .eq 14, 3) := by decide +kernel
theorem dX16_changeNodes_31 : decode cX16_changeNodes 31 = .ok (.aload_n 0, 1) := by decide +kernel
theorem dX16_changeNodes_32 : decode cX16_changeNodes 32 = .ok (.iload_n 1, 1) := by decide +kernel
theorem dX16_changeNodes_33 : decode cX16_changeNodes 33 = .ok (.iload_n 2, 1) := by decide +kernel
theorem dX16_changeNodes_34 : decode cX16_changeNodes 34 = .ok (.iload_n 3, 1) := by decide +kernel
theorem dX16_changeNodes_35 : decode cX16_changeNodes 35 = .ok (.invokevirtual 147, 3) := by decide +kernel
theorem dX16_changeNodes_38 : decode cX16_changeNodes 38 = .ok (.iconst 1, 1) := by decide +kernel
theorem dX16_changeNodes_39 : decode cX16_changeNodes 39 = .ok (.if_icmp .le 10, 3) := by decide +kernel
theorem dX16_changeNodes_42 : decode cX16_changeNodes 42 = .ok (.aload_n 0, 1) := by decide +kernel
theorem dX16_changeNodes_43 : decode cX16_changeNodes 43 = .ok (.invokevirtual 94, 3) := by decide +kernel
theorem dX16_changeNodes_46 : decode cX16_changeNodes 46 = .ok (.goto 4, 3) := by decide +kernel
theorem dX16_changeNodes_49 : decode cX16_changeNodes 49 = .ok (.iconst 0, 1) := by decide +kernel
theorem dX16_changeNodes_50 : decode cX16_changeNodes 50 = .ok (.iastore, 1) := by decide +kernel
theorem dX16_changeNodes_51 : decode cX16_changeNodes 51 = .ok (.iinc 3 1, 3) := by decide +kernel
theorem dX16_changeNodes_54 : decode cX16_changeNodes 54 = .ok (.goto (-52), 3) := by decide +kernel
theorem dX16_changeNodes_57 : decode cX16_changeNodes 57 = .ok (.return_, 1) := by decide +kernel
theorem dX16_put_0 : decode cX16_put 0 = .ok (.aload_n 0, 1) := by decide +kernel
theorem dX16_put_1 : decode cX16_put 1 = .ok (.iconst 0, 1) := by decide +kernel
theorem dX16_put_2 : decode cX16_put 2 = .ok (.putfield 63, 3) := by decide +kernel
theorem dX16_put_5 : decode cX16_put 5 = .ok (.aload_n 0, 1) := by decide +kernel
theorem dX16_put_6 : decode cX16_put 6 = .ok (.aload_n 0, 1) := by decide +kernel
theorem dX16_put_7 : decode cX16_put 7 = .ok (.iload_n 1, 1) := by decide +kernel
theorem dX16_put_8 : decode cX16_put 8 = .ok (.invokevirtual 114, 3) := by decide +kernel
theorem dX16_put_11 : decode cX16_put 11 = .ok (.iconst 1, 1) := by decide +kernel
theorem dX16_put_12 : decode cX16_put 12 = .ok (.invokevirtual 102, 3) := by decide +kernel
theorem dX16_put_15 : decode cX16_put 15 = .ok (.ifCond .ne 96, 3) := by decide +kernel
theorem dX16_put_18 : decode cX16_put 18 = .ok (.aload_n 0, 1) := by decide +kernel
theorem dX16_put_19 : decode cX16_put 19 = .ok (.iload_n 2, 1) := by decide +kernel
theorem dX16_put_20 : decode cX16_put 20 = .ok (.iconst 0, 1) := by decide +kernel
theorem dX16_put_21 : decode cX16_put 21 = .ok (.sipush 999, 3) := by decide +kernel
theorem dX16_put_24 : decode cX16_put 24 = .ok (.invokestatic 70, 3) := by decide +kernel
theorem dX16_put_27 : decode cX16_put 27 = .ok (.ifCond .eq 10, 3) := by decide +kernel
theorem dX16_put_30 : decode cX16_put 30 = .ok (.iload_n 3, 1) := by decide +kernel
theorem dX16_put_31 : decode cX16_put 31 = .ok (.invokestatic 118, 3) := by decide +kernel
theorem dX16_put_34 : decode cX16_put 34 = .ok (.ifCond .eq 7, 3) := by decide +kernel
theorem dX16_put_37 : decode cX16_put 37 = .ok (.iconst 1, 1) := by decide +kernel
theorem dX16_put_38 : decode cX16_put 38 = .ok (.goto 4, 3) := by decide +kernel
theorem dX16_put_41 : decode cX16_put 41 = .ok (.iconst 0, 1) := by decide +kernel
theorem dX16_put_42 : decode cX16_put 42 = .ok (.iconst 2, 1) := by decide +kernel
theorem dX16_put_43 : decode cX16_put 43 = .ok (.invokevirtual 102, 3) := by decide +kernel
theorem dX16_put_46 : decode cX16_put 46 = .ok (.ifCond .ne 65, 3) := by decide +kernel
theorem dX16_put_49 : decode cX16_put 49 = .ok (.aload_n 0, 1) := by decide +kernel
theorem dX16_put_50 : decode cX16_put 50 = .ok (.aload_n 0, 1) := by decide +kernel
theorem dX16_put_51 : decode cX16_put 51 = .ok (.getfield 7, 3) := by decide +kernel
theorem dX16_put_54 : decode cX16_put 54 = .ok (.iload_n 1, 1) := by decide +kernel
theorem dX16_put_55 : decode cX16_put 55 = .ok (.caload, 1) := by decide +kernel
theorem dX16_put_56 : decode cX16_put 56 = .ok (.bipush 109, 2) := by decide +kernel
theorem dX16_put_58 : decode cX16_put 58 = .ok (.if_icmp .ne 29, 3) := by decide +kernel
theorem dX16_put_61 : decode cX16_put 61 = .ok (.aload_n 0, 1) := by decide +kernel
theorem dX16_put_62 : decode cX16_put 62 = .ok (.getfield 28, 3) := by decide +kernel
theorem dX16_put_65 : decode cX16_put 65 = .ok (.sipush 1000, 3) := by decide +kernel
theorem dX16_put_68 : decode cX16_put 68 = .ok (.iload_n 1, 1) := by decide +kernel
theorem dX16_put_69 : decode cX16_put 69 = .ok (.imul, 1) := by decide +kernel
theorem dX16_put_70 : decode cX16_put 70 = .ok (.iload_n 2, 1) := by decide +kernel
theorem dX16_put_71 : decode cX16_put 71 = .ok (.iadd, 1) := by decide +kernel
theorem dX16_put_72 : decode cX16_put 72 = .ok (.baload, 1) := by decide +kernel
theorem dX16_put_73 : decode cX16_put 73 = .ok (.ifCond .ne 18, 3) := by decide +kernel
theorem dX16_put_76 : decode cX16_put 76 = .ok (.aload_n 0, 1) := by decide +kernel
theorem dX16_put_77 : decode cX16_put 77 = .ok (.getfield 13, 3) := by decide +kernel
theorem dX16_put_80 : decode cX16_put 80 = .ok (.iload_n 1, 1) := by decide +kernel
theorem dX16_put_81 : decode cX16_put 81 = .ok (.iaload, 1) := by decide +kernel
theorem dX16_put_82 : decode cX16_put 82 = .ok (.bipush 40, 2) := by decide +kernel
theorem dX16_put_84 : decode cX16_put 84 = .ok (.if_icmp .ne 7, 3) := by decide +kernel
theorem dX16_put_87 : decode cX16_put 87 = .ok (.iconst 1, 1) := by decide +kernel
theorem dX16_put_88 : decode cX16_put 88 = .ok (.goto 4, 3) := by decide +kernel
theorem dX16_put_91 : decode cX16_put 91 = .ok (.iconst 0, 1) := by decide +kernel
theorem dX16_put_92 : decode cX16_put 92 = .ok (.iconst 3, 1) := by decide +kernel
theorem dX16_put_93 : decode cX16_put 93 = .ok (.invokevirtual 102, 3) := by decide +kernel
theorem dX16_put_96 : decode cX16_put 96 = .ok (.ifCond .ne 15, 3) := by decide +kernel
theorem dX16_put_99 : decode cX16_put 99 = .ok (.aload_n 0, 1) := by decide +kernel
theorem dX16_put_100 : decode cX16_put 100 = .ok (.aload_n 0, 1) := by decide +kernel
theorem dX16_put_101 : decode cX16_put 101 = .ok (.invokevirtual 98, 3) := by decide +kernel
theorem dX16_put_104 : decode cX16_put 104 = .ok (.iconst 4, 1) := by decide +kernel
theorem dX16_put_105 : decode cX16_put 105 = .ok (.invokevirtual 102, 3) := by decide +kernel
theorem dX16_put_108 : decode cX16_put 108 = .ok (.ifCond .eq 5, 3) := by decide +kernel
theorem dX16_put_111 : decode cX16_put 111 = .ok (.iconst 0, 1) := by decide +kernel
theorem dX16_put_112 : decode cX16_put 112 = .ok (.ireturn, 1) := by decide +kernel
theorem dX16_put_113 : decode cX16_put 113 = .ok (.aload_n 0, 1) := by decide +kernel
theorem dX16_put_114 : decode cX16_put 114 = .ok (.iload_n 1, 1) := by decide +kernel
theorem dX16_put_115 : decode cX16_put 115 = .ok (.invokevirtual 141, 3) := by decide +kernel
theorem dX16_put_118 : decode cX16_put 118 = .ok (.istore 4, 2) := by decide +kernel
theorem dX16_put_120 : decode cX16_put 120 = .ok (.sipush 1000, 3) := by decide +kernel
theorem dX16_put_123 : decode cX16_put 123 = .ok (.iload 4, 2) := by decide +kernel
theorem dX16_put_125 : decode cX16_put 125 = .ok (.imul, 1) := by decide +kernel
theorem dX16_put_126 : decode cX16_put 126 = .ok (.iload_n 2, 1) := by decide +kernel
theorem dX16_put_127 : decode cX16_put 127 = .ok (.iadd, 1) := by decide +kernel
theorem dX16_put_128 : decode cX16_put 128 = .ok (.istore 5, 2) := by decide +kernel
theorem dX16_put_130 : decode cX16_put 130 = .ok (.aload_n 0, 1) := by decide +kernel
theorem dX16_put_131 : decode cX16_put 131 = .ok (.getfield 28, 3) := by decide +kernel
theorem dX16_put_134 : decode cX16_put 134 = .ok (.iload 5, 2) := by decide +kernel
theorem dX16_put_136 : decode cX16_put 136 = .ok (.baload, 1) := by decide +kernel
theorem dX16_put_137 : decode cX16_put 137 = .ok (.ifCond .eq 18, 3) := by decide +kernel
theorem dX16_put_140 : decode cX16_put 140 = .ok (.aload_n 0, 1) := by decide +kernel
theorem dX16_put_141 : decode cX16_put 141 = .ok (.getfield 31, 3) := by decide +kernel
theorem dX16_put_144 : decode cX16_put 144 = .ok (.iload 5, 2) := by decide +kernel
theorem dX16_put_146 : decode cX16_put 146 = .ok (.iaload, 1) := by decide +kernel
theorem dX16_put_147 : decode cX16_put 147 = .ok (.iload_n 3, 1) := by decide +kernel
theorem dX16_put_148 : decode cX16_put 148 = .ok (.if_icmp .ne 7, 3) := by decide +kernel
theorem dX16_put_151 : decode cX16_put 151 = .ok (.iconst 1, 1) := by decide +kernel
theorem dX16_put_152 : decode cX16_put 152 = .ok (.goto 4, 3) := by decide +kernel
theorem dX16_put_155 : decode cX16_put 155 = .ok (.iconst 0, 1) := by decide +kernel
theorem dX16_put_156 : decode cX16_put 156 = .ok (.istore 6, 2) := by decide +kernel
theorem dX16_put_158 : decode cX16_put 158 = .ok (.aload_n 0, 1) := by decide +kernel
theorem dX16_put_159 : decode cX16_put 159 = .ok (.getfield 13, 3) := by decide +kernel
theorem dX16_put_162 : decode cX16_put 162 = .ok (.iload 4, 2) := by decide +kernel
theorem dX16_put_164 : decode cX16_put 164 = .ok (.dup2, 1) := by decide +kernel
theorem dX16_put_165 : decode cX16_put 165 = .ok (.iaload, 1) := by decide +kernel
theorem dX16_put_166 : decode cX16_put 166 = .ok (.aload_n 0, 1) := by decide +kernel
theorem dX16_put_167 : decode cX16_put 167 = .ok (.getfield 28, 3) := by decide +kernel
theorem dX16_put_170 : decode cX16_put 170 = .ok (.iload 5, 2) := by decide +kernel
theorem dX16_put_172 : decode cX16_put 172 = .ok (.baload, 1) := by decide +kernel
theorem dX16_put_173 : decode cX16_put 173 = .ok (.ifCond .eq 7, 3) := by decide +kernel
theorem dX16_put_176 : decode cX16_put 176 = .ok (.iconst 0, 1) := by decide +kernel
theorem dX16_put_177 : decode cX16_put 177 = .ok (.goto 4, 3) := by decide +kernel
theorem dX16_put_180 : decode cX16_put 180 = .ok (.iconst 1, 1) := by decide +kernel
theorem dX16_put_181 : decode cX16_put 181 = .ok (.iadd, 1) := by decide +kernel
theorem dX16_put_182 : decode cX16_put 182 = .ok (.iastore, 1) := by decide +kernel
theorem dX16_put_183 : decode cX16_put 183 = .ok (.aload_n 0, 1) := by decide +kernel
theorem dX16_put_184 : decode cX16_put 184 = .ok (.getfield 28, 3) := by decide +kernel
theorem dX16_put_187 : decode cX16_put 187 = .ok (.iload 5, 2) := by decide +kernel
theorem dX16_put_189 : decode cX16_put 189 = .ok (.iconst 1, 1) := by decide +kernel
theorem dX16_put_190 : decode cX16_put 190 = .ok (.bastore, 1) := by decide +kernel
theorem dX16_put_191 : decode cX16_put 191 = .ok (.aload_n 0, 1) := by decide +kernel
theorem dX16_put_192 : decode cX16_put 192 = .ok (.getfield 31, 3) := by decide +kernel
theorem dX16_put_195 : decode cX16_put 195 = .ok (.iload 5, 2) := by decide +kernel
theorem dX16_put_197 : decode cX16_put 197 = .ok (.iload_n 3, 1) := by decide +kernel
theorem dX16_put_198 : decode cX16_put 198 = .ok (.iastore, 1) := by decide +kernel
theorem dX16_put_199 : decode cX16_put 199 = .ok (.iload 6, 2) := by decide +kernel
theorem dX16_put_201 : decode cX16_put 201 = .ok (.ifCond .ne 10, 3) := by decide +kernel
theorem dX16_put_204 : decode cX16_put 204 = .ok (.aload_n 0, 1) := by decide +kernel
theorem dX16_put_205 : decode cX16_put 205 = .ok (.iload 4, 2) := by decide +kernel
theorem dX16_put_207 : decode cX16_put 207 = .ok (.iload_n 2, 1) := by decide +kernel
theorem dX16_put_208 : decode cX16_put 208 = .ok (.invokevirtual 150, 3) := by decide +kernel
theorem dX16_put_211 : decode cX16_put 211 = .ok (.iload 4, 2) := by decide +kernel
theorem dX16_put_213 : decode cX16_put 213 = .ok (.ireturn, 1) := by decide +kernel
theorem dX16_without_0 : decode cX16_without 0 = .ok (.aload_n 0, 1) := by decide +kernel
theorem dX16_without_1 : decode cX16_without 1 = .ok (.iconst 0, 1) := by decide +kernel
theorem dX16_without_2 : decode cX16_without 2 = .ok (.putfield 63, 3) := by decide +kernel
theorem dX16_without_5 : decode cX16_without 5 = .ok (.aload_n 0, 1) := by decide +kernel
theorem dX16_without_6 : decode cX16_without 6 = .ok (.aload_n 0, 1) := by decide +kernel
theorem dX16_without_7 : decode cX16_without 7 = .ok (.iload_n 1, 1) := by decide +kernel
theorem dX16_without_8 : decode cX16_without 8 = .ok (.invokevirtual 114, 3) := by decide +kernel
theorem dX16_without_11 : decode cX16_without 11 = .ok (.iconst 1, 1) := by decide +kernel
theorem dX16_without_12 : decode cX16_without 12 = .ok (.invokevirtual 102, 3) := by decide +kernel
theorem dX16_without_15 : decode cX16_without 15 = .ok (.ifCond .ne 78, 3) := by decide +kernel
theorem dX16_without_18 : decode cX16_without 18 = .ok (.aload_n 0, 1) := by decide +kernel
theorem dX16_without_19 : decode cX16_without 19 = .ok (.aload_n 0, 1) := by decide +kernel
theorem dX16_without_20 : decode cX16_without 20 = .ok (.getfield 7, 3) := by decide +kernel
theorem dX16_without_23 : decode cX16_without 23 = .ok (.iload_n 1, 1) := by decide +kernel
theorem dX16_without_24 : decode cX16_without 24 = .ok (.caload, 1) := by decide +kernel
theorem dX16_without_25 : decode cX16_without 25 = .ok (.bipush 109, 2) := by decide +kernel
theorem dX16_without_27 : decode cX16_without 27 = .ok (.if_icmp .eq 7, 3) := by decide +kernel
theorem dX16_without_30 : decode cX16_without 30 = .ok (.iconst 1, 1) := by decide +kernel
theorem dX16_without_31 : decode cX16_without 31 = .ok (.goto 4, 3) := by decide +kernel
theorem dX16_without_34 : decode cX16_without 34 = .ok (.iconst 0, 1) := by decide +kernel
theorem dX16_without_35 : decode cX16_without 35 = .ok (.iconst 2, 1) := by decide +kernel
theorem dX16_without_36 : decode cX16_without 36 = .ok (.invokevirtual 102, 3) := by decide +kernel
theorem dX16_without_39 : decode cX16_without 39 = .ok (.ifCond .ne 54, 3) := by decide +kernel
theorem dX16_without_42 : decode cX16_without 42 = .ok (.aload_n 0, 1) := by decide +kernel
theorem dX16_without_43 : decode cX16_without 43 = .ok (.iload_n 2, 1) := by decide +kernel
theorem dX16_without_44 : decode cX16_without 44 = .ok (.iconst 0, 1) := by decide +kernel
theorem dX16_without_45 : decode cX16_without 45 = .ok (.sipush 999, 3) := by decide +kernel
theorem dX16_without_48 : decode cX16_without 48 = .ok (.invokestatic 70, 3) := by decide +kernel
theorem dX16_without_51 : decode cX16_without 51 = .ok (.ifCond .eq 18, 3) := by decide +kernel
theorem dX16_without_54 : decode cX16_without 54 = .ok (.aload_n 0, 1) := by decide +kernel
theorem dX16_without_55 : decode cX16_without 55 = .ok (.getfield 28, 3) := by decide +kernel
theorem dX16_without_58 : decode cX16_without 58 = .ok (.sipush 1000, 3) := by decide +kernel
theorem dX16_without_61 : decode cX16_without 61 = .ok (.iload_n 1, 1) := by decide +kernel
theorem dX16_without_62 : decode cX16_without 62 = .ok (.imul, 1) := by decide +kernel
theorem dX16_without_63 : decode cX16_without 63 = .ok (.iload_n 2, 1) := by decide +kernel
theorem dX16_without_64 : decode cX16_without 64 = .ok (.iadd, 1) := by decide +kernel
theorem dX16_without_65 : decode cX16_without 65 = .ok (.baload, 1) := by decide +kernel
theorem dX16_without_66 : decode cX16_without 66 = .ok (.ifCond .ne 7, 3) := by decide +kernel
theorem dX16_without_69 : decode cX16_without 69 = .ok (.iconst 1, 1) := by decide +kernel
theorem dX16_without_70 : decode cX16_without 70 = .ok (.goto 4, 3) := by decide +kernel
theorem dX16_without_73 : decode cX16_without 73 = .ok (.iconst 0, 1) := by decide +kernel
theorem dX16_without_74 : decode cX16_without 74 = .ok (.iconst 3, 1) := by decide +kernel
theorem dX16_without_75 : decode cX16_without 75 = .ok (.invokevirtual 102, 3) := by decide +kernel
theorem dX16_without_78 : decode cX16_without 78 = .ok (.ifCond .ne 15, 3) := by decide +kernel
theorem dX16_without_81 : decode cX16_without 81 = .ok (.aload_n 0, 1) := by decide +kernel
theorem dX16_without_82 : decode cX16_without 82 = .ok (.aload_n 0, 1) := by decide +kernel
theorem dX16_without_83 : decode cX16_without 83 = .ok (.invokevirtual 98, 3) := by decide +kernel
theorem dX16_without_86 : decode cX16_without 86 = .ok (.iconst 4, 1) := by decide +kernel
theorem dX16_without_87 : decode cX16_without 87 = .ok (.invokevirtual 102, 3) := by decide +kernel
theorem dX16_without_90 : decode cX16_without 90 = .ok (.ifCond .eq 5, 3) := by decide +kernel
theorem dX16_without_93 : decode cX16_without 93 = .ok (.iconst 0, 1) := by decide +kernel
theorem dX16_without_94 : decode cX16_without 94 = .ok (.ireturn, 1) := by decide +kernel
theorem dX16_without_95 : decode cX16_without 95 = .ok (.aload_n 0, 1) := by decide +kernel
theorem dX16_without_96 : decode cX16_without 96 = .ok (.iload_n 1, 1) := by decide +kernel
theorem dX16_without_97 : decode cX16_without 97 = .ok (.invokevirtual 141, 3) := by decide +kernel
theorem dX16_without_100 : decode cX16_without 100 = .ok (.istore_n 3, 1) := by decide +kernel
theorem dX16_without_101 : decode cX16_without 101 = .ok (.aload_n 0, 1) := by decide +kernel
theorem dX16_without_102 : decode cX16_without 102 = .ok (.getfield 28, 3) := by decide +kernel
theorem dX16_without_105 : decode cX16_without 105 = .ok (.sipush 1000, 3) := by decide +kernel
theorem dX16_without_108 : decode cX16_without 108 = .ok (.iload_n 3, 1) := by decide +kernel
theorem dX16_without_109 : decode cX16_without 109 = .ok (.imul, 1) := by decide +kernel
theorem dX16_without_110 : decode cX16_without 110 = .ok (.iload_n 2, 1) := by decide +kernel
theorem dX16_without_111 : decode cX16_without 111 = .ok (.iadd, 1) := by decide +kernel
theorem dX16_without_112 : decode cX16_without 112 = .ok (.iconst 0, 1) := by decide +kernel
theorem dX16_without_113 : decode cX16_without 113 = .ok (.bastore, 1) := by decide +kernel
theorem dX16_without_114 : decode cX16_without 114 = .ok (.aload_n 0, 1) := by decide +kernel
theorem dX16_without_115 : decode cX16_without 115 = .ok (.getfield 31, 3) := by decide +kernel
theorem dX16_without_118 : decode cX16_without 118 = .ok (.sipush 1000, 3) := by decide +kernel
theorem dX16_without_121 : decode cX16_without 121 = .ok (.iload_n 3, 1) := by decide +kernel
theorem dX16_without_122 : decode cX16_without 122 = .ok (.imul, 1) := by decide +kernel
theorem dX16_without_123 : decode cX16_without 123 = .ok (.iload_n 2, 1) := by decide +kernel
theorem dX16_without_124 : decode cX16_without 124 = .ok (.iadd, 1) := by decide +kernel
theorem dX16_without_125 : decode cX16_without 125 = .ok (.iconst 0, 1) := by decide +kernel
theorem dX16_without_126 : decode cX16_without 126 = .ok (.iastore, 1) := by decide +kernel
theorem dX16_without_127 : decode cX16_without 127 = .ok (.aload_n 0, 1) := by decide +kernel
theorem dX16_without_128 : decode cX16_without 128 = .ok (.getfield 13, 3) := by decide +kernel
theorem dX16_without_131 : decode cX16_without 131 = .ok (.iload_n 3, 1) := by decide +kernel
theorem dX16_without_132 : decode cX16_without 132 = .ok (.dup2, 1) := by decide +kernel
theorem dX16_without_133 : decode cX16_without 133 = .ok (.iaload, 1) := by decide +kernel
theorem dX16_without_134 : decode cX16_without 134 = .ok (.iconst 1, 1) := by decide +kernel
theorem dX16_without_135 : decode cX16_without 135 = .ok (.isub, 1) := by decide +kernel
theorem dX16_without_136 : decode cX16_without 136 = .ok (.iastore, 1) := by decide +kernel
theorem dX16_without_137 : decode cX16_without 137 = .ok (.aload_n 0, 1) := by decide +kernel
theorem dX16_without_138 : decode cX16_without 138 = .ok (.iload_n 3, 1) := by decide +kernel
theorem dX16_without_139 : decode cX16_without 139 = .ok (.iload_n 2, 1) := by decide +kernel
theorem dX16_without_140 : decode cX16_without 140 = .ok (.invokevirtual 150, 3) := by decide +kernel
theorem dX16_without_143 : decode cX16_without 143 = .ok (.iload_n 3, 1) := by decide +kernel
theorem dX16_without_144 : decode cX16_without 144 = .ok (.ireturn, 1) := by decide +kernel
theorem dX16_hasAt_0 : decode cX16_hasAt 0 = .ok (.aload_n 0, 1) := by decide +kernel
theorem dX16_hasAt_1 : decode cX16_hasAt 1 = .ok (.getfield 7, 3) := by decide +kernel
theorem dX16_hasAt_4 : decode cX16_hasAt 4 = .ok (.iload_n 1, 1) := by decide +kernel
theorem dX16_hasAt_5 : decode cX16_hasAt 5 = .ok (.caload, 1) := by decide +kernel
theorem dX16_hasAt_6 : decode cX16_hasAt 6 = .ok (.bipush 109, 2) := by decide +kernel
theorem dX16_hasAt_8 : decode cX16_hasAt 8 = .ok (.if_icmp .ne 37, 3) := by decide +kernel
theorem dX16_hasAt_11 : decode cX16_hasAt 11 = .ok (.iload_n 2, 1) := by decide +kernel
theorem dX16_hasAt_12 : decode cX16_hasAt 12 = .ok (.iconst 0, 1) := by decide +kernel
theorem dX16_hasAt_13 : decode cX16_hasAt 13 = .ok (.sipush 999, 3) := by decide +kernel
theorem dX16_hasAt_16 : decode cX16_hasAt 16 = .ok (.invokestatic 70, 3) := by decide +kernel
theorem dX16_hasAt_19 : decode cX16_hasAt 19 = .ok (.ifCond .eq 22, 3) := by decide +kernel
theorem dX16_hasAt_22 : decode cX16_hasAt 22 = .ok (.aload_n 0, 1) := by decide +kernel
theorem dX16_hasAt_23 : decode cX16_hasAt 23 = .ok (.getfield 28, 3) := by decide +kernel
theorem dX16_hasAt_26 : decode cX16_hasAt 26 = .ok (.sipush 1000, 3) := by decide +kernel
theorem dX16_hasAt_29 : decode cX16_hasAt 29 = .ok (.iload_n 1, 1) := by decide +kernel
theorem dX16_hasAt_30 : decode cX16_hasAt 30 = .ok (.imul, 1) := by decide +kernel
theorem dX16_hasAt_31 : decode cX16_hasAt 31 = .ok (.iload_n 2, 1) := by decide +kernel
theorem dX16_hasAt_32 : decode cX16_hasAt 32 = .ok (.iadd, 1) := by decide +kernel
theorem dX16_hasAt_33 : decode cX16_hasAt 33 = .ok (.baload, 1) := by decide +kernel
theorem dX16_hasAt_34 : decode cX16_hasAt 34 = .ok (.ifCond .eq 7, 3) := by decide +kernel
theorem dX16_hasAt_37 : decode cX16_hasAt 37 = .ok (.iconst 1, 1) := by decide +kernel
theorem dX16_hasAt_38 : decode cX16_hasAt 38 = .ok (.goto 20, 3) := by decide +kernel
theorem dX16_hasAt_41 : decode cX16_hasAt 41 = .ok (.iconst 0, 1) := by decide +kernel
theorem dX16_hasAt_42 : decode cX16_hasAt 42 = .ok (.goto 16, 3) := by decide +kernel
theorem dX16_hasAt_45 : decode cX16_hasAt 45 = .ok (.iload_n 2, 1) := by decide +kernel
theorem dX16_hasAt_46 : decode cX16_hasAt 46 = .ok (.iconst 0, 1) := by decide +kernel
theorem dX16_hasAt_47 : decode cX16_hasAt 47 = .ok (.aload_n 0, 1) := by decide +kernel
theorem dX16_hasAt_48 : decode cX16_hasAt 48 = .ok (.getfield 13, 3) := by decide +kernel
theorem dX16_hasAt_51 : decode cX16_hasAt 51 = .ok (.iload_n 1, 1) := by decide +kernel
theorem dX16_hasAt_52 : decode cX16_hasAt 52 = .ok (.iaload, 1) := by decide +kernel
theorem dX16_hasAt_53 : decode cX16_hasAt 53 = .ok (.iconst 1, 1) := by decide +kernel
theorem dX16_hasAt_54 : decode cX16_hasAt 54 = .ok (.isub, 1) := by decide +kernel
theorem dX16_hasAt_55 : decode cX16_hasAt 55 = .ok (.invokestatic 70, 3) := by decide +kernel
theorem dX16_hasAt_58 : decode cX16_hasAt 58 = .ok (.ireturn, 1) := by decide +kernel
theorem dX16_get_0 : decode cX16_get 0 = .ok (.aload_n 0, 1) := by decide +kernel
theorem dX16_get_1 : decode cX16_get 1 = .ok (.iconst 0, 1) := by decide +kernel
theorem dX16_get_2 : decode cX16_get 2 = .ok (.putfield 63, 3) := by decide +kernel
theorem dX16_get_5 : decode cX16_get 5 = .ok (.aload_n 0, 1) := by decide +kernel
theorem dX16_get_6 : decode cX16_get 6 = .ok (.aload_n 0, 1) := by decide +kernel
theorem dX16_get_7 : decode cX16_get 7 = .ok (.iload_n 1, 1) := by decide +kernel
theorem dX16_get_8 : decode cX16_get 8 = .ok (.invokevirtual 114, 3) := by decide +kernel
theorem dX16_get_11 : decode cX16_get 11 = .ok (.iconst 1, 1) := by decide +kernel
theorem dX16_get_12 : decode cX16_get 12 = .ok (.invokevirtual 102, 3) := by decide +kernel
theorem dX16_get_15 : decode cX16_get 15 = .ok (.ifCond .ne 25, 3) := by decide +kernel
theorem dX16_get_18 : decode cX16_get 18 = .ok (.aload_n 0, 1) := by decide +kernel
theorem dX16_get_19 : decode cX16_get 19 = .ok (.aload_n 0, 1) := by decide +kernel
theorem dX16_get_20 : decode cX16_get 20 = .ok (.iload_n 1, 1) := by decide +kernel
theorem dX16_get_21 : decode cX16_get 21 = .ok (.iload_n 2, 1) := by decide +kernel
theorem dX16_get_22 : decode cX16_get 22 = .ok (.invokevirtual 153, 3) := by decide +kernel
theorem dX16_get_25 : decode cX16_get 25 = .ok (.ifCond .ne 7, 3) := by decide +kernel
theorem dX16_get_28 : decode cX16_get 28 = .ok (.iconst 1, 1) := by decide +kernel
theorem dX16_get_29 : decode cX16_get 29 = .ok (.goto 4, 3) := by decide +kernel
theorem dX16_get_32 : decode cX16_get 32 = .ok (.iconst 0, 1) := by decide +kernel
theorem dX16_get_33 : decode cX16_get 33 = .ok (.iconst 2, 1) := by decide +kernel
theorem dX16_get_34 : decode cX16_get 34 = .ok (.invokevirtual 102, 3) := by decide +kernel
theorem dX16_get_37 : decode cX16_get 37 = .ok (.ifCond .eq 5, 3) := by decide +kernel
theorem dX16_get_40 : decode cX16_get 40 = .ok (.iconst 0, 1) := by decide +kernel
theorem dX16_get_41 : decode cX16_get 41 = .ok (.ireturn, 1) := by decide +kernel
theorem dX16_get_42 : decode cX16_get 42 = .ok (.aload_n 0, 1) := by decide +kernel
theorem dX16_get_43 : decode cX16_get 43 = .ok (.getfield 7, 3) := by decide +kernel
theorem dX16_get_46 : decode cX16_get 46 = .ok (.iload_n 1, 1) := by decide +kernel
theorem dX16_get_47 : decode cX16_get 47 = .ok (.caload, 1) := by decide +kernel
theorem dX16_get_48 : decode cX16_get 48 = .ok (.bipush 109, 2) := by decide +kernel
theorem dX16_get_50 : decode cX16_get 50 = .ok (.if_icmp .ne 18, 3) := by decide +kernel
theorem dX16_get_53 : decode cX16_get 53 = .ok (.aload_n 0, 1) := by decide +kernel
theorem dX16_get_54 : decode cX16_get 54 = .ok (.getfield 31, 3) := by decide +kernel
theorem dX16_get_57 : decode cX16_get 57 = .ok (.sipush 1000, 3) := by decide +kernel
theorem dX16_get_60 : decode cX16_get 60 = .ok (.iload_n 1, 1) := by decide +kernel
theorem dX16_get_61 : decode cX16_get 61 = .ok (.imul, 1) := by decide +kernel
theorem dX16_get_62 : decode cX16_get 62 = .ok (.iload_n 2, 1) := by decide +kernel
theorem dX16_get_63 : decode cX16_get 63 = .ok (.iadd, 1) := by decide +kernel
theorem dX16_get_64 : decode cX16_get 64 = .ok (.iaload, 1) := by decide +kernel
theorem dX16_get_65 : decode cX16_get 65 = .ok (.goto 14, 3) := by decide +kernel
theorem dX16_get_68 : decode cX16_get 68 = .ok (.aload_n 0, 1) := by decide +kernel
theorem dX16_get_69 : decode cX16_get 69 = .ok (.getfield 17, 3) := by decide +kernel
theorem dX16_get_72 : decode cX16_get 72 = .ok (.bipush 64, 2) := by decide +kernel
theorem dX16_get_74 : decode cX16_get 74 = .ok (.iload_n 1, 1) := by decide +kernel
theorem dX16_get_75 : decode cX16_get 75 = .ok (.imul, 1) := by decide +kernel
theorem dX16_get_76 : decode cX16_get 76 = .ok (.iload_n 2, 1) := by decide +kernel
theorem dX16_get_77 : decode cX16_get 77 = .ok (.iadd, 1) := by decide +kernel
theorem dX16_get_78 : decode cX16_get 78 = .ok (.iaload, 1) := by decide +kernel
theorem dX16_get_79 : decode cX16_get 79 = .ok (.ireturn, 1) := by decide +kernel
theorem dX16_getPlain_0 : decode cX16_getPlain 0 = .ok (.aload_n 0, 1) := by decide +kernel
theorem dX16_getPlain_1 : decode cX16_getPlain 1 = .ok (.iload_n 1, 1) := by decide +kernel
theorem dX16_getPlain_2 : decode cX16_getPlain 2 = .ok (.iload_n 2, 1) := by decide +kernel
theorem dX16_getPlain_3 : decode cX16_getPlain 3 = .ok (.invokevirtual 156, 3) := by decide +kernel
theorem dX16_getPlain_6 : decode cX16_getPlain 6 = .ok (.ireturn, 1) := by decide +kernel
theorem dX16_levelOf_0 : decode cX16_levelOf 0 = .ok (.aload_n 0, 1) := by decide +kernel
theorem dX16_levelOf_1 : decode cX16_levelOf 1 = .ok (.iconst 0, 1) := by decide +kernel
theorem dX16_levelOf_2 : decode cX16_levelOf 2 = .ok (.putfield 63, 3) := by decide +kernel
theorem dX16_levelOf_5 : decode cX16_levelOf 5 = .ok (.aload_n 0, 1) := by decide +kernel
theorem dX16_levelOf_6 : decode cX16_levelOf 6 = .ok (.aload_n 0, 1) := by decide +kernel
theorem dX16_levelOf_7 : decode cX16_levelOf 7 = .ok (.iload_n 1, 1) := by decide +kernel
theorem dX16_levelOf_8 : decode cX16_levelOf 8 = .ok (.invokevirtual 114, 3) := by decide +kernel
theorem dX16_levelOf_11 : decode cX16_levelOf 11 = .ok (.iconst 1, 1) := by decide +kernel
theorem dX16_levelOf_12 : decode cX16_levelOf 12 = .ok (.invokevirtual 102, 3) := by decide +kernel
theorem dX16_levelOf_15 : decode cX16_levelOf 15 = .ok (.ifCond .ne 49, 3) := by decide +kernel
theorem dX16_levelOf_18 : decode cX16_levelOf 18 = .ok (.aload_n 0, 1) := by decide +kernel
theorem dX16_levelOf_19 : decode cX16_levelOf 19 = .ok (.aload_n 0, 1) := by decide +kernel
theorem dX16_levelOf_20 : decode cX16_levelOf 20 = .ok (.getfield 7, 3) := by decide +kernel
theorem dX16_levelOf_23 : decode cX16_levelOf 23 = .ok (.iload_n 1, 1) := by decide +kernel
theorem dX16_levelOf_24 : decode cX16_levelOf 24 = .ok (.caload, 1) := by decide +kernel
theorem dX16_levelOf_25 : decode cX16_levelOf 25 = .ok (.bipush 109, 2) := by decide +kernel
theorem dX16_levelOf_27 : decode cX16_levelOf 27 = .ok (.if_icmp .eq 7, 3) := by decide +kernel
theorem dX16_levelOf_30 : decode cX16_levelOf 30 = .ok (.iconst 1, 1) := by decide +kernel
theorem dX16_levelOf_31 : decode cX16_levelOf 31 = .ok (.goto 4, 3) := by decide +kernel
theorem dX16_levelOf_34 : decode cX16_levelOf 34 = .ok (.iconst 0, 1) := by decide +kernel
theorem dX16_levelOf_35 : decode cX16_levelOf 35 = .ok (.iconst 2, 1) := by decide +kernel
theorem dX16_levelOf_36 : decode cX16_levelOf 36 = .ok (.invokevirtual 102, 3) := by decide +kernel
theorem dX16_levelOf_39 : decode cX16_levelOf 39 = .ok (.ifCond .ne 25, 3) := by decide +kernel
theorem dX16_levelOf_42 : decode cX16_levelOf 42 = .ok (.aload_n 0, 1) := by decide +kernel
theorem dX16_levelOf_43 : decode cX16_levelOf 43 = .ok (.aload_n 0, 1) := by decide +kernel
theorem dX16_levelOf_44 : decode cX16_levelOf 44 = .ok (.iload_n 1, 1) := by decide +kernel
theorem dX16_levelOf_45 : decode cX16_levelOf 45 = .ok (.iload_n 2, 1) := by decide +kernel
theorem dX16_levelOf_46 : decode cX16_levelOf 46 = .ok (.invokevirtual 153, 3) := by decide +kernel
theorem dX16_levelOf_49 : decode cX16_levelOf 49 = .ok (.ifCond .ne 7, 3) := by decide +kernel
theorem dX16_levelOf_52 : decode cX16_levelOf 52 = .ok (.iconst 1, 1) := by decide +kernel
theorem dX16_levelOf_53 : decode cX16_levelOf 53 = .ok (.goto 4, 3) := by decide +kernel
theorem dX16_levelOf_56 : decode cX16_levelOf 56 = .ok (.iconst 0, 1) := by decide +kernel
theorem dX16_levelOf_57 : decode cX16_levelOf 57 = .ok (.iconst 3, 1) := by decide +kernel
theorem dX16_levelOf_58 : decode cX16_levelOf 58 = .ok (.invokevirtual 102, 3) := by decide +kernel
theorem dX16_levelOf_61 : decode cX16_levelOf 61 = .ok (.ifCond .eq 5, 3) := by decide +kernel
theorem dX16_levelOf_64 : decode cX16_levelOf 64 = .ok (.iconst 0, 1) := by decide +kernel
theorem dX16_levelOf_65 : decode cX16_levelOf 65 = .ok (.ireturn, 1) := by decide +kernel
theorem dX16_levelOf_66 : decode cX16_levelOf 66 = .ok (.iconst 0, 1) := by decide +kernel
theorem dX16_levelOf_67 : decode cX16_levelOf 67 = .ok (.istore_n 3, 1) := by decide +kernel
theorem dX16_levelOf_68 : decode cX16_levelOf 68 = .ok (.iload_n 3, 1) := by decide +kernel
theorem dX16_levelOf_69 : decode cX16_levelOf 69 = .ok (.iconst 4, 1) := by decide +kernel
theorem dX16_levelOf_70 : decode cX16_levelOf 70 = .ok (.if_icmp .ge 22, 3) := by decide +kernel
theorem dX16_levelOf_73 : decode cX16_levelOf 73 = .ok (.aload_n 0, 1) := by decide +kernel
theorem dX16_levelOf_74 : decode cX16_levelOf 74 = .ok (.iload_n 1, 1) := by decide +kernel
theorem dX16_levelOf_75 : decode cX16_levelOf 75 = .ok (.iload_n 2, 1) := by decide +kernel
theorem dX16_levelOf_76 : decode cX16_levelOf 76 = .ok (.iload_n 3, 1) := by decide +kernel
theorem dX16_levelOf_77 : decode cX16_levelOf 77 = .ok (.iconst 1, 1) := by decide +kernel
theorem dX16_levelOf_78 : decode cX16_levelOf 78 = .ok (.iadd, 1) := by decide +kernel
theorem dX16_levelOf_79 : decode cX16_levelOf 79 = .ok (.invokevirtual 147, 3) := by decide +kernel
theorem dX16_levelOf_82 : decode cX16_levelOf 82 = .ok (.iconst 1, 1) := by decide +kernel
theorem dX16_levelOf_83 : decode cX16_levelOf 83 = .ok (.if_icmp .le 9, 3) := by decide +kernel
theorem dX16_levelOf_86 : decode cX16_levelOf 86 = .ok (.iinc 3 1, 3) := by decide +kernel
theorem dX16_levelOf_89 : decode cX16_levelOf 89 = .ok (.goto (-21), 3) := by decide +kernel
theorem dX16_levelOf_92 : decode cX16_levelOf 92 = .ok (.iload_n 3, 1) := by decide +kernel
theorem dX16_levelOf_93 : decode cX16_levelOf 93 = .ok (.ireturn, 1) := by decide +kernel
theorem dX16_size_0 : decode cX16_size 0 = .ok (.aload_n 0, 1) := by decide +kernel
theorem dX16_size_1 : decode cX16_size 1 = .ok (.iconst 0, 1) := by decide +kernel
theorem dX16_size_2 : decode cX16_size 2 = .ok (.putfield 63, 3) := by decide +kernel
theorem dX16_size_5 : decode cX16_size 5 = .ok (.aload_n 0, 1) := by decide +kernel
theorem dX16_size_6 : decode cX16_size 6 = .ok (.aload_n 0, 1) := by decide +kernel
theorem dX16_size_7 : decode cX16_size 7 = .ok (.iload_n 1, 1) := by decide +kernel
theorem dX16_size_8 : decode cX16_size 8 = .ok (.invokevirtual 114, 3) := by decide +kernel
theorem dX16_size_11 : decode cX16_size 11 = .ok (.iconst 1, 1) := by decide +kernel
theorem dX16_size_12 : decode cX16_size 12 = .ok (.invokevirtual 102, 3) := by decide +kernel
theorem dX16_size_15 : decode cX16_size 15 = .ok (.ifCond .eq 7, 3) := by decide +kernel
theorem dX16_size_18 : decode cX16_size 18 = .ok (.iconst 0, 1) := by decide +kernel
theorem dX16_size_19 : decode cX16_size 19 = .ok (.goto 9, 3) := by decide +kernel
theorem dX16_size_22 : decode cX16_size 22 = .ok (.aload_n 0, 1) := by decide +kernel
theorem dX16_size_23 : decode cX16_size 23 = .ok (.getfield 13, 3) := by decide +kernel
theorem dX16_size_26 : decode cX16_size 26 = .ok (.iload_n 1, 1) := by decide +kernel
theorem dX16_size_27 : decode cX16_size 27 = .ok (.iaload, 1) := by decide +kernel
theorem dX16_size_28 : decode cX16_size 28 = .ok (.ireturn, 1) := by decide +kernel
theorem dX16_slots_0 : decode cX16_slots 0 = .ok (.aload_n 0, 1) := by decide +kernel
theorem dX16_slots_1 : decode cX16_slots 1 = .ok (.getfield 7, 3) := by decide +kernel
theorem dX16_slots_4 : decode cX16_slots 4 = .ok (.iload_n 1, 1) := by decide +kernel
theorem dX16_slots_5 : decode cX16_slots 5 = .ok (.caload, 1) := by decide +kernel
theorem dX16_slots_6 : decode cX16_slots 6 = .ok (.bipush 109, 2) := by decide +kernel
theorem dX16_slots_8 : decode cX16_slots 8 = .ok (.if_icmp .ne 9, 3) := by decide +kernel
theorem dX16_slots_11 : decode cX16_slots 11 = .ok (.sipush 341, 3) := by decide +kernel
theorem dX16_slots_14 : decode cX16_slots 14 = .ok (.goto 5, 3) := by decide +kernel
theorem dX16_slots_17 : decode cX16_slots 17 = .ok (.bipush 21, 2) := by decide +kernel
theorem dX16_slots_19 : decode cX16_slots 19 = .ok (.ireturn, 1) := by decide +kernel
theorem dX16_nodeAt_0 : decode cX16_nodeAt 0 = .ok (.aload_n 0, 1) := by decide +kernel
theorem dX16_nodeAt_1 : decode cX16_nodeAt 1 = .ok (.getfield 7, 3) := by decide +kernel
theorem dX16_nodeAt_4 : decode cX16_nodeAt 4 = .ok (.iload_n 1, 1) := by decide +kernel
theorem dX16_nodeAt_5 : decode cX16_nodeAt 5 = .ok (.caload, 1) := by decide +kernel
theorem dX16_nodeAt_6 : decode cX16_nodeAt 6 = .ok (.bipush 109, 2) := by decide +kernel
theorem dX16_nodeAt_8 : decode cX16_nodeAt 8 = .ok (.if_icmp .ne 16, 3) := by decide +kernel
theorem dX16_nodeAt_11 : decode cX16_nodeAt 11 = .ok (.aload_n 0, 1) := by decide +kernel
theorem dX16_nodeAt_12 : decode cX16_nodeAt 12 = .ok (.getfield 34, 3) := by decide +kernel
theorem dX16_nodeAt_15 : decode cX16_nodeAt 15 = .ok (.sipush 341, 3) := by decide +kernel
theorem dX16_nodeAt_18 : decode cX16_nodeAt 18 = .ok (.iload_n 1, 1) := by decide +kernel
theorem dX16_nodeAt_19 : decode cX16_nodeAt 19 = .ok (.imul, 1) := by decide +kernel
theorem dX16_nodeAt_20 : decode cX16_nodeAt 20 = .ok (.iload_n 2, 1) := by decide +kernel
theorem dX16_nodeAt_21 : decode cX16_nodeAt 21 = .ok (.iadd, 1) := by decide +kernel
theorem dX16_nodeAt_22 : decode cX16_nodeAt 22 = .ok (.iaload, 1) := by decide +kernel
theorem dX16_nodeAt_23 : decode cX16_nodeAt 23 = .ok (.ireturn, 1) := by decide +kernel
theorem dX16_nodeAt_24 : decode cX16_nodeAt 24 = .ok (.aload_n 0, 1) := by decide +kernel
theorem dX16_nodeAt_25 : decode cX16_nodeAt 25 = .ok (.iload_n 1, 1) := by decide +kernel
theorem dX16_nodeAt_26 : decode cX16_nodeAt 26 = .ok (.invokevirtual 124, 3) := by decide +kernel
theorem dX16_nodeAt_29 : decode cX16_nodeAt 29 = .ok (.ifCond .eq 30, 3) := by decide +kernel
theorem dX16_nodeAt_32 : decode cX16_nodeAt 32 = .ok (.iload_n 2, 1) := by decide +kernel
theorem dX16_nodeAt_33 : decode cX16_nodeAt 33 = .ok (.aload_n 0, 1) := by decide +kernel
theorem dX16_nodeAt_34 : decode cX16_nodeAt 34 = .ok (.getfield 13, 3) := by decide +kernel
theorem dX16_nodeAt_37 : decode cX16_nodeAt 37 = .ok (.iload_n 1, 1) := by decide +kernel
theorem dX16_nodeAt_38 : decode cX16_nodeAt 38 = .ok (.iaload, 1) := by decide +kernel
theorem dX16_nodeAt_39 : decode cX16_nodeAt 39 = .ok (.invokestatic 87, 3) := by decide +kernel
theorem dX16_nodeAt_42 : decode cX16_nodeAt 42 = .ok (.ifCond .eq 17, 3) := by decide +kernel
theorem dX16_nodeAt_45 : decode cX16_nodeAt 45 = .ok (.aload_n 0, 1) := by decide +kernel
theorem dX16_nodeAt_46 : decode cX16_nodeAt 46 = .ok (.getfield 20, 3) := by decide +kernel
theorem dX16_nodeAt_49 : decode cX16_nodeAt 49 = .ok (.bipush 21, 2) := by decide +kernel
theorem dX16_nodeAt_51 : decode cX16_nodeAt 51 = .ok (.iload_n 1, 1) := by decide +kernel
theorem dX16_nodeAt_52 : decode cX16_nodeAt 52 = .ok (.imul, 1) := by decide +kernel
theorem dX16_nodeAt_53 : decode cX16_nodeAt 53 = .ok (.iload_n 2, 1) := by decide +kernel
theorem dX16_nodeAt_54 : decode cX16_nodeAt 54 = .ok (.iadd, 1) := by decide +kernel
theorem dX16_nodeAt_55 : decode cX16_nodeAt 55 = .ok (.iaload, 1) := by decide +kernel
theorem dX16_nodeAt_56 : decode cX16_nodeAt 56 = .ok (.goto 4, 3) := by decide +kernel
theorem dX16_nodeAt_59 : decode cX16_nodeAt 59 = .ok (.iconst 0, 1) := by decide +kernel
theorem dX16_nodeAt_60 : decode cX16_nodeAt 60 = .ok (.ireturn, 1) := by decide +kernel
theorem dX16_nodesOf_0 : decode cX16_nodesOf 0 = .ok (.iconst 0, 1) := by decide +kernel
theorem dX16_nodesOf_1 : decode cX16_nodesOf 1 = .ok (.istore_n 2, 1) := by decide +kernel
theorem dX16_nodesOf_2 : decode cX16_nodesOf 2 = .ok (.iconst 0, 1) := by decide +kernel
theorem dX16_nodesOf_3 : decode cX16_nodesOf 3 = .ok (.istore_n 3, 1) := by decide +kernel
theorem dX16_nodesOf_4 : decode cX16_nodesOf 4 = .ok (.iload_n 3, 1) := by decide +kernel
theorem dX16_nodesOf_5 : decode cX16_nodesOf 5 = .ok (.aload_n 0, 1) := by decide +kernel
theorem dX16_nodesOf_6 : decode cX16_nodesOf 6 = .ok (.iload_n 1, 1) := by decide +kernel
theorem dX16_nodesOf_7 : decode cX16_nodesOf 7 = .ok (.invokevirtual 159, 3) := by decide +kernel
theorem dX16_nodesOf_10 : decode cX16_nodesOf 10 = .ok (.if_icmp .ge 26, 3) := by decide +kernel
theorem dX16_nodesOf_13 : decode cX16_nodesOf 13 = .ok (.iload_n 2, 1) := by decide +kernel
theorem dX16_nodesOf_14 : decode cX16_nodesOf 14 = .ok (.aload_n 0, 1) := by decide +kernel
theorem dX16_nodesOf_15 : decode cX16_nodesOf 15 = .ok (.iload_n 1, 1) := by decide +kernel
theorem dX16_nodesOf_16 : decode cX16_nodesOf 16 = .ok (.iload_n 3, 1) := by decide +kernel
theorem dX16_nodesOf_17 : decode cX16_nodesOf 17 = .ok (.invokevirtual 162, 3) := by decide +kernel
theorem dX16_nodesOf_20 : decode cX16_nodesOf 20 = .ok (.ifCond .le 7, 3) := by decide +kernel
theorem dX16_nodesOf_23 : decode cX16_nodesOf 23 = .ok (.iconst 1, 1) := by decide +kernel
theorem dX16_nodesOf_24 : decode cX16_nodesOf 24 = .ok (.goto 4, 3) := by decide +kernel
theorem dX16_nodesOf_27 : decode cX16_nodesOf 27 = .ok (.iconst 0, 1) := by decide +kernel
theorem dX16_nodesOf_28 : decode cX16_nodesOf 28 = .ok (.iadd, 1) := by decide +kernel
theorem dX16_nodesOf_29 : decode cX16_nodesOf 29 = .ok (.istore_n 2, 1) := by decide +kernel
theorem dX16_nodesOf_30 : decode cX16_nodesOf 30 = .ok (.iinc 3 1, 3) := by decide +kernel
theorem dX16_nodesOf_33 : decode cX16_nodesOf 33 = .ok (.goto (-29), 3) := by decide +kernel
theorem dX16_nodesOf_36 : decode cX16_nodesOf 36 = .ok (.iload_n 2, 1) := by decide +kernel
theorem dX16_nodesOf_37 : decode cX16_nodesOf 37 = .ok (.ireturn, 1) := by decide +kernel
theorem dX16_nodes_0 : decode cX16_nodes 0 = .ok (.aload_n 0, 1) := by decide +kernel
theorem dX16_nodes_1 : decode cX16_nodes 1 = .ok (.iconst 0, 1) := by decide +kernel
theorem dX16_nodes_2 : decode cX16_nodes 2 = .ok (.putfield 63, 3) := by decide +kernel
theorem dX16_nodes_5 : decode cX16_nodes 5 = .ok (.aload_n 0, 1) := by decide +kernel
theorem dX16_nodes_6 : decode cX16_nodes 6 = .ok (.aload_n 0, 1) := by decide +kernel
theorem dX16_nodes_7 : decode cX16_nodes 7 = .ok (.iload_n 1, 1) := by decide +kernel
theorem dX16_nodes_8 : decode cX16_nodes 8 = .ok (.invokevirtual 114, 3) := by decide +kernel
theorem dX16_nodes_11 : decode cX16_nodes 11 = .ok (.iconst 1, 1) := by decide +kernel
theorem dX16_nodes_12 : decode cX16_nodes 12 = .ok (.invokevirtual 102, 3) := by decide +kernel
theorem dX16_nodes_15 : decode cX16_nodes 15 = .ok (.ifCond .eq 7, 3) := by decide +kernel
theorem dX16_nodes_18 : decode cX16_nodes 18 = .ok (.iconst 0, 1) := by decide +kernel
theorem dX16_nodes_19 : decode cX16_nodes 19 = .ok (.goto 8, 3) := by decide +kernel
theorem dX16_nodes_22 : decode cX16_nodes 22 = .ok (.aload_n 0, 1) := by decide +kernel
theorem dX16_nodes_23 : decode cX16_nodes 23 = .ok (.iload_n 1, 1) := by decide +kernel
theorem dX16_nodes_24 : decode cX16_nodes 24 = .ok (.invokevirtual 165, 3) := by decide +kernel
theorem dX16_nodes_27 : decode cX16_nodes 27 = .ok (.ireturn, 1) := by decide +kernel
theorem dX16_shared_0 : decode cX16_shared 0 = .ok (.aload_n 0, 1) := by decide +kernel
theorem dX16_shared_1 : decode cX16_shared 1 = .ok (.iconst 0, 1) := by decide +kernel
theorem dX16_shared_2 : decode cX16_shared 2 = .ok (.putfield 63, 3) := by decide +kernel
theorem dX16_shared_5 : decode cX16_shared 5 = .ok (.aload_n 0, 1) := by decide +kernel
theorem dX16_shared_6 : decode cX16_shared 6 = .ok (.aload_n 0, 1) := by decide +kernel
theorem dX16_shared_7 : decode cX16_shared 7 = .ok (.iload_n 1, 1) := by decide +kernel
theorem dX16_shared_8 : decode cX16_shared 8 = .ok (.invokevirtual 114, 3) := by decide +kernel
theorem dX16_shared_11 : decode cX16_shared 11 = .ok (.ifCond .ne 11, 3) := by decide +kernel
theorem dX16_shared_14 : decode cX16_shared 14 = .ok (.aload_n 0, 1) := by decide +kernel
theorem dX16_shared_15 : decode cX16_shared 15 = .ok (.iload_n 2, 1) := by decide +kernel
theorem dX16_shared_16 : decode cX16_shared 16 = .ok (.invokevirtual 114, 3) := by decide +kernel
theorem dX16_shared_19 : decode cX16_shared 19 = .ok (.ifCond .eq 7, 3) := by decide +kernel
theorem dX16_shared_22 : decode cX16_shared 22 = .ok (.iconst 1, 1) := by decide +kernel
theorem dX16_shared_23 : decode cX16_shared 23 = .ok (.goto 4, 3) := by decide +kernel
theorem dX16_shared_26 : decode cX16_shared 26 = .ok (.iconst 0, 1) := by decide +kernel
theorem dX16_shared_27 : decode cX16_shared 27 = .ok (.iconst 1, 1) := by decide +kernel
theorem dX16_shared_28 : decode cX16_shared 28 = .ok (.invokevirtual 102, 3) := by decide +kernel
theorem dX16_shared_31 : decode cX16_shared 31 = .ok (.ifCond .eq 5, 3) := by decide +kernel
theorem dX16_shared_34 : decode cX16_shared 34 = .ok (.iconst 0, 1) := by decide +kernel
theorem dX16_shared_35 : decode cX16_shared 35 = .ok (.ireturn, 1) := by decide +kernel
theorem dX16_shared_36 : decode cX16_shared 36 = .ok (.iconst 0, 1) := by decide +kernel
theorem dX16_shared_37 : decode cX16_shared 37 = .ok (.istore_n 3, 1) := by decide +kernel
theorem dX16_shared_38 : decode cX16_shared 38 = .ok (.iconst 0, 1) := by decide +kernel
theorem dX16_shared_39 : decode cX16_shared 39 = .ok (.istore 4, 2) := by decide +kernel
theorem dX16_shared_41 : decode cX16_shared 41 = .ok (.iload 4, 2) := by decide +kernel
theorem dX16_shared_43 : decode cX16_shared 43 = .ok (.aload_n 0, 1) := by decide +kernel
theorem dX16_shared_44 : decode cX16_shared 44 = .ok (.iload_n 1, 1) := by decide +kernel
theorem dX16_shared_45 : decode cX16_shared 45 = .ok (.invokevirtual 159, 3) := by decide +kernel
theorem dX16_shared_48 : decode cX16_shared 48 = .ok (.if_icmp .ge 57, 3) := by decide +kernel
theorem dX16_shared_51 : decode cX16_shared 51 = .ok (.aload_n 0, 1) := by decide +kernel
theorem dX16_shared_52 : decode cX16_shared 52 = .ok (.iload_n 1, 1) := by decide +kernel
theorem dX16_shared_53 : decode cX16_shared 53 = .ok (.invokevirtual 159, 3) := by decide +kernel
theorem dX16_shared_56 : decode cX16_shared 56 = .ok (.aload_n 0, 1) := by decide +kernel
theorem dX16_shared_57 : decode cX16_shared 57 = .ok (.iload_n 2, 1) := by decide +kernel
theorem dX16_shared_58 : decode cX16_shared 58 = .ok (.invokevirtual 159, 3) := by decide +kernel
theorem dX16_shared_61 : decode cX16_shared 61 = .ok (.if_icmp .ne 44, 3) := by decide +kernel
theorem dX16_shared_64 : decode cX16_shared 64 = .ok (.iload_n 3, 1) := by decide +kernel
theorem dX16_shared_65 : decode cX16_shared 65 = .ok (.aload_n 0, 1) := by decide +kernel
theorem dX16_shared_66 : decode cX16_shared 66 = .ok (.iload_n 1, 1) := by decide +kernel
theorem dX16_shared_67 : decode cX16_shared 67 = .ok (.iload 4, 2) := by decide +kernel
theorem dX16_shared_69 : decode cX16_shared 69 = .ok (.invokevirtual 162, 3) := by decide +kernel
theorem dX16_shared_72 : decode cX16_shared 72 = .ok (.ifCond .le 24, 3) := by decide +kernel
theorem dX16_shared_75 : decode cX16_shared 75 = .ok (.aload_n 0, 1) := by decide +kernel
theorem dX16_shared_76 : decode cX16_shared 76 = .ok (.iload_n 1, 1) := by decide +kernel
theorem dX16_shared_77 : decode cX16_shared 77 = .ok (.iload 4, 2) := by decide +kernel
theorem dX16_shared_79 : decode cX16_shared 79 = .ok (.invokevirtual 162, 3) := by decide +kernel
theorem dX16_shared_82 : decode cX16_shared 82 = .ok (.aload_n 0, 1) := by decide +kernel
theorem dX16_shared_83 : decode cX16_shared 83 = .ok (.iload_n 2, 1) := by decide +kernel
theorem dX16_shared_84 : decode cX16_shared 84 = .ok (.iload 4, 2) := by decide +kernel
theorem dX16_shared_86 : decode cX16_shared 86 = .ok (.invokevirtual 162, 3) := by decide +kernel
theorem dX16_shared_89 : decode cX16_shared 89 = .ok (.if_icmp .ne 7, 3) := by decide +kernel
theorem dX16_shared_92 : decode cX16_shared 92 = .ok (.iconst 1, 1) := by decide +kernel
theorem dX16_shared_93 : decode cX16_shared 93 = .ok (.goto 4, 3) := by decide +kernel
theorem dX16_shared_96 : decode cX16_shared 96 = .ok (.iconst 0, 1) := by decide +kernel
theorem dX16_shared_97 : decode cX16_shared 97 = .ok (.iadd, 1) := by decide +kernel
theorem dX16_shared_98 : decode cX16_shared 98 = .ok (.istore_n 3, 1) := by decide +kernel
theorem dX16_shared_99 : decode cX16_shared 99 = .ok (.iinc 4 1, 3) := by decide +kernel
theorem dX16_shared_102 : decode cX16_shared 102 = .ok (.goto (-61), 3) := by decide +kernel
theorem dX16_shared_105 : decode cX16_shared 105 = .ok (.iload_n 3, 1) := by decide +kernel
theorem dX16_shared_106 : decode cX16_shared 106 = .ok (.ireturn, 1) := by decide +kernel
theorem dX16_areSame_0 : decode cX16_areSame 0 = .ok (.aload_n 0, 1) := by decide +kernel
theorem dX16_areSame_1 : decode cX16_areSame 1 = .ok (.iconst 0, 1) := by decide +kernel
theorem dX16_areSame_2 : decode cX16_areSame 2 = .ok (.putfield 63, 3) := by decide +kernel
theorem dX16_areSame_5 : decode cX16_areSame 5 = .ok (.aload_n 0, 1) := by decide +kernel
theorem dX16_areSame_6 : decode cX16_areSame 6 = .ok (.aload_n 0, 1) := by decide +kernel
theorem dX16_areSame_7 : decode cX16_areSame 7 = .ok (.iload_n 1, 1) := by decide +kernel
theorem dX16_areSame_8 : decode cX16_areSame 8 = .ok (.invokevirtual 114, 3) := by decide +kernel
theorem dX16_areSame_11 : decode cX16_areSame 11 = .ok (.ifCond .ne 11, 3) := by decide +kernel
theorem dX16_areSame_14 : decode cX16_areSame 14 = .ok (.aload_n 0, 1) := by decide +kernel
theorem dX16_areSame_15 : decode cX16_areSame 15 = .ok (.iload_n 2, 1) := by decide +kernel
theorem dX16_areSame_16 : decode cX16_areSame 16 = .ok (.invokevirtual 114, 3) := by decide +kernel
theorem dX16_areSame_19 : decode cX16_areSame 19 = .ok (.ifCond .eq 7, 3) := by decide +kernel
theorem dX16_areSame_22 : decode cX16_areSame 22 = .ok (.iconst 1, 1) := by decide +kernel
theorem dX16_areSame_23 : decode cX16_areSame 23 = .ok (.goto 4, 3) := by decide +kernel
theorem dX16_areSame_26 : decode cX16_areSame 26 = .ok (.iconst 0, 1) := by decide +kernel
theorem dX16_areSame_27 : decode cX16_areSame 27 = .ok (.iconst 1, 1) := by decide +kernel
theorem dX16_areSame_28 : decode cX16_areSame 28 = .ok (.invokevirtual 102, 3) := by decide +kernel
theorem dX16_areSame_31 : decode cX16_areSame 31 = .ok (.ifCond .ne 88, 3) := by decide +kernel
theorem dX16_areSame_34 : decode cX16_areSame 34 = .ok (.aload_n 0, 1) := by decide +kernel
theorem dX16_areSame_35 : decode cX16_areSame 35 = .ok (.aload_n 0, 1) := by decide +kernel
theorem dX16_areSame_36 : decode cX16_areSame 36 = .ok (.getfield 7, 3) := by decide +kernel
theorem dX16_areSame_39 : decode cX16_areSame 39 = .ok (.iload_n 1, 1) := by decide +kernel
theorem dX16_areSame_40 : decode cX16_areSame 40 = .ok (.caload, 1) := by decide +kernel
theorem dX16_areSame_41 : decode cX16_areSame 41 = .ok (.bipush 120, 2) := by decide +kernel
theorem dX16_areSame_43 : decode cX16_areSame 43 = .ok (.if_icmp .eq 14, 3) := by decide +kernel
theorem dX16_areSame_46 : decode cX16_areSame 46 = .ok (.aload_n 0, 1) := by decide +kernel
theorem dX16_areSame_47 : decode cX16_areSame 47 = .ok (.getfield 7, 3) := by decide +kernel
theorem dX16_areSame_50 : decode cX16_areSame 50 = .ok (.iload_n 2, 1) := by decide +kernel
theorem dX16_areSame_51 : decode cX16_areSame 51 = .ok (.caload, 1) := by decide +kernel
theorem dX16_areSame_52 : decode cX16_areSame 52 = .ok (.bipush 120, 2) := by decide +kernel
theorem dX16_areSame_54 : decode cX16_areSame 54 = .ok (.if_icmp .ne 7, 3) := by decide +kernel
theorem dX16_areSame_57 : decode cX16_areSame 57 = .ok (.iconst 1, 1) := by decide +kernel
theorem dX16_areSame_58 : decode cX16_areSame 58 = .ok (.goto 4, 3) := by decide +kernel
theorem dX16_areSame_61 : decode cX16_areSame 61 = .ok (.iconst 0, 1) := by decide +kernel
theorem dX16_areSame_62 : decode cX16_areSame 62 = .ok (.iconst 2, 1) := by decide +kernel
theorem dX16_areSame_63 : decode cX16_areSame 63 = .ok (.invokevirtual 102, 3) := by decide +kernel
theorem dX16_areSame_66 : decode cX16_areSame 66 = .ok (.ifCond .ne 53, 3) := by decide +kernel
theorem dX16_areSame_69 : decode cX16_areSame 69 = .ok (.aload_n 0, 1) := by decide +kernel
theorem dX16_areSame_70 : decode cX16_areSame 70 = .ok (.getfield 7, 3) := by decide +kernel
theorem dX16_areSame_73 : decode cX16_areSame 73 = .ok (.iload_n 1, 1) := by decide +kernel
theorem dX16_areSame_74 : decode cX16_areSame 74 = .ok (.caload, 1) := by decide +kernel
theorem dX16_areSame_75 : decode cX16_areSame 75 = .ok (.bipush 109, 2) := by decide +kernel
theorem dX16_areSame_77 : decode cX16_areSame 77 = .ok (.if_icmp .ne 7, 3) := by decide +kernel
theorem dX16_areSame_80 : decode cX16_areSame 80 = .ok (.iconst 1, 1) := by decide +kernel
theorem dX16_areSame_81 : decode cX16_areSame 81 = .ok (.goto 4, 3) := by decide +kernel
theorem dX16_areSame_84 : decode cX16_areSame 84 = .ok (.iconst 0, 1) := by decide +kernel
theorem dX16_areSame_85 : decode cX16_areSame 85 = .ok (.aload_n 0, 1) := by decide +kernel
theorem dX16_areSame_86 : decode cX16_areSame 86 = .ok (.getfield 7, 3) := by decide +kernel
theorem dX16_areSame_89 : decode cX16_areSame 89 = .ok (.iload_n 2, 1) := by decide +kernel
theorem dX16_areSame_90 : decode cX16_areSame 90 = .ok (.caload, 1) := by decide +kernel
theorem dX16_areSame_91 : decode cX16_areSame 91 = .ok (.bipush 109, 2) := by decide +kernel
theorem dX16_areSame_93 : decode cX16_areSame 93 = .ok (.if_icmp .ne 7, 3) := by decide +kernel
theorem dX16_areSame_96 : decode cX16_areSame 96 = .ok (.iconst 1, 1) := by decide +kernel
theorem dX16_areSame_97 : decode cX16_areSame 97 = .ok (.goto 4, 3) := by decide +kernel
theorem dX16_areSame_100 : decode cX16_areSame 100 = .ok (.iconst 0, 1) := by decide +kernel
theorem dX16_areSame_101 : decode cX16_areSame 101 = .ok (.if_icmp .ne 18, 3) := by decide +kernel
theorem dX16_areSame_104 : decode cX16_areSame 104 = .ok (.aload_n 0, 1) := by decide +kernel
theorem dX16_areSame_105 : decode cX16_areSame 105 = .ok (.getfield 13, 3) := by decide +kernel
theorem dX16_areSame_108 : decode cX16_areSame 108 = .ok (.iload_n 1, 1) := by decide +kernel
theorem dX16_areSame_109 : decode cX16_areSame 109 = .ok (.iaload, 1) := by decide +kernel
theorem dX16_areSame_110 : decode cX16_areSame 110 = .ok (.aload_n 0, 1) := by decide +kernel
theorem dX16_areSame_111 : decode cX16_areSame 111 = .ok (.getfield 13, 3) := by decide +kernel
theorem dX16_areSame_114 : decode cX16_areSame 114 = .ok (.iload_n 2, 1) := by decide +kernel
theorem dX16_areSame_115 : decode cX16_areSame 115 = .ok (.iaload, 1) := by decide +kernel
theorem dX16_areSame_116 : decode cX16_areSame 116 = .ok (.if_icmp .eq 5, 3) := by decide +kernel
theorem dX16_areSame_119 : decode cX16_areSame 119 = .ok (.iconst 0, 1) := by decide +kernel
theorem dX16_areSame_120 : decode cX16_areSame 120 = .ok (.ireturn, 1) := by decide +kernel
theorem dX16_areSame_121 : decode cX16_areSame 121 = .ok (.iconst 1, 1) := by decide +kernel
theorem dX16_areSame_122 : decode cX16_areSame 122 = .ok (.istore_n 3, 1) := by decide +kernel
theorem dX16_areSame_123 : decode cX16_areSame 123 = .ok (.iconst 0, 1) := by decide +kernel
theorem dX16_areSame_124 : decode cX16_areSame 124 = .ok (.istore 4, 2) := by decide +kernel
theorem dX16_areSame_126 : decode cX16_areSame 126 = .ok (.iload 4, 2) := by decide +kernel
theorem dX16_areSame_128 : decode cX16_areSame 128 = .ok (.aload_n 0, 1) := by decide +kernel
theorem dX16_areSame_129 : decode cX16_areSame 129 = .ok (.getfield 7, 3) := by decide +kernel
theorem dX16_areSame_132 : decode cX16_areSame 132 = .ok (.iload_n 1, 1) := by decide +kernel
theorem dX16_areSame_133 : decode cX16_areSame 133 = .ok (.caload, 1) := by decide +kernel
theorem dX16_areSame_134 : decode cX16_areSame 134 = .ok (.bipush 109, 2) := by decide +kernel
theorem dX16_areSame_136 : decode cX16_areSame 136 = .ok (.if_icmp .ne 9, 3) := by decide +kernel
theorem dX16_areSame_139 : decode cX16_areSame 139 = .ok (.sipush 1000, 3) := by decide +kernel
theorem dX16_areSame_142 : decode cX16_areSame 142 = .ok (.goto 9, 3) := by decide +kernel
theorem dX16_areSame_145 : decode cX16_areSame 145 = .ok (.aload_n 0, 1) := by decide +kernel
theorem dX16_areSame_146 : decode cX16_areSame 146 = .ok (.getfield 13, 3) := by decide +kernel
theorem dX16_areSame_149 : decode cX16_areSame 149 = .ok (.iload_n 1, 1) := by decide +kernel
theorem dX16_areSame_150 : decode cX16_areSame 150 = .ok (.iaload, 1) := by decide +kernel
theorem dX16_areSame_151 : decode cX16_areSame 151 = .ok (.if_icmp .ge 106, 3) := by decide +kernel
theorem dX16_areSame_154 : decode cX16_areSame 154 = .ok (.iload_n 3, 1) := by decide +kernel
theorem dX16_areSame_155 : decode cX16_areSame 155 = .ok (.ifCond .eq 94, 3) := by decide +kernel
theorem dX16_areSame_158 : decode cX16_areSame 158 = .ok (.aload_n 0, 1) := by decide +kernel
theorem dX16_areSame_159 : decode cX16_areSame 159 = .ok (.iload_n 1, 1) := by decide +kernel
theorem dX16_areSame_160 : decode cX16_areSame 160 = .ok (.iload 4, 2) := by decide +kernel
theorem dX16_areSame_162 : decode cX16_areSame 162 = .ok (.invokevirtual 153, 3) := by decide +kernel
theorem dX16_areSame_165 : decode cX16_areSame 165 = .ok (.aload_n 0, 1) := by decide +kernel
theorem dX16_areSame_166 : decode cX16_areSame 166 = .ok (.iload_n 2, 1) := by decide +kernel
theorem dX16_areSame_167 : decode cX16_areSame 167 = .ok (.iload 4, 2) := by decide +kernel
theorem dX16_areSame_169 : decode cX16_areSame 169 = .ok (.invokevirtual 153, 3) := by decide +kernel
theorem dX16_areSame_172 : decode cX16_areSame 172 = .ok (.if_icmp .ne 77, 3) := by decide +kernel
theorem dX16_areSame_175 : decode cX16_areSame 175 = .ok (.aload_n 0, 1) := by decide +kernel
theorem dX16_areSame_176 : decode cX16_areSame 176 = .ok (.getfield 7, 3) := by decide +kernel
theorem dX16_areSame_179 : decode cX16_areSame 179 = .ok (.iload_n 1, 1) := by decide +kernel
theorem dX16_areSame_180 : decode cX16_areSame 180 = .ok (.caload, 1) := by decide +kernel
theorem dX16_areSame_181 : decode cX16_areSame 181 = .ok (.bipush 109, 2) := by decide +kernel
theorem dX16_areSame_183 : decode cX16_areSame 183 = .ok (.if_icmp .ne 35, 3) := by decide +kernel
theorem dX16_areSame_186 : decode cX16_areSame 186 = .ok (.aload_n 0, 1) := by decide +kernel
theorem dX16_areSame_187 : decode cX16_areSame 187 = .ok (.getfield 31, 3) := by decide +kernel
theorem dX16_areSame_190 : decode cX16_areSame 190 = .ok (.sipush 1000, 3) := by decide +kernel
theorem dX16_areSame_193 : decode cX16_areSame 193 = .ok (.iload_n 1, 1) := by decide +kernel
theorem dX16_areSame_194 : decode cX16_areSame 194 = .ok (.imul, 1) := by decide +kernel
theorem dX16_areSame_195 : decode cX16_areSame 195 = .ok (.iload 4, 2) := by decide +kernel
theorem dX16_areSame_197 : decode cX16_areSame 197 = .ok (.iadd, 1) := by decide +kernel
theorem dX16_areSame_198 : decode cX16_areSame 198 = .ok (.iaload, 1) := by decide +kernel
theorem dX16_areSame_199 : decode cX16_areSame 199 = .ok (.aload_n 0, 1) := by decide +kernel
theorem dX16_areSame_200 : decode cX16_areSame 200 = .ok (.getfield 31, 3) := by decide +kernel
theorem dX16_areSame_203 : decode cX16_areSame 203 = .ok (.sipush 1000, 3) := by decide +kernel
theorem dX16_areSame_206 : decode cX16_areSame 206 = .ok (.iload_n 2, 1) := by decide +kernel
theorem dX16_areSame_207 : decode cX16_areSame 207 = .ok (.imul, 1) := by decide +kernel
theorem dX16_areSame_208 : decode cX16_areSame 208 = .ok (.iload 4, 2) := by decide +kernel
theorem dX16_areSame_210 : decode cX16_areSame 210 = .ok (.iadd, 1) := by decide +kernel
theorem dX16_areSame_211 : decode cX16_areSame 211 = .ok (.iaload, 1) := by decide +kernel
theorem dX16_areSame_212 : decode cX16_areSame 212 = .ok (.if_icmp .ne 37, 3) := by decide +kernel
theorem dX16_areSame_215 : decode cX16_areSame 215 = .ok (.goto 30, 3) := by decide +kernel
theorem dX16_areSame_218 : decode cX16_areSame 218 = .ok (.aload_n 0, 1) := by decide +kernel
theorem dX16_areSame_219 : decode cX16_areSame 219 = .ok (.getfield 17, 3) := by decide +kernel
theorem dX16_areSame_222 : decode cX16_areSame 222 = .ok (.bipush 64, 2) := by decide +kernel
theorem dX16_areSame_224 : decode cX16_areSame 224 = .ok (.iload_n 1, 1) := by decide +kernel
theorem dX16_areSame_225 : decode cX16_areSame 225 = .ok (.imul, 1) := by decide +kernel
theorem dX16_areSame_226 : decode cX16_areSame 226 = .ok (.iload 4, 2) := by decide +kernel
theorem dX16_areSame_228 : decode cX16_areSame 228 = .ok (.iadd, 1) := by decide +kernel
theorem dX16_areSame_229 : decode cX16_areSame 229 = .ok (.iaload, 1) := by decide +kernel
theorem dX16_areSame_230 : decode cX16_areSame 230 = .ok (.aload_n 0, 1) := by decide +kernel
theorem dX16_areSame_231 : decode cX16_areSame 231 = .ok (.getfield 17, 3) := by decide +kernel
theorem dX16_areSame_234 : decode cX16_areSame 234 = .ok (.bipush 64, 2) := by decide +kernel
theorem dX16_areSame_236 : decode cX16_areSame 236 = .ok (.iload_n 2, 1) := by decide +kernel
theorem dX16_areSame_237 : decode cX16_areSame 237 = .ok (.imul, 1) := by decide +kernel
theorem dX16_areSame_238 : decode cX16_areSame 238 = .ok (.iload 4, 2) := by decide +kernel
theorem dX16_areSame_240 : decode cX16_areSame 240 = .ok (.iadd, 1) := by decide +kernel
theorem dX16_areSame_241 : decode cX16_areSame 241 = .ok (.iaload, 1) := by decide +kernel
theorem dX16_areSame_242 : decode cX16_areSame 242 = .ok (.if_icmp .ne 7, 3) := by decide +kernel
theorem dX16_areSame_245 : decode cX16_areSame 245 = .ok (.iconst 1, 1) := by decide +kernel
theorem dX16_areSame_246 : decode cX16_areSame 246 = .ok (.goto 4, 3) := by decide +kernel
theorem dX16_areSame_249 : decode cX16_areSame 249 = .ok (.iconst 0, 1) := by decide +kernel
theorem dX16_areSame_250 : decode cX16_areSame 250 = .ok (.istore_n 3, 1) := by decide +kernel
theorem dX16_areSame_251 : decode cX16_areSame 251 = .ok (.iinc 4 1, 3) := by decide +kernel
theorem dX16_areSame_254 : decode cX16_areSame 254 = .ok (.goto (-128), 3) := by decide +kernel
theorem dX16_areSame_257 : decode cX16_areSame 257 = .ok (.iload_n 3, 1) := by decide +kernel
theorem dX16_areSame_258 : decode cX16_areSame 258 = .ok (.ireturn, 1) := by decide +kernel
theorem dX16_made_0 : decode cX16_made 0 = .ok (.aload_n 0, 1) := by decide +kernel
theorem dX16_made_1 : decode cX16_made 1 = .ok (.iconst 0, 1) := by decide +kernel
theorem dX16_made_2 : decode cX16_made 2 = .ok (.putfield 63, 3) := by decide +kernel
theorem dX16_made_5 : decode cX16_made 5 = .ok (.aload_n 0, 1) := by decide +kernel
theorem dX16_made_6 : decode cX16_made 6 = .ok (.getfield 84, 3) := by decide +kernel
theorem dX16_made_9 : decode cX16_made 9 = .ok (.i2l, 1) := by decide +kernel
theorem dX16_made_10 : decode cX16_made 10 = .ok (.lreturn, 1) := by decide +kernel
theorem dX16_sharing_0 : decode cX16_sharing 0 = .ok (.aload_n 0, 1) := by decide +kernel
theorem dX16_sharing_1 : decode cX16_sharing 1 = .ok (.iconst 0, 1) := by decide +kernel
theorem dX16_sharing_2 : decode cX16_sharing 2 = .ok (.putfield 63, 3) := by decide +kernel
theorem dX16_sharing_5 : decode cX16_sharing 5 = .ok (.aload_n 0, 1) := by decide +kernel
theorem dX16_sharing_6 : decode cX16_sharing 6 = .ok (.getfield 84, 3) := by decide +kernel
theorem dX16_sharing_9 : decode cX16_sharing 9 = .ok (.iconst 1, 1) := by decide +kernel
theorem dX16_sharing_10 : decode cX16_sharing 10 = .ok (.iadd, 1) := by decide +kernel
theorem dX16_sharing_11 : decode cX16_sharing 11 = .ok (.newarray .boolean, 2) := by decide +kernel
theorem dX16_sharing_13 : decode cX16_sharing 13 = .ok (.astore_n 1, 1) := by decide +kernel
theorem dX16_sharing_14 : decode cX16_sharing 14 = .ok (.iconst 0, 1) := by decide +kernel
theorem dX16_sharing_15 : decode cX16_sharing 15 = .ok (.istore_n 2, 1) := by decide +kernel
theorem dX16_sharing_16 : decode cX16_sharing 16 = .ok (.iconst 0, 1) := by decide +kernel
theorem dX16_sharing_17 : decode cX16_sharing 17 = .ok (.istore_n 3, 1) := by decide +kernel
theorem dX16_sharing_18 : decode cX16_sharing 18 = .ok (.iconst 0, 1) := by decide +kernel
theorem dX16_sharing_19 : decode cX16_sharing 19 = .ok (.istore 4, 2) := by decide +kernel
theorem dX16_sharing_21 : decode cX16_sharing 21 = .ok (.iload 4, 2) := by decide +kernel
theorem dX16_sharing_23 : decode cX16_sharing 23 = .ok (.aload_n 0, 1) := by decide +kernel
theorem dX16_sharing_24 : decode cX16_sharing 24 = .ok (.getfield 67, 3) := by decide +kernel
theorem dX16_sharing_27 : decode cX16_sharing 27 = .ok (.if_icmp .ge 77, 3) := by decide +kernel
theorem dX16_sharing_30 : decode cX16_sharing 30 = .ok (.iconst 0, 1) := by decide +kernel
theorem dX16_sharing_31 : decode cX16_sharing 31 = .ok (.istore 5, 2) := by decide +kernel
theorem dX16_sharing_33 : decode cX16_sharing 33 = .ok (.iload 5, 2) := by decide +kernel
theorem dX16_sharing_35 : decode cX16_sharing 35 = .ok (.aload_n 0, 1) := by decide +kernel
theorem dX16_sharing_36 : decode cX16_sharing 36 = .ok (.iload 4, 2) := by decide +kernel
theorem dX16_sharing_38 : decode cX16_sharing 38 = .ok (.invokevirtual 159, 3) := by decide +kernel
theorem dX16_sharing_41 : decode cX16_sharing 41 = .ok (.if_icmp .ge 57, 3) := by decide +kernel
theorem dX16_sharing_44 : decode cX16_sharing 44 = .ok (.aload_n 0, 1) := by decide +kernel
theorem dX16_sharing_45 : decode cX16_sharing 45 = .ok (.iload 4, 2) := by decide +kernel
theorem dX16_sharing_47 : decode cX16_sharing 47 = .ok (.iload 5, 2) := by decide +kernel
theorem dX16_sharing_49 : decode cX16_sharing 49 = .ok (.invokevirtual 162, 3) := by decide +kernel
theorem dX16_sharing_52 : decode cX16_sharing 52 = .ok (.istore 6, 2) := by decide +kernel
theorem dX16_sharing_54 : decode cX16_sharing 54 = .ok (.iload_n 2, 1) := by decide +kernel
theorem dX16_sharing_55 : decode cX16_sharing 55 = .ok (.iload 6, 2) := by decide +kernel
theorem dX16_sharing_57 : decode cX16_sharing 57 = .ok (.ifCond .le 7, 3) := by decide +kernel
theorem dX16_sharing_60 : decode cX16_sharing 60 = .ok (.iconst 1, 1) := by decide +kernel
theorem dX16_sharing_61 : decode cX16_sharing 61 = .ok (.goto 4, 3) := by decide +kernel
theorem dX16_sharing_64 : decode cX16_sharing 64 = .ok (.iconst 0, 1) := by decide +kernel
theorem dX16_sharing_65 : decode cX16_sharing 65 = .ok (.iadd, 1) := by decide +kernel
theorem dX16_sharing_66 : decode cX16_sharing 66 = .ok (.istore_n 2, 1) := by decide +kernel
theorem dX16_sharing_67 : decode cX16_sharing 67 = .ok (.iload_n 3, 1) := by decide +kernel
theorem dX16_sharing_68 : decode cX16_sharing 68 = .ok (.iload 6, 2) := by decide +kernel
theorem dX16_sharing_70 : decode cX16_sharing 70 = .ok (.ifCond .le 14, 3) := by decide +kernel
theorem dX16_sharing_73 : decode cX16_sharing 73 = .ok (.aload_n 1, 1) := by decide +kernel
theorem dX16_sharing_74 : decode cX16_sharing 74 = .ok (.iload 6, 2) := by decide +kernel
theorem dX16_sharing_76 : decode cX16_sharing 76 = .ok (.baload, 1) := by decide +kernel
theorem dX16_sharing_77 : decode cX16_sharing 77 = .ok (.ifCond .ne 7, 3) := by decide +kernel
theorem dX16_sharing_80 : decode cX16_sharing 80 = .ok (.iconst 1, 1) := by decide +kernel
theorem dX16_sharing_81 : decode cX16_sharing 81 = .ok (.goto 4, 3) := by decide +kernel
theorem dX16_sharing_84 : decode cX16_sharing 84 = .ok (.iconst 0, 1) := by decide +kernel
theorem dX16_sharing_85 : decode cX16_sharing 85 = .ok (.iadd, 1) := by decide +kernel
theorem dX16_sharing_86 : decode cX16_sharing 86 = .ok (.istore_n 3, 1) := by decide +kernel
theorem dX16_sharing_87 : decode cX16_sharing 87 = .ok (.aload_n 1, 1) := by decide +kernel
theorem dX16_sharing_88 : decode cX16_sharing 88 = .ok (.iload 6, 2) := by decide +kernel
theorem dX16_sharing_90 : decode cX16_sharing 90 = .ok (.iconst 1, 1) := by decide +kernel
theorem dX16_sharing_91 : decode cX16_sharing 91 = .ok (.bastore, 1) := by decide +kernel
theorem dX16_sharing_92 : decode cX16_sharing 92 = .ok (.iinc 5 1, 3) := by decide +kernel
theorem dX16_sharing_95 : decode cX16_sharing 95 = .ok (.goto (-62), 3) := by decide +kernel
theorem dX16_sharing_98 : decode cX16_sharing 98 = .ok (.iinc 4 1, 3) := by decide +kernel
theorem dX16_sharing_101 : decode cX16_sharing 101 = .ok (.goto (-80), 3) := by decide +kernel
theorem dX16_sharing_104 : decode cX16_sharing 104 = .ok (.aload_n 0, 1) := by decide +kernel
theorem dX16_sharing_105 : decode cX16_sharing 105 = .ok (.iload_n 2, 1) := by decide +kernel
theorem dX16_sharing_106 : decode cX16_sharing 106 = .ok (.ifCond .ne 7, 3) := by decide +kernel
theorem dX16_sharing_109 : decode cX16_sharing 109 = .ok (.iconst 1, 1) := by decide +kernel
theorem dX16_sharing_110 : decode cX16_sharing 110 = .ok (.goto 4, 3) := by decide +kernel
theorem dX16_sharing_113 : decode cX16_sharing 113 = .ok (.iconst 0, 1) := by decide +kernel
theorem dX16_sharing_114 : decode cX16_sharing 114 = .ok (.iconst 1, 1) := by decide +kernel
theorem dX16_sharing_115 : decode cX16_sharing 115 = .ok (.invokevirtual 102, 3) := by decide +kernel
theorem dX16_sharing_118 : decode cX16_sharing 118 = .ok (.ifCond .eq 7, 3) := by decide +kernel
theorem dX16_sharing_121 : decode cX16_sharing 121 = .ok (.fconst 0, 1) := by decide +kernel
theorem dX16_sharing_122 : decode cX16_sharing 122 = .ok (.goto 8, 3) := by decide +kernel
theorem dX16_sharing_125 : decode cX16_sharing 125 = .ok (.iload_n 3, 1) := by decide +kernel
theorem dX16_sharing_126 : decode cX16_sharing 126 = .ok (.i2f, 1) := by decide +kernel
theorem dX16_sharing_127 : decode cX16_sharing 127 = .ok (.iload_n 2, 1) := by decide +kernel
theorem dX16_sharing_128 : decode cX16_sharing 128 = .ok (.i2f, 1) := by decide +kernel
theorem dX16_sharing_129 : decode cX16_sharing 129 = .ok (.fdiv, 1) := by decide +kernel
theorem dX16_sharing_130 : decode cX16_sharing 130 = .ok (.freturn, 1) := by decide +kernel
theorem dX16_range_0 : decode cX16_range 0 = .ok (.aload_n 0, 1) := by decide +kernel
theorem dX16_range_1 : decode cX16_range 1 = .ok (.iconst 0, 1) := by decide +kernel
theorem dX16_range_2 : decode cX16_range 2 = .ok (.putfield 63, 3) := by decide +kernel
theorem dX16_range_5 : decode cX16_range 5 = .ok (.aload_n 0, 1) := by decide +kernel
theorem dX16_range_6 : decode cX16_range 6 = .ok (.iload_n 1, 1) := by decide +kernel
theorem dX16_range_7 : decode cX16_range 7 = .ok (.bipush (-99), 2) := by decide +kernel
theorem dX16_range_9 : decode cX16_range 9 = .ok (.bipush 99, 2) := by decide +kernel
theorem dX16_range_11 : decode cX16_range 11 = .ok (.invokestatic 70, 3) := by decide +kernel
theorem dX16_range_14 : decode cX16_range 14 = .ok (.ifCond .eq 24, 3) := by decide +kernel
theorem dX16_range_17 : decode cX16_range 17 = .ok (.iload_n 2, 1) := by decide +kernel
theorem dX16_range_18 : decode cX16_range 18 = .ok (.bipush (-9), 2) := by decide +kernel
theorem dX16_range_20 : decode cX16_range 20 = .ok (.bipush 9, 2) := by decide +kernel
theorem dX16_range_22 : decode cX16_range 22 = .ok (.invokestatic 70, 3) := by decide +kernel
theorem dX16_range_25 : decode cX16_range 25 = .ok (.ifCond .eq 13, 3) := by decide +kernel
theorem dX16_range_28 : decode cX16_range 28 = .ok (.iload_n 3, 1) := by decide +kernel
theorem dX16_range_29 : decode cX16_range 29 = .ok (.iconst 0, 1) := by decide +kernel
theorem dX16_range_30 : decode cX16_range 30 = .ok (.bipush 24, 2) := by decide +kernel
theorem dX16_range_32 : decode cX16_range 32 = .ok (.invokestatic 70, 3) := by decide +kernel
theorem dX16_range_35 : decode cX16_range 35 = .ok (.ifCond .ne 7, 3) := by decide +kernel
theorem dX16_range_38 : decode cX16_range 38 = .ok (.iconst 1, 1) := by decide +kernel
theorem dX16_range_39 : decode cX16_range 39 = .ok (.goto 4, 3) := by decide +kernel
theorem dX16_range_42 : decode cX16_range 42 = .ok (.iconst 0, 1) := by decide +kernel
theorem dX16_range_43 : decode cX16_range 43 = .ok (.iconst 1, 1) := by decide +kernel
theorem dX16_range_44 : decode cX16_range 44 = .ok (.invokevirtual 102, 3) := by decide +kernel
theorem dX16_range_47 : decode cX16_range 47 = .ok (.ifCond .ne 28, 3) := by decide +kernel
theorem dX16_range_50 : decode cX16_range 50 = .ok (.aload_n 0, 1) := by decide +kernel
theorem dX16_range_51 : decode cX16_range 51 = .ok (.aload_n 0, 1) := by decide +kernel
theorem dX16_range_52 : decode cX16_range 52 = .ok (.getfield 40, 3) := by decide +kernel
theorem dX16_range_55 : decode cX16_range 55 = .ok (.invokevirtual 168, 3) := by decide +kernel
theorem dX16_range_58 : decode cX16_range 58 = .ok (.bipush 12, 2) := by decide +kernel
theorem dX16_range_60 : decode cX16_range 60 = .ok (.if_icmp .ne 7, 3) := by decide +kernel
theorem dX16_range_63 : decode cX16_range 63 = .ok (.iconst 1, 1) := by decide +kernel
theorem dX16_range_64 : decode cX16_range 64 = .ok (.goto 4, 3) := by decide +kernel
theorem dX16_range_67 : decode cX16_range 67 = .ok (.iconst 0, 1) := by decide +kernel
theorem dX16_range_68 : decode cX16_range 68 = .ok (.iconst 2, 1) := by decide +kernel
theorem dX16_range_69 : decode cX16_range 69 = .ok (.invokevirtual 102, 3) := by decide +kernel
theorem dX16_range_72 : decode cX16_range 72 = .ok (.ifCond .eq 5, 3) := by decide +kernel
theorem dX16_range_75 : decode cX16_range 75 = .ok (.iconst 0, 1) := by decide +kernel
theorem dX16_range_76 : decode cX16_range 76 = .ok (.ireturn, 1) := by decide +kernel
theorem dX16_range_77 : decode cX16_range 77 = .ok (.aload_n 0, 1) := by decide +kernel
theorem dX16_range_78 : decode cX16_range 78 = .ok (.getfield 40, 3) := by decide +kernel
theorem dX16_range_81 : decode cX16_range 81 = .ok (.new 170, 3) := by decide +kernel
theorem dX16_range_84 : decode cX16_range 84 = .ok (.dup, 1) := by decide +kernel
theorem dX16_range_85 : decode cX16_range 85 = .ok (.bipush 114, 2) := by decide +kernel
theorem dX16_range_87 : decode cX16_range 87 = .ok (.iconst (-1), 1) := by decide +kernel
theorem dX16_range_88 : decode cX16_range 88 = .ok (.iload_n 1, 1) := by decide +kernel
theorem dX16_range_89 : decode cX16_range 89 = .ok (.iload_n 2, 1) := by decide +kernel
theorem dX16_range_90 : decode cX16_range 90 = .ok (.iload_n 3, 1) := by decide +kernel
theorem dX16_range_91 : decode cX16_range 91 = .ok (.invokespecial 172, 3) := by decide +kernel
theorem dX16_range_94 : decode cX16_range 94 = .ok (.invokevirtual 175, 3) := by decide +kernel
theorem dX16_range_97 : decode cX16_range 97 = .ok (.pop, 1) := by decide +kernel
theorem dX16_range_98 : decode cX16_range 98 = .ok (.aload_n 0, 1) := by decide +kernel
theorem dX16_range_99 : decode cX16_range 99 = .ok (.getfield 40, 3) := by decide +kernel
theorem dX16_range_102 : decode cX16_range 102 = .ok (.invokevirtual 168, 3) := by decide +kernel
theorem dX16_range_105 : decode cX16_range 105 = .ok (.iconst 1, 1) := by decide +kernel
theorem dX16_range_106 : decode cX16_range 106 = .ok (.isub, 1) := by decide +kernel
theorem dX16_range_107 : decode cX16_range 107 = .ok (.ireturn, 1) := by decide +kernel
theorem dX16_noSequence_0 : decode cX16_noSequence 0 = .ok (.iload_n 1, 1) := by decide +kernel
theorem dX16_noSequence_1 : decode cX16_noSequence 1 = .ok (.iconst 0, 1) := by decide +kernel
theorem dX16_noSequence_2 : decode cX16_noSequence 2 = .ok (.aload_n 0, 1) := by decide +kernel
theorem dX16_noSequence_3 : decode cX16_noSequence 3 = .ok (.getfield 40, 3) := by decide +kernel
theorem dX16_noSequence_6 : decode cX16_noSequence 6 = .ok (.invokevirtual 168, 3) := by decide +kernel
theorem dX16_noSequence_9 : decode cX16_noSequence 9 = .ok (.iconst 1, 1) := by decide +kernel
theorem dX16_noSequence_10 : decode cX16_noSequence 10 = .ok (.isub, 1) := by decide +kernel
theorem dX16_noSequence_11 : decode cX16_noSequence 11 = .ok (.invokestatic 70, 3) := by decide +kernel
theorem dX16_noSequence_14 : decode cX16_noSequence 14 = .ok (.ifCond .ne 7, 3) := by decide +kernel
theorem dX16_noSequence_17 : decode cX16_noSequence 17 = .ok (.iconst 1, 1) := by decide +kernel
theorem dX16_noSequence_18 : decode cX16_noSequence 18 = .ok (.goto 4, 3) := by decide +kernel
theorem dX16_noSequence_21 : decode cX16_noSequence 21 = .ok (.iconst 0, 1) := by decide +kernel
theorem dX16_noSequence_22 : decode cX16_noSequence 22 = .ok (.ireturn, 1) := by decide +kernel
theorem dX16_over_0 : decode cX16_over 0 = .ok (.aload_n 0, 1) := by decide +kernel
theorem dX16_over_1 : decode cX16_over 1 = .ok (.iconst 0, 1) := by decide +kernel
theorem dX16_over_2 : decode cX16_over 2 = .ok (.putfield 63, 3) := by decide +kernel
theorem dX16_over_5 : decode cX16_over 5 = .ok (.iload_n 2, 1) := by decide +kernel
theorem dX16_over_6 : decode cX16_over 6 = .ok (.bipush 97, 2) := by decide +kernel
theorem dX16_over_8 : decode cX16_over 8 = .ok (.if_icmp .eq 21, 3) := by decide +kernel
theorem dX16_over_11 : decode cX16_over 11 = .ok (.iload_n 2, 1) := by decide +kernel
theorem dX16_over_12 : decode cX16_over 12 = .ok (.bipush 100, 2) := by decide +kernel
theorem dX16_over_14 : decode cX16_over 14 = .ok (.if_icmp .eq 15, 3) := by decide +kernel
theorem dX16_over_17 : decode cX16_over 17 = .ok (.iload_n 2, 1) := by decide +kernel
theorem dX16_over_18 : decode cX16_over 18 = .ok (.bipush 107, 2) := by decide +kernel
theorem dX16_over_20 : decode cX16_over 20 = .ok (.if_icmp .eq 9, 3) := by decide +kernel
theorem dX16_over_23 : decode cX16_over 23 = .ok (.iload_n 2, 1) := by decide +kernel
theorem dX16_over_24 : decode cX16_over 24 = .ok (.bipush 116, 2) := by decide +kernel
theorem dX16_over_26 : decode cX16_over 26 = .ok (.if_icmp .ne 7, 3) := by decide +kernel
theorem dX16_over_29 : decode cX16_over 29 = .ok (.iconst 1, 1) := by decide +kernel
theorem dX16_over_30 : decode cX16_over 30 = .ok (.goto 4, 3) := by decide +kernel
theorem dX16_over_33 : decode cX16_over 33 = .ok (.iconst 0, 1) := by decide +kernel
theorem dX16_over_34 : decode cX16_over 34 = .ok (.istore 4, 2) := by decide +kernel
theorem dX16_over_36 : decode cX16_over 36 = .ok (.iload_n 2, 1) := by decide +kernel
theorem dX16_over_37 : decode cX16_over 37 = .ok (.bipush 107, 2) := by decide +kernel
theorem dX16_over_39 : decode cX16_over 39 = .ok (.if_icmp .ne 7, 3) := by decide +kernel
theorem dX16_over_42 : decode cX16_over 42 = .ok (.iconst 1, 1) := by decide +kernel
theorem dX16_over_43 : decode cX16_over 43 = .ok (.goto 15, 3) := by decide +kernel
theorem dX16_over_46 : decode cX16_over 46 = .ok (.iload_n 2, 1) := by decide +kernel
theorem dX16_over_47 : decode cX16_over 47 = .ok (.bipush 116, 2) := by decide +kernel
theorem dX16_over_49 : decode cX16_over 49 = .ok (.if_icmp .ne 7, 3) := by decide +kernel
theorem dX16_over_52 : decode cX16_over 52 = .ok (.iconst 0, 1) := by decide +kernel
theorem dX16_over_53 : decode cX16_over 53 = .ok (.goto 5, 3) := by decide +kernel
theorem dX16_over_56 : decode cX16_over 56 = .ok (.bipush (-99), 2) := by decide +kernel
theorem dX16_over_58 : decode cX16_over 58 = .ok (.istore 5, 2) := by decide +kernel
theorem dX16_over_60 : decode cX16_over 60 = .ok (.aload_n 0, 1) := by decide +kernel
theorem dX16_over_61 : decode cX16_over 61 = .ok (.aload_n 0, 1) := by decide +kernel
theorem dX16_over_62 : decode cX16_over 62 = .ok (.iload_n 1, 1) := by decide +kernel
theorem dX16_over_63 : decode cX16_over 63 = .ok (.invokevirtual 179, 3) := by decide +kernel
theorem dX16_over_66 : decode cX16_over 66 = .ok (.iconst 1, 1) := by decide +kernel
theorem dX16_over_67 : decode cX16_over 67 = .ok (.invokevirtual 102, 3) := by decide +kernel
theorem dX16_over_70 : decode cX16_over 70 = .ok (.ifCond .ne 57, 3) := by decide +kernel
theorem dX16_over_73 : decode cX16_over 73 = .ok (.aload_n 0, 1) := by decide +kernel
theorem dX16_over_74 : decode cX16_over 74 = .ok (.iload 4, 2) := by decide +kernel
theorem dX16_over_76 : decode cX16_over 76 = .ok (.ifCond .eq 14, 3) := by decide +kernel
theorem dX16_over_79 : decode cX16_over 79 = .ok (.iload_n 3, 1) := by decide +kernel
theorem dX16_over_80 : decode cX16_over 80 = .ok (.iload 5, 2) := by decide +kernel
theorem dX16_over_82 : decode cX16_over 82 = .ok (.bipush 99, 2) := by decide +kernel
theorem dX16_over_84 : decode cX16_over 84 = .ok (.invokestatic 70, 3) := by decide +kernel
theorem dX16_over_87 : decode cX16_over 87 = .ok (.ifCond .ne 7, 3) := by decide +kernel
theorem dX16_over_90 : decode cX16_over 90 = .ok (.iconst 1, 1) := by decide +kernel
theorem dX16_over_91 : decode cX16_over 91 = .ok (.goto 4, 3) := by decide +kernel
theorem dX16_over_94 : decode cX16_over 94 = .ok (.iconst 0, 1) := by decide +kernel
theorem dX16_over_95 : decode cX16_over 95 = .ok (.iconst 2, 1) := by decide +kernel
theorem dX16_over_96 : decode cX16_over 96 = .ok (.invokevirtual 102, 3) := by decide +kernel
theorem dX16_over_99 : decode cX16_over 99 = .ok (.ifCond .ne 28, 3) := by decide +kernel
theorem dX16_over_102 : decode cX16_over 102 = .ok (.aload_n 0, 1) := by decide +kernel
theorem dX16_over_103 : decode cX16_over 103 = .ok (.aload_n 0, 1) := by decide +kernel
theorem dX16_over_104 : decode cX16_over 104 = .ok (.getfield 40, 3) := by decide +kernel
theorem dX16_over_107 : decode cX16_over 107 = .ok (.invokevirtual 168, 3) := by decide +kernel
theorem dX16_over_110 : decode cX16_over 110 = .ok (.bipush 12, 2) := by decide +kernel
theorem dX16_over_112 : decode cX16_over 112 = .ok (.if_icmp .ne 7, 3) := by decide +kernel
theorem dX16_over_115 : decode cX16_over 115 = .ok (.iconst 1, 1) := by decide +kernel
theorem dX16_over_116 : decode cX16_over 116 = .ok (.goto 4, 3) := by decide +kernel
theorem dX16_over_119 : decode cX16_over 119 = .ok (.iconst 0, 1) := by decide +kernel
theorem dX16_over_120 : decode cX16_over 120 = .ok (.iconst 3, 1) := by decide +kernel
theorem dX16_over_121 : decode cX16_over 121 = .ok (.invokevirtual 102, 3) := by decide +kernel
theorem dX16_over_124 : decode cX16_over 124 = .ok (.ifCond .eq 5, 3) := by decide +kernel
theorem dX16_over_127 : decode cX16_over 127 = .ok (.iconst 0, 1) := by decide +kernel
theorem dX16_over_128 : decode cX16_over 128 = .ok (.ireturn, 1) := by decide +kernel
theorem dX16_over_129 : decode cX16_over 129 = .ok (.aload_n 0, 1) := by decide +kernel
theorem dX16_over_130 : decode cX16_over 130 = .ok (.getfield 40, 3) := by decide +kernel
theorem dX16_over_133 : decode cX16_over 133 = .ok (.new 170, 3) := by decide +kernel
theorem dX16_over_136 : decode cX16_over 136 = .ok (.dup, 1) := by decide +kernel
theorem dX16_over_137 : decode cX16_over 137 = .ok (.iload_n 2, 1) := by decide +kernel
theorem dX16_over_138 : decode cX16_over 138 = .ok (.iload_n 1, 1) := by decide +kernel
theorem dX16_over_139 : decode cX16_over 139 = .ok (.iload_n 3, 1) := by decide +kernel
theorem dX16_over_140 : decode cX16_over 140 = .ok (.iconst 0, 1) := by decide +kernel
theorem dX16_over_141 : decode cX16_over 141 = .ok (.iconst 0, 1) := by decide +kernel
theorem dX16_over_142 : decode cX16_over 142 = .ok (.invokespecial 172, 3) := by decide +kernel
theorem dX16_over_145 : decode cX16_over 145 = .ok (.invokevirtual 175, 3) := by decide +kernel
theorem dX16_over_148 : decode cX16_over 148 = .ok (.pop, 1) := by decide +kernel
theorem dX16_over_149 : decode cX16_over 149 = .ok (.aload_n 0, 1) := by decide +kernel
theorem dX16_over_150 : decode cX16_over 150 = .ok (.getfield 40, 3) := by decide +kernel
theorem dX16_over_153 : decode cX16_over 153 = .ok (.invokevirtual 168, 3) := by decide +kernel
theorem dX16_over_156 : decode cX16_over 156 = .ok (.iconst 1, 1) := by decide +kernel
theorem dX16_over_157 : decode cX16_over 157 = .ok (.isub, 1) := by decide +kernel
theorem dX16_over_158 : decode cX16_over 158 = .ok (.ireturn, 1) := by decide +kernel
theorem dX16_realise_0 : decode cX16_realise 0 = .ok (.aload_n 1, 1) := by decide +kernel
theorem dX16_realise_1 : decode cX16_realise 1 = .ok (.getfield 182, 3) := by decide +kernel
theorem dX16_realise_4 : decode cX16_realise 4 = .ok (.invokevirtual 168, 3) := by decide +kernel
theorem dX16_realise_7 : decode cX16_realise 7 = .ok (.istore_n 2, 1) := by decide +kernel
theorem dX16_realise_8 : decode cX16_realise 8 = .ok (.aload_n 1, 1) := by decide +kernel
theorem dX16_realise_9 : decode cX16_realise 9 = .ok (.getfield 185, 3) := by decide +kernel
theorem dX16_realise_12 : decode cX16_realise 12 = .ok (.bipush 114, 2) := by decide +kernel
theorem dX16_realise_14 : decode cX16_realise 14 = .ok (.if_icmp .ne 87, 3) := by decide +kernel
theorem dX16_realise_17 : decode cX16_realise 17 = .ok (.aload_n 1, 1) := by decide +kernel
theorem dX16_realise_18 : decode cX16_realise 18 = .ok (.getfield 189, 3) := by decide +kernel
theorem dX16_realise_21 : decode cX16_realise 21 = .ok (.iconst 4, 1) := by decide +kernel
theorem dX16_realise_22 : decode cX16_realise 22 = .ok (.iload_n 2, 1) := by decide +kernel
theorem dX16_realise_23 : decode cX16_realise 23 = .ok (.imul, 1) := by decide +kernel
theorem dX16_realise_24 : decode cX16_realise 24 = .ok (.isub, 1) := by decide +kernel
theorem dX16_realise_25 : decode cX16_realise 25 = .ok (.iconst 4, 1) := by decide +kernel
theorem dX16_realise_26 : decode cX16_realise 26 = .ok (.if_icmp .ge 14, 3) := by decide +kernel
theorem dX16_realise_29 : decode cX16_realise 29 = .ok (.aload_n 1, 1) := by decide +kernel
theorem dX16_realise_30 : decode cX16_realise 30 = .ok (.getfield 189, 3) := by decide +kernel
theorem dX16_realise_33 : decode cX16_realise 33 = .ok (.iconst 4, 1) := by decide +kernel
theorem dX16_realise_34 : decode cX16_realise 34 = .ok (.iload_n 2, 1) := by decide +kernel
theorem dX16_realise_35 : decode cX16_realise 35 = .ok (.imul, 1) := by decide +kernel
theorem dX16_realise_36 : decode cX16_realise 36 = .ok (.isub, 1) := by decide +kernel
theorem dX16_realise_37 : decode cX16_realise 37 = .ok (.goto 4, 3) := by decide +kernel
theorem dX16_realise_40 : decode cX16_realise 40 = .ok (.iconst 4, 1) := by decide +kernel
theorem dX16_realise_41 : decode cX16_realise 41 = .ok (.istore_n 3, 1) := by decide +kernel
theorem dX16_realise_42 : decode cX16_realise 42 = .ok (.iload_n 3, 1) := by decide +kernel
theorem dX16_realise_43 : decode cX16_realise 43 = .ok (.ifCond .gt 5, 3) := by decide +kernel
theorem dX16_realise_46 : decode cX16_realise 46 = .ok (.iconst 0, 1) := by decide +kernel
theorem dX16_realise_47 : decode cX16_realise 47 = .ok (.ireturn, 1) := by decide +kernel
theorem dX16_realise_48 : decode cX16_realise 48 = .ok (.iload_n 3, 1) := by decide +kernel
theorem dX16_realise_49 : decode cX16_realise 49 = .ok (.newarray .int, 2) := by decide +kernel
theorem dX16_realise_51 : decode cX16_realise 51 = .ok (.astore 4, 2) := by decide +kernel
theorem dX16_realise_53 : decode cX16_realise 53 = .ok (.iconst 0, 1) := by decide +kernel
theorem dX16_realise_54 : decode cX16_realise 54 = .ok (.istore 5, 2) := by decide +kernel
theorem dX16_realise_56 : decode cX16_realise 56 = .ok (.iload 5, 2) := by decide +kernel
theorem dX16_realise_58 : decode cX16_realise 58 = .ok (.iload_n 3, 1) := by decide +kernel
theorem dX16_realise_59 : decode cX16_realise 59 = .ok (.if_icmp .ge 30, 3) := by decide +kernel
theorem dX16_realise_62 : decode cX16_realise 62 = .ok (.aload 4, 2) := by decide +kernel
theorem dX16_realise_64 : decode cX16_realise 64 = .ok (.iload 5, 2) := by decide +kernel
theorem dX16_realise_66 : decode cX16_realise 66 = .ok (.aload_n 1, 1) := by decide +kernel
theorem dX16_realise_67 : decode cX16_realise 67 = .ok (.getfield 192, 3) := by decide +kernel
theorem dX16_realise_70 : decode cX16_realise 70 = .ok (.aload_n 1, 1) := by decide +kernel
theorem dX16_realise_71 : decode cX16_realise 71 = .ok (.getfield 195, 3) := by decide +kernel
theorem dX16_realise_74 : decode cX16_realise 74 = .ok (.iconst 4, 1) := by decide +kernel
theorem dX16_realise_75 : decode cX16_realise 75 = .ok (.iload_n 2, 1) := by decide +kernel
theorem dX16_realise_76 : decode cX16_realise 76 = .ok (.imul, 1) := by decide +kernel
theorem dX16_realise_77 : decode cX16_realise 77 = .ok (.iload 5, 2) := by decide +kernel
theorem dX16_realise_79 : decode cX16_realise 79 = .ok (.iadd, 1) := by decide +kernel
theorem dX16_realise_80 : decode cX16_realise 80 = .ok (.imul, 1) := by decide +kernel
theorem dX16_realise_81 : decode cX16_realise 81 = .ok (.iadd, 1) := by decide +kernel
theorem dX16_realise_82 : decode cX16_realise 82 = .ok (.iastore, 1) := by decide +kernel
theorem dX16_realise_83 : decode cX16_realise 83 = .ok (.iinc 5 1, 3) := by decide +kernel
theorem dX16_realise_86 : decode cX16_realise 86 = .ok (.goto (-30), 3) := by decide +kernel
theorem dX16_realise_89 : decode cX16_realise 89 = .ok (.aload_n 1, 1) := by decide +kernel
theorem dX16_realise_90 : decode cX16_realise 90 = .ok (.getfield 182, 3) := by decide +kernel
theorem dX16_realise_93 : decode cX16_realise 93 = .ok (.aload 4, 2) := by decide +kernel
theorem dX16_realise_95 : decode cX16_realise 95 = .ok (.invokevirtual 175, 3) := by decide +kernel
theorem dX16_realise_98 : decode cX16_realise 98 = .ok (.pop, 1) := by decide +kernel
theorem dX16_realise_99 : decode cX16_realise 99 = .ok (.iconst 1, 1) := by decide +kernel
theorem dX16_realise_100 : decode cX16_realise 100 = .ok (.ireturn, 1) := by decide +kernel
theorem dX16_realise_101 : decode cX16_realise 101 = .ok (.aload_n 0, 1) := by decide +kernel
theorem dX16_realise_102 : decode cX16_realise 102 = .ok (.getfield 40, 3) := by decide +kernel
theorem dX16_realise_105 : decode cX16_realise 105 = .ok (.aload_n 1, 1) := by decide +kernel
theorem dX16_realise_106 : decode cX16_realise 106 = .ok (.getfield 198, 3) := by decide +kernel
theorem dX16_realise_109 : decode cX16_realise 109 = .ok (.invokevirtual 201, 3) := by decide +kernel
theorem dX16_realise_112 : decode cX16_realise 112 = .ok (.checkcast 170, 3) := by decide +kernel
theorem dX16_realise_115 : decode cX16_realise 115 = .ok (.astore_n 3, 1) := by decide +kernel
theorem dX16_realise_116 : decode cX16_realise 116 = .ok (.aload_n 1, 1) := by decide +kernel
theorem dX16_realise_117 : decode cX16_realise 117 = .ok (.getfield 185, 3) := by decide +kernel
theorem dX16_realise_120 : decode cX16_realise 120 = .ok (.bipush 116, 2) := by decide +kernel
theorem dX16_realise_122 : decode cX16_realise 122 = .ok (.if_icmp .ne 13, 3) := by decide +kernel
theorem dX16_realise_125 : decode cX16_realise 125 = .ok (.aload_n 0, 1) := by decide +kernel
theorem dX16_realise_126 : decode cX16_realise 126 = .ok (.aload_n 1, 1) := by decide +kernel
theorem dX16_realise_127 : decode cX16_realise 127 = .ok (.aload_n 3, 1) := by decide +kernel
theorem dX16_realise_128 : decode cX16_realise 128 = .ok (.iload_n 2, 1) := by decide +kernel
theorem dX16_realise_129 : decode cX16_realise 129 = .ok (.invokevirtual 204, 3) := by decide +kernel
theorem dX16_realise_132 : decode cX16_realise 132 = .ok (.goto 10, 3) := by decide +kernel
theorem dX16_realise_135 : decode cX16_realise 135 = .ok (.aload_n 0, 1) := by decide +kernel
theorem dX16_realise_136 : decode cX16_realise 136 = .ok (.aload_n 1, 1) := by decide +kernel
theorem dX16_realise_137 : decode cX16_realise 137 = .ok (.aload_n 3, 1) := by decide +kernel
theorem dX16_realise_138 : decode cX16_realise 138 = .ok (.iload_n 2, 1) := by decide +kernel
theorem dX16_realise_139 : decode cX16_realise 139 = .ok (.invokevirtual 208, 3) := by decide +kernel
theorem dX16_realise_142 : decode cX16_realise 142 = .ok (.ireturn, 1) := by decide +kernel
theorem dX16_realiseOne_0 : decode cX16_realiseOne 0 = .ok (.iload_n 3, 1) := by decide +kernel
theorem dX16_realiseOne_1 : decode cX16_realiseOne 1 = .ok (.aload_n 1, 1) := by decide +kernel
theorem dX16_realiseOne_2 : decode cX16_realiseOne 2 = .ok (.getfield 192, 3) := by decide +kernel
theorem dX16_realiseOne_5 : decode cX16_realiseOne 5 = .ok (.if_icmp .ne 5, 3) := by decide +kernel
theorem dX16_realiseOne_8 : decode cX16_realiseOne 8 = .ok (.iconst 0, 1) := by decide +kernel
theorem dX16_realiseOne_9 : decode cX16_realiseOne 9 = .ok (.ireturn, 1) := by decide +kernel
theorem dX16_realiseOne_10 : decode cX16_realiseOne 10 = .ok (.aload_n 2, 1) := by decide +kernel
theorem dX16_realiseOne_11 : decode cX16_realiseOne 11 = .ok (.invokevirtual 211, 3) := by decide +kernel
theorem dX16_realiseOne_14 : decode cX16_realiseOne 14 = .ok (.iload_n 3, 1) := by decide +kernel
theorem dX16_realiseOne_15 : decode cX16_realiseOne 15 = .ok (.if_icmp .gt 22, 3) := by decide +kernel
theorem dX16_realiseOne_18 : decode cX16_realiseOne 18 = .ok (.aload_n 0, 1) := by decide +kernel
theorem dX16_realiseOne_19 : decode cX16_realiseOne 19 = .ok (.aload_n 2, 1) := by decide +kernel
theorem dX16_realiseOne_20 : decode cX16_realiseOne 20 = .ok (.invokevirtual 214, 3) := by decide +kernel
theorem dX16_realiseOne_23 : decode cX16_realiseOne 23 = .ok (.istore 4, 2) := by decide +kernel
theorem dX16_realiseOne_25 : decode cX16_realiseOne 25 = .ok (.iload 4, 2) := by decide +kernel
theorem dX16_realiseOne_27 : decode cX16_realiseOne 27 = .ok (.iconst 1, 1) := by decide +kernel
theorem dX16_realiseOne_28 : decode cX16_realiseOne 28 = .ok (.if_icmp .eq 6, 3) := by decide +kernel
theorem dX16_realiseOne_31 : decode cX16_realiseOne 31 = .ok (.iload 4, 2) := by decide +kernel
theorem dX16_realiseOne_33 : decode cX16_realiseOne 33 = .ok (.ireturn, 1) := by decide +kernel
theorem dX16_realiseOne_34 : decode cX16_realiseOne 34 = .ok (.goto (-24), 3) := by decide +kernel
theorem dX16_realiseOne_37 : decode cX16_realiseOne 37 = .ok (.iconst 1, 1) := by decide +kernel
theorem dX16_realiseOne_38 : decode cX16_realiseOne 38 = .ok (.newarray .int, 2) := by decide +kernel
theorem dX16_realiseOne_40 : decode cX16_realiseOne 40 = .ok (.dup, 1) := by decide +kernel
theorem dX16_realiseOne_41 : decode cX16_realiseOne 41 = .ok (.iconst 0, 1) := by decide +kernel
theorem dX16_realiseOne_42 : decode cX16_realiseOne 42 = .ok (.aload_n 2, 1) := by decide +kernel
theorem dX16_realiseOne_43 : decode cX16_realiseOne 43 = .ok (.iload_n 3, 1) := by decide +kernel
theorem dX16_realiseOne_44 : decode cX16_realiseOne 44 = .ok (.invokevirtual 218, 3) := by decide +kernel
theorem dX16_realiseOne_47 : decode cX16_realiseOne 47 = .ok (.iastore, 1) := by decide +kernel
theorem dX16_realiseOne_48 : decode cX16_realiseOne 48 = .ok (.astore 4, 2) := by decide +kernel
theorem dX16_realiseOne_50 : decode cX16_realiseOne 50 = .ok (.aload_n 1, 1) := by decide +kernel
theorem dX16_realiseOne_51 : decode cX16_realiseOne 51 = .ok (.getfield 182, 3) := by decide +kernel
theorem dX16_realiseOne_54 : decode cX16_realiseOne 54 = .ok (.aload 4, 2) := by decide +kernel
theorem dX16_realiseOne_56 : decode cX16_realiseOne 56 = .ok (.invokevirtual 175, 3) := by decide +kernel
theorem dX16_realiseOne_59 : decode cX16_realiseOne 59 = .ok (.pop, 1) := by decide +kernel
theorem dX16_realiseOne_60 : decode cX16_realiseOne 60 = .ok (.iconst 1, 1) := by decide +kernel
theorem dX16_realiseOne_61 : decode cX16_realiseOne 61 = .ok (.ireturn, 1) := by decide +kernel
theorem dX16_realiseLike_0 : decode cX16_realiseLike 0 = .ok (.aload_n 2, 1) := by decide +kernel
theorem dX16_realiseLike_1 : decode cX16_realiseLike 1 = .ok (.getfield 182, 3) := by decide +kernel
theorem dX16_realiseLike_4 : decode cX16_realiseLike 4 = .ok (.invokevirtual 168, 3) := by decide +kernel
theorem dX16_realiseLike_7 : decode cX16_realiseLike 7 = .ok (.iload_n 3, 1) := by decide +kernel
theorem dX16_realiseLike_8 : decode cX16_realiseLike 8 = .ok (.if_icmp .gt 19, 3) := by decide +kernel
theorem dX16_realiseLike_11 : decode cX16_realiseLike 11 = .ok (.aload_n 0, 1) := by decide +kernel
theorem dX16_realiseLike_12 : decode cX16_realiseLike 12 = .ok (.aload_n 2, 1) := by decide +kernel
theorem dX16_realiseLike_13 : decode cX16_realiseLike 13 = .ok (.invokevirtual 214, 3) := by decide +kernel
theorem dX16_realiseLike_16 : decode cX16_realiseLike 16 = .ok (.istore 4, 2) := by decide +kernel
theorem dX16_realiseLike_18 : decode cX16_realiseLike 18 = .ok (.iload 4, 2) := by decide +kernel
theorem dX16_realiseLike_20 : decode cX16_realiseLike 20 = .ok (.iconst 1, 1) := by decide +kernel
theorem dX16_realiseLike_21 : decode cX16_realiseLike 21 = .ok (.if_icmp .eq 6, 3) := by decide +kernel
theorem dX16_realiseLike_24 : decode cX16_realiseLike 24 = .ok (.iload 4, 2) := by decide +kernel
theorem dX16_realiseLike_26 : decode cX16_realiseLike 26 = .ok (.ireturn, 1) := by decide +kernel
theorem dX16_realiseLike_27 : decode cX16_realiseLike 27 = .ok (.aload_n 2, 1) := by decide +kernel
theorem dX16_realiseLike_28 : decode cX16_realiseLike 28 = .ok (.getfield 182, 3) := by decide +kernel
theorem dX16_realiseLike_31 : decode cX16_realiseLike 31 = .ok (.iload_n 3, 1) := by decide +kernel
theorem dX16_realiseLike_32 : decode cX16_realiseLike 32 = .ok (.invokevirtual 201, 3) := by decide +kernel
theorem dX16_realiseLike_35 : decode cX16_realiseLike 35 = .ok (.checkcast 221, 3) := by decide +kernel
theorem dX16_realiseLike_38 : decode cX16_realiseLike 38 = .ok (.astore 4, 2) := by decide +kernel
theorem dX16_realiseLike_40 : decode cX16_realiseLike 40 = .ok (.iconst 0, 1) := by decide +kernel
theorem dX16_realiseLike_41 : decode cX16_realiseLike 41 = .ok (.istore 5, 2) := by decide +kernel
theorem dX16_realiseLike_43 : decode cX16_realiseLike 43 = .ok (.aload 4, 2) := by decide +kernel
theorem dX16_realiseLike_45 : decode cX16_realiseLike 45 = .ok (.astore 6, 2) := by decide +kernel
theorem dX16_realiseLike_47 : decode cX16_realiseLike 47 = .ok (.aload 6, 2) := by decide +kernel
theorem dX16_realiseLike_49 : decode cX16_realiseLike 49 = .ok (.arraylength, 1) := by decide +kernel
theorem dX16_realiseLike_50 : decode cX16_realiseLike 50 = .ok (.istore 7, 2) := by decide +kernel
theorem dX16_realiseLike_52 : decode cX16_realiseLike 52 = .ok (.iconst 0, 1) := by decide +kernel
theorem dX16_realiseLike_53 : decode cX16_realiseLike 53 = .ok (.istore 8, 2) := by decide +kernel
theorem dX16_realiseLike_55 : decode cX16_realiseLike 55 = .ok (.iload 8, 2) := by decide +kernel
theorem dX16_realiseLike_57 : decode cX16_realiseLike 57 = .ok (.iload 7, 2) := by decide +kernel
theorem dX16_realiseLike_59 : decode cX16_realiseLike 59 = .ok (.if_icmp .ge 61, 3) := by decide +kernel
theorem dX16_realiseLike_62 : decode cX16_realiseLike 62 = .ok (.aload 6, 2) := by decide +kernel
theorem dX16_realiseLike_64 : decode cX16_realiseLike 64 = .ok (.iload 8, 2) := by decide +kernel
theorem dX16_realiseLike_66 : decode cX16_realiseLike 66 = .ok (.iaload, 1) := by decide +kernel
theorem dX16_realiseLike_67 : decode cX16_realiseLike 67 = .ok (.istore 9, 2) := by decide +kernel
theorem dX16_realiseLike_69 : decode cX16_realiseLike 69 = .ok (.aload_n 1, 1) := by decide +kernel
theorem dX16_realiseLike_70 : decode cX16_realiseLike 70 = .ok (.getfield 185, 3) := by decide +kernel
theorem dX16_realiseLike_73 : decode cX16_realiseLike 73 = .ok (.bipush 100, 2) := by decide +kernel
theorem dX16_realiseLike_75 : decode cX16_realiseLike 75 = .ok (.if_icmp .ne 10, 3) := by decide +kernel
theorem dX16_realiseLike_78 : decode cX16_realiseLike 78 = .ok (.iload 9, 2) := by decide +kernel
theorem dX16_realiseLike_80 : decode cX16_realiseLike 80 = .ok (.ifCond .ne 5, 3) := by decide +kernel
theorem dX16_realiseLike_83 : decode cX16_realiseLike 83 = .ok (.iconst (-1), 1) := by decide +kernel
theorem dX16_realiseLike_84 : decode cX16_realiseLike 84 = .ok (.ireturn, 1) := by decide +kernel
theorem dX16_realiseLike_85 : decode cX16_realiseLike 85 = .ok (.iload 5, 2) := by decide +kernel
theorem dX16_realiseLike_87 : decode cX16_realiseLike 87 = .ok (.aload_n 1, 1) := by decide +kernel
theorem dX16_realiseLike_88 : decode cX16_realiseLike 88 = .ok (.getfield 185, 3) := by decide +kernel
theorem dX16_realiseLike_91 : decode cX16_realiseLike 91 = .ok (.bipush 107, 2) := by decide +kernel
theorem dX16_realiseLike_93 : decode cX16_realiseLike 93 = .ok (.if_icmp .ne 13, 3) := by decide +kernel
theorem dX16_realiseLike_96 : decode cX16_realiseLike 96 = .ok (.iload 9, 2) := by decide +kernel
theorem dX16_realiseLike_98 : decode cX16_realiseLike 98 = .ok (.aload_n 1, 1) := by decide +kernel
theorem dX16_realiseLike_99 : decode cX16_realiseLike 99 = .ok (.getfield 192, 3) := by decide +kernel
theorem dX16_realiseLike_102 : decode cX16_realiseLike 102 = .ok (.irem, 1) := by decide +kernel
theorem dX16_realiseLike_103 : decode cX16_realiseLike 103 = .ok (.ifCond .ne 7, 3) := by decide +kernel
theorem dX16_realiseLike_106 : decode cX16_realiseLike 106 = .ok (.iconst 1, 1) := by decide +kernel
theorem dX16_realiseLike_107 : decode cX16_realiseLike 107 = .ok (.goto 4, 3) := by decide +kernel
theorem dX16_realiseLike_110 : decode cX16_realiseLike 110 = .ok (.iconst 0, 1) := by decide +kernel
theorem dX16_realiseLike_111 : decode cX16_realiseLike 111 = .ok (.iadd, 1) := by decide +kernel
theorem dX16_realiseLike_112 : decode cX16_realiseLike 112 = .ok (.istore 5, 2) := by decide +kernel
theorem dX16_realiseLike_114 : decode cX16_realiseLike 114 = .ok (.iinc 8 1, 3) := by decide +kernel
theorem dX16_realiseLike_117 : decode cX16_realiseLike 117 = .ok (.goto (-62), 3) := by decide +kernel
theorem dX16_realiseLike_120 : decode cX16_realiseLike 120 = .ok (.iload 5, 2) := by decide +kernel
theorem dX16_realiseLike_122 : decode cX16_realiseLike 122 = .ok (.newarray .int, 2) := by decide +kernel
theorem dX16_realiseLike_124 : decode cX16_realiseLike 124 = .ok (.astore 6, 2) := by decide +kernel
theorem dX16_realiseLike_126 : decode cX16_realiseLike 126 = .ok (.iconst 0, 1) := by decide +kernel
theorem dX16_realiseLike_127 : decode cX16_realiseLike 127 = .ok (.istore 7, 2) := by decide +kernel
theorem dX16_realiseLike_129 : decode cX16_realiseLike 129 = .ok (.aload 4, 2) := by decide +kernel
theorem dX16_realiseLike_131 : decode cX16_realiseLike 131 = .ok (.astore 8, 2) := by decide +kernel
theorem dX16_realiseLike_133 : decode cX16_realiseLike 133 = .ok (.aload 8, 2) := by decide +kernel
theorem dX16_realiseLike_135 : decode cX16_realiseLike 135 = .ok (.arraylength, 1) := by decide +kernel
theorem dX16_realiseLike_136 : decode cX16_realiseLike 136 = .ok (.istore 9, 2) := by decide +kernel
theorem dX16_realiseLike_138 : decode cX16_realiseLike 138 = .ok (.iconst 0, 1) := by decide +kernel
theorem dX16_realiseLike_139 : decode cX16_realiseLike 139 = .ok (.istore 10, 2) := by decide +kernel
theorem dX16_realiseLike_141 : decode cX16_realiseLike 141 = .ok (.iload 10, 2) := by decide +kernel
theorem dX16_realiseLike_143 : decode cX16_realiseLike 143 = .ok (.iload 9, 2) := by decide +kernel
theorem dX16_realiseLike_145 : decode cX16_realiseLike 145 = .ok (.if_icmp .ge 83, 3) := by decide +kernel
theorem dX16_realiseLike_148 : decode cX16_realiseLike 148 = .ok (.aload 8, 2) := by decide +kernel
theorem dX16_realiseLike_150 : decode cX16_realiseLike 150 = .ok (.iload 10, 2) := by decide +kernel
theorem dX16_realiseLike_152 : decode cX16_realiseLike 152 = .ok (.iaload, 1) := by decide +kernel
theorem dX16_realiseLike_153 : decode cX16_realiseLike 153 = .ok (.istore 11, 2) := by decide +kernel
theorem dX16_realiseLike_155 : decode cX16_realiseLike 155 = .ok (.aload_n 1, 1) := by decide +kernel
theorem dX16_realiseLike_156 : decode cX16_realiseLike 156 = .ok (.getfield 185, 3) := by decide +kernel
theorem dX16_realiseLike_159 : decode cX16_realiseLike 159 = .ok (.bipush 107, 2) := by decide +kernel
theorem dX16_realiseLike_161 : decode cX16_realiseLike 161 = .ok (.if_icmp .ne 13, 3) := by decide +kernel
theorem dX16_realiseLike_164 : decode cX16_realiseLike 164 = .ok (.iload 11, 2) := by decide +kernel
theorem dX16_realiseLike_166 : decode cX16_realiseLike 166 = .ok (.aload_n 1, 1) := by decide +kernel
theorem dX16_realiseLike_167 : decode cX16_realiseLike 167 = .ok (.getfield 192, 3) := by decide +kernel
theorem dX16_realiseLike_170 : decode cX16_realiseLike 170 = .ok (.irem, 1) := by decide +kernel
theorem dX16_realiseLike_171 : decode cX16_realiseLike 171 = .ok (.ifCond .ne 51, 3) := by decide +kernel
theorem dX16_realiseLike_174 : decode cX16_realiseLike 174 = .ok (.aload 6, 2) := by decide +kernel
theorem dX16_realiseLike_176 : decode cX16_realiseLike 176 = .ok (.iload 7, 2) := by decide +kernel
theorem dX16_realiseLike_178 : decode cX16_realiseLike 178 = .ok (.aload_n 1, 1) := by decide +kernel
theorem dX16_realiseLike_179 : decode cX16_realiseLike 179 = .ok (.getfield 185, 3) := by decide +kernel
theorem dX16_realiseLike_182 : decode cX16_realiseLike 182 = .ok (.bipush 97, 2) := by decide +kernel
theorem dX16_realiseLike_184 : decode cX16_realiseLike 184 = .ok (.if_icmp .ne 13, 3) := by decide +kernel
theorem dX16_realiseLike_187 : decode cX16_realiseLike 187 = .ok (.iload 11, 2) := by decide +kernel
theorem dX16_realiseLike_189 : decode cX16_realiseLike 189 = .ok (.aload_n 1, 1) := by decide +kernel
theorem dX16_realiseLike_190 : decode cX16_realiseLike 190 = .ok (.getfield 192, 3) := by decide +kernel
theorem dX16_realiseLike_193 : decode cX16_realiseLike 193 = .ok (.iadd, 1) := by decide +kernel
theorem dX16_realiseLike_194 : decode cX16_realiseLike 194 = .ok (.goto 24, 3) := by decide +kernel
theorem dX16_realiseLike_197 : decode cX16_realiseLike 197 = .ok (.aload_n 1, 1) := by decide +kernel
theorem dX16_realiseLike_198 : decode cX16_realiseLike 198 = .ok (.getfield 185, 3) := by decide +kernel
theorem dX16_realiseLike_201 : decode cX16_realiseLike 201 = .ok (.bipush 100, 2) := by decide +kernel
theorem dX16_realiseLike_203 : decode cX16_realiseLike 203 = .ok (.if_icmp .ne 13, 3) := by decide +kernel
theorem dX16_realiseLike_206 : decode cX16_realiseLike 206 = .ok (.aload_n 1, 1) := by decide +kernel
theorem dX16_realiseLike_207 : decode cX16_realiseLike 207 = .ok (.getfield 192, 3) := by decide +kernel
theorem dX16_realiseLike_210 : decode cX16_realiseLike 210 = .ok (.iload 11, 2) := by decide +kernel
theorem dX16_realiseLike_212 : decode cX16_realiseLike 212 = .ok (.idiv, 1) := by decide +kernel
theorem dX16_realiseLike_213 : decode cX16_realiseLike 213 = .ok (.goto 5, 3) := by decide +kernel
theorem dX16_realiseLike_216 : decode cX16_realiseLike 216 = .ok (.iload 11, 2) := by decide +kernel
theorem dX16_realiseLike_218 : decode cX16_realiseLike 218 = .ok (.iastore, 1) := by decide +kernel
theorem dX16_realiseLike_219 : decode cX16_realiseLike 219 = .ok (.iinc 7 1, 3) := by decide +kernel
theorem dX16_realiseLike_222 : decode cX16_realiseLike 222 = .ok (.iinc 10 1, 3) := by decide +kernel
theorem dX16_realiseLike_225 : decode cX16_realiseLike 225 = .ok (.goto (-84), 3) := by decide +kernel
theorem dX16_realiseLike_228 : decode cX16_realiseLike 228 = .ok (.aload_n 1, 1) := by decide +kernel
theorem dX16_realiseLike_229 : decode cX16_realiseLike 229 = .ok (.getfield 182, 3) := by decide +kernel
theorem dX16_realiseLike_232 : decode cX16_realiseLike 232 = .ok (.aload 6, 2) := by decide +kernel
theorem dX16_realiseLike_234 : decode cX16_realiseLike 234 = .ok (.invokevirtual 175, 3) := by decide +kernel
theorem dX16_realiseLike_237 : decode cX16_realiseLike 237 = .ok (.pop, 1) := by decide +kernel
theorem dX16_realiseLike_238 : decode cX16_realiseLike 238 = .ok (.iconst 1, 1) := by decide +kernel
theorem dX16_realiseLike_239 : decode cX16_realiseLike 239 = .ok (.ireturn, 1) := by decide +kernel
theorem dX16_keep_0 : decode cX16_keep 0 = .ok (.iconst 0, 1) := by decide +kernel
theorem dX16_keep_1 : decode cX16_keep 1 = .ok (.istore_n 1, 1) := by decide +kernel
theorem dX16_keep_2 : decode cX16_keep 2 = .ok (.iload_n 1, 1) := by decide +kernel
theorem dX16_keep_3 : decode cX16_keep 3 = .ok (.aload_n 0, 1) := by decide +kernel
theorem dX16_keep_4 : decode cX16_keep 4 = .ok (.getfield 40, 3) := by decide +kernel
theorem dX16_keep_7 : decode cX16_keep 7 = .ok (.invokevirtual 168, 3) := by decide +kernel
theorem dX16_keep_10 : decode cX16_keep 10 = .ok (.if_icmp .ge 32, 3) := by decide +kernel
theorem dX16_keep_13 : decode cX16_keep 13 = .ok (.aload_n 0, 1) := by decide +kernel
theorem dX16_keep_14 : decode cX16_keep 14 = .ok (.getfield 44, 3) := by decide +kernel
theorem dX16_keep_17 : decode cX16_keep 17 = .ok (.iload_n 1, 1) := by decide +kernel
theorem dX16_keep_18 : decode cX16_keep 18 = .ok (.aload_n 0, 1) := by decide +kernel
theorem dX16_keep_19 : decode cX16_keep 19 = .ok (.getfield 40, 3) := by decide +kernel
theorem dX16_keep_22 : decode cX16_keep 22 = .ok (.iload_n 1, 1) := by decide +kernel
theorem dX16_keep_23 : decode cX16_keep 23 = .ok (.invokevirtual 201, 3) := by decide +kernel
theorem dX16_keep_26 : decode cX16_keep 26 = .ok (.checkcast 170, 3) := by decide +kernel
theorem dX16_keep_29 : decode cX16_keep 29 = .ok (.getfield 182, 3) := by decide +kernel
theorem dX16_keep_32 : decode cX16_keep 32 = .ok (.invokevirtual 168, 3) := by decide +kernel
theorem dX16_keep_35 : decode cX16_keep 35 = .ok (.iastore, 1) := by decide +kernel
theorem dX16_keep_36 : decode cX16_keep 36 = .ok (.iinc 1 1, 3) := by decide +kernel
theorem dX16_keep_39 : decode cX16_keep 39 = .ok (.goto (-37), 3) := by decide +kernel
theorem dX16_keep_42 : decode cX16_keep 42 = .ok (.return_, 1) := by decide +kernel
theorem dX16_takeBack_0 : decode cX16_takeBack 0 = .ok (.iconst 0, 1) := by decide +kernel
theorem dX16_takeBack_1 : decode cX16_takeBack 1 = .ok (.istore_n 1, 1) := by decide +kernel
theorem dX16_takeBack_2 : decode cX16_takeBack 2 = .ok (.iload_n 1, 1) := by decide +kernel
theorem dX16_takeBack_3 : decode cX16_takeBack 3 = .ok (.aload_n 0, 1) := by decide +kernel
theorem dX16_takeBack_4 : decode cX16_takeBack 4 = .ok (.getfield 40, 3) := by decide +kernel
theorem dX16_takeBack_7 : decode cX16_takeBack 7 = .ok (.invokevirtual 168, 3) := by decide +kernel
theorem dX16_takeBack_10 : decode cX16_takeBack 10 = .ok (.if_icmp .ge 51, 3) := by decide +kernel
theorem dX16_takeBack_13 : decode cX16_takeBack 13 = .ok (.aload_n 0, 1) := by decide +kernel
theorem dX16_takeBack_14 : decode cX16_takeBack 14 = .ok (.getfield 40, 3) := by decide +kernel
theorem dX16_takeBack_17 : decode cX16_takeBack 17 = .ok (.iload_n 1, 1) := by decide +kernel
theorem dX16_takeBack_18 : decode cX16_takeBack 18 = .ok (.invokevirtual 201, 3) := by decide +kernel
theorem dX16_takeBack_21 : decode cX16_takeBack 21 = .ok (.checkcast 170, 3) := by decide +kernel
theorem dX16_takeBack_24 : decode cX16_takeBack 24 = .ok (.getfield 182, 3) := by decide +kernel
theorem dX16_takeBack_27 : decode cX16_takeBack 27 = .ok (.astore_n 2, 1) := by decide +kernel
theorem dX16_takeBack_28 : decode cX16_takeBack 28 = .ok (.aload_n 2, 1) := by decide +kernel
theorem dX16_takeBack_29 : decode cX16_takeBack 29 = .ok (.invokevirtual 168, 3) := by decide +kernel
theorem dX16_takeBack_32 : decode cX16_takeBack 32 = .ok (.aload_n 0, 1) := by decide +kernel
theorem dX16_takeBack_33 : decode cX16_takeBack 33 = .ok (.getfield 44, 3) := by decide +kernel
theorem dX16_takeBack_36 : decode cX16_takeBack 36 = .ok (.iload_n 1, 1) := by decide +kernel
theorem dX16_takeBack_37 : decode cX16_takeBack 37 = .ok (.iaload, 1) := by decide +kernel
theorem dX16_takeBack_38 : decode cX16_takeBack 38 = .ok (.if_icmp .le 17, 3) := by decide +kernel
theorem dX16_takeBack_41 : decode cX16_takeBack 41 = .ok (.aload_n 2, 1) := by decide +kernel
theorem dX16_takeBack_42 : decode cX16_takeBack 42 = .ok (.aload_n 2, 1) := by decide +kernel
theorem dX16_takeBack_43 : decode cX16_takeBack 43 = .ok (.invokevirtual 168, 3) := by decide +kernel
theorem dX16_takeBack_46 : decode cX16_takeBack 46 = .ok (.iconst 1, 1) := by decide +kernel
theorem dX16_takeBack_47 : decode cX16_takeBack 47 = .ok (.isub, 1) := by decide +kernel
theorem dX16_takeBack_48 : decode cX16_takeBack 48 = .ok (.invokevirtual 222, 3) := by decide +kernel
theorem dX16_takeBack_51 : decode cX16_takeBack 51 = .ok (.pop, 1) := by decide +kernel
theorem dX16_takeBack_52 : decode cX16_takeBack 52 = .ok (.goto (-24), 3) := by decide +kernel
theorem dX16_takeBack_55 : decode cX16_takeBack 55 = .ok (.iinc 1 1, 3) := by decide +kernel
theorem dX16_takeBack_58 : decode cX16_takeBack 58 = .ok (.goto (-56), 3) := by decide +kernel
theorem dX16_takeBack_61 : decode cX16_takeBack 61 = .ok (.return_, 1) := by decide +kernel
theorem dX16_realiseTo_0 : decode cX16_realiseTo 0 = .ok (.iconst 1, 1) := by decide +kernel
theorem dX16_realiseTo_1 : decode cX16_realiseTo 1 = .ok (.istore_n 3, 1) := by decide +kernel
theorem dX16_realiseTo_2 : decode cX16_realiseTo 2 = .ok (.iload_n 3, 1) := by decide +kernel
theorem dX16_realiseTo_3 : decode cX16_realiseTo 3 = .ok (.iconst 1, 1) := by decide +kernel
theorem dX16_realiseTo_4 : decode cX16_realiseTo 4 = .ok (.if_icmp .ne 24, 3) := by decide +kernel
theorem dX16_realiseTo_7 : decode cX16_realiseTo 7 = .ok (.iload_n 2, 1) := by decide +kernel
theorem dX16_realiseTo_8 : decode cX16_realiseTo 8 = .ok (.ifCond .lt 11, 3) := by decide +kernel
theorem dX16_realiseTo_11 : decode cX16_realiseTo 11 = .ok (.aload_n 1, 1) := by decide +kernel
theorem dX16_realiseTo_12 : decode cX16_realiseTo 12 = .ok (.invokevirtual 211, 3) := by decide +kernel
theorem dX16_realiseTo_15 : decode cX16_realiseTo 15 = .ok (.iload_n 2, 1) := by decide +kernel
theorem dX16_realiseTo_16 : decode cX16_realiseTo 16 = .ok (.if_icmp .gt 12, 3) := by decide +kernel
theorem dX16_realiseTo_19 : decode cX16_realiseTo 19 = .ok (.aload_n 0, 1) := by decide +kernel
theorem dX16_realiseTo_20 : decode cX16_realiseTo 20 = .ok (.aload_n 1, 1) := by decide +kernel
theorem dX16_realiseTo_21 : decode cX16_realiseTo 21 = .ok (.invokevirtual 214, 3) := by decide +kernel
theorem dX16_realiseTo_24 : decode cX16_realiseTo 24 = .ok (.istore_n 3, 1) := by decide +kernel
theorem dX16_realiseTo_25 : decode cX16_realiseTo 25 = .ok (.goto (-23), 3) := by decide +kernel
theorem dX16_realiseTo_28 : decode cX16_realiseTo 28 = .ok (.iload_n 3, 1) := by decide +kernel
theorem dX16_realiseTo_29 : decode cX16_realiseTo 29 = .ok (.ireturn, 1) := by decide +kernel
theorem dX16_at_0 : decode cX16_at 0 = .ok (.aload_n 0, 1) := by decide +kernel
theorem dX16_at_1 : decode cX16_at 1 = .ok (.iconst 0, 1) := by decide +kernel
theorem dX16_at_2 : decode cX16_at 2 = .ok (.putfield 63, 3) := by decide +kernel
theorem dX16_at_5 : decode cX16_at 5 = .ok (.aload_n 0, 1) := by decide +kernel
theorem dX16_at_6 : decode cX16_at 6 = .ok (.aload_n 0, 1) := by decide +kernel
theorem dX16_at_7 : decode cX16_at 7 = .ok (.iload_n 1, 1) := by decide +kernel
theorem dX16_at_8 : decode cX16_at 8 = .ok (.invokevirtual 179, 3) := by decide +kernel
theorem dX16_at_11 : decode cX16_at 11 = .ok (.iconst 1, 1) := by decide +kernel
theorem dX16_at_12 : decode cX16_at 12 = .ok (.invokevirtual 102, 3) := by decide +kernel
theorem dX16_at_15 : decode cX16_at 15 = .ok (.ifCond .eq 5, 3) := by decide +kernel
theorem dX16_at_18 : decode cX16_at 18 = .ok (.iconst 0, 1) := by decide +kernel
theorem dX16_at_19 : decode cX16_at 19 = .ok (.ireturn, 1) := by decide +kernel
theorem dX16_at_20 : decode cX16_at 20 = .ok (.aload_n 0, 1) := by decide +kernel
theorem dX16_at_21 : decode cX16_at 21 = .ok (.invokevirtual 225, 3) := by decide +kernel
theorem dX16_at_24 : decode cX16_at 24 = .ok (.aload_n 0, 1) := by decide +kernel
theorem dX16_at_25 : decode cX16_at 25 = .ok (.aload_n 0, 1) := by decide +kernel
theorem dX16_at_26 : decode cX16_at 26 = .ok (.getfield 40, 3) := by decide +kernel
theorem dX16_at_29 : decode cX16_at 29 = .ok (.iload_n 1, 1) := by decide +kernel
theorem dX16_at_30 : decode cX16_at 30 = .ok (.invokevirtual 201, 3) := by decide +kernel
theorem dX16_at_33 : decode cX16_at 33 = .ok (.checkcast 170, 3) := by decide +kernel
theorem dX16_at_36 : decode cX16_at 36 = .ok (.iload_n 2, 1) := by decide +kernel
theorem dX16_at_37 : decode cX16_at 37 = .ok (.invokevirtual 228, 3) := by decide +kernel
theorem dX16_at_40 : decode cX16_at 40 = .ok (.istore_n 3, 1) := by decide +kernel
theorem dX16_at_41 : decode cX16_at 41 = .ok (.iload_n 3, 1) := by decide +kernel
theorem dX16_at_42 : decode cX16_at 42 = .ok (.iconst 1, 1) := by decide +kernel
theorem dX16_at_43 : decode cX16_at 43 = .ok (.if_icmp .eq 7, 3) := by decide +kernel
theorem dX16_at_46 : decode cX16_at 46 = .ok (.aload_n 0, 1) := by decide +kernel
theorem dX16_at_47 : decode cX16_at 47 = .ok (.invokevirtual 232, 3) := by decide +kernel
theorem dX16_at_50 : decode cX16_at 50 = .ok (.aload_n 0, 1) := by decide +kernel
theorem dX16_at_51 : decode cX16_at 51 = .ok (.iload_n 3, 1) := by decide +kernel
theorem dX16_at_52 : decode cX16_at 52 = .ok (.ifCond .ge 7, 3) := by decide +kernel
theorem dX16_at_55 : decode cX16_at 55 = .ok (.iconst 1, 1) := by decide +kernel
theorem dX16_at_56 : decode cX16_at 56 = .ok (.goto 4, 3) := by decide +kernel
theorem dX16_at_59 : decode cX16_at 59 = .ok (.iconst 0, 1) := by decide +kernel
theorem dX16_at_60 : decode cX16_at 60 = .ok (.iconst 2, 1) := by decide +kernel
theorem dX16_at_61 : decode cX16_at 61 = .ok (.invokevirtual 102, 3) := by decide +kernel
theorem dX16_at_64 : decode cX16_at 64 = .ok (.ifCond .ne 20, 3) := by decide +kernel
theorem dX16_at_67 : decode cX16_at 67 = .ok (.aload_n 0, 1) := by decide +kernel
theorem dX16_at_68 : decode cX16_at 68 = .ok (.iload_n 3, 1) := by decide +kernel
theorem dX16_at_69 : decode cX16_at 69 = .ok (.ifCond .ne 7, 3) := by decide +kernel
theorem dX16_at_72 : decode cX16_at 72 = .ok (.iconst 1, 1) := by decide +kernel
theorem dX16_at_73 : decode cX16_at 73 = .ok (.goto 4, 3) := by decide +kernel
theorem dX16_at_76 : decode cX16_at 76 = .ok (.iconst 0, 1) := by decide +kernel
theorem dX16_at_77 : decode cX16_at 77 = .ok (.iconst 3, 1) := by decide +kernel
theorem dX16_at_78 : decode cX16_at 78 = .ok (.invokevirtual 102, 3) := by decide +kernel
theorem dX16_at_81 : decode cX16_at 81 = .ok (.ifCond .eq 7, 3) := by decide +kernel
theorem dX16_at_84 : decode cX16_at 84 = .ok (.iconst 0, 1) := by decide +kernel
theorem dX16_at_85 : decode cX16_at 85 = .ok (.goto 18, 3) := by decide +kernel
theorem dX16_at_88 : decode cX16_at 88 = .ok (.aload_n 0, 1) := by decide +kernel
theorem dX16_at_89 : decode cX16_at 89 = .ok (.getfield 40, 3) := by decide +kernel
theorem dX16_at_92 : decode cX16_at 92 = .ok (.iload_n 1, 1) := by decide +kernel
theorem dX16_at_93 : decode cX16_at 93 = .ok (.invokevirtual 201, 3) := by decide +kernel
theorem dX16_at_96 : decode cX16_at 96 = .ok (.checkcast 170, 3) := by decide +kernel
theorem dX16_at_99 : decode cX16_at 99 = .ok (.iload_n 2, 1) := by decide +kernel
theorem dX16_at_100 : decode cX16_at 100 = .ok (.invokevirtual 218, 3) := by decide +kernel
theorem dX16_at_103 : decode cX16_at 103 = .ok (.ireturn, 1) := by decide +kernel
theorem dX16_all_0 : decode cX16_all 0 = .ok (.aload_n 0, 1) := by decide +kernel
theorem dX16_all_1 : decode cX16_all 1 = .ok (.iconst 0, 1) := by decide +kernel
theorem dX16_all_2 : decode cX16_all 2 = .ok (.putfield 63, 3) := by decide +kernel
theorem dX16_all_5 : decode cX16_all 5 = .ok (.aload_n 0, 1) := by decide +kernel
theorem dX16_all_6 : decode cX16_all 6 = .ok (.aload_n 0, 1) := by decide +kernel
theorem dX16_all_7 : decode cX16_all 7 = .ok (.iload_n 1, 1) := by decide +kernel
theorem dX16_all_8 : decode cX16_all 8 = .ok (.invokevirtual 179, 3) := by decide +kernel
theorem dX16_all_11 : decode cX16_all 11 = .ok (.iconst 1, 1) := by decide +kernel
theorem dX16_all_12 : decode cX16_all 12 = .ok (.invokevirtual 102, 3) := by decide +kernel
theorem dX16_all_15 : decode cX16_all 15 = .ok (.ifCond .eq 5, 3) := by decide +kernel
theorem dX16_all_18 : decode cX16_all 18 = .ok (.iconst 0, 1) := by decide +kernel
theorem dX16_all_19 : decode cX16_all 19 = .ok (.ireturn, 1) := by decide +kernel
theorem dX16_all_20 : decode cX16_all 20 = .ok (.aload_n 0, 1) := by decide +kernel
theorem dX16_all_21 : decode cX16_all 21 = .ok (.invokevirtual 225, 3) := by decide +kernel
theorem dX16_all_24 : decode cX16_all 24 = .ok (.aload_n 0, 1) := by decide +kernel
theorem dX16_all_25 : decode cX16_all 25 = .ok (.aload_n 0, 1) := by decide +kernel
theorem dX16_all_26 : decode cX16_all 26 = .ok (.getfield 40, 3) := by decide +kernel
theorem dX16_all_29 : decode cX16_all 29 = .ok (.iload_n 1, 1) := by decide +kernel
theorem dX16_all_30 : decode cX16_all 30 = .ok (.invokevirtual 201, 3) := by decide +kernel
theorem dX16_all_33 : decode cX16_all 33 = .ok (.checkcast 170, 3) := by decide +kernel
theorem dX16_all_36 : decode cX16_all 36 = .ok (.iconst (-1), 1) := by decide +kernel
theorem dX16_all_37 : decode cX16_all 37 = .ok (.invokevirtual 228, 3) := by decide +kernel
theorem dX16_all_40 : decode cX16_all 40 = .ok (.ifCond .ge 16, 3) := by decide +kernel
theorem dX16_all_43 : decode cX16_all 43 = .ok (.aload_n 0, 1) := by decide +kernel
theorem dX16_all_44 : decode cX16_all 44 = .ok (.invokevirtual 232, 3) := by decide +kernel
theorem dX16_all_47 : decode cX16_all 47 = .ok (.aload_n 0, 1) := by decide +kernel
theorem dX16_all_48 : decode cX16_all 48 = .ok (.iconst 1, 1) := by decide +kernel
theorem dX16_all_49 : decode cX16_all 49 = .ok (.iconst 2, 1) := by decide +kernel
theorem dX16_all_50 : decode cX16_all 50 = .ok (.invokevirtual 102, 3) := by decide +kernel
theorem dX16_all_53 : decode cX16_all 53 = .ok (.pop, 1) := by decide +kernel
theorem dX16_all_54 : decode cX16_all 54 = .ok (.iconst 0, 1) := by decide +kernel
theorem dX16_all_55 : decode cX16_all 55 = .ok (.ireturn, 1) := by decide +kernel
theorem dX16_all_56 : decode cX16_all 56 = .ok (.aload_n 0, 1) := by decide +kernel
theorem dX16_all_57 : decode cX16_all 57 = .ok (.getfield 40, 3) := by decide +kernel
theorem dX16_all_60 : decode cX16_all 60 = .ok (.iload_n 1, 1) := by decide +kernel
theorem dX16_all_61 : decode cX16_all 61 = .ok (.invokevirtual 201, 3) := by decide +kernel
theorem dX16_all_64 : decode cX16_all 64 = .ok (.checkcast 170, 3) := by decide +kernel
theorem dX16_all_67 : decode cX16_all 67 = .ok (.invokevirtual 211, 3) := by decide +kernel
theorem dX16_all_70 : decode cX16_all 70 = .ok (.ireturn, 1) := by decide +kernel
theorem dX16_realised_0 : decode cX16_realised 0 = .ok (.aload_n 0, 1) := by decide +kernel
theorem dX16_realised_1 : decode cX16_realised 1 = .ok (.iconst 0, 1) := by decide +kernel
theorem dX16_realised_2 : decode cX16_realised 2 = .ok (.putfield 63, 3) := by decide +kernel
theorem dX16_realised_5 : decode cX16_realised 5 = .ok (.aload_n 0, 1) := by decide +kernel
theorem dX16_realised_6 : decode cX16_realised 6 = .ok (.aload_n 0, 1) := by decide +kernel
theorem dX16_realised_7 : decode cX16_realised 7 = .ok (.iload_n 1, 1) := by decide +kernel
theorem dX16_realised_8 : decode cX16_realised 8 = .ok (.invokevirtual 179, 3) := by decide +kernel
theorem dX16_realised_11 : decode cX16_realised 11 = .ok (.iconst 1, 1) := by decide +kernel
theorem dX16_realised_12 : decode cX16_realised 12 = .ok (.invokevirtual 102, 3) := by decide +kernel
theorem dX16_realised_15 : decode cX16_realised 15 = .ok (.ifCond .eq 7, 3) := by decide +kernel
theorem dX16_realised_18 : decode cX16_realised 18 = .ok (.iconst 0, 1) := by decide +kernel
theorem dX16_realised_19 : decode cX16_realised 19 = .ok (.goto 17, 3) := by decide +kernel
theorem dX16_realised_22 : decode cX16_realised 22 = .ok (.aload_n 0, 1) := by decide +kernel
theorem dX16_realised_23 : decode cX16_realised 23 = .ok (.getfield 40, 3) := by decide +kernel
theorem dX16_realised_26 : decode cX16_realised 26 = .ok (.iload_n 1, 1) := by decide +kernel
theorem dX16_realised_27 : decode cX16_realised 27 = .ok (.invokevirtual 201, 3) := by decide +kernel
theorem dX16_realised_30 : decode cX16_realised 30 = .ok (.checkcast 170, 3) := by decide +kernel
theorem dX16_realised_33 : decode cX16_realised 33 = .ok (.invokevirtual 211, 3) := by decide +kernel
theorem dX16_realised_36 : decode cX16_realised 36 = .ok (.ireturn, 1) := by decide +kernel
theorem dX16_chunks_0 : decode cX16_chunks 0 = .ok (.aload_n 0, 1) := by decide +kernel
theorem dX16_chunks_1 : decode cX16_chunks 1 = .ok (.iconst 0, 1) := by decide +kernel
theorem dX16_chunks_2 : decode cX16_chunks 2 = .ok (.putfield 63, 3) := by decide +kernel
theorem dX16_chunks_5 : decode cX16_chunks 5 = .ok (.aload_n 0, 1) := by decide +kernel
theorem dX16_chunks_6 : decode cX16_chunks 6 = .ok (.aload_n 0, 1) := by decide +kernel
theorem dX16_chunks_7 : decode cX16_chunks 7 = .ok (.iload_n 1, 1) := by decide +kernel
theorem dX16_chunks_8 : decode cX16_chunks 8 = .ok (.invokevirtual 179, 3) := by decide +kernel
theorem dX16_chunks_11 : decode cX16_chunks 11 = .ok (.iconst 1, 1) := by decide +kernel
theorem dX16_chunks_12 : decode cX16_chunks 12 = .ok (.invokevirtual 102, 3) := by decide +kernel
theorem dX16_chunks_15 : decode cX16_chunks 15 = .ok (.ifCond .eq 7, 3) := by decide +kernel
theorem dX16_chunks_18 : decode cX16_chunks 18 = .ok (.iconst 0, 1) := by decide +kernel
theorem dX16_chunks_19 : decode cX16_chunks 19 = .ok (.goto 20, 3) := by decide +kernel
theorem dX16_chunks_22 : decode cX16_chunks 22 = .ok (.aload_n 0, 1) := by decide +kernel
theorem dX16_chunks_23 : decode cX16_chunks 23 = .ok (.getfield 40, 3) := by decide +kernel
theorem dX16_chunks_26 : decode cX16_chunks 26 = .ok (.iload_n 1, 1) := by decide +kernel
theorem dX16_chunks_27 : decode cX16_chunks 27 = .ok (.invokevirtual 201, 3) := by decide +kernel
theorem dX16_chunks_30 : decode cX16_chunks 30 = .ok (.checkcast 170, 3) := by decide +kernel
theorem dX16_chunks_33 : decode cX16_chunks 33 = .ok (.getfield 182, 3) := by decide +kernel
theorem dX16_chunks_36 : decode cX16_chunks 36 = .ok (.invokevirtual 168, 3) := by decide +kernel
theorem dX16_chunks_39 : decode cX16_chunks 39 = .ok (.ireturn, 1) := by decide +kernel
theorem dX16_collect_0 : decode cX16_collect 0 = .ok (.aload_n 0, 1) := by decide +kernel
theorem dX16_collect_1 : decode cX16_collect 1 = .ok (.iconst 0, 1) := by decide +kernel
theorem dX16_collect_2 : decode cX16_collect 2 = .ok (.putfield 63, 3) := by decide +kernel
theorem dX16_collect_5 : decode cX16_collect 5 = .ok (.aload_n 0, 1) := by decide +kernel
theorem dX16_collect_6 : decode cX16_collect 6 = .ok (.aload_n 0, 1) := by decide +kernel
theorem dX16_collect_7 : decode cX16_collect 7 = .ok (.iload_n 1, 1) := by decide +kernel
theorem dX16_collect_8 : decode cX16_collect 8 = .ok (.invokevirtual 179, 3) := by decide +kernel
theorem dX16_collect_11 : decode cX16_collect 11 = .ok (.iconst 1, 1) := by decide +kernel
theorem dX16_collect_12 : decode cX16_collect 12 = .ok (.invokevirtual 102, 3) := by decide +kernel
theorem dX16_collect_15 : decode cX16_collect 15 = .ok (.ifCond .eq 5, 3) := by decide +kernel
theorem dX16_collect_18 : decode cX16_collect 18 = .ok (.iconst 0, 1) := by decide +kernel
theorem dX16_collect_19 : decode cX16_collect 19 = .ok (.ireturn, 1) := by decide +kernel
theorem dX16_collect_20 : decode cX16_collect 20 = .ok (.aload_n 0, 1) := by decide +kernel
theorem dX16_collect_21 : decode cX16_collect 21 = .ok (.invokevirtual 225, 3) := by decide +kernel
theorem dX16_collect_24 : decode cX16_collect 24 = .ok (.aload_n 0, 1) := by decide +kernel
theorem dX16_collect_25 : decode cX16_collect 25 = .ok (.getfield 40, 3) := by decide +kernel
theorem dX16_collect_28 : decode cX16_collect 28 = .ok (.iload_n 1, 1) := by decide +kernel
theorem dX16_collect_29 : decode cX16_collect 29 = .ok (.invokevirtual 201, 3) := by decide +kernel
theorem dX16_collect_32 : decode cX16_collect 32 = .ok (.checkcast 170, 3) := by decide +kernel
theorem dX16_collect_35 : decode cX16_collect 35 = .ok (.astore_n 2, 1) := by decide +kernel
theorem dX16_collect_36 : decode cX16_collect 36 = .ok (.aload_n 0, 1) := by decide +kernel
theorem dX16_collect_37 : decode cX16_collect 37 = .ok (.aload_n 2, 1) := by decide +kernel
theorem dX16_collect_38 : decode cX16_collect 38 = .ok (.iconst (-1), 1) := by decide +kernel
theorem dX16_collect_39 : decode cX16_collect 39 = .ok (.invokevirtual 228, 3) := by decide +kernel
theorem dX16_collect_42 : decode cX16_collect 42 = .ok (.ifCond .ge 7, 3) := by decide +kernel
theorem dX16_collect_45 : decode cX16_collect 45 = .ok (.iconst 1, 1) := by decide +kernel
theorem dX16_collect_46 : decode cX16_collect 46 = .ok (.goto 4, 3) := by decide +kernel
theorem dX16_collect_49 : decode cX16_collect 49 = .ok (.iconst 0, 1) := by decide +kernel
theorem dX16_collect_50 : decode cX16_collect 50 = .ok (.istore_n 3, 1) := by decide +kernel
theorem dX16_collect_51 : decode cX16_collect 51 = .ok (.iconst 0, 1) := by decide +kernel
theorem dX16_collect_52 : decode cX16_collect 52 = .ok (.istore 4, 2) := by decide +kernel
theorem dX16_collect_54 : decode cX16_collect 54 = .ok (.iconst 0, 1) := by decide +kernel
theorem dX16_collect_55 : decode cX16_collect 55 = .ok (.istore 5, 2) := by decide +kernel
theorem dX16_collect_57 : decode cX16_collect 57 = .ok (.iload 5, 2) := by decide +kernel
theorem dX16_collect_59 : decode cX16_collect 59 = .ok (.aload_n 2, 1) := by decide +kernel
theorem dX16_collect_60 : decode cX16_collect 60 = .ok (.invokevirtual 211, 3) := by decide +kernel
theorem dX16_collect_63 : decode cX16_collect 63 = .ok (.if_icmp .ge 33, 3) := by decide +kernel
theorem dX16_collect_66 : decode cX16_collect 66 = .ok (.iload 4, 2) := by decide +kernel
theorem dX16_collect_68 : decode cX16_collect 68 = .ok (.ifCond .ne 15, 3) := by decide +kernel
theorem dX16_collect_71 : decode cX16_collect 71 = .ok (.aload_n 2, 1) := by decide +kernel
theorem dX16_collect_72 : decode cX16_collect 72 = .ok (.iload 5, 2) := by decide +kernel
theorem dX16_collect_74 : decode cX16_collect 74 = .ok (.invokevirtual 218, 3) := by decide +kernel
theorem dX16_collect_77 : decode cX16_collect 77 = .ok (.invokestatic 118, 3) := by decide +kernel
theorem dX16_collect_80 : decode cX16_collect 80 = .ok (.ifCond .eq 7, 3) := by decide +kernel
theorem dX16_collect_83 : decode cX16_collect 83 = .ok (.iconst 1, 1) := by decide +kernel
theorem dX16_collect_84 : decode cX16_collect 84 = .ok (.goto 4, 3) := by decide +kernel
theorem dX16_collect_87 : decode cX16_collect 87 = .ok (.iconst 0, 1) := by decide +kernel
theorem dX16_collect_88 : decode cX16_collect 88 = .ok (.istore 4, 2) := by decide +kernel
theorem dX16_collect_90 : decode cX16_collect 90 = .ok (.iinc 5 1, 3) := by decide +kernel
theorem dX16_collect_93 : decode cX16_collect 93 = .ok (.goto (-36), 3) := by decide +kernel
theorem dX16_collect_96 : decode cX16_collect 96 = .ok (.aload_n 0, 1) := by decide +kernel
theorem dX16_collect_97 : decode cX16_collect 97 = .ok (.iload_n 3, 1) := by decide +kernel
theorem dX16_collect_98 : decode cX16_collect 98 = .ok (.iconst 2, 1) := by decide +kernel
theorem dX16_collect_99 : decode cX16_collect 99 = .ok (.invokevirtual 102, 3) := by decide +kernel
theorem dX16_collect_102 : decode cX16_collect 102 = .ok (.ifCond .ne 25, 3) := by decide +kernel
theorem dX16_collect_105 : decode cX16_collect 105 = .ok (.aload_n 0, 1) := by decide +kernel
theorem dX16_collect_106 : decode cX16_collect 106 = .ok (.iload 4, 2) := by decide +kernel
theorem dX16_collect_108 : decode cX16_collect 108 = .ok (.iconst 3, 1) := by decide +kernel
theorem dX16_collect_109 : decode cX16_collect 109 = .ok (.invokevirtual 102, 3) := by decide +kernel
theorem dX16_collect_112 : decode cX16_collect 112 = .ok (.ifCond .ne 15, 3) := by decide +kernel
theorem dX16_collect_115 : decode cX16_collect 115 = .ok (.aload_n 0, 1) := by decide +kernel
theorem dX16_collect_116 : decode cX16_collect 116 = .ok (.aload_n 0, 1) := by decide +kernel
theorem dX16_collect_117 : decode cX16_collect 117 = .ok (.invokevirtual 98, 3) := by decide +kernel
theorem dX16_collect_120 : decode cX16_collect 120 = .ok (.iconst 4, 1) := by decide +kernel
theorem dX16_collect_121 : decode cX16_collect 121 = .ok (.invokevirtual 102, 3) := by decide +kernel
theorem dX16_collect_124 : decode cX16_collect 124 = .ok (.ifCond .eq 9, 3) := by decide +kernel
theorem dX16_collect_127 : decode cX16_collect 127 = .ok (.aload_n 0, 1) := by decide +kernel
theorem dX16_collect_128 : decode cX16_collect 128 = .ok (.invokevirtual 232, 3) := by decide +kernel
theorem dX16_collect_131 : decode cX16_collect 131 = .ok (.iconst 0, 1) := by decide +kernel
theorem dX16_collect_132 : decode cX16_collect 132 = .ok (.ireturn, 1) := by decide +kernel
theorem dX16_collect_133 : decode cX16_collect 133 = .ok (.aload_n 0, 1) := by decide +kernel
theorem dX16_collect_134 : decode cX16_collect 134 = .ok (.bipush 118, 2) := by decide +kernel
theorem dX16_collect_136 : decode cX16_collect 136 = .ok (.invokevirtual 106, 3) := by decide +kernel
theorem dX16_collect_139 : decode cX16_collect 139 = .ok (.istore 5, 2) := by decide +kernel
theorem dX16_collect_141 : decode cX16_collect 141 = .ok (.aload_n 0, 1) := by decide +kernel
theorem dX16_collect_142 : decode cX16_collect 142 = .ok (.getfield 13, 3) := by decide +kernel
theorem dX16_collect_145 : decode cX16_collect 145 = .ok (.iload 5, 2) := by decide +kernel
theorem dX16_collect_147 : decode cX16_collect 147 = .ok (.aload_n 2, 1) := by decide +kernel
theorem dX16_collect_148 : decode cX16_collect 148 = .ok (.invokevirtual 211, 3) := by decide +kernel
theorem dX16_collect_151 : decode cX16_collect 151 = .ok (.iastore, 1) := by decide +kernel
theorem dX16_collect_152 : decode cX16_collect 152 = .ok (.iconst 0, 1) := by decide +kernel
theorem dX16_collect_153 : decode cX16_collect 153 = .ok (.istore 6, 2) := by decide +kernel
theorem dX16_collect_155 : decode cX16_collect 155 = .ok (.iload 6, 2) := by decide +kernel
theorem dX16_collect_157 : decode cX16_collect 157 = .ok (.aload_n 0, 1) := by decide +kernel
theorem dX16_collect_158 : decode cX16_collect 158 = .ok (.getfield 13, 3) := by decide +kernel
theorem dX16_collect_161 : decode cX16_collect 161 = .ok (.iload 5, 2) := by decide +kernel
theorem dX16_collect_163 : decode cX16_collect 163 = .ok (.iaload, 1) := by decide +kernel
theorem dX16_collect_164 : decode cX16_collect 164 = .ok (.if_icmp .ge 28, 3) := by decide +kernel
theorem dX16_collect_167 : decode cX16_collect 167 = .ok (.aload_n 0, 1) := by decide +kernel
theorem dX16_collect_168 : decode cX16_collect 168 = .ok (.getfield 17, 3) := by decide +kernel
theorem dX16_collect_171 : decode cX16_collect 171 = .ok (.bipush 64, 2) := by decide +kernel
theorem dX16_collect_173 : decode cX16_collect 173 = .ok (.iload 5, 2) := by decide +kernel
theorem dX16_collect_175 : decode cX16_collect 175 = .ok (.imul, 1) := by decide +kernel
theorem dX16_collect_176 : decode cX16_collect 176 = .ok (.iload 6, 2) := by decide +kernel
theorem dX16_collect_178 : decode cX16_collect 178 = .ok (.iadd, 1) := by decide +kernel
theorem dX16_collect_179 : decode cX16_collect 179 = .ok (.aload_n 2, 1) := by decide +kernel
theorem dX16_collect_180 : decode cX16_collect 180 = .ok (.iload 6, 2) := by decide +kernel
theorem dX16_collect_182 : decode cX16_collect 182 = .ok (.invokevirtual 218, 3) := by decide +kernel
theorem dX16_collect_185 : decode cX16_collect 185 = .ok (.iastore, 1) := by decide +kernel
theorem dX16_collect_186 : decode cX16_collect 186 = .ok (.iinc 6 1, 3) := by decide +kernel
theorem dX16_collect_189 : decode cX16_collect 189 = .ok (.goto (-34), 3) := by decide +kernel
theorem dX16_collect_192 : decode cX16_collect 192 = .ok (.aload_n 0, 1) := by decide +kernel
theorem dX16_collect_193 : decode cX16_collect 193 = .ok (.iload 5, 2) := by decide +kernel
theorem dX16_collect_195 : decode cX16_collect 195 = .ok (.iconst (-1), 1) := by decide +kernel
theorem dX16_collect_196 : decode cX16_collect 196 = .ok (.invokevirtual 110, 3) := by decide +kernel
theorem dX16_collect_199 : decode cX16_collect 199 = .ok (.iload 5, 2) := by decide +kernel
theorem dX16_collect_201 : decode cX16_collect 201 = .ok (.ireturn, 1) := by decide +kernel
theorem dX16_areBounds_0 : decode cX16_areBounds 0 = .ok (.iload_n 1, 1) := by decide +kernel
theorem dX16_areBounds_1 : decode cX16_areBounds 1 = .ok (.sipush (-999), 3) := by decide +kernel
theorem dX16_areBounds_4 : decode cX16_areBounds 4 = .ok (.sipush 999, 3) := by decide +kernel
theorem dX16_areBounds_7 : decode cX16_areBounds 7 = .ok (.invokestatic 70, 3) := by decide +kernel
theorem dX16_areBounds_10 : decode cX16_areBounds 10 = .ok (.ifCond .eq 29, 3) := by decide +kernel
theorem dX16_areBounds_13 : decode cX16_areBounds 13 = .ok (.iload_n 2, 1) := by decide +kernel
theorem dX16_areBounds_14 : decode cX16_areBounds 14 = .ok (.sipush (-999), 3) := by decide +kernel
theorem dX16_areBounds_17 : decode cX16_areBounds 17 = .ok (.sipush 999, 3) := by decide +kernel
theorem dX16_areBounds_20 : decode cX16_areBounds 20 = .ok (.invokestatic 70, 3) := by decide +kernel
theorem dX16_areBounds_23 : decode cX16_areBounds 23 = .ok (.ifCond .eq 16, 3) := by decide +kernel
theorem dX16_areBounds_26 : decode cX16_areBounds 26 = .ok (.iload_n 0, 1) := by decide +kernel
theorem dX16_areBounds_27 : decode cX16_areBounds 27 = .ok (.iload_n 1, 1) := by decide +kernel
theorem dX16_areBounds_28 : decode cX16_areBounds 28 = .ok (.iload_n 2, 1) := by decide +kernel
theorem dX16_areBounds_29 : decode cX16_areBounds 29 = .ok (.invokestatic 70, 3) := by decide +kernel
theorem dX16_areBounds_32 : decode cX16_areBounds 32 = .ok (.ifCond .eq 7, 3) := by decide +kernel
theorem dX16_areBounds_35 : decode cX16_areBounds 35 = .ok (.iconst 1, 1) := by decide +kernel
theorem dX16_areBounds_36 : decode cX16_areBounds 36 = .ok (.goto 4, 3) := by decide +kernel
theorem dX16_areBounds_39 : decode cX16_areBounds 39 = .ok (.iconst 0, 1) := by decide +kernel
theorem dX16_areBounds_40 : decode cX16_areBounds 40 = .ok (.ireturn, 1) := by decide +kernel
theorem dX16_addReference_0 : decode cX16_addReference 0 = .ok (.aload_n 0, 1) := by decide +kernel
theorem dX16_addReference_1 : decode cX16_addReference 1 = .ok (.iconst 0, 1) := by decide +kernel
theorem dX16_addReference_2 : decode cX16_addReference 2 = .ok (.putfield 63, 3) := by decide +kernel
theorem dX16_addReference_5 : decode cX16_addReference 5 = .ok (.aload_n 0, 1) := by decide +kernel
theorem dX16_addReference_6 : decode cX16_addReference 6 = .ok (.iload_n 1, 1) := by decide +kernel
theorem dX16_addReference_7 : decode cX16_addReference 7 = .ok (.iload_n 2, 1) := by decide +kernel
theorem dX16_addReference_8 : decode cX16_addReference 8 = .ok (.iload_n 3, 1) := by decide +kernel
theorem dX16_addReference_9 : decode cX16_addReference 9 = .ok (.invokestatic 235, 3) := by decide +kernel
theorem dX16_addReference_12 : decode cX16_addReference 12 = .ok (.ifCond .ne 7, 3) := by decide +kernel
theorem dX16_addReference_15 : decode cX16_addReference 15 = .ok (.iconst 1, 1) := by decide +kernel
theorem dX16_addReference_16 : decode cX16_addReference 16 = .ok (.goto 4, 3) := by decide +kernel
theorem dX16_addReference_19 : decode cX16_addReference 19 = .ok (.iconst 0, 1) := by decide +kernel
theorem dX16_addReference_20 : decode cX16_addReference 20 = .ok (.iconst 1, 1) := by decide +kernel
theorem dX16_addReference_21 : decode cX16_addReference 21 = .ok (.invokevirtual 102, 3) := by decide +kernel
theorem dX16_addReference_24 : decode cX16_addReference 24 = .ok (.ifCond .ne 28, 3) := by decide +kernel
theorem dX16_addReference_27 : decode cX16_addReference 27 = .ok (.aload_n 0, 1) := by decide +kernel
theorem dX16_addReference_28 : decode cX16_addReference 28 = .ok (.aload_n 0, 1) := by decide +kernel
theorem dX16_addReference_29 : decode cX16_addReference 29 = .ok (.getfield 47, 3) := by decide +kernel
theorem dX16_addReference_32 : decode cX16_addReference 32 = .ok (.invokevirtual 168, 3) := by decide +kernel
theorem dX16_addReference_35 : decode cX16_addReference 35 = .ok (.bipush 6, 2) := by decide +kernel
theorem dX16_addReference_37 : decode cX16_addReference 37 = .ok (.if_icmp .ne 7, 3) := by decide +kernel
theorem dX16_addReference_40 : decode cX16_addReference 40 = .ok (.iconst 1, 1) := by decide +kernel
theorem dX16_addReference_41 : decode cX16_addReference 41 = .ok (.goto 4, 3) := by decide +kernel
theorem dX16_addReference_44 : decode cX16_addReference 44 = .ok (.iconst 0, 1) := by decide +kernel
theorem dX16_addReference_45 : decode cX16_addReference 45 = .ok (.iconst 2, 1) := by decide +kernel
theorem dX16_addReference_46 : decode cX16_addReference 46 = .ok (.invokevirtual 102, 3) := by decide +kernel
theorem dX16_addReference_49 : decode cX16_addReference 49 = .ok (.ifCond .eq 5, 3) := by decide +kernel
theorem dX16_addReference_52 : decode cX16_addReference 52 = .ok (.iconst 0, 1) := by decide +kernel
theorem dX16_addReference_53 : decode cX16_addReference 53 = .ok (.ireturn, 1) := by decide +kernel
theorem dX16_addReference_54 : decode cX16_addReference 54 = .ok (.new 238, 3) := by decide +kernel
theorem dX16_addReference_57 : decode cX16_addReference 57 = .ok (.dup, 1) := by decide +kernel
theorem dX16_addReference_58 : decode cX16_addReference 58 = .ok (.iload_n 1, 1) := by decide +kernel
theorem dX16_addReference_59 : decode cX16_addReference 59 = .ok (.iload_n 2, 1) := by decide +kernel
theorem dX16_addReference_60 : decode cX16_addReference 60 = .ok (.iload_n 3, 1) := by decide +kernel
theorem dX16_addReference_61 : decode cX16_addReference 61 = .ok (.invokespecial 240, 3) := by decide +kernel
theorem dX16_addReference_64 : decode cX16_addReference 64 = .ok (.astore 4, 2) := by decide +kernel
theorem dX16_addReference_66 : decode cX16_addReference 66 = .ok (.aload 4, 2) := by decide +kernel
theorem dX16_addReference_68 : decode cX16_addReference 68 = .ok (.iconst 0, 1) := by decide +kernel
theorem dX16_addReference_69 : decode cX16_addReference 69 = .ok (.iload_n 1, 1) := by decide +kernel
theorem dX16_addReference_70 : decode cX16_addReference 70 = .ok (.invokevirtual 243, 3) := by decide +kernel
theorem dX16_addReference_73 : decode cX16_addReference 73 = .ok (.aload_n 0, 1) := by decide +kernel
theorem dX16_addReference_74 : decode cX16_addReference 74 = .ok (.getfield 47, 3) := by decide +kernel
theorem dX16_addReference_77 : decode cX16_addReference 77 = .ok (.aload 4, 2) := by decide +kernel
theorem dX16_addReference_79 : decode cX16_addReference 79 = .ok (.invokevirtual 175, 3) := by decide +kernel
theorem dX16_addReference_82 : decode cX16_addReference 82 = .ok (.pop, 1) := by decide +kernel
theorem dX16_addReference_83 : decode cX16_addReference 83 = .ok (.aload_n 0, 1) := by decide +kernel
theorem dX16_addReference_84 : decode cX16_addReference 84 = .ok (.getfield 47, 3) := by decide +kernel
theorem dX16_addReference_87 : decode cX16_addReference 87 = .ok (.invokevirtual 168, 3) := by decide +kernel
theorem dX16_addReference_90 : decode cX16_addReference 90 = .ok (.iconst 1, 1) := by decide +kernel
theorem dX16_addReference_91 : decode cX16_addReference 91 = .ok (.isub, 1) := by decide +kernel
theorem dX16_addReference_92 : decode cX16_addReference 92 = .ok (.ireturn, 1) := by decide +kernel
theorem dX16_noTransaction_0 : decode cX16_noTransaction 0 = .ok (.iload_n 0, 1) := by decide +kernel
theorem dX16_noTransaction_1 : decode cX16_noTransaction 1 = .ok (.iconst 0, 1) := by decide +kernel
theorem dX16_noTransaction_2 : decode cX16_noTransaction 2 = .ok (.iconst 2, 1) := by decide +kernel
theorem dX16_noTransaction_3 : decode cX16_noTransaction 3 = .ok (.invokestatic 70, 3) := by decide +kernel
theorem dX16_noTransaction_6 : decode cX16_noTransaction 6 = .ok (.ifCond .ne 7, 3) := by decide +kernel
theorem dX16_noTransaction_9 : decode cX16_noTransaction 9 = .ok (.iconst 1, 1) := by decide +kernel
theorem dX16_noTransaction_10 : decode cX16_noTransaction 10 = .ok (.goto 4, 3) := by decide +kernel
theorem dX16_noTransaction_13 : decode cX16_noTransaction 13 = .ok (.iconst 0, 1) := by decide +kernel
theorem dX16_noTransaction_14 : decode cX16_noTransaction 14 = .ok (.ireturn, 1) := by decide +kernel
theorem dX16_noReference_0 : decode cX16_noReference 0 = .ok (.iload_n 1, 1) := by decide +kernel
theorem dX16_noReference_1 : decode cX16_noReference 1 = .ok (.iconst 0, 1) := by decide +kernel
theorem dX16_noReference_2 : decode cX16_noReference 2 = .ok (.aload_n 0, 1) := by decide +kernel
theorem dX16_noReference_3 : decode cX16_noReference 3 = .ok (.getfield 47, 3) := by decide +kernel
theorem dX16_noReference_6 : decode cX16_noReference 6 = .ok (.invokevirtual 168, 3) := by decide +kernel
theorem dX16_noReference_9 : decode cX16_noReference 9 = .ok (.iconst 1, 1) := by decide +kernel
theorem dX16_noReference_10 : decode cX16_noReference 10 = .ok (.isub, 1) := by decide +kernel
theorem dX16_noReference_11 : decode cX16_noReference 11 = .ok (.invokestatic 70, 3) := by decide +kernel
theorem dX16_noReference_14 : decode cX16_noReference 14 = .ok (.ifCond .ne 7, 3) := by decide +kernel
theorem dX16_noReference_17 : decode cX16_noReference 17 = .ok (.iconst 1, 1) := by decide +kernel
theorem dX16_noReference_18 : decode cX16_noReference 18 = .ok (.goto 4, 3) := by decide +kernel
theorem dX16_noReference_21 : decode cX16_noReference 21 = .ok (.iconst 0, 1) := by decide +kernel
theorem dX16_noReference_22 : decode cX16_noReference 22 = .ok (.ireturn, 1) := by decide +kernel
theorem dX16_isClosed_0 : decode cX16_isClosed 0 = .ok (.aload_n 0, 1) := by decide +kernel
theorem dX16_isClosed_1 : decode cX16_isClosed 1 = .ok (.getfield 56, 3) := by decide +kernel
theorem dX16_isClosed_4 : decode cX16_isClosed 4 = .ok (.iload_n 1, 1) := by decide +kernel
theorem dX16_isClosed_5 : decode cX16_isClosed 5 = .ok (.aaload, 1) := by decide +kernel
theorem dX16_isClosed_6 : decode cX16_isClosed 6 = .ok (.getfield 246, 3) := by decide +kernel
theorem dX16_isClosed_9 : decode cX16_isClosed 9 = .ok (.ifCond .ne 7, 3) := by decide +kernel
theorem dX16_isClosed_12 : decode cX16_isClosed 12 = .ok (.iconst 1, 1) := by decide +kernel
theorem dX16_isClosed_13 : decode cX16_isClosed 13 = .ok (.goto 4, 3) := by decide +kernel
theorem dX16_isClosed_16 : decode cX16_isClosed 16 = .ok (.iconst 0, 1) := by decide +kernel
theorem dX16_isClosed_17 : decode cX16_isClosed 17 = .ok (.ireturn, 1) := by decide +kernel
theorem dX16_begin_0 : decode cX16_begin 0 = .ok (.aload_n 0, 1) := by decide +kernel
theorem dX16_begin_1 : decode cX16_begin 1 = .ok (.iconst 0, 1) := by decide +kernel
theorem dX16_begin_2 : decode cX16_begin 2 = .ok (.putfield 63, 3) := by decide +kernel
theorem dX16_begin_5 : decode cX16_begin 5 = .ok (.aload_n 0, 1) := by decide +kernel
theorem dX16_begin_6 : decode cX16_begin 6 = .ok (.iload_n 1, 1) := by decide +kernel
theorem dX16_begin_7 : decode cX16_begin 7 = .ok (.invokestatic 250, 3) := by decide +kernel
theorem dX16_begin_10 : decode cX16_begin 10 = .ok (.iconst 1, 1) := by decide +kernel
theorem dX16_begin_11 : decode cX16_begin 11 = .ok (.invokevirtual 102, 3) := by decide +kernel
theorem dX16_begin_14 : decode cX16_begin 14 = .ok (.ifCond .ne 20, 3) := by decide +kernel
theorem dX16_begin_17 : decode cX16_begin 17 = .ok (.aload_n 0, 1) := by decide +kernel
theorem dX16_begin_18 : decode cX16_begin 18 = .ok (.aload_n 0, 1) := by decide +kernel
theorem dX16_begin_19 : decode cX16_begin 19 = .ok (.getfield 56, 3) := by decide +kernel
theorem dX16_begin_22 : decode cX16_begin 22 = .ok (.iload_n 1, 1) := by decide +kernel
theorem dX16_begin_23 : decode cX16_begin 23 = .ok (.aaload, 1) := by decide +kernel
theorem dX16_begin_24 : decode cX16_begin 24 = .ok (.getfield 246, 3) := by decide +kernel
theorem dX16_begin_27 : decode cX16_begin 27 = .ok (.iconst 2, 1) := by decide +kernel
theorem dX16_begin_28 : decode cX16_begin 28 = .ok (.invokevirtual 102, 3) := by decide +kernel
theorem dX16_begin_31 : decode cX16_begin 31 = .ok (.ifCond .eq 5, 3) := by decide +kernel
theorem dX16_begin_34 : decode cX16_begin 34 = .ok (.iconst 0, 1) := by decide +kernel
theorem dX16_begin_35 : decode cX16_begin 35 = .ok (.ireturn, 1) := by decide +kernel
theorem dX16_begin_36 : decode cX16_begin 36 = .ok (.aload_n 0, 1) := by decide +kernel
theorem dX16_begin_37 : decode cX16_begin 37 = .ok (.getfield 56, 3) := by decide +kernel
theorem dX16_begin_40 : decode cX16_begin 40 = .ok (.iload_n 1, 1) := by decide +kernel
theorem dX16_begin_41 : decode cX16_begin 41 = .ok (.aaload, 1) := by decide +kernel
theorem dX16_begin_42 : decode cX16_begin 42 = .ok (.astore_n 2, 1) := by decide +kernel
theorem dX16_begin_43 : decode cX16_begin 43 = .ok (.aload_n 2, 1) := by decide +kernel
theorem dX16_begin_44 : decode cX16_begin 44 = .ok (.iconst 1, 1) := by decide +kernel
theorem dX16_begin_45 : decode cX16_begin 45 = .ok (.putfield 246, 3) := by decide +kernel
theorem dX16_begin_48 : decode cX16_begin 48 = .ok (.aload_n 2, 1) := by decide +kernel
theorem dX16_begin_49 : decode cX16_begin 49 = .ok (.aload_n 0, 1) := by decide +kernel
theorem dX16_begin_50 : decode cX16_begin 50 = .ok (.getfield 253, 3) := by decide +kernel
theorem dX16_begin_53 : decode cX16_begin 53 = .ok (.putfield 256, 3) := by decide +kernel
theorem dX16_begin_56 : decode cX16_begin 56 = .ok (.aload_n 2, 1) := by decide +kernel
theorem dX16_begin_57 : decode cX16_begin 57 = .ok (.aload_n 0, 1) := by decide +kernel
theorem dX16_begin_58 : decode cX16_begin 58 = .ok (.getfield 259, 3) := by decide +kernel
theorem dX16_begin_61 : decode cX16_begin 61 = .ok (.putfield 262, 3) := by decide +kernel
theorem dX16_begin_64 : decode cX16_begin 64 = .ok (.aload_n 2, 1) := by decide +kernel
theorem dX16_begin_65 : decode cX16_begin 65 = .ok (.iconst 0, 1) := by decide +kernel
theorem dX16_begin_66 : decode cX16_begin 66 = .ok (.putfield 265, 3) := by decide +kernel
theorem dX16_begin_69 : decode cX16_begin 69 = .ok (.aload_n 2, 1) := by decide +kernel
theorem dX16_begin_70 : decode cX16_begin 70 = .ok (.invokevirtual 268, 3) := by decide +kernel
theorem dX16_begin_73 : decode cX16_begin 73 = .ok (.aload_n 0, 1) := by decide +kernel
theorem dX16_begin_74 : decode cX16_begin 74 = .ok (.dup, 1) := by decide +kernel
theorem dX16_begin_75 : decode cX16_begin 75 = .ok (.getfield 259, 3) := by decide +kernel
theorem dX16_begin_78 : decode cX16_begin 78 = .ok (.iconst 1, 1) := by decide +kernel
theorem dX16_begin_79 : decode cX16_begin 79 = .ok (.iadd, 1) := by decide +kernel
theorem dX16_begin_80 : decode cX16_begin 80 = .ok (.putfield 259, 3) := by decide +kernel
theorem dX16_begin_83 : decode cX16_begin 83 = .ok (.aload_n 0, 1) := by decide +kernel
theorem dX16_begin_84 : decode cX16_begin 84 = .ok (.getfield 253, 3) := by decide +kernel
theorem dX16_begin_87 : decode cX16_begin 87 = .ok (.ireturn, 1) := by decide +kernel
theorem dX16_sendBack_0 : decode cX16_sendBack 0 = .ok (.aload_n 0, 1) := by decide +kernel
theorem dX16_sendBack_1 : decode cX16_sendBack 1 = .ok (.getfield 56, 3) := by decide +kernel
theorem dX16_sendBack_4 : decode cX16_sendBack 4 = .ok (.iload_n 1, 1) := by decide +kernel
theorem dX16_sendBack_5 : decode cX16_sendBack 5 = .ok (.aaload, 1) := by decide +kernel
theorem dX16_sendBack_6 : decode cX16_sendBack 6 = .ok (.invokevirtual 268, 3) := by decide +kernel
theorem dX16_sendBack_9 : decode cX16_sendBack 9 = .ok (.aload_n 0, 1) := by decide +kernel
theorem dX16_sendBack_10 : decode cX16_sendBack 10 = .ok (.getfield 56, 3) := by decide +kernel
theorem dX16_sendBack_13 : decode cX16_sendBack 13 = .ok (.iload_n 1, 1) := by decide +kernel
theorem dX16_sendBack_14 : decode cX16_sendBack 14 = .ok (.aaload, 1) := by decide +kernel
theorem dX16_sendBack_15 : decode cX16_sendBack 15 = .ok (.aload_n 0, 1) := by decide +kernel
theorem dX16_sendBack_16 : decode cX16_sendBack 16 = .ok (.getfield 253, 3) := by decide +kernel
theorem dX16_sendBack_19 : decode cX16_sendBack 19 = .ok (.putfield 256, 3) := by decide +kernel
theorem dX16_sendBack_22 : decode cX16_sendBack 22 = .ok (.aload_n 0, 1) := by decide +kernel
theorem dX16_sendBack_23 : decode cX16_sendBack 23 = .ok (.getfield 56, 3) := by decide +kernel
theorem dX16_sendBack_26 : decode cX16_sendBack 26 = .ok (.iload_n 1, 1) := by decide +kernel
theorem dX16_sendBack_27 : decode cX16_sendBack 27 = .ok (.aaload, 1) := by decide +kernel
theorem dX16_sendBack_28 : decode cX16_sendBack 28 = .ok (.dup, 1) := by decide +kernel
theorem dX16_sendBack_29 : decode cX16_sendBack 29 = .ok (.getfield 265, 3) := by decide +kernel
theorem dX16_sendBack_32 : decode cX16_sendBack 32 = .ok (.iconst 1, 1) := by decide +kernel
theorem dX16_sendBack_33 : decode cX16_sendBack 33 = .ok (.iadd, 1) := by decide +kernel
theorem dX16_sendBack_34 : decode cX16_sendBack 34 = .ok (.putfield 265, 3) := by decide +kernel
theorem dX16_sendBack_37 : decode cX16_sendBack 37 = .ok (.return_, 1) := by decide +kernel
theorem dX16_cannot_0 : decode cX16_cannot 0 = .ok (.aload_n 0, 1) := by decide +kernel
theorem dX16_cannot_1 : decode cX16_cannot 1 = .ok (.iload_n 1, 1) := by decide +kernel
theorem dX16_cannot_2 : decode cX16_cannot 2 = .ok (.invokestatic 250, 3) := by decide +kernel
theorem dX16_cannot_5 : decode cX16_cannot 5 = .ok (.iconst 1, 1) := by decide +kernel
theorem dX16_cannot_6 : decode cX16_cannot 6 = .ok (.invokevirtual 102, 3) := by decide +kernel
theorem dX16_cannot_9 : decode cX16_cannot 9 = .ok (.ifCond .ne 29, 3) := by decide +kernel
theorem dX16_cannot_12 : decode cX16_cannot 12 = .ok (.aload_n 0, 1) := by decide +kernel
theorem dX16_cannot_13 : decode cX16_cannot 13 = .ok (.aload_n 0, 1) := by decide +kernel
theorem dX16_cannot_14 : decode cX16_cannot 14 = .ok (.iload_n 2, 1) := by decide +kernel
theorem dX16_cannot_15 : decode cX16_cannot 15 = .ok (.invokevirtual 271, 3) := by decide +kernel
theorem dX16_cannot_18 : decode cX16_cannot 18 = .ok (.iconst 2, 1) := by decide +kernel
theorem dX16_cannot_19 : decode cX16_cannot 19 = .ok (.invokevirtual 102, 3) := by decide +kernel
theorem dX16_cannot_22 : decode cX16_cannot 22 = .ok (.ifCond .ne 16, 3) := by decide +kernel
theorem dX16_cannot_25 : decode cX16_cannot 25 = .ok (.aload_n 0, 1) := by decide +kernel
theorem dX16_cannot_26 : decode cX16_cannot 26 = .ok (.aload_n 0, 1) := by decide +kernel
theorem dX16_cannot_27 : decode cX16_cannot 27 = .ok (.iload_n 1, 1) := by decide +kernel
theorem dX16_cannot_28 : decode cX16_cannot 28 = .ok (.invokevirtual 274, 3) := by decide +kernel
theorem dX16_cannot_31 : decode cX16_cannot 31 = .ok (.iconst 3, 1) := by decide +kernel
theorem dX16_cannot_32 : decode cX16_cannot 32 = .ok (.invokevirtual 102, 3) := by decide +kernel
theorem dX16_cannot_35 : decode cX16_cannot 35 = .ok (.ifCond .eq 7, 3) := by decide +kernel
theorem dX16_cannot_38 : decode cX16_cannot 38 = .ok (.iconst 1, 1) := by decide +kernel
theorem dX16_cannot_39 : decode cX16_cannot 39 = .ok (.goto 4, 3) := by decide +kernel
theorem dX16_cannot_42 : decode cX16_cannot 42 = .ok (.iconst 0, 1) := by decide +kernel
theorem dX16_cannot_43 : decode cX16_cannot 43 = .ok (.ireturn, 1) := by decide +kernel
theorem dX16_read_0 : decode cX16_read 0 = .ok (.aload_n 0, 1) := by decide +kernel
theorem dX16_read_1 : decode cX16_read 1 = .ok (.iconst 0, 1) := by decide +kernel
theorem dX16_read_2 : decode cX16_read 2 = .ok (.putfield 63, 3) := by decide +kernel
theorem dX16_read_5 : decode cX16_read 5 = .ok (.aload_n 0, 1) := by decide +kernel
theorem dX16_read_6 : decode cX16_read 6 = .ok (.iload_n 1, 1) := by decide +kernel
theorem dX16_read_7 : decode cX16_read 7 = .ok (.iload_n 2, 1) := by decide +kernel
theorem dX16_read_8 : decode cX16_read 8 = .ok (.invokevirtual 277, 3) := by decide +kernel
theorem dX16_read_11 : decode cX16_read 11 = .ok (.ifCond .eq 5, 3) := by decide +kernel
theorem dX16_read_14 : decode cX16_read 14 = .ok (.iconst 0, 1) := by decide +kernel
theorem dX16_read_15 : decode cX16_read 15 = .ok (.ireturn, 1) := by decide +kernel
theorem dX16_read_16 : decode cX16_read 16 = .ok (.aload_n 0, 1) := by decide +kernel
theorem dX16_read_17 : decode cX16_read 17 = .ok (.getfield 56, 3) := by decide +kernel
theorem dX16_read_20 : decode cX16_read 20 = .ok (.iload_n 1, 1) := by decide +kernel
theorem dX16_read_21 : decode cX16_read 21 = .ok (.aaload, 1) := by decide +kernel
theorem dX16_read_22 : decode cX16_read 22 = .ok (.astore_n 3, 1) := by decide +kernel
theorem dX16_read_23 : decode cX16_read 23 = .ok (.aload_n 3, 1) := by decide +kernel
theorem dX16_read_24 : decode cX16_read 24 = .ok (.getfield 280, 3) := by decide +kernel
theorem dX16_read_27 : decode cX16_read 27 = .ok (.iload_n 2, 1) := by decide +kernel
theorem dX16_read_28 : decode cX16_read 28 = .ok (.baload, 1) := by decide +kernel
theorem dX16_read_29 : decode cX16_read 29 = .ok (.ifCond .eq 10, 3) := by decide +kernel
theorem dX16_read_32 : decode cX16_read 32 = .ok (.aload_n 3, 1) := by decide +kernel
theorem dX16_read_33 : decode cX16_read 33 = .ok (.getfield 283, 3) := by decide +kernel
theorem dX16_read_36 : decode cX16_read 36 = .ok (.iload_n 2, 1) := by decide +kernel
theorem dX16_read_37 : decode cX16_read 37 = .ok (.iaload, 1) := by decide +kernel
theorem dX16_read_38 : decode cX16_read 38 = .ok (.ireturn, 1) := by decide +kernel
theorem dX16_read_39 : decode cX16_read 39 = .ok (.aload_n 0, 1) := by decide +kernel
theorem dX16_read_40 : decode cX16_read 40 = .ok (.getfield 47, 3) := by decide +kernel
theorem dX16_read_43 : decode cX16_read 43 = .ok (.iload_n 2, 1) := by decide +kernel
theorem dX16_read_44 : decode cX16_read 44 = .ok (.invokevirtual 201, 3) := by decide +kernel
theorem dX16_read_47 : decode cX16_read 47 = .ok (.checkcast 238, 3) := by decide +kernel
theorem dX16_read_50 : decode cX16_read 50 = .ok (.astore 4, 2) := by decide +kernel
theorem dX16_read_52 : decode cX16_read 52 = .ok (.iconst 0, 1) := by decide +kernel
theorem dX16_read_53 : decode cX16_read 53 = .ok (.istore 5, 2) := by decide +kernel
theorem dX16_read_55 : decode cX16_read 55 = .ok (.iconst 0, 1) := by decide +kernel
theorem dX16_read_56 : decode cX16_read 56 = .ok (.istore 6, 2) := by decide +kernel
theorem dX16_read_58 : decode cX16_read 58 = .ok (.aload 4, 2) := by decide +kernel
theorem dX16_read_60 : decode cX16_read 60 = .ok (.getfield 286, 3) := by decide +kernel
theorem dX16_read_63 : decode cX16_read 63 = .ok (.invokevirtual 289, 3) := by decide +kernel
theorem dX16_read_66 : decode cX16_read 66 = .ok (.astore 7, 2) := by decide +kernel
theorem dX16_read_68 : decode cX16_read 68 = .ok (.aload 7, 2) := by decide +kernel
theorem dX16_read_70 : decode cX16_read 70 = .ok (.invokeinterface 293 1, 5) := by decide +kernel
theorem dX16_read_75 : decode cX16_read 75 = .ok (.ifCond .eq 63, 3) := by decide +kernel
theorem dX16_read_78 : decode cX16_read 78 = .ok (.aload 7, 2) := by decide +kernel
theorem dX16_read_80 : decode cX16_read 80 = .ok (.invokeinterface 298 1, 5) := by decide +kernel
theorem dX16_read_85 : decode cX16_read 85 = .ok (.checkcast 221, 3) := by decide +kernel
theorem dX16_read_88 : decode cX16_read 88 = .ok (.astore 8, 2) := by decide +kernel
theorem dX16_read_90 : decode cX16_read 90 = .ok (.iload 5, 2) := by decide +kernel
theorem dX16_read_92 : decode cX16_read 92 = .ok (.ifCond .ne 14, 3) := by decide +kernel
theorem dX16_read_95 : decode cX16_read 95 = .ok (.aload 8, 2) := by decide +kernel
theorem dX16_read_97 : decode cX16_read 97 = .ok (.iconst 0, 1) := by decide +kernel
theorem dX16_read_98 : decode cX16_read 98 = .ok (.iaload, 1) := by decide +kernel
theorem dX16_read_99 : decode cX16_read 99 = .ok (.aload_n 3, 1) := by decide +kernel
theorem dX16_read_100 : decode cX16_read 100 = .ok (.getfield 256, 3) := by decide +kernel
theorem dX16_read_103 : decode cX16_read 103 = .ok (.if_icmp .gt 7, 3) := by decide +kernel
theorem dX16_read_106 : decode cX16_read 106 = .ok (.iconst 1, 1) := by decide +kernel
theorem dX16_read_107 : decode cX16_read 107 = .ok (.goto 4, 3) := by decide +kernel
theorem dX16_read_110 : decode cX16_read 110 = .ok (.iconst 0, 1) := by decide +kernel
theorem dX16_read_111 : decode cX16_read 111 = .ok (.istore 5, 2) := by decide +kernel
theorem dX16_read_113 : decode cX16_read 113 = .ok (.aload 8, 2) := by decide +kernel
theorem dX16_read_115 : decode cX16_read 115 = .ok (.iconst 0, 1) := by decide +kernel
theorem dX16_read_116 : decode cX16_read 116 = .ok (.iaload, 1) := by decide +kernel
theorem dX16_read_117 : decode cX16_read 117 = .ok (.aload_n 3, 1) := by decide +kernel
theorem dX16_read_118 : decode cX16_read 118 = .ok (.getfield 256, 3) := by decide +kernel
theorem dX16_read_121 : decode cX16_read 121 = .ok (.if_icmp .gt 10, 3) := by decide +kernel
theorem dX16_read_124 : decode cX16_read 124 = .ok (.aload 8, 2) := by decide +kernel
theorem dX16_read_126 : decode cX16_read 126 = .ok (.iconst 1, 1) := by decide +kernel
theorem dX16_read_127 : decode cX16_read 127 = .ok (.iaload, 1) := by decide +kernel
theorem dX16_read_128 : decode cX16_read 128 = .ok (.goto 5, 3) := by decide +kernel
theorem dX16_read_131 : decode cX16_read 131 = .ok (.iload 6, 2) := by decide +kernel
theorem dX16_read_133 : decode cX16_read 133 = .ok (.istore 6, 2) := by decide +kernel
theorem dX16_read_135 : decode cX16_read 135 = .ok (.goto (-67), 3) := by decide +kernel
theorem dX16_read_138 : decode cX16_read 138 = .ok (.iload 5, 2) := by decide +kernel
theorem dX16_read_140 : decode cX16_read 140 = .ok (.ifCond .ne 37, 3) := by decide +kernel
theorem dX16_read_143 : decode cX16_read 143 = .ok (.aload 4, 2) := by decide +kernel
theorem dX16_read_145 : decode cX16_read 145 = .ok (.dup, 1) := by decide +kernel
theorem dX16_read_146 : decode cX16_read 146 = .ok (.getfield 302, 3) := by decide +kernel
theorem dX16_read_149 : decode cX16_read 149 = .ok (.aload 4, 2) := by decide +kernel
theorem dX16_read_151 : decode cX16_read 151 = .ok (.getfield 302, 3) := by decide +kernel
theorem dX16_read_154 : decode cX16_read 154 = .ok (.bipush 8, 2) := by decide +kernel
theorem dX16_read_156 : decode cX16_read 156 = .ok (.if_icmp .ge 7, 3) := by decide +kernel
theorem dX16_read_159 : decode cX16_read 159 = .ok (.iconst 1, 1) := by decide +kernel
theorem dX16_read_160 : decode cX16_read 160 = .ok (.goto 4, 3) := by decide +kernel
theorem dX16_read_163 : decode cX16_read 163 = .ok (.iconst 0, 1) := by decide +kernel
theorem dX16_read_164 : decode cX16_read 164 = .ok (.iadd, 1) := by decide +kernel
theorem dX16_read_165 : decode cX16_read 165 = .ok (.putfield 302, 3) := by decide +kernel
theorem dX16_read_168 : decode cX16_read 168 = .ok (.aload_n 0, 1) := by decide +kernel
theorem dX16_read_169 : decode cX16_read 169 = .ok (.iload_n 1, 1) := by decide +kernel
theorem dX16_read_170 : decode cX16_read 170 = .ok (.invokevirtual 305, 3) := by decide +kernel
theorem dX16_read_173 : decode cX16_read 173 = .ok (.sipush (-10000), 3) := by decide +kernel
theorem dX16_read_176 : decode cX16_read 176 = .ok (.ireturn, 1) := by decide +kernel
theorem dX16_read_177 : decode cX16_read 177 = .ok (.iload 6, 2) := by decide +kernel
theorem dX16_read_179 : decode cX16_read 179 = .ok (.aload_n 3, 1) := by decide +kernel
theorem dX16_read_180 : decode cX16_read 180 = .ok (.getfield 309, 3) := by decide +kernel
theorem dX16_read_183 : decode cX16_read 183 = .ok (.iload_n 2, 1) := by decide +kernel
theorem dX16_read_184 : decode cX16_read 184 = .ok (.iaload, 1) := by decide +kernel
theorem dX16_read_185 : decode cX16_read 185 = .ok (.iadd, 1) := by decide +kernel
theorem dX16_read_186 : decode cX16_read 186 = .ok (.ireturn, 1) := by decide +kernel
theorem dX16_goesOn_0 : decode cX16_goesOn 0 = .ok (.iconst 0, 1) := by decide +kernel
theorem dX16_goesOn_1 : decode cX16_goesOn 1 = .ok (.istore 4, 2) := by decide +kernel
theorem dX16_goesOn_3 : decode cX16_goesOn 3 = .ok (.iload 4, 2) := by decide +kernel
theorem dX16_goesOn_5 : decode cX16_goesOn 5 = .ok (.iconst 3, 1) := by decide +kernel
theorem dX16_goesOn_6 : decode cX16_goesOn 6 = .ok (.if_icmp .ge 102, 3) := by decide +kernel
theorem dX16_goesOn_9 : decode cX16_goesOn 9 = .ok (.aload_n 0, 1) := by decide +kernel
theorem dX16_goesOn_10 : decode cX16_goesOn 10 = .ok (.getfield 56, 3) := by decide +kernel
theorem dX16_goesOn_13 : decode cX16_goesOn 13 = .ok (.iload 4, 2) := by decide +kernel
theorem dX16_goesOn_15 : decode cX16_goesOn 15 = .ok (.aaload, 1) := by decide +kernel
theorem dX16_goesOn_16 : decode cX16_goesOn 16 = .ok (.astore 5, 2) := by decide +kernel
theorem dX16_goesOn_18 : decode cX16_goesOn 18 = .ok (.iload 4, 2) := by decide +kernel
theorem dX16_goesOn_20 : decode cX16_goesOn 20 = .ok (.iload_n 1, 1) := by decide +kernel
theorem dX16_goesOn_21 : decode cX16_goesOn 21 = .ok (.if_icmp .eq 81, 3) := by decide +kernel
theorem dX16_goesOn_24 : decode cX16_goesOn 24 = .ok (.aload 5, 2) := by decide +kernel
theorem dX16_goesOn_26 : decode cX16_goesOn 26 = .ok (.getfield 246, 3) := by decide +kernel
theorem dX16_goesOn_29 : decode cX16_goesOn 29 = .ok (.ifCond .eq 73, 3) := by decide +kernel
theorem dX16_goesOn_32 : decode cX16_goesOn 32 = .ok (.aload 5, 2) := by decide +kernel
theorem dX16_goesOn_34 : decode cX16_goesOn 34 = .ok (.getfield 280, 3) := by decide +kernel
theorem dX16_goesOn_37 : decode cX16_goesOn 37 = .ok (.iload_n 2, 1) := by decide +kernel
theorem dX16_goesOn_38 : decode cX16_goesOn 38 = .ok (.baload, 1) := by decide +kernel
theorem dX16_goesOn_39 : decode cX16_goesOn 39 = .ok (.ifCond .ne 17, 3) := by decide +kernel
theorem dX16_goesOn_42 : decode cX16_goesOn 42 = .ok (.iload_n 3, 1) := by decide +kernel
theorem dX16_goesOn_43 : decode cX16_goesOn 43 = .ok (.ifCond .eq 59, 3) := by decide +kernel
theorem dX16_goesOn_46 : decode cX16_goesOn 46 = .ok (.aload 5, 2) := by decide +kernel
theorem dX16_goesOn_48 : decode cX16_goesOn 48 = .ok (.getfield 312, 3) := by decide +kernel
theorem dX16_goesOn_51 : decode cX16_goesOn 51 = .ok (.iload_n 2, 1) := by decide +kernel
theorem dX16_goesOn_52 : decode cX16_goesOn 52 = .ok (.baload, 1) := by decide +kernel
theorem dX16_goesOn_53 : decode cX16_goesOn 53 = .ok (.ifCond .eq 49, 3) := by decide +kernel
theorem dX16_goesOn_56 : decode cX16_goesOn 56 = .ok (.aload_n 0, 1) := by decide +kernel
theorem dX16_goesOn_57 : decode cX16_goesOn 57 = .ok (.getfield 56, 3) := by decide +kernel
theorem dX16_goesOn_60 : decode cX16_goesOn 60 = .ok (.iload_n 1, 1) := by decide +kernel
theorem dX16_goesOn_61 : decode cX16_goesOn 61 = .ok (.aaload, 1) := by decide +kernel
theorem dX16_goesOn_62 : decode cX16_goesOn 62 = .ok (.getfield 262, 3) := by decide +kernel
theorem dX16_goesOn_65 : decode cX16_goesOn 65 = .ok (.aload 5, 2) := by decide +kernel
theorem dX16_goesOn_67 : decode cX16_goesOn 67 = .ok (.getfield 262, 3) := by decide +kernel
theorem dX16_goesOn_70 : decode cX16_goesOn 70 = .ok (.if_icmp .le 7, 3) := by decide +kernel
theorem dX16_goesOn_73 : decode cX16_goesOn 73 = .ok (.iconst 1, 1) := by decide +kernel
theorem dX16_goesOn_74 : decode cX16_goesOn 74 = .ok (.goto 4, 3) := by decide +kernel
theorem dX16_goesOn_77 : decode cX16_goesOn 77 = .ok (.iconst 0, 1) := by decide +kernel
theorem dX16_goesOn_78 : decode cX16_goesOn 78 = .ok (.istore 6, 2) := by decide +kernel
theorem dX16_goesOn_80 : decode cX16_goesOn 80 = .ok (.aload_n 0, 1) := by decide +kernel
theorem dX16_goesOn_81 : decode cX16_goesOn 81 = .ok (.iload 6, 2) := by decide +kernel
theorem dX16_goesOn_83 : decode cX16_goesOn 83 = .ok (.ifCond .eq 7, 3) := by decide +kernel
theorem dX16_goesOn_86 : decode cX16_goesOn 86 = .ok (.iload_n 1, 1) := by decide +kernel
theorem dX16_goesOn_87 : decode cX16_goesOn 87 = .ok (.goto 5, 3) := by decide +kernel
theorem dX16_goesOn_90 : decode cX16_goesOn 90 = .ok (.iload 4, 2) := by decide +kernel
theorem dX16_goesOn_92 : decode cX16_goesOn 92 = .ok (.invokevirtual 305, 3) := by decide +kernel
theorem dX16_goesOn_95 : decode cX16_goesOn 95 = .ok (.iload 6, 2) := by decide +kernel
theorem dX16_goesOn_97 : decode cX16_goesOn 97 = .ok (.ifCond .eq 5, 3) := by decide +kernel
theorem dX16_goesOn_100 : decode cX16_goesOn 100 = .ok (.iconst 0, 1) := by decide +kernel
theorem dX16_goesOn_101 : decode cX16_goesOn 101 = .ok (.ireturn, 1) := by decide +kernel
theorem dX16_goesOn_102 : decode cX16_goesOn 102 = .ok (.iinc 4 1, 3) := by decide +kernel
theorem dX16_goesOn_105 : decode cX16_goesOn 105 = .ok (.goto (-102), 3) := by decide +kernel
theorem dX16_goesOn_108 : decode cX16_goesOn 108 = .ok (.iconst 1, 1) := by decide +kernel
theorem dX16_goesOn_109 : decode cX16_goesOn 109 = .ok (.ireturn, 1) := by decide +kernel
theorem dX16_isLate_0 : decode cX16_isLate 0 = .ok (.aload_n 0, 1) := by decide +kernel
theorem dX16_isLate_1 : decode cX16_isLate 1 = .ok (.getfield 47, 3) := by decide +kernel
theorem dX16_isLate_4 : decode cX16_isLate 4 = .ok (.iload_n 2, 1) := by decide +kernel
theorem dX16_isLate_5 : decode cX16_isLate 5 = .ok (.invokevirtual 201, 3) := by decide +kernel
theorem dX16_isLate_8 : decode cX16_isLate 8 = .ok (.checkcast 238, 3) := by decide +kernel
theorem dX16_isLate_11 : decode cX16_isLate 11 = .ok (.invokevirtual 315, 3) := by decide +kernel
theorem dX16_isLate_14 : decode cX16_isLate 14 = .ok (.iconst 0, 1) := by decide +kernel
theorem dX16_isLate_15 : decode cX16_isLate 15 = .ok (.iaload, 1) := by decide +kernel
theorem dX16_isLate_16 : decode cX16_isLate 16 = .ok (.aload_n 0, 1) := by decide +kernel
theorem dX16_isLate_17 : decode cX16_isLate 17 = .ok (.getfield 56, 3) := by decide +kernel
theorem dX16_isLate_20 : decode cX16_isLate 20 = .ok (.iload_n 1, 1) := by decide +kernel
theorem dX16_isLate_21 : decode cX16_isLate 21 = .ok (.aaload, 1) := by decide +kernel
theorem dX16_isLate_22 : decode cX16_isLate 22 = .ok (.getfield 256, 3) := by decide +kernel
theorem dX16_isLate_25 : decode cX16_isLate 25 = .ok (.if_icmp .le 7, 3) := by decide +kernel
theorem dX16_isLate_28 : decode cX16_isLate 28 = .ok (.iconst 1, 1) := by decide +kernel
theorem dX16_isLate_29 : decode cX16_isLate 29 = .ok (.goto 4, 3) := by decide +kernel
theorem dX16_isLate_32 : decode cX16_isLate 32 = .ok (.iconst 0, 1) := by decide +kernel
theorem dX16_isLate_33 : decode cX16_isLate 33 = .ok (.istore_n 3, 1) := by decide +kernel
theorem dX16_isLate_34 : decode cX16_isLate 34 = .ok (.iload_n 3, 1) := by decide +kernel
theorem dX16_isLate_35 : decode cX16_isLate 35 = .ok (.ifCond .eq 8, 3) := by decide +kernel
theorem dX16_isLate_38 : decode cX16_isLate 38 = .ok (.aload_n 0, 1) := by decide +kernel
theorem dX16_isLate_39 : decode cX16_isLate 39 = .ok (.iload_n 1, 1) := by decide +kernel
theorem dX16_isLate_40 : decode cX16_isLate 40 = .ok (.invokevirtual 305, 3) := by decide +kernel
theorem dX16_isLate_43 : decode cX16_isLate 43 = .ok (.iload_n 3, 1) := by decide +kernel
theorem dX16_isLate_44 : decode cX16_isLate 44 = .ok (.ireturn, 1) := by decide +kernel
theorem dX16_write_0 : decode cX16_write 0 = .ok (.aload_n 0, 1) := by decide +kernel
theorem dX16_write_1 : decode cX16_write 1 = .ok (.iconst 0, 1) := by decide +kernel
theorem dX16_write_2 : decode cX16_write 2 = .ok (.putfield 63, 3) := by decide +kernel
theorem dX16_write_5 : decode cX16_write 5 = .ok (.aload_n 0, 1) := by decide +kernel
theorem dX16_write_6 : decode cX16_write 6 = .ok (.iload_n 1, 1) := by decide +kernel
theorem dX16_write_7 : decode cX16_write 7 = .ok (.iload_n 2, 1) := by decide +kernel
theorem dX16_write_8 : decode cX16_write 8 = .ok (.invokevirtual 277, 3) := by decide +kernel
theorem dX16_write_11 : decode cX16_write 11 = .ok (.ifCond .ne 56, 3) := by decide +kernel
theorem dX16_write_14 : decode cX16_write 14 = .ok (.aload_n 0, 1) := by decide +kernel
theorem dX16_write_15 : decode cX16_write 15 = .ok (.aload_n 0, 1) := by decide +kernel
theorem dX16_write_16 : decode cX16_write 16 = .ok (.getfield 56, 3) := by decide +kernel
theorem dX16_write_19 : decode cX16_write 19 = .ok (.iload_n 1, 1) := by decide +kernel
theorem dX16_write_20 : decode cX16_write 20 = .ok (.aaload, 1) := by decide +kernel
theorem dX16_write_21 : decode cX16_write 21 = .ok (.getfield 319, 3) := by decide +kernel
theorem dX16_write_24 : decode cX16_write 24 = .ok (.iload_n 2, 1) := by decide +kernel
theorem dX16_write_25 : decode cX16_write 25 = .ok (.baload, 1) := by decide +kernel
theorem dX16_write_26 : decode cX16_write 26 = .ok (.ifCond .ne 10, 3) := by decide +kernel
theorem dX16_write_29 : decode cX16_write 29 = .ok (.iload_n 3, 1) := by decide +kernel
theorem dX16_write_30 : decode cX16_write 30 = .ok (.invokestatic 118, 3) := by decide +kernel
theorem dX16_write_33 : decode cX16_write 33 = .ok (.ifCond .eq 7, 3) := by decide +kernel
theorem dX16_write_36 : decode cX16_write 36 = .ok (.iconst 1, 1) := by decide +kernel
theorem dX16_write_37 : decode cX16_write 37 = .ok (.goto 4, 3) := by decide +kernel
theorem dX16_write_40 : decode cX16_write 40 = .ok (.iconst 0, 1) := by decide +kernel
theorem dX16_write_41 : decode cX16_write 41 = .ok (.iconst 4, 1) := by decide +kernel
theorem dX16_write_42 : decode cX16_write 42 = .ok (.invokevirtual 102, 3) := by decide +kernel
theorem dX16_write_45 : decode cX16_write 45 = .ok (.ifCond .ne 22, 3) := by decide +kernel
theorem dX16_write_48 : decode cX16_write 48 = .ok (.aload_n 0, 1) := by decide +kernel
theorem dX16_write_49 : decode cX16_write 49 = .ok (.iload_n 1, 1) := by decide +kernel
theorem dX16_write_50 : decode cX16_write 50 = .ok (.iload_n 2, 1) := by decide +kernel
theorem dX16_write_51 : decode cX16_write 51 = .ok (.invokevirtual 322, 3) := by decide +kernel
theorem dX16_write_54 : decode cX16_write 54 = .ok (.ifCond .ne 13, 3) := by decide +kernel
theorem dX16_write_57 : decode cX16_write 57 = .ok (.aload_n 0, 1) := by decide +kernel
theorem dX16_write_58 : decode cX16_write 58 = .ok (.iload_n 1, 1) := by decide +kernel
theorem dX16_write_59 : decode cX16_write 59 = .ok (.iload_n 2, 1) := by decide +kernel
theorem dX16_write_60 : decode cX16_write 60 = .ok (.iconst 1, 1) := by decide +kernel
theorem dX16_write_61 : decode cX16_write 61 = .ok (.invokevirtual 325, 3) := by decide +kernel
theorem dX16_write_64 : decode cX16_write 64 = .ok (.ifCond .ne 5, 3) := by decide +kernel
theorem dX16_write_67 : decode cX16_write 67 = .ok (.iconst 0, 1) := by decide +kernel
theorem dX16_write_68 : decode cX16_write 68 = .ok (.ireturn, 1) := by decide +kernel
theorem dX16_write_69 : decode cX16_write 69 = .ok (.aload_n 0, 1) := by decide +kernel
theorem dX16_write_70 : decode cX16_write 70 = .ok (.getfield 56, 3) := by decide +kernel
theorem dX16_write_73 : decode cX16_write 73 = .ok (.iload_n 1, 1) := by decide +kernel
theorem dX16_write_74 : decode cX16_write 74 = .ok (.aaload, 1) := by decide +kernel
theorem dX16_write_75 : decode cX16_write 75 = .ok (.getfield 280, 3) := by decide +kernel
theorem dX16_write_78 : decode cX16_write 78 = .ok (.iload_n 2, 1) := by decide +kernel
theorem dX16_write_79 : decode cX16_write 79 = .ok (.iconst 1, 1) := by decide +kernel
theorem dX16_write_80 : decode cX16_write 80 = .ok (.bastore, 1) := by decide +kernel
theorem dX16_write_81 : decode cX16_write 81 = .ok (.aload_n 0, 1) := by decide +kernel
theorem dX16_write_82 : decode cX16_write 82 = .ok (.getfield 56, 3) := by decide +kernel
theorem dX16_write_85 : decode cX16_write 85 = .ok (.iload_n 1, 1) := by decide +kernel
theorem dX16_write_86 : decode cX16_write 86 = .ok (.aaload, 1) := by decide +kernel
theorem dX16_write_87 : decode cX16_write 87 = .ok (.getfield 283, 3) := by decide +kernel
theorem dX16_write_90 : decode cX16_write 90 = .ok (.iload_n 2, 1) := by decide +kernel
theorem dX16_write_91 : decode cX16_write 91 = .ok (.iload_n 3, 1) := by decide +kernel
theorem dX16_write_92 : decode cX16_write 92 = .ok (.iastore, 1) := by decide +kernel
theorem dX16_write_93 : decode cX16_write 93 = .ok (.iconst 1, 1) := by decide +kernel
theorem dX16_write_94 : decode cX16_write 94 = .ok (.ireturn, 1) := by decide +kernel
theorem dX16_ensure_0 : decode cX16_ensure 0 = .ok (.aload_n 0, 1) := by decide +kernel
theorem dX16_ensure_1 : decode cX16_ensure 1 = .ok (.iconst 0, 1) := by decide +kernel
theorem dX16_ensure_2 : decode cX16_ensure 2 = .ok (.putfield 63, 3) := by decide +kernel
theorem dX16_ensure_5 : decode cX16_ensure 5 = .ok (.aload_n 0, 1) := by decide +kernel
theorem dX16_ensure_6 : decode cX16_ensure 6 = .ok (.iload_n 1, 1) := by decide +kernel
theorem dX16_ensure_7 : decode cX16_ensure 7 = .ok (.iload_n 2, 1) := by decide +kernel
theorem dX16_ensure_8 : decode cX16_ensure 8 = .ok (.invokevirtual 277, 3) := by decide +kernel
theorem dX16_ensure_11 : decode cX16_ensure 11 = .ok (.ifCond .ne 22, 3) := by decide +kernel
theorem dX16_ensure_14 : decode cX16_ensure 14 = .ok (.aload_n 0, 1) := by decide +kernel
theorem dX16_ensure_15 : decode cX16_ensure 15 = .ok (.iload_n 1, 1) := by decide +kernel
theorem dX16_ensure_16 : decode cX16_ensure 16 = .ok (.iload_n 2, 1) := by decide +kernel
theorem dX16_ensure_17 : decode cX16_ensure 17 = .ok (.invokevirtual 322, 3) := by decide +kernel
theorem dX16_ensure_20 : decode cX16_ensure 20 = .ok (.ifCond .ne 13, 3) := by decide +kernel
theorem dX16_ensure_23 : decode cX16_ensure 23 = .ok (.aload_n 0, 1) := by decide +kernel
theorem dX16_ensure_24 : decode cX16_ensure 24 = .ok (.iload_n 1, 1) := by decide +kernel
theorem dX16_ensure_25 : decode cX16_ensure 25 = .ok (.iload_n 2, 1) := by decide +kernel
theorem dX16_ensure_26 : decode cX16_ensure 26 = .ok (.iconst 0, 1) := by decide +kernel
theorem dX16_ensure_27 : decode cX16_ensure 27 = .ok (.invokevirtual 325, 3) := by decide +kernel
theorem dX16_ensure_30 : decode cX16_ensure 30 = .ok (.ifCond .ne 5, 3) := by decide +kernel
theorem dX16_ensure_33 : decode cX16_ensure 33 = .ok (.iconst 0, 1) := by decide +kernel
theorem dX16_ensure_34 : decode cX16_ensure 34 = .ok (.ireturn, 1) := by decide +kernel
theorem dX16_ensure_35 : decode cX16_ensure 35 = .ok (.aload_n 0, 1) := by decide +kernel
theorem dX16_ensure_36 : decode cX16_ensure 36 = .ok (.getfield 56, 3) := by decide +kernel
theorem dX16_ensure_39 : decode cX16_ensure 39 = .ok (.iload_n 1, 1) := by decide +kernel
theorem dX16_ensure_40 : decode cX16_ensure 40 = .ok (.aaload, 1) := by decide +kernel
theorem dX16_ensure_41 : decode cX16_ensure 41 = .ok (.getfield 312, 3) := by decide +kernel
theorem dX16_ensure_44 : decode cX16_ensure 44 = .ok (.iload_n 2, 1) := by decide +kernel
theorem dX16_ensure_45 : decode cX16_ensure 45 = .ok (.iconst 1, 1) := by decide +kernel
theorem dX16_ensure_46 : decode cX16_ensure 46 = .ok (.bastore, 1) := by decide +kernel
theorem dX16_ensure_47 : decode cX16_ensure 47 = .ok (.iconst 1, 1) := by decide +kernel
theorem dX16_ensure_48 : decode cX16_ensure 48 = .ok (.ireturn, 1) := by decide +kernel
theorem dX16_add_0 : decode cX16_add 0 = .ok (.aload_n 0, 1) := by decide +kernel
theorem dX16_add_1 : decode cX16_add 1 = .ok (.iconst 0, 1) := by decide +kernel
theorem dX16_add_2 : decode cX16_add 2 = .ok (.putfield 63, 3) := by decide +kernel
theorem dX16_add_5 : decode cX16_add 5 = .ok (.aload_n 0, 1) := by decide +kernel
theorem dX16_add_6 : decode cX16_add 6 = .ok (.iload_n 1, 1) := by decide +kernel
theorem dX16_add_7 : decode cX16_add 7 = .ok (.iload_n 2, 1) := by decide +kernel
theorem dX16_add_8 : decode cX16_add 8 = .ok (.invokevirtual 277, 3) := by decide +kernel
theorem dX16_add_11 : decode cX16_add 11 = .ok (.ifCond .eq 5, 3) := by decide +kernel
theorem dX16_add_14 : decode cX16_add 14 = .ok (.iconst 0, 1) := by decide +kernel
theorem dX16_add_15 : decode cX16_add 15 = .ok (.ireturn, 1) := by decide +kernel
theorem dX16_add_16 : decode cX16_add 16 = .ok (.aload_n 0, 1) := by decide +kernel
theorem dX16_add_17 : decode cX16_add 17 = .ok (.getfield 56, 3) := by decide +kernel
theorem dX16_add_20 : decode cX16_add 20 = .ok (.iload_n 1, 1) := by decide +kernel
theorem dX16_add_21 : decode cX16_add 21 = .ok (.aaload, 1) := by decide +kernel
theorem dX16_add_22 : decode cX16_add 22 = .ok (.astore 4, 2) := by decide +kernel
theorem dX16_add_24 : decode cX16_add 24 = .ok (.aload 4, 2) := by decide +kernel
theorem dX16_add_26 : decode cX16_add 26 = .ok (.getfield 280, 3) := by decide +kernel
theorem dX16_add_29 : decode cX16_add 29 = .ok (.iload_n 2, 1) := by decide +kernel
theorem dX16_add_30 : decode cX16_add 30 = .ok (.baload, 1) := by decide +kernel
theorem dX16_add_31 : decode cX16_add 31 = .ok (.ifCond .eq 13, 3) := by decide +kernel
theorem dX16_add_34 : decode cX16_add 34 = .ok (.aload 4, 2) := by decide +kernel
theorem dX16_add_36 : decode cX16_add 36 = .ok (.getfield 283, 3) := by decide +kernel
theorem dX16_add_39 : decode cX16_add 39 = .ok (.iload_n 2, 1) := by decide +kernel
theorem dX16_add_40 : decode cX16_add 40 = .ok (.iaload, 1) := by decide +kernel
theorem dX16_add_41 : decode cX16_add 41 = .ok (.goto 10, 3) := by decide +kernel
theorem dX16_add_44 : decode cX16_add 44 = .ok (.aload 4, 2) := by decide +kernel
theorem dX16_add_46 : decode cX16_add 46 = .ok (.getfield 309, 3) := by decide +kernel
theorem dX16_add_49 : decode cX16_add 49 = .ok (.iload_n 2, 1) := by decide +kernel
theorem dX16_add_50 : decode cX16_add 50 = .ok (.iaload, 1) := by decide +kernel
theorem dX16_add_51 : decode cX16_add 51 = .ok (.iload_n 3, 1) := by decide +kernel
theorem dX16_add_52 : decode cX16_add 52 = .ok (.bipush (-99), 2) := by decide +kernel
theorem dX16_add_54 : decode cX16_add 54 = .ok (.bipush 99, 2) := by decide +kernel
theorem dX16_add_56 : decode cX16_add 56 = .ok (.invokestatic 70, 3) := by decide +kernel
theorem dX16_add_59 : decode cX16_add 59 = .ok (.ifCond .eq 7, 3) := by decide +kernel
theorem dX16_add_62 : decode cX16_add 62 = .ok (.iload_n 3, 1) := by decide +kernel
theorem dX16_add_63 : decode cX16_add 63 = .ok (.goto 4, 3) := by decide +kernel
theorem dX16_add_66 : decode cX16_add 66 = .ok (.iconst 0, 1) := by decide +kernel
theorem dX16_add_67 : decode cX16_add 67 = .ok (.iadd, 1) := by decide +kernel
theorem dX16_add_68 : decode cX16_add 68 = .ok (.istore 5, 2) := by decide +kernel
theorem dX16_add_70 : decode cX16_add 70 = .ok (.aload_n 0, 1) := by decide +kernel
theorem dX16_add_71 : decode cX16_add 71 = .ok (.iload_n 3, 1) := by decide +kernel
theorem dX16_add_72 : decode cX16_add 72 = .ok (.bipush (-99), 2) := by decide +kernel
theorem dX16_add_74 : decode cX16_add 74 = .ok (.bipush 99, 2) := by decide +kernel
theorem dX16_add_76 : decode cX16_add 76 = .ok (.invokestatic 70, 3) := by decide +kernel
theorem dX16_add_79 : decode cX16_add 79 = .ok (.ifCond .eq 11, 3) := by decide +kernel
theorem dX16_add_82 : decode cX16_add 82 = .ok (.iload 5, 2) := by decide +kernel
theorem dX16_add_84 : decode cX16_add 84 = .ok (.invokestatic 118, 3) := by decide +kernel
theorem dX16_add_87 : decode cX16_add 87 = .ok (.ifCond .eq 7, 3) := by decide +kernel
theorem dX16_add_90 : decode cX16_add 90 = .ok (.iconst 1, 1) := by decide +kernel
theorem dX16_add_91 : decode cX16_add 91 = .ok (.goto 4, 3) := by decide +kernel
theorem dX16_add_94 : decode cX16_add 94 = .ok (.iconst 0, 1) := by decide +kernel
theorem dX16_add_95 : decode cX16_add 95 = .ok (.iconst 4, 1) := by decide +kernel
theorem dX16_add_96 : decode cX16_add 96 = .ok (.invokevirtual 102, 3) := by decide +kernel
theorem dX16_add_99 : decode cX16_add 99 = .ok (.ifCond .eq 5, 3) := by decide +kernel
theorem dX16_add_102 : decode cX16_add 102 = .ok (.iconst 0, 1) := by decide +kernel
theorem dX16_add_103 : decode cX16_add 103 = .ok (.ireturn, 1) := by decide +kernel
theorem dX16_add_104 : decode cX16_add 104 = .ok (.aload 4, 2) := by decide +kernel
theorem dX16_add_106 : decode cX16_add 106 = .ok (.getfield 280, 3) := by decide +kernel
theorem dX16_add_109 : decode cX16_add 109 = .ok (.iload_n 2, 1) := by decide +kernel
theorem dX16_add_110 : decode cX16_add 110 = .ok (.baload, 1) := by decide +kernel
theorem dX16_add_111 : decode cX16_add 111 = .ok (.ifCond .eq 15, 3) := by decide +kernel
theorem dX16_add_114 : decode cX16_add 114 = .ok (.aload 4, 2) := by decide +kernel
theorem dX16_add_116 : decode cX16_add 116 = .ok (.getfield 283, 3) := by decide +kernel
theorem dX16_add_119 : decode cX16_add 119 = .ok (.iload_n 2, 1) := by decide +kernel
theorem dX16_add_120 : decode cX16_add 120 = .ok (.iload 5, 2) := by decide +kernel
theorem dX16_add_122 : decode cX16_add 122 = .ok (.iastore, 1) := by decide +kernel
theorem dX16_add_123 : decode cX16_add 123 = .ok (.goto 20, 3) := by decide +kernel
theorem dX16_add_126 : decode cX16_add 126 = .ok (.aload 4, 2) := by decide +kernel
theorem dX16_add_128 : decode cX16_add 128 = .ok (.getfield 319, 3) := by decide +kernel
theorem dX16_add_131 : decode cX16_add 131 = .ok (.iload_n 2, 1) := by decide +kernel
theorem dX16_add_132 : decode cX16_add 132 = .ok (.iconst 1, 1) := by decide +kernel
theorem dX16_add_133 : decode cX16_add 133 = .ok (.bastore, 1) := by decide +kernel
theorem dX16_add_134 : decode cX16_add 134 = .ok (.aload 4, 2) := by decide +kernel
theorem dX16_add_136 : decode cX16_add 136 = .ok (.getfield 309, 3) := by decide +kernel
theorem dX16_add_139 : decode cX16_add 139 = .ok (.iload_n 2, 1) := by decide +kernel
theorem dX16_add_140 : decode cX16_add 140 = .ok (.iload 5, 2) := by decide +kernel
theorem dX16_add_142 : decode cX16_add 142 = .ok (.iastore, 1) := by decide +kernel
theorem dX16_add_143 : decode cX16_add 143 = .ok (.iconst 1, 1) := by decide +kernel
theorem dX16_add_144 : decode cX16_add 144 = .ok (.ireturn, 1) := by decide +kernel
theorem dX16_changes_0 : decode cX16_changes 0 = .ok (.aload_n 0, 1) := by decide +kernel
theorem dX16_changes_1 : decode cX16_changes 1 = .ok (.getfield 280, 3) := by decide +kernel
theorem dX16_changes_4 : decode cX16_changes 4 = .ok (.iload_n 1, 1) := by decide +kernel
theorem dX16_changes_5 : decode cX16_changes 5 = .ok (.baload, 1) := by decide +kernel
theorem dX16_changes_6 : decode cX16_changes 6 = .ok (.ifCond .ne 12, 3) := by decide +kernel
theorem dX16_changes_9 : decode cX16_changes 9 = .ok (.aload_n 0, 1) := by decide +kernel
theorem dX16_changes_10 : decode cX16_changes 10 = .ok (.getfield 319, 3) := by decide +kernel
theorem dX16_changes_13 : decode cX16_changes 13 = .ok (.iload_n 1, 1) := by decide +kernel
theorem dX16_changes_14 : decode cX16_changes 14 = .ok (.baload, 1) := by decide +kernel
theorem dX16_changes_15 : decode cX16_changes 15 = .ok (.ifCond .eq 7, 3) := by decide +kernel
theorem dX16_changes_18 : decode cX16_changes 18 = .ok (.iconst 1, 1) := by decide +kernel
theorem dX16_changes_19 : decode cX16_changes 19 = .ok (.goto 4, 3) := by decide +kernel
theorem dX16_changes_22 : decode cX16_changes 22 = .ok (.iconst 0, 1) := by decide +kernel
theorem dX16_changes_23 : decode cX16_changes 23 = .ok (.ireturn, 1) := by decide +kernel
theorem dX16_valueThen_0 : decode cX16_valueThen 0 = .ok (.aload_n 1, 1) := by decide +kernel
theorem dX16_valueThen_1 : decode cX16_valueThen 1 = .ok (.getfield 280, 3) := by decide +kernel
theorem dX16_valueThen_4 : decode cX16_valueThen 4 = .ok (.iload_n 2, 1) := by decide +kernel
theorem dX16_valueThen_5 : decode cX16_valueThen 5 = .ok (.baload, 1) := by decide +kernel
theorem dX16_valueThen_6 : decode cX16_valueThen 6 = .ok (.ifCond .eq 12, 3) := by decide +kernel
theorem dX16_valueThen_9 : decode cX16_valueThen 9 = .ok (.aload_n 1, 1) := by decide +kernel
theorem dX16_valueThen_10 : decode cX16_valueThen 10 = .ok (.getfield 283, 3) := by decide +kernel
theorem dX16_valueThen_13 : decode cX16_valueThen 13 = .ok (.iload_n 2, 1) := by decide +kernel
theorem dX16_valueThen_14 : decode cX16_valueThen 14 = .ok (.iaload, 1) := by decide +kernel
theorem dX16_valueThen_15 : decode cX16_valueThen 15 = .ok (.goto 26, 3) := by decide +kernel
theorem dX16_valueThen_18 : decode cX16_valueThen 18 = .ok (.aload_n 0, 1) := by decide +kernel
theorem dX16_valueThen_19 : decode cX16_valueThen 19 = .ok (.getfield 47, 3) := by decide +kernel
theorem dX16_valueThen_22 : decode cX16_valueThen 22 = .ok (.iload_n 2, 1) := by decide +kernel
theorem dX16_valueThen_23 : decode cX16_valueThen 23 = .ok (.invokevirtual 201, 3) := by decide +kernel
theorem dX16_valueThen_26 : decode cX16_valueThen 26 = .ok (.checkcast 238, 3) := by decide +kernel
theorem dX16_valueThen_29 : decode cX16_valueThen 29 = .ok (.invokevirtual 315, 3) := by decide +kernel
theorem dX16_valueThen_32 : decode cX16_valueThen 32 = .ok (.iconst 1, 1) := by decide +kernel
theorem dX16_valueThen_33 : decode cX16_valueThen 33 = .ok (.iaload, 1) := by decide +kernel
theorem dX16_valueThen_34 : decode cX16_valueThen 34 = .ok (.aload_n 1, 1) := by decide +kernel
theorem dX16_valueThen_35 : decode cX16_valueThen 35 = .ok (.getfield 309, 3) := by decide +kernel
theorem dX16_valueThen_38 : decode cX16_valueThen 38 = .ok (.iload_n 2, 1) := by decide +kernel
theorem dX16_valueThen_39 : decode cX16_valueThen 39 = .ok (.iaload, 1) := by decide +kernel
theorem dX16_valueThen_40 : decode cX16_valueThen 40 = .ok (.iadd, 1) := by decide +kernel
theorem dX16_valueThen_41 : decode cX16_valueThen 41 = .ok (.ireturn, 1) := by decide +kernel
theorem dX16_commit_0 : decode cX16_commit 0 = .ok (.aload_n 0, 1) := by decide +kernel
theorem dX16_commit_1 : decode cX16_commit 1 = .ok (.iconst 0, 1) := by decide +kernel
theorem dX16_commit_2 : decode cX16_commit 2 = .ok (.putfield 63, 3) := by decide +kernel
theorem dX16_commit_5 : decode cX16_commit 5 = .ok (.aload_n 0, 1) := by decide +kernel
theorem dX16_commit_6 : decode cX16_commit 6 = .ok (.iload_n 1, 1) := by decide +kernel
theorem dX16_commit_7 : decode cX16_commit 7 = .ok (.invokestatic 250, 3) := by decide +kernel
theorem dX16_commit_10 : decode cX16_commit 10 = .ok (.iconst 1, 1) := by decide +kernel
theorem dX16_commit_11 : decode cX16_commit 11 = .ok (.invokevirtual 102, 3) := by decide +kernel
theorem dX16_commit_14 : decode cX16_commit 14 = .ok (.ifCond .ne 16, 3) := by decide +kernel
theorem dX16_commit_17 : decode cX16_commit 17 = .ok (.aload_n 0, 1) := by decide +kernel
theorem dX16_commit_18 : decode cX16_commit 18 = .ok (.aload_n 0, 1) := by decide +kernel
theorem dX16_commit_19 : decode cX16_commit 19 = .ok (.iload_n 1, 1) := by decide +kernel
theorem dX16_commit_20 : decode cX16_commit 20 = .ok (.invokevirtual 274, 3) := by decide +kernel
theorem dX16_commit_23 : decode cX16_commit 23 = .ok (.iconst 2, 1) := by decide +kernel
theorem dX16_commit_24 : decode cX16_commit 24 = .ok (.invokevirtual 102, 3) := by decide +kernel
theorem dX16_commit_27 : decode cX16_commit 27 = .ok (.ifCond .eq 5, 3) := by decide +kernel
theorem dX16_commit_30 : decode cX16_commit 30 = .ok (.iconst 0, 1) := by decide +kernel
theorem dX16_commit_31 : decode cX16_commit 31 = .ok (.ireturn, 1) := by decide +kernel
theorem dX16_commit_32 : decode cX16_commit 32 = .ok (.aload_n 0, 1) := by decide +kernel
theorem dX16_commit_33 : decode cX16_commit 33 = .ok (.getfield 56, 3) := by decide +kernel
theorem dX16_commit_36 : decode cX16_commit 36 = .ok (.iload_n 1, 1) := by decide +kernel
theorem dX16_commit_37 : decode cX16_commit 37 = .ok (.aaload, 1) := by decide +kernel
theorem dX16_commit_38 : decode cX16_commit 38 = .ok (.astore_n 2, 1) := by decide +kernel
theorem dX16_commit_39 : decode cX16_commit 39 = .ok (.iconst 0, 1) := by decide +kernel
theorem dX16_commit_40 : decode cX16_commit 40 = .ok (.istore_n 3, 1) := by decide +kernel
theorem dX16_commit_41 : decode cX16_commit 41 = .ok (.iload_n 3, 1) := by decide +kernel
theorem dX16_commit_42 : decode cX16_commit 42 = .ok (.aload_n 0, 1) := by decide +kernel
theorem dX16_commit_43 : decode cX16_commit 43 = .ok (.getfield 47, 3) := by decide +kernel
theorem dX16_commit_46 : decode cX16_commit 46 = .ok (.invokevirtual 168, 3) := by decide +kernel
theorem dX16_commit_49 : decode cX16_commit 49 = .ok (.if_icmp .ge 31, 3) := by decide +kernel
theorem dX16_commit_52 : decode cX16_commit 52 = .ok (.aload_n 2, 1) := by decide +kernel
theorem dX16_commit_53 : decode cX16_commit 53 = .ok (.getfield 319, 3) := by decide +kernel
theorem dX16_commit_56 : decode cX16_commit 56 = .ok (.iload_n 3, 1) := by decide +kernel
theorem dX16_commit_57 : decode cX16_commit 57 = .ok (.baload, 1) := by decide +kernel
theorem dX16_commit_58 : decode cX16_commit 58 = .ok (.ifCond .eq 16, 3) := by decide +kernel
theorem dX16_commit_61 : decode cX16_commit 61 = .ok (.aload_n 0, 1) := by decide +kernel
theorem dX16_commit_62 : decode cX16_commit 62 = .ok (.iload_n 1, 1) := by decide +kernel
theorem dX16_commit_63 : decode cX16_commit 63 = .ok (.iload_n 3, 1) := by decide +kernel
theorem dX16_commit_64 : decode cX16_commit 64 = .ok (.iconst 1, 1) := by decide +kernel
theorem dX16_commit_65 : decode cX16_commit 65 = .ok (.invokevirtual 325, 3) := by decide +kernel
theorem dX16_commit_68 : decode cX16_commit 68 = .ok (.ifCond .ne 6, 3) := by decide +kernel
theorem dX16_commit_71 : decode cX16_commit 71 = .ok (.bipush 115, 2) := by decide +kernel
theorem dX16_commit_73 : decode cX16_commit 73 = .ok (.ireturn, 1) := by decide +kernel
theorem dX16_commit_74 : decode cX16_commit 74 = .ok (.iinc 3 1, 3) := by decide +kernel
theorem dX16_commit_77 : decode cX16_commit 77 = .ok (.goto (-36), 3) := by decide +kernel
theorem dX16_commit_80 : decode cX16_commit 80 = .ok (.iconst 0, 1) := by decide +kernel
theorem dX16_commit_81 : decode cX16_commit 81 = .ok (.istore_n 3, 1) := by decide +kernel
theorem dX16_commit_82 : decode cX16_commit 82 = .ok (.iconst 0, 1) := by decide +kernel
theorem dX16_commit_83 : decode cX16_commit 83 = .ok (.istore 4, 2) := by decide +kernel
theorem dX16_commit_85 : decode cX16_commit 85 = .ok (.iconst 0, 1) := by decide +kernel
theorem dX16_commit_86 : decode cX16_commit 86 = .ok (.istore 5, 2) := by decide +kernel
theorem dX16_commit_88 : decode cX16_commit 88 = .ok (.iload 5, 2) := by decide +kernel
theorem dX16_commit_90 : decode cX16_commit 90 = .ok (.aload_n 0, 1) := by decide +kernel
theorem dX16_commit_91 : decode cX16_commit 91 = .ok (.getfield 47, 3) := by decide +kernel
theorem dX16_commit_94 : decode cX16_commit 94 = .ok (.invokevirtual 168, 3) := by decide +kernel
theorem dX16_commit_97 : decode cX16_commit 97 = .ok (.if_icmp .ge 86, 3) := by decide +kernel
theorem dX16_commit_100 : decode cX16_commit 100 = .ok (.aload_n 0, 1) := by decide +kernel
theorem dX16_commit_101 : decode cX16_commit 101 = .ok (.getfield 47, 3) := by decide +kernel
theorem dX16_commit_104 : decode cX16_commit 104 = .ok (.iload 5, 2) := by decide +kernel
theorem dX16_commit_106 : decode cX16_commit 106 = .ok (.invokevirtual 201, 3) := by decide +kernel
theorem dX16_commit_109 : decode cX16_commit 109 = .ok (.checkcast 238, 3) := by decide +kernel
theorem dX16_commit_112 : decode cX16_commit 112 = .ok (.astore 6, 2) := by decide +kernel
theorem dX16_commit_114 : decode cX16_commit 114 = .ok (.iload_n 3, 1) := by decide +kernel
theorem dX16_commit_115 : decode cX16_commit 115 = .ok (.ifCond .ne 35, 3) := by decide +kernel
theorem dX16_commit_118 : decode cX16_commit 118 = .ok (.aload_n 2, 1) := by decide +kernel
theorem dX16_commit_119 : decode cX16_commit 119 = .ok (.iload 5, 2) := by decide +kernel
theorem dX16_commit_121 : decode cX16_commit 121 = .ok (.invokestatic 329, 3) := by decide +kernel
theorem dX16_commit_124 : decode cX16_commit 124 = .ok (.ifCond .eq 30, 3) := by decide +kernel
theorem dX16_commit_127 : decode cX16_commit 127 = .ok (.aload_n 0, 1) := by decide +kernel
theorem dX16_commit_128 : decode cX16_commit 128 = .ok (.aload_n 2, 1) := by decide +kernel
theorem dX16_commit_129 : decode cX16_commit 129 = .ok (.iload 5, 2) := by decide +kernel
theorem dX16_commit_131 : decode cX16_commit 131 = .ok (.invokevirtual 333, 3) := by decide +kernel
theorem dX16_commit_134 : decode cX16_commit 134 = .ok (.aload 6, 2) := by decide +kernel
theorem dX16_commit_136 : decode cX16_commit 136 = .ok (.getfield 337, 3) := by decide +kernel
theorem dX16_commit_139 : decode cX16_commit 139 = .ok (.aload 6, 2) := by decide +kernel
theorem dX16_commit_141 : decode cX16_commit 141 = .ok (.getfield 340, 3) := by decide +kernel
theorem dX16_commit_144 : decode cX16_commit 144 = .ok (.invokestatic 70, 3) := by decide +kernel
theorem dX16_commit_147 : decode cX16_commit 147 = .ok (.ifCond .ne 7, 3) := by decide +kernel
theorem dX16_commit_150 : decode cX16_commit 150 = .ok (.iconst 1, 1) := by decide +kernel
theorem dX16_commit_151 : decode cX16_commit 151 = .ok (.goto 4, 3) := by decide +kernel
theorem dX16_commit_154 : decode cX16_commit 154 = .ok (.iconst 0, 1) := by decide +kernel
theorem dX16_commit_155 : decode cX16_commit 155 = .ok (.istore_n 3, 1) := by decide +kernel
theorem dX16_commit_156 : decode cX16_commit 156 = .ok (.iload 4, 2) := by decide +kernel
theorem dX16_commit_158 : decode cX16_commit 158 = .ok (.ifCond .ne 12, 3) := by decide +kernel
theorem dX16_commit_161 : decode cX16_commit 161 = .ok (.aload_n 2, 1) := by decide +kernel
theorem dX16_commit_162 : decode cX16_commit 162 = .ok (.iload 5, 2) := by decide +kernel
theorem dX16_commit_164 : decode cX16_commit 164 = .ok (.invokestatic 329, 3) := by decide +kernel
theorem dX16_commit_167 : decode cX16_commit 167 = .ok (.ifCond .eq 7, 3) := by decide +kernel
theorem dX16_commit_170 : decode cX16_commit 170 = .ok (.iconst 1, 1) := by decide +kernel
theorem dX16_commit_171 : decode cX16_commit 171 = .ok (.goto 4, 3) := by decide +kernel
theorem dX16_commit_174 : decode cX16_commit 174 = .ok (.iconst 0, 1) := by decide +kernel
theorem dX16_commit_175 : decode cX16_commit 175 = .ok (.istore 4, 2) := by decide +kernel
theorem dX16_commit_177 : decode cX16_commit 177 = .ok (.iinc 5 1, 3) := by decide +kernel
theorem dX16_commit_180 : decode cX16_commit 180 = .ok (.goto (-92), 3) := by decide +kernel
theorem dX16_commit_183 : decode cX16_commit 183 = .ok (.aload_n 2, 1) := by decide +kernel
theorem dX16_commit_184 : decode cX16_commit 184 = .ok (.iconst 0, 1) := by decide +kernel
theorem dX16_commit_185 : decode cX16_commit 185 = .ok (.putfield 246, 3) := by decide +kernel
theorem dX16_commit_188 : decode cX16_commit 188 = .ok (.iload_n 3, 1) := by decide +kernel
theorem dX16_commit_189 : decode cX16_commit 189 = .ok (.ifCond .eq 10, 3) := by decide +kernel
theorem dX16_commit_192 : decode cX16_commit 192 = .ok (.aload_n 2, 1) := by decide +kernel
theorem dX16_commit_193 : decode cX16_commit 193 = .ok (.invokevirtual 268, 3) := by decide +kernel
theorem dX16_commit_196 : decode cX16_commit 196 = .ok (.bipush 98, 2) := by decide +kernel
theorem dX16_commit_198 : decode cX16_commit 198 = .ok (.ireturn, 1) := by decide +kernel
theorem dX16_commit_199 : decode cX16_commit 199 = .ok (.aload_n 0, 1) := by decide +kernel
theorem dX16_commit_200 : decode cX16_commit 200 = .ok (.dup, 1) := by decide +kernel
theorem dX16_commit_201 : decode cX16_commit 201 = .ok (.getfield 253, 3) := by decide +kernel
theorem dX16_commit_204 : decode cX16_commit 204 = .ok (.iload 4, 2) := by decide +kernel
theorem dX16_commit_206 : decode cX16_commit 206 = .ok (.ifCond .eq 7, 3) := by decide +kernel
theorem dX16_commit_209 : decode cX16_commit 209 = .ok (.iconst 1, 1) := by decide +kernel
theorem dX16_commit_210 : decode cX16_commit 210 = .ok (.goto 4, 3) := by decide +kernel
theorem dX16_commit_213 : decode cX16_commit 213 = .ok (.iconst 0, 1) := by decide +kernel
theorem dX16_commit_214 : decode cX16_commit 214 = .ok (.iadd, 1) := by decide +kernel
theorem dX16_commit_215 : decode cX16_commit 215 = .ok (.putfield 253, 3) := by decide +kernel
theorem dX16_commit_218 : decode cX16_commit 218 = .ok (.iconst 0, 1) := by decide +kernel
theorem dX16_commit_219 : decode cX16_commit 219 = .ok (.istore 5, 2) := by decide +kernel
theorem dX16_commit_221 : decode cX16_commit 221 = .ok (.iload 5, 2) := by decide +kernel
theorem dX16_commit_223 : decode cX16_commit 223 = .ok (.aload_n 0, 1) := by decide +kernel
theorem dX16_commit_224 : decode cX16_commit 224 = .ok (.getfield 47, 3) := by decide +kernel
theorem dX16_commit_227 : decode cX16_commit 227 = .ok (.invokevirtual 168, 3) := by decide +kernel
theorem dX16_commit_230 : decode cX16_commit 230 = .ok (.if_icmp .ge 92, 3) := by decide +kernel
theorem dX16_commit_233 : decode cX16_commit 233 = .ok (.aload_n 2, 1) := by decide +kernel
theorem dX16_commit_234 : decode cX16_commit 234 = .ok (.iload 5, 2) := by decide +kernel
theorem dX16_commit_236 : decode cX16_commit 236 = .ok (.invokestatic 329, 3) := by decide +kernel
theorem dX16_commit_239 : decode cX16_commit 239 = .ok (.ifCond .eq 77, 3) := by decide +kernel
theorem dX16_commit_242 : decode cX16_commit 242 = .ok (.aload_n 0, 1) := by decide +kernel
theorem dX16_commit_243 : decode cX16_commit 243 = .ok (.getfield 47, 3) := by decide +kernel
theorem dX16_commit_246 : decode cX16_commit 246 = .ok (.iload 5, 2) := by decide +kernel
theorem dX16_commit_248 : decode cX16_commit 248 = .ok (.invokevirtual 201, 3) := by decide +kernel
theorem dX16_commit_251 : decode cX16_commit 251 = .ok (.checkcast 238, 3) := by decide +kernel
theorem dX16_commit_254 : decode cX16_commit 254 = .ok (.astore 6, 2) := by decide +kernel
theorem dX16_commit_256 : decode cX16_commit 256 = .ok (.iconst 4, 1) := by decide +kernel
theorem dX16_commit_257 : decode cX16_commit 257 = .ok (.newarray .int, 2) := by decide +kernel
theorem dX16_commit_259 : decode cX16_commit 259 = .ok (.dup, 1) := by decide +kernel
theorem dX16_commit_260 : decode cX16_commit 260 = .ok (.iconst 0, 1) := by decide +kernel
theorem dX16_commit_261 : decode cX16_commit 261 = .ok (.aload_n 0, 1) := by decide +kernel
theorem dX16_commit_262 : decode cX16_commit 262 = .ok (.getfield 253, 3) := by decide +kernel
theorem dX16_commit_265 : decode cX16_commit 265 = .ok (.iastore, 1) := by decide +kernel
theorem dX16_commit_266 : decode cX16_commit 266 = .ok (.dup, 1) := by decide +kernel
theorem dX16_commit_267 : decode cX16_commit 267 = .ok (.iconst 1, 1) := by decide +kernel
theorem dX16_commit_268 : decode cX16_commit 268 = .ok (.iload 5, 2) := by decide +kernel
theorem dX16_commit_270 : decode cX16_commit 270 = .ok (.iastore, 1) := by decide +kernel
theorem dX16_commit_271 : decode cX16_commit 271 = .ok (.dup, 1) := by decide +kernel
theorem dX16_commit_272 : decode cX16_commit 272 = .ok (.iconst 2, 1) := by decide +kernel
theorem dX16_commit_273 : decode cX16_commit 273 = .ok (.aload 6, 2) := by decide +kernel
theorem dX16_commit_275 : decode cX16_commit 275 = .ok (.invokevirtual 315, 3) := by decide +kernel
theorem dX16_commit_278 : decode cX16_commit 278 = .ok (.iconst 1, 1) := by decide +kernel
theorem dX16_commit_279 : decode cX16_commit 279 = .ok (.iaload, 1) := by decide +kernel
theorem dX16_commit_280 : decode cX16_commit 280 = .ok (.iastore, 1) := by decide +kernel
theorem dX16_commit_281 : decode cX16_commit 281 = .ok (.dup, 1) := by decide +kernel
theorem dX16_commit_282 : decode cX16_commit 282 = .ok (.iconst 3, 1) := by decide +kernel
theorem dX16_commit_283 : decode cX16_commit 283 = .ok (.aload_n 0, 1) := by decide +kernel
theorem dX16_commit_284 : decode cX16_commit 284 = .ok (.aload_n 2, 1) := by decide +kernel
theorem dX16_commit_285 : decode cX16_commit 285 = .ok (.iload 5, 2) := by decide +kernel
theorem dX16_commit_287 : decode cX16_commit 287 = .ok (.invokevirtual 333, 3) := by decide +kernel
theorem dX16_commit_290 : decode cX16_commit 290 = .ok (.iastore, 1) := by decide +kernel
theorem dX16_commit_291 : decode cX16_commit 291 = .ok (.astore 7, 2) := by decide +kernel
theorem dX16_commit_293 : decode cX16_commit 293 = .ok (.aload_n 0, 1) := by decide +kernel
theorem dX16_commit_294 : decode cX16_commit 294 = .ok (.getfield 50, 3) := by decide +kernel
theorem dX16_commit_297 : decode cX16_commit 297 = .ok (.aload 7, 2) := by decide +kernel
theorem dX16_commit_299 : decode cX16_commit 299 = .ok (.invokevirtual 175, 3) := by decide +kernel
theorem dX16_commit_302 : decode cX16_commit 302 = .ok (.pop, 1) := by decide +kernel
theorem dX16_commit_303 : decode cX16_commit 303 = .ok (.aload 6, 2) := by decide +kernel
theorem dX16_commit_305 : decode cX16_commit 305 = .ok (.aload_n 0, 1) := by decide +kernel
theorem dX16_commit_306 : decode cX16_commit 306 = .ok (.getfield 253, 3) := by decide +kernel
theorem dX16_commit_309 : decode cX16_commit 309 = .ok (.aload 7, 2) := by decide +kernel
theorem dX16_commit_311 : decode cX16_commit 311 = .ok (.iconst 3, 1) := by decide +kernel
theorem dX16_commit_312 : decode cX16_commit 312 = .ok (.iaload, 1) := by decide +kernel
theorem dX16_commit_313 : decode cX16_commit 313 = .ok (.invokevirtual 243, 3) := by decide +kernel
theorem dX16_commit_316 : decode cX16_commit 316 = .ok (.iinc 5 1, 3) := by decide +kernel
theorem dX16_commit_319 : decode cX16_commit 319 = .ok (.goto (-98), 3) := by decide +kernel
theorem dX16_commit_322 : decode cX16_commit 322 = .ok (.aload_n 2, 1) := by decide +kernel
theorem dX16_commit_323 : decode cX16_commit 323 = .ok (.getfield 343, 3) := by decide +kernel
theorem dX16_commit_326 : decode cX16_commit 326 = .ok (.invokevirtual 289, 3) := by decide +kernel
theorem dX16_commit_329 : decode cX16_commit 329 = .ok (.astore 5, 2) := by decide +kernel
theorem dX16_commit_331 : decode cX16_commit 331 = .ok (.aload 5, 2) := by decide +kernel
theorem dX16_commit_333 : decode cX16_commit 333 = .ok (.invokeinterface 293 1, 5) := by decide +kernel
theorem dX16_commit_338 : decode cX16_commit 338 = .ok (.ifCond .eq 39, 3) := by decide +kernel
theorem dX16_commit_341 : decode cX16_commit 341 = .ok (.aload 5, 2) := by decide +kernel
theorem dX16_commit_343 : decode cX16_commit 343 = .ok (.invokeinterface 298 1, 5) := by decide +kernel
theorem dX16_commit_348 : decode cX16_commit 348 = .ok (.checkcast 221, 3) := by decide +kernel
theorem dX16_commit_351 : decode cX16_commit 351 = .ok (.astore 6, 2) := by decide +kernel
theorem dX16_commit_353 : decode cX16_commit 353 = .ok (.aload_n 0, 1) := by decide +kernel
theorem dX16_commit_354 : decode cX16_commit 354 = .ok (.getfield 60, 3) := by decide +kernel
theorem dX16_commit_357 : decode cX16_commit 357 = .ok (.aload 6, 2) := by decide +kernel
theorem dX16_commit_359 : decode cX16_commit 359 = .ok (.iconst 0, 1) := by decide +kernel
theorem dX16_commit_360 : decode cX16_commit 360 = .ok (.iaload, 1) := by decide +kernel
theorem dX16_commit_361 : decode cX16_commit 361 = .ok (.invokevirtual 201, 3) := by decide +kernel
theorem dX16_commit_364 : decode cX16_commit 364 = .ok (.checkcast 346, 3) := by decide +kernel
theorem dX16_commit_367 : decode cX16_commit 367 = .ok (.aload 6, 2) := by decide +kernel
theorem dX16_commit_369 : decode cX16_commit 369 = .ok (.iconst 1, 1) := by decide +kernel
theorem dX16_commit_370 : decode cX16_commit 370 = .ok (.iaload, 1) := by decide +kernel
theorem dX16_commit_371 : decode cX16_commit 371 = .ok (.invokevirtual 348, 3) := by decide +kernel
theorem dX16_commit_374 : decode cX16_commit 374 = .ok (.goto (-43), 3) := by decide +kernel
theorem dX16_commit_377 : decode cX16_commit 377 = .ok (.aload_n 2, 1) := by decide +kernel
theorem dX16_commit_378 : decode cX16_commit 378 = .ok (.invokevirtual 268, 3) := by decide +kernel
theorem dX16_commit_381 : decode cX16_commit 381 = .ok (.bipush 99, 2) := by decide +kernel
theorem dX16_commit_383 : decode cX16_commit 383 = .ok (.ireturn, 1) := by decide +kernel
theorem dX16_end_0 : decode cX16_end 0 = .ok (.aload_n 0, 1) := by decide +kernel
theorem dX16_end_1 : decode cX16_end 1 = .ok (.iconst 0, 1) := by decide +kernel
theorem dX16_end_2 : decode cX16_end 2 = .ok (.putfield 63, 3) := by decide +kernel
theorem dX16_end_5 : decode cX16_end 5 = .ok (.aload_n 0, 1) := by decide +kernel
theorem dX16_end_6 : decode cX16_end 6 = .ok (.iload_n 1, 1) := by decide +kernel
theorem dX16_end_7 : decode cX16_end 7 = .ok (.invokestatic 250, 3) := by decide +kernel
theorem dX16_end_10 : decode cX16_end 10 = .ok (.iconst 1, 1) := by decide +kernel
theorem dX16_end_11 : decode cX16_end 11 = .ok (.invokevirtual 102, 3) := by decide +kernel
theorem dX16_end_14 : decode cX16_end 14 = .ok (.ifCond .ne 16, 3) := by decide +kernel
theorem dX16_end_17 : decode cX16_end 17 = .ok (.aload_n 0, 1) := by decide +kernel
theorem dX16_end_18 : decode cX16_end 18 = .ok (.aload_n 0, 1) := by decide +kernel
theorem dX16_end_19 : decode cX16_end 19 = .ok (.iload_n 1, 1) := by decide +kernel
theorem dX16_end_20 : decode cX16_end 20 = .ok (.invokevirtual 274, 3) := by decide +kernel
theorem dX16_end_23 : decode cX16_end 23 = .ok (.iconst 2, 1) := by decide +kernel
theorem dX16_end_24 : decode cX16_end 24 = .ok (.invokevirtual 102, 3) := by decide +kernel
theorem dX16_end_27 : decode cX16_end 27 = .ok (.ifCond .eq 5, 3) := by decide +kernel
theorem dX16_end_30 : decode cX16_end 30 = .ok (.iconst 0, 1) := by decide +kernel
theorem dX16_end_31 : decode cX16_end 31 = .ok (.ireturn, 1) := by decide +kernel
theorem dX16_end_32 : decode cX16_end 32 = .ok (.aload_n 0, 1) := by decide +kernel
theorem dX16_end_33 : decode cX16_end 33 = .ok (.getfield 56, 3) := by decide +kernel
theorem dX16_end_36 : decode cX16_end 36 = .ok (.iload_n 1, 1) := by decide +kernel
theorem dX16_end_37 : decode cX16_end 37 = .ok (.aaload, 1) := by decide +kernel
theorem dX16_end_38 : decode cX16_end 38 = .ok (.iconst 0, 1) := by decide +kernel
theorem dX16_end_39 : decode cX16_end 39 = .ok (.putfield 246, 3) := by decide +kernel
theorem dX16_end_42 : decode cX16_end 42 = .ok (.aload_n 0, 1) := by decide +kernel
theorem dX16_end_43 : decode cX16_end 43 = .ok (.getfield 56, 3) := by decide +kernel
theorem dX16_end_46 : decode cX16_end 46 = .ok (.iload_n 1, 1) := by decide +kernel
theorem dX16_end_47 : decode cX16_end 47 = .ok (.aaload, 1) := by decide +kernel
theorem dX16_end_48 : decode cX16_end 48 = .ok (.invokevirtual 268, 3) := by decide +kernel
theorem dX16_end_51 : decode cX16_end 51 = .ok (.aload_n 0, 1) := by decide +kernel
theorem dX16_end_52 : decode cX16_end 52 = .ok (.getfield 56, 3) := by decide +kernel
theorem dX16_end_55 : decode cX16_end 55 = .ok (.iload_n 1, 1) := by decide +kernel
theorem dX16_end_56 : decode cX16_end 56 = .ok (.aaload, 1) := by decide +kernel
theorem dX16_end_57 : decode cX16_end 57 = .ok (.getfield 265, 3) := by decide +kernel
theorem dX16_end_60 : decode cX16_end 60 = .ok (.ireturn, 1) := by decide +kernel
theorem dX16_sentBack_0 : decode cX16_sentBack 0 = .ok (.aload_n 0, 1) := by decide +kernel
theorem dX16_sentBack_1 : decode cX16_sentBack 1 = .ok (.iconst 0, 1) := by decide +kernel
theorem dX16_sentBack_2 : decode cX16_sentBack 2 = .ok (.putfield 63, 3) := by decide +kernel
theorem dX16_sentBack_5 : decode cX16_sentBack 5 = .ok (.aload_n 0, 1) := by decide +kernel
theorem dX16_sentBack_6 : decode cX16_sentBack 6 = .ok (.iload_n 1, 1) := by decide +kernel
theorem dX16_sentBack_7 : decode cX16_sentBack 7 = .ok (.invokestatic 250, 3) := by decide +kernel
theorem dX16_sentBack_10 : decode cX16_sentBack 10 = .ok (.iconst 1, 1) := by decide +kernel
theorem dX16_sentBack_11 : decode cX16_sentBack 11 = .ok (.invokevirtual 102, 3) := by decide +kernel
theorem dX16_sentBack_14 : decode cX16_sentBack 14 = .ok (.ifCond .eq 7, 3) := by decide +kernel
theorem dX16_sentBack_17 : decode cX16_sentBack 17 = .ok (.iconst 0, 1) := by decide +kernel
theorem dX16_sentBack_18 : decode cX16_sentBack 18 = .ok (.goto 12, 3) := by decide +kernel
theorem dX16_sentBack_21 : decode cX16_sentBack 21 = .ok (.aload_n 0, 1) := by decide +kernel
theorem dX16_sentBack_22 : decode cX16_sentBack 22 = .ok (.getfield 56, 3) := by decide +kernel
theorem dX16_sentBack_25 : decode cX16_sentBack 25 = .ok (.iload_n 1, 1) := by decide +kernel
theorem dX16_sentBack_26 : decode cX16_sentBack 26 = .ok (.aaload, 1) := by decide +kernel
theorem dX16_sentBack_27 : decode cX16_sentBack 27 = .ok (.getfield 265, 3) := by decide +kernel
theorem dX16_sentBack_30 : decode cX16_sentBack 30 = .ok (.ireturn, 1) := by decide +kernel
theorem dX16_valueOf_0 : decode cX16_valueOf 0 = .ok (.aload_n 0, 1) := by decide +kernel
theorem dX16_valueOf_1 : decode cX16_valueOf 1 = .ok (.iconst 0, 1) := by decide +kernel
theorem dX16_valueOf_2 : decode cX16_valueOf 2 = .ok (.putfield 63, 3) := by decide +kernel
theorem dX16_valueOf_5 : decode cX16_valueOf 5 = .ok (.aload_n 0, 1) := by decide +kernel
theorem dX16_valueOf_6 : decode cX16_valueOf 6 = .ok (.aload_n 0, 1) := by decide +kernel
theorem dX16_valueOf_7 : decode cX16_valueOf 7 = .ok (.iload_n 1, 1) := by decide +kernel
theorem dX16_valueOf_8 : decode cX16_valueOf 8 = .ok (.invokevirtual 271, 3) := by decide +kernel
theorem dX16_valueOf_11 : decode cX16_valueOf 11 = .ok (.iconst 1, 1) := by decide +kernel
theorem dX16_valueOf_12 : decode cX16_valueOf 12 = .ok (.invokevirtual 102, 3) := by decide +kernel
theorem dX16_valueOf_15 : decode cX16_valueOf 15 = .ok (.ifCond .eq 7, 3) := by decide +kernel
theorem dX16_valueOf_18 : decode cX16_valueOf 18 = .ok (.iconst 0, 1) := by decide +kernel
theorem dX16_valueOf_19 : decode cX16_valueOf 19 = .ok (.goto 19, 3) := by decide +kernel
theorem dX16_valueOf_22 : decode cX16_valueOf 22 = .ok (.aload_n 0, 1) := by decide +kernel
theorem dX16_valueOf_23 : decode cX16_valueOf 23 = .ok (.getfield 47, 3) := by decide +kernel
theorem dX16_valueOf_26 : decode cX16_valueOf 26 = .ok (.iload_n 1, 1) := by decide +kernel
theorem dX16_valueOf_27 : decode cX16_valueOf 27 = .ok (.invokevirtual 201, 3) := by decide +kernel
theorem dX16_valueOf_30 : decode cX16_valueOf 30 = .ok (.checkcast 238, 3) := by decide +kernel
theorem dX16_valueOf_33 : decode cX16_valueOf 33 = .ok (.invokevirtual 315, 3) := by decide +kernel
theorem dX16_valueOf_36 : decode cX16_valueOf 36 = .ok (.iconst 1, 1) := by decide +kernel
theorem dX16_valueOf_37 : decode cX16_valueOf 37 = .ok (.iaload, 1) := by decide +kernel
theorem dX16_valueOf_38 : decode cX16_valueOf 38 = .ok (.ireturn, 1) := by decide +kernel
theorem dX16_valueByLog_0 : decode cX16_valueByLog 0 = .ok (.aload_n 0, 1) := by decide +kernel
theorem dX16_valueByLog_1 : decode cX16_valueByLog 1 = .ok (.iconst 0, 1) := by decide +kernel
theorem dX16_valueByLog_2 : decode cX16_valueByLog 2 = .ok (.putfield 63, 3) := by decide +kernel
theorem dX16_valueByLog_5 : decode cX16_valueByLog 5 = .ok (.aload_n 0, 1) := by decide +kernel
theorem dX16_valueByLog_6 : decode cX16_valueByLog 6 = .ok (.aload_n 0, 1) := by decide +kernel
theorem dX16_valueByLog_7 : decode cX16_valueByLog 7 = .ok (.iload_n 1, 1) := by decide +kernel
theorem dX16_valueByLog_8 : decode cX16_valueByLog 8 = .ok (.invokevirtual 271, 3) := by decide +kernel
theorem dX16_valueByLog_11 : decode cX16_valueByLog 11 = .ok (.iconst 1, 1) := by decide +kernel
theorem dX16_valueByLog_12 : decode cX16_valueByLog 12 = .ok (.invokevirtual 102, 3) := by decide +kernel
theorem dX16_valueByLog_15 : decode cX16_valueByLog 15 = .ok (.ifCond .eq 5, 3) := by decide +kernel
theorem dX16_valueByLog_18 : decode cX16_valueByLog 18 = .ok (.iconst 0, 1) := by decide +kernel
theorem dX16_valueByLog_19 : decode cX16_valueByLog 19 = .ok (.ireturn, 1) := by decide +kernel
theorem dX16_valueByLog_20 : decode cX16_valueByLog 20 = .ok (.aload_n 0, 1) := by decide +kernel
theorem dX16_valueByLog_21 : decode cX16_valueByLog 21 = .ok (.getfield 47, 3) := by decide +kernel
theorem dX16_valueByLog_24 : decode cX16_valueByLog 24 = .ok (.iload_n 1, 1) := by decide +kernel
theorem dX16_valueByLog_25 : decode cX16_valueByLog 25 = .ok (.invokevirtual 201, 3) := by decide +kernel
theorem dX16_valueByLog_28 : decode cX16_valueByLog 28 = .ok (.checkcast 238, 3) := by decide +kernel
theorem dX16_valueByLog_31 : decode cX16_valueByLog 31 = .ok (.getfield 351, 3) := by decide +kernel
theorem dX16_valueByLog_34 : decode cX16_valueByLog 34 = .ok (.istore_n 2, 1) := by decide +kernel
theorem dX16_valueByLog_35 : decode cX16_valueByLog 35 = .ok (.aload_n 0, 1) := by decide +kernel
theorem dX16_valueByLog_36 : decode cX16_valueByLog 36 = .ok (.getfield 50, 3) := by decide +kernel
theorem dX16_valueByLog_39 : decode cX16_valueByLog 39 = .ok (.invokevirtual 289, 3) := by decide +kernel
theorem dX16_valueByLog_42 : decode cX16_valueByLog 42 = .ok (.astore_n 3, 1) := by decide +kernel
theorem dX16_valueByLog_43 : decode cX16_valueByLog 43 = .ok (.aload_n 3, 1) := by decide +kernel
theorem dX16_valueByLog_44 : decode cX16_valueByLog 44 = .ok (.invokeinterface 293 1, 5) := by decide +kernel
theorem dX16_valueByLog_49 : decode cX16_valueByLog 49 = .ok (.ifCond .eq 34, 3) := by decide +kernel
theorem dX16_valueByLog_52 : decode cX16_valueByLog 52 = .ok (.aload_n 3, 1) := by decide +kernel
theorem dX16_valueByLog_53 : decode cX16_valueByLog 53 = .ok (.invokeinterface 298 1, 5) := by decide +kernel
theorem dX16_valueByLog_58 : decode cX16_valueByLog 58 = .ok (.checkcast 221, 3) := by decide +kernel
theorem dX16_valueByLog_61 : decode cX16_valueByLog 61 = .ok (.astore 4, 2) := by decide +kernel
theorem dX16_valueByLog_63 : decode cX16_valueByLog 63 = .ok (.aload 4, 2) := by decide +kernel
theorem dX16_valueByLog_65 : decode cX16_valueByLog 65 = .ok (.iconst 1, 1) := by decide +kernel
theorem dX16_valueByLog_66 : decode cX16_valueByLog 66 = .ok (.iaload, 1) := by decide +kernel
theorem dX16_valueByLog_67 : decode cX16_valueByLog 67 = .ok (.iload_n 1, 1) := by decide +kernel
theorem dX16_valueByLog_68 : decode cX16_valueByLog 68 = .ok (.if_icmp .ne 10, 3) := by decide +kernel
theorem dX16_valueByLog_71 : decode cX16_valueByLog 71 = .ok (.aload 4, 2) := by decide +kernel
theorem dX16_valueByLog_73 : decode cX16_valueByLog 73 = .ok (.iconst 3, 1) := by decide +kernel
theorem dX16_valueByLog_74 : decode cX16_valueByLog 74 = .ok (.iaload, 1) := by decide +kernel
theorem dX16_valueByLog_75 : decode cX16_valueByLog 75 = .ok (.goto 4, 3) := by decide +kernel
theorem dX16_valueByLog_78 : decode cX16_valueByLog 78 = .ok (.iload_n 2, 1) := by decide +kernel
theorem dX16_valueByLog_79 : decode cX16_valueByLog 79 = .ok (.istore_n 2, 1) := by decide +kernel
theorem dX16_valueByLog_80 : decode cX16_valueByLog 80 = .ok (.goto (-37), 3) := by decide +kernel
theorem dX16_valueByLog_83 : decode cX16_valueByLog 83 = .ok (.iload_n 2, 1) := by decide +kernel
theorem dX16_valueByLog_84 : decode cX16_valueByLog 84 = .ok (.ireturn, 1) := by decide +kernel
theorem dX16_history_0 : decode cX16_history 0 = .ok (.aload_n 0, 1) := by decide +kernel
theorem dX16_history_1 : decode cX16_history 1 = .ok (.iconst 0, 1) := by decide +kernel
theorem dX16_history_2 : decode cX16_history 2 = .ok (.putfield 63, 3) := by decide +kernel
theorem dX16_history_5 : decode cX16_history 5 = .ok (.aload_n 0, 1) := by decide +kernel
theorem dX16_history_6 : decode cX16_history 6 = .ok (.aload_n 0, 1) := by decide +kernel
theorem dX16_history_7 : decode cX16_history 7 = .ok (.iload_n 1, 1) := by decide +kernel
theorem dX16_history_8 : decode cX16_history 8 = .ok (.invokevirtual 271, 3) := by decide +kernel
theorem dX16_history_11 : decode cX16_history 11 = .ok (.iconst 1, 1) := by decide +kernel
theorem dX16_history_12 : decode cX16_history 12 = .ok (.invokevirtual 102, 3) := by decide +kernel
theorem dX16_history_15 : decode cX16_history 15 = .ok (.ifCond .eq 7, 3) := by decide +kernel
theorem dX16_history_18 : decode cX16_history 18 = .ok (.iconst 0, 1) := by decide +kernel
theorem dX16_history_19 : decode cX16_history 19 = .ok (.goto 20, 3) := by decide +kernel
theorem dX16_history_22 : decode cX16_history 22 = .ok (.aload_n 0, 1) := by decide +kernel
theorem dX16_history_23 : decode cX16_history 23 = .ok (.getfield 47, 3) := by decide +kernel
theorem dX16_history_26 : decode cX16_history 26 = .ok (.iload_n 1, 1) := by decide +kernel
theorem dX16_history_27 : decode cX16_history 27 = .ok (.invokevirtual 201, 3) := by decide +kernel
theorem dX16_history_30 : decode cX16_history 30 = .ok (.checkcast 238, 3) := by decide +kernel
theorem dX16_history_33 : decode cX16_history 33 = .ok (.getfield 286, 3) := by decide +kernel
theorem dX16_history_36 : decode cX16_history 36 = .ok (.invokevirtual 168, 3) := by decide +kernel
theorem dX16_history_39 : decode cX16_history 39 = .ok (.ireturn, 1) := by decide +kernel
theorem dX16_moment_0 : decode cX16_moment 0 = .ok (.aload_n 0, 1) := by decide +kernel
theorem dX16_moment_1 : decode cX16_moment 1 = .ok (.iconst 0, 1) := by decide +kernel
theorem dX16_moment_2 : decode cX16_moment 2 = .ok (.putfield 63, 3) := by decide +kernel
theorem dX16_moment_5 : decode cX16_moment 5 = .ok (.aload_n 0, 1) := by decide +kernel
theorem dX16_moment_6 : decode cX16_moment 6 = .ok (.getfield 253, 3) := by decide +kernel
theorem dX16_moment_9 : decode cX16_moment 9 = .ok (.ireturn, 1) := by decide +kernel
theorem dX16_logged_0 : decode cX16_logged 0 = .ok (.aload_n 0, 1) := by decide +kernel
theorem dX16_logged_1 : decode cX16_logged 1 = .ok (.iconst 0, 1) := by decide +kernel
theorem dX16_logged_2 : decode cX16_logged 2 = .ok (.putfield 63, 3) := by decide +kernel
theorem dX16_logged_5 : decode cX16_logged 5 = .ok (.aload_n 0, 1) := by decide +kernel
theorem dX16_logged_6 : decode cX16_logged 6 = .ok (.getfield 50, 3) := by decide +kernel
theorem dX16_logged_9 : decode cX16_logged 9 = .ok (.invokevirtual 168, 3) := by decide +kernel
theorem dX16_logged_12 : decode cX16_logged 12 = .ok (.ireturn, 1) := by decide +kernel
theorem dX16_logAt_0 : decode cX16_logAt 0 = .ok (.aload_n 0, 1) := by decide +kernel
theorem dX16_logAt_1 : decode cX16_logAt 1 = .ok (.iconst 0, 1) := by decide +kernel
theorem dX16_logAt_2 : decode cX16_logAt 2 = .ok (.putfield 63, 3) := by decide +kernel
theorem dX16_logAt_5 : decode cX16_logAt 5 = .ok (.aload_n 0, 1) := by decide +kernel
theorem dX16_logAt_6 : decode cX16_logAt 6 = .ok (.iload_n 1, 1) := by decide +kernel
theorem dX16_logAt_7 : decode cX16_logAt 7 = .ok (.iconst 0, 1) := by decide +kernel
theorem dX16_logAt_8 : decode cX16_logAt 8 = .ok (.aload_n 0, 1) := by decide +kernel
theorem dX16_logAt_9 : decode cX16_logAt 9 = .ok (.getfield 50, 3) := by decide +kernel
theorem dX16_logAt_12 : decode cX16_logAt 12 = .ok (.invokevirtual 168, 3) := by decide +kernel
theorem dX16_logAt_15 : decode cX16_logAt 15 = .ok (.iconst 1, 1) := by decide +kernel
theorem dX16_logAt_16 : decode cX16_logAt 16 = .ok (.isub, 1) := by decide +kernel
theorem dX16_logAt_17 : decode cX16_logAt 17 = .ok (.invokestatic 70, 3) := by decide +kernel
theorem dX16_logAt_20 : decode cX16_logAt 20 = .ok (.ifCond .ne 7, 3) := by decide +kernel
theorem dX16_logAt_23 : decode cX16_logAt 23 = .ok (.iconst 1, 1) := by decide +kernel
theorem dX16_logAt_24 : decode cX16_logAt 24 = .ok (.goto 4, 3) := by decide +kernel
theorem dX16_logAt_27 : decode cX16_logAt 27 = .ok (.iconst 0, 1) := by decide +kernel
theorem dX16_logAt_28 : decode cX16_logAt 28 = .ok (.iconst 1, 1) := by decide +kernel
theorem dX16_logAt_29 : decode cX16_logAt 29 = .ok (.invokevirtual 102, 3) := by decide +kernel
theorem dX16_logAt_32 : decode cX16_logAt 32 = .ok (.ifCond .ne 25, 3) := by decide +kernel
theorem dX16_logAt_35 : decode cX16_logAt 35 = .ok (.aload_n 0, 1) := by decide +kernel
theorem dX16_logAt_36 : decode cX16_logAt 36 = .ok (.iload_n 2, 1) := by decide +kernel
theorem dX16_logAt_37 : decode cX16_logAt 37 = .ok (.iconst 0, 1) := by decide +kernel
theorem dX16_logAt_38 : decode cX16_logAt 38 = .ok (.iconst 3, 1) := by decide +kernel
theorem dX16_logAt_39 : decode cX16_logAt 39 = .ok (.invokestatic 70, 3) := by decide +kernel
theorem dX16_logAt_42 : decode cX16_logAt 42 = .ok (.ifCond .ne 7, 3) := by decide +kernel
theorem dX16_logAt_45 : decode cX16_logAt 45 = .ok (.iconst 1, 1) := by decide +kernel
theorem dX16_logAt_46 : decode cX16_logAt 46 = .ok (.goto 4, 3) := by decide +kernel
theorem dX16_logAt_49 : decode cX16_logAt 49 = .ok (.iconst 0, 1) := by decide +kernel
theorem dX16_logAt_50 : decode cX16_logAt 50 = .ok (.iconst 2, 1) := by decide +kernel
theorem dX16_logAt_51 : decode cX16_logAt 51 = .ok (.invokevirtual 102, 3) := by decide +kernel
theorem dX16_logAt_54 : decode cX16_logAt 54 = .ok (.ifCond .eq 7, 3) := by decide +kernel
theorem dX16_logAt_57 : decode cX16_logAt 57 = .ok (.iconst 0, 1) := by decide +kernel
theorem dX16_logAt_58 : decode cX16_logAt 58 = .ok (.goto 16, 3) := by decide +kernel
theorem dX16_logAt_61 : decode cX16_logAt 61 = .ok (.aload_n 0, 1) := by decide +kernel
theorem dX16_logAt_62 : decode cX16_logAt 62 = .ok (.getfield 50, 3) := by decide +kernel
theorem dX16_logAt_65 : decode cX16_logAt 65 = .ok (.iload_n 1, 1) := by decide +kernel
theorem dX16_logAt_66 : decode cX16_logAt 66 = .ok (.invokevirtual 201, 3) := by decide +kernel
theorem dX16_logAt_69 : decode cX16_logAt 69 = .ok (.checkcast 221, 3) := by decide +kernel
theorem dX16_logAt_72 : decode cX16_logAt 72 = .ok (.iload_n 2, 1) := by decide +kernel
theorem dX16_logAt_73 : decode cX16_logAt 73 = .ok (.iaload, 1) := by decide +kernel
theorem dX16_logAt_74 : decode cX16_logAt 74 = .ok (.ireturn, 1) := by decide +kernel
theorem dX16_addAgent_0 : decode cX16_addAgent 0 = .ok (.aload_n 0, 1) := by decide +kernel
theorem dX16_addAgent_1 : decode cX16_addAgent 1 = .ok (.iconst 0, 1) := by decide +kernel
theorem dX16_addAgent_2 : decode cX16_addAgent 2 = .ok (.putfield 63, 3) := by decide +kernel
theorem dX16_addAgent_5 : decode cX16_addAgent 5 = .ok (.aload_n 0, 1) := by decide +kernel
theorem dX16_addAgent_6 : decode cX16_addAgent 6 = .ok (.iload_n 1, 1) := by decide +kernel
theorem dX16_addAgent_7 : decode cX16_addAgent 7 = .ok (.iload_n 2, 1) := by decide +kernel
theorem dX16_addAgent_8 : decode cX16_addAgent 8 = .ok (.iload_n 3, 1) := by decide +kernel
theorem dX16_addAgent_9 : decode cX16_addAgent 9 = .ok (.invokestatic 235, 3) := by decide +kernel
theorem dX16_addAgent_12 : decode cX16_addAgent 12 = .ok (.ifCond .eq 17, 3) := by decide +kernel
theorem dX16_addAgent_15 : decode cX16_addAgent 15 = .ok (.iload 4, 2) := by decide +kernel
theorem dX16_addAgent_17 : decode cX16_addAgent 17 = .ok (.bipush 102, 2) := by decide +kernel
theorem dX16_addAgent_19 : decode cX16_addAgent 19 = .ok (.if_icmp .eq 14, 3) := by decide +kernel
theorem dX16_addAgent_22 : decode cX16_addAgent 22 = .ok (.iload 4, 2) := by decide +kernel
theorem dX16_addAgent_24 : decode cX16_addAgent 24 = .ok (.bipush 99, 2) := by decide +kernel
theorem dX16_addAgent_26 : decode cX16_addAgent 26 = .ok (.if_icmp .eq 7, 3) := by decide +kernel
theorem dX16_addAgent_29 : decode cX16_addAgent 29 = .ok (.iconst 1, 1) := by decide +kernel
theorem dX16_addAgent_30 : decode cX16_addAgent 30 = .ok (.goto 4, 3) := by decide +kernel
theorem dX16_addAgent_33 : decode cX16_addAgent 33 = .ok (.iconst 0, 1) := by decide +kernel
theorem dX16_addAgent_34 : decode cX16_addAgent 34 = .ok (.iconst 1, 1) := by decide +kernel
theorem dX16_addAgent_35 : decode cX16_addAgent 35 = .ok (.invokevirtual 102, 3) := by decide +kernel
theorem dX16_addAgent_38 : decode cX16_addAgent 38 = .ok (.ifCond .ne 27, 3) := by decide +kernel
theorem dX16_addAgent_41 : decode cX16_addAgent 41 = .ok (.aload_n 0, 1) := by decide +kernel
theorem dX16_addAgent_42 : decode cX16_addAgent 42 = .ok (.aload_n 0, 1) := by decide +kernel
theorem dX16_addAgent_43 : decode cX16_addAgent 43 = .ok (.getfield 60, 3) := by decide +kernel
theorem dX16_addAgent_46 : decode cX16_addAgent 46 = .ok (.invokevirtual 168, 3) := by decide +kernel
theorem dX16_addAgent_49 : decode cX16_addAgent 49 = .ok (.iconst 4, 1) := by decide +kernel
theorem dX16_addAgent_50 : decode cX16_addAgent 50 = .ok (.if_icmp .ne 7, 3) := by decide +kernel
theorem dX16_addAgent_53 : decode cX16_addAgent 53 = .ok (.iconst 1, 1) := by decide +kernel
theorem dX16_addAgent_54 : decode cX16_addAgent 54 = .ok (.goto 4, 3) := by decide +kernel
theorem dX16_addAgent_57 : decode cX16_addAgent 57 = .ok (.iconst 0, 1) := by decide +kernel
theorem dX16_addAgent_58 : decode cX16_addAgent 58 = .ok (.iconst 2, 1) := by decide +kernel
theorem dX16_addAgent_59 : decode cX16_addAgent 59 = .ok (.invokevirtual 102, 3) := by decide +kernel
theorem dX16_addAgent_62 : decode cX16_addAgent 62 = .ok (.ifCond .eq 5, 3) := by decide +kernel
theorem dX16_addAgent_65 : decode cX16_addAgent 65 = .ok (.iconst 0, 1) := by decide +kernel
theorem dX16_addAgent_66 : decode cX16_addAgent 66 = .ok (.ireturn, 1) := by decide +kernel
theorem dX16_addAgent_67 : decode cX16_addAgent 67 = .ok (.aload_n 0, 1) := by decide +kernel
theorem dX16_addAgent_68 : decode cX16_addAgent 68 = .ok (.getfield 60, 3) := by decide +kernel
theorem dX16_addAgent_71 : decode cX16_addAgent 71 = .ok (.new 346, 3) := by decide +kernel
theorem dX16_addAgent_74 : decode cX16_addAgent 74 = .ok (.dup, 1) := by decide +kernel
theorem dX16_addAgent_75 : decode cX16_addAgent 75 = .ok (.iload_n 1, 1) := by decide +kernel
theorem dX16_addAgent_76 : decode cX16_addAgent 76 = .ok (.iload_n 2, 1) := by decide +kernel
theorem dX16_addAgent_77 : decode cX16_addAgent 77 = .ok (.iload_n 3, 1) := by decide +kernel
theorem dX16_addAgent_78 : decode cX16_addAgent 78 = .ok (.iload 4, 2) := by decide +kernel
theorem dX16_addAgent_80 : decode cX16_addAgent 80 = .ok (.invokespecial 354, 3) := by decide +kernel
theorem dX16_addAgent_83 : decode cX16_addAgent 83 = .ok (.invokevirtual 175, 3) := by decide +kernel
theorem dX16_addAgent_86 : decode cX16_addAgent 86 = .ok (.pop, 1) := by decide +kernel
theorem dX16_addAgent_87 : decode cX16_addAgent 87 = .ok (.aload_n 0, 1) := by decide +kernel
theorem dX16_addAgent_88 : decode cX16_addAgent 88 = .ok (.getfield 60, 3) := by decide +kernel
theorem dX16_addAgent_91 : decode cX16_addAgent 91 = .ok (.invokevirtual 168, 3) := by decide +kernel
theorem dX16_addAgent_94 : decode cX16_addAgent 94 = .ok (.iconst 1, 1) := by decide +kernel
theorem dX16_addAgent_95 : decode cX16_addAgent 95 = .ok (.isub, 1) := by decide +kernel
theorem dX16_addAgent_96 : decode cX16_addAgent 96 = .ok (.ireturn, 1) := by decide +kernel
theorem dX16_noAgent_0 : decode cX16_noAgent 0 = .ok (.iload_n 1, 1) := by decide +kernel
theorem dX16_noAgent_1 : decode cX16_noAgent 1 = .ok (.iconst 0, 1) := by decide +kernel
theorem dX16_noAgent_2 : decode cX16_noAgent 2 = .ok (.aload_n 0, 1) := by decide +kernel
theorem dX16_noAgent_3 : decode cX16_noAgent 3 = .ok (.getfield 60, 3) := by decide +kernel
theorem dX16_noAgent_6 : decode cX16_noAgent 6 = .ok (.invokevirtual 168, 3) := by decide +kernel
theorem dX16_noAgent_9 : decode cX16_noAgent 9 = .ok (.iconst 1, 1) := by decide +kernel
theorem dX16_noAgent_10 : decode cX16_noAgent 10 = .ok (.isub, 1) := by decide +kernel
theorem dX16_noAgent_11 : decode cX16_noAgent 11 = .ok (.invokestatic 70, 3) := by decide +kernel
theorem dX16_noAgent_14 : decode cX16_noAgent 14 = .ok (.ifCond .ne 7, 3) := by decide +kernel
theorem dX16_noAgent_17 : decode cX16_noAgent 17 = .ok (.iconst 1, 1) := by decide +kernel
theorem dX16_noAgent_18 : decode cX16_noAgent 18 = .ok (.goto 4, 3) := by decide +kernel
theorem dX16_noAgent_21 : decode cX16_noAgent 21 = .ok (.iconst 0, 1) := by decide +kernel
theorem dX16_noAgent_22 : decode cX16_noAgent 22 = .ok (.ireturn, 1) := by decide +kernel
theorem dX16_send_0 : decode cX16_send 0 = .ok (.aload_n 0, 1) := by decide +kernel
theorem dX16_send_1 : decode cX16_send 1 = .ok (.iconst 0, 1) := by decide +kernel
theorem dX16_send_2 : decode cX16_send 2 = .ok (.putfield 63, 3) := by decide +kernel
theorem dX16_send_5 : decode cX16_send 5 = .ok (.aload_n 0, 1) := by decide +kernel
theorem dX16_send_6 : decode cX16_send 6 = .ok (.iload_n 1, 1) := by decide +kernel
theorem dX16_send_7 : decode cX16_send 7 = .ok (.iconst (-1), 1) := by decide +kernel
theorem dX16_send_8 : decode cX16_send 8 = .ok (.if_icmp .eq 10, 3) := by decide +kernel
theorem dX16_send_11 : decode cX16_send 11 = .ok (.iload_n 1, 1) := by decide +kernel
theorem dX16_send_12 : decode cX16_send 12 = .ok (.invokestatic 250, 3) := by decide +kernel
theorem dX16_send_15 : decode cX16_send 15 = .ok (.ifCond .ne 14, 3) := by decide +kernel
theorem dX16_send_18 : decode cX16_send 18 = .ok (.iload_n 3, 1) := by decide +kernel
theorem dX16_send_19 : decode cX16_send 19 = .ok (.bipush (-99), 2) := by decide +kernel
theorem dX16_send_21 : decode cX16_send 21 = .ok (.bipush 99, 2) := by decide +kernel
theorem dX16_send_23 : decode cX16_send 23 = .ok (.invokestatic 70, 3) := by decide +kernel
theorem dX16_send_26 : decode cX16_send 26 = .ok (.ifCond .ne 7, 3) := by decide +kernel
theorem dX16_send_29 : decode cX16_send 29 = .ok (.iconst 1, 1) := by decide +kernel
theorem dX16_send_30 : decode cX16_send 30 = .ok (.goto 4, 3) := by decide +kernel
theorem dX16_send_33 : decode cX16_send 33 = .ok (.iconst 0, 1) := by decide +kernel
theorem dX16_send_34 : decode cX16_send 34 = .ok (.iconst 1, 1) := by decide +kernel
theorem dX16_send_35 : decode cX16_send 35 = .ok (.invokevirtual 102, 3) := by decide +kernel
theorem dX16_send_38 : decode cX16_send 38 = .ok (.ifCond .ne 42, 3) := by decide +kernel
theorem dX16_send_41 : decode cX16_send 41 = .ok (.aload_n 0, 1) := by decide +kernel
theorem dX16_send_42 : decode cX16_send 42 = .ok (.aload_n 0, 1) := by decide +kernel
theorem dX16_send_43 : decode cX16_send 43 = .ok (.iload_n 2, 1) := by decide +kernel
theorem dX16_send_44 : decode cX16_send 44 = .ok (.invokevirtual 357, 3) := by decide +kernel
theorem dX16_send_47 : decode cX16_send 47 = .ok (.iconst 2, 1) := by decide +kernel
theorem dX16_send_48 : decode cX16_send 48 = .ok (.invokevirtual 102, 3) := by decide +kernel
theorem dX16_send_51 : decode cX16_send 51 = .ok (.ifCond .ne 29, 3) := by decide +kernel
theorem dX16_send_54 : decode cX16_send 54 = .ok (.aload_n 0, 1) := by decide +kernel
theorem dX16_send_55 : decode cX16_send 55 = .ok (.iload_n 1, 1) := by decide +kernel
theorem dX16_send_56 : decode cX16_send 56 = .ok (.iconst (-1), 1) := by decide +kernel
theorem dX16_send_57 : decode cX16_send 57 = .ok (.if_icmp .eq 15, 3) := by decide +kernel
theorem dX16_send_60 : decode cX16_send 60 = .ok (.aload_n 0, 1) := by decide +kernel
theorem dX16_send_61 : decode cX16_send 61 = .ok (.iload_n 1, 1) := by decide +kernel
theorem dX16_send_62 : decode cX16_send 62 = .ok (.invokevirtual 274, 3) := by decide +kernel
theorem dX16_send_65 : decode cX16_send 65 = .ok (.ifCond .eq 7, 3) := by decide +kernel
theorem dX16_send_68 : decode cX16_send 68 = .ok (.iconst 1, 1) := by decide +kernel
theorem dX16_send_69 : decode cX16_send 69 = .ok (.goto 4, 3) := by decide +kernel
theorem dX16_send_72 : decode cX16_send 72 = .ok (.iconst 0, 1) := by decide +kernel
theorem dX16_send_73 : decode cX16_send 73 = .ok (.iconst 3, 1) := by decide +kernel
theorem dX16_send_74 : decode cX16_send 74 = .ok (.invokevirtual 102, 3) := by decide +kernel
theorem dX16_send_77 : decode cX16_send 77 = .ok (.ifCond .eq 5, 3) := by decide +kernel
theorem dX16_send_80 : decode cX16_send 80 = .ok (.iconst 0, 1) := by decide +kernel
theorem dX16_send_81 : decode cX16_send 81 = .ok (.ireturn, 1) := by decide +kernel
theorem dX16_send_82 : decode cX16_send 82 = .ok (.iload_n 1, 1) := by decide +kernel
theorem dX16_send_83 : decode cX16_send 83 = .ok (.iconst (-1), 1) := by decide +kernel
theorem dX16_send_84 : decode cX16_send 84 = .ok (.if_icmp .ne 21, 3) := by decide +kernel
theorem dX16_send_87 : decode cX16_send 87 = .ok (.aload_n 0, 1) := by decide +kernel
theorem dX16_send_88 : decode cX16_send 88 = .ok (.getfield 60, 3) := by decide +kernel
theorem dX16_send_91 : decode cX16_send 91 = .ok (.iload_n 2, 1) := by decide +kernel
theorem dX16_send_92 : decode cX16_send 92 = .ok (.invokevirtual 201, 3) := by decide +kernel
theorem dX16_send_95 : decode cX16_send 95 = .ok (.checkcast 346, 3) := by decide +kernel
theorem dX16_send_98 : decode cX16_send 98 = .ok (.iload_n 3, 1) := by decide +kernel
theorem dX16_send_99 : decode cX16_send 99 = .ok (.invokevirtual 348, 3) := by decide +kernel
theorem dX16_send_102 : decode cX16_send 102 = .ok (.goto 31, 3) := by decide +kernel
theorem dX16_send_105 : decode cX16_send 105 = .ok (.iconst 2, 1) := by decide +kernel
theorem dX16_send_106 : decode cX16_send 106 = .ok (.newarray .int, 2) := by decide +kernel
theorem dX16_send_108 : decode cX16_send 108 = .ok (.dup, 1) := by decide +kernel
theorem dX16_send_109 : decode cX16_send 109 = .ok (.iconst 0, 1) := by decide +kernel
theorem dX16_send_110 : decode cX16_send 110 = .ok (.iload_n 2, 1) := by decide +kernel
theorem dX16_send_111 : decode cX16_send 111 = .ok (.iastore, 1) := by decide +kernel
theorem dX16_send_112 : decode cX16_send 112 = .ok (.dup, 1) := by decide +kernel
theorem dX16_send_113 : decode cX16_send 113 = .ok (.iconst 1, 1) := by decide +kernel
theorem dX16_send_114 : decode cX16_send 114 = .ok (.iload_n 3, 1) := by decide +kernel
theorem dX16_send_115 : decode cX16_send 115 = .ok (.iastore, 1) := by decide +kernel
theorem dX16_send_116 : decode cX16_send 116 = .ok (.astore 4, 2) := by decide +kernel
theorem dX16_send_118 : decode cX16_send 118 = .ok (.aload_n 0, 1) := by decide +kernel
theorem dX16_send_119 : decode cX16_send 119 = .ok (.getfield 56, 3) := by decide +kernel
theorem dX16_send_122 : decode cX16_send 122 = .ok (.iload_n 1, 1) := by decide +kernel
theorem dX16_send_123 : decode cX16_send 123 = .ok (.aaload, 1) := by decide +kernel
theorem dX16_send_124 : decode cX16_send 124 = .ok (.getfield 343, 3) := by decide +kernel
theorem dX16_send_127 : decode cX16_send 127 = .ok (.aload 4, 2) := by decide +kernel
theorem dX16_send_129 : decode cX16_send 129 = .ok (.invokevirtual 175, 3) := by decide +kernel
theorem dX16_send_132 : decode cX16_send 132 = .ok (.pop, 1) := by decide +kernel
theorem dX16_send_133 : decode cX16_send 133 = .ok (.aload_n 0, 1) := by decide +kernel
theorem dX16_send_134 : decode cX16_send 134 = .ok (.getfield 60, 3) := by decide +kernel
theorem dX16_send_137 : decode cX16_send 137 = .ok (.iload_n 2, 1) := by decide +kernel
theorem dX16_send_138 : decode cX16_send 138 = .ok (.invokevirtual 201, 3) := by decide +kernel
theorem dX16_send_141 : decode cX16_send 141 = .ok (.checkcast 346, 3) := by decide +kernel
theorem dX16_send_144 : decode cX16_send 144 = .ok (.getfield 360, 3) := by decide +kernel
theorem dX16_send_147 : decode cX16_send 147 = .ok (.invokevirtual 168, 3) := by decide +kernel
theorem dX16_send_150 : decode cX16_send 150 = .ok (.ireturn, 1) := by decide +kernel
theorem dX16_act_0 : decode cX16_act 0 = .ok (.aload_n 0, 1) := by decide +kernel
theorem dX16_act_1 : decode cX16_act 1 = .ok (.iconst 0, 1) := by decide +kernel
theorem dX16_act_2 : decode cX16_act 2 = .ok (.putfield 63, 3) := by decide +kernel
theorem dX16_act_5 : decode cX16_act 5 = .ok (.aload_n 0, 1) := by decide +kernel
theorem dX16_act_6 : decode cX16_act 6 = .ok (.aload_n 0, 1) := by decide +kernel
theorem dX16_act_7 : decode cX16_act 7 = .ok (.iload_n 1, 1) := by decide +kernel
theorem dX16_act_8 : decode cX16_act 8 = .ok (.invokevirtual 357, 3) := by decide +kernel
theorem dX16_act_11 : decode cX16_act 11 = .ok (.iconst 1, 1) := by decide +kernel
theorem dX16_act_12 : decode cX16_act 12 = .ok (.invokevirtual 102, 3) := by decide +kernel
theorem dX16_act_15 : decode cX16_act 15 = .ok (.ifCond .ne 50, 3) := by decide +kernel
theorem dX16_act_18 : decode cX16_act 18 = .ok (.aload_n 0, 1) := by decide +kernel
theorem dX16_act_19 : decode cX16_act 19 = .ok (.aload_n 0, 1) := by decide +kernel
theorem dX16_act_20 : decode cX16_act 20 = .ok (.getfield 60, 3) := by decide +kernel
theorem dX16_act_23 : decode cX16_act 23 = .ok (.iload_n 1, 1) := by decide +kernel
theorem dX16_act_24 : decode cX16_act 24 = .ok (.invokevirtual 201, 3) := by decide +kernel
theorem dX16_act_27 : decode cX16_act 27 = .ok (.checkcast 346, 3) := by decide +kernel
theorem dX16_act_30 : decode cX16_act 30 = .ok (.getfield 360, 3) := by decide +kernel
theorem dX16_act_33 : decode cX16_act 33 = .ok (.invokevirtual 363, 3) := by decide +kernel
theorem dX16_act_36 : decode cX16_act 36 = .ok (.iconst 2, 1) := by decide +kernel
theorem dX16_act_37 : decode cX16_act 37 = .ok (.invokevirtual 102, 3) := by decide +kernel
theorem dX16_act_40 : decode cX16_act 40 = .ok (.ifCond .ne 25, 3) := by decide +kernel
theorem dX16_act_43 : decode cX16_act 43 = .ok (.aload_n 0, 1) := by decide +kernel
theorem dX16_act_44 : decode cX16_act 44 = .ok (.aload_n 0, 1) := by decide +kernel
theorem dX16_act_45 : decode cX16_act 45 = .ok (.getfield 60, 3) := by decide +kernel
theorem dX16_act_48 : decode cX16_act 48 = .ok (.iload_n 1, 1) := by decide +kernel
theorem dX16_act_49 : decode cX16_act 49 = .ok (.invokevirtual 201, 3) := by decide +kernel
theorem dX16_act_52 : decode cX16_act 52 = .ok (.checkcast 346, 3) := by decide +kernel
theorem dX16_act_55 : decode cX16_act 55 = .ok (.getfield 366, 3) := by decide +kernel
theorem dX16_act_58 : decode cX16_act 58 = .ok (.iconst 3, 1) := by decide +kernel
theorem dX16_act_59 : decode cX16_act 59 = .ok (.invokevirtual 102, 3) := by decide +kernel
theorem dX16_act_62 : decode cX16_act 62 = .ok (.ifCond .eq 5, 3) := by decide +kernel
theorem dX16_act_65 : decode cX16_act 65 = .ok (.iconst 0, 1) := by decide +kernel
theorem dX16_act_66 : decode cX16_act 66 = .ok (.ireturn, 1) := by decide +kernel
theorem dX16_act_67 : decode cX16_act 67 = .ok (.aload_n 0, 1) := by decide +kernel
theorem dX16_act_68 : decode cX16_act 68 = .ok (.getfield 60, 3) := by decide +kernel
theorem dX16_act_71 : decode cX16_act 71 = .ok (.iload_n 1, 1) := by decide +kernel
theorem dX16_act_72 : decode cX16_act 72 = .ok (.invokevirtual 201, 3) := by decide +kernel
theorem dX16_act_75 : decode cX16_act 75 = .ok (.checkcast 346, 3) := by decide +kernel
theorem dX16_act_78 : decode cX16_act 78 = .ok (.astore_n 2, 1) := by decide +kernel
theorem dX16_act_79 : decode cX16_act 79 = .ok (.aload_n 2, 1) := by decide +kernel
theorem dX16_act_80 : decode cX16_act 80 = .ok (.getfield 369, 3) := by decide +kernel
theorem dX16_act_83 : decode cX16_act 83 = .ok (.aload_n 2, 1) := by decide +kernel
theorem dX16_act_84 : decode cX16_act 84 = .ok (.getfield 360, 3) := by decide +kernel
theorem dX16_act_87 : decode cX16_act 87 = .ok (.iconst 0, 1) := by decide +kernel
theorem dX16_act_88 : decode cX16_act 88 = .ok (.invokevirtual 222, 3) := by decide +kernel
theorem dX16_act_91 : decode cX16_act 91 = .ok (.checkcast 372, 3) := by decide +kernel
theorem dX16_act_94 : decode cX16_act 94 = .ok (.invokevirtual 374, 3) := by decide +kernel
theorem dX16_act_97 : decode cX16_act 97 = .ok (.iadd, 1) := by decide +kernel
theorem dX16_act_98 : decode cX16_act 98 = .ok (.istore_n 3, 1) := by decide +kernel
theorem dX16_act_99 : decode cX16_act 99 = .ok (.iload_n 3, 1) := by decide +kernel
theorem dX16_act_100 : decode cX16_act 100 = .ok (.aload_n 2, 1) := by decide +kernel
theorem dX16_act_101 : decode cX16_act 101 = .ok (.getfield 377, 3) := by decide +kernel
theorem dX16_act_104 : decode cX16_act 104 = .ok (.aload_n 2, 1) := by decide +kernel
theorem dX16_act_105 : decode cX16_act 105 = .ok (.getfield 378, 3) := by decide +kernel
theorem dX16_act_108 : decode cX16_act 108 = .ok (.invokestatic 70, 3) := by decide +kernel
theorem dX16_act_111 : decode cX16_act 111 = .ok (.istore 4, 2) := by decide +kernel
theorem dX16_act_113 : decode cX16_act 113 = .ok (.aload_n 2, 1) := by decide +kernel
theorem dX16_act_114 : decode cX16_act 114 = .ok (.iload 4, 2) := by decide +kernel
theorem dX16_act_116 : decode cX16_act 116 = .ok (.ifCond .eq 7, 3) := by decide +kernel
theorem dX16_act_119 : decode cX16_act 119 = .ok (.iload_n 3, 1) := by decide +kernel
theorem dX16_act_120 : decode cX16_act 120 = .ok (.goto 7, 3) := by decide +kernel
theorem dX16_act_123 : decode cX16_act 123 = .ok (.aload_n 2, 1) := by decide +kernel
theorem dX16_act_124 : decode cX16_act 124 = .ok (.getfield 369, 3) := by decide +kernel
theorem dX16_act_127 : decode cX16_act 127 = .ok (.putfield 369, 3) := by decide +kernel
theorem dX16_act_130 : decode cX16_act 130 = .ok (.aload_n 2, 1) := by decide +kernel
theorem dX16_act_131 : decode cX16_act 131 = .ok (.dup, 1) := by decide +kernel
theorem dX16_act_132 : decode cX16_act 132 = .ok (.getfield 379, 3) := by decide +kernel
theorem dX16_act_135 : decode cX16_act 135 = .ok (.iload 4, 2) := by decide +kernel
theorem dX16_act_137 : decode cX16_act 137 = .ok (.ifCond .eq 7, 3) := by decide +kernel
theorem dX16_act_140 : decode cX16_act 140 = .ok (.iconst 0, 1) := by decide +kernel
theorem dX16_act_141 : decode cX16_act 141 = .ok (.goto 4, 3) := by decide +kernel
theorem dX16_act_144 : decode cX16_act 144 = .ok (.iconst 1, 1) := by decide +kernel
theorem dX16_act_145 : decode cX16_act 145 = .ok (.iadd, 1) := by decide +kernel
theorem dX16_act_146 : decode cX16_act 146 = .ok (.putfield 379, 3) := by decide +kernel
theorem dX16_act_149 : decode cX16_act 149 = .ok (.aload_n 2, 1) := by decide +kernel
theorem dX16_act_150 : decode cX16_act 150 = .ok (.iload 4, 2) := by decide +kernel
theorem dX16_act_152 : decode cX16_act 152 = .ok (.ifCond .ne 16, 3) := by decide +kernel
theorem dX16_act_155 : decode cX16_act 155 = .ok (.aload_n 2, 1) := by decide +kernel
theorem dX16_act_156 : decode cX16_act 156 = .ok (.getfield 382, 3) := by decide +kernel
theorem dX16_act_159 : decode cX16_act 159 = .ok (.bipush 102, 2) := by decide +kernel
theorem dX16_act_161 : decode cX16_act 161 = .ok (.if_icmp .ne 7, 3) := by decide +kernel
theorem dX16_act_164 : decode cX16_act 164 = .ok (.iconst 1, 1) := by decide +kernel
theorem dX16_act_165 : decode cX16_act 165 = .ok (.goto 4, 3) := by decide +kernel
theorem dX16_act_168 : decode cX16_act 168 = .ok (.iconst 0, 1) := by decide +kernel
theorem dX16_act_169 : decode cX16_act 169 = .ok (.putfield 366, 3) := by decide +kernel
theorem dX16_act_172 : decode cX16_act 172 = .ok (.aload_n 2, 1) := by decide +kernel
theorem dX16_act_173 : decode cX16_act 173 = .ok (.getfield 369, 3) := by decide +kernel
theorem dX16_act_176 : decode cX16_act 176 = .ok (.ireturn, 1) := by decide +kernel
theorem dX16_beginAnew_0 : decode cX16_beginAnew 0 = .ok (.aload_n 0, 1) := by decide +kernel
theorem dX16_beginAnew_1 : decode cX16_beginAnew 1 = .ok (.iconst 0, 1) := by decide +kernel
theorem dX16_beginAnew_2 : decode cX16_beginAnew 2 = .ok (.putfield 63, 3) := by decide +kernel
theorem dX16_beginAnew_5 : decode cX16_beginAnew 5 = .ok (.aload_n 0, 1) := by decide +kernel
theorem dX16_beginAnew_6 : decode cX16_beginAnew 6 = .ok (.aload_n 0, 1) := by decide +kernel
theorem dX16_beginAnew_7 : decode cX16_beginAnew 7 = .ok (.iload_n 1, 1) := by decide +kernel
theorem dX16_beginAnew_8 : decode cX16_beginAnew 8 = .ok (.invokevirtual 357, 3) := by decide +kernel
theorem dX16_beginAnew_11 : decode cX16_beginAnew 11 = .ok (.iconst 1, 1) := by decide +kernel
theorem dX16_beginAnew_12 : decode cX16_beginAnew 12 = .ok (.invokevirtual 102, 3) := by decide +kernel
theorem dX16_beginAnew_15 : decode cX16_beginAnew 15 = .ok (.ifCond .ne 81, 3) := by decide +kernel
theorem dX16_beginAnew_18 : decode cX16_beginAnew 18 = .ok (.aload_n 0, 1) := by decide +kernel
theorem dX16_beginAnew_19 : decode cX16_beginAnew 19 = .ok (.iload_n 2, 1) := by decide +kernel
theorem dX16_beginAnew_20 : decode cX16_beginAnew 20 = .ok (.aload_n 0, 1) := by decide +kernel
theorem dX16_beginAnew_21 : decode cX16_beginAnew 21 = .ok (.getfield 60, 3) := by decide +kernel
theorem dX16_beginAnew_24 : decode cX16_beginAnew 24 = .ok (.iload_n 1, 1) := by decide +kernel
theorem dX16_beginAnew_25 : decode cX16_beginAnew 25 = .ok (.invokevirtual 201, 3) := by decide +kernel
theorem dX16_beginAnew_28 : decode cX16_beginAnew 28 = .ok (.checkcast 346, 3) := by decide +kernel
theorem dX16_beginAnew_31 : decode cX16_beginAnew 31 = .ok (.getfield 377, 3) := by decide +kernel
theorem dX16_beginAnew_34 : decode cX16_beginAnew 34 = .ok (.aload_n 0, 1) := by decide +kernel
theorem dX16_beginAnew_35 : decode cX16_beginAnew 35 = .ok (.getfield 60, 3) := by decide +kernel
theorem dX16_beginAnew_38 : decode cX16_beginAnew 38 = .ok (.iload_n 1, 1) := by decide +kernel
theorem dX16_beginAnew_39 : decode cX16_beginAnew 39 = .ok (.invokevirtual 201, 3) := by decide +kernel
theorem dX16_beginAnew_42 : decode cX16_beginAnew 42 = .ok (.checkcast 346, 3) := by decide +kernel
theorem dX16_beginAnew_45 : decode cX16_beginAnew 45 = .ok (.getfield 378, 3) := by decide +kernel
theorem dX16_beginAnew_48 : decode cX16_beginAnew 48 = .ok (.invokestatic 70, 3) := by decide +kernel
theorem dX16_beginAnew_51 : decode cX16_beginAnew 51 = .ok (.ifCond .ne 7, 3) := by decide +kernel
theorem dX16_beginAnew_54 : decode cX16_beginAnew 54 = .ok (.iconst 1, 1) := by decide +kernel
theorem dX16_beginAnew_55 : decode cX16_beginAnew 55 = .ok (.goto 4, 3) := by decide +kernel
theorem dX16_beginAnew_58 : decode cX16_beginAnew 58 = .ok (.iconst 0, 1) := by decide +kernel
theorem dX16_beginAnew_59 : decode cX16_beginAnew 59 = .ok (.iconst 2, 1) := by decide +kernel
theorem dX16_beginAnew_60 : decode cX16_beginAnew 60 = .ok (.invokevirtual 102, 3) := by decide +kernel
theorem dX16_beginAnew_63 : decode cX16_beginAnew 63 = .ok (.ifCond .ne 33, 3) := by decide +kernel
theorem dX16_beginAnew_66 : decode cX16_beginAnew 66 = .ok (.aload_n 0, 1) := by decide +kernel
theorem dX16_beginAnew_67 : decode cX16_beginAnew 67 = .ok (.aload_n 0, 1) := by decide +kernel
theorem dX16_beginAnew_68 : decode cX16_beginAnew 68 = .ok (.getfield 60, 3) := by decide +kernel
theorem dX16_beginAnew_71 : decode cX16_beginAnew 71 = .ok (.iload_n 1, 1) := by decide +kernel
theorem dX16_beginAnew_72 : decode cX16_beginAnew 72 = .ok (.invokevirtual 201, 3) := by decide +kernel
theorem dX16_beginAnew_75 : decode cX16_beginAnew 75 = .ok (.checkcast 346, 3) := by decide +kernel
theorem dX16_beginAnew_78 : decode cX16_beginAnew 78 = .ok (.getfield 366, 3) := by decide +kernel
theorem dX16_beginAnew_81 : decode cX16_beginAnew 81 = .ok (.ifCond .ne 7, 3) := by decide +kernel
theorem dX16_beginAnew_84 : decode cX16_beginAnew 84 = .ok (.iconst 1, 1) := by decide +kernel
theorem dX16_beginAnew_85 : decode cX16_beginAnew 85 = .ok (.goto 4, 3) := by decide +kernel
theorem dX16_beginAnew_88 : decode cX16_beginAnew 88 = .ok (.iconst 0, 1) := by decide +kernel
theorem dX16_beginAnew_89 : decode cX16_beginAnew 89 = .ok (.iconst 3, 1) := by decide +kernel
theorem dX16_beginAnew_90 : decode cX16_beginAnew 90 = .ok (.invokevirtual 102, 3) := by decide +kernel
theorem dX16_beginAnew_93 : decode cX16_beginAnew 93 = .ok (.ifCond .eq 5, 3) := by decide +kernel
theorem dX16_beginAnew_96 : decode cX16_beginAnew 96 = .ok (.iconst 0, 1) := by decide +kernel
theorem dX16_beginAnew_97 : decode cX16_beginAnew 97 = .ok (.ireturn, 1) := by decide +kernel
theorem dX16_beginAnew_98 : decode cX16_beginAnew 98 = .ok (.aload_n 0, 1) := by decide +kernel
theorem dX16_beginAnew_99 : decode cX16_beginAnew 99 = .ok (.getfield 60, 3) := by decide +kernel
theorem dX16_beginAnew_102 : decode cX16_beginAnew 102 = .ok (.iload_n 1, 1) := by decide +kernel
theorem dX16_beginAnew_103 : decode cX16_beginAnew 103 = .ok (.invokevirtual 201, 3) := by decide +kernel
theorem dX16_beginAnew_106 : decode cX16_beginAnew 106 = .ok (.checkcast 346, 3) := by decide +kernel
theorem dX16_beginAnew_109 : decode cX16_beginAnew 109 = .ok (.astore_n 3, 1) := by decide +kernel
theorem dX16_beginAnew_110 : decode cX16_beginAnew 110 = .ok (.aload_n 3, 1) := by decide +kernel
theorem dX16_beginAnew_111 : decode cX16_beginAnew 111 = .ok (.getfield 369, 3) := by decide +kernel
theorem dX16_beginAnew_114 : decode cX16_beginAnew 114 = .ok (.istore 4, 2) := by decide +kernel
theorem dX16_beginAnew_116 : decode cX16_beginAnew 116 = .ok (.aload_n 3, 1) := by decide +kernel
theorem dX16_beginAnew_117 : decode cX16_beginAnew 117 = .ok (.iload_n 2, 1) := by decide +kernel
theorem dX16_beginAnew_118 : decode cX16_beginAnew 118 = .ok (.putfield 369, 3) := by decide +kernel
theorem dX16_beginAnew_121 : decode cX16_beginAnew 121 = .ok (.aload_n 3, 1) := by decide +kernel
theorem dX16_beginAnew_122 : decode cX16_beginAnew 122 = .ok (.iconst 0, 1) := by decide +kernel
theorem dX16_beginAnew_123 : decode cX16_beginAnew 123 = .ok (.putfield 366, 3) := by decide +kernel
theorem dX16_beginAnew_126 : decode cX16_beginAnew 126 = .ok (.iload 4, 2) := by decide +kernel
theorem dX16_beginAnew_128 : decode cX16_beginAnew 128 = .ok (.ireturn, 1) := by decide +kernel
theorem dX16_errors_0 : decode cX16_errors 0 = .ok (.aload_n 0, 1) := by decide +kernel
theorem dX16_errors_1 : decode cX16_errors 1 = .ok (.iconst 0, 1) := by decide +kernel
theorem dX16_errors_2 : decode cX16_errors 2 = .ok (.putfield 63, 3) := by decide +kernel
theorem dX16_errors_5 : decode cX16_errors 5 = .ok (.aload_n 0, 1) := by decide +kernel
theorem dX16_errors_6 : decode cX16_errors 6 = .ok (.aload_n 0, 1) := by decide +kernel
theorem dX16_errors_7 : decode cX16_errors 7 = .ok (.iload_n 1, 1) := by decide +kernel
theorem dX16_errors_8 : decode cX16_errors 8 = .ok (.invokevirtual 357, 3) := by decide +kernel
theorem dX16_errors_11 : decode cX16_errors 11 = .ok (.iconst 1, 1) := by decide +kernel
theorem dX16_errors_12 : decode cX16_errors 12 = .ok (.invokevirtual 102, 3) := by decide +kernel
theorem dX16_errors_15 : decode cX16_errors 15 = .ok (.ifCond .eq 7, 3) := by decide +kernel
theorem dX16_errors_18 : decode cX16_errors 18 = .ok (.iconst 0, 1) := by decide +kernel
theorem dX16_errors_19 : decode cX16_errors 19 = .ok (.goto 17, 3) := by decide +kernel
theorem dX16_errors_22 : decode cX16_errors 22 = .ok (.aload_n 0, 1) := by decide +kernel
theorem dX16_errors_23 : decode cX16_errors 23 = .ok (.getfield 60, 3) := by decide +kernel
theorem dX16_errors_26 : decode cX16_errors 26 = .ok (.iload_n 1, 1) := by decide +kernel
theorem dX16_errors_27 : decode cX16_errors 27 = .ok (.invokevirtual 201, 3) := by decide +kernel
theorem dX16_errors_30 : decode cX16_errors 30 = .ok (.checkcast 346, 3) := by decide +kernel
theorem dX16_errors_33 : decode cX16_errors 33 = .ok (.getfield 379, 3) := by decide +kernel
theorem dX16_errors_36 : decode cX16_errors 36 = .ok (.ireturn, 1) := by decide +kernel
