/-! The law: decode rows of its helpers. -/
theorem dL_vector_0 : decode cL_vector 0 = .ok (.aload_n 1, 1) := by decide +kernel
theorem dL_vector_1 : decode cL_vector 1 = .ok (.iconst 0, 1) := by decide +kernel
theorem dL_vector_2 : decode cL_vector 2 = .ok (.aload_n 0, 1) := by decide +kernel
theorem dL_vector_3 : decode cL_vector 3 = .ok (.invokevirtual 7, 3) := by decide +kernel
theorem dL_vector_6 : decode cL_vector 6 = .ok (.i2l, 1) := by decide +kernel
theorem dL_vector_7 : decode cL_vector 7 = .ok (.lastore, 1) := by decide +kernel
theorem dL_vector_8 : decode cL_vector 8 = .ok (.goto 6, 3) := by decide +kernel
theorem dL_vector_11 : decode cL_vector 11 = .ok (.astore_n 2, 1) := by decide +kernel
theorem dL_vector_12 : decode cL_vector 12 = .ok (.iconst 1, 1) := by decide +kernel
theorem dL_vector_13 : decode cL_vector 13 = .ok (.ireturn, 1) := by decide +kernel
theorem dL_vector_14 : decode cL_vector 14 = .ok (.iconst 0, 1) := by decide +kernel
theorem dL_vector_15 : decode cL_vector 15 = .ok (.ireturn, 1) := by decide +kernel
theorem dL_append_0 : decode cL_append 0 = .ok (.aload_n 3, 1) := by decide +kernel
theorem dL_append_1 : decode cL_append 1 = .ok (.iconst 0, 1) := by decide +kernel
theorem dL_append_2 : decode cL_append 2 = .ok (.aload_n 0, 1) := by decide +kernel
theorem dL_append_3 : decode cL_append 3 = .ok (.iload_n 1, 1) := by decide +kernel
theorem dL_append_4 : decode cL_append 4 = .ok (.iload_n 2, 1) := by decide +kernel
theorem dL_append_5 : decode cL_append 5 = .ok (.invokevirtual 15, 3) := by decide +kernel
theorem dL_append_8 : decode cL_append 8 = .ok (.i2l, 1) := by decide +kernel
theorem dL_append_9 : decode cL_append 9 = .ok (.lastore, 1) := by decide +kernel
theorem dL_append_10 : decode cL_append 10 = .ok (.goto 19, 3) := by decide +kernel
theorem dL_append_13 : decode cL_append 13 = .ok (.astore 4, 2) := by decide +kernel
theorem dL_append_15 : decode cL_append 15 = .ok (.iconst 1, 1) := by decide +kernel
theorem dL_append_16 : decode cL_append 16 = .ok (.ireturn, 1) := by decide +kernel
theorem dL_append_17 : decode cL_append 17 = .ok (.astore 4, 2) := by decide +kernel
theorem dL_append_19 : decode cL_append 19 = .ok (.iconst 2, 1) := by decide +kernel
theorem dL_append_20 : decode cL_append 20 = .ok (.ireturn, 1) := by decide +kernel
theorem dL_append_21 : decode cL_append 21 = .ok (.astore 4, 2) := by decide +kernel
theorem dL_append_23 : decode cL_append 23 = .ok (.iconst 3, 1) := by decide +kernel
theorem dL_append_24 : decode cL_append 24 = .ok (.ireturn, 1) := by decide +kernel
theorem dL_append_25 : decode cL_append 25 = .ok (.astore 4, 2) := by decide +kernel
theorem dL_append_27 : decode cL_append 27 = .ok (.iconst 4, 1) := by decide +kernel
theorem dL_append_28 : decode cL_append 28 = .ok (.ireturn, 1) := by decide +kernel
theorem dL_append_29 : decode cL_append 29 = .ok (.iconst 0, 1) := by decide +kernel
theorem dL_append_30 : decode cL_append 30 = .ok (.ireturn, 1) := by decide +kernel
theorem dL_set_0 : decode cL_set 0 = .ok (.aload 4, 2) := by decide +kernel
theorem dL_set_2 : decode cL_set 2 = .ok (.iconst 0, 1) := by decide +kernel
theorem dL_set_3 : decode cL_set 3 = .ok (.aload_n 0, 1) := by decide +kernel
theorem dL_set_4 : decode cL_set 4 = .ok (.iload_n 1, 1) := by decide +kernel
theorem dL_set_5 : decode cL_set 5 = .ok (.iload_n 2, 1) := by decide +kernel
theorem dL_set_6 : decode cL_set 6 = .ok (.iload_n 3, 1) := by decide +kernel
theorem dL_set_7 : decode cL_set 7 = .ok (.invokevirtual 25, 3) := by decide +kernel
theorem dL_set_10 : decode cL_set 10 = .ok (.i2l, 1) := by decide +kernel
theorem dL_set_11 : decode cL_set 11 = .ok (.lastore, 1) := by decide +kernel
theorem dL_set_12 : decode cL_set 12 = .ok (.goto 23, 3) := by decide +kernel
theorem dL_set_15 : decode cL_set 15 = .ok (.astore 5, 2) := by decide +kernel
theorem dL_set_17 : decode cL_set 17 = .ok (.iconst 1, 1) := by decide +kernel
theorem dL_set_18 : decode cL_set 18 = .ok (.ireturn, 1) := by decide +kernel
theorem dL_set_19 : decode cL_set 19 = .ok (.astore 5, 2) := by decide +kernel
theorem dL_set_21 : decode cL_set 21 = .ok (.iconst 2, 1) := by decide +kernel
theorem dL_set_22 : decode cL_set 22 = .ok (.ireturn, 1) := by decide +kernel
theorem dL_set_23 : decode cL_set 23 = .ok (.astore 5, 2) := by decide +kernel
theorem dL_set_25 : decode cL_set 25 = .ok (.iconst 3, 1) := by decide +kernel
theorem dL_set_26 : decode cL_set 26 = .ok (.ireturn, 1) := by decide +kernel
theorem dL_set_27 : decode cL_set 27 = .ok (.astore 5, 2) := by decide +kernel
theorem dL_set_29 : decode cL_set 29 = .ok (.iconst 4, 1) := by decide +kernel
theorem dL_set_30 : decode cL_set 30 = .ok (.ireturn, 1) := by decide +kernel
theorem dL_set_31 : decode cL_set 31 = .ok (.astore 5, 2) := by decide +kernel
theorem dL_set_33 : decode cL_set 33 = .ok (.iconst 5, 1) := by decide +kernel
theorem dL_set_34 : decode cL_set 34 = .ok (.ireturn, 1) := by decide +kernel
theorem dL_set_35 : decode cL_set 35 = .ok (.iconst 0, 1) := by decide +kernel
theorem dL_set_36 : decode cL_set 36 = .ok (.ireturn, 1) := by decide +kernel
theorem dL_cut_0 : decode cL_cut 0 = .ok (.aload_n 2, 1) := by decide +kernel
theorem dL_cut_1 : decode cL_cut 1 = .ok (.iconst 0, 1) := by decide +kernel
theorem dL_cut_2 : decode cL_cut 2 = .ok (.aload_n 0, 1) := by decide +kernel
theorem dL_cut_3 : decode cL_cut 3 = .ok (.iload_n 1, 1) := by decide +kernel
theorem dL_cut_4 : decode cL_cut 4 = .ok (.invokevirtual 31, 3) := by decide +kernel
theorem dL_cut_7 : decode cL_cut 7 = .ok (.i2l, 1) := by decide +kernel
theorem dL_cut_8 : decode cL_cut 8 = .ok (.lastore, 1) := by decide +kernel
theorem dL_cut_9 : decode cL_cut 9 = .ok (.goto 15, 3) := by decide +kernel
theorem dL_cut_12 : decode cL_cut 12 = .ok (.astore_n 3, 1) := by decide +kernel
theorem dL_cut_13 : decode cL_cut 13 = .ok (.iconst 1, 1) := by decide +kernel
theorem dL_cut_14 : decode cL_cut 14 = .ok (.ireturn, 1) := by decide +kernel
theorem dL_cut_15 : decode cL_cut 15 = .ok (.astore_n 3, 1) := by decide +kernel
theorem dL_cut_16 : decode cL_cut 16 = .ok (.iconst 2, 1) := by decide +kernel
theorem dL_cut_17 : decode cL_cut 17 = .ok (.ireturn, 1) := by decide +kernel
theorem dL_cut_18 : decode cL_cut 18 = .ok (.astore_n 3, 1) := by decide +kernel
theorem dL_cut_19 : decode cL_cut 19 = .ok (.iconst 3, 1) := by decide +kernel
theorem dL_cut_20 : decode cL_cut 20 = .ok (.ireturn, 1) := by decide +kernel
theorem dL_cut_21 : decode cL_cut 21 = .ok (.astore_n 3, 1) := by decide +kernel
theorem dL_cut_22 : decode cL_cut 22 = .ok (.iconst 4, 1) := by decide +kernel
theorem dL_cut_23 : decode cL_cut 23 = .ok (.ireturn, 1) := by decide +kernel
theorem dL_cut_24 : decode cL_cut 24 = .ok (.iconst 0, 1) := by decide +kernel
theorem dL_cut_25 : decode cL_cut 25 = .ok (.ireturn, 1) := by decide +kernel
theorem dL_depth_0 : decode cL_depth 0 = .ok (.aload_n 2, 1) := by decide +kernel
theorem dL_depth_1 : decode cL_depth 1 = .ok (.iconst 0, 1) := by decide +kernel
theorem dL_depth_2 : decode cL_depth 2 = .ok (.aload_n 0, 1) := by decide +kernel
theorem dL_depth_3 : decode cL_depth 3 = .ok (.iload_n 1, 1) := by decide +kernel
theorem dL_depth_4 : decode cL_depth 4 = .ok (.invokevirtual 35, 3) := by decide +kernel
theorem dL_depth_7 : decode cL_depth 7 = .ok (.i2l, 1) := by decide +kernel
theorem dL_depth_8 : decode cL_depth 8 = .ok (.lastore, 1) := by decide +kernel
theorem dL_depth_9 : decode cL_depth 9 = .ok (.goto 9, 3) := by decide +kernel
theorem dL_depth_12 : decode cL_depth 12 = .ok (.astore_n 3, 1) := by decide +kernel
theorem dL_depth_13 : decode cL_depth 13 = .ok (.iconst 1, 1) := by decide +kernel
theorem dL_depth_14 : decode cL_depth 14 = .ok (.ireturn, 1) := by decide +kernel
theorem dL_depth_15 : decode cL_depth 15 = .ok (.astore_n 3, 1) := by decide +kernel
theorem dL_depth_16 : decode cL_depth 16 = .ok (.iconst 2, 1) := by decide +kernel
theorem dL_depth_17 : decode cL_depth 17 = .ok (.ireturn, 1) := by decide +kernel
theorem dL_depth_18 : decode cL_depth 18 = .ok (.iconst 0, 1) := by decide +kernel
theorem dL_depth_19 : decode cL_depth 19 = .ok (.ireturn, 1) := by decide +kernel
theorem dL_open_0 : decode cL_open 0 = .ok (.aload_n 2, 1) := by decide +kernel
theorem dL_open_1 : decode cL_open 1 = .ok (.iconst 0, 1) := by decide +kernel
theorem dL_open_2 : decode cL_open 2 = .ok (.aload_n 0, 1) := by decide +kernel
theorem dL_open_3 : decode cL_open 3 = .ok (.iload_n 1, 1) := by decide +kernel
theorem dL_open_4 : decode cL_open 4 = .ok (.invokevirtual 38, 3) := by decide +kernel
theorem dL_open_7 : decode cL_open 7 = .ok (.i2l, 1) := by decide +kernel
theorem dL_open_8 : decode cL_open 8 = .ok (.lastore, 1) := by decide +kernel
theorem dL_open_9 : decode cL_open 9 = .ok (.goto 12, 3) := by decide +kernel
theorem dL_open_12 : decode cL_open 12 = .ok (.astore_n 3, 1) := by decide +kernel
theorem dL_open_13 : decode cL_open 13 = .ok (.iconst 1, 1) := by decide +kernel
theorem dL_open_14 : decode cL_open 14 = .ok (.ireturn, 1) := by decide +kernel
theorem dL_open_15 : decode cL_open 15 = .ok (.astore_n 3, 1) := by decide +kernel
theorem dL_open_16 : decode cL_open 16 = .ok (.iconst 2, 1) := by decide +kernel
theorem dL_open_17 : decode cL_open 17 = .ok (.ireturn, 1) := by decide +kernel
theorem dL_open_18 : decode cL_open 18 = .ok (.astore_n 3, 1) := by decide +kernel
theorem dL_open_19 : decode cL_open 19 = .ok (.iconst 3, 1) := by decide +kernel
theorem dL_open_20 : decode cL_open 20 = .ok (.ireturn, 1) := by decide +kernel
theorem dL_open_21 : decode cL_open 21 = .ok (.iconst 0, 1) := by decide +kernel
theorem dL_open_22 : decode cL_open 22 = .ok (.ireturn, 1) := by decide +kernel
theorem dL_appendTo_0 : decode cL_appendTo 0 = .ok (.aload_n 3, 1) := by decide +kernel
theorem dL_appendTo_1 : decode cL_appendTo 1 = .ok (.iconst 0, 1) := by decide +kernel
theorem dL_appendTo_2 : decode cL_appendTo 2 = .ok (.aload_n 0, 1) := by decide +kernel
theorem dL_appendTo_3 : decode cL_appendTo 3 = .ok (.iload_n 1, 1) := by decide +kernel
theorem dL_appendTo_4 : decode cL_appendTo 4 = .ok (.iload_n 2, 1) := by decide +kernel
theorem dL_appendTo_5 : decode cL_appendTo 5 = .ok (.invokevirtual 41, 3) := by decide +kernel
theorem dL_appendTo_8 : decode cL_appendTo 8 = .ok (.i2l, 1) := by decide +kernel
theorem dL_appendTo_9 : decode cL_appendTo 9 = .ok (.lastore, 1) := by decide +kernel
theorem dL_appendTo_10 : decode cL_appendTo 10 = .ok (.goto 15, 3) := by decide +kernel
theorem dL_appendTo_13 : decode cL_appendTo 13 = .ok (.astore 4, 2) := by decide +kernel
theorem dL_appendTo_15 : decode cL_appendTo 15 = .ok (.iconst 1, 1) := by decide +kernel
theorem dL_appendTo_16 : decode cL_appendTo 16 = .ok (.ireturn, 1) := by decide +kernel
theorem dL_appendTo_17 : decode cL_appendTo 17 = .ok (.astore 4, 2) := by decide +kernel
theorem dL_appendTo_19 : decode cL_appendTo 19 = .ok (.iconst 2, 1) := by decide +kernel
theorem dL_appendTo_20 : decode cL_appendTo 20 = .ok (.ireturn, 1) := by decide +kernel
theorem dL_appendTo_21 : decode cL_appendTo 21 = .ok (.astore 4, 2) := by decide +kernel
theorem dL_appendTo_23 : decode cL_appendTo 23 = .ok (.iconst 3, 1) := by decide +kernel
theorem dL_appendTo_24 : decode cL_appendTo 24 = .ok (.ireturn, 1) := by decide +kernel
theorem dL_appendTo_25 : decode cL_appendTo 25 = .ok (.iconst 0, 1) := by decide +kernel
theorem dL_appendTo_26 : decode cL_appendTo 26 = .ok (.ireturn, 1) := by decide +kernel
theorem dL_setIn_0 : decode cL_setIn 0 = .ok (.aload 4, 2) := by decide +kernel
theorem dL_setIn_2 : decode cL_setIn 2 = .ok (.iconst 0, 1) := by decide +kernel
theorem dL_setIn_3 : decode cL_setIn 3 = .ok (.aload_n 0, 1) := by decide +kernel
theorem dL_setIn_4 : decode cL_setIn 4 = .ok (.iload_n 1, 1) := by decide +kernel
theorem dL_setIn_5 : decode cL_setIn 5 = .ok (.iload_n 2, 1) := by decide +kernel
theorem dL_setIn_6 : decode cL_setIn 6 = .ok (.iload_n 3, 1) := by decide +kernel
theorem dL_setIn_7 : decode cL_setIn 7 = .ok (.invokevirtual 44, 3) := by decide +kernel
theorem dL_setIn_10 : decode cL_setIn 10 = .ok (.i2l, 1) := by decide +kernel
theorem dL_setIn_11 : decode cL_setIn 11 = .ok (.lastore, 1) := by decide +kernel
theorem dL_setIn_12 : decode cL_setIn 12 = .ok (.goto 19, 3) := by decide +kernel
theorem dL_setIn_15 : decode cL_setIn 15 = .ok (.astore 5, 2) := by decide +kernel
theorem dL_setIn_17 : decode cL_setIn 17 = .ok (.iconst 1, 1) := by decide +kernel
theorem dL_setIn_18 : decode cL_setIn 18 = .ok (.ireturn, 1) := by decide +kernel
theorem dL_setIn_19 : decode cL_setIn 19 = .ok (.astore 5, 2) := by decide +kernel
theorem dL_setIn_21 : decode cL_setIn 21 = .ok (.iconst 2, 1) := by decide +kernel
theorem dL_setIn_22 : decode cL_setIn 22 = .ok (.ireturn, 1) := by decide +kernel
theorem dL_setIn_23 : decode cL_setIn 23 = .ok (.astore 5, 2) := by decide +kernel
theorem dL_setIn_25 : decode cL_setIn 25 = .ok (.iconst 3, 1) := by decide +kernel
theorem dL_setIn_26 : decode cL_setIn 26 = .ok (.ireturn, 1) := by decide +kernel
theorem dL_setIn_27 : decode cL_setIn 27 = .ok (.astore 5, 2) := by decide +kernel
theorem dL_setIn_29 : decode cL_setIn 29 = .ok (.iconst 4, 1) := by decide +kernel
theorem dL_setIn_30 : decode cL_setIn 30 = .ok (.ireturn, 1) := by decide +kernel
theorem dL_setIn_31 : decode cL_setIn 31 = .ok (.iconst 0, 1) := by decide +kernel
theorem dL_setIn_32 : decode cL_setIn 32 = .ok (.ireturn, 1) := by decide +kernel
theorem dL_makeLasting_0 : decode cL_makeLasting 0 = .ok (.aload_n 2, 1) := by decide +kernel
theorem dL_makeLasting_1 : decode cL_makeLasting 1 = .ok (.iconst 0, 1) := by decide +kernel
theorem dL_makeLasting_2 : decode cL_makeLasting 2 = .ok (.aload_n 0, 1) := by decide +kernel
theorem dL_makeLasting_3 : decode cL_makeLasting 3 = .ok (.iload_n 1, 1) := by decide +kernel
theorem dL_makeLasting_4 : decode cL_makeLasting 4 = .ok (.invokevirtual 47, 3) := by decide +kernel
theorem dL_makeLasting_7 : decode cL_makeLasting 7 = .ok (.i2l, 1) := by decide +kernel
theorem dL_makeLasting_8 : decode cL_makeLasting 8 = .ok (.lastore, 1) := by decide +kernel
theorem dL_makeLasting_9 : decode cL_makeLasting 9 = .ok (.goto 12, 3) := by decide +kernel
theorem dL_makeLasting_12 : decode cL_makeLasting 12 = .ok (.astore_n 3, 1) := by decide +kernel
theorem dL_makeLasting_13 : decode cL_makeLasting 13 = .ok (.iconst 1, 1) := by decide +kernel
theorem dL_makeLasting_14 : decode cL_makeLasting 14 = .ok (.ireturn, 1) := by decide +kernel
theorem dL_makeLasting_15 : decode cL_makeLasting 15 = .ok (.astore_n 3, 1) := by decide +kernel
theorem dL_makeLasting_16 : decode cL_makeLasting 16 = .ok (.iconst 2, 1) := by decide +kernel
theorem dL_makeLasting_17 : decode cL_makeLasting 17 = .ok (.ireturn, 1) := by decide +kernel
theorem dL_makeLasting_18 : decode cL_makeLasting 18 = .ok (.astore_n 3, 1) := by decide +kernel
theorem dL_makeLasting_19 : decode cL_makeLasting 19 = .ok (.iconst 3, 1) := by decide +kernel
theorem dL_makeLasting_20 : decode cL_makeLasting 20 = .ok (.ireturn, 1) := by decide +kernel
theorem dL_makeLasting_21 : decode cL_makeLasting 21 = .ok (.iconst 0, 1) := by decide +kernel
theorem dL_makeLasting_22 : decode cL_makeLasting 22 = .ok (.ireturn, 1) := by decide +kernel
theorem dL_isOpen_0 : decode cL_isOpen 0 = .ok (.aload_n 2, 1) := by decide +kernel
theorem dL_isOpen_1 : decode cL_isOpen 1 = .ok (.iconst 0, 1) := by decide +kernel
theorem dL_isOpen_2 : decode cL_isOpen 2 = .ok (.aload_n 0, 1) := by decide +kernel
theorem dL_isOpen_3 : decode cL_isOpen 3 = .ok (.iload_n 1, 1) := by decide +kernel
theorem dL_isOpen_4 : decode cL_isOpen 4 = .ok (.invokevirtual 50, 3) := by decide +kernel
theorem dL_isOpen_7 : decode cL_isOpen 7 = .ok (.ifCond .eq 7, 3) := by decide +kernel
theorem dL_isOpen_10 : decode cL_isOpen 10 = .ok (.lconst 1, 1) := by decide +kernel
theorem dL_isOpen_11 : decode cL_isOpen 11 = .ok (.goto 4, 3) := by decide +kernel
theorem dL_isOpen_14 : decode cL_isOpen 14 = .ok (.lconst 0, 1) := by decide +kernel
theorem dL_isOpen_15 : decode cL_isOpen 15 = .ok (.lastore, 1) := by decide +kernel
theorem dL_isOpen_16 : decode cL_isOpen 16 = .ok (.goto 6, 3) := by decide +kernel
theorem dL_isOpen_19 : decode cL_isOpen 19 = .ok (.astore_n 3, 1) := by decide +kernel
theorem dL_isOpen_20 : decode cL_isOpen 20 = .ok (.iconst 1, 1) := by decide +kernel
theorem dL_isOpen_21 : decode cL_isOpen 21 = .ok (.ireturn, 1) := by decide +kernel
theorem dL_isOpen_22 : decode cL_isOpen 22 = .ok (.iconst 0, 1) := by decide +kernel
theorem dL_isOpen_23 : decode cL_isOpen 23 = .ok (.ireturn, 1) := by decide +kernel
theorem dL_map_0 : decode cL_map 0 = .ok (.aload_n 1, 1) := by decide +kernel
theorem dL_map_1 : decode cL_map 1 = .ok (.iconst 0, 1) := by decide +kernel
theorem dL_map_2 : decode cL_map 2 = .ok (.aload_n 0, 1) := by decide +kernel
theorem dL_map_3 : decode cL_map 3 = .ok (.invokevirtual 54, 3) := by decide +kernel
theorem dL_map_6 : decode cL_map 6 = .ok (.i2l, 1) := by decide +kernel
theorem dL_map_7 : decode cL_map 7 = .ok (.lastore, 1) := by decide +kernel
theorem dL_map_8 : decode cL_map 8 = .ok (.goto 6, 3) := by decide +kernel
theorem dL_map_11 : decode cL_map 11 = .ok (.astore_n 2, 1) := by decide +kernel
theorem dL_map_12 : decode cL_map 12 = .ok (.iconst 1, 1) := by decide +kernel
theorem dL_map_13 : decode cL_map 13 = .ok (.ireturn, 1) := by decide +kernel
theorem dL_map_14 : decode cL_map 14 = .ok (.iconst 0, 1) := by decide +kernel
theorem dL_map_15 : decode cL_map 15 = .ok (.ireturn, 1) := by decide +kernel
theorem dL_put_0 : decode cL_put 0 = .ok (.aload 4, 2) := by decide +kernel
theorem dL_put_2 : decode cL_put 2 = .ok (.iconst 0, 1) := by decide +kernel
theorem dL_put_3 : decode cL_put 3 = .ok (.aload_n 0, 1) := by decide +kernel
theorem dL_put_4 : decode cL_put 4 = .ok (.iload_n 1, 1) := by decide +kernel
theorem dL_put_5 : decode cL_put 5 = .ok (.iload_n 2, 1) := by decide +kernel
theorem dL_put_6 : decode cL_put 6 = .ok (.iload_n 3, 1) := by decide +kernel
theorem dL_put_7 : decode cL_put 7 = .ok (.invokevirtual 57, 3) := by decide +kernel
theorem dL_put_10 : decode cL_put 10 = .ok (.i2l, 1) := by decide +kernel
theorem dL_put_11 : decode cL_put 11 = .ok (.lastore, 1) := by decide +kernel
theorem dL_put_12 : decode cL_put 12 = .ok (.goto 19, 3) := by decide +kernel
theorem dL_put_15 : decode cL_put 15 = .ok (.astore 5, 2) := by decide +kernel
theorem dL_put_17 : decode cL_put 17 = .ok (.iconst 1, 1) := by decide +kernel
theorem dL_put_18 : decode cL_put 18 = .ok (.ireturn, 1) := by decide +kernel
theorem dL_put_19 : decode cL_put 19 = .ok (.astore 5, 2) := by decide +kernel
theorem dL_put_21 : decode cL_put 21 = .ok (.iconst 2, 1) := by decide +kernel
theorem dL_put_22 : decode cL_put 22 = .ok (.ireturn, 1) := by decide +kernel
theorem dL_put_23 : decode cL_put 23 = .ok (.astore 5, 2) := by decide +kernel
theorem dL_put_25 : decode cL_put 25 = .ok (.iconst 3, 1) := by decide +kernel
theorem dL_put_26 : decode cL_put 26 = .ok (.ireturn, 1) := by decide +kernel
theorem dL_put_27 : decode cL_put 27 = .ok (.astore 5, 2) := by decide +kernel
theorem dL_put_29 : decode cL_put 29 = .ok (.iconst 4, 1) := by decide +kernel
theorem dL_put_30 : decode cL_put 30 = .ok (.ireturn, 1) := by decide +kernel
theorem dL_put_31 : decode cL_put 31 = .ok (.iconst 0, 1) := by decide +kernel
theorem dL_put_32 : decode cL_put 32 = .ok (.ireturn, 1) := by decide +kernel
theorem dL_without_0 : decode cL_without 0 = .ok (.aload_n 3, 1) := by decide +kernel
theorem dL_without_1 : decode cL_without 1 = .ok (.iconst 0, 1) := by decide +kernel
theorem dL_without_2 : decode cL_without 2 = .ok (.aload_n 0, 1) := by decide +kernel
theorem dL_without_3 : decode cL_without 3 = .ok (.iload_n 1, 1) := by decide +kernel
theorem dL_without_4 : decode cL_without 4 = .ok (.iload_n 2, 1) := by decide +kernel
theorem dL_without_5 : decode cL_without 5 = .ok (.invokevirtual 60, 3) := by decide +kernel
theorem dL_without_8 : decode cL_without 8 = .ok (.i2l, 1) := by decide +kernel
theorem dL_without_9 : decode cL_without 9 = .ok (.lastore, 1) := by decide +kernel
theorem dL_without_10 : decode cL_without 10 = .ok (.goto 19, 3) := by decide +kernel
theorem dL_without_13 : decode cL_without 13 = .ok (.astore 4, 2) := by decide +kernel
theorem dL_without_15 : decode cL_without 15 = .ok (.iconst 1, 1) := by decide +kernel
theorem dL_without_16 : decode cL_without 16 = .ok (.ireturn, 1) := by decide +kernel
theorem dL_without_17 : decode cL_without 17 = .ok (.astore 4, 2) := by decide +kernel
theorem dL_without_19 : decode cL_without 19 = .ok (.iconst 2, 1) := by decide +kernel
theorem dL_without_20 : decode cL_without 20 = .ok (.ireturn, 1) := by decide +kernel
theorem dL_without_21 : decode cL_without 21 = .ok (.astore 4, 2) := by decide +kernel
theorem dL_without_23 : decode cL_without 23 = .ok (.iconst 3, 1) := by decide +kernel
theorem dL_without_24 : decode cL_without 24 = .ok (.ireturn, 1) := by decide +kernel
theorem dL_without_25 : decode cL_without 25 = .ok (.astore 4, 2) := by decide +kernel
theorem dL_without_27 : decode cL_without 27 = .ok (.iconst 4, 1) := by decide +kernel
theorem dL_without_28 : decode cL_without 28 = .ok (.ireturn, 1) := by decide +kernel
theorem dL_without_29 : decode cL_without 29 = .ok (.iconst 0, 1) := by decide +kernel
theorem dL_without_30 : decode cL_without 30 = .ok (.ireturn, 1) := by decide +kernel
theorem dL_get_0 : decode cL_get 0 = .ok (.aload_n 3, 1) := by decide +kernel
theorem dL_get_1 : decode cL_get 1 = .ok (.iconst 0, 1) := by decide +kernel
theorem dL_get_2 : decode cL_get 2 = .ok (.aload_n 0, 1) := by decide +kernel
theorem dL_get_3 : decode cL_get 3 = .ok (.iload_n 1, 1) := by decide +kernel
theorem dL_get_4 : decode cL_get 4 = .ok (.iload_n 2, 1) := by decide +kernel
theorem dL_get_5 : decode cL_get 5 = .ok (.invokevirtual 63, 3) := by decide +kernel
theorem dL_get_8 : decode cL_get 8 = .ok (.i2l, 1) := by decide +kernel
theorem dL_get_9 : decode cL_get 9 = .ok (.lastore, 1) := by decide +kernel
theorem dL_get_10 : decode cL_get 10 = .ok (.goto 11, 3) := by decide +kernel
theorem dL_get_13 : decode cL_get 13 = .ok (.astore 4, 2) := by decide +kernel
theorem dL_get_15 : decode cL_get 15 = .ok (.iconst 1, 1) := by decide +kernel
theorem dL_get_16 : decode cL_get 16 = .ok (.ireturn, 1) := by decide +kernel
theorem dL_get_17 : decode cL_get 17 = .ok (.astore 4, 2) := by decide +kernel
theorem dL_get_19 : decode cL_get 19 = .ok (.iconst 2, 1) := by decide +kernel
theorem dL_get_20 : decode cL_get 20 = .ok (.ireturn, 1) := by decide +kernel
theorem dL_get_21 : decode cL_get 21 = .ok (.iconst 0, 1) := by decide +kernel
theorem dL_get_22 : decode cL_get 22 = .ok (.ireturn, 1) := by decide +kernel
theorem dL_getPlain_0 : decode cL_getPlain 0 = .ok (.aload_n 3, 1) := by decide +kernel
theorem dL_getPlain_1 : decode cL_getPlain 1 = .ok (.iconst 0, 1) := by decide +kernel
theorem dL_getPlain_2 : decode cL_getPlain 2 = .ok (.aload_n 0, 1) := by decide +kernel
theorem dL_getPlain_3 : decode cL_getPlain 3 = .ok (.iload_n 1, 1) := by decide +kernel
theorem dL_getPlain_4 : decode cL_getPlain 4 = .ok (.iload_n 2, 1) := by decide +kernel
theorem dL_getPlain_5 : decode cL_getPlain 5 = .ok (.invokevirtual 66, 3) := by decide +kernel
theorem dL_getPlain_8 : decode cL_getPlain 8 = .ok (.i2l, 1) := by decide +kernel
theorem dL_getPlain_9 : decode cL_getPlain 9 = .ok (.lastore, 1) := by decide +kernel
theorem dL_getPlain_10 : decode cL_getPlain 10 = .ok (.goto 11, 3) := by decide +kernel
theorem dL_getPlain_13 : decode cL_getPlain 13 = .ok (.astore 4, 2) := by decide +kernel
theorem dL_getPlain_15 : decode cL_getPlain 15 = .ok (.iconst 1, 1) := by decide +kernel
theorem dL_getPlain_16 : decode cL_getPlain 16 = .ok (.ireturn, 1) := by decide +kernel
theorem dL_getPlain_17 : decode cL_getPlain 17 = .ok (.astore 4, 2) := by decide +kernel
theorem dL_getPlain_19 : decode cL_getPlain 19 = .ok (.iconst 2, 1) := by decide +kernel
theorem dL_getPlain_20 : decode cL_getPlain 20 = .ok (.ireturn, 1) := by decide +kernel
theorem dL_getPlain_21 : decode cL_getPlain 21 = .ok (.iconst 0, 1) := by decide +kernel
theorem dL_getPlain_22 : decode cL_getPlain 22 = .ok (.ireturn, 1) := by decide +kernel
theorem dL_levelOf_0 : decode cL_levelOf 0 = .ok (.aload_n 3, 1) := by decide +kernel
theorem dL_levelOf_1 : decode cL_levelOf 1 = .ok (.iconst 0, 1) := by decide +kernel
theorem dL_levelOf_2 : decode cL_levelOf 2 = .ok (.aload_n 0, 1) := by decide +kernel
theorem dL_levelOf_3 : decode cL_levelOf 3 = .ok (.iload_n 1, 1) := by decide +kernel
theorem dL_levelOf_4 : decode cL_levelOf 4 = .ok (.iload_n 2, 1) := by decide +kernel
theorem dL_levelOf_5 : decode cL_levelOf 5 = .ok (.invokevirtual 69, 3) := by decide +kernel
theorem dL_levelOf_8 : decode cL_levelOf 8 = .ok (.i2l, 1) := by decide +kernel
theorem dL_levelOf_9 : decode cL_levelOf 9 = .ok (.lastore, 1) := by decide +kernel
theorem dL_levelOf_10 : decode cL_levelOf 10 = .ok (.goto 15, 3) := by decide +kernel
theorem dL_levelOf_13 : decode cL_levelOf 13 = .ok (.astore 4, 2) := by decide +kernel
theorem dL_levelOf_15 : decode cL_levelOf 15 = .ok (.iconst 1, 1) := by decide +kernel
theorem dL_levelOf_16 : decode cL_levelOf 16 = .ok (.ireturn, 1) := by decide +kernel
theorem dL_levelOf_17 : decode cL_levelOf 17 = .ok (.astore 4, 2) := by decide +kernel
theorem dL_levelOf_19 : decode cL_levelOf 19 = .ok (.iconst 2, 1) := by decide +kernel
theorem dL_levelOf_20 : decode cL_levelOf 20 = .ok (.ireturn, 1) := by decide +kernel
theorem dL_levelOf_21 : decode cL_levelOf 21 = .ok (.astore 4, 2) := by decide +kernel
theorem dL_levelOf_23 : decode cL_levelOf 23 = .ok (.iconst 3, 1) := by decide +kernel
theorem dL_levelOf_24 : decode cL_levelOf 24 = .ok (.ireturn, 1) := by decide +kernel
theorem dL_levelOf_25 : decode cL_levelOf 25 = .ok (.iconst 0, 1) := by decide +kernel
theorem dL_levelOf_26 : decode cL_levelOf 26 = .ok (.ireturn, 1) := by decide +kernel
theorem dL_size_0 : decode cL_size 0 = .ok (.aload_n 2, 1) := by decide +kernel
theorem dL_size_1 : decode cL_size 1 = .ok (.iconst 0, 1) := by decide +kernel
theorem dL_size_2 : decode cL_size 2 = .ok (.aload_n 0, 1) := by decide +kernel
theorem dL_size_3 : decode cL_size 3 = .ok (.iload_n 1, 1) := by decide +kernel
theorem dL_size_4 : decode cL_size 4 = .ok (.invokevirtual 72, 3) := by decide +kernel
theorem dL_size_7 : decode cL_size 7 = .ok (.i2l, 1) := by decide +kernel
theorem dL_size_8 : decode cL_size 8 = .ok (.lastore, 1) := by decide +kernel
theorem dL_size_9 : decode cL_size 9 = .ok (.goto 6, 3) := by decide +kernel
theorem dL_size_12 : decode cL_size 12 = .ok (.astore_n 3, 1) := by decide +kernel
theorem dL_size_13 : decode cL_size 13 = .ok (.iconst 1, 1) := by decide +kernel
theorem dL_size_14 : decode cL_size 14 = .ok (.ireturn, 1) := by decide +kernel
theorem dL_size_15 : decode cL_size 15 = .ok (.iconst 0, 1) := by decide +kernel
theorem dL_size_16 : decode cL_size 16 = .ok (.ireturn, 1) := by decide +kernel
theorem dL_nodes_0 : decode cL_nodes 0 = .ok (.aload_n 2, 1) := by decide +kernel
theorem dL_nodes_1 : decode cL_nodes 1 = .ok (.iconst 0, 1) := by decide +kernel
theorem dL_nodes_2 : decode cL_nodes 2 = .ok (.aload_n 0, 1) := by decide +kernel
theorem dL_nodes_3 : decode cL_nodes 3 = .ok (.iload_n 1, 1) := by decide +kernel
theorem dL_nodes_4 : decode cL_nodes 4 = .ok (.invokevirtual 75, 3) := by decide +kernel
theorem dL_nodes_7 : decode cL_nodes 7 = .ok (.i2l, 1) := by decide +kernel
theorem dL_nodes_8 : decode cL_nodes 8 = .ok (.lastore, 1) := by decide +kernel
theorem dL_nodes_9 : decode cL_nodes 9 = .ok (.goto 6, 3) := by decide +kernel
theorem dL_nodes_12 : decode cL_nodes 12 = .ok (.astore_n 3, 1) := by decide +kernel
theorem dL_nodes_13 : decode cL_nodes 13 = .ok (.iconst 1, 1) := by decide +kernel
theorem dL_nodes_14 : decode cL_nodes 14 = .ok (.ireturn, 1) := by decide +kernel
theorem dL_nodes_15 : decode cL_nodes 15 = .ok (.iconst 0, 1) := by decide +kernel
theorem dL_nodes_16 : decode cL_nodes 16 = .ok (.ireturn, 1) := by decide +kernel
theorem dL_shared_0 : decode cL_shared 0 = .ok (.aload_n 3, 1) := by decide +kernel
theorem dL_shared_1 : decode cL_shared 1 = .ok (.iconst 0, 1) := by decide +kernel
theorem dL_shared_2 : decode cL_shared 2 = .ok (.aload_n 0, 1) := by decide +kernel
theorem dL_shared_3 : decode cL_shared 3 = .ok (.iload_n 1, 1) := by decide +kernel
theorem dL_shared_4 : decode cL_shared 4 = .ok (.iload_n 2, 1) := by decide +kernel
theorem dL_shared_5 : decode cL_shared 5 = .ok (.invokevirtual 78, 3) := by decide +kernel
theorem dL_shared_8 : decode cL_shared 8 = .ok (.i2l, 1) := by decide +kernel
theorem dL_shared_9 : decode cL_shared 9 = .ok (.lastore, 1) := by decide +kernel
theorem dL_shared_10 : decode cL_shared 10 = .ok (.goto 7, 3) := by decide +kernel
theorem dL_shared_13 : decode cL_shared 13 = .ok (.astore 4, 2) := by decide +kernel
theorem dL_shared_15 : decode cL_shared 15 = .ok (.iconst 1, 1) := by decide +kernel
theorem dL_shared_16 : decode cL_shared 16 = .ok (.ireturn, 1) := by decide +kernel
theorem dL_shared_17 : decode cL_shared 17 = .ok (.iconst 0, 1) := by decide +kernel
theorem dL_shared_18 : decode cL_shared 18 = .ok (.ireturn, 1) := by decide +kernel
theorem dL_areSame_0 : decode cL_areSame 0 = .ok (.aload_n 3, 1) := by decide +kernel
theorem dL_areSame_1 : decode cL_areSame 1 = .ok (.iconst 0, 1) := by decide +kernel
theorem dL_areSame_2 : decode cL_areSame 2 = .ok (.aload_n 0, 1) := by decide +kernel
theorem dL_areSame_3 : decode cL_areSame 3 = .ok (.iload_n 1, 1) := by decide +kernel
theorem dL_areSame_4 : decode cL_areSame 4 = .ok (.iload_n 2, 1) := by decide +kernel
theorem dL_areSame_5 : decode cL_areSame 5 = .ok (.invokevirtual 81, 3) := by decide +kernel
theorem dL_areSame_8 : decode cL_areSame 8 = .ok (.ifCond .eq 7, 3) := by decide +kernel
theorem dL_areSame_11 : decode cL_areSame 11 = .ok (.lconst 1, 1) := by decide +kernel
theorem dL_areSame_12 : decode cL_areSame 12 = .ok (.goto 4, 3) := by decide +kernel
theorem dL_areSame_15 : decode cL_areSame 15 = .ok (.lconst 0, 1) := by decide +kernel
theorem dL_areSame_16 : decode cL_areSame 16 = .ok (.lastore, 1) := by decide +kernel
theorem dL_areSame_17 : decode cL_areSame 17 = .ok (.goto 11, 3) := by decide +kernel
theorem dL_areSame_20 : decode cL_areSame 20 = .ok (.astore 4, 2) := by decide +kernel
theorem dL_areSame_22 : decode cL_areSame 22 = .ok (.iconst 1, 1) := by decide +kernel
theorem dL_areSame_23 : decode cL_areSame 23 = .ok (.ireturn, 1) := by decide +kernel
theorem dL_areSame_24 : decode cL_areSame 24 = .ok (.astore 4, 2) := by decide +kernel
theorem dL_areSame_26 : decode cL_areSame 26 = .ok (.iconst 2, 1) := by decide +kernel
theorem dL_areSame_27 : decode cL_areSame 27 = .ok (.ireturn, 1) := by decide +kernel
theorem dL_areSame_28 : decode cL_areSame 28 = .ok (.iconst 0, 1) := by decide +kernel
theorem dL_areSame_29 : decode cL_areSame 29 = .ok (.ireturn, 1) := by decide +kernel
theorem dL_range_0 : decode cL_range 0 = .ok (.aload 4, 2) := by decide +kernel
theorem dL_range_2 : decode cL_range 2 = .ok (.iconst 0, 1) := by decide +kernel
theorem dL_range_3 : decode cL_range 3 = .ok (.aload_n 0, 1) := by decide +kernel
theorem dL_range_4 : decode cL_range 4 = .ok (.iload_n 1, 1) := by decide +kernel
theorem dL_range_5 : decode cL_range 5 = .ok (.iload_n 2, 1) := by decide +kernel
theorem dL_range_6 : decode cL_range 6 = .ok (.iload_n 3, 1) := by decide +kernel
theorem dL_range_7 : decode cL_range 7 = .ok (.invokevirtual 85, 3) := by decide +kernel
theorem dL_range_10 : decode cL_range 10 = .ok (.i2l, 1) := by decide +kernel
theorem dL_range_11 : decode cL_range 11 = .ok (.lastore, 1) := by decide +kernel
theorem dL_range_12 : decode cL_range 12 = .ok (.goto 11, 3) := by decide +kernel
theorem dL_range_15 : decode cL_range 15 = .ok (.astore 5, 2) := by decide +kernel
theorem dL_range_17 : decode cL_range 17 = .ok (.iconst 1, 1) := by decide +kernel
theorem dL_range_18 : decode cL_range 18 = .ok (.ireturn, 1) := by decide +kernel
theorem dL_range_19 : decode cL_range 19 = .ok (.astore 5, 2) := by decide +kernel
theorem dL_range_21 : decode cL_range 21 = .ok (.iconst 2, 1) := by decide +kernel
theorem dL_range_22 : decode cL_range 22 = .ok (.ireturn, 1) := by decide +kernel
theorem dL_range_23 : decode cL_range 23 = .ok (.iconst 0, 1) := by decide +kernel
theorem dL_range_24 : decode cL_range 24 = .ok (.ireturn, 1) := by decide +kernel
theorem dL_over_0 : decode cL_over 0 = .ok (.aload 4, 2) := by decide +kernel
theorem dL_over_2 : decode cL_over 2 = .ok (.iconst 0, 1) := by decide +kernel
theorem dL_over_3 : decode cL_over 3 = .ok (.aload_n 0, 1) := by decide +kernel
theorem dL_over_4 : decode cL_over 4 = .ok (.iload_n 1, 1) := by decide +kernel
theorem dL_over_5 : decode cL_over 5 = .ok (.iload_n 2, 1) := by decide +kernel
theorem dL_over_6 : decode cL_over 6 = .ok (.iload_n 3, 1) := by decide +kernel
theorem dL_over_7 : decode cL_over 7 = .ok (.invokevirtual 88, 3) := by decide +kernel
theorem dL_over_10 : decode cL_over 10 = .ok (.i2l, 1) := by decide +kernel
theorem dL_over_11 : decode cL_over 11 = .ok (.lastore, 1) := by decide +kernel
theorem dL_over_12 : decode cL_over 12 = .ok (.goto 15, 3) := by decide +kernel
theorem dL_over_15 : decode cL_over 15 = .ok (.astore 5, 2) := by decide +kernel
theorem dL_over_17 : decode cL_over 17 = .ok (.iconst 1, 1) := by decide +kernel
theorem dL_over_18 : decode cL_over 18 = .ok (.ireturn, 1) := by decide +kernel
theorem dL_over_19 : decode cL_over 19 = .ok (.astore 5, 2) := by decide +kernel
theorem dL_over_21 : decode cL_over 21 = .ok (.iconst 2, 1) := by decide +kernel
theorem dL_over_22 : decode cL_over 22 = .ok (.ireturn, 1) := by decide +kernel
theorem dL_over_23 : decode cL_over 23 = .ok (.astore 5, 2) := by decide +kernel
theorem dL_over_25 : decode cL_over 25 = .ok (.iconst 3, 1) := by decide +kernel
theorem dL_over_26 : decode cL_over 26 = .ok (.ireturn, 1) := by decide +kernel
theorem dL_over_27 : decode cL_over 27 = .ok (.iconst 0, 1) := by decide +kernel
theorem dL_over_28 : decode cL_over 28 = .ok (.ireturn, 1) := by decide +kernel
theorem dL_at_0 : decode cL_at 0 = .ok (.aload_n 3, 1) := by decide +kernel
theorem dL_at_1 : decode cL_at 1 = .ok (.iconst 0, 1) := by decide +kernel
theorem dL_at_2 : decode cL_at 2 = .ok (.aload_n 0, 1) := by decide +kernel
theorem dL_at_3 : decode cL_at 3 = .ok (.iload_n 1, 1) := by decide +kernel
theorem dL_at_4 : decode cL_at 4 = .ok (.iload_n 2, 1) := by decide +kernel
theorem dL_at_5 : decode cL_at 5 = .ok (.invokevirtual 92, 3) := by decide +kernel
theorem dL_at_8 : decode cL_at 8 = .ok (.i2l, 1) := by decide +kernel
theorem dL_at_9 : decode cL_at 9 = .ok (.lastore, 1) := by decide +kernel
theorem dL_at_10 : decode cL_at 10 = .ok (.goto 15, 3) := by decide +kernel
theorem dL_at_13 : decode cL_at 13 = .ok (.astore 4, 2) := by decide +kernel
theorem dL_at_15 : decode cL_at 15 = .ok (.iconst 1, 1) := by decide +kernel
theorem dL_at_16 : decode cL_at 16 = .ok (.ireturn, 1) := by decide +kernel
theorem dL_at_17 : decode cL_at 17 = .ok (.astore 4, 2) := by decide +kernel
theorem dL_at_19 : decode cL_at 19 = .ok (.iconst 2, 1) := by decide +kernel
theorem dL_at_20 : decode cL_at 20 = .ok (.ireturn, 1) := by decide +kernel
theorem dL_at_21 : decode cL_at 21 = .ok (.astore 4, 2) := by decide +kernel
theorem dL_at_23 : decode cL_at 23 = .ok (.iconst 3, 1) := by decide +kernel
theorem dL_at_24 : decode cL_at 24 = .ok (.ireturn, 1) := by decide +kernel
theorem dL_at_25 : decode cL_at 25 = .ok (.iconst 0, 1) := by decide +kernel
theorem dL_at_26 : decode cL_at 26 = .ok (.ireturn, 1) := by decide +kernel
theorem dL_all_0 : decode cL_all 0 = .ok (.aload_n 2, 1) := by decide +kernel
theorem dL_all_1 : decode cL_all 1 = .ok (.iconst 0, 1) := by decide +kernel
theorem dL_all_2 : decode cL_all 2 = .ok (.aload_n 0, 1) := by decide +kernel
theorem dL_all_3 : decode cL_all 3 = .ok (.iload_n 1, 1) := by decide +kernel
theorem dL_all_4 : decode cL_all 4 = .ok (.invokevirtual 95, 3) := by decide +kernel
theorem dL_all_7 : decode cL_all 7 = .ok (.i2l, 1) := by decide +kernel
theorem dL_all_8 : decode cL_all 8 = .ok (.lastore, 1) := by decide +kernel
theorem dL_all_9 : decode cL_all 9 = .ok (.goto 9, 3) := by decide +kernel
theorem dL_all_12 : decode cL_all 12 = .ok (.astore_n 3, 1) := by decide +kernel
theorem dL_all_13 : decode cL_all 13 = .ok (.iconst 1, 1) := by decide +kernel
theorem dL_all_14 : decode cL_all 14 = .ok (.ireturn, 1) := by decide +kernel
theorem dL_all_15 : decode cL_all 15 = .ok (.astore_n 3, 1) := by decide +kernel
theorem dL_all_16 : decode cL_all 16 = .ok (.iconst 2, 1) := by decide +kernel
theorem dL_all_17 : decode cL_all 17 = .ok (.ireturn, 1) := by decide +kernel
theorem dL_all_18 : decode cL_all 18 = .ok (.iconst 0, 1) := by decide +kernel
theorem dL_all_19 : decode cL_all 19 = .ok (.ireturn, 1) := by decide +kernel
theorem dL_realised_0 : decode cL_realised 0 = .ok (.aload_n 2, 1) := by decide +kernel
theorem dL_realised_1 : decode cL_realised 1 = .ok (.iconst 0, 1) := by decide +kernel
theorem dL_realised_2 : decode cL_realised 2 = .ok (.aload_n 0, 1) := by decide +kernel
theorem dL_realised_3 : decode cL_realised 3 = .ok (.iload_n 1, 1) := by decide +kernel
theorem dL_realised_4 : decode cL_realised 4 = .ok (.invokevirtual 98, 3) := by decide +kernel
theorem dL_realised_7 : decode cL_realised 7 = .ok (.i2l, 1) := by decide +kernel
theorem dL_realised_8 : decode cL_realised 8 = .ok (.lastore, 1) := by decide +kernel
theorem dL_realised_9 : decode cL_realised 9 = .ok (.goto 6, 3) := by decide +kernel
theorem dL_realised_12 : decode cL_realised 12 = .ok (.astore_n 3, 1) := by decide +kernel
theorem dL_realised_13 : decode cL_realised 13 = .ok (.iconst 1, 1) := by decide +kernel
theorem dL_realised_14 : decode cL_realised 14 = .ok (.ireturn, 1) := by decide +kernel
theorem dL_realised_15 : decode cL_realised 15 = .ok (.iconst 0, 1) := by decide +kernel
theorem dL_realised_16 : decode cL_realised 16 = .ok (.ireturn, 1) := by decide +kernel
theorem dL_chunks_0 : decode cL_chunks 0 = .ok (.aload_n 2, 1) := by decide +kernel
theorem dL_chunks_1 : decode cL_chunks 1 = .ok (.iconst 0, 1) := by decide +kernel
theorem dL_chunks_2 : decode cL_chunks 2 = .ok (.aload_n 0, 1) := by decide +kernel
theorem dL_chunks_3 : decode cL_chunks 3 = .ok (.iload_n 1, 1) := by decide +kernel
theorem dL_chunks_4 : decode cL_chunks 4 = .ok (.invokevirtual 101, 3) := by decide +kernel
theorem dL_chunks_7 : decode cL_chunks 7 = .ok (.i2l, 1) := by decide +kernel
theorem dL_chunks_8 : decode cL_chunks 8 = .ok (.lastore, 1) := by decide +kernel
theorem dL_chunks_9 : decode cL_chunks 9 = .ok (.goto 6, 3) := by decide +kernel
theorem dL_chunks_12 : decode cL_chunks 12 = .ok (.astore_n 3, 1) := by decide +kernel
theorem dL_chunks_13 : decode cL_chunks 13 = .ok (.iconst 1, 1) := by decide +kernel
theorem dL_chunks_14 : decode cL_chunks 14 = .ok (.ireturn, 1) := by decide +kernel
theorem dL_chunks_15 : decode cL_chunks 15 = .ok (.iconst 0, 1) := by decide +kernel
theorem dL_chunks_16 : decode cL_chunks 16 = .ok (.ireturn, 1) := by decide +kernel
theorem dL_collect_0 : decode cL_collect 0 = .ok (.aload_n 2, 1) := by decide +kernel
theorem dL_collect_1 : decode cL_collect 1 = .ok (.iconst 0, 1) := by decide +kernel
theorem dL_collect_2 : decode cL_collect 2 = .ok (.aload_n 0, 1) := by decide +kernel
theorem dL_collect_3 : decode cL_collect 3 = .ok (.iload_n 1, 1) := by decide +kernel
theorem dL_collect_4 : decode cL_collect 4 = .ok (.invokevirtual 104, 3) := by decide +kernel
theorem dL_collect_7 : decode cL_collect 7 = .ok (.i2l, 1) := by decide +kernel
theorem dL_collect_8 : decode cL_collect 8 = .ok (.lastore, 1) := by decide +kernel
theorem dL_collect_9 : decode cL_collect 9 = .ok (.goto 15, 3) := by decide +kernel
theorem dL_collect_12 : decode cL_collect 12 = .ok (.astore_n 3, 1) := by decide +kernel
theorem dL_collect_13 : decode cL_collect 13 = .ok (.iconst 1, 1) := by decide +kernel
theorem dL_collect_14 : decode cL_collect 14 = .ok (.ireturn, 1) := by decide +kernel
theorem dL_collect_15 : decode cL_collect 15 = .ok (.astore_n 3, 1) := by decide +kernel
theorem dL_collect_16 : decode cL_collect 16 = .ok (.iconst 2, 1) := by decide +kernel
theorem dL_collect_17 : decode cL_collect 17 = .ok (.ireturn, 1) := by decide +kernel
theorem dL_collect_18 : decode cL_collect 18 = .ok (.astore_n 3, 1) := by decide +kernel
theorem dL_collect_19 : decode cL_collect 19 = .ok (.iconst 3, 1) := by decide +kernel
theorem dL_collect_20 : decode cL_collect 20 = .ok (.ireturn, 1) := by decide +kernel
theorem dL_collect_21 : decode cL_collect 21 = .ok (.astore_n 3, 1) := by decide +kernel
theorem dL_collect_22 : decode cL_collect 22 = .ok (.iconst 4, 1) := by decide +kernel
theorem dL_collect_23 : decode cL_collect 23 = .ok (.ireturn, 1) := by decide +kernel
theorem dL_collect_24 : decode cL_collect 24 = .ok (.iconst 0, 1) := by decide +kernel
theorem dL_collect_25 : decode cL_collect 25 = .ok (.ireturn, 1) := by decide +kernel
theorem dL_addReference_0 : decode cL_addReference 0 = .ok (.aload 4, 2) := by decide +kernel
theorem dL_addReference_2 : decode cL_addReference 2 = .ok (.iconst 0, 1) := by decide +kernel
theorem dL_addReference_3 : decode cL_addReference 3 = .ok (.aload_n 0, 1) := by decide +kernel
theorem dL_addReference_4 : decode cL_addReference 4 = .ok (.iload_n 1, 1) := by decide +kernel
theorem dL_addReference_5 : decode cL_addReference 5 = .ok (.iload_n 2, 1) := by decide +kernel
theorem dL_addReference_6 : decode cL_addReference 6 = .ok (.iload_n 3, 1) := by decide +kernel
theorem dL_addReference_7 : decode cL_addReference 7 = .ok (.invokevirtual 107, 3) := by decide +kernel
theorem dL_addReference_10 : decode cL_addReference 10 = .ok (.i2l, 1) := by decide +kernel
theorem dL_addReference_11 : decode cL_addReference 11 = .ok (.lastore, 1) := by decide +kernel
theorem dL_addReference_12 : decode cL_addReference 12 = .ok (.goto 11, 3) := by decide +kernel
theorem dL_addReference_15 : decode cL_addReference 15 = .ok (.astore 5, 2) := by decide +kernel
theorem dL_addReference_17 : decode cL_addReference 17 = .ok (.iconst 1, 1) := by decide +kernel
theorem dL_addReference_18 : decode cL_addReference 18 = .ok (.ireturn, 1) := by decide +kernel
theorem dL_addReference_19 : decode cL_addReference 19 = .ok (.astore 5, 2) := by decide +kernel
theorem dL_addReference_21 : decode cL_addReference 21 = .ok (.iconst 2, 1) := by decide +kernel
theorem dL_addReference_22 : decode cL_addReference 22 = .ok (.ireturn, 1) := by decide +kernel
theorem dL_addReference_23 : decode cL_addReference 23 = .ok (.iconst 0, 1) := by decide +kernel
theorem dL_addReference_24 : decode cL_addReference 24 = .ok (.ireturn, 1) := by decide +kernel
theorem dL_begin_0 : decode cL_begin 0 = .ok (.aload_n 2, 1) := by decide +kernel
theorem dL_begin_1 : decode cL_begin 1 = .ok (.iconst 0, 1) := by decide +kernel
theorem dL_begin_2 : decode cL_begin 2 = .ok (.aload_n 0, 1) := by decide +kernel
theorem dL_begin_3 : decode cL_begin 3 = .ok (.iload_n 1, 1) := by decide +kernel
theorem dL_begin_4 : decode cL_begin 4 = .ok (.invokevirtual 110, 3) := by decide +kernel
theorem dL_begin_7 : decode cL_begin 7 = .ok (.i2l, 1) := by decide +kernel
theorem dL_begin_8 : decode cL_begin 8 = .ok (.lastore, 1) := by decide +kernel
theorem dL_begin_9 : decode cL_begin 9 = .ok (.goto 9, 3) := by decide +kernel
theorem dL_begin_12 : decode cL_begin 12 = .ok (.astore_n 3, 1) := by decide +kernel
theorem dL_begin_13 : decode cL_begin 13 = .ok (.iconst 1, 1) := by decide +kernel
theorem dL_begin_14 : decode cL_begin 14 = .ok (.ireturn, 1) := by decide +kernel
theorem dL_begin_15 : decode cL_begin 15 = .ok (.astore_n 3, 1) := by decide +kernel
theorem dL_begin_16 : decode cL_begin 16 = .ok (.iconst 2, 1) := by decide +kernel
theorem dL_begin_17 : decode cL_begin 17 = .ok (.ireturn, 1) := by decide +kernel
theorem dL_begin_18 : decode cL_begin 18 = .ok (.iconst 0, 1) := by decide +kernel
theorem dL_begin_19 : decode cL_begin 19 = .ok (.ireturn, 1) := by decide +kernel
theorem dL_read_0 : decode cL_read 0 = .ok (.aload_n 3, 1) := by decide +kernel
theorem dL_read_1 : decode cL_read 1 = .ok (.iconst 0, 1) := by decide +kernel
theorem dL_read_2 : decode cL_read 2 = .ok (.aload_n 0, 1) := by decide +kernel
theorem dL_read_3 : decode cL_read 3 = .ok (.iload_n 1, 1) := by decide +kernel
theorem dL_read_4 : decode cL_read 4 = .ok (.iload_n 2, 1) := by decide +kernel
theorem dL_read_5 : decode cL_read 5 = .ok (.invokevirtual 113, 3) := by decide +kernel
theorem dL_read_8 : decode cL_read 8 = .ok (.i2l, 1) := by decide +kernel
theorem dL_read_9 : decode cL_read 9 = .ok (.lastore, 1) := by decide +kernel
theorem dL_read_10 : decode cL_read 10 = .ok (.goto 15, 3) := by decide +kernel
theorem dL_read_13 : decode cL_read 13 = .ok (.astore 4, 2) := by decide +kernel
theorem dL_read_15 : decode cL_read 15 = .ok (.iconst 1, 1) := by decide +kernel
theorem dL_read_16 : decode cL_read 16 = .ok (.ireturn, 1) := by decide +kernel
theorem dL_read_17 : decode cL_read 17 = .ok (.astore 4, 2) := by decide +kernel
theorem dL_read_19 : decode cL_read 19 = .ok (.iconst 2, 1) := by decide +kernel
theorem dL_read_20 : decode cL_read 20 = .ok (.ireturn, 1) := by decide +kernel
theorem dL_read_21 : decode cL_read 21 = .ok (.astore 4, 2) := by decide +kernel
theorem dL_read_23 : decode cL_read 23 = .ok (.iconst 3, 1) := by decide +kernel
theorem dL_read_24 : decode cL_read 24 = .ok (.ireturn, 1) := by decide +kernel
theorem dL_read_25 : decode cL_read 25 = .ok (.iconst 0, 1) := by decide +kernel
theorem dL_read_26 : decode cL_read 26 = .ok (.ireturn, 1) := by decide +kernel
theorem dL_write_0 : decode cL_write 0 = .ok (.aload 4, 2) := by decide +kernel
theorem dL_write_2 : decode cL_write 2 = .ok (.iconst 0, 1) := by decide +kernel
theorem dL_write_3 : decode cL_write 3 = .ok (.aload_n 0, 1) := by decide +kernel
theorem dL_write_4 : decode cL_write 4 = .ok (.iload_n 1, 1) := by decide +kernel
theorem dL_write_5 : decode cL_write 5 = .ok (.iload_n 2, 1) := by decide +kernel
theorem dL_write_6 : decode cL_write 6 = .ok (.iload_n 3, 1) := by decide +kernel
theorem dL_write_7 : decode cL_write 7 = .ok (.invokevirtual 116, 3) := by decide +kernel
theorem dL_write_10 : decode cL_write 10 = .ok (.ifCond .eq 7, 3) := by decide +kernel
theorem dL_write_13 : decode cL_write 13 = .ok (.lconst 1, 1) := by decide +kernel
theorem dL_write_14 : decode cL_write 14 = .ok (.goto 4, 3) := by decide +kernel
theorem dL_write_17 : decode cL_write 17 = .ok (.lconst 0, 1) := by decide +kernel
theorem dL_write_18 : decode cL_write 18 = .ok (.lastore, 1) := by decide +kernel
theorem dL_write_19 : decode cL_write 19 = .ok (.goto 19, 3) := by decide +kernel
theorem dL_write_22 : decode cL_write 22 = .ok (.astore 5, 2) := by decide +kernel
theorem dL_write_24 : decode cL_write 24 = .ok (.iconst 1, 1) := by decide +kernel
theorem dL_write_25 : decode cL_write 25 = .ok (.ireturn, 1) := by decide +kernel
theorem dL_write_26 : decode cL_write 26 = .ok (.astore 5, 2) := by decide +kernel
theorem dL_write_28 : decode cL_write 28 = .ok (.iconst 2, 1) := by decide +kernel
theorem dL_write_29 : decode cL_write 29 = .ok (.ireturn, 1) := by decide +kernel
theorem dL_write_30 : decode cL_write 30 = .ok (.astore 5, 2) := by decide +kernel
theorem dL_write_32 : decode cL_write 32 = .ok (.iconst 3, 1) := by decide +kernel
theorem dL_write_33 : decode cL_write 33 = .ok (.ireturn, 1) := by decide +kernel
theorem dL_write_34 : decode cL_write 34 = .ok (.astore 5, 2) := by decide +kernel
theorem dL_write_36 : decode cL_write 36 = .ok (.iconst 4, 1) := by decide +kernel
theorem dL_write_37 : decode cL_write 37 = .ok (.ireturn, 1) := by decide +kernel
theorem dL_write_38 : decode cL_write 38 = .ok (.iconst 0, 1) := by decide +kernel
theorem dL_write_39 : decode cL_write 39 = .ok (.ireturn, 1) := by decide +kernel
theorem dL_ensure_0 : decode cL_ensure 0 = .ok (.aload_n 3, 1) := by decide +kernel
theorem dL_ensure_1 : decode cL_ensure 1 = .ok (.iconst 0, 1) := by decide +kernel
theorem dL_ensure_2 : decode cL_ensure 2 = .ok (.aload_n 0, 1) := by decide +kernel
theorem dL_ensure_3 : decode cL_ensure 3 = .ok (.iload_n 1, 1) := by decide +kernel
theorem dL_ensure_4 : decode cL_ensure 4 = .ok (.iload_n 2, 1) := by decide +kernel
theorem dL_ensure_5 : decode cL_ensure 5 = .ok (.invokevirtual 120, 3) := by decide +kernel
theorem dL_ensure_8 : decode cL_ensure 8 = .ok (.ifCond .eq 7, 3) := by decide +kernel
theorem dL_ensure_11 : decode cL_ensure 11 = .ok (.lconst 1, 1) := by decide +kernel
theorem dL_ensure_12 : decode cL_ensure 12 = .ok (.goto 4, 3) := by decide +kernel
theorem dL_ensure_15 : decode cL_ensure 15 = .ok (.lconst 0, 1) := by decide +kernel
theorem dL_ensure_16 : decode cL_ensure 16 = .ok (.lastore, 1) := by decide +kernel
theorem dL_ensure_17 : decode cL_ensure 17 = .ok (.goto 15, 3) := by decide +kernel
theorem dL_ensure_20 : decode cL_ensure 20 = .ok (.astore 4, 2) := by decide +kernel
theorem dL_ensure_22 : decode cL_ensure 22 = .ok (.iconst 1, 1) := by decide +kernel
theorem dL_ensure_23 : decode cL_ensure 23 = .ok (.ireturn, 1) := by decide +kernel
theorem dL_ensure_24 : decode cL_ensure 24 = .ok (.astore 4, 2) := by decide +kernel
theorem dL_ensure_26 : decode cL_ensure 26 = .ok (.iconst 2, 1) := by decide +kernel
theorem dL_ensure_27 : decode cL_ensure 27 = .ok (.ireturn, 1) := by decide +kernel
theorem dL_ensure_28 : decode cL_ensure 28 = .ok (.astore 4, 2) := by decide +kernel
theorem dL_ensure_30 : decode cL_ensure 30 = .ok (.iconst 3, 1) := by decide +kernel
theorem dL_ensure_31 : decode cL_ensure 31 = .ok (.ireturn, 1) := by decide +kernel
theorem dL_ensure_32 : decode cL_ensure 32 = .ok (.iconst 0, 1) := by decide +kernel
theorem dL_ensure_33 : decode cL_ensure 33 = .ok (.ireturn, 1) := by decide +kernel
theorem dL_add_0 : decode cL_add 0 = .ok (.aload 4, 2) := by decide +kernel
theorem dL_add_2 : decode cL_add 2 = .ok (.iconst 0, 1) := by decide +kernel
theorem dL_add_3 : decode cL_add 3 = .ok (.aload_n 0, 1) := by decide +kernel
theorem dL_add_4 : decode cL_add 4 = .ok (.iload_n 1, 1) := by decide +kernel
theorem dL_add_5 : decode cL_add 5 = .ok (.iload_n 2, 1) := by decide +kernel
theorem dL_add_6 : decode cL_add 6 = .ok (.iload_n 3, 1) := by decide +kernel
theorem dL_add_7 : decode cL_add 7 = .ok (.invokevirtual 123, 3) := by decide +kernel
theorem dL_add_10 : decode cL_add 10 = .ok (.ifCond .eq 7, 3) := by decide +kernel
theorem dL_add_13 : decode cL_add 13 = .ok (.lconst 1, 1) := by decide +kernel
theorem dL_add_14 : decode cL_add 14 = .ok (.goto 4, 3) := by decide +kernel
theorem dL_add_17 : decode cL_add 17 = .ok (.lconst 0, 1) := by decide +kernel
theorem dL_add_18 : decode cL_add 18 = .ok (.lastore, 1) := by decide +kernel
theorem dL_add_19 : decode cL_add 19 = .ok (.goto 19, 3) := by decide +kernel
theorem dL_add_22 : decode cL_add 22 = .ok (.astore 5, 2) := by decide +kernel
theorem dL_add_24 : decode cL_add 24 = .ok (.iconst 1, 1) := by decide +kernel
theorem dL_add_25 : decode cL_add 25 = .ok (.ireturn, 1) := by decide +kernel
theorem dL_add_26 : decode cL_add 26 = .ok (.astore 5, 2) := by decide +kernel
theorem dL_add_28 : decode cL_add 28 = .ok (.iconst 2, 1) := by decide +kernel
theorem dL_add_29 : decode cL_add 29 = .ok (.ireturn, 1) := by decide +kernel
theorem dL_add_30 : decode cL_add 30 = .ok (.astore 5, 2) := by decide +kernel
theorem dL_add_32 : decode cL_add 32 = .ok (.iconst 3, 1) := by decide +kernel
theorem dL_add_33 : decode cL_add 33 = .ok (.ireturn, 1) := by decide +kernel
theorem dL_add_34 : decode cL_add 34 = .ok (.astore 5, 2) := by decide +kernel
theorem dL_add_36 : decode cL_add 36 = .ok (.iconst 4, 1) := by decide +kernel
theorem dL_add_37 : decode cL_add 37 = .ok (.ireturn, 1) := by decide +kernel
theorem dL_add_38 : decode cL_add 38 = .ok (.iconst 0, 1) := by decide +kernel
theorem dL_add_39 : decode cL_add 39 = .ok (.ireturn, 1) := by decide +kernel
theorem dL_commit_0 : decode cL_commit 0 = .ok (.aload_n 2, 1) := by decide +kernel
theorem dL_commit_1 : decode cL_commit 1 = .ok (.iconst 0, 1) := by decide +kernel
theorem dL_commit_2 : decode cL_commit 2 = .ok (.aload_n 0, 1) := by decide +kernel
theorem dL_commit_3 : decode cL_commit 3 = .ok (.iload_n 1, 1) := by decide +kernel
theorem dL_commit_4 : decode cL_commit 4 = .ok (.invokevirtual 126, 3) := by decide +kernel
theorem dL_commit_7 : decode cL_commit 7 = .ok (.i2l, 1) := by decide +kernel
theorem dL_commit_8 : decode cL_commit 8 = .ok (.lastore, 1) := by decide +kernel
theorem dL_commit_9 : decode cL_commit 9 = .ok (.goto 9, 3) := by decide +kernel
theorem dL_commit_12 : decode cL_commit 12 = .ok (.astore_n 3, 1) := by decide +kernel
theorem dL_commit_13 : decode cL_commit 13 = .ok (.iconst 1, 1) := by decide +kernel
theorem dL_commit_14 : decode cL_commit 14 = .ok (.ireturn, 1) := by decide +kernel
theorem dL_commit_15 : decode cL_commit 15 = .ok (.astore_n 3, 1) := by decide +kernel
theorem dL_commit_16 : decode cL_commit 16 = .ok (.iconst 2, 1) := by decide +kernel
theorem dL_commit_17 : decode cL_commit 17 = .ok (.ireturn, 1) := by decide +kernel
theorem dL_commit_18 : decode cL_commit 18 = .ok (.iconst 0, 1) := by decide +kernel
theorem dL_commit_19 : decode cL_commit 19 = .ok (.ireturn, 1) := by decide +kernel
theorem dL_end_0 : decode cL_end 0 = .ok (.aload_n 2, 1) := by decide +kernel
theorem dL_end_1 : decode cL_end 1 = .ok (.iconst 0, 1) := by decide +kernel
theorem dL_end_2 : decode cL_end 2 = .ok (.aload_n 0, 1) := by decide +kernel
theorem dL_end_3 : decode cL_end 3 = .ok (.iload_n 1, 1) := by decide +kernel
theorem dL_end_4 : decode cL_end 4 = .ok (.invokevirtual 130, 3) := by decide +kernel
theorem dL_end_7 : decode cL_end 7 = .ok (.i2l, 1) := by decide +kernel
theorem dL_end_8 : decode cL_end 8 = .ok (.lastore, 1) := by decide +kernel
theorem dL_end_9 : decode cL_end 9 = .ok (.goto 9, 3) := by decide +kernel
theorem dL_end_12 : decode cL_end 12 = .ok (.astore_n 3, 1) := by decide +kernel
theorem dL_end_13 : decode cL_end 13 = .ok (.iconst 1, 1) := by decide +kernel
theorem dL_end_14 : decode cL_end 14 = .ok (.ireturn, 1) := by decide +kernel
theorem dL_end_15 : decode cL_end 15 = .ok (.astore_n 3, 1) := by decide +kernel
theorem dL_end_16 : decode cL_end 16 = .ok (.iconst 2, 1) := by decide +kernel
theorem dL_end_17 : decode cL_end 17 = .ok (.ireturn, 1) := by decide +kernel
theorem dL_end_18 : decode cL_end 18 = .ok (.iconst 0, 1) := by decide +kernel
theorem dL_end_19 : decode cL_end 19 = .ok (.ireturn, 1) := by decide +kernel
theorem dL_sentBack_0 : decode cL_sentBack 0 = .ok (.aload_n 2, 1) := by decide +kernel
theorem dL_sentBack_1 : decode cL_sentBack 1 = .ok (.iconst 0, 1) := by decide +kernel
theorem dL_sentBack_2 : decode cL_sentBack 2 = .ok (.aload_n 0, 1) := by decide +kernel
theorem dL_sentBack_3 : decode cL_sentBack 3 = .ok (.iload_n 1, 1) := by decide +kernel
theorem dL_sentBack_4 : decode cL_sentBack 4 = .ok (.invokevirtual 133, 3) := by decide +kernel
theorem dL_sentBack_7 : decode cL_sentBack 7 = .ok (.i2l, 1) := by decide +kernel
theorem dL_sentBack_8 : decode cL_sentBack 8 = .ok (.lastore, 1) := by decide +kernel
theorem dL_sentBack_9 : decode cL_sentBack 9 = .ok (.goto 6, 3) := by decide +kernel
theorem dL_sentBack_12 : decode cL_sentBack 12 = .ok (.astore_n 3, 1) := by decide +kernel
theorem dL_sentBack_13 : decode cL_sentBack 13 = .ok (.iconst 1, 1) := by decide +kernel
theorem dL_sentBack_14 : decode cL_sentBack 14 = .ok (.ireturn, 1) := by decide +kernel
theorem dL_sentBack_15 : decode cL_sentBack 15 = .ok (.iconst 0, 1) := by decide +kernel
theorem dL_sentBack_16 : decode cL_sentBack 16 = .ok (.ireturn, 1) := by decide +kernel
theorem dL_valueOf_0 : decode cL_valueOf 0 = .ok (.aload_n 2, 1) := by decide +kernel
theorem dL_valueOf_1 : decode cL_valueOf 1 = .ok (.iconst 0, 1) := by decide +kernel
theorem dL_valueOf_2 : decode cL_valueOf 2 = .ok (.aload_n 0, 1) := by decide +kernel
theorem dL_valueOf_3 : decode cL_valueOf 3 = .ok (.iload_n 1, 1) := by decide +kernel
theorem dL_valueOf_4 : decode cL_valueOf 4 = .ok (.invokevirtual 136, 3) := by decide +kernel
theorem dL_valueOf_7 : decode cL_valueOf 7 = .ok (.i2l, 1) := by decide +kernel
theorem dL_valueOf_8 : decode cL_valueOf 8 = .ok (.lastore, 1) := by decide +kernel
theorem dL_valueOf_9 : decode cL_valueOf 9 = .ok (.goto 6, 3) := by decide +kernel
theorem dL_valueOf_12 : decode cL_valueOf 12 = .ok (.astore_n 3, 1) := by decide +kernel
theorem dL_valueOf_13 : decode cL_valueOf 13 = .ok (.iconst 1, 1) := by decide +kernel
theorem dL_valueOf_14 : decode cL_valueOf 14 = .ok (.ireturn, 1) := by decide +kernel
theorem dL_valueOf_15 : decode cL_valueOf 15 = .ok (.iconst 0, 1) := by decide +kernel
theorem dL_valueOf_16 : decode cL_valueOf 16 = .ok (.ireturn, 1) := by decide +kernel
theorem dL_valueByLog_0 : decode cL_valueByLog 0 = .ok (.aload_n 2, 1) := by decide +kernel
theorem dL_valueByLog_1 : decode cL_valueByLog 1 = .ok (.iconst 0, 1) := by decide +kernel
theorem dL_valueByLog_2 : decode cL_valueByLog 2 = .ok (.aload_n 0, 1) := by decide +kernel
theorem dL_valueByLog_3 : decode cL_valueByLog 3 = .ok (.iload_n 1, 1) := by decide +kernel
theorem dL_valueByLog_4 : decode cL_valueByLog 4 = .ok (.invokevirtual 139, 3) := by decide +kernel
theorem dL_valueByLog_7 : decode cL_valueByLog 7 = .ok (.i2l, 1) := by decide +kernel
theorem dL_valueByLog_8 : decode cL_valueByLog 8 = .ok (.lastore, 1) := by decide +kernel
theorem dL_valueByLog_9 : decode cL_valueByLog 9 = .ok (.goto 6, 3) := by decide +kernel
theorem dL_valueByLog_12 : decode cL_valueByLog 12 = .ok (.astore_n 3, 1) := by decide +kernel
theorem dL_valueByLog_13 : decode cL_valueByLog 13 = .ok (.iconst 1, 1) := by decide +kernel
theorem dL_valueByLog_14 : decode cL_valueByLog 14 = .ok (.ireturn, 1) := by decide +kernel
theorem dL_valueByLog_15 : decode cL_valueByLog 15 = .ok (.iconst 0, 1) := by decide +kernel
theorem dL_valueByLog_16 : decode cL_valueByLog 16 = .ok (.ireturn, 1) := by decide +kernel
theorem dL_history_0 : decode cL_history 0 = .ok (.aload_n 2, 1) := by decide +kernel
theorem dL_history_1 : decode cL_history 1 = .ok (.iconst 0, 1) := by decide +kernel
theorem dL_history_2 : decode cL_history 2 = .ok (.aload_n 0, 1) := by decide +kernel
theorem dL_history_3 : decode cL_history 3 = .ok (.iload_n 1, 1) := by decide +kernel
theorem dL_history_4 : decode cL_history 4 = .ok (.invokevirtual 142, 3) := by decide +kernel
theorem dL_history_7 : decode cL_history 7 = .ok (.i2l, 1) := by decide +kernel
theorem dL_history_8 : decode cL_history 8 = .ok (.lastore, 1) := by decide +kernel
theorem dL_history_9 : decode cL_history 9 = .ok (.goto 6, 3) := by decide +kernel
theorem dL_history_12 : decode cL_history 12 = .ok (.astore_n 3, 1) := by decide +kernel
theorem dL_history_13 : decode cL_history 13 = .ok (.iconst 1, 1) := by decide +kernel
theorem dL_history_14 : decode cL_history 14 = .ok (.ireturn, 1) := by decide +kernel
theorem dL_history_15 : decode cL_history 15 = .ok (.iconst 0, 1) := by decide +kernel
theorem dL_history_16 : decode cL_history 16 = .ok (.ireturn, 1) := by decide +kernel
theorem dL_logAt_0 : decode cL_logAt 0 = .ok (.aload_n 3, 1) := by decide +kernel
theorem dL_logAt_1 : decode cL_logAt 1 = .ok (.iconst 0, 1) := by decide +kernel
theorem dL_logAt_2 : decode cL_logAt 2 = .ok (.aload_n 0, 1) := by decide +kernel
theorem dL_logAt_3 : decode cL_logAt 3 = .ok (.iload_n 1, 1) := by decide +kernel
theorem dL_logAt_4 : decode cL_logAt 4 = .ok (.iload_n 2, 1) := by decide +kernel
theorem dL_logAt_5 : decode cL_logAt 5 = .ok (.invokevirtual 145, 3) := by decide +kernel
theorem dL_logAt_8 : decode cL_logAt 8 = .ok (.i2l, 1) := by decide +kernel
theorem dL_logAt_9 : decode cL_logAt 9 = .ok (.lastore, 1) := by decide +kernel
theorem dL_logAt_10 : decode cL_logAt 10 = .ok (.goto 11, 3) := by decide +kernel
theorem dL_logAt_13 : decode cL_logAt 13 = .ok (.astore 4, 2) := by decide +kernel
theorem dL_logAt_15 : decode cL_logAt 15 = .ok (.iconst 1, 1) := by decide +kernel
theorem dL_logAt_16 : decode cL_logAt 16 = .ok (.ireturn, 1) := by decide +kernel
theorem dL_logAt_17 : decode cL_logAt 17 = .ok (.astore 4, 2) := by decide +kernel
theorem dL_logAt_19 : decode cL_logAt 19 = .ok (.iconst 2, 1) := by decide +kernel
theorem dL_logAt_20 : decode cL_logAt 20 = .ok (.ireturn, 1) := by decide +kernel
theorem dL_logAt_21 : decode cL_logAt 21 = .ok (.iconst 0, 1) := by decide +kernel
theorem dL_logAt_22 : decode cL_logAt 22 = .ok (.ireturn, 1) := by decide +kernel
theorem dL_addAgent_0 : decode cL_addAgent 0 = .ok (.aload 5, 2) := by decide +kernel
theorem dL_addAgent_2 : decode cL_addAgent 2 = .ok (.iconst 0, 1) := by decide +kernel
theorem dL_addAgent_3 : decode cL_addAgent 3 = .ok (.aload_n 0, 1) := by decide +kernel
theorem dL_addAgent_4 : decode cL_addAgent 4 = .ok (.iload_n 1, 1) := by decide +kernel
theorem dL_addAgent_5 : decode cL_addAgent 5 = .ok (.iload_n 2, 1) := by decide +kernel
theorem dL_addAgent_6 : decode cL_addAgent 6 = .ok (.iload_n 3, 1) := by decide +kernel
theorem dL_addAgent_7 : decode cL_addAgent 7 = .ok (.iload 4, 2) := by decide +kernel
theorem dL_addAgent_9 : decode cL_addAgent 9 = .ok (.invokevirtual 148, 3) := by decide +kernel
theorem dL_addAgent_12 : decode cL_addAgent 12 = .ok (.i2l, 1) := by decide +kernel
theorem dL_addAgent_13 : decode cL_addAgent 13 = .ok (.lastore, 1) := by decide +kernel
theorem dL_addAgent_14 : decode cL_addAgent 14 = .ok (.goto 11, 3) := by decide +kernel
theorem dL_addAgent_17 : decode cL_addAgent 17 = .ok (.astore 6, 2) := by decide +kernel
theorem dL_addAgent_19 : decode cL_addAgent 19 = .ok (.iconst 1, 1) := by decide +kernel
theorem dL_addAgent_20 : decode cL_addAgent 20 = .ok (.ireturn, 1) := by decide +kernel
theorem dL_addAgent_21 : decode cL_addAgent 21 = .ok (.astore 6, 2) := by decide +kernel
theorem dL_addAgent_23 : decode cL_addAgent 23 = .ok (.iconst 2, 1) := by decide +kernel
theorem dL_addAgent_24 : decode cL_addAgent 24 = .ok (.ireturn, 1) := by decide +kernel
theorem dL_addAgent_25 : decode cL_addAgent 25 = .ok (.iconst 0, 1) := by decide +kernel
theorem dL_addAgent_26 : decode cL_addAgent 26 = .ok (.ireturn, 1) := by decide +kernel
theorem dL_send_0 : decode cL_send 0 = .ok (.aload 4, 2) := by decide +kernel
theorem dL_send_2 : decode cL_send 2 = .ok (.iconst 0, 1) := by decide +kernel
theorem dL_send_3 : decode cL_send 3 = .ok (.aload_n 0, 1) := by decide +kernel
theorem dL_send_4 : decode cL_send 4 = .ok (.iload_n 1, 1) := by decide +kernel
theorem dL_send_5 : decode cL_send 5 = .ok (.iload_n 2, 1) := by decide +kernel
theorem dL_send_6 : decode cL_send 6 = .ok (.iload_n 3, 1) := by decide +kernel
theorem dL_send_7 : decode cL_send 7 = .ok (.invokevirtual 152, 3) := by decide +kernel
theorem dL_send_10 : decode cL_send 10 = .ok (.i2l, 1) := by decide +kernel
theorem dL_send_11 : decode cL_send 11 = .ok (.lastore, 1) := by decide +kernel
theorem dL_send_12 : decode cL_send 12 = .ok (.goto 15, 3) := by decide +kernel
theorem dL_send_15 : decode cL_send 15 = .ok (.astore 5, 2) := by decide +kernel
theorem dL_send_17 : decode cL_send 17 = .ok (.iconst 1, 1) := by decide +kernel
theorem dL_send_18 : decode cL_send 18 = .ok (.ireturn, 1) := by decide +kernel
theorem dL_send_19 : decode cL_send 19 = .ok (.astore 5, 2) := by decide +kernel
theorem dL_send_21 : decode cL_send 21 = .ok (.iconst 2, 1) := by decide +kernel
theorem dL_send_22 : decode cL_send 22 = .ok (.ireturn, 1) := by decide +kernel
theorem dL_send_23 : decode cL_send 23 = .ok (.astore 5, 2) := by decide +kernel
theorem dL_send_25 : decode cL_send 25 = .ok (.iconst 3, 1) := by decide +kernel
theorem dL_send_26 : decode cL_send 26 = .ok (.ireturn, 1) := by decide +kernel
theorem dL_send_27 : decode cL_send 27 = .ok (.iconst 0, 1) := by decide +kernel
theorem dL_send_28 : decode cL_send 28 = .ok (.ireturn, 1) := by decide +kernel
theorem dL_act_0 : decode cL_act 0 = .ok (.aload_n 2, 1) := by decide +kernel
theorem dL_act_1 : decode cL_act 1 = .ok (.iconst 0, 1) := by decide +kernel
theorem dL_act_2 : decode cL_act 2 = .ok (.aload_n 0, 1) := by decide +kernel
theorem dL_act_3 : decode cL_act 3 = .ok (.iload_n 1, 1) := by decide +kernel
theorem dL_act_4 : decode cL_act 4 = .ok (.invokevirtual 155, 3) := by decide +kernel
theorem dL_act_7 : decode cL_act 7 = .ok (.i2l, 1) := by decide +kernel
theorem dL_act_8 : decode cL_act 8 = .ok (.lastore, 1) := by decide +kernel
theorem dL_act_9 : decode cL_act 9 = .ok (.goto 12, 3) := by decide +kernel
theorem dL_act_12 : decode cL_act 12 = .ok (.astore_n 3, 1) := by decide +kernel
theorem dL_act_13 : decode cL_act 13 = .ok (.iconst 1, 1) := by decide +kernel
theorem dL_act_14 : decode cL_act 14 = .ok (.ireturn, 1) := by decide +kernel
theorem dL_act_15 : decode cL_act 15 = .ok (.astore_n 3, 1) := by decide +kernel
theorem dL_act_16 : decode cL_act 16 = .ok (.iconst 2, 1) := by decide +kernel
theorem dL_act_17 : decode cL_act 17 = .ok (.ireturn, 1) := by decide +kernel
theorem dL_act_18 : decode cL_act 18 = .ok (.astore_n 3, 1) := by decide +kernel
theorem dL_act_19 : decode cL_act 19 = .ok (.iconst 3, 1) := by decide +kernel
theorem dL_act_20 : decode cL_act 20 = .ok (.ireturn, 1) := by decide +kernel
theorem dL_act_21 : decode cL_act 21 = .ok (.iconst 0, 1) := by decide +kernel
theorem dL_act_22 : decode cL_act 22 = .ok (.ireturn, 1) := by decide +kernel
theorem dL_beginAnew_0 : decode cL_beginAnew 0 = .ok (.aload_n 3, 1) := by decide +kernel
theorem dL_beginAnew_1 : decode cL_beginAnew 1 = .ok (.iconst 0, 1) := by decide +kernel
theorem dL_beginAnew_2 : decode cL_beginAnew 2 = .ok (.aload_n 0, 1) := by decide +kernel
theorem dL_beginAnew_3 : decode cL_beginAnew 3 = .ok (.iload_n 1, 1) := by decide +kernel
theorem dL_beginAnew_4 : decode cL_beginAnew 4 = .ok (.iload_n 2, 1) := by decide +kernel
theorem dL_beginAnew_5 : decode cL_beginAnew 5 = .ok (.invokevirtual 158, 3) := by decide +kernel
theorem dL_beginAnew_8 : decode cL_beginAnew 8 = .ok (.i2l, 1) := by decide +kernel
theorem dL_beginAnew_9 : decode cL_beginAnew 9 = .ok (.lastore, 1) := by decide +kernel
theorem dL_beginAnew_10 : decode cL_beginAnew 10 = .ok (.goto 15, 3) := by decide +kernel
theorem dL_beginAnew_13 : decode cL_beginAnew 13 = .ok (.astore 4, 2) := by decide +kernel
theorem dL_beginAnew_15 : decode cL_beginAnew 15 = .ok (.iconst 1, 1) := by decide +kernel
theorem dL_beginAnew_16 : decode cL_beginAnew 16 = .ok (.ireturn, 1) := by decide +kernel
theorem dL_beginAnew_17 : decode cL_beginAnew 17 = .ok (.astore 4, 2) := by decide +kernel
theorem dL_beginAnew_19 : decode cL_beginAnew 19 = .ok (.iconst 2, 1) := by decide +kernel
theorem dL_beginAnew_20 : decode cL_beginAnew 20 = .ok (.ireturn, 1) := by decide +kernel
theorem dL_beginAnew_21 : decode cL_beginAnew 21 = .ok (.astore 4, 2) := by decide +kernel
theorem dL_beginAnew_23 : decode cL_beginAnew 23 = .ok (.iconst 3, 1) := by decide +kernel
theorem dL_beginAnew_24 : decode cL_beginAnew 24 = .ok (.ireturn, 1) := by decide +kernel
theorem dL_beginAnew_25 : decode cL_beginAnew 25 = .ok (.iconst 0, 1) := by decide +kernel
theorem dL_beginAnew_26 : decode cL_beginAnew 26 = .ok (.ireturn, 1) := by decide +kernel
theorem dL_errors_0 : decode cL_errors 0 = .ok (.aload_n 2, 1) := by decide +kernel
theorem dL_errors_1 : decode cL_errors 1 = .ok (.iconst 0, 1) := by decide +kernel
theorem dL_errors_2 : decode cL_errors 2 = .ok (.aload_n 0, 1) := by decide +kernel
theorem dL_errors_3 : decode cL_errors 3 = .ok (.iload_n 1, 1) := by decide +kernel
theorem dL_errors_4 : decode cL_errors 4 = .ok (.invokevirtual 161, 3) := by decide +kernel
theorem dL_errors_7 : decode cL_errors 7 = .ok (.i2l, 1) := by decide +kernel
theorem dL_errors_8 : decode cL_errors 8 = .ok (.lastore, 1) := by decide +kernel
theorem dL_errors_9 : decode cL_errors 9 = .ok (.goto 6, 3) := by decide +kernel
theorem dL_errors_12 : decode cL_errors 12 = .ok (.astore_n 3, 1) := by decide +kernel
theorem dL_errors_13 : decode cL_errors 13 = .ok (.iconst 1, 1) := by decide +kernel
theorem dL_errors_14 : decode cL_errors 14 = .ok (.ireturn, 1) := by decide +kernel
theorem dL_errors_15 : decode cL_errors 15 = .ok (.iconst 0, 1) := by decide +kernel
theorem dL_errors_16 : decode cL_errors 16 = .ok (.ireturn, 1) := by decide +kernel
theorem dL_sharing_0 : decode cL_sharing 0 = .ok (.aload_n 1, 1) := by decide +kernel
theorem dL_sharing_1 : decode cL_sharing 1 = .ok (.iconst 0, 1) := by decide +kernel
theorem dL_sharing_2 : decode cL_sharing 2 = .ok (.aload_n 0, 1) := by decide +kernel
theorem dL_sharing_3 : decode cL_sharing 3 = .ok (.invokevirtual 164, 3) := by decide +kernel
theorem dL_sharing_6 : decode cL_sharing 6 = .ok (.f2d, 1) := by decide +kernel
theorem dL_sharing_7 : decode cL_sharing 7 = .ok (.dastore, 1) := by decide +kernel
theorem dL_sharing_8 : decode cL_sharing 8 = .ok (.goto 6, 3) := by decide +kernel
theorem dL_sharing_11 : decode cL_sharing 11 = .ok (.astore_n 2, 1) := by decide +kernel
theorem dL_sharing_12 : decode cL_sharing 12 = .ok (.iconst 1, 1) := by decide +kernel
theorem dL_sharing_13 : decode cL_sharing 13 = .ok (.ireturn, 1) := by decide +kernel
theorem dL_sharing_14 : decode cL_sharing 14 = .ok (.iconst 0, 1) := by decide +kernel
theorem dL_sharing_15 : decode cL_sharing 15 = .ok (.ireturn, 1) := by decide +kernel
