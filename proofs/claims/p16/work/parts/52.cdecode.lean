theorem dX0_isRight_0 : decode cX0_isRight 0 = .ok (.iconst 0, 1) := by decide +kernel
theorem dX0_isRight_1 : decode cX0_isRight 1 = .ok (.istore_n 1, 1) := by decide +kernel
theorem dX0_isRight_2 : decode cX0_isRight 2 = .ok (.iload_n 1, 1) := by decide +kernel
theorem dX0_isRight_3 : decode cX0_isRight 3 = .ok (.aload_n 0, 1) := by decide +kernel
theorem dX0_isRight_4 : decode cX0_isRight 4 = .ok (.getfield 17, 3) := by decide +kernel
theorem dX0_isRight_7 : decode cX0_isRight 7 = .ok (.if_icmp .ge 28, 3) := by decide +kernel
theorem dX0_isRight_10 : decode cX0_isRight 10 = .ok (.aload_n 0, 1) := by decide +kernel
theorem dX0_isRight_11 : decode cX0_isRight 11 = .ok (.iload_n 1, 1) := by decide +kernel
theorem dX0_isRight_12 : decode cX0_isRight 12 = .ok (.invokevirtual 24, 3) := by decide +kernel
theorem dX0_isRight_15 : decode cX0_isRight 15 = .ok (.astore_n 2, 1) := by decide +kernel
theorem dX0_isRight_16 : decode cX0_isRight 16 = .ok (.aload_n 2, 1) := by decide +kernel
theorem dX0_isRight_17 : decode cX0_isRight 17 = .ok (.ifnull 10, 3) := by decide +kernel
theorem dX0_isRight_20 : decode cX0_isRight 20 = .ok (.aload_n 2, 1) := by decide +kernel
theorem dX0_isRight_21 : decode cX0_isRight 21 = .ok (.invokevirtual 28, 3) := by decide +kernel
theorem dX0_isRight_24 : decode cX0_isRight 24 = .ok (.ifCond .ne 5, 3) := by decide +kernel
theorem dX0_isRight_27 : decode cX0_isRight 27 = .ok (.iconst 0, 1) := by decide +kernel
theorem dX0_isRight_28 : decode cX0_isRight 28 = .ok (.ireturn, 1) := by decide +kernel
theorem dX0_isRight_29 : decode cX0_isRight 29 = .ok (.iinc 1 1, 3) := by decide +kernel
theorem dX0_isRight_32 : decode cX0_isRight 32 = .ok (.goto (-30), 3) := by decide +kernel
theorem dX0_isRight_35 : decode cX0_isRight 35 = .ok (.iconst 1, 1) := by decide +kernel
theorem dX0_isRight_36 : decode cX0_isRight 36 = .ok (.ireturn, 1) := by decide +kernel
theorem dX0_taken_0 : decode cX0_taken 0 = .ok (.iload_n 1, 1) := by decide +kernel
theorem dX0_taken_1 : decode cX0_taken 1 = .ok (.bipush 11, 2) := by decide +kernel
theorem dX0_taken_3 : decode cX0_taken 3 = .ok (.if_icmp .ne 22, 3) := by decide +kernel
theorem dX0_taken_6 : decode cX0_taken 6 = .ok (.aload_n 0, 1) := by decide +kernel
theorem dX0_taken_7 : decode cX0_taken 7 = .ok (.iload_n 2, 1) := by decide +kernel
theorem dX0_taken_8 : decode cX0_taken 8 = .ok (.invokevirtual 24, 3) := by decide +kernel
theorem dX0_taken_11 : decode cX0_taken 11 = .ok (.astore_n 3, 1) := by decide +kernel
theorem dX0_taken_12 : decode cX0_taken 12 = .ok (.aload_n 3, 1) := by decide +kernel
theorem dX0_taken_13 : decode cX0_taken 13 = .ok (.ifnonnull 7, 3) := by decide +kernel
theorem dX0_taken_16 : decode cX0_taken 16 = .ok (.iconst 0, 1) := by decide +kernel
theorem dX0_taken_17 : decode cX0_taken 17 = .ok (.goto 7, 3) := by decide +kernel
theorem dX0_taken_20 : decode cX0_taken 20 = .ok (.aload_n 3, 1) := by decide +kernel
theorem dX0_taken_21 : decode cX0_taken 21 = .ok (.getfield 32, 3) := by decide +kernel
theorem dX0_taken_24 : decode cX0_taken 24 = .ok (.ireturn, 1) := by decide +kernel
theorem dX0_taken_25 : decode cX0_taken 25 = .ok (.iload_n 1, 1) := by decide +kernel
theorem dX0_taken_26 : decode cX0_taken 26 = .ok (.ifCond .lt 17, 3) := by decide +kernel
theorem dX0_taken_29 : decode cX0_taken 29 = .ok (.iload_n 1, 1) := by decide +kernel
theorem dX0_taken_30 : decode cX0_taken 30 = .ok (.bipush 20, 2) := by decide +kernel
theorem dX0_taken_32 : decode cX0_taken 32 = .ok (.if_icmp .ge 11, 3) := by decide +kernel
theorem dX0_taken_35 : decode cX0_taken 35 = .ok (.getstatic 35, 3) := by decide +kernel
theorem dX0_taken_38 : decode cX0_taken 38 = .ok (.iload_n 1, 1) := by decide +kernel
theorem dX0_taken_39 : decode cX0_taken 39 = .ok (.iaload, 1) := by decide +kernel
theorem dX0_taken_40 : decode cX0_taken 40 = .ok (.goto 4, 3) := by decide +kernel
theorem dX0_taken_43 : decode cX0_taken 43 = .ok (.iconst 0, 1) := by decide +kernel
theorem dX0_taken_44 : decode cX0_taken 44 = .ok (.ireturn, 1) := by decide +kernel
theorem dX1_init_0 : decode cX1_init 0 = .ok (.aload_n 0, 1) := by decide +kernel
theorem dX1_init_1 : decode cX1_init 1 = .ok (.invokespecial 3, 3) := by decide +kernel
theorem dX1_init_4 : decode cX1_init 4 = .ok (.aload_n 0, 1) := by decide +kernel
theorem dX1_init_5 : decode cX1_init 5 = .ok (.iload_n 1, 1) := by decide +kernel
theorem dX1_init_6 : decode cX1_init 6 = .ok (.putfield 9, 3) := by decide +kernel
theorem dX1_init_9 : decode cX1_init 9 = .ok (.aload_n 0, 1) := by decide +kernel
theorem dX1_init_10 : decode cX1_init 10 = .ok (.iload_n 2, 1) := by decide +kernel
theorem dX1_init_11 : decode cX1_init 11 = .ok (.putfield 15, 3) := by decide +kernel
theorem dX1_init_14 : decode cX1_init 14 = .ok (.aload_n 0, 1) := by decide +kernel
theorem dX1_init_15 : decode cX1_init 15 = .ok (.aload_n 3, 1) := by decide +kernel
theorem dX1_init_16 : decode cX1_init 16 = .ok (.putfield 18, 3) := by decide +kernel
theorem dX1_init_19 : decode cX1_init 19 = .ok (.aload_n 0, 1) := by decide +kernel
theorem dX1_init_20 : decode cX1_init 20 = .ok (.aload 4, 2) := by decide +kernel
theorem dX1_init_22 : decode cX1_init 22 = .ok (.putfield 22, 3) := by decide +kernel
theorem dX1_init_25 : decode cX1_init 25 = .ok (.return_, 1) := by decide +kernel
theorem dX1_parts_0 : decode cX1_parts 0 = .ok (.aload_n 0, 1) := by decide +kernel
theorem dX1_parts_1 : decode cX1_parts 1 = .ok (.getfield 18, 3) := by decide +kernel
theorem dX1_parts_4 : decode cX1_parts 4 = .ok (.arraylength, 1) := by decide +kernel
theorem dX1_parts_5 : decode cX1_parts 5 = .ok (.iconst 5, 1) := by decide +kernel
theorem dX1_parts_6 : decode cX1_parts 6 = .ok (.idiv, 1) := by decide +kernel
theorem dX1_parts_7 : decode cX1_parts 7 = .ok (.ireturn, 1) := by decide +kernel
theorem dX1_cell_0 : decode cX1_cell 0 = .ok (.iload_n 1, 1) := by decide +kernel
theorem dX1_cell_1 : decode cX1_cell 1 = .ok (.ifCond .lt 33, 3) := by decide +kernel
theorem dX1_cell_4 : decode cX1_cell 4 = .ok (.iload_n 1, 1) := by decide +kernel
theorem dX1_cell_5 : decode cX1_cell 5 = .ok (.aload_n 0, 1) := by decide +kernel
theorem dX1_cell_6 : decode cX1_cell 6 = .ok (.invokevirtual 25, 3) := by decide +kernel
theorem dX1_cell_9 : decode cX1_cell 9 = .ok (.if_icmp .ge 25, 3) := by decide +kernel
theorem dX1_cell_12 : decode cX1_cell 12 = .ok (.iload_n 2, 1) := by decide +kernel
theorem dX1_cell_13 : decode cX1_cell 13 = .ok (.ifCond .lt 21, 3) := by decide +kernel
theorem dX1_cell_16 : decode cX1_cell 16 = .ok (.iload_n 2, 1) := by decide +kernel
theorem dX1_cell_17 : decode cX1_cell 17 = .ok (.iconst 5, 1) := by decide +kernel
theorem dX1_cell_18 : decode cX1_cell 18 = .ok (.if_icmp .ge 16, 3) := by decide +kernel
theorem dX1_cell_21 : decode cX1_cell 21 = .ok (.aload_n 0, 1) := by decide +kernel
theorem dX1_cell_22 : decode cX1_cell 22 = .ok (.getfield 18, 3) := by decide +kernel
theorem dX1_cell_25 : decode cX1_cell 25 = .ok (.iconst 5, 1) := by decide +kernel
theorem dX1_cell_26 : decode cX1_cell 26 = .ok (.iload_n 1, 1) := by decide +kernel
theorem dX1_cell_27 : decode cX1_cell 27 = .ok (.imul, 1) := by decide +kernel
theorem dX1_cell_28 : decode cX1_cell 28 = .ok (.iload_n 2, 1) := by decide +kernel
theorem dX1_cell_29 : decode cX1_cell 29 = .ok (.iadd, 1) := by decide +kernel
theorem dX1_cell_30 : decode cX1_cell 30 = .ok (.iaload, 1) := by decide +kernel
theorem dX1_cell_31 : decode cX1_cell 31 = .ok (.goto 5, 3) := by decide +kernel
theorem dX1_cell_34 : decode cX1_cell 34 = .ok (.ldc 29, 2) := by decide +kernel
theorem dX1_cell_36 : decode cX1_cell 36 = .ok (.ireturn, 1) := by decide +kernel
theorem dX1_startOf_0 : decode cX1_startOf 0 = .ok (.iload_n 1, 1) := by decide +kernel
theorem dX1_startOf_1 : decode cX1_startOf 1 = .ok (.ifCond .lt 21, 3) := by decide +kernel
theorem dX1_startOf_4 : decode cX1_startOf 4 = .ok (.iload_n 1, 1) := by decide +kernel
theorem dX1_startOf_5 : decode cX1_startOf 5 = .ok (.aload_n 0, 1) := by decide +kernel
theorem dX1_startOf_6 : decode cX1_startOf 6 = .ok (.getfield 22, 3) := by decide +kernel
theorem dX1_startOf_9 : decode cX1_startOf 9 = .ok (.arraylength, 1) := by decide +kernel
theorem dX1_startOf_10 : decode cX1_startOf 10 = .ok (.if_icmp .ge 12, 3) := by decide +kernel
theorem dX1_startOf_13 : decode cX1_startOf 13 = .ok (.aload_n 0, 1) := by decide +kernel
theorem dX1_startOf_14 : decode cX1_startOf 14 = .ok (.getfield 22, 3) := by decide +kernel
theorem dX1_startOf_17 : decode cX1_startOf 17 = .ok (.iload_n 1, 1) := by decide +kernel
theorem dX1_startOf_18 : decode cX1_startOf 18 = .ok (.iaload, 1) := by decide +kernel
theorem dX1_startOf_19 : decode cX1_startOf 19 = .ok (.goto 7, 3) := by decide +kernel
theorem dX1_startOf_22 : decode cX1_startOf 22 = .ok (.aload_n 0, 1) := by decide +kernel
theorem dX1_startOf_23 : decode cX1_startOf 23 = .ok (.invokevirtual 25, 3) := by decide +kernel
theorem dX1_startOf_26 : decode cX1_startOf 26 = .ok (.ireturn, 1) := by decide +kernel
theorem dX1_mixedInto_0 : decode cX1_mixedInto 0 = .ok (.iconst 0, 1) := by decide +kernel
theorem dX1_mixedInto_1 : decode cX1_mixedInto 1 = .ok (.istore_n 3, 1) := by decide +kernel
theorem dX1_mixedInto_2 : decode cX1_mixedInto 2 = .ok (.iload_n 3, 1) := by decide +kernel
theorem dX1_mixedInto_3 : decode cX1_mixedInto 3 = .ok (.aload_n 0, 1) := by decide +kernel
theorem dX1_mixedInto_4 : decode cX1_mixedInto 4 = .ok (.getfield 18, 3) := by decide +kernel
theorem dX1_mixedInto_7 : decode cX1_mixedInto 7 = .ok (.arraylength, 1) := by decide +kernel
theorem dX1_mixedInto_8 : decode cX1_mixedInto 8 = .ok (.if_icmp .ge 23, 3) := by decide +kernel
theorem dX1_mixedInto_11 : decode cX1_mixedInto 11 = .ok (.ldc2_w 30, 3) := by decide +kernel
theorem dX1_mixedInto_14 : decode cX1_mixedInto 14 = .ok (.lload_n 1, 1) := by decide +kernel
theorem dX1_mixedInto_15 : decode cX1_mixedInto 15 = .ok (.lmul, 1) := by decide +kernel
theorem dX1_mixedInto_16 : decode cX1_mixedInto 16 = .ok (.aload_n 0, 1) := by decide +kernel
theorem dX1_mixedInto_17 : decode cX1_mixedInto 17 = .ok (.getfield 18, 3) := by decide +kernel
theorem dX1_mixedInto_20 : decode cX1_mixedInto 20 = .ok (.iload_n 3, 1) := by decide +kernel
theorem dX1_mixedInto_21 : decode cX1_mixedInto 21 = .ok (.iaload, 1) := by decide +kernel
theorem dX1_mixedInto_22 : decode cX1_mixedInto 22 = .ok (.i2l, 1) := by decide +kernel
theorem dX1_mixedInto_23 : decode cX1_mixedInto 23 = .ok (.ladd, 1) := by decide +kernel
theorem dX1_mixedInto_24 : decode cX1_mixedInto 24 = .ok (.lstore_n 1, 1) := by decide +kernel
theorem dX1_mixedInto_25 : decode cX1_mixedInto 25 = .ok (.iinc 3 1, 3) := by decide +kernel
theorem dX1_mixedInto_28 : decode cX1_mixedInto 28 = .ok (.goto (-26), 3) := by decide +kernel
theorem dX1_mixedInto_31 : decode cX1_mixedInto 31 = .ok (.lload_n 1, 1) := by decide +kernel
theorem dX1_mixedInto_32 : decode cX1_mixedInto 32 = .ok (.lreturn, 1) := by decide +kernel
theorem dX2_putItem_0 : decode cX2_putItem 0 = .ok (.iload_n 2, 1) := by decide +kernel
theorem dX2_putItem_1 : decode cX2_putItem 1 = .ok (.ifCond .lt 30, 3) := by decide +kernel
theorem dX2_putItem_4 : decode cX2_putItem 4 = .ok (.iload_n 2, 1) := by decide +kernel
theorem dX2_putItem_5 : decode cX2_putItem 5 = .ok (.aload_n 0, 1) := by decide +kernel
theorem dX2_putItem_6 : decode cX2_putItem 6 = .ok (.iload_n 1, 1) := by decide +kernel
theorem dX2_putItem_7 : decode cX2_putItem 7 = .ok (.invokevirtual 30, 3) := by decide +kernel
theorem dX2_putItem_10 : decode cX2_putItem 10 = .ok (.if_icmp .ge 21, 3) := by decide +kernel
theorem dX2_putItem_13 : decode cX2_putItem 13 = .ok (.iload_n 2, 1) := by decide +kernel
theorem dX2_putItem_14 : decode cX2_putItem 14 = .ok (.bipush 20, 2) := by decide +kernel
theorem dX2_putItem_16 : decode cX2_putItem 16 = .ok (.if_icmp .ge 15, 3) := by decide +kernel
theorem dX2_putItem_19 : decode cX2_putItem 19 = .ok (.aload_n 0, 1) := by decide +kernel
theorem dX2_putItem_20 : decode cX2_putItem 20 = .ok (.getfield 18, 3) := by decide +kernel
theorem dX2_putItem_23 : decode cX2_putItem 23 = .ok (.bipush 20, 2) := by decide +kernel
theorem dX2_putItem_25 : decode cX2_putItem 25 = .ok (.iload_n 1, 1) := by decide +kernel
theorem dX2_putItem_26 : decode cX2_putItem 26 = .ok (.imul, 1) := by decide +kernel
theorem dX2_putItem_27 : decode cX2_putItem 27 = .ok (.iload_n 2, 1) := by decide +kernel
theorem dX2_putItem_28 : decode cX2_putItem 28 = .ok (.iadd, 1) := by decide +kernel
theorem dX2_putItem_29 : decode cX2_putItem 29 = .ok (.iload_n 3, 1) := by decide +kernel
theorem dX2_putItem_30 : decode cX2_putItem 30 = .ok (.iastore, 1) := by decide +kernel
theorem dX2_putItem_31 : decode cX2_putItem 31 = .ok (.return_, 1) := by decide +kernel
theorem dX3_clear_0 : decode cX3_clear 0 = .ok (.aload_n 0, 1) := by decide +kernel
theorem dX3_clear_1 : decode cX3_clear 1 = .ok (.iconst 0, 1) := by decide +kernel
theorem dX3_clear_2 : decode cX3_clear 2 = .ok (.putfield 18, 3) := by decide +kernel
theorem dX3_clear_5 : decode cX3_clear 5 = .ok (.aload_n 0, 1) := by decide +kernel
theorem dX3_clear_6 : decode cX3_clear 6 = .ok (.getfield 15, 3) := by decide +kernel
theorem dX3_clear_9 : decode cX3_clear 9 = .ok (.iconst 0, 1) := by decide +kernel
theorem dX3_clear_10 : decode cX3_clear 10 = .ok (.invokestatic 22, 3) := by decide +kernel
theorem dX3_clear_13 : decode cX3_clear 13 = .ok (.return_, 1) := by decide +kernel
theorem dX3_parts_0 : decode cX3_parts 0 = .ok (.aload_n 0, 1) := by decide +kernel
theorem dX3_parts_1 : decode cX3_parts 1 = .ok (.getfield 18, 3) := by decide +kernel
theorem dX3_parts_4 : decode cX3_parts 4 = .ok (.ireturn, 1) := by decide +kernel
theorem dX3_begin_0 : decode cX3_begin 0 = .ok (.iload_n 1, 1) := by decide +kernel
theorem dX3_begin_1 : decode cX3_begin 1 = .ok (.ifCond .lt 19, 3) := by decide +kernel
theorem dX3_begin_4 : decode cX3_begin 4 = .ok (.iload_n 1, 1) := by decide +kernel
theorem dX3_begin_5 : decode cX3_begin 5 = .ok (.bipush 60, 2) := by decide +kernel
theorem dX3_begin_7 : decode cX3_begin 7 = .ok (.if_icmp .ge 13, 3) := by decide +kernel
theorem dX3_begin_10 : decode cX3_begin 10 = .ok (.aload_n 0, 1) := by decide +kernel
theorem dX3_begin_11 : decode cX3_begin 11 = .ok (.getfield 15, 3) := by decide +kernel
theorem dX3_begin_14 : decode cX3_begin 14 = .ok (.iload_n 1, 1) := by decide +kernel
theorem dX3_begin_15 : decode cX3_begin 15 = .ok (.aload_n 0, 1) := by decide +kernel
theorem dX3_begin_16 : decode cX3_begin 16 = .ok (.getfield 18, 3) := by decide +kernel
theorem dX3_begin_19 : decode cX3_begin 19 = .ok (.iastore, 1) := by decide +kernel
theorem dX3_begin_20 : decode cX3_begin 20 = .ok (.return_, 1) := by decide +kernel
theorem dX3_add_0 : decode cX3_add 0 = .ok (.iconst 5, 1) := by decide +kernel
theorem dX3_add_1 : decode cX3_add 1 = .ok (.aload_n 0, 1) := by decide +kernel
theorem dX3_add_2 : decode cX3_add 2 = .ok (.getfield 18, 3) := by decide +kernel
theorem dX3_add_5 : decode cX3_add 5 = .ok (.imul, 1) := by decide +kernel
theorem dX3_add_6 : decode cX3_add 6 = .ok (.istore 6, 2) := by decide +kernel
theorem dX3_add_8 : decode cX3_add 8 = .ok (.iload 6, 2) := by decide +kernel
theorem dX3_add_10 : decode cX3_add 10 = .ok (.ifCond .lt 15, 3) := by decide +kernel
theorem dX3_add_13 : decode cX3_add 13 = .ok (.iload 6, 2) := by decide +kernel
theorem dX3_add_15 : decode cX3_add 15 = .ok (.iconst 5, 1) := by decide +kernel
theorem dX3_add_16 : decode cX3_add 16 = .ok (.iadd, 1) := by decide +kernel
theorem dX3_add_17 : decode cX3_add 17 = .ok (.aload_n 0, 1) := by decide +kernel
theorem dX3_add_18 : decode cX3_add 18 = .ok (.getfield 9, 3) := by decide +kernel
theorem dX3_add_21 : decode cX3_add 21 = .ok (.arraylength, 1) := by decide +kernel
theorem dX3_add_22 : decode cX3_add 22 = .ok (.if_icmp .le 4, 3) := by decide +kernel
theorem dX3_add_25 : decode cX3_add 25 = .ok (.return_, 1) := by decide +kernel
theorem dX3_add_26 : decode cX3_add 26 = .ok (.aload_n 0, 1) := by decide +kernel
theorem dX3_add_27 : decode cX3_add 27 = .ok (.getfield 9, 3) := by decide +kernel
theorem dX3_add_30 : decode cX3_add 30 = .ok (.iload 6, 2) := by decide +kernel
theorem dX3_add_32 : decode cX3_add 32 = .ok (.iload_n 1, 1) := by decide +kernel
theorem dX3_add_33 : decode cX3_add 33 = .ok (.iastore, 1) := by decide +kernel
theorem dX3_add_34 : decode cX3_add 34 = .ok (.aload_n 0, 1) := by decide +kernel
theorem dX3_add_35 : decode cX3_add 35 = .ok (.getfield 9, 3) := by decide +kernel
theorem dX3_add_38 : decode cX3_add 38 = .ok (.iload 6, 2) := by decide +kernel
theorem dX3_add_40 : decode cX3_add 40 = .ok (.iconst 1, 1) := by decide +kernel
theorem dX3_add_41 : decode cX3_add 41 = .ok (.iadd, 1) := by decide +kernel
theorem dX3_add_42 : decode cX3_add 42 = .ok (.iload_n 2, 1) := by decide +kernel
theorem dX3_add_43 : decode cX3_add 43 = .ok (.iastore, 1) := by decide +kernel
theorem dX3_add_44 : decode cX3_add 44 = .ok (.aload_n 0, 1) := by decide +kernel
theorem dX3_add_45 : decode cX3_add 45 = .ok (.getfield 9, 3) := by decide +kernel
theorem dX3_add_48 : decode cX3_add 48 = .ok (.iload 6, 2) := by decide +kernel
theorem dX3_add_50 : decode cX3_add 50 = .ok (.iconst 2, 1) := by decide +kernel
theorem dX3_add_51 : decode cX3_add 51 = .ok (.iadd, 1) := by decide +kernel
theorem dX3_add_52 : decode cX3_add 52 = .ok (.iload_n 3, 1) := by decide +kernel
theorem dX3_add_53 : decode cX3_add 53 = .ok (.iastore, 1) := by decide +kernel
theorem dX3_add_54 : decode cX3_add 54 = .ok (.aload_n 0, 1) := by decide +kernel
theorem dX3_add_55 : decode cX3_add 55 = .ok (.getfield 9, 3) := by decide +kernel
theorem dX3_add_58 : decode cX3_add 58 = .ok (.iload 6, 2) := by decide +kernel
theorem dX3_add_60 : decode cX3_add 60 = .ok (.iconst 3, 1) := by decide +kernel
theorem dX3_add_61 : decode cX3_add 61 = .ok (.iadd, 1) := by decide +kernel
theorem dX3_add_62 : decode cX3_add 62 = .ok (.iload 4, 2) := by decide +kernel
theorem dX3_add_64 : decode cX3_add 64 = .ok (.iastore, 1) := by decide +kernel
theorem dX3_add_65 : decode cX3_add 65 = .ok (.aload_n 0, 1) := by decide +kernel
theorem dX3_add_66 : decode cX3_add 66 = .ok (.getfield 9, 3) := by decide +kernel
theorem dX3_add_69 : decode cX3_add 69 = .ok (.iload 6, 2) := by decide +kernel
theorem dX3_add_71 : decode cX3_add 71 = .ok (.iconst 4, 1) := by decide +kernel
theorem dX3_add_72 : decode cX3_add 72 = .ok (.iadd, 1) := by decide +kernel
theorem dX3_add_73 : decode cX3_add 73 = .ok (.iload 5, 2) := by decide +kernel
theorem dX3_add_75 : decode cX3_add 75 = .ok (.iastore, 1) := by decide +kernel
theorem dX3_add_76 : decode cX3_add 76 = .ok (.aload_n 0, 1) := by decide +kernel
theorem dX3_add_77 : decode cX3_add 77 = .ok (.dup, 1) := by decide +kernel
theorem dX3_add_78 : decode cX3_add 78 = .ok (.getfield 18, 3) := by decide +kernel
theorem dX3_add_81 : decode cX3_add 81 = .ok (.iconst 1, 1) := by decide +kernel
theorem dX3_add_82 : decode cX3_add 82 = .ok (.iadd, 1) := by decide +kernel
theorem dX3_add_83 : decode cX3_add 83 = .ok (.putfield 18, 3) := by decide +kernel
theorem dX3_add_86 : decode cX3_add 86 = .ok (.return_, 1) := by decide +kernel
theorem dX3_addTemplate_0 : decode cX3_addTemplate 0 = .ok (.aload_n 1, 1) := by decide +kernel
theorem dX3_addTemplate_1 : decode cX3_addTemplate 1 = .ok (.iload_n 2, 1) := by decide +kernel
theorem dX3_addTemplate_2 : decode cX3_addTemplate 2 = .ok (.invokevirtual 28, 3) := by decide +kernel
theorem dX3_addTemplate_5 : decode cX3_addTemplate 5 = .ok (.istore_n 3, 1) := by decide +kernel
theorem dX3_addTemplate_6 : decode cX3_addTemplate 6 = .ok (.aload_n 1, 1) := by decide +kernel
theorem dX3_addTemplate_7 : decode cX3_addTemplate 7 = .ok (.iload_n 2, 1) := by decide +kernel
theorem dX3_addTemplate_8 : decode cX3_addTemplate 8 = .ok (.invokevirtual 34, 3) := by decide +kernel
theorem dX3_addTemplate_11 : decode cX3_addTemplate 11 = .ok (.istore 4, 2) := by decide +kernel
theorem dX3_addTemplate_13 : decode cX3_addTemplate 13 = .ok (.bipush 7, 2) := by decide +kernel
theorem dX3_addTemplate_15 : decode cX3_addTemplate 15 = .ok (.aload_n 1, 1) := by decide +kernel
theorem dX3_addTemplate_16 : decode cX3_addTemplate 16 = .ok (.iload_n 2, 1) := by decide +kernel
theorem dX3_addTemplate_17 : decode cX3_addTemplate 17 = .ok (.invokevirtual 37, 3) := by decide +kernel
theorem dX3_addTemplate_20 : decode cX3_addTemplate 20 = .ok (.iadd, 1) := by decide +kernel
theorem dX3_addTemplate_21 : decode cX3_addTemplate 21 = .ok (.istore 5, 2) := by decide +kernel
theorem dX3_addTemplate_23 : decode cX3_addTemplate 23 = .ok (.iload_n 3, 1) := by decide +kernel
theorem dX3_addTemplate_24 : decode cX3_addTemplate 24 = .ok (.tableswitch 231 0 19 #[96, 110, 124, 231, 231, 231, 231, 231, 231, 140, 154, 171, 196, 231, 231, 231, 231, 231, 215, 212], 96) := by decide +kernel
theorem dX3_addTemplate_120 : decode cX3_addTemplate 120 = .ok (.aload_n 0, 1) := by decide +kernel
theorem dX3_addTemplate_121 : decode cX3_addTemplate 121 = .ok (.iconst 0, 1) := by decide +kernel
theorem dX3_addTemplate_122 : decode cX3_addTemplate 122 = .ok (.iload 5, 2) := by decide +kernel
theorem dX3_addTemplate_124 : decode cX3_addTemplate 124 = .ok (.iload 4, 2) := by decide +kernel
theorem dX3_addTemplate_126 : decode cX3_addTemplate 126 = .ok (.iconst 0, 1) := by decide +kernel
theorem dX3_addTemplate_127 : decode cX3_addTemplate 127 = .ok (.iload_n 2, 1) := by decide +kernel
theorem dX3_addTemplate_128 : decode cX3_addTemplate 128 = .ok (.invokevirtual 40, 3) := by decide +kernel
theorem dX3_addTemplate_131 : decode cX3_addTemplate 131 = .ok (.goto 134, 3) := by decide +kernel
theorem dX3_addTemplate_134 : decode cX3_addTemplate 134 = .ok (.aload_n 0, 1) := by decide +kernel
theorem dX3_addTemplate_135 : decode cX3_addTemplate 135 = .ok (.iconst 1, 1) := by decide +kernel
theorem dX3_addTemplate_136 : decode cX3_addTemplate 136 = .ok (.iload 5, 2) := by decide +kernel
theorem dX3_addTemplate_138 : decode cX3_addTemplate 138 = .ok (.iload 4, 2) := by decide +kernel
theorem dX3_addTemplate_140 : decode cX3_addTemplate 140 = .ok (.iconst 0, 1) := by decide +kernel
theorem dX3_addTemplate_141 : decode cX3_addTemplate 141 = .ok (.iload_n 2, 1) := by decide +kernel
theorem dX3_addTemplate_142 : decode cX3_addTemplate 142 = .ok (.invokevirtual 40, 3) := by decide +kernel
theorem dX3_addTemplate_145 : decode cX3_addTemplate 145 = .ok (.goto 120, 3) := by decide +kernel
theorem dX3_addTemplate_148 : decode cX3_addTemplate 148 = .ok (.aload_n 0, 1) := by decide +kernel
theorem dX3_addTemplate_149 : decode cX3_addTemplate 149 = .ok (.iconst 1, 1) := by decide +kernel
theorem dX3_addTemplate_150 : decode cX3_addTemplate 150 = .ok (.iload 4, 2) := by decide +kernel
theorem dX3_addTemplate_152 : decode cX3_addTemplate 152 = .ok (.iload 5, 2) := by decide +kernel
theorem dX3_addTemplate_154 : decode cX3_addTemplate 154 = .ok (.iconst 1, 1) := by decide +kernel
theorem dX3_addTemplate_155 : decode cX3_addTemplate 155 = .ok (.isub, 1) := by decide +kernel
theorem dX3_addTemplate_156 : decode cX3_addTemplate 156 = .ok (.iconst 0, 1) := by decide +kernel
theorem dX3_addTemplate_157 : decode cX3_addTemplate 157 = .ok (.iload_n 2, 1) := by decide +kernel
theorem dX3_addTemplate_158 : decode cX3_addTemplate 158 = .ok (.invokevirtual 40, 3) := by decide +kernel
theorem dX3_addTemplate_161 : decode cX3_addTemplate 161 = .ok (.goto 104, 3) := by decide +kernel
theorem dX3_addTemplate_164 : decode cX3_addTemplate 164 = .ok (.aload_n 0, 1) := by decide +kernel
theorem dX3_addTemplate_165 : decode cX3_addTemplate 165 = .ok (.bipush 8, 2) := by decide +kernel
theorem dX3_addTemplate_167 : decode cX3_addTemplate 167 = .ok (.iload 4, 2) := by decide +kernel
theorem dX3_addTemplate_169 : decode cX3_addTemplate 169 = .ok (.iconst 0, 1) := by decide +kernel
theorem dX3_addTemplate_170 : decode cX3_addTemplate 170 = .ok (.iconst 0, 1) := by decide +kernel
theorem dX3_addTemplate_171 : decode cX3_addTemplate 171 = .ok (.iload_n 2, 1) := by decide +kernel
theorem dX3_addTemplate_172 : decode cX3_addTemplate 172 = .ok (.invokevirtual 40, 3) := by decide +kernel
theorem dX3_addTemplate_175 : decode cX3_addTemplate 175 = .ok (.goto 90, 3) := by decide +kernel
theorem dX3_addTemplate_178 : decode cX3_addTemplate 178 = .ok (.aload_n 0, 1) := by decide +kernel
theorem dX3_addTemplate_179 : decode cX3_addTemplate 179 = .ok (.bipush 9, 2) := by decide +kernel
theorem dX3_addTemplate_181 : decode cX3_addTemplate 181 = .ok (.iload 4, 2) := by decide +kernel
theorem dX3_addTemplate_183 : decode cX3_addTemplate 183 = .ok (.iload 5, 2) := by decide +kernel
theorem dX3_addTemplate_185 : decode cX3_addTemplate 185 = .ok (.iconst 1, 1) := by decide +kernel
theorem dX3_addTemplate_186 : decode cX3_addTemplate 186 = .ok (.isub, 1) := by decide +kernel
theorem dX3_addTemplate_187 : decode cX3_addTemplate 187 = .ok (.iconst 0, 1) := by decide +kernel
theorem dX3_addTemplate_188 : decode cX3_addTemplate 188 = .ok (.iload_n 2, 1) := by decide +kernel
theorem dX3_addTemplate_189 : decode cX3_addTemplate 189 = .ok (.invokevirtual 40, 3) := by decide +kernel
theorem dX3_addTemplate_192 : decode cX3_addTemplate 192 = .ok (.goto 73, 3) := by decide +kernel
theorem dX3_addTemplate_195 : decode cX3_addTemplate 195 = .ok (.aload_n 0, 1) := by decide +kernel
theorem dX3_addTemplate_196 : decode cX3_addTemplate 196 = .ok (.bipush 10, 2) := by decide +kernel
theorem dX3_addTemplate_198 : decode cX3_addTemplate 198 = .ok (.bipush 7, 2) := by decide +kernel
theorem dX3_addTemplate_200 : decode cX3_addTemplate 200 = .ok (.aload_n 1, 1) := by decide +kernel
theorem dX3_addTemplate_201 : decode cX3_addTemplate 201 = .ok (.iload_n 2, 1) := by decide +kernel
theorem dX3_addTemplate_202 : decode cX3_addTemplate 202 = .ok (.iconst 1, 1) := by decide +kernel
theorem dX3_addTemplate_203 : decode cX3_addTemplate 203 = .ok (.iadd, 1) := by decide +kernel
theorem dX3_addTemplate_204 : decode cX3_addTemplate 204 = .ok (.invokevirtual 37, 3) := by decide +kernel
theorem dX3_addTemplate_207 : decode cX3_addTemplate 207 = .ok (.iadd, 1) := by decide +kernel
theorem dX3_addTemplate_208 : decode cX3_addTemplate 208 = .ok (.iconst 1, 1) := by decide +kernel
theorem dX3_addTemplate_209 : decode cX3_addTemplate 209 = .ok (.isub, 1) := by decide +kernel
theorem dX3_addTemplate_210 : decode cX3_addTemplate 210 = .ok (.iload 4, 2) := by decide +kernel
theorem dX3_addTemplate_212 : decode cX3_addTemplate 212 = .ok (.iconst 0, 1) := by decide +kernel
theorem dX3_addTemplate_213 : decode cX3_addTemplate 213 = .ok (.iload_n 2, 1) := by decide +kernel
theorem dX3_addTemplate_214 : decode cX3_addTemplate 214 = .ok (.invokevirtual 40, 3) := by decide +kernel
theorem dX3_addTemplate_217 : decode cX3_addTemplate 217 = .ok (.goto 48, 3) := by decide +kernel
theorem dX3_addTemplate_220 : decode cX3_addTemplate 220 = .ok (.aload_n 0, 1) := by decide +kernel
theorem dX3_addTemplate_221 : decode cX3_addTemplate 221 = .ok (.bipush 11, 2) := by decide +kernel
theorem dX3_addTemplate_223 : decode cX3_addTemplate 223 = .ok (.iconst 0, 1) := by decide +kernel
theorem dX3_addTemplate_224 : decode cX3_addTemplate 224 = .ok (.iload 5, 2) := by decide +kernel
theorem dX3_addTemplate_226 : decode cX3_addTemplate 226 = .ok (.iconst 1, 1) := by decide +kernel
theorem dX3_addTemplate_227 : decode cX3_addTemplate 227 = .ok (.isub, 1) := by decide +kernel
theorem dX3_addTemplate_228 : decode cX3_addTemplate 228 = .ok (.iconst 0, 1) := by decide +kernel
theorem dX3_addTemplate_229 : decode cX3_addTemplate 229 = .ok (.iload_n 2, 1) := by decide +kernel
theorem dX3_addTemplate_230 : decode cX3_addTemplate 230 = .ok (.invokevirtual 40, 3) := by decide +kernel
theorem dX3_addTemplate_233 : decode cX3_addTemplate 233 = .ok (.goto 32, 3) := by decide +kernel
theorem dX3_addTemplate_236 : decode cX3_addTemplate 236 = .ok (.goto 29, 3) := by decide +kernel
theorem dX3_addTemplate_239 : decode cX3_addTemplate 239 = .ok (.aload_n 0, 1) := by decide +kernel
theorem dX3_addTemplate_240 : decode cX3_addTemplate 240 = .ok (.iconst 1, 1) := by decide +kernel
theorem dX3_addTemplate_241 : decode cX3_addTemplate 241 = .ok (.iload 5, 2) := by decide +kernel
theorem dX3_addTemplate_243 : decode cX3_addTemplate 243 = .ok (.iload 5, 2) := by decide +kernel
theorem dX3_addTemplate_245 : decode cX3_addTemplate 245 = .ok (.iconst 1, 1) := by decide +kernel
theorem dX3_addTemplate_246 : decode cX3_addTemplate 246 = .ok (.isub, 1) := by decide +kernel
theorem dX3_addTemplate_247 : decode cX3_addTemplate 247 = .ok (.iconst 0, 1) := by decide +kernel
theorem dX3_addTemplate_248 : decode cX3_addTemplate 248 = .ok (.iload_n 2, 1) := by decide +kernel
theorem dX3_addTemplate_249 : decode cX3_addTemplate 249 = .ok (.invokevirtual 40, 3) := by decide +kernel
theorem dX3_addTemplate_252 : decode cX3_addTemplate 252 = .ok (.goto 13, 3) := by decide +kernel
theorem dX3_addTemplate_255 : decode cX3_addTemplate 255 = .ok (.aload_n 0, 1) := by decide +kernel
theorem dX3_addTemplate_256 : decode cX3_addTemplate 256 = .ok (.iload_n 3, 1) := by decide +kernel
theorem dX3_addTemplate_257 : decode cX3_addTemplate 257 = .ok (.iload 4, 2) := by decide +kernel
theorem dX3_addTemplate_259 : decode cX3_addTemplate 259 = .ok (.iload 5, 2) := by decide +kernel
theorem dX3_addTemplate_261 : decode cX3_addTemplate 261 = .ok (.iload_n 2, 1) := by decide +kernel
theorem dX3_addTemplate_262 : decode cX3_addTemplate 262 = .ok (.invokevirtual 44, 3) := by decide +kernel
theorem dX3_addTemplate_265 : decode cX3_addTemplate 265 = .ok (.return_, 1) := by decide +kernel
theorem dX3_addReckoning_0 : decode cX3_addReckoning 0 = .ok (.iload_n 1, 1) := by decide +kernel
theorem dX3_addReckoning_1 : decode cX3_addReckoning 1 = .ok (.tableswitch 117 13 17 #[35, 49, 65, 81, 99], 35) := by decide +kernel
theorem dX3_addReckoning_36 : decode cX3_addReckoning 36 = .ok (.aload_n 0, 1) := by decide +kernel
theorem dX3_addReckoning_37 : decode cX3_addReckoning 37 = .ok (.bipush 12, 2) := by decide +kernel
theorem dX3_addReckoning_39 : decode cX3_addReckoning 39 = .ok (.iload_n 3, 1) := by decide +kernel
theorem dX3_addReckoning_40 : decode cX3_addReckoning 40 = .ok (.iload_n 2, 1) := by decide +kernel
theorem dX3_addReckoning_41 : decode cX3_addReckoning 41 = .ok (.iconst 0, 1) := by decide +kernel
theorem dX3_addReckoning_42 : decode cX3_addReckoning 42 = .ok (.iload 4, 2) := by decide +kernel
theorem dX3_addReckoning_44 : decode cX3_addReckoning 44 = .ok (.invokevirtual 40, 3) := by decide +kernel
theorem dX3_addReckoning_47 : decode cX3_addReckoning 47 = .ok (.goto 91, 3) := by decide +kernel
theorem dX3_addReckoning_50 : decode cX3_addReckoning 50 = .ok (.aload_n 0, 1) := by decide +kernel
theorem dX3_addReckoning_51 : decode cX3_addReckoning 51 = .ok (.bipush 13, 2) := by decide +kernel
theorem dX3_addReckoning_53 : decode cX3_addReckoning 53 = .ok (.iload_n 2, 1) := by decide +kernel
theorem dX3_addReckoning_54 : decode cX3_addReckoning 54 = .ok (.iload_n 3, 1) := by decide +kernel
theorem dX3_addReckoning_55 : decode cX3_addReckoning 55 = .ok (.iconst 1, 1) := by decide +kernel
theorem dX3_addReckoning_56 : decode cX3_addReckoning 56 = .ok (.isub, 1) := by decide +kernel
theorem dX3_addReckoning_57 : decode cX3_addReckoning 57 = .ok (.iconst 0, 1) := by decide +kernel
theorem dX3_addReckoning_58 : decode cX3_addReckoning 58 = .ok (.iload 4, 2) := by decide +kernel
theorem dX3_addReckoning_60 : decode cX3_addReckoning 60 = .ok (.invokevirtual 40, 3) := by decide +kernel
theorem dX3_addReckoning_63 : decode cX3_addReckoning 63 = .ok (.goto 75, 3) := by decide +kernel
theorem dX3_addReckoning_66 : decode cX3_addReckoning 66 = .ok (.aload_n 0, 1) := by decide +kernel
theorem dX3_addReckoning_67 : decode cX3_addReckoning 67 = .ok (.bipush 14, 2) := by decide +kernel
theorem dX3_addReckoning_69 : decode cX3_addReckoning 69 = .ok (.iload_n 2, 1) := by decide +kernel
theorem dX3_addReckoning_70 : decode cX3_addReckoning 70 = .ok (.iload_n 3, 1) := by decide +kernel
theorem dX3_addReckoning_71 : decode cX3_addReckoning 71 = .ok (.iconst 1, 1) := by decide +kernel
theorem dX3_addReckoning_72 : decode cX3_addReckoning 72 = .ok (.isub, 1) := by decide +kernel
theorem dX3_addReckoning_73 : decode cX3_addReckoning 73 = .ok (.iconst 0, 1) := by decide +kernel
theorem dX3_addReckoning_74 : decode cX3_addReckoning 74 = .ok (.iload 4, 2) := by decide +kernel
theorem dX3_addReckoning_76 : decode cX3_addReckoning 76 = .ok (.invokevirtual 40, 3) := by decide +kernel
theorem dX3_addReckoning_79 : decode cX3_addReckoning 79 = .ok (.goto 59, 3) := by decide +kernel
theorem dX3_addReckoning_82 : decode cX3_addReckoning 82 = .ok (.aload_n 0, 1) := by decide +kernel
theorem dX3_addReckoning_83 : decode cX3_addReckoning 83 = .ok (.bipush 15, 2) := by decide +kernel
theorem dX3_addReckoning_85 : decode cX3_addReckoning 85 = .ok (.iload_n 3, 1) := by decide +kernel
theorem dX3_addReckoning_86 : decode cX3_addReckoning 86 = .ok (.iconst 1, 1) := by decide +kernel
theorem dX3_addReckoning_87 : decode cX3_addReckoning 87 = .ok (.isub, 1) := by decide +kernel
theorem dX3_addReckoning_88 : decode cX3_addReckoning 88 = .ok (.iload_n 2, 1) := by decide +kernel
theorem dX3_addReckoning_89 : decode cX3_addReckoning 89 = .ok (.iload_n 3, 1) := by decide +kernel
theorem dX3_addReckoning_90 : decode cX3_addReckoning 90 = .ok (.iconst 1, 1) := by decide +kernel
theorem dX3_addReckoning_91 : decode cX3_addReckoning 91 = .ok (.isub, 1) := by decide +kernel
theorem dX3_addReckoning_92 : decode cX3_addReckoning 92 = .ok (.iload 4, 2) := by decide +kernel
theorem dX3_addReckoning_94 : decode cX3_addReckoning 94 = .ok (.invokevirtual 40, 3) := by decide +kernel
theorem dX3_addReckoning_97 : decode cX3_addReckoning 97 = .ok (.goto 41, 3) := by decide +kernel
theorem dX3_addReckoning_100 : decode cX3_addReckoning 100 = .ok (.aload_n 0, 1) := by decide +kernel
theorem dX3_addReckoning_101 : decode cX3_addReckoning 101 = .ok (.bipush 16, 2) := by decide +kernel
theorem dX3_addReckoning_103 : decode cX3_addReckoning 103 = .ok (.iload_n 2, 1) := by decide +kernel
theorem dX3_addReckoning_104 : decode cX3_addReckoning 104 = .ok (.iload_n 3, 1) := by decide +kernel
theorem dX3_addReckoning_105 : decode cX3_addReckoning 105 = .ok (.iconst 2, 1) := by decide +kernel
theorem dX3_addReckoning_106 : decode cX3_addReckoning 106 = .ok (.isub, 1) := by decide +kernel
theorem dX3_addReckoning_107 : decode cX3_addReckoning 107 = .ok (.iload_n 3, 1) := by decide +kernel
theorem dX3_addReckoning_108 : decode cX3_addReckoning 108 = .ok (.iconst 1, 1) := by decide +kernel
theorem dX3_addReckoning_109 : decode cX3_addReckoning 109 = .ok (.isub, 1) := by decide +kernel
theorem dX3_addReckoning_110 : decode cX3_addReckoning 110 = .ok (.iload 4, 2) := by decide +kernel
theorem dX3_addReckoning_112 : decode cX3_addReckoning 112 = .ok (.invokevirtual 40, 3) := by decide +kernel
theorem dX3_addReckoning_115 : decode cX3_addReckoning 115 = .ok (.goto 23, 3) := by decide +kernel
theorem dX3_addReckoning_118 : decode cX3_addReckoning 118 = .ok (.aload_n 0, 1) := by decide +kernel
theorem dX3_addReckoning_119 : decode cX3_addReckoning 119 = .ok (.iload_n 1, 1) := by decide +kernel
theorem dX3_addReckoning_120 : decode cX3_addReckoning 120 = .ok (.iconst 3, 1) := by decide +kernel
theorem dX3_addReckoning_121 : decode cX3_addReckoning 121 = .ok (.isub, 1) := by decide +kernel
theorem dX3_addReckoning_122 : decode cX3_addReckoning 122 = .ok (.iconst 2, 1) := by decide +kernel
theorem dX3_addReckoning_123 : decode cX3_addReckoning 123 = .ok (.iadd, 1) := by decide +kernel
theorem dX3_addReckoning_124 : decode cX3_addReckoning 124 = .ok (.iload_n 3, 1) := by decide +kernel
theorem dX3_addReckoning_125 : decode cX3_addReckoning 125 = .ok (.iconst 2, 1) := by decide +kernel
theorem dX3_addReckoning_126 : decode cX3_addReckoning 126 = .ok (.isub, 1) := by decide +kernel
theorem dX3_addReckoning_127 : decode cX3_addReckoning 127 = .ok (.iload_n 3, 1) := by decide +kernel
theorem dX3_addReckoning_128 : decode cX3_addReckoning 128 = .ok (.iconst 2, 1) := by decide +kernel
theorem dX3_addReckoning_129 : decode cX3_addReckoning 129 = .ok (.isub, 1) := by decide +kernel
theorem dX3_addReckoning_130 : decode cX3_addReckoning 130 = .ok (.iload_n 3, 1) := by decide +kernel
theorem dX3_addReckoning_131 : decode cX3_addReckoning 131 = .ok (.iconst 1, 1) := by decide +kernel
theorem dX3_addReckoning_132 : decode cX3_addReckoning 132 = .ok (.isub, 1) := by decide +kernel
theorem dX3_addReckoning_133 : decode cX3_addReckoning 133 = .ok (.iload 4, 2) := by decide +kernel
theorem dX3_addReckoning_135 : decode cX3_addReckoning 135 = .ok (.invokevirtual 40, 3) := by decide +kernel
theorem dX3_addReckoning_138 : decode cX3_addReckoning 138 = .ok (.return_, 1) := by decide +kernel
theorem dX3_finish_0 : decode cX3_finish 0 = .ok (.aload_n 0, 1) := by decide +kernel
theorem dX3_finish_1 : decode cX3_finish 1 = .ok (.getfield 9, 3) := by decide +kernel
theorem dX3_finish_4 : decode cX3_finish 4 = .ok (.iconst 5, 1) := by decide +kernel
theorem dX3_finish_5 : decode cX3_finish 5 = .ok (.aload_n 0, 1) := by decide +kernel
theorem dX3_finish_6 : decode cX3_finish 6 = .ok (.getfield 18, 3) := by decide +kernel
theorem dX3_finish_9 : decode cX3_finish 9 = .ok (.iconst 0, 1) := by decide +kernel
theorem dX3_finish_10 : decode cX3_finish 10 = .ok (.invokestatic 48, 3) := by decide +kernel
theorem dX3_finish_13 : decode cX3_finish 13 = .ok (.imul, 1) := by decide +kernel
theorem dX3_finish_14 : decode cX3_finish 14 = .ok (.invokestatic 54, 3) := by decide +kernel
theorem dX3_finish_17 : decode cX3_finish 17 = .ok (.astore 4, 2) := by decide +kernel
theorem dX3_finish_19 : decode cX3_finish 19 = .ok (.new 58, 3) := by decide +kernel
theorem dX3_finish_22 : decode cX3_finish 22 = .ok (.dup, 1) := by decide +kernel
theorem dX3_finish_23 : decode cX3_finish 23 = .ok (.iload_n 1, 1) := by decide +kernel
theorem dX3_finish_24 : decode cX3_finish 24 = .ok (.iload_n 2, 1) := by decide +kernel
theorem dX3_finish_25 : decode cX3_finish 25 = .ok (.aload 4, 2) := by decide +kernel
theorem dX3_finish_27 : decode cX3_finish 27 = .ok (.aload_n 0, 1) := by decide +kernel
theorem dX3_finish_28 : decode cX3_finish 28 = .ok (.getfield 15, 3) := by decide +kernel
theorem dX3_finish_31 : decode cX3_finish 31 = .ok (.iload_n 3, 1) := by decide +kernel
theorem dX3_finish_32 : decode cX3_finish 32 = .ok (.iconst 0, 1) := by decide +kernel
theorem dX3_finish_33 : decode cX3_finish 33 = .ok (.invokestatic 48, 3) := by decide +kernel
theorem dX3_finish_36 : decode cX3_finish 36 = .ok (.invokestatic 54, 3) := by decide +kernel
theorem dX3_finish_39 : decode cX3_finish 39 = .ok (.invokespecial 60, 3) := by decide +kernel
theorem dX3_finish_42 : decode cX3_finish 42 = .ok (.areturn, 1) := by decide +kernel
theorem dX4_clear_0 : decode cX4_clear 0 = .ok (.aload_n 0, 1) := by decide +kernel
theorem dX4_clear_1 : decode cX4_clear 1 = .ok (.getfield 9, 3) := by decide +kernel
theorem dX4_clear_4 : decode cX4_clear 4 = .ok (.iconst 0, 1) := by decide +kernel
theorem dX4_clear_5 : decode cX4_clear 5 = .ok (.invokestatic 15, 3) := by decide +kernel
theorem dX4_clear_8 : decode cX4_clear 8 = .ok (.return_, 1) := by decide +kernel
theorem dX4_valueOf_0 : decode cX4_valueOf 0 = .ok (.iload_n 1, 1) := by decide +kernel
theorem dX4_valueOf_1 : decode cX4_valueOf 1 = .ok (.ifCond .lt 18, 3) := by decide +kernel
theorem dX4_valueOf_4 : decode cX4_valueOf 4 = .ok (.iload_n 1, 1) := by decide +kernel
theorem dX4_valueOf_5 : decode cX4_valueOf 5 = .ok (.bipush 15, 2) := by decide +kernel
theorem dX4_valueOf_7 : decode cX4_valueOf 7 = .ok (.if_icmp .ge 12, 3) := by decide +kernel
theorem dX4_valueOf_10 : decode cX4_valueOf 10 = .ok (.aload_n 0, 1) := by decide +kernel
theorem dX4_valueOf_11 : decode cX4_valueOf 11 = .ok (.getfield 9, 3) := by decide +kernel
theorem dX4_valueOf_14 : decode cX4_valueOf 14 = .ok (.iload_n 1, 1) := by decide +kernel
theorem dX4_valueOf_15 : decode cX4_valueOf 15 = .ok (.iaload, 1) := by decide +kernel
theorem dX4_valueOf_16 : decode cX4_valueOf 16 = .ok (.goto 4, 3) := by decide +kernel
theorem dX4_valueOf_19 : decode cX4_valueOf 19 = .ok (.iconst 0, 1) := by decide +kernel
theorem dX4_valueOf_20 : decode cX4_valueOf 20 = .ok (.ireturn, 1) := by decide +kernel
theorem dX4_put_0 : decode cX4_put 0 = .ok (.iload_n 1, 1) := by decide +kernel
theorem dX4_put_1 : decode cX4_put 1 = .ok (.ifCond .lt 16, 3) := by decide +kernel
theorem dX4_put_4 : decode cX4_put 4 = .ok (.iload_n 1, 1) := by decide +kernel
theorem dX4_put_5 : decode cX4_put 5 = .ok (.bipush 15, 2) := by decide +kernel
theorem dX4_put_7 : decode cX4_put 7 = .ok (.if_icmp .ge 10, 3) := by decide +kernel
theorem dX4_put_10 : decode cX4_put 10 = .ok (.aload_n 0, 1) := by decide +kernel
theorem dX4_put_11 : decode cX4_put 11 = .ok (.getfield 9, 3) := by decide +kernel
theorem dX4_put_14 : decode cX4_put 14 = .ok (.iload_n 1, 1) := by decide +kernel
theorem dX4_put_15 : decode cX4_put 15 = .ok (.iload_n 2, 1) := by decide +kernel
theorem dX4_put_16 : decode cX4_put 16 = .ok (.iastore, 1) := by decide +kernel
theorem dX4_put_17 : decode cX4_put 17 = .ok (.return_, 1) := by decide +kernel
theorem dX5_isHot_0 : decode cX5_isHot 0 = .ok (.aload_n 0, 1) := by decide +kernel
theorem dX5_isHot_1 : decode cX5_isHot 1 = .ok (.getfield 22, 3) := by decide +kernel
theorem dX5_isHot_4 : decode cX5_isHot 4 = .ok (.ifCond .ne 15, 3) := by decide +kernel
theorem dX5_isHot_7 : decode cX5_isHot 7 = .ok (.aload_n 0, 1) := by decide +kernel
theorem dX5_isHot_8 : decode cX5_isHot 8 = .ok (.getfield 26, 3) := by decide +kernel
theorem dX5_isHot_11 : decode cX5_isHot 11 = .ok (.iconst 3, 1) := by decide +kernel
theorem dX5_isHot_12 : decode cX5_isHot 12 = .ok (.if_icmp .lt 7, 3) := by decide +kernel
theorem dX5_isHot_15 : decode cX5_isHot 15 = .ok (.iconst 1, 1) := by decide +kernel
theorem dX5_isHot_16 : decode cX5_isHot 16 = .ok (.goto 4, 3) := by decide +kernel
theorem dX5_isHot_19 : decode cX5_isHot 19 = .ok (.iconst 0, 1) := by decide +kernel
theorem dX5_isHot_20 : decode cX5_isHot 20 = .ok (.ireturn, 1) := by decide +kernel
theorem dX5_remember_0 : decode cX5_remember 0 = .ok (.iconst 0, 1) := by decide +kernel
theorem dX5_remember_1 : decode cX5_remember 1 = .ok (.istore_n 3, 1) := by decide +kernel
theorem dX5_remember_2 : decode cX5_remember 2 = .ok (.iload_n 3, 1) := by decide +kernel
theorem dX5_remember_3 : decode cX5_remember 3 = .ok (.bipush 11, 2) := by decide +kernel
theorem dX5_remember_5 : decode cX5_remember 5 = .ok (.if_icmp .ge 74, 3) := by decide +kernel
theorem dX5_remember_8 : decode cX5_remember 8 = .ok (.iload_n 3, 1) := by decide +kernel
theorem dX5_remember_9 : decode cX5_remember 9 = .ok (.iconst 3, 1) := by decide +kernel
theorem dX5_remember_10 : decode cX5_remember 10 = .ok (.if_icmp .ge 11, 3) := by decide +kernel
theorem dX5_remember_13 : decode cX5_remember 13 = .ok (.aload_n 1, 1) := by decide +kernel
theorem dX5_remember_14 : decode cX5_remember 14 = .ok (.iload_n 3, 1) := by decide +kernel
theorem dX5_remember_15 : decode cX5_remember 15 = .ok (.invokevirtual 30, 3) := by decide +kernel
theorem dX5_remember_18 : decode cX5_remember 18 = .ok (.goto 10, 3) := by decide +kernel
theorem dX5_remember_21 : decode cX5_remember 21 = .ok (.aload_n 2, 1) := by decide +kernel
theorem dX5_remember_22 : decode cX5_remember 22 = .ok (.iload_n 3, 1) := by decide +kernel
theorem dX5_remember_23 : decode cX5_remember 23 = .ok (.iconst 3, 1) := by decide +kernel
theorem dX5_remember_24 : decode cX5_remember 24 = .ok (.isub, 1) := by decide +kernel
theorem dX5_remember_25 : decode cX5_remember 25 = .ok (.invokevirtual 36, 3) := by decide +kernel
theorem dX5_remember_28 : decode cX5_remember 28 = .ok (.istore 4, 2) := by decide +kernel
theorem dX5_remember_30 : decode cX5_remember 30 = .ok (.aload_n 0, 1) := by decide +kernel
theorem dX5_remember_31 : decode cX5_remember 31 = .ok (.getfield 26, 3) := by decide +kernel
theorem dX5_remember_34 : decode cX5_remember 34 = .ok (.ifCond .ne 21, 3) := by decide +kernel
theorem dX5_remember_37 : decode cX5_remember 37 = .ok (.aload_n 0, 1) := by decide +kernel
theorem dX5_remember_38 : decode cX5_remember 38 = .ok (.getfield 9, 3) := by decide +kernel
theorem dX5_remember_41 : decode cX5_remember 41 = .ok (.iload_n 3, 1) := by decide +kernel
theorem dX5_remember_42 : decode cX5_remember 42 = .ok (.iload 4, 2) := by decide +kernel
theorem dX5_remember_44 : decode cX5_remember 44 = .ok (.iastore, 1) := by decide +kernel
theorem dX5_remember_45 : decode cX5_remember 45 = .ok (.aload_n 0, 1) := by decide +kernel
theorem dX5_remember_46 : decode cX5_remember 46 = .ok (.getfield 15, 3) := by decide +kernel
theorem dX5_remember_49 : decode cX5_remember 49 = .ok (.iload_n 3, 1) := by decide +kernel
theorem dX5_remember_50 : decode cX5_remember 50 = .ok (.iconst 1, 1) := by decide +kernel
theorem dX5_remember_51 : decode cX5_remember 51 = .ok (.bastore, 1) := by decide +kernel
theorem dX5_remember_52 : decode cX5_remember 52 = .ok (.goto 21, 3) := by decide +kernel
theorem dX5_remember_55 : decode cX5_remember 55 = .ok (.aload_n 0, 1) := by decide +kernel
theorem dX5_remember_56 : decode cX5_remember 56 = .ok (.getfield 9, 3) := by decide +kernel
theorem dX5_remember_59 : decode cX5_remember 59 = .ok (.iload_n 3, 1) := by decide +kernel
theorem dX5_remember_60 : decode cX5_remember 60 = .ok (.iaload, 1) := by decide +kernel
theorem dX5_remember_61 : decode cX5_remember 61 = .ok (.iload 4, 2) := by decide +kernel
theorem dX5_remember_63 : decode cX5_remember 63 = .ok (.if_icmp .eq 10, 3) := by decide +kernel
theorem dX5_remember_66 : decode cX5_remember 66 = .ok (.aload_n 0, 1) := by decide +kernel
theorem dX5_remember_67 : decode cX5_remember 67 = .ok (.getfield 15, 3) := by decide +kernel
theorem dX5_remember_70 : decode cX5_remember 70 = .ok (.iload_n 3, 1) := by decide +kernel
theorem dX5_remember_71 : decode cX5_remember 71 = .ok (.iconst 0, 1) := by decide +kernel
theorem dX5_remember_72 : decode cX5_remember 72 = .ok (.bastore, 1) := by decide +kernel
theorem dX5_remember_73 : decode cX5_remember 73 = .ok (.iinc 3 1, 3) := by decide +kernel
theorem dX5_remember_76 : decode cX5_remember 76 = .ok (.goto (-74), 3) := by decide +kernel
theorem dX5_remember_79 : decode cX5_remember 79 = .ok (.aload_n 0, 1) := by decide +kernel
theorem dX5_remember_80 : decode cX5_remember 80 = .ok (.dup, 1) := by decide +kernel
theorem dX5_remember_81 : decode cX5_remember 81 = .ok (.getfield 26, 3) := by decide +kernel
theorem dX5_remember_84 : decode cX5_remember 84 = .ok (.iconst 1, 1) := by decide +kernel
theorem dX5_remember_85 : decode cX5_remember 85 = .ok (.iadd, 1) := by decide +kernel
theorem dX5_remember_86 : decode cX5_remember 86 = .ok (.putfield 26, 3) := by decide +kernel
theorem dX5_remember_89 : decode cX5_remember 89 = .ok (.return_, 1) := by decide +kernel
theorem dX5_take_0 : decode cX5_take 0 = .ok (.aload_n 0, 1) := by decide +kernel
theorem dX5_take_1 : decode cX5_take 1 = .ok (.aload_n 1, 1) := by decide +kernel
theorem dX5_take_2 : decode cX5_take 2 = .ok (.putfield 39, 3) := by decide +kernel
theorem dX5_take_5 : decode cX5_take 5 = .ok (.aload_n 0, 1) := by decide +kernel
theorem dX5_take_6 : decode cX5_take 6 = .ok (.iconst 1, 1) := by decide +kernel
theorem dX5_take_7 : decode cX5_take 7 = .ok (.putfield 22, 3) := by decide +kernel
theorem dX5_take_10 : decode cX5_take 10 = .ok (.aload_n 0, 1) := by decide +kernel
theorem dX5_take_11 : decode cX5_take 11 = .ok (.aload_n 1, 1) := by decide +kernel
theorem dX5_take_12 : decode cX5_take 12 = .ok (.getfield 43, 3) := by decide +kernel
theorem dX5_take_15 : decode cX5_take 15 = .ok (.putfield 48, 3) := by decide +kernel
theorem dX5_take_18 : decode cX5_take 18 = .ok (.return_, 1) := by decide +kernel
theorem dX5_throwAway_0 : decode cX5_throwAway 0 = .ok (.aload_n 0, 1) := by decide +kernel
theorem dX5_throwAway_1 : decode cX5_throwAway 1 = .ok (.iconst 0, 1) := by decide +kernel
theorem dX5_throwAway_2 : decode cX5_throwAway 2 = .ok (.putfield 22, 3) := by decide +kernel
theorem dX5_throwAway_5 : decode cX5_throwAway 5 = .ok (.aload_n 0, 1) := by decide +kernel
theorem dX5_throwAway_6 : decode cX5_throwAway 6 = .ok (.iconst 0, 1) := by decide +kernel
theorem dX5_throwAway_7 : decode cX5_throwAway 7 = .ok (.putfield 26, 3) := by decide +kernel
theorem dX5_throwAway_10 : decode cX5_throwAway 10 = .ok (.return_, 1) := by decide +kernel
theorem dX5_markVarying_0 : decode cX5_markVarying 0 = .ok (.iload_n 1, 1) := by decide +kernel
theorem dX5_markVarying_1 : decode cX5_markVarying 1 = .ok (.ifCond .lt 16, 3) := by decide +kernel
theorem dX5_markVarying_4 : decode cX5_markVarying 4 = .ok (.iload_n 1, 1) := by decide +kernel
theorem dX5_markVarying_5 : decode cX5_markVarying 5 = .ok (.bipush 11, 2) := by decide +kernel
theorem dX5_markVarying_7 : decode cX5_markVarying 7 = .ok (.if_icmp .ge 10, 3) := by decide +kernel
theorem dX5_markVarying_10 : decode cX5_markVarying 10 = .ok (.aload_n 0, 1) := by decide +kernel
theorem dX5_markVarying_11 : decode cX5_markVarying 11 = .ok (.getfield 19, 3) := by decide +kernel
theorem dX5_markVarying_14 : decode cX5_markVarying 14 = .ok (.iload_n 1, 1) := by decide +kernel
theorem dX5_markVarying_15 : decode cX5_markVarying 15 = .ok (.iconst 1, 1) := by decide +kernel
theorem dX5_markVarying_16 : decode cX5_markVarying 16 = .ok (.bastore, 1) := by decide +kernel
theorem dX5_markVarying_17 : decode cX5_markVarying 17 = .ok (.return_, 1) := by decide +kernel
theorem dX5_isVarying_0 : decode cX5_isVarying 0 = .ok (.iload_n 1, 1) := by decide +kernel
theorem dX5_isVarying_1 : decode cX5_isVarying 1 = .ok (.ifCond .lt 22, 3) := by decide +kernel
theorem dX5_isVarying_4 : decode cX5_isVarying 4 = .ok (.iload_n 1, 1) := by decide +kernel
theorem dX5_isVarying_5 : decode cX5_isVarying 5 = .ok (.bipush 11, 2) := by decide +kernel
theorem dX5_isVarying_7 : decode cX5_isVarying 7 = .ok (.if_icmp .ge 16, 3) := by decide +kernel
theorem dX5_isVarying_10 : decode cX5_isVarying 10 = .ok (.aload_n 0, 1) := by decide +kernel
theorem dX5_isVarying_11 : decode cX5_isVarying 11 = .ok (.getfield 19, 3) := by decide +kernel
theorem dX5_isVarying_14 : decode cX5_isVarying 14 = .ok (.iload_n 1, 1) := by decide +kernel
theorem dX5_isVarying_15 : decode cX5_isVarying 15 = .ok (.baload, 1) := by decide +kernel
theorem dX5_isVarying_16 : decode cX5_isVarying 16 = .ok (.ifCond .eq 7, 3) := by decide +kernel
theorem dX5_isVarying_19 : decode cX5_isVarying 19 = .ok (.iconst 1, 1) := by decide +kernel
theorem dX5_isVarying_20 : decode cX5_isVarying 20 = .ok (.goto 4, 3) := by decide +kernel
theorem dX5_isVarying_23 : decode cX5_isVarying 23 = .ok (.iconst 0, 1) := by decide +kernel
theorem dX5_isVarying_24 : decode cX5_isVarying 24 = .ok (.ireturn, 1) := by decide +kernel
theorem dX5_wasAlways_0 : decode cX5_wasAlways 0 = .ok (.aload_n 0, 1) := by decide +kernel
theorem dX5_wasAlways_1 : decode cX5_wasAlways 1 = .ok (.getfield 26, 3) := by decide +kernel
theorem dX5_wasAlways_4 : decode cX5_wasAlways 4 = .ok (.ifCond .le 35, 3) := by decide +kernel
theorem dX5_wasAlways_7 : decode cX5_wasAlways 7 = .ok (.iload_n 1, 1) := by decide +kernel
theorem dX5_wasAlways_8 : decode cX5_wasAlways 8 = .ok (.ifCond .lt 31, 3) := by decide +kernel
theorem dX5_wasAlways_11 : decode cX5_wasAlways 11 = .ok (.iload_n 1, 1) := by decide +kernel
theorem dX5_wasAlways_12 : decode cX5_wasAlways 12 = .ok (.bipush 11, 2) := by decide +kernel
theorem dX5_wasAlways_14 : decode cX5_wasAlways 14 = .ok (.if_icmp .ge 25, 3) := by decide +kernel
theorem dX5_wasAlways_17 : decode cX5_wasAlways 17 = .ok (.aload_n 0, 1) := by decide +kernel
theorem dX5_wasAlways_18 : decode cX5_wasAlways 18 = .ok (.getfield 15, 3) := by decide +kernel
theorem dX5_wasAlways_21 : decode cX5_wasAlways 21 = .ok (.iload_n 1, 1) := by decide +kernel
theorem dX5_wasAlways_22 : decode cX5_wasAlways 22 = .ok (.baload, 1) := by decide +kernel
theorem dX5_wasAlways_23 : decode cX5_wasAlways 23 = .ok (.ifCond .eq 16, 3) := by decide +kernel
theorem dX5_wasAlways_26 : decode cX5_wasAlways 26 = .ok (.aload_n 0, 1) := by decide +kernel
theorem dX5_wasAlways_27 : decode cX5_wasAlways 27 = .ok (.getfield 19, 3) := by decide +kernel
theorem dX5_wasAlways_30 : decode cX5_wasAlways 30 = .ok (.iload_n 1, 1) := by decide +kernel
theorem dX5_wasAlways_31 : decode cX5_wasAlways 31 = .ok (.baload, 1) := by decide +kernel
theorem dX5_wasAlways_32 : decode cX5_wasAlways 32 = .ok (.ifCond .ne 7, 3) := by decide +kernel
theorem dX5_wasAlways_35 : decode cX5_wasAlways 35 = .ok (.iconst 1, 1) := by decide +kernel
theorem dX5_wasAlways_36 : decode cX5_wasAlways 36 = .ok (.goto 4, 3) := by decide +kernel
theorem dX5_wasAlways_39 : decode cX5_wasAlways 39 = .ok (.iconst 0, 1) := by decide +kernel
theorem dX5_wasAlways_40 : decode cX5_wasAlways 40 = .ok (.ireturn, 1) := by decide +kernel
theorem dX5_valueOf_0 : decode cX5_valueOf 0 = .ok (.iload_n 1, 1) := by decide +kernel
theorem dX5_valueOf_1 : decode cX5_valueOf 1 = .ok (.ifCond .lt 18, 3) := by decide +kernel
theorem dX5_valueOf_4 : decode cX5_valueOf 4 = .ok (.iload_n 1, 1) := by decide +kernel
theorem dX5_valueOf_5 : decode cX5_valueOf 5 = .ok (.bipush 11, 2) := by decide +kernel
theorem dX5_valueOf_7 : decode cX5_valueOf 7 = .ok (.if_icmp .ge 12, 3) := by decide +kernel
theorem dX5_valueOf_10 : decode cX5_valueOf 10 = .ok (.aload_n 0, 1) := by decide +kernel
theorem dX5_valueOf_11 : decode cX5_valueOf 11 = .ok (.getfield 9, 3) := by decide +kernel
theorem dX5_valueOf_14 : decode cX5_valueOf 14 = .ok (.iload_n 1, 1) := by decide +kernel
theorem dX5_valueOf_15 : decode cX5_valueOf 15 = .ok (.iaload, 1) := by decide +kernel
theorem dX5_valueOf_16 : decode cX5_valueOf 16 = .ok (.goto 4, 3) := by decide +kernel
theorem dX5_valueOf_19 : decode cX5_valueOf 19 = .ok (.iconst 0, 1) := by decide +kernel
theorem dX5_valueOf_20 : decode cX5_valueOf 20 = .ok (.ireturn, 1) := by decide +kernel
theorem dX6_goOver_0 : decode cX6_goOver 0 = .ok (.aload_n 1, 1) := by decide +kernel
theorem dX6_goOver_1 : decode cX6_goOver 1 = .ok (.invokevirtual 23, 3) := by decide +kernel
theorem dX6_goOver_4 : decode cX6_goOver 4 = .ok (.iconst 0, 1) := by decide +kernel
theorem dX6_goOver_5 : decode cX6_goOver 5 = .ok (.istore_n 2, 1) := by decide +kernel
theorem dX6_goOver_6 : decode cX6_goOver 6 = .ok (.iload_n 2, 1) := by decide +kernel
theorem dX6_goOver_7 : decode cX6_goOver 7 = .ok (.bipush 60, 2) := by decide +kernel
theorem dX6_goOver_9 : decode cX6_goOver 9 = .ok (.if_icmp .ge 16, 3) := by decide +kernel
theorem dX6_goOver_12 : decode cX6_goOver 12 = .ok (.aload_n 0, 1) := by decide +kernel
theorem dX6_goOver_13 : decode cX6_goOver 13 = .ok (.getfield 9, 3) := by decide +kernel
theorem dX6_goOver_16 : decode cX6_goOver 16 = .ok (.iload_n 2, 1) := by decide +kernel
theorem dX6_goOver_17 : decode cX6_goOver 17 = .ok (.iconst 0, 1) := by decide +kernel
theorem dX6_goOver_18 : decode cX6_goOver 18 = .ok (.bastore, 1) := by decide +kernel
theorem dX6_goOver_19 : decode cX6_goOver 19 = .ok (.iinc 2 1, 3) := by decide +kernel
theorem dX6_goOver_22 : decode cX6_goOver 22 = .ok (.goto (-16), 3) := by decide +kernel
theorem dX6_goOver_25 : decode cX6_goOver 25 = .ok (.aload_n 0, 1) := by decide +kernel
theorem dX6_goOver_26 : decode cX6_goOver 26 = .ok (.aload_n 1, 1) := by decide +kernel
theorem dX6_goOver_27 : decode cX6_goOver 27 = .ok (.getfield 28, 3) := by decide +kernel
theorem dX6_goOver_30 : decode cX6_goOver 30 = .ok (.ifCond .ne 7, 3) := by decide +kernel
theorem dX6_goOver_33 : decode cX6_goOver 33 = .ok (.iconst 5, 1) := by decide +kernel
theorem dX6_goOver_34 : decode cX6_goOver 34 = .ok (.goto 4, 3) := by decide +kernel
theorem dX6_goOver_37 : decode cX6_goOver 37 = .ok (.iconst 0, 1) := by decide +kernel
theorem dX6_goOver_38 : decode cX6_goOver 38 = .ok (.putfield 32, 3) := by decide +kernel
theorem dX6_goOver_41 : decode cX6_goOver 41 = .ok (.aload_n 0, 1) := by decide +kernel
theorem dX6_goOver_42 : decode cX6_goOver 42 = .ok (.getfield 32, 3) := by decide +kernel
theorem dX6_goOver_45 : decode cX6_goOver 45 = .ok (.ifCond .eq 6, 3) := by decide +kernel
theorem dX6_goOver_48 : decode cX6_goOver 48 = .ok (.bipush (-100), 2) := by decide +kernel
theorem dX6_goOver_50 : decode cX6_goOver 50 = .ok (.ireturn, 1) := by decide +kernel
theorem dX6_goOver_51 : decode cX6_goOver 51 = .ok (.aload_n 0, 1) := by decide +kernel
theorem dX6_goOver_52 : decode cX6_goOver 52 = .ok (.aload_n 1, 1) := by decide +kernel
theorem dX6_goOver_53 : decode cX6_goOver 53 = .ok (.iconst 0, 1) := by decide +kernel
theorem dX6_goOver_54 : decode cX6_goOver 54 = .ok (.iconst 0, 1) := by decide +kernel
theorem dX6_goOver_55 : decode cX6_goOver 55 = .ok (.invokevirtual 35, 3) := by decide +kernel
theorem dX6_goOver_58 : decode cX6_goOver 58 = .ok (.pop, 1) := by decide +kernel
theorem dX6_goOver_59 : decode cX6_goOver 59 = .ok (.iconst 0, 1) := by decide +kernel
theorem dX6_goOver_60 : decode cX6_goOver 60 = .ok (.istore_n 2, 1) := by decide +kernel
theorem dX6_goOver_61 : decode cX6_goOver 61 = .ok (.iload_n 2, 1) := by decide +kernel
theorem dX6_goOver_62 : decode cX6_goOver 62 = .ok (.bipush 60, 2) := by decide +kernel
theorem dX6_goOver_64 : decode cX6_goOver 64 = .ok (.if_icmp .ge 51, 3) := by decide +kernel
theorem dX6_goOver_67 : decode cX6_goOver 67 = .ok (.aload_n 0, 1) := by decide +kernel
theorem dX6_goOver_68 : decode cX6_goOver 68 = .ok (.invokevirtual 39, 3) := by decide +kernel
theorem dX6_goOver_71 : decode cX6_goOver 71 = .ok (.istore_n 3, 1) := by decide +kernel
theorem dX6_goOver_72 : decode cX6_goOver 72 = .ok (.iload_n 3, 1) := by decide +kernel
theorem dX6_goOver_73 : decode cX6_goOver 73 = .ok (.iconst (-1), 1) := by decide +kernel
theorem dX6_goOver_74 : decode cX6_goOver 74 = .ok (.if_icmp .ne 6, 3) := by decide +kernel
theorem dX6_goOver_77 : decode cX6_goOver 77 = .ok (.goto 38, 3) := by decide +kernel
theorem dX6_goOver_80 : decode cX6_goOver 80 = .ok (.aload_n 0, 1) := by decide +kernel
theorem dX6_goOver_81 : decode cX6_goOver 81 = .ok (.getfield 9, 3) := by decide +kernel
theorem dX6_goOver_84 : decode cX6_goOver 84 = .ok (.iload_n 3, 1) := by decide +kernel
theorem dX6_goOver_85 : decode cX6_goOver 85 = .ok (.iconst 0, 1) := by decide +kernel
theorem dX6_goOver_86 : decode cX6_goOver 86 = .ok (.bastore, 1) := by decide +kernel
theorem dX6_goOver_87 : decode cX6_goOver 87 = .ok (.aload_n 0, 1) := by decide +kernel
theorem dX6_goOver_88 : decode cX6_goOver 88 = .ok (.aload_n 0, 1) := by decide +kernel
theorem dX6_goOver_89 : decode cX6_goOver 89 = .ok (.aload_n 1, 1) := by decide +kernel
theorem dX6_goOver_90 : decode cX6_goOver 90 = .ok (.iload_n 3, 1) := by decide +kernel
theorem dX6_goOver_91 : decode cX6_goOver 91 = .ok (.invokevirtual 43, 3) := by decide +kernel
theorem dX6_goOver_94 : decode cX6_goOver 94 = .ok (.putfield 32, 3) := by decide +kernel
theorem dX6_goOver_97 : decode cX6_goOver 97 = .ok (.aload_n 0, 1) := by decide +kernel
theorem dX6_goOver_98 : decode cX6_goOver 98 = .ok (.getfield 32, 3) := by decide +kernel
theorem dX6_goOver_101 : decode cX6_goOver 101 = .ok (.ifCond .eq 8, 3) := by decide +kernel
theorem dX6_goOver_104 : decode cX6_goOver 104 = .ok (.bipush (-100), 2) := by decide +kernel
theorem dX6_goOver_106 : decode cX6_goOver 106 = .ok (.iload_n 3, 1) := by decide +kernel
theorem dX6_goOver_107 : decode cX6_goOver 107 = .ok (.isub, 1) := by decide +kernel
theorem dX6_goOver_108 : decode cX6_goOver 108 = .ok (.ireturn, 1) := by decide +kernel
theorem dX6_goOver_109 : decode cX6_goOver 109 = .ok (.iinc 2 1, 3) := by decide +kernel
theorem dX6_goOver_112 : decode cX6_goOver 112 = .ok (.goto (-51), 3) := by decide +kernel
theorem dX6_goOver_115 : decode cX6_goOver 115 = .ok (.aload_n 1, 1) := by decide +kernel
theorem dX6_goOver_116 : decode cX6_goOver 116 = .ok (.aload_n 0, 1) := by decide +kernel
theorem dX6_goOver_117 : decode cX6_goOver 117 = .ok (.aload_n 1, 1) := by decide +kernel
theorem dX6_goOver_118 : decode cX6_goOver 118 = .ok (.invokevirtual 47, 3) := by decide +kernel
theorem dX6_goOver_121 : decode cX6_goOver 121 = .ok (.putfield 51, 3) := by decide +kernel
theorem dX6_goOver_124 : decode cX6_goOver 124 = .ok (.aload_n 1, 1) := by decide +kernel
theorem dX6_goOver_125 : decode cX6_goOver 125 = .ok (.aload_n 0, 1) := by decide +kernel
theorem dX6_goOver_126 : decode cX6_goOver 126 = .ok (.aload_n 1, 1) := by decide +kernel
theorem dX6_goOver_127 : decode cX6_goOver 127 = .ok (.invokevirtual 54, 3) := by decide +kernel
theorem dX6_goOver_130 : decode cX6_goOver 130 = .ok (.putfield 58, 3) := by decide +kernel
theorem dX6_goOver_133 : decode cX6_goOver 133 = .ok (.aload_n 1, 1) := by decide +kernel
theorem dX6_goOver_134 : decode cX6_goOver 134 = .ok (.getfield 51, 3) := by decide +kernel
theorem dX6_goOver_137 : decode cX6_goOver 137 = .ok (.ireturn, 1) := by decide +kernel
theorem dX6_leastWaiting_0 : decode cX6_leastWaiting 0 = .ok (.iconst 0, 1) := by decide +kernel
theorem dX6_leastWaiting_1 : decode cX6_leastWaiting 1 = .ok (.istore_n 1, 1) := by decide +kernel
theorem dX6_leastWaiting_2 : decode cX6_leastWaiting 2 = .ok (.iload_n 1, 1) := by decide +kernel
theorem dX6_leastWaiting_3 : decode cX6_leastWaiting 3 = .ok (.bipush 60, 2) := by decide +kernel
theorem dX6_leastWaiting_5 : decode cX6_leastWaiting 5 = .ok (.if_icmp .ge 20, 3) := by decide +kernel
theorem dX6_leastWaiting_8 : decode cX6_leastWaiting 8 = .ok (.aload_n 0, 1) := by decide +kernel
theorem dX6_leastWaiting_9 : decode cX6_leastWaiting 9 = .ok (.getfield 9, 3) := by decide +kernel
theorem dX6_leastWaiting_12 : decode cX6_leastWaiting 12 = .ok (.iload_n 1, 1) := by decide +kernel
theorem dX6_leastWaiting_13 : decode cX6_leastWaiting 13 = .ok (.baload, 1) := by decide +kernel
theorem dX6_leastWaiting_14 : decode cX6_leastWaiting 14 = .ok (.ifCond .eq 5, 3) := by decide +kernel
theorem dX6_leastWaiting_17 : decode cX6_leastWaiting 17 = .ok (.iload_n 1, 1) := by decide +kernel
theorem dX6_leastWaiting_18 : decode cX6_leastWaiting 18 = .ok (.ireturn, 1) := by decide +kernel
theorem dX6_leastWaiting_19 : decode cX6_leastWaiting 19 = .ok (.iinc 1 1, 3) := by decide +kernel
theorem dX6_leastWaiting_22 : decode cX6_leastWaiting 22 = .ok (.goto (-20), 3) := by decide +kernel
theorem dX6_leastWaiting_25 : decode cX6_leastWaiting 25 = .ok (.iconst (-1), 1) := by decide +kernel
theorem dX6_leastWaiting_26 : decode cX6_leastWaiting 26 = .ok (.ireturn, 1) := by decide +kernel
theorem dX6_faultAt_0 : decode cX6_faultAt 0 = .ok (.aload_n 1, 1) := by decide +kernel
theorem dX6_faultAt_1 : decode cX6_faultAt 1 = .ok (.iload_n 2, 1) := by decide +kernel
theorem dX6_faultAt_2 : decode cX6_faultAt 2 = .ok (.invokevirtual 62, 3) := by decide +kernel
theorem dX6_faultAt_5 : decode cX6_faultAt 5 = .ok (.istore_n 3, 1) := by decide +kernel
theorem dX6_faultAt_6 : decode cX6_faultAt 6 = .ok (.aload_n 1, 1) := by decide +kernel
theorem dX6_faultAt_7 : decode cX6_faultAt 7 = .ok (.iload_n 2, 1) := by decide +kernel
theorem dX6_faultAt_8 : decode cX6_faultAt 8 = .ok (.invokevirtual 66, 3) := by decide +kernel
theorem dX6_faultAt_11 : decode cX6_faultAt 11 = .ok (.istore 4, 2) := by decide +kernel
theorem dX6_faultAt_13 : decode cX6_faultAt 13 = .ok (.aload_n 0, 1) := by decide +kernel
theorem dX6_faultAt_14 : decode cX6_faultAt 14 = .ok (.getfield 15, 3) := by decide +kernel
theorem dX6_faultAt_17 : decode cX6_faultAt 17 = .ok (.iload_n 3, 1) := by decide +kernel
theorem dX6_faultAt_18 : decode cX6_faultAt 18 = .ok (.iload 4, 2) := by decide +kernel
theorem dX6_faultAt_20 : decode cX6_faultAt 20 = .ok (.invokevirtual 69, 3) := by decide +kernel
theorem dX6_faultAt_23 : decode cX6_faultAt 23 = .ok (.istore 5, 2) := by decide +kernel
theorem dX6_faultAt_25 : decode cX6_faultAt 25 = .ok (.iload_n 3, 1) := by decide +kernel
theorem dX6_faultAt_26 : decode cX6_faultAt 26 = .ok (.ifCond .lt 20, 3) := by decide +kernel
theorem dX6_faultAt_29 : decode cX6_faultAt 29 = .ok (.iload_n 3, 1) := by decide +kernel
theorem dX6_faultAt_30 : decode cX6_faultAt 30 = .ok (.bipush 20, 2) := by decide +kernel
theorem dX6_faultAt_32 : decode cX6_faultAt 32 = .ok (.if_icmp .ge 14, 3) := by decide +kernel
theorem dX6_faultAt_35 : decode cX6_faultAt 35 = .ok (.aload_n 0, 1) := by decide +kernel
theorem dX6_faultAt_36 : decode cX6_faultAt 36 = .ok (.aload_n 1, 1) := by decide +kernel
theorem dX6_faultAt_37 : decode cX6_faultAt 37 = .ok (.iload_n 3, 1) := by decide +kernel
theorem dX6_faultAt_38 : decode cX6_faultAt 38 = .ok (.iload 4, 2) := by decide +kernel
theorem dX6_faultAt_40 : decode cX6_faultAt 40 = .ok (.invokevirtual 75, 3) := by decide +kernel
theorem dX6_faultAt_43 : decode cX6_faultAt 43 = .ok (.ifCond .ne 6, 3) := by decide +kernel
theorem dX6_faultAt_46 : decode cX6_faultAt 46 = .ok (.bipush 6, 2) := by decide +kernel
theorem dX6_faultAt_48 : decode cX6_faultAt 48 = .ok (.ireturn, 1) := by decide +kernel
theorem dX6_faultAt_49 : decode cX6_faultAt 49 = .ok (.aload_n 1, 1) := by decide +kernel
theorem dX6_faultAt_50 : decode cX6_faultAt 50 = .ok (.iload_n 2, 1) := by decide +kernel
theorem dX6_faultAt_51 : decode cX6_faultAt 51 = .ok (.invokevirtual 78, 3) := by decide +kernel
theorem dX6_faultAt_54 : decode cX6_faultAt 54 = .ok (.iload 5, 2) := by decide +kernel
theorem dX6_faultAt_56 : decode cX6_faultAt 56 = .ok (.if_icmp .ge 5, 3) := by decide +kernel
theorem dX6_faultAt_59 : decode cX6_faultAt 59 = .ok (.iconst 1, 1) := by decide +kernel
theorem dX6_faultAt_60 : decode cX6_faultAt 60 = .ok (.ireturn, 1) := by decide +kernel
theorem dX6_faultAt_61 : decode cX6_faultAt 61 = .ok (.aload_n 1, 1) := by decide +kernel
theorem dX6_faultAt_62 : decode cX6_faultAt 62 = .ok (.iload_n 2, 1) := by decide +kernel
theorem dX6_faultAt_63 : decode cX6_faultAt 63 = .ok (.invokevirtual 78, 3) := by decide +kernel
theorem dX6_faultAt_66 : decode cX6_faultAt 66 = .ok (.iload 5, 2) := by decide +kernel
theorem dX6_faultAt_68 : decode cX6_faultAt 68 = .ok (.isub, 1) := by decide +kernel
theorem dX6_faultAt_69 : decode cX6_faultAt 69 = .ok (.getstatic 81, 3) := by decide +kernel
theorem dX6_faultAt_72 : decode cX6_faultAt 72 = .ok (.iload_n 3, 1) := by decide +kernel
theorem dX6_faultAt_73 : decode cX6_faultAt 73 = .ok (.iaload, 1) := by decide +kernel
theorem dX6_faultAt_74 : decode cX6_faultAt 74 = .ok (.iadd, 1) := by decide +kernel
theorem dX6_faultAt_75 : decode cX6_faultAt 75 = .ok (.istore 6, 2) := by decide +kernel
theorem dX6_faultAt_77 : decode cX6_faultAt 77 = .ok (.iload 6, 2) := by decide +kernel
theorem dX6_faultAt_79 : decode cX6_faultAt 79 = .ok (.bipush 8, 2) := by decide +kernel
theorem dX6_faultAt_81 : decode cX6_faultAt 81 = .ok (.if_icmp .le 5, 3) := by decide +kernel
theorem dX6_faultAt_84 : decode cX6_faultAt 84 = .ok (.iconst 2, 1) := by decide +kernel
theorem dX6_faultAt_85 : decode cX6_faultAt 85 = .ok (.ireturn, 1) := by decide +kernel
theorem dX6_faultAt_86 : decode cX6_faultAt 86 = .ok (.iload_n 3, 1) := by decide +kernel
theorem dX6_faultAt_87 : decode cX6_faultAt 87 = .ok (.bipush 9, 2) := by decide +kernel
theorem dX6_faultAt_89 : decode cX6_faultAt 89 = .ok (.if_icmp .eq 9, 3) := by decide +kernel
theorem dX6_faultAt_92 : decode cX6_faultAt 92 = .ok (.iload_n 3, 1) := by decide +kernel
theorem dX6_faultAt_93 : decode cX6_faultAt 93 = .ok (.bipush 10, 2) := by decide +kernel
theorem dX6_faultAt_95 : decode cX6_faultAt 95 = .ok (.if_icmp .ne 28, 3) := by decide +kernel
theorem dX6_faultAt_98 : decode cX6_faultAt 98 = .ok (.aload_n 1, 1) := by decide +kernel
theorem dX6_faultAt_99 : decode cX6_faultAt 99 = .ok (.iload 4, 2) := by decide +kernel
theorem dX6_faultAt_101 : decode cX6_faultAt 101 = .ok (.invokevirtual 85, 3) := by decide +kernel
theorem dX6_faultAt_104 : decode cX6_faultAt 104 = .ok (.ifCond .ne 5, 3) := by decide +kernel
theorem dX6_faultAt_107 : decode cX6_faultAt 107 = .ok (.iconst 4, 1) := by decide +kernel
theorem dX6_faultAt_108 : decode cX6_faultAt 108 = .ok (.ireturn, 1) := by decide +kernel
theorem dX6_faultAt_109 : decode cX6_faultAt 109 = .ok (.aload_n 0, 1) := by decide +kernel
theorem dX6_faultAt_110 : decode cX6_faultAt 110 = .ok (.aload_n 1, 1) := by decide +kernel
theorem dX6_faultAt_111 : decode cX6_faultAt 111 = .ok (.iload 4, 2) := by decide +kernel
theorem dX6_faultAt_113 : decode cX6_faultAt 113 = .ok (.iload 6, 2) := by decide +kernel
theorem dX6_faultAt_115 : decode cX6_faultAt 115 = .ok (.invokevirtual 35, 3) := by decide +kernel
theorem dX6_faultAt_118 : decode cX6_faultAt 118 = .ok (.ifCond .ne 5, 3) := by decide +kernel
theorem dX6_faultAt_121 : decode cX6_faultAt 121 = .ok (.iconst 3, 1) := by decide +kernel
theorem dX6_faultAt_122 : decode cX6_faultAt 122 = .ok (.ireturn, 1) := by decide +kernel
theorem dX6_faultAt_123 : decode cX6_faultAt 123 = .ok (.iload_n 3, 1) := by decide +kernel
theorem dX6_faultAt_124 : decode cX6_faultAt 124 = .ok (.bipush 9, 2) := by decide +kernel
theorem dX6_faultAt_126 : decode cX6_faultAt 126 = .ok (.if_icmp .eq 9, 3) := by decide +kernel
theorem dX6_faultAt_129 : decode cX6_faultAt 129 = .ok (.iload_n 3, 1) := by decide +kernel
theorem dX6_faultAt_130 : decode cX6_faultAt 130 = .ok (.bipush 12, 2) := by decide +kernel
theorem dX6_faultAt_132 : decode cX6_faultAt 132 = .ok (.if_icmp .ne 5, 3) := by decide +kernel
theorem dX6_faultAt_135 : decode cX6_faultAt 135 = .ok (.iconst 0, 1) := by decide +kernel
theorem dX6_faultAt_136 : decode cX6_faultAt 136 = .ok (.ireturn, 1) := by decide +kernel
theorem dX6_faultAt_137 : decode cX6_faultAt 137 = .ok (.aload_n 1, 1) := by decide +kernel
theorem dX6_faultAt_138 : decode cX6_faultAt 138 = .ok (.iload_n 2, 1) := by decide +kernel
theorem dX6_faultAt_139 : decode cX6_faultAt 139 = .ok (.iconst 1, 1) := by decide +kernel
theorem dX6_faultAt_140 : decode cX6_faultAt 140 = .ok (.iadd, 1) := by decide +kernel
theorem dX6_faultAt_141 : decode cX6_faultAt 141 = .ok (.invokevirtual 85, 3) := by decide +kernel
theorem dX6_faultAt_144 : decode cX6_faultAt 144 = .ok (.ifCond .ne 5, 3) := by decide +kernel
theorem dX6_faultAt_147 : decode cX6_faultAt 147 = .ok (.iconst 5, 1) := by decide +kernel
theorem dX6_faultAt_148 : decode cX6_faultAt 148 = .ok (.ireturn, 1) := by decide +kernel
theorem dX6_faultAt_149 : decode cX6_faultAt 149 = .ok (.aload_n 0, 1) := by decide +kernel
theorem dX6_faultAt_150 : decode cX6_faultAt 150 = .ok (.aload_n 1, 1) := by decide +kernel
theorem dX6_faultAt_151 : decode cX6_faultAt 151 = .ok (.iload_n 2, 1) := by decide +kernel
theorem dX6_faultAt_152 : decode cX6_faultAt 152 = .ok (.iconst 1, 1) := by decide +kernel
theorem dX6_faultAt_153 : decode cX6_faultAt 153 = .ok (.iadd, 1) := by decide +kernel
theorem dX6_faultAt_154 : decode cX6_faultAt 154 = .ok (.iload 6, 2) := by decide +kernel
theorem dX6_faultAt_156 : decode cX6_faultAt 156 = .ok (.invokevirtual 35, 3) := by decide +kernel
theorem dX6_faultAt_159 : decode cX6_faultAt 159 = .ok (.ifCond .eq 7, 3) := by decide +kernel
theorem dX6_faultAt_162 : decode cX6_faultAt 162 = .ok (.iconst 0, 1) := by decide +kernel
theorem dX6_faultAt_163 : decode cX6_faultAt 163 = .ok (.goto 4, 3) := by decide +kernel
theorem dX6_faultAt_166 : decode cX6_faultAt 166 = .ok (.iconst 3, 1) := by decide +kernel
theorem dX6_faultAt_167 : decode cX6_faultAt 167 = .ok (.ireturn, 1) := by decide +kernel
theorem dX6_isRightX_0 : decode cX6_isRightX 0 = .ok (.iload_n 2, 1) := by decide +kernel
theorem dX6_isRightX_1 : decode cX6_isRightX 1 = .ok (.tableswitch 149 1 17 #[83, 83, 149, 149, 149, 149, 149, 149, 149, 149, 101, 149, 118, 118, 134, 134, 134], 83) := by decide +kernel
theorem dX6_isRightX_84 : decode cX6_isRightX 84 = .ok (.iload_n 3, 1) := by decide +kernel
theorem dX6_isRightX_85 : decode cX6_isRightX 85 = .ok (.ifCond .lt 15, 3) := by decide +kernel
theorem dX6_isRightX_88 : decode cX6_isRightX 88 = .ok (.iload_n 3, 1) := by decide +kernel
theorem dX6_isRightX_89 : decode cX6_isRightX 89 = .ok (.aload_n 1, 1) := by decide +kernel
theorem dX6_isRightX_90 : decode cX6_isRightX 90 = .ok (.getfield 89, 3) := by decide +kernel
theorem dX6_isRightX_93 : decode cX6_isRightX 93 = .ok (.if_icmp .ge 7, 3) := by decide +kernel
theorem dX6_isRightX_96 : decode cX6_isRightX 96 = .ok (.iconst 1, 1) := by decide +kernel
theorem dX6_isRightX_97 : decode cX6_isRightX 97 = .ok (.goto 4, 3) := by decide +kernel
theorem dX6_isRightX_100 : decode cX6_isRightX 100 = .ok (.iconst 0, 1) := by decide +kernel
theorem dX6_isRightX_101 : decode cX6_isRightX 101 = .ok (.ireturn, 1) := by decide +kernel
theorem dX6_isRightX_102 : decode cX6_isRightX 102 = .ok (.aload_n 0, 1) := by decide +kernel
theorem dX6_isRightX_103 : decode cX6_isRightX 103 = .ok (.getfield 15, 3) := by decide +kernel
theorem dX6_isRightX_106 : decode cX6_isRightX 106 = .ok (.iload_n 3, 1) := by decide +kernel
theorem dX6_isRightX_107 : decode cX6_isRightX 107 = .ok (.invokevirtual 92, 3) := by decide +kernel
theorem dX6_isRightX_110 : decode cX6_isRightX 110 = .ok (.ifnull 7, 3) := by decide +kernel
theorem dX6_isRightX_113 : decode cX6_isRightX 113 = .ok (.iconst 1, 1) := by decide +kernel
theorem dX6_isRightX_114 : decode cX6_isRightX 114 = .ok (.goto 4, 3) := by decide +kernel
theorem dX6_isRightX_117 : decode cX6_isRightX 117 = .ok (.iconst 0, 1) := by decide +kernel
theorem dX6_isRightX_118 : decode cX6_isRightX 118 = .ok (.ireturn, 1) := by decide +kernel
theorem dX6_isRightX_119 : decode cX6_isRightX 119 = .ok (.iload_n 3, 1) := by decide +kernel
theorem dX6_isRightX_120 : decode cX6_isRightX 120 = .ok (.ifCond .lt 13, 3) := by decide +kernel
theorem dX6_isRightX_123 : decode cX6_isRightX 123 = .ok (.iload_n 3, 1) := by decide +kernel
theorem dX6_isRightX_124 : decode cX6_isRightX 124 = .ok (.bipush 8, 2) := by decide +kernel
theorem dX6_isRightX_126 : decode cX6_isRightX 126 = .ok (.if_icmp .ge 7, 3) := by decide +kernel
theorem dX6_isRightX_129 : decode cX6_isRightX 129 = .ok (.iconst 1, 1) := by decide +kernel
theorem dX6_isRightX_130 : decode cX6_isRightX 130 = .ok (.goto 4, 3) := by decide +kernel
theorem dX6_isRightX_133 : decode cX6_isRightX 133 = .ok (.iconst 0, 1) := by decide +kernel
theorem dX6_isRightX_134 : decode cX6_isRightX 134 = .ok (.ireturn, 1) := by decide +kernel
theorem dX6_isRightX_135 : decode cX6_isRightX 135 = .ok (.iload_n 3, 1) := by decide +kernel
theorem dX6_isRightX_136 : decode cX6_isRightX 136 = .ok (.ifCond .lt 12, 3) := by decide +kernel
theorem dX6_isRightX_139 : decode cX6_isRightX 139 = .ok (.iload_n 3, 1) := by decide +kernel
theorem dX6_isRightX_140 : decode cX6_isRightX 140 = .ok (.iconst 4, 1) := by decide +kernel
theorem dX6_isRightX_141 : decode cX6_isRightX 141 = .ok (.if_icmp .ge 7, 3) := by decide +kernel
theorem dX6_isRightX_144 : decode cX6_isRightX 144 = .ok (.iconst 1, 1) := by decide +kernel
theorem dX6_isRightX_145 : decode cX6_isRightX 145 = .ok (.goto 4, 3) := by decide +kernel
theorem dX6_isRightX_148 : decode cX6_isRightX 148 = .ok (.iconst 0, 1) := by decide +kernel
theorem dX6_isRightX_149 : decode cX6_isRightX 149 = .ok (.ireturn, 1) := by decide +kernel
theorem dX6_isRightX_150 : decode cX6_isRightX 150 = .ok (.iconst 1, 1) := by decide +kernel
theorem dX6_isRightX_151 : decode cX6_isRightX 151 = .ok (.ireturn, 1) := by decide +kernel
theorem dX6_comes_0 : decode cX6_comes 0 = .ok (.aload_n 1, 1) := by decide +kernel
theorem dX6_comes_1 : decode cX6_comes 1 = .ok (.iload_n 2, 1) := by decide +kernel
theorem dX6_comes_2 : decode cX6_comes 2 = .ok (.invokevirtual 96, 3) := by decide +kernel
theorem dX6_comes_5 : decode cX6_comes 5 = .ok (.ifCond .eq 26, 3) := by decide +kernel
theorem dX6_comes_8 : decode cX6_comes 8 = .ok (.iload_n 2, 1) := by decide +kernel
theorem dX6_comes_9 : decode cX6_comes 9 = .ok (.ifCond .lt 22, 3) := by decide +kernel
theorem dX6_comes_12 : decode cX6_comes 12 = .ok (.iload_n 2, 1) := by decide +kernel
theorem dX6_comes_13 : decode cX6_comes 13 = .ok (.bipush 60, 2) := by decide +kernel
theorem dX6_comes_15 : decode cX6_comes 15 = .ok (.if_icmp .ge 16, 3) := by decide +kernel
theorem dX6_comes_18 : decode cX6_comes 18 = .ok (.aload_n 1, 1) := by decide +kernel
theorem dX6_comes_19 : decode cX6_comes 19 = .ok (.iload_n 2, 1) := by decide +kernel
theorem dX6_comes_20 : decode cX6_comes 20 = .ok (.iload_n 3, 1) := by decide +kernel
theorem dX6_comes_21 : decode cX6_comes 21 = .ok (.invokevirtual 99, 3) := by decide +kernel
theorem dX6_comes_24 : decode cX6_comes 24 = .ok (.aload_n 0, 1) := by decide +kernel
theorem dX6_comes_25 : decode cX6_comes 25 = .ok (.getfield 9, 3) := by decide +kernel
theorem dX6_comes_28 : decode cX6_comes 28 = .ok (.iload_n 2, 1) := by decide +kernel
theorem dX6_comes_29 : decode cX6_comes 29 = .ok (.iconst 1, 1) := by decide +kernel
theorem dX6_comes_30 : decode cX6_comes 30 = .ok (.bastore, 1) := by decide +kernel
theorem dX6_comes_31 : decode cX6_comes 31 = .ok (.aload_n 1, 1) := by decide +kernel
theorem dX6_comes_32 : decode cX6_comes 32 = .ok (.iload_n 2, 1) := by decide +kernel
theorem dX6_comes_33 : decode cX6_comes 33 = .ok (.invokevirtual 78, 3) := by decide +kernel
theorem dX6_comes_36 : decode cX6_comes 36 = .ok (.iload_n 3, 1) := by decide +kernel
theorem dX6_comes_37 : decode cX6_comes 37 = .ok (.if_icmp .ne 7, 3) := by decide +kernel
theorem dX6_comes_40 : decode cX6_comes 40 = .ok (.iconst 1, 1) := by decide +kernel
theorem dX6_comes_41 : decode cX6_comes 41 = .ok (.goto 4, 3) := by decide +kernel
theorem dX6_comes_44 : decode cX6_comes 44 = .ok (.iconst 0, 1) := by decide +kernel
theorem dX6_comes_45 : decode cX6_comes 45 = .ok (.ireturn, 1) := by decide +kernel
theorem dX6_greatestDepth_0 : decode cX6_greatestDepth 0 = .ok (.iconst 0, 1) := by decide +kernel
theorem dX6_greatestDepth_1 : decode cX6_greatestDepth 1 = .ok (.istore_n 2, 1) := by decide +kernel
theorem dX6_greatestDepth_2 : decode cX6_greatestDepth 2 = .ok (.iconst 0, 1) := by decide +kernel
theorem dX6_greatestDepth_3 : decode cX6_greatestDepth 3 = .ok (.istore_n 3, 1) := by decide +kernel
theorem dX6_greatestDepth_4 : decode cX6_greatestDepth 4 = .ok (.iload_n 3, 1) := by decide +kernel
theorem dX6_greatestDepth_5 : decode cX6_greatestDepth 5 = .ok (.aload_n 1, 1) := by decide +kernel
theorem dX6_greatestDepth_6 : decode cX6_greatestDepth 6 = .ok (.getfield 28, 3) := by decide +kernel
theorem dX6_greatestDepth_9 : decode cX6_greatestDepth 9 = .ok (.if_icmp .ge 19, 3) := by decide +kernel
theorem dX6_greatestDepth_12 : decode cX6_greatestDepth 12 = .ok (.iload_n 2, 1) := by decide +kernel
theorem dX6_greatestDepth_13 : decode cX6_greatestDepth 13 = .ok (.aload_n 1, 1) := by decide +kernel
theorem dX6_greatestDepth_14 : decode cX6_greatestDepth 14 = .ok (.iload_n 3, 1) := by decide +kernel
theorem dX6_greatestDepth_15 : decode cX6_greatestDepth 15 = .ok (.invokevirtual 78, 3) := by decide +kernel
theorem dX6_greatestDepth_18 : decode cX6_greatestDepth 18 = .ok (.invokestatic 103, 3) := by decide +kernel
theorem dX6_greatestDepth_21 : decode cX6_greatestDepth 21 = .ok (.istore_n 2, 1) := by decide +kernel
theorem dX6_greatestDepth_22 : decode cX6_greatestDepth 22 = .ok (.iinc 3 1, 3) := by decide +kernel
theorem dX6_greatestDepth_25 : decode cX6_greatestDepth 25 = .ok (.goto (-21), 3) := by decide +kernel
theorem dX6_greatestDepth_28 : decode cX6_greatestDepth 28 = .ok (.iload_n 2, 1) := by decide +kernel
theorem dX6_greatestDepth_29 : decode cX6_greatestDepth 29 = .ok (.ireturn, 1) := by decide +kernel
theorem dX6_plainCode_0 : decode cX6_plainCode 0 = .ok (.aload_n 0, 1) := by decide +kernel
theorem dX6_plainCode_1 : decode cX6_plainCode 1 = .ok (.getfield 19, 3) := by decide +kernel
theorem dX6_plainCode_4 : decode cX6_plainCode 4 = .ok (.invokevirtual 108, 3) := by decide +kernel
theorem dX6_plainCode_7 : decode cX6_plainCode 7 = .ok (.iconst 0, 1) := by decide +kernel
theorem dX6_plainCode_8 : decode cX6_plainCode 8 = .ok (.istore_n 2, 1) := by decide +kernel
theorem dX6_plainCode_9 : decode cX6_plainCode 9 = .ok (.iload_n 2, 1) := by decide +kernel
theorem dX6_plainCode_10 : decode cX6_plainCode 10 = .ok (.aload_n 1, 1) := by decide +kernel
theorem dX6_plainCode_11 : decode cX6_plainCode 11 = .ok (.getfield 28, 3) := by decide +kernel
theorem dX6_plainCode_14 : decode cX6_plainCode 14 = .ok (.if_icmp .ge 34, 3) := by decide +kernel
theorem dX6_plainCode_17 : decode cX6_plainCode 17 = .ok (.aload_n 0, 1) := by decide +kernel
theorem dX6_plainCode_18 : decode cX6_plainCode 18 = .ok (.getfield 19, 3) := by decide +kernel
theorem dX6_plainCode_21 : decode cX6_plainCode 21 = .ok (.iload_n 2, 1) := by decide +kernel
theorem dX6_plainCode_22 : decode cX6_plainCode 22 = .ok (.invokevirtual 113, 3) := by decide +kernel
theorem dX6_plainCode_25 : decode cX6_plainCode 25 = .ok (.aload_n 1, 1) := by decide +kernel
theorem dX6_plainCode_26 : decode cX6_plainCode 26 = .ok (.iload_n 2, 1) := by decide +kernel
theorem dX6_plainCode_27 : decode cX6_plainCode 27 = .ok (.invokevirtual 96, 3) := by decide +kernel
theorem dX6_plainCode_30 : decode cX6_plainCode 30 = .ok (.ifCond .ne 12, 3) := by decide +kernel
theorem dX6_plainCode_33 : decode cX6_plainCode 33 = .ok (.aload_n 0, 1) := by decide +kernel
theorem dX6_plainCode_34 : decode cX6_plainCode 34 = .ok (.getfield 19, 3) := by decide +kernel
theorem dX6_plainCode_37 : decode cX6_plainCode 37 = .ok (.aload_n 1, 1) := by decide +kernel
theorem dX6_plainCode_38 : decode cX6_plainCode 38 = .ok (.iload_n 2, 1) := by decide +kernel
theorem dX6_plainCode_39 : decode cX6_plainCode 39 = .ok (.invokevirtual 117, 3) := by decide +kernel
theorem dX6_plainCode_42 : decode cX6_plainCode 42 = .ok (.iinc 2 1, 3) := by decide +kernel
theorem dX6_plainCode_45 : decode cX6_plainCode 45 = .ok (.goto (-36), 3) := by decide +kernel
theorem dX6_plainCode_48 : decode cX6_plainCode 48 = .ok (.aload_n 0, 1) := by decide +kernel
theorem dX6_plainCode_49 : decode cX6_plainCode 49 = .ok (.getfield 19, 3) := by decide +kernel
theorem dX6_plainCode_52 : decode cX6_plainCode 52 = .ok (.iconst 0, 1) := by decide +kernel
theorem dX6_plainCode_53 : decode cX6_plainCode 53 = .ok (.iconst 0, 1) := by decide +kernel
theorem dX6_plainCode_54 : decode cX6_plainCode 54 = .ok (.aload_n 1, 1) := by decide +kernel
theorem dX6_plainCode_55 : decode cX6_plainCode 55 = .ok (.getfield 28, 3) := by decide +kernel
theorem dX6_plainCode_58 : decode cX6_plainCode 58 = .ok (.invokevirtual 121, 3) := by decide +kernel
theorem dX6_plainCode_61 : decode cX6_plainCode 61 = .ok (.areturn, 1) := by decide +kernel
theorem dX7_go_0 : decode cX7_go 0 = .ok (.aload_n 0, 1) := by decide +kernel
theorem dX7_go_1 : decode cX7_go 1 = .ok (.getfield 12, 3) := by decide +kernel
theorem dX7_go_4 : decode cX7_go 4 = .ok (.invokevirtual 46, 3) := by decide +kernel
theorem dX7_go_7 : decode cX7_go 7 = .ok (.aload_n 0, 1) := by decide +kernel
theorem dX7_go_8 : decode cX7_go 8 = .ok (.iconst 0, 1) := by decide +kernel
theorem dX7_go_9 : decode cX7_go 9 = .ok (.putfield 49, 3) := by decide +kernel
theorem dX7_go_12 : decode cX7_go 12 = .ok (.aload_n 0, 1) := by decide +kernel
theorem dX7_go_13 : decode cX7_go 13 = .ok (.iconst 4, 1) := by decide +kernel
theorem dX7_go_14 : decode cX7_go 14 = .ok (.putfield 53, 3) := by decide +kernel
theorem dX7_go_17 : decode cX7_go 17 = .ok (.aload_n 0, 1) := by decide +kernel
theorem dX7_go_18 : decode cX7_go 18 = .ok (.iload_n 1, 1) := by decide +kernel
theorem dX7_go_19 : decode cX7_go 19 = .ok (.putfield 56, 3) := by decide +kernel
theorem dX7_go_22 : decode cX7_go 22 = .ok (.aload_n 0, 1) := by decide +kernel
theorem dX7_go_23 : decode cX7_go 23 = .ok (.iconst 0, 1) := by decide +kernel
theorem dX7_go_24 : decode cX7_go 24 = .ok (.putfield 59, 3) := by decide +kernel
theorem dX7_go_27 : decode cX7_go 27 = .ok (.aload_n 0, 1) := by decide +kernel
theorem dX7_go_28 : decode cX7_go 28 = .ok (.getfield 24, 3) := by decide +kernel
theorem dX7_go_31 : decode cX7_go 31 = .ok (.iconst 0, 1) := by decide +kernel
theorem dX7_go_32 : decode cX7_go 32 = .ok (.iload_n 2, 1) := by decide +kernel
theorem dX7_go_33 : decode cX7_go 33 = .ok (.iastore, 1) := by decide +kernel
theorem dX7_go_34 : decode cX7_go 34 = .ok (.aload_n 0, 1) := by decide +kernel
theorem dX7_go_35 : decode cX7_go 35 = .ok (.getfield 24, 3) := by decide +kernel
theorem dX7_go_38 : decode cX7_go 38 = .ok (.iconst 1, 1) := by decide +kernel
theorem dX7_go_39 : decode cX7_go 39 = .ok (.iload_n 3, 1) := by decide +kernel
theorem dX7_go_40 : decode cX7_go 40 = .ok (.iastore, 1) := by decide +kernel
theorem dX7_go_41 : decode cX7_go 41 = .ok (.aload_n 0, 1) := by decide +kernel
theorem dX7_go_42 : decode cX7_go 42 = .ok (.getfield 24, 3) := by decide +kernel
theorem dX7_go_45 : decode cX7_go 45 = .ok (.iconst 2, 1) := by decide +kernel
theorem dX7_go_46 : decode cX7_go 46 = .ok (.iload 4, 2) := by decide +kernel
theorem dX7_go_48 : decode cX7_go 48 = .ok (.iastore, 1) := by decide +kernel
theorem dX7_go_49 : decode cX7_go 49 = .ok (.iconst 0, 1) := by decide +kernel
theorem dX7_go_50 : decode cX7_go 50 = .ok (.istore 5, 2) := by decide +kernel
theorem dX7_go_52 : decode cX7_go 52 = .ok (.iload 5, 2) := by decide +kernel
theorem dX7_go_54 : decode cX7_go 54 = .ok (.ldc 62, 2) := by decide +kernel
theorem dX7_go_56 : decode cX7_go 56 = .ok (.if_icmp .ge 40, 3) := by decide +kernel
theorem dX7_go_59 : decode cX7_go 59 = .ok (.aload_n 0, 1) := by decide +kernel
theorem dX7_go_60 : decode cX7_go 60 = .ok (.getfield 53, 3) := by decide +kernel
theorem dX7_go_63 : decode cX7_go 63 = .ok (.iconst 4, 1) := by decide +kernel
theorem dX7_go_64 : decode cX7_go 64 = .ok (.if_icmp .ne 32, 3) := by decide +kernel
theorem dX7_go_67 : decode cX7_go 67 = .ok (.aload_n 0, 1) := by decide +kernel
theorem dX7_go_68 : decode cX7_go 68 = .ok (.getfield 56, 3) := by decide +kernel
theorem dX7_go_71 : decode cX7_go 71 = .ok (.iconst (-1), 1) := by decide +kernel
theorem dX7_go_72 : decode cX7_go 72 = .ok (.if_icmp .ne 10, 3) := by decide +kernel
theorem dX7_go_75 : decode cX7_go 75 = .ok (.aload_n 0, 1) := by decide +kernel
theorem dX7_go_76 : decode cX7_go 76 = .ok (.invokevirtual 63, 3) := by decide +kernel
theorem dX7_go_79 : decode cX7_go 79 = .ok (.goto 11, 3) := by decide +kernel
theorem dX7_go_82 : decode cX7_go 82 = .ok (.aload_n 0, 1) := by decide +kernel
theorem dX7_go_83 : decode cX7_go 83 = .ok (.invokevirtual 66, 3) := by decide +kernel
theorem dX7_go_86 : decode cX7_go 86 = .ok (.aload_n 0, 1) := by decide +kernel
theorem dX7_go_87 : decode cX7_go 87 = .ok (.invokevirtual 69, 3) := by decide +kernel
theorem dX7_go_90 : decode cX7_go 90 = .ok (.iinc 5 1, 3) := by decide +kernel
theorem dX7_go_93 : decode cX7_go 93 = .ok (.goto (-41), 3) := by decide +kernel
theorem dX7_go_96 : decode cX7_go 96 = .ok (.aload_n 0, 1) := by decide +kernel
theorem dX7_go_97 : decode cX7_go 97 = .ok (.getfield 53, 3) := by decide +kernel
theorem dX7_go_100 : decode cX7_go 100 = .ok (.iconst 4, 1) := by decide +kernel
theorem dX7_go_101 : decode cX7_go 101 = .ok (.if_icmp .ne 7, 3) := by decide +kernel
theorem dX7_go_104 : decode cX7_go 104 = .ok (.iconst 3, 1) := by decide +kernel
theorem dX7_go_105 : decode cX7_go 105 = .ok (.goto 7, 3) := by decide +kernel
theorem dX7_go_108 : decode cX7_go 108 = .ok (.aload_n 0, 1) := by decide +kernel
theorem dX7_go_109 : decode cX7_go 109 = .ok (.getfield 53, 3) := by decide +kernel
theorem dX7_go_112 : decode cX7_go 112 = .ok (.ireturn, 1) := by decide +kernel
theorem dX7_begin_0 : decode cX7_begin 0 = .ok (.aload_n 0, 1) := by decide +kernel
theorem dX7_begin_1 : decode cX7_begin 1 = .ok (.getfield 28, 3) := by decide +kernel
theorem dX7_begin_4 : decode cX7_begin 4 = .ok (.aload_n 0, 1) := by decide +kernel
theorem dX7_begin_5 : decode cX7_begin 5 = .ok (.getfield 56, 3) := by decide +kernel
theorem dX7_begin_8 : decode cX7_begin 8 = .ok (.invokevirtual 72, 3) := by decide +kernel
theorem dX7_begin_11 : decode cX7_begin 11 = .ok (.astore_n 1, 1) := by decide +kernel
theorem dX7_begin_12 : decode cX7_begin 12 = .ok (.aload_n 0, 1) := by decide +kernel
theorem dX7_begin_13 : decode cX7_begin 13 = .ok (.iconst (-1), 1) := by decide +kernel
theorem dX7_begin_14 : decode cX7_begin 14 = .ok (.putfield 56, 3) := by decide +kernel
theorem dX7_begin_17 : decode cX7_begin 17 = .ok (.aload_n 0, 1) := by decide +kernel
theorem dX7_begin_18 : decode cX7_begin 18 = .ok (.invokevirtual 78, 3) := by decide +kernel
theorem dX7_begin_21 : decode cX7_begin 21 = .ok (.aload_n 0, 1) := by decide +kernel
theorem dX7_begin_22 : decode cX7_begin 22 = .ok (.getfield 53, 3) := by decide +kernel
theorem dX7_begin_25 : decode cX7_begin 25 = .ok (.iconst 4, 1) := by decide +kernel
theorem dX7_begin_26 : decode cX7_begin 26 = .ok (.if_icmp .eq 4, 3) := by decide +kernel
theorem dX7_begin_29 : decode cX7_begin 29 = .ok (.return_, 1) := by decide +kernel
theorem dX7_begin_30 : decode cX7_begin 30 = .ok (.aload_n 1, 1) := by decide +kernel
theorem dX7_begin_31 : decode cX7_begin 31 = .ok (.ifnull 19, 3) := by decide +kernel
theorem dX7_begin_34 : decode cX7_begin 34 = .ok (.aload_n 0, 1) := by decide +kernel
theorem dX7_begin_35 : decode cX7_begin 35 = .ok (.getfield 49, 3) := by decide +kernel
theorem dX7_begin_38 : decode cX7_begin 38 = .ok (.ifCond .lt 12, 3) := by decide +kernel
theorem dX7_begin_41 : decode cX7_begin 41 = .ok (.aload_n 0, 1) := by decide +kernel
theorem dX7_begin_42 : decode cX7_begin 42 = .ok (.getfield 49, 3) := by decide +kernel
theorem dX7_begin_45 : decode cX7_begin 45 = .ok (.bipush 16, 2) := by decide +kernel
theorem dX7_begin_47 : decode cX7_begin 47 = .ok (.if_icmp .lt 9, 3) := by decide +kernel
theorem dX7_begin_50 : decode cX7_begin 50 = .ok (.aload_n 0, 1) := by decide +kernel
theorem dX7_begin_51 : decode cX7_begin 51 = .ok (.iconst 3, 1) := by decide +kernel
theorem dX7_begin_52 : decode cX7_begin 52 = .ok (.putfield 53, 3) := by decide +kernel
theorem dX7_begin_55 : decode cX7_begin 55 = .ok (.return_, 1) := by decide +kernel
theorem dX7_begin_56 : decode cX7_begin 56 = .ok (.aload_n 0, 1) := by decide +kernel
theorem dX7_begin_57 : decode cX7_begin 57 = .ok (.getfield 20, 3) := by decide +kernel
theorem dX7_begin_60 : decode cX7_begin 60 = .ok (.aload_n 0, 1) := by decide +kernel
theorem dX7_begin_61 : decode cX7_begin 61 = .ok (.getfield 49, 3) := by decide +kernel
theorem dX7_begin_64 : decode cX7_begin 64 = .ok (.aaload, 1) := by decide +kernel
theorem dX7_begin_65 : decode cX7_begin 65 = .ok (.astore_n 2, 1) := by decide +kernel
theorem dX7_begin_66 : decode cX7_begin 66 = .ok (.aload_n 0, 1) := by decide +kernel
theorem dX7_begin_67 : decode cX7_begin 67 = .ok (.dup, 1) := by decide +kernel
theorem dX7_begin_68 : decode cX7_begin 68 = .ok (.getfield 49, 3) := by decide +kernel
theorem dX7_begin_71 : decode cX7_begin 71 = .ok (.iconst 1, 1) := by decide +kernel
theorem dX7_begin_72 : decode cX7_begin 72 = .ok (.iadd, 1) := by decide +kernel
theorem dX7_begin_73 : decode cX7_begin 73 = .ok (.putfield 49, 3) := by decide +kernel
theorem dX7_begin_76 : decode cX7_begin 76 = .ok (.aload_n 0, 1) := by decide +kernel
theorem dX7_begin_77 : decode cX7_begin 77 = .ok (.getfield 12, 3) := by decide +kernel
theorem dX7_begin_80 : decode cX7_begin 80 = .ok (.dup, 1) := by decide +kernel
theorem dX7_begin_81 : decode cX7_begin 81 = .ok (.getfield 81, 3) := by decide +kernel
theorem dX7_begin_84 : decode cX7_begin 84 = .ok (.iconst 1, 1) := by decide +kernel
theorem dX7_begin_85 : decode cX7_begin 85 = .ok (.iadd, 1) := by decide +kernel
theorem dX7_begin_86 : decode cX7_begin 86 = .ok (.putfield 81, 3) := by decide +kernel
theorem dX7_begin_89 : decode cX7_begin 89 = .ok (.aload_n 2, 1) := by decide +kernel
theorem dX7_begin_90 : decode cX7_begin 90 = .ok (.aload_n 1, 1) := by decide +kernel
theorem dX7_begin_91 : decode cX7_begin 91 = .ok (.putfield 84, 3) := by decide +kernel
theorem dX7_begin_94 : decode cX7_begin 94 = .ok (.aload_n 2, 1) := by decide +kernel
theorem dX7_begin_95 : decode cX7_begin 95 = .ok (.aload_n 1, 1) := by decide +kernel
theorem dX7_begin_96 : decode cX7_begin 96 = .ok (.getfield 88, 3) := by decide +kernel
theorem dX7_begin_99 : decode cX7_begin 99 = .ok (.putfield 94, 3) := by decide +kernel
theorem dX7_begin_102 : decode cX7_begin 102 = .ok (.aload_n 2, 1) := by decide +kernel
theorem dX7_begin_103 : decode cX7_begin 103 = .ok (.iconst 0, 1) := by decide +kernel
theorem dX7_begin_104 : decode cX7_begin 104 = .ok (.putfield 97, 3) := by decide +kernel
theorem dX7_begin_107 : decode cX7_begin 107 = .ok (.aload_n 2, 1) := by decide +kernel
theorem dX7_begin_108 : decode cX7_begin 108 = .ok (.aload_n 0, 1) := by decide +kernel
theorem dX7_begin_109 : decode cX7_begin 109 = .ok (.getfield 59, 3) := by decide +kernel
theorem dX7_begin_112 : decode cX7_begin 112 = .ok (.putfield 100, 3) := by decide +kernel
theorem dX7_begin_115 : decode cX7_begin 115 = .ok (.aload_n 2, 1) := by decide +kernel
theorem dX7_begin_116 : decode cX7_begin 116 = .ok (.invokevirtual 101, 3) := by decide +kernel
theorem dX7_begin_119 : decode cX7_begin 119 = .ok (.iconst 0, 1) := by decide +kernel
theorem dX7_begin_120 : decode cX7_begin 120 = .ok (.istore_n 3, 1) := by decide +kernel
theorem dX7_begin_121 : decode cX7_begin 121 = .ok (.iload_n 3, 1) := by decide +kernel
theorem dX7_begin_122 : decode cX7_begin 122 = .ok (.aload_n 1, 1) := by decide +kernel
theorem dX7_begin_123 : decode cX7_begin 123 = .ok (.getfield 104, 3) := by decide +kernel
theorem dX7_begin_126 : decode cX7_begin 126 = .ok (.if_icmp .ge 25, 3) := by decide +kernel
theorem dX7_begin_129 : decode cX7_begin 129 = .ok (.iload_n 3, 1) := by decide +kernel
theorem dX7_begin_130 : decode cX7_begin 130 = .ok (.iconst 3, 1) := by decide +kernel
theorem dX7_begin_131 : decode cX7_begin 131 = .ok (.if_icmp .ge 20, 3) := by decide +kernel
theorem dX7_begin_134 : decode cX7_begin 134 = .ok (.aload_n 2, 1) := by decide +kernel
theorem dX7_begin_135 : decode cX7_begin 135 = .ok (.iload_n 3, 1) := by decide +kernel
theorem dX7_begin_136 : decode cX7_begin 136 = .ok (.aload_n 0, 1) := by decide +kernel
theorem dX7_begin_137 : decode cX7_begin 137 = .ok (.getfield 24, 3) := by decide +kernel
theorem dX7_begin_140 : decode cX7_begin 140 = .ok (.iload_n 3, 1) := by decide +kernel
theorem dX7_begin_141 : decode cX7_begin 141 = .ok (.iaload, 1) := by decide +kernel
theorem dX7_begin_142 : decode cX7_begin 142 = .ok (.invokevirtual 107, 3) := by decide +kernel
theorem dX7_begin_145 : decode cX7_begin 145 = .ok (.iinc 3 1, 3) := by decide +kernel
theorem dX7_begin_148 : decode cX7_begin 148 = .ok (.goto (-27), 3) := by decide +kernel
theorem dX7_begin_151 : decode cX7_begin 151 = .ok (.return_, 1) := by decide +kernel
theorem dX7_choosePath_0 : decode cX7_choosePath 0 = .ok (.aload_n 0, 1) := by decide +kernel
theorem dX7_choosePath_1 : decode cX7_choosePath 1 = .ok (.invokevirtual 111, 3) := by decide +kernel
theorem dX7_choosePath_4 : decode cX7_choosePath 4 = .ok (.astore_n 1, 1) := by decide +kernel
theorem dX7_choosePath_5 : decode cX7_choosePath 5 = .ok (.aload_n 0, 1) := by decide +kernel
theorem dX7_choosePath_6 : decode cX7_choosePath 6 = .ok (.getfield 53, 3) := by decide +kernel
theorem dX7_choosePath_9 : decode cX7_choosePath 9 = .ok (.iconst 4, 1) := by decide +kernel
theorem dX7_choosePath_10 : decode cX7_choosePath 10 = .ok (.if_icmp .ne 14, 3) := by decide +kernel
theorem dX7_choosePath_13 : decode cX7_choosePath 13 = .ok (.aload_n 1, 1) := by decide +kernel
theorem dX7_choosePath_14 : decode cX7_choosePath 14 = .ok (.ifnull 10, 3) := by decide +kernel
theorem dX7_choosePath_17 : decode cX7_choosePath 17 = .ok (.aload_n 1, 1) := by decide +kernel
theorem dX7_choosePath_18 : decode cX7_choosePath 18 = .ok (.getfield 84, 3) := by decide +kernel
theorem dX7_choosePath_21 : decode cX7_choosePath 21 = .ok (.ifnonnull 4, 3) := by decide +kernel
theorem dX7_choosePath_24 : decode cX7_choosePath 24 = .ok (.return_, 1) := by decide +kernel
theorem dX7_choosePath_25 : decode cX7_choosePath 25 = .ok (.aload_n 1, 1) := by decide +kernel
theorem dX7_choosePath_26 : decode cX7_choosePath 26 = .ok (.getfield 84, 3) := by decide +kernel
theorem dX7_choosePath_29 : decode cX7_choosePath 29 = .ok (.getfield 115, 3) := by decide +kernel
theorem dX7_choosePath_32 : decode cX7_choosePath 32 = .ok (.astore_n 2, 1) := by decide +kernel
theorem dX7_choosePath_33 : decode cX7_choosePath 33 = .ok (.aload_n 2, 1) := by decide +kernel
theorem dX7_choosePath_34 : decode cX7_choosePath 34 = .ok (.invokevirtual 119, 3) := by decide +kernel
theorem dX7_choosePath_37 : decode cX7_choosePath 37 = .ok (.ifCond .eq 18, 3) := by decide +kernel
theorem dX7_choosePath_40 : decode cX7_choosePath 40 = .ok (.aload_n 2, 1) := by decide +kernel
theorem dX7_choosePath_41 : decode cX7_choosePath 41 = .ok (.aload_n 0, 1) := by decide +kernel
theorem dX7_choosePath_42 : decode cX7_choosePath 42 = .ok (.getfield 41, 3) := by decide +kernel
theorem dX7_choosePath_45 : decode cX7_choosePath 45 = .ok (.aload_n 1, 1) := by decide +kernel
theorem dX7_choosePath_46 : decode cX7_choosePath 46 = .ok (.getfield 84, 3) := by decide +kernel
theorem dX7_choosePath_49 : decode cX7_choosePath 49 = .ok (.invokevirtual 125, 3) := by decide +kernel
theorem dX7_choosePath_52 : decode cX7_choosePath 52 = .ok (.invokevirtual 129, 3) := by decide +kernel
theorem dX7_choosePath_55 : decode cX7_choosePath 55 = .ok (.aload_n 2, 1) := by decide +kernel
theorem dX7_choosePath_56 : decode cX7_choosePath 56 = .ok (.getfield 133, 3) := by decide +kernel
theorem dX7_choosePath_59 : decode cX7_choosePath 59 = .ok (.ifCond .eq 37, 3) := by decide +kernel
theorem dX7_choosePath_62 : decode cX7_choosePath 62 = .ok (.aload_n 1, 1) := by decide +kernel
theorem dX7_choosePath_63 : decode cX7_choosePath 63 = .ok (.aload_n 2, 1) := by decide +kernel
theorem dX7_choosePath_64 : decode cX7_choosePath 64 = .ok (.getfield 137, 3) := by decide +kernel
theorem dX7_choosePath_67 : decode cX7_choosePath 67 = .ok (.putfield 94, 3) := by decide +kernel
theorem dX7_choosePath_70 : decode cX7_choosePath 70 = .ok (.aload_n 2, 1) := by decide +kernel
theorem dX7_choosePath_71 : decode cX7_choosePath 71 = .ok (.dup, 1) := by decide +kernel
theorem dX7_choosePath_72 : decode cX7_choosePath 72 = .ok (.getfield 140, 3) := by decide +kernel
theorem dX7_choosePath_75 : decode cX7_choosePath 75 = .ok (.iconst 1, 1) := by decide +kernel
theorem dX7_choosePath_76 : decode cX7_choosePath 76 = .ok (.iadd, 1) := by decide +kernel
theorem dX7_choosePath_77 : decode cX7_choosePath 77 = .ok (.putfield 140, 3) := by decide +kernel
theorem dX7_choosePath_80 : decode cX7_choosePath 80 = .ok (.aload_n 0, 1) := by decide +kernel
theorem dX7_choosePath_81 : decode cX7_choosePath 81 = .ok (.getfield 12, 3) := by decide +kernel
theorem dX7_choosePath_84 : decode cX7_choosePath 84 = .ok (.dup, 1) := by decide +kernel
theorem dX7_choosePath_85 : decode cX7_choosePath 85 = .ok (.getfield 143, 3) := by decide +kernel
theorem dX7_choosePath_88 : decode cX7_choosePath 88 = .ok (.iconst 1, 1) := by decide +kernel
theorem dX7_choosePath_89 : decode cX7_choosePath 89 = .ok (.iadd, 1) := by decide +kernel
theorem dX7_choosePath_90 : decode cX7_choosePath 90 = .ok (.putfield 143, 3) := by decide +kernel
theorem dX7_choosePath_93 : decode cX7_choosePath 93 = .ok (.goto 12, 3) := by decide +kernel
theorem dX7_choosePath_96 : decode cX7_choosePath 96 = .ok (.aload_n 2, 1) := by decide +kernel
theorem dX7_choosePath_97 : decode cX7_choosePath 97 = .ok (.aload_n 1, 1) := by decide +kernel
theorem dX7_choosePath_98 : decode cX7_choosePath 98 = .ok (.aload_n 0, 1) := by decide +kernel
theorem dX7_choosePath_99 : decode cX7_choosePath 99 = .ok (.getfield 32, 3) := by decide +kernel
theorem dX7_choosePath_102 : decode cX7_choosePath 102 = .ok (.invokevirtual 146, 3) := by decide +kernel
theorem dX7_choosePath_105 : decode cX7_choosePath 105 = .ok (.return_, 1) := by decide +kernel
theorem dX7_latestFrame_0 : decode cX7_latestFrame 0 = .ok (.aload_n 0, 1) := by decide +kernel
theorem dX7_latestFrame_1 : decode cX7_latestFrame 1 = .ok (.getfield 49, 3) := by decide +kernel
theorem dX7_latestFrame_4 : decode cX7_latestFrame 4 = .ok (.ifCond .le 26, 3) := by decide +kernel
theorem dX7_latestFrame_7 : decode cX7_latestFrame 7 = .ok (.aload_n 0, 1) := by decide +kernel
theorem dX7_latestFrame_8 : decode cX7_latestFrame 8 = .ok (.getfield 49, 3) := by decide +kernel
theorem dX7_latestFrame_11 : decode cX7_latestFrame 11 = .ok (.bipush 16, 2) := by decide +kernel
theorem dX7_latestFrame_13 : decode cX7_latestFrame 13 = .ok (.if_icmp .gt 17, 3) := by decide +kernel
theorem dX7_latestFrame_16 : decode cX7_latestFrame 16 = .ok (.aload_n 0, 1) := by decide +kernel
theorem dX7_latestFrame_17 : decode cX7_latestFrame 17 = .ok (.getfield 20, 3) := by decide +kernel
theorem dX7_latestFrame_20 : decode cX7_latestFrame 20 = .ok (.aload_n 0, 1) := by decide +kernel
theorem dX7_latestFrame_21 : decode cX7_latestFrame 21 = .ok (.getfield 49, 3) := by decide +kernel
theorem dX7_latestFrame_24 : decode cX7_latestFrame 24 = .ok (.iconst 1, 1) := by decide +kernel
theorem dX7_latestFrame_25 : decode cX7_latestFrame 25 = .ok (.isub, 1) := by decide +kernel
theorem dX7_latestFrame_26 : decode cX7_latestFrame 26 = .ok (.aaload, 1) := by decide +kernel
theorem dX7_latestFrame_27 : decode cX7_latestFrame 27 = .ok (.goto 4, 3) := by decide +kernel
theorem dX7_latestFrame_30 : decode cX7_latestFrame 30 = .ok (.aconst_null, 1) := by decide +kernel
theorem dX7_latestFrame_31 : decode cX7_latestFrame 31 = .ok (.areturn, 1) := by decide +kernel
theorem dX7_stepOn_0 : decode cX7_stepOn 0 = .ok (.aload_n 0, 1) := by decide +kernel
theorem dX7_stepOn_1 : decode cX7_stepOn 1 = .ok (.getfield 12, 3) := by decide +kernel
theorem dX7_stepOn_4 : decode cX7_stepOn 4 = .ok (.dup, 1) := by decide +kernel
theorem dX7_stepOn_5 : decode cX7_stepOn 5 = .ok (.getfield 150, 3) := by decide +kernel
theorem dX7_stepOn_8 : decode cX7_stepOn 8 = .ok (.iconst 1, 1) := by decide +kernel
theorem dX7_stepOn_9 : decode cX7_stepOn 9 = .ok (.iadd, 1) := by decide +kernel
theorem dX7_stepOn_10 : decode cX7_stepOn 10 = .ok (.putfield 150, 3) := by decide +kernel
theorem dX7_stepOn_13 : decode cX7_stepOn 13 = .ok (.aload_n 0, 1) := by decide +kernel
theorem dX7_stepOn_14 : decode cX7_stepOn 14 = .ok (.getfield 12, 3) := by decide +kernel
theorem dX7_stepOn_17 : decode cX7_stepOn 17 = .ok (.getfield 150, 3) := by decide +kernel
theorem dX7_stepOn_20 : decode cX7_stepOn 20 = .ok (.sipush 1500, 3) := by decide +kernel
theorem dX7_stepOn_23 : decode cX7_stepOn 23 = .ok (.if_icmp .le 8, 3) := by decide +kernel
theorem dX7_stepOn_26 : decode cX7_stepOn 26 = .ok (.aload_n 0, 1) := by decide +kernel
theorem dX7_stepOn_27 : decode cX7_stepOn 27 = .ok (.iconst 3, 1) := by decide +kernel
theorem dX7_stepOn_28 : decode cX7_stepOn 28 = .ok (.putfield 53, 3) := by decide +kernel
theorem dX7_stepOn_31 : decode cX7_stepOn 31 = .ok (.return_, 1) := by decide +kernel
theorem dX7_turn_0 : decode cX7_turn 0 = .ok (.aload_n 0, 1) := by decide +kernel
theorem dX7_turn_1 : decode cX7_turn 1 = .ok (.invokevirtual 111, 3) := by decide +kernel
theorem dX7_turn_4 : decode cX7_turn 4 = .ok (.astore_n 1, 1) := by decide +kernel
theorem dX7_turn_5 : decode cX7_turn 5 = .ok (.aload_n 1, 1) := by decide +kernel
theorem dX7_turn_6 : decode cX7_turn 6 = .ok (.ifnull 38, 3) := by decide +kernel
theorem dX7_turn_9 : decode cX7_turn 9 = .ok (.aload_n 1, 1) := by decide +kernel
theorem dX7_turn_10 : decode cX7_turn 10 = .ok (.getfield 84, 3) := by decide +kernel
theorem dX7_turn_13 : decode cX7_turn 13 = .ok (.ifnull 31, 3) := by decide +kernel
theorem dX7_turn_16 : decode cX7_turn 16 = .ok (.aload_n 1, 1) := by decide +kernel
theorem dX7_turn_17 : decode cX7_turn 17 = .ok (.getfield 94, 3) := by decide +kernel
theorem dX7_turn_20 : decode cX7_turn 20 = .ok (.ifnull 24, 3) := by decide +kernel
theorem dX7_turn_23 : decode cX7_turn 23 = .ok (.aload_n 1, 1) := by decide +kernel
theorem dX7_turn_24 : decode cX7_turn 24 = .ok (.getfield 97, 3) := by decide +kernel
theorem dX7_turn_27 : decode cX7_turn 27 = .ok (.ifCond .lt 17, 3) := by decide +kernel
theorem dX7_turn_30 : decode cX7_turn 30 = .ok (.aload_n 1, 1) := by decide +kernel
theorem dX7_turn_31 : decode cX7_turn 31 = .ok (.getfield 97, 3) := by decide +kernel
theorem dX7_turn_34 : decode cX7_turn 34 = .ok (.aload_n 1, 1) := by decide +kernel
theorem dX7_turn_35 : decode cX7_turn 35 = .ok (.getfield 94, 3) := by decide +kernel
theorem dX7_turn_38 : decode cX7_turn 38 = .ok (.invokevirtual 153, 3) := by decide +kernel
theorem dX7_turn_41 : decode cX7_turn 41 = .ok (.if_icmp .lt 9, 3) := by decide +kernel
theorem dX7_turn_44 : decode cX7_turn 44 = .ok (.aload_n 0, 1) := by decide +kernel
theorem dX7_turn_45 : decode cX7_turn 45 = .ok (.iconst 3, 1) := by decide +kernel
theorem dX7_turn_46 : decode cX7_turn 46 = .ok (.putfield 53, 3) := by decide +kernel
theorem dX7_turn_49 : decode cX7_turn 49 = .ok (.return_, 1) := by decide +kernel
theorem dX7_turn_50 : decode cX7_turn 50 = .ok (.aload_n 1, 1) := by decide +kernel
theorem dX7_turn_51 : decode cX7_turn 51 = .ok (.getfield 94, 3) := by decide +kernel
theorem dX7_turn_54 : decode cX7_turn 54 = .ok (.getfield 159, 3) := by decide +kernel
theorem dX7_turn_57 : decode cX7_turn 57 = .ok (.astore_n 2, 1) := by decide +kernel
theorem dX7_turn_58 : decode cX7_turn 58 = .ok (.iconst 5, 1) := by decide +kernel
theorem dX7_turn_59 : decode cX7_turn 59 = .ok (.aload_n 1, 1) := by decide +kernel
theorem dX7_turn_60 : decode cX7_turn 60 = .ok (.getfield 97, 3) := by decide +kernel
theorem dX7_turn_63 : decode cX7_turn 63 = .ok (.imul, 1) := by decide +kernel
theorem dX7_turn_64 : decode cX7_turn 64 = .ok (.istore_n 3, 1) := by decide +kernel
theorem dX7_turn_65 : decode cX7_turn 65 = .ok (.aload_n 2, 1) := by decide +kernel
theorem dX7_turn_66 : decode cX7_turn 66 = .ok (.iload_n 3, 1) := by decide +kernel
theorem dX7_turn_67 : decode cX7_turn 67 = .ok (.iaload, 1) := by decide +kernel
theorem dX7_turn_68 : decode cX7_turn 68 = .ok (.istore 4, 2) := by decide +kernel
theorem dX7_turn_70 : decode cX7_turn 70 = .ok (.aload_n 2, 1) := by decide +kernel
theorem dX7_turn_71 : decode cX7_turn 71 = .ok (.iload_n 3, 1) := by decide +kernel
theorem dX7_turn_72 : decode cX7_turn 72 = .ok (.iconst 1, 1) := by decide +kernel
theorem dX7_turn_73 : decode cX7_turn 73 = .ok (.iadd, 1) := by decide +kernel
theorem dX7_turn_74 : decode cX7_turn 74 = .ok (.iaload, 1) := by decide +kernel
theorem dX7_turn_75 : decode cX7_turn 75 = .ok (.istore 5, 2) := by decide +kernel
theorem dX7_turn_77 : decode cX7_turn 77 = .ok (.aload_n 2, 1) := by decide +kernel
theorem dX7_turn_78 : decode cX7_turn 78 = .ok (.iload_n 3, 1) := by decide +kernel
theorem dX7_turn_79 : decode cX7_turn 79 = .ok (.iconst 2, 1) := by decide +kernel
theorem dX7_turn_80 : decode cX7_turn 80 = .ok (.iadd, 1) := by decide +kernel
theorem dX7_turn_81 : decode cX7_turn 81 = .ok (.iaload, 1) := by decide +kernel
theorem dX7_turn_82 : decode cX7_turn 82 = .ok (.istore 6, 2) := by decide +kernel
theorem dX7_turn_84 : decode cX7_turn 84 = .ok (.aload_n 2, 1) := by decide +kernel
theorem dX7_turn_85 : decode cX7_turn 85 = .ok (.iload_n 3, 1) := by decide +kernel
theorem dX7_turn_86 : decode cX7_turn 86 = .ok (.iconst 3, 1) := by decide +kernel
theorem dX7_turn_87 : decode cX7_turn 87 = .ok (.iadd, 1) := by decide +kernel
theorem dX7_turn_88 : decode cX7_turn 88 = .ok (.iaload, 1) := by decide +kernel
theorem dX7_turn_89 : decode cX7_turn 89 = .ok (.istore 7, 2) := by decide +kernel
theorem dX7_turn_91 : decode cX7_turn 91 = .ok (.aload_n 2, 1) := by decide +kernel
theorem dX7_turn_92 : decode cX7_turn 92 = .ok (.iload_n 3, 1) := by decide +kernel
theorem dX7_turn_93 : decode cX7_turn 93 = .ok (.iconst 4, 1) := by decide +kernel
theorem dX7_turn_94 : decode cX7_turn 94 = .ok (.iadd, 1) := by decide +kernel
theorem dX7_turn_95 : decode cX7_turn 95 = .ok (.iaload, 1) := by decide +kernel
theorem dX7_turn_96 : decode cX7_turn 96 = .ok (.istore 8, 2) := by decide +kernel
theorem dX7_turn_98 : decode cX7_turn 98 = .ok (.aload_n 1, 1) := by decide +kernel
theorem dX7_turn_99 : decode cX7_turn 99 = .ok (.dup, 1) := by decide +kernel
theorem dX7_turn_100 : decode cX7_turn 100 = .ok (.getfield 97, 3) := by decide +kernel
theorem dX7_turn_103 : decode cX7_turn 103 = .ok (.iconst 1, 1) := by decide +kernel
theorem dX7_turn_104 : decode cX7_turn 104 = .ok (.iadd, 1) := by decide +kernel
theorem dX7_turn_105 : decode cX7_turn 105 = .ok (.putfield 97, 3) := by decide +kernel
theorem dX7_turn_108 : decode cX7_turn 108 = .ok (.iload 4, 2) := by decide +kernel
theorem dX7_turn_110 : decode cX7_turn 110 = .ok (.tableswitch 274 0 18 #[90, 101, 274, 274, 274, 274, 274, 274, 116, 128, 149, 163, 238, 256, 274, 274, 274, 177, 205], 90) := by decide +kernel
theorem dX7_turn_200 : decode cX7_turn 200 = .ok (.aload_n 1, 1) := by decide +kernel
theorem dX7_turn_201 : decode cX7_turn 201 = .ok (.iload 5, 2) := by decide +kernel
theorem dX7_turn_203 : decode cX7_turn 203 = .ok (.iload 6, 2) := by decide +kernel
theorem dX7_turn_205 : decode cX7_turn 205 = .ok (.invokevirtual 107, 3) := by decide +kernel
theorem dX7_turn_208 : decode cX7_turn 208 = .ok (.goto 191, 3) := by decide +kernel
theorem dX7_turn_211 : decode cX7_turn 211 = .ok (.aload_n 1, 1) := by decide +kernel
theorem dX7_turn_212 : decode cX7_turn 212 = .ok (.iload 5, 2) := by decide +kernel
theorem dX7_turn_214 : decode cX7_turn 214 = .ok (.aload_n 1, 1) := by decide +kernel
theorem dX7_turn_215 : decode cX7_turn 215 = .ok (.iload 6, 2) := by decide +kernel
theorem dX7_turn_217 : decode cX7_turn 217 = .ok (.invokevirtual 162, 3) := by decide +kernel
theorem dX7_turn_220 : decode cX7_turn 220 = .ok (.invokevirtual 107, 3) := by decide +kernel
theorem dX7_turn_223 : decode cX7_turn 223 = .ok (.goto 176, 3) := by decide +kernel
theorem dX7_turn_226 : decode cX7_turn 226 = .ok (.aload_n 0, 1) := by decide +kernel
theorem dX7_turn_227 : decode cX7_turn 227 = .ok (.aload_n 1, 1) := by decide +kernel
theorem dX7_turn_228 : decode cX7_turn 228 = .ok (.iload 5, 2) := by decide +kernel
theorem dX7_turn_230 : decode cX7_turn 230 = .ok (.iload 8, 2) := by decide +kernel
theorem dX7_turn_232 : decode cX7_turn 232 = .ok (.invokevirtual 166, 3) := by decide +kernel
theorem dX7_turn_235 : decode cX7_turn 235 = .ok (.goto 164, 3) := by decide +kernel
theorem dX7_turn_238 : decode cX7_turn 238 = .ok (.aload_n 1, 1) := by decide +kernel
theorem dX7_turn_239 : decode cX7_turn 239 = .ok (.iload 6, 2) := by decide +kernel
theorem dX7_turn_241 : decode cX7_turn 241 = .ok (.invokevirtual 162, 3) := by decide +kernel
theorem dX7_turn_244 : decode cX7_turn 244 = .ok (.ifCond .ne 155, 3) := by decide +kernel
theorem dX7_turn_247 : decode cX7_turn 247 = .ok (.aload_n 0, 1) := by decide +kernel
theorem dX7_turn_248 : decode cX7_turn 248 = .ok (.aload_n 1, 1) := by decide +kernel
theorem dX7_turn_249 : decode cX7_turn 249 = .ok (.iload 5, 2) := by decide +kernel
theorem dX7_turn_251 : decode cX7_turn 251 = .ok (.iload 8, 2) := by decide +kernel
theorem dX7_turn_253 : decode cX7_turn 253 = .ok (.invokevirtual 166, 3) := by decide +kernel
theorem dX7_turn_256 : decode cX7_turn 256 = .ok (.goto 143, 3) := by decide +kernel
theorem dX7_turn_259 : decode cX7_turn 259 = .ok (.aload_n 0, 1) := by decide +kernel
theorem dX7_turn_260 : decode cX7_turn 260 = .ok (.aload_n 1, 1) := by decide +kernel
theorem dX7_turn_261 : decode cX7_turn 261 = .ok (.iload 6, 2) := by decide +kernel
theorem dX7_turn_263 : decode cX7_turn 263 = .ok (.iload 5, 2) := by decide +kernel
theorem dX7_turn_265 : decode cX7_turn 265 = .ok (.iload 8, 2) := by decide +kernel
theorem dX7_turn_267 : decode cX7_turn 267 = .ok (.invokevirtual 170, 3) := by decide +kernel
theorem dX7_turn_270 : decode cX7_turn 270 = .ok (.goto 129, 3) := by decide +kernel
theorem dX7_turn_273 : decode cX7_turn 273 = .ok (.aload_n 0, 1) := by decide +kernel
theorem dX7_turn_274 : decode cX7_turn 274 = .ok (.aload_n 1, 1) := by decide +kernel
theorem dX7_turn_275 : decode cX7_turn 275 = .ok (.aload_n 1, 1) := by decide +kernel
theorem dX7_turn_276 : decode cX7_turn 276 = .ok (.iload 6, 2) := by decide +kernel
theorem dX7_turn_278 : decode cX7_turn 278 = .ok (.invokevirtual 162, 3) := by decide +kernel
theorem dX7_turn_281 : decode cX7_turn 281 = .ok (.invokevirtual 174, 3) := by decide +kernel
theorem dX7_turn_284 : decode cX7_turn 284 = .ok (.goto 115, 3) := by decide +kernel
theorem dX7_turn_287 : decode cX7_turn 287 = .ok (.aload_n 0, 1) := by decide +kernel
theorem dX7_turn_288 : decode cX7_turn 288 = .ok (.aload_n 1, 1) := by decide +kernel
theorem dX7_turn_289 : decode cX7_turn 289 = .ok (.iload 5, 2) := by decide +kernel
theorem dX7_turn_291 : decode cX7_turn 291 = .ok (.aload_n 1, 1) := by decide +kernel
theorem dX7_turn_292 : decode cX7_turn 292 = .ok (.iload 5, 2) := by decide +kernel
theorem dX7_turn_294 : decode cX7_turn 294 = .ok (.invokevirtual 162, 3) := by decide +kernel
theorem dX7_turn_297 : decode cX7_turn 297 = .ok (.iload 6, 2) := by decide +kernel
theorem dX7_turn_299 : decode cX7_turn 299 = .ok (.if_icmp .ne 7, 3) := by decide +kernel
theorem dX7_turn_302 : decode cX7_turn 302 = .ok (.iconst 1, 1) := by decide +kernel
theorem dX7_turn_303 : decode cX7_turn 303 = .ok (.goto 4, 3) := by decide +kernel
theorem dX7_turn_306 : decode cX7_turn 306 = .ok (.iconst 0, 1) := by decide +kernel
theorem dX7_turn_307 : decode cX7_turn 307 = .ok (.iload 8, 2) := by decide +kernel
theorem dX7_turn_309 : decode cX7_turn 309 = .ok (.invokevirtual 178, 3) := by decide +kernel
theorem dX7_turn_312 : decode cX7_turn 312 = .ok (.goto 87, 3) := by decide +kernel
theorem dX7_turn_315 : decode cX7_turn 315 = .ok (.aload_n 0, 1) := by decide +kernel
theorem dX7_turn_316 : decode cX7_turn 316 = .ok (.aload_n 1, 1) := by decide +kernel
theorem dX7_turn_317 : decode cX7_turn 317 = .ok (.iconst 3, 1) := by decide +kernel
theorem dX7_turn_318 : decode cX7_turn 318 = .ok (.iload 5, 2) := by decide +kernel
theorem dX7_turn_320 : decode cX7_turn 320 = .ok (.iadd, 1) := by decide +kernel
theorem dX7_turn_321 : decode cX7_turn 321 = .ok (.aload_n 0, 1) := by decide +kernel
theorem dX7_turn_322 : decode cX7_turn 322 = .ok (.getfield 32, 3) := by decide +kernel
theorem dX7_turn_325 : decode cX7_turn 325 = .ok (.iload 5, 2) := by decide +kernel
theorem dX7_turn_327 : decode cX7_turn 327 = .ok (.invokevirtual 182, 3) := by decide +kernel
theorem dX7_turn_330 : decode cX7_turn 330 = .ok (.iload 6, 2) := by decide +kernel
theorem dX7_turn_332 : decode cX7_turn 332 = .ok (.if_icmp .ne 7, 3) := by decide +kernel
theorem dX7_turn_335 : decode cX7_turn 335 = .ok (.iconst 1, 1) := by decide +kernel
theorem dX7_turn_336 : decode cX7_turn 336 = .ok (.goto 4, 3) := by decide +kernel
theorem dX7_turn_339 : decode cX7_turn 339 = .ok (.iconst 0, 1) := by decide +kernel
theorem dX7_turn_340 : decode cX7_turn 340 = .ok (.iload 8, 2) := by decide +kernel
theorem dX7_turn_342 : decode cX7_turn 342 = .ok (.invokevirtual 178, 3) := by decide +kernel
theorem dX7_turn_345 : decode cX7_turn 345 = .ok (.goto 54, 3) := by decide +kernel
theorem dX7_turn_348 : decode cX7_turn 348 = .ok (.aload_n 1, 1) := by decide +kernel
theorem dX7_turn_349 : decode cX7_turn 349 = .ok (.iload 5, 2) := by decide +kernel
theorem dX7_turn_351 : decode cX7_turn 351 = .ok (.aload_n 0, 1) := by decide +kernel
theorem dX7_turn_352 : decode cX7_turn 352 = .ok (.getfield 32, 3) := by decide +kernel
theorem dX7_turn_355 : decode cX7_turn 355 = .ok (.iload 6, 2) := by decide +kernel
theorem dX7_turn_357 : decode cX7_turn 357 = .ok (.invokevirtual 182, 3) := by decide +kernel
theorem dX7_turn_360 : decode cX7_turn 360 = .ok (.invokevirtual 107, 3) := by decide +kernel
theorem dX7_turn_363 : decode cX7_turn 363 = .ok (.goto 36, 3) := by decide +kernel
theorem dX7_turn_366 : decode cX7_turn 366 = .ok (.aload_n 0, 1) := by decide +kernel
theorem dX7_turn_367 : decode cX7_turn 367 = .ok (.getfield 32, 3) := by decide +kernel
theorem dX7_turn_370 : decode cX7_turn 370 = .ok (.iload 5, 2) := by decide +kernel
theorem dX7_turn_372 : decode cX7_turn 372 = .ok (.aload_n 1, 1) := by decide +kernel
theorem dX7_turn_373 : decode cX7_turn 373 = .ok (.iload 6, 2) := by decide +kernel
theorem dX7_turn_375 : decode cX7_turn 375 = .ok (.invokevirtual 162, 3) := by decide +kernel
theorem dX7_turn_378 : decode cX7_turn 378 = .ok (.invokevirtual 185, 3) := by decide +kernel
theorem dX7_turn_381 : decode cX7_turn 381 = .ok (.goto 18, 3) := by decide +kernel
theorem dX7_turn_384 : decode cX7_turn 384 = .ok (.aload_n 0, 1) := by decide +kernel
theorem dX7_turn_385 : decode cX7_turn 385 = .ok (.aload_n 1, 1) := by decide +kernel
theorem dX7_turn_386 : decode cX7_turn 386 = .ok (.iload 4, 2) := by decide +kernel
theorem dX7_turn_388 : decode cX7_turn 388 = .ok (.iload 5, 2) := by decide +kernel
theorem dX7_turn_390 : decode cX7_turn 390 = .ok (.iload 6, 2) := by decide +kernel
theorem dX7_turn_392 : decode cX7_turn 392 = .ok (.iload 7, 2) := by decide +kernel
theorem dX7_turn_394 : decode cX7_turn 394 = .ok (.iload 8, 2) := by decide +kernel
theorem dX7_turn_396 : decode cX7_turn 396 = .ok (.invokevirtual 186, 3) := by decide +kernel
theorem dX7_turn_399 : decode cX7_turn 399 = .ok (.return_, 1) := by decide +kernel
theorem dX7_turnThatMayTrap_0 : decode cX7_turnThatMayTrap 0 = .ok (.iload_n 2, 1) := by decide +kernel
theorem dX7_turnThatMayTrap_1 : decode cX7_turnThatMayTrap 1 = .ok (.tableswitch 125 14 16 #[27, 44, 85], 27) := by decide +kernel
theorem dX7_turnThatMayTrap_28 : decode cX7_turnThatMayTrap 28 = .ok (.aload_n 0, 1) := by decide +kernel
theorem dX7_turnThatMayTrap_29 : decode cX7_turnThatMayTrap 29 = .ok (.aload_n 1, 1) := by decide +kernel
theorem dX7_turnThatMayTrap_30 : decode cX7_turnThatMayTrap 30 = .ok (.iload_n 3, 1) := by decide +kernel
theorem dX7_turnThatMayTrap_31 : decode cX7_turnThatMayTrap 31 = .ok (.aload_n 1, 1) := by decide +kernel
theorem dX7_turnThatMayTrap_32 : decode cX7_turnThatMayTrap 32 = .ok (.iload 4, 2) := by decide +kernel
theorem dX7_turnThatMayTrap_34 : decode cX7_turnThatMayTrap 34 = .ok (.invokevirtual 162, 3) := by decide +kernel
theorem dX7_turnThatMayTrap_37 : decode cX7_turnThatMayTrap 37 = .ok (.iload 6, 2) := by decide +kernel
theorem dX7_turnThatMayTrap_39 : decode cX7_turnThatMayTrap 39 = .ok (.invokevirtual 190, 3) := by decide +kernel
theorem dX7_turnThatMayTrap_42 : decode cX7_turnThatMayTrap 42 = .ok (.goto 130, 3) := by decide +kernel
theorem dX7_turnThatMayTrap_45 : decode cX7_turnThatMayTrap 45 = .ok (.aload_n 0, 1) := by decide +kernel
theorem dX7_turnThatMayTrap_46 : decode cX7_turnThatMayTrap 46 = .ok (.aload_n 1, 1) := by decide +kernel
theorem dX7_turnThatMayTrap_47 : decode cX7_turnThatMayTrap 47 = .ok (.iload 4, 2) := by decide +kernel
theorem dX7_turnThatMayTrap_49 : decode cX7_turnThatMayTrap 49 = .ok (.aload_n 1, 1) := by decide +kernel
theorem dX7_turnThatMayTrap_50 : decode cX7_turnThatMayTrap 50 = .ok (.iload 5, 2) := by decide +kernel
theorem dX7_turnThatMayTrap_52 : decode cX7_turnThatMayTrap 52 = .ok (.invokevirtual 162, 3) := by decide +kernel
theorem dX7_turnThatMayTrap_55 : decode cX7_turnThatMayTrap 55 = .ok (.iload 6, 2) := by decide +kernel
theorem dX7_turnThatMayTrap_57 : decode cX7_turnThatMayTrap 57 = .ok (.invokevirtual 193, 3) := by decide +kernel
theorem dX7_turnThatMayTrap_60 : decode cX7_turnThatMayTrap 60 = .ok (.ifCond .eq 112, 3) := by decide +kernel
theorem dX7_turnThatMayTrap_63 : decode cX7_turnThatMayTrap 63 = .ok (.aload_n 1, 1) := by decide +kernel
theorem dX7_turnThatMayTrap_64 : decode cX7_turnThatMayTrap 64 = .ok (.iload_n 3, 1) := by decide +kernel
theorem dX7_turnThatMayTrap_65 : decode cX7_turnThatMayTrap 65 = .ok (.aload_n 0, 1) := by decide +kernel
theorem dX7_turnThatMayTrap_66 : decode cX7_turnThatMayTrap 66 = .ok (.getfield 32, 3) := by decide +kernel
theorem dX7_turnThatMayTrap_69 : decode cX7_turnThatMayTrap 69 = .ok (.iload 4, 2) := by decide +kernel
theorem dX7_turnThatMayTrap_71 : decode cX7_turnThatMayTrap 71 = .ok (.aload_n 1, 1) := by decide +kernel
theorem dX7_turnThatMayTrap_72 : decode cX7_turnThatMayTrap 72 = .ok (.iload 5, 2) := by decide +kernel
theorem dX7_turnThatMayTrap_74 : decode cX7_turnThatMayTrap 74 = .ok (.invokevirtual 162, 3) := by decide +kernel
theorem dX7_turnThatMayTrap_77 : decode cX7_turnThatMayTrap 77 = .ok (.invokevirtual 197, 3) := by decide +kernel
theorem dX7_turnThatMayTrap_80 : decode cX7_turnThatMayTrap 80 = .ok (.invokevirtual 107, 3) := by decide +kernel
theorem dX7_turnThatMayTrap_83 : decode cX7_turnThatMayTrap 83 = .ok (.goto 89, 3) := by decide +kernel
theorem dX7_turnThatMayTrap_86 : decode cX7_turnThatMayTrap 86 = .ok (.aload_n 0, 1) := by decide +kernel
theorem dX7_turnThatMayTrap_87 : decode cX7_turnThatMayTrap 87 = .ok (.aload_n 1, 1) := by decide +kernel
theorem dX7_turnThatMayTrap_88 : decode cX7_turnThatMayTrap 88 = .ok (.iload_n 3, 1) := by decide +kernel
theorem dX7_turnThatMayTrap_89 : decode cX7_turnThatMayTrap 89 = .ok (.aload_n 1, 1) := by decide +kernel
theorem dX7_turnThatMayTrap_90 : decode cX7_turnThatMayTrap 90 = .ok (.iload 4, 2) := by decide +kernel
theorem dX7_turnThatMayTrap_92 : decode cX7_turnThatMayTrap 92 = .ok (.invokevirtual 162, 3) := by decide +kernel
theorem dX7_turnThatMayTrap_95 : decode cX7_turnThatMayTrap 95 = .ok (.iload 6, 2) := by decide +kernel
theorem dX7_turnThatMayTrap_97 : decode cX7_turnThatMayTrap 97 = .ok (.invokevirtual 193, 3) := by decide +kernel
theorem dX7_turnThatMayTrap_100 : decode cX7_turnThatMayTrap 100 = .ok (.ifCond .eq 72, 3) := by decide +kernel
theorem dX7_turnThatMayTrap_103 : decode cX7_turnThatMayTrap 103 = .ok (.aload_n 0, 1) := by decide +kernel
theorem dX7_turnThatMayTrap_104 : decode cX7_turnThatMayTrap 104 = .ok (.getfield 32, 3) := by decide +kernel
theorem dX7_turnThatMayTrap_107 : decode cX7_turnThatMayTrap 107 = .ok (.iload_n 3, 1) := by decide +kernel
theorem dX7_turnThatMayTrap_108 : decode cX7_turnThatMayTrap 108 = .ok (.aload_n 1, 1) := by decide +kernel
theorem dX7_turnThatMayTrap_109 : decode cX7_turnThatMayTrap 109 = .ok (.iload 4, 2) := by decide +kernel
theorem dX7_turnThatMayTrap_111 : decode cX7_turnThatMayTrap 111 = .ok (.invokevirtual 162, 3) := by decide +kernel
theorem dX7_turnThatMayTrap_114 : decode cX7_turnThatMayTrap 114 = .ok (.aload_n 1, 1) := by decide +kernel
theorem dX7_turnThatMayTrap_115 : decode cX7_turnThatMayTrap 115 = .ok (.iload 5, 2) := by decide +kernel
theorem dX7_turnThatMayTrap_117 : decode cX7_turnThatMayTrap 117 = .ok (.invokevirtual 162, 3) := by decide +kernel
theorem dX7_turnThatMayTrap_120 : decode cX7_turnThatMayTrap 120 = .ok (.invokevirtual 201, 3) := by decide +kernel
theorem dX7_turnThatMayTrap_123 : decode cX7_turnThatMayTrap 123 = .ok (.goto 49, 3) := by decide +kernel
theorem dX7_turnThatMayTrap_126 : decode cX7_turnThatMayTrap 126 = .ok (.iload_n 2, 1) := by decide +kernel
theorem dX7_turnThatMayTrap_127 : decode cX7_turnThatMayTrap 127 = .ok (.iconst 5, 1) := by decide +kernel
theorem dX7_turnThatMayTrap_128 : decode cX7_turnThatMayTrap 128 = .ok (.if_icmp .ne 23, 3) := by decide +kernel
theorem dX7_turnThatMayTrap_131 : decode cX7_turnThatMayTrap 131 = .ok (.aload_n 1, 1) := by decide +kernel
theorem dX7_turnThatMayTrap_132 : decode cX7_turnThatMayTrap 132 = .ok (.iload 5, 2) := by decide +kernel
theorem dX7_turnThatMayTrap_134 : decode cX7_turnThatMayTrap 134 = .ok (.invokevirtual 162, 3) := by decide +kernel
theorem dX7_turnThatMayTrap_137 : decode cX7_turnThatMayTrap 137 = .ok (.ifCond .ne 14, 3) := by decide +kernel
theorem dX7_turnThatMayTrap_140 : decode cX7_turnThatMayTrap 140 = .ok (.aload_n 0, 1) := by decide +kernel
theorem dX7_turnThatMayTrap_141 : decode cX7_turnThatMayTrap 141 = .ok (.aload_n 1, 1) := by decide +kernel
theorem dX7_turnThatMayTrap_142 : decode cX7_turnThatMayTrap 142 = .ok (.iconst 1, 1) := by decide +kernel
theorem dX7_turnThatMayTrap_143 : decode cX7_turnThatMayTrap 143 = .ok (.iload 6, 2) := by decide +kernel
theorem dX7_turnThatMayTrap_145 : decode cX7_turnThatMayTrap 145 = .ok (.invokevirtual 205, 3) := by decide +kernel
theorem dX7_turnThatMayTrap_148 : decode cX7_turnThatMayTrap 148 = .ok (.goto 24, 3) := by decide +kernel
theorem dX7_turnThatMayTrap_151 : decode cX7_turnThatMayTrap 151 = .ok (.aload_n 1, 1) := by decide +kernel
theorem dX7_turnThatMayTrap_152 : decode cX7_turnThatMayTrap 152 = .ok (.iload_n 3, 1) := by decide +kernel
theorem dX7_turnThatMayTrap_153 : decode cX7_turnThatMayTrap 153 = .ok (.iload_n 2, 1) := by decide +kernel
theorem dX7_turnThatMayTrap_154 : decode cX7_turnThatMayTrap 154 = .ok (.aload_n 1, 1) := by decide +kernel
theorem dX7_turnThatMayTrap_155 : decode cX7_turnThatMayTrap 155 = .ok (.iload 4, 2) := by decide +kernel
theorem dX7_turnThatMayTrap_157 : decode cX7_turnThatMayTrap 157 = .ok (.invokevirtual 162, 3) := by decide +kernel
theorem dX7_turnThatMayTrap_160 : decode cX7_turnThatMayTrap 160 = .ok (.aload_n 1, 1) := by decide +kernel
theorem dX7_turnThatMayTrap_161 : decode cX7_turnThatMayTrap 161 = .ok (.iload 5, 2) := by decide +kernel
theorem dX7_turnThatMayTrap_163 : decode cX7_turnThatMayTrap 163 = .ok (.invokevirtual 162, 3) := by decide +kernel
theorem dX7_turnThatMayTrap_166 : decode cX7_turnThatMayTrap 166 = .ok (.invokestatic 208, 3) := by decide +kernel
theorem dX7_turnThatMayTrap_169 : decode cX7_turnThatMayTrap 169 = .ok (.invokevirtual 107, 3) := by decide +kernel
theorem dX7_turnThatMayTrap_172 : decode cX7_turnThatMayTrap 172 = .ok (.return_, 1) := by decide +kernel
theorem dX7_goTo_0 : decode cX7_goTo 0 = .ok (.iload_n 2, 1) := by decide +kernel
theorem dX7_goTo_1 : decode cX7_goTo 1 = .ok (.iload_n 3, 1) := by decide +kernel
theorem dX7_goTo_2 : decode cX7_goTo 2 = .ok (.if_icmp .gt 7, 3) := by decide +kernel
theorem dX7_goTo_5 : decode cX7_goTo 5 = .ok (.aload_n 0, 1) := by decide +kernel
theorem dX7_goTo_6 : decode cX7_goTo 6 = .ok (.invokevirtual 78, 3) := by decide +kernel
theorem dX7_goTo_9 : decode cX7_goTo 9 = .ok (.aload_n 1, 1) := by decide +kernel
theorem dX7_goTo_10 : decode cX7_goTo 10 = .ok (.aload_n 1, 1) := by decide +kernel
theorem dX7_goTo_11 : decode cX7_goTo 11 = .ok (.getfield 94, 3) := by decide +kernel
theorem dX7_goTo_14 : decode cX7_goTo 14 = .ok (.iload_n 2, 1) := by decide +kernel
theorem dX7_goTo_15 : decode cX7_goTo 15 = .ok (.invokevirtual 212, 3) := by decide +kernel
theorem dX7_goTo_18 : decode cX7_goTo 18 = .ok (.putfield 97, 3) := by decide +kernel
theorem dX7_goTo_21 : decode cX7_goTo 21 = .ok (.return_, 1) := by decide +kernel
theorem dX7_call_0 : decode cX7_call 0 = .ok (.aload_n 0, 1) := by decide +kernel
theorem dX7_call_1 : decode cX7_call 1 = .ok (.getfield 49, 3) := by decide +kernel
theorem dX7_call_4 : decode cX7_call 4 = .ok (.bipush 16, 2) := by decide +kernel
theorem dX7_call_6 : decode cX7_call 6 = .ok (.if_icmp .lt 13, 3) := by decide +kernel
theorem dX7_call_9 : decode cX7_call 9 = .ok (.aload_n 0, 1) := by decide +kernel
theorem dX7_call_10 : decode cX7_call 10 = .ok (.aload_n 1, 1) := by decide +kernel
theorem dX7_call_11 : decode cX7_call 11 = .ok (.bipush 6, 2) := by decide +kernel
theorem dX7_call_13 : decode cX7_call 13 = .ok (.iload 4, 2) := by decide +kernel
theorem dX7_call_15 : decode cX7_call 15 = .ok (.invokevirtual 205, 3) := by decide +kernel
theorem dX7_call_18 : decode cX7_call 18 = .ok (.return_, 1) := by decide +kernel
theorem dX7_call_19 : decode cX7_call 19 = .ok (.aload_n 0, 1) := by decide +kernel
theorem dX7_call_20 : decode cX7_call 20 = .ok (.iload_n 2, 1) := by decide +kernel
theorem dX7_call_21 : decode cX7_call 21 = .ok (.putfield 56, 3) := by decide +kernel
theorem dX7_call_24 : decode cX7_call 24 = .ok (.aload_n 0, 1) := by decide +kernel
theorem dX7_call_25 : decode cX7_call 25 = .ok (.iload_n 3, 1) := by decide +kernel
theorem dX7_call_26 : decode cX7_call 26 = .ok (.putfield 59, 3) := by decide +kernel
theorem dX7_call_29 : decode cX7_call 29 = .ok (.iconst 0, 1) := by decide +kernel
theorem dX7_call_30 : decode cX7_call 30 = .ok (.istore 5, 2) := by decide +kernel
theorem dX7_call_32 : decode cX7_call 32 = .ok (.iload 5, 2) := by decide +kernel
theorem dX7_call_34 : decode cX7_call 34 = .ok (.iconst 3, 1) := by decide +kernel
theorem dX7_call_35 : decode cX7_call 35 = .ok (.if_icmp .ge 24, 3) := by decide +kernel
theorem dX7_call_38 : decode cX7_call 38 = .ok (.aload_n 0, 1) := by decide +kernel
theorem dX7_call_39 : decode cX7_call 39 = .ok (.getfield 24, 3) := by decide +kernel
theorem dX7_call_42 : decode cX7_call 42 = .ok (.iload 5, 2) := by decide +kernel
theorem dX7_call_44 : decode cX7_call 44 = .ok (.aload_n 1, 1) := by decide +kernel
theorem dX7_call_45 : decode cX7_call 45 = .ok (.iload_n 3, 1) := by decide +kernel
theorem dX7_call_46 : decode cX7_call 46 = .ok (.iload 5, 2) := by decide +kernel
theorem dX7_call_48 : decode cX7_call 48 = .ok (.iadd, 1) := by decide +kernel
theorem dX7_call_49 : decode cX7_call 49 = .ok (.invokevirtual 162, 3) := by decide +kernel
theorem dX7_call_52 : decode cX7_call 52 = .ok (.iastore, 1) := by decide +kernel
theorem dX7_call_53 : decode cX7_call 53 = .ok (.iinc 5 1, 3) := by decide +kernel
theorem dX7_call_56 : decode cX7_call 56 = .ok (.goto (-24), 3) := by decide +kernel
theorem dX7_call_59 : decode cX7_call 59 = .ok (.return_, 1) := by decide +kernel
theorem dX7_giveBack_0 : decode cX7_giveBack 0 = .ok (.aload_n 0, 1) := by decide +kernel
theorem dX7_giveBack_1 : decode cX7_giveBack 1 = .ok (.dup, 1) := by decide +kernel
theorem dX7_giveBack_2 : decode cX7_giveBack 2 = .ok (.getfield 49, 3) := by decide +kernel
theorem dX7_giveBack_5 : decode cX7_giveBack 5 = .ok (.iconst 1, 1) := by decide +kernel
theorem dX7_giveBack_6 : decode cX7_giveBack 6 = .ok (.isub, 1) := by decide +kernel
theorem dX7_giveBack_7 : decode cX7_giveBack 7 = .ok (.putfield 49, 3) := by decide +kernel
theorem dX7_giveBack_10 : decode cX7_giveBack 10 = .ok (.aload_n 0, 1) := by decide +kernel
theorem dX7_giveBack_11 : decode cX7_giveBack 11 = .ok (.invokevirtual 111, 3) := by decide +kernel
theorem dX7_giveBack_14 : decode cX7_giveBack 14 = .ok (.astore_n 3, 1) := by decide +kernel
theorem dX7_giveBack_15 : decode cX7_giveBack 15 = .ok (.aload_n 3, 1) := by decide +kernel
theorem dX7_giveBack_16 : decode cX7_giveBack 16 = .ok (.ifnonnull 19, 3) := by decide +kernel
theorem dX7_giveBack_19 : decode cX7_giveBack 19 = .ok (.aload_n 0, 1) := by decide +kernel
theorem dX7_giveBack_20 : decode cX7_giveBack 20 = .ok (.getfield 12, 3) := by decide +kernel
theorem dX7_giveBack_23 : decode cX7_giveBack 23 = .ok (.iload_n 2, 1) := by decide +kernel
theorem dX7_giveBack_24 : decode cX7_giveBack 24 = .ok (.putfield 215, 3) := by decide +kernel
theorem dX7_giveBack_27 : decode cX7_giveBack 27 = .ok (.aload_n 0, 1) := by decide +kernel
theorem dX7_giveBack_28 : decode cX7_giveBack 28 = .ok (.iconst 0, 1) := by decide +kernel
theorem dX7_giveBack_29 : decode cX7_giveBack 29 = .ok (.putfield 53, 3) := by decide +kernel
theorem dX7_giveBack_32 : decode cX7_giveBack 32 = .ok (.goto 12, 3) := by decide +kernel
theorem dX7_giveBack_35 : decode cX7_giveBack 35 = .ok (.aload_n 3, 1) := by decide +kernel
theorem dX7_giveBack_36 : decode cX7_giveBack 36 = .ok (.aload_n 1, 1) := by decide +kernel
theorem dX7_giveBack_37 : decode cX7_giveBack 37 = .ok (.getfield 100, 3) := by decide +kernel
theorem dX7_giveBack_40 : decode cX7_giveBack 40 = .ok (.iload_n 2, 1) := by decide +kernel
theorem dX7_giveBack_41 : decode cX7_giveBack 41 = .ok (.invokevirtual 107, 3) := by decide +kernel
theorem dX7_giveBack_44 : decode cX7_giveBack 44 = .ok (.return_, 1) := by decide +kernel
theorem dX7_guard_0 : decode cX7_guard 0 = .ok (.iload_n 3, 1) := by decide +kernel
theorem dX7_guard_1 : decode cX7_guard 1 = .ok (.ifCond .eq 4, 3) := by decide +kernel
theorem dX7_guard_4 : decode cX7_guard 4 = .ok (.return_, 1) := by decide +kernel
theorem dX7_guard_5 : decode cX7_guard 5 = .ok (.aload_n 1, 1) := by decide +kernel
theorem dX7_guard_6 : decode cX7_guard 6 = .ok (.getfield 84, 3) := by decide +kernel
theorem dX7_guard_9 : decode cX7_guard 9 = .ok (.getfield 115, 3) := by decide +kernel
theorem dX7_guard_12 : decode cX7_guard 12 = .ok (.astore 5, 2) := by decide +kernel
theorem dX7_guard_14 : decode cX7_guard 14 = .ok (.aload_n 1, 1) := by decide +kernel
theorem dX7_guard_15 : decode cX7_guard 15 = .ok (.getfield 84, 3) := by decide +kernel
theorem dX7_guard_18 : decode cX7_guard 18 = .ok (.getfield 88, 3) := by decide +kernel
theorem dX7_guard_21 : decode cX7_guard 21 = .ok (.astore 6, 2) := by decide +kernel
theorem dX7_guard_23 : decode cX7_guard 23 = .ok (.aload_n 0, 1) := by decide +kernel
theorem dX7_guard_24 : decode cX7_guard 24 = .ok (.getfield 12, 3) := by decide +kernel
theorem dX7_guard_27 : decode cX7_guard 27 = .ok (.dup, 1) := by decide +kernel
theorem dX7_guard_28 : decode cX7_guard 28 = .ok (.getfield 218, 3) := by decide +kernel
theorem dX7_guard_31 : decode cX7_guard 31 = .ok (.iconst 1, 1) := by decide +kernel
theorem dX7_guard_32 : decode cX7_guard 32 = .ok (.iadd, 1) := by decide +kernel
theorem dX7_guard_33 : decode cX7_guard 33 = .ok (.putfield 218, 3) := by decide +kernel
theorem dX7_guard_36 : decode cX7_guard 36 = .ok (.aload 5, 2) := by decide +kernel
theorem dX7_guard_38 : decode cX7_guard 38 = .ok (.dup, 1) := by decide +kernel
theorem dX7_guard_39 : decode cX7_guard 39 = .ok (.getfield 221, 3) := by decide +kernel
theorem dX7_guard_42 : decode cX7_guard 42 = .ok (.iconst 1, 1) := by decide +kernel
theorem dX7_guard_43 : decode cX7_guard 43 = .ok (.iadd, 1) := by decide +kernel
theorem dX7_guard_44 : decode cX7_guard 44 = .ok (.putfield 221, 3) := by decide +kernel
theorem dX7_guard_47 : decode cX7_guard 47 = .ok (.aload 5, 2) := by decide +kernel
theorem dX7_guard_49 : decode cX7_guard 49 = .ok (.iload_n 2, 1) := by decide +kernel
theorem dX7_guard_50 : decode cX7_guard 50 = .ok (.invokevirtual 222, 3) := by decide +kernel
theorem dX7_guard_53 : decode cX7_guard 53 = .ok (.aload 5, 2) := by decide +kernel
theorem dX7_guard_55 : decode cX7_guard 55 = .ok (.getfield 133, 3) := by decide +kernel
theorem dX7_guard_58 : decode cX7_guard 58 = .ok (.ifCond .eq 23, 3) := by decide +kernel
theorem dX7_guard_61 : decode cX7_guard 61 = .ok (.aload 5, 2) := by decide +kernel
theorem dX7_guard_63 : decode cX7_guard 63 = .ok (.getfield 226, 3) := by decide +kernel
theorem dX7_guard_66 : decode cX7_guard 66 = .ok (.aload_n 1, 1) := by decide +kernel
theorem dX7_guard_67 : decode cX7_guard 67 = .ok (.getfield 94, 3) := by decide +kernel
theorem dX7_guard_70 : decode cX7_guard 70 = .ok (.getfield 229, 3) := by decide +kernel
theorem dX7_guard_73 : decode cX7_guard 73 = .ok (.if_icmp .ne 8, 3) := by decide +kernel
theorem dX7_guard_76 : decode cX7_guard 76 = .ok (.aload 5, 2) := by decide +kernel
theorem dX7_guard_78 : decode cX7_guard 78 = .ok (.invokevirtual 232, 3) := by decide +kernel
theorem dX7_guard_81 : decode cX7_guard 81 = .ok (.aload_n 1, 1) := by decide +kernel
theorem dX7_guard_82 : decode cX7_guard 82 = .ok (.getfield 97, 3) := by decide +kernel
theorem dX7_guard_85 : decode cX7_guard 85 = .ok (.aload_n 1, 1) := by decide +kernel
theorem dX7_guard_86 : decode cX7_guard 86 = .ok (.getfield 94, 3) := by decide +kernel
theorem dX7_guard_89 : decode cX7_guard 89 = .ok (.getfield 235, 3) := by decide +kernel
theorem dX7_guard_92 : decode cX7_guard 92 = .ok (.if_icmp .gt 7, 3) := by decide +kernel
theorem dX7_guard_95 : decode cX7_guard 95 = .ok (.iconst 1, 1) := by decide +kernel
theorem dX7_guard_96 : decode cX7_guard 96 = .ok (.goto 4, 3) := by decide +kernel
theorem dX7_guard_99 : decode cX7_guard 99 = .ok (.iconst 0, 1) := by decide +kernel
theorem dX7_guard_100 : decode cX7_guard 100 = .ok (.istore 7, 2) := by decide +kernel
theorem dX7_guard_102 : decode cX7_guard 102 = .ok (.aload_n 1, 1) := by decide +kernel
theorem dX7_guard_103 : decode cX7_guard 103 = .ok (.aload 6, 2) := by decide +kernel
theorem dX7_guard_105 : decode cX7_guard 105 = .ok (.putfield 94, 3) := by decide +kernel
theorem dX7_guard_108 : decode cX7_guard 108 = .ok (.aload_n 1, 1) := by decide +kernel
theorem dX7_guard_109 : decode cX7_guard 109 = .ok (.aload 6, 2) := by decide +kernel
theorem dX7_guard_111 : decode cX7_guard 111 = .ok (.ifnull 8, 3) := by decide +kernel
theorem dX7_guard_114 : decode cX7_guard 114 = .ok (.iload 7, 2) := by decide +kernel
theorem dX7_guard_116 : decode cX7_guard 116 = .ok (.ifCond .eq 7, 3) := by decide +kernel
theorem dX7_guard_119 : decode cX7_guard 119 = .ok (.iconst 0, 1) := by decide +kernel
theorem dX7_guard_120 : decode cX7_guard 120 = .ok (.goto 12, 3) := by decide +kernel
theorem dX7_guard_123 : decode cX7_guard 123 = .ok (.aload 6, 2) := by decide +kernel
theorem dX7_guard_125 : decode cX7_guard 125 = .ok (.iload 4, 2) := by decide +kernel
theorem dX7_guard_127 : decode cX7_guard 127 = .ok (.iconst 1, 1) := by decide +kernel
theorem dX7_guard_128 : decode cX7_guard 128 = .ok (.iadd, 1) := by decide +kernel
theorem dX7_guard_129 : decode cX7_guard 129 = .ok (.invokevirtual 212, 3) := by decide +kernel
theorem dX7_guard_132 : decode cX7_guard 132 = .ok (.putfield 97, 3) := by decide +kernel
theorem dX7_guard_135 : decode cX7_guard 135 = .ok (.return_, 1) := by decide +kernel
theorem dX7_newRow_0 : decode cX7_newRow 0 = .ok (.iload_n 3, 1) := by decide +kernel
theorem dX7_newRow_1 : decode cX7_newRow 1 = .ok (.ifCond .ge 14, 3) := by decide +kernel
theorem dX7_newRow_4 : decode cX7_newRow 4 = .ok (.aload_n 0, 1) := by decide +kernel
theorem dX7_newRow_5 : decode cX7_newRow 5 = .ok (.aload_n 1, 1) := by decide +kernel
theorem dX7_newRow_6 : decode cX7_newRow 6 = .ok (.iconst 4, 1) := by decide +kernel
theorem dX7_newRow_7 : decode cX7_newRow 7 = .ok (.iload 4, 2) := by decide +kernel
theorem dX7_newRow_9 : decode cX7_newRow 9 = .ok (.invokevirtual 205, 3) := by decide +kernel
theorem dX7_newRow_12 : decode cX7_newRow 12 = .ok (.goto 29, 3) := by decide +kernel
theorem dX7_newRow_15 : decode cX7_newRow 15 = .ok (.iload_n 3, 1) := by decide +kernel
theorem dX7_newRow_16 : decode cX7_newRow 16 = .ok (.bipush 20, 2) := by decide +kernel
theorem dX7_newRow_18 : decode cX7_newRow 18 = .ok (.if_icmp .le 14, 3) := by decide +kernel
theorem dX7_newRow_21 : decode cX7_newRow 21 = .ok (.aload_n 0, 1) := by decide +kernel
theorem dX7_newRow_22 : decode cX7_newRow 22 = .ok (.aload_n 1, 1) := by decide +kernel
theorem dX7_newRow_23 : decode cX7_newRow 23 = .ok (.iconst 5, 1) := by decide +kernel
theorem dX7_newRow_24 : decode cX7_newRow 24 = .ok (.iload 4, 2) := by decide +kernel
theorem dX7_newRow_26 : decode cX7_newRow 26 = .ok (.invokevirtual 205, 3) := by decide +kernel
theorem dX7_newRow_29 : decode cX7_newRow 29 = .ok (.goto 12, 3) := by decide +kernel
theorem dX7_newRow_32 : decode cX7_newRow 32 = .ok (.aload_n 0, 1) := by decide +kernel
theorem dX7_newRow_33 : decode cX7_newRow 33 = .ok (.getfield 32, 3) := by decide +kernel
theorem dX7_newRow_36 : decode cX7_newRow 36 = .ok (.iload_n 2, 1) := by decide +kernel
theorem dX7_newRow_37 : decode cX7_newRow 37 = .ok (.iload_n 3, 1) := by decide +kernel
theorem dX7_newRow_38 : decode cX7_newRow 38 = .ok (.invokevirtual 238, 3) := by decide +kernel
theorem dX7_newRow_41 : decode cX7_newRow 41 = .ok (.return_, 1) := by decide +kernel
theorem dX7_isThere_0 : decode cX7_isThere 0 = .ok (.aload_n 0, 1) := by decide +kernel
theorem dX7_isThere_1 : decode cX7_isThere 1 = .ok (.getfield 32, 3) := by decide +kernel
theorem dX7_isThere_4 : decode cX7_isThere 4 = .ok (.iload_n 2, 1) := by decide +kernel
theorem dX7_isThere_5 : decode cX7_isThere 5 = .ok (.invokevirtual 241, 3) := by decide +kernel
theorem dX7_isThere_8 : decode cX7_isThere 8 = .ok (.iconst (-1), 1) := by decide +kernel
theorem dX7_isThere_9 : decode cX7_isThere 9 = .ok (.if_icmp .ne 13, 3) := by decide +kernel
theorem dX7_isThere_12 : decode cX7_isThere 12 = .ok (.aload_n 0, 1) := by decide +kernel
theorem dX7_isThere_13 : decode cX7_isThere 13 = .ok (.aload_n 1, 1) := by decide +kernel
theorem dX7_isThere_14 : decode cX7_isThere 14 = .ok (.iconst 2, 1) := by decide +kernel
theorem dX7_isThere_15 : decode cX7_isThere 15 = .ok (.iload 4, 2) := by decide +kernel
theorem dX7_isThere_17 : decode cX7_isThere 17 = .ok (.invokevirtual 205, 3) := by decide +kernel
theorem dX7_isThere_20 : decode cX7_isThere 20 = .ok (.iconst 0, 1) := by decide +kernel
theorem dX7_isThere_21 : decode cX7_isThere 21 = .ok (.ireturn, 1) := by decide +kernel
theorem dX7_isThere_22 : decode cX7_isThere 22 = .ok (.iload_n 3, 1) := by decide +kernel
theorem dX7_isThere_23 : decode cX7_isThere 23 = .ok (.ifCond .lt 15, 3) := by decide +kernel
theorem dX7_isThere_26 : decode cX7_isThere 26 = .ok (.iload_n 3, 1) := by decide +kernel
theorem dX7_isThere_27 : decode cX7_isThere 27 = .ok (.aload_n 0, 1) := by decide +kernel
theorem dX7_isThere_28 : decode cX7_isThere 28 = .ok (.getfield 32, 3) := by decide +kernel
theorem dX7_isThere_31 : decode cX7_isThere 31 = .ok (.iload_n 2, 1) := by decide +kernel
theorem dX7_isThere_32 : decode cX7_isThere 32 = .ok (.invokevirtual 241, 3) := by decide +kernel
theorem dX7_isThere_35 : decode cX7_isThere 35 = .ok (.if_icmp .lt 13, 3) := by decide +kernel
theorem dX7_isThere_38 : decode cX7_isThere 38 = .ok (.aload_n 0, 1) := by decide +kernel
theorem dX7_isThere_39 : decode cX7_isThere 39 = .ok (.aload_n 1, 1) := by decide +kernel
theorem dX7_isThere_40 : decode cX7_isThere 40 = .ok (.iconst 3, 1) := by decide +kernel
theorem dX7_isThere_41 : decode cX7_isThere 41 = .ok (.iload 4, 2) := by decide +kernel
theorem dX7_isThere_43 : decode cX7_isThere 43 = .ok (.invokevirtual 205, 3) := by decide +kernel
theorem dX7_isThere_46 : decode cX7_isThere 46 = .ok (.iconst 0, 1) := by decide +kernel
theorem dX7_isThere_47 : decode cX7_isThere 47 = .ok (.ireturn, 1) := by decide +kernel
theorem dX7_isThere_48 : decode cX7_isThere 48 = .ok (.iconst 1, 1) := by decide +kernel
theorem dX7_isThere_49 : decode cX7_isThere 49 = .ok (.ireturn, 1) := by decide +kernel
theorem dX7_endByTrap_0 : decode cX7_endByTrap 0 = .ok (.aload_n 0, 1) := by decide +kernel
theorem dX7_endByTrap_1 : decode cX7_endByTrap 1 = .ok (.iconst 1, 1) := by decide +kernel
theorem dX7_endByTrap_2 : decode cX7_endByTrap 2 = .ok (.putfield 53, 3) := by decide +kernel
theorem dX7_endByTrap_5 : decode cX7_endByTrap 5 = .ok (.aload_n 0, 1) := by decide +kernel
theorem dX7_endByTrap_6 : decode cX7_endByTrap 6 = .ok (.getfield 12, 3) := by decide +kernel
theorem dX7_endByTrap_9 : decode cX7_endByTrap 9 = .ok (.iload_n 2, 1) := by decide +kernel
theorem dX7_endByTrap_10 : decode cX7_endByTrap 10 = .ok (.aload_n 1, 1) := by decide +kernel
theorem dX7_endByTrap_11 : decode cX7_endByTrap 11 = .ok (.getfield 84, 3) := by decide +kernel
theorem dX7_endByTrap_14 : decode cX7_endByTrap 14 = .ok (.getfield 244, 3) := by decide +kernel
theorem dX7_endByTrap_17 : decode cX7_endByTrap 17 = .ok (.iload_n 3, 1) := by decide +kernel
theorem dX7_endByTrap_18 : decode cX7_endByTrap 18 = .ok (.aload_n 0, 1) := by decide +kernel
theorem dX7_endByTrap_19 : decode cX7_endByTrap 19 = .ok (.getfield 49, 3) := by decide +kernel
theorem dX7_endByTrap_22 : decode cX7_endByTrap 22 = .ok (.invokevirtual 247, 3) := by decide +kernel
theorem dX7_endByTrap_25 : decode cX7_endByTrap 25 = .ok (.return_, 1) := by decide +kernel
theorem dX8_isRight_0 : decode cX8_isRight 0 = .ok (.aload_n 0, 1) := by decide +kernel
theorem dX8_isRight_1 : decode cX8_isRight 1 = .ok (.getfield 28, 3) := by decide +kernel
theorem dX8_isRight_4 : decode cX8_isRight 4 = .ok (.iconst (-1), 1) := by decide +kernel
theorem dX8_isRight_5 : decode cX8_isRight 5 = .ok (.if_icmp .eq 7, 3) := by decide +kernel
theorem dX8_isRight_8 : decode cX8_isRight 8 = .ok (.iconst 1, 1) := by decide +kernel
theorem dX8_isRight_9 : decode cX8_isRight 9 = .ok (.goto 4, 3) := by decide +kernel
theorem dX8_isRight_12 : decode cX8_isRight 12 = .ok (.iconst 0, 1) := by decide +kernel
theorem dX8_isRight_13 : decode cX8_isRight 13 = .ok (.ireturn, 1) := by decide +kernel
theorem dX8_has_0 : decode cX8_has 0 = .ok (.iload_n 1, 1) := by decide +kernel
theorem dX8_has_1 : decode cX8_has 1 = .ok (.ifCond .lt 21, 3) := by decide +kernel
theorem dX8_has_4 : decode cX8_has 4 = .ok (.iload_n 1, 1) := by decide +kernel
theorem dX8_has_5 : decode cX8_has 5 = .ok (.aload_n 0, 1) := by decide +kernel
theorem dX8_has_6 : decode cX8_has 6 = .ok (.getfield 41, 3) := by decide +kernel
theorem dX8_has_9 : decode cX8_has 9 = .ok (.if_icmp .ge 13, 3) := by decide +kernel
theorem dX8_has_12 : decode cX8_has 12 = .ok (.iload_n 1, 1) := by decide +kernel
theorem dX8_has_13 : decode cX8_has 13 = .ok (.bipush 60, 2) := by decide +kernel
theorem dX8_has_15 : decode cX8_has 15 = .ok (.if_icmp .ge 7, 3) := by decide +kernel
theorem dX8_has_18 : decode cX8_has 18 = .ok (.iconst 1, 1) := by decide +kernel
theorem dX8_has_19 : decode cX8_has 19 = .ok (.goto 4, 3) := by decide +kernel
theorem dX8_has_22 : decode cX8_has 22 = .ok (.iconst 0, 1) := by decide +kernel
theorem dX8_has_23 : decode cX8_has 23 = .ok (.ireturn, 1) := by decide +kernel
theorem dX8_append_0 : decode cX8_append 0 = .ok (.aload_n 0, 1) := by decide +kernel
theorem dX8_append_1 : decode cX8_append 1 = .ok (.getfield 41, 3) := by decide +kernel
theorem dX8_append_4 : decode cX8_append 4 = .ok (.bipush 60, 2) := by decide +kernel
theorem dX8_append_6 : decode cX8_append 6 = .ok (.if_icmp .lt 6, 3) := by decide +kernel
theorem dX8_append_9 : decode cX8_append 9 = .ok (.bipush (-4), 2) := by decide +kernel
theorem dX8_append_11 : decode cX8_append 11 = .ok (.ireturn, 1) := by decide +kernel
theorem dX8_append_12 : decode cX8_append 12 = .ok (.aload_n 0, 1) := by decide +kernel
theorem dX8_append_13 : decode cX8_append 13 = .ok (.getfield 18, 3) := by decide +kernel
theorem dX8_append_16 : decode cX8_append 16 = .ok (.aload_n 0, 1) := by decide +kernel
theorem dX8_append_17 : decode cX8_append 17 = .ok (.getfield 41, 3) := by decide +kernel
theorem dX8_append_20 : decode cX8_append 20 = .ok (.iload_n 1, 1) := by decide +kernel
theorem dX8_append_21 : decode cX8_append 21 = .ok (.iastore, 1) := by decide +kernel
theorem dX8_append_22 : decode cX8_append 22 = .ok (.aload_n 0, 1) := by decide +kernel
theorem dX8_append_23 : decode cX8_append 23 = .ok (.getfield 22, 3) := by decide +kernel
theorem dX8_append_26 : decode cX8_append 26 = .ok (.aload_n 0, 1) := by decide +kernel
theorem dX8_append_27 : decode cX8_append 27 = .ok (.getfield 41, 3) := by decide +kernel
theorem dX8_append_30 : decode cX8_append 30 = .ok (.iload_n 2, 1) := by decide +kernel
theorem dX8_append_31 : decode cX8_append 31 = .ok (.iastore, 1) := by decide +kernel
theorem dX8_append_32 : decode cX8_append 32 = .ok (.aload_n 0, 1) := by decide +kernel
theorem dX8_append_33 : decode cX8_append 33 = .ok (.dup, 1) := by decide +kernel
theorem dX8_append_34 : decode cX8_append 34 = .ok (.getfield 41, 3) := by decide +kernel
theorem dX8_append_37 : decode cX8_append 37 = .ok (.iconst 1, 1) := by decide +kernel
theorem dX8_append_38 : decode cX8_append 38 = .ok (.iadd, 1) := by decide +kernel
theorem dX8_append_39 : decode cX8_append 39 = .ok (.putfield 41, 3) := by decide +kernel
theorem dX8_append_42 : decode cX8_append 42 = .ok (.aload_n 0, 1) := by decide +kernel
theorem dX8_append_43 : decode cX8_append 43 = .ok (.getfield 41, 3) := by decide +kernel
theorem dX8_append_46 : decode cX8_append 46 = .ok (.iconst 1, 1) := by decide +kernel
theorem dX8_append_47 : decode cX8_append 47 = .ok (.isub, 1) := by decide +kernel
theorem dX8_append_48 : decode cX8_append 48 = .ok (.ireturn, 1) := by decide +kernel
theorem dX8_opAt_0 : decode cX8_opAt 0 = .ok (.aload_n 0, 1) := by decide +kernel
theorem dX8_opAt_1 : decode cX8_opAt 1 = .ok (.iload_n 1, 1) := by decide +kernel
theorem dX8_opAt_2 : decode cX8_opAt 2 = .ok (.invokevirtual 44, 3) := by decide +kernel
theorem dX8_opAt_5 : decode cX8_opAt 5 = .ok (.ifCond .eq 12, 3) := by decide +kernel
theorem dX8_opAt_8 : decode cX8_opAt 8 = .ok (.aload_n 0, 1) := by decide +kernel
theorem dX8_opAt_9 : decode cX8_opAt 9 = .ok (.getfield 18, 3) := by decide +kernel
theorem dX8_opAt_12 : decode cX8_opAt 12 = .ok (.iload_n 1, 1) := by decide +kernel
theorem dX8_opAt_13 : decode cX8_opAt 13 = .ok (.iaload, 1) := by decide +kernel
theorem dX8_opAt_14 : decode cX8_opAt 14 = .ok (.goto 4, 3) := by decide +kernel
theorem dX8_opAt_17 : decode cX8_opAt 17 = .ok (.iconst (-1), 1) := by decide +kernel
theorem dX8_opAt_18 : decode cX8_opAt 18 = .ok (.ireturn, 1) := by decide +kernel
theorem dX8_xAt_0 : decode cX8_xAt 0 = .ok (.aload_n 0, 1) := by decide +kernel
theorem dX8_xAt_1 : decode cX8_xAt 1 = .ok (.iload_n 1, 1) := by decide +kernel
theorem dX8_xAt_2 : decode cX8_xAt 2 = .ok (.invokevirtual 44, 3) := by decide +kernel
theorem dX8_xAt_5 : decode cX8_xAt 5 = .ok (.ifCond .eq 12, 3) := by decide +kernel
theorem dX8_xAt_8 : decode cX8_xAt 8 = .ok (.aload_n 0, 1) := by decide +kernel
theorem dX8_xAt_9 : decode cX8_xAt 9 = .ok (.getfield 22, 3) := by decide +kernel
theorem dX8_xAt_12 : decode cX8_xAt 12 = .ok (.iload_n 1, 1) := by decide +kernel
theorem dX8_xAt_13 : decode cX8_xAt 13 = .ok (.iaload, 1) := by decide +kernel
theorem dX8_xAt_14 : decode cX8_xAt 14 = .ok (.goto 4, 3) := by decide +kernel
theorem dX8_xAt_17 : decode cX8_xAt 17 = .ok (.iconst 0, 1) := by decide +kernel
theorem dX8_xAt_18 : decode cX8_xAt 18 = .ok (.ireturn, 1) := by decide +kernel
theorem dX8_depthAt_0 : decode cX8_depthAt 0 = .ok (.aload_n 0, 1) := by decide +kernel
theorem dX8_depthAt_1 : decode cX8_depthAt 1 = .ok (.iload_n 1, 1) := by decide +kernel
theorem dX8_depthAt_2 : decode cX8_depthAt 2 = .ok (.invokevirtual 44, 3) := by decide +kernel
theorem dX8_depthAt_5 : decode cX8_depthAt 5 = .ok (.ifCond .eq 12, 3) := by decide +kernel
theorem dX8_depthAt_8 : decode cX8_depthAt 8 = .ok (.aload_n 0, 1) := by decide +kernel
theorem dX8_depthAt_9 : decode cX8_depthAt 9 = .ok (.getfield 25, 3) := by decide +kernel
theorem dX8_depthAt_12 : decode cX8_depthAt 12 = .ok (.iload_n 1, 1) := by decide +kernel
theorem dX8_depthAt_13 : decode cX8_depthAt 13 = .ok (.iaload, 1) := by decide +kernel
theorem dX8_depthAt_14 : decode cX8_depthAt 14 = .ok (.goto 4, 3) := by decide +kernel
theorem dX8_depthAt_17 : decode cX8_depthAt 17 = .ok (.iconst (-1), 1) := by decide +kernel
theorem dX8_depthAt_18 : decode cX8_depthAt 18 = .ok (.ireturn, 1) := by decide +kernel
theorem dX8_isDead_0 : decode cX8_isDead 0 = .ok (.aload_n 0, 1) := by decide +kernel
theorem dX8_isDead_1 : decode cX8_isDead 1 = .ok (.iload_n 1, 1) := by decide +kernel
theorem dX8_isDead_2 : decode cX8_isDead 2 = .ok (.invokevirtual 44, 3) := by decide +kernel
theorem dX8_isDead_5 : decode cX8_isDead 5 = .ok (.ifCond .eq 13, 3) := by decide +kernel
theorem dX8_isDead_8 : decode cX8_isDead 8 = .ok (.aload_n 0, 1) := by decide +kernel
theorem dX8_isDead_9 : decode cX8_isDead 9 = .ok (.getfield 25, 3) := by decide +kernel
theorem dX8_isDead_12 : decode cX8_isDead 12 = .ok (.iload_n 1, 1) := by decide +kernel
theorem dX8_isDead_13 : decode cX8_isDead 13 = .ok (.iaload, 1) := by decide +kernel
theorem dX8_isDead_14 : decode cX8_isDead 14 = .ok (.iconst (-1), 1) := by decide +kernel
theorem dX8_isDead_15 : decode cX8_isDead 15 = .ok (.if_icmp .ne 7, 3) := by decide +kernel
theorem dX8_isDead_18 : decode cX8_isDead 18 = .ok (.iconst 1, 1) := by decide +kernel
theorem dX8_isDead_19 : decode cX8_isDead 19 = .ok (.goto 4, 3) := by decide +kernel
theorem dX8_isDead_22 : decode cX8_isDead 22 = .ok (.iconst 0, 1) := by decide +kernel
theorem dX8_isDead_23 : decode cX8_isDead 23 = .ok (.ireturn, 1) := by decide +kernel
theorem dX8_goesOnAt_0 : decode cX8_goesOnAt 0 = .ok (.aload_n 0, 1) := by decide +kernel
theorem dX8_goesOnAt_1 : decode cX8_goesOnAt 1 = .ok (.iload_n 1, 1) := by decide +kernel
theorem dX8_goesOnAt_2 : decode cX8_goesOnAt 2 = .ok (.invokevirtual 48, 3) := by decide +kernel
theorem dX8_goesOnAt_5 : decode cX8_goesOnAt 5 = .ok (.istore_n 2, 1) := by decide +kernel
theorem dX8_goesOnAt_6 : decode cX8_goesOnAt 6 = .ok (.aload_n 0, 1) := by decide +kernel
theorem dX8_goesOnAt_7 : decode cX8_goesOnAt 7 = .ok (.iload_n 1, 1) := by decide +kernel
theorem dX8_goesOnAt_8 : decode cX8_goesOnAt 8 = .ok (.invokevirtual 52, 3) := by decide +kernel
theorem dX8_goesOnAt_11 : decode cX8_goesOnAt 11 = .ok (.ifCond .ne 19, 3) := by decide +kernel
theorem dX8_goesOnAt_14 : decode cX8_goesOnAt 14 = .ok (.iload_n 2, 1) := by decide +kernel
theorem dX8_goesOnAt_15 : decode cX8_goesOnAt 15 = .ok (.bipush 9, 2) := by decide +kernel
theorem dX8_goesOnAt_17 : decode cX8_goesOnAt 17 = .ok (.if_icmp .eq 13, 3) := by decide +kernel
theorem dX8_goesOnAt_20 : decode cX8_goesOnAt 20 = .ok (.iload_n 2, 1) := by decide +kernel
theorem dX8_goesOnAt_21 : decode cX8_goesOnAt 21 = .ok (.bipush 12, 2) := by decide +kernel
theorem dX8_goesOnAt_23 : decode cX8_goesOnAt 23 = .ok (.if_icmp .eq 7, 3) := by decide +kernel
theorem dX8_goesOnAt_26 : decode cX8_goesOnAt 26 = .ok (.iconst 1, 1) := by decide +kernel
theorem dX8_goesOnAt_27 : decode cX8_goesOnAt 27 = .ok (.goto 4, 3) := by decide +kernel
theorem dX8_goesOnAt_30 : decode cX8_goesOnAt 30 = .ok (.iconst 0, 1) := by decide +kernel
theorem dX8_goesOnAt_31 : decode cX8_goesOnAt 31 = .ok (.ireturn, 1) := by decide +kernel
theorem dX8_forgetDepths_0 : decode cX8_forgetDepths 0 = .ok (.aload_n 0, 1) := by decide +kernel
theorem dX8_forgetDepths_1 : decode cX8_forgetDepths 1 = .ok (.getfield 25, 3) := by decide +kernel
theorem dX8_forgetDepths_4 : decode cX8_forgetDepths 4 = .ok (.iconst (-1), 1) := by decide +kernel
theorem dX8_forgetDepths_5 : decode cX8_forgetDepths 5 = .ok (.invokestatic 55, 3) := by decide +kernel
theorem dX8_forgetDepths_8 : decode cX8_forgetDepths 8 = .ok (.return_, 1) := by decide +kernel
theorem dX8_comeTo_0 : decode cX8_comeTo 0 = .ok (.aload_n 0, 1) := by decide +kernel
theorem dX8_comeTo_1 : decode cX8_comeTo 1 = .ok (.iload_n 1, 1) := by decide +kernel
theorem dX8_comeTo_2 : decode cX8_comeTo 2 = .ok (.invokevirtual 44, 3) := by decide +kernel
theorem dX8_comeTo_5 : decode cX8_comeTo 5 = .ok (.ifCond .eq 10, 3) := by decide +kernel
theorem dX8_comeTo_8 : decode cX8_comeTo 8 = .ok (.aload_n 0, 1) := by decide +kernel
theorem dX8_comeTo_9 : decode cX8_comeTo 9 = .ok (.getfield 25, 3) := by decide +kernel
theorem dX8_comeTo_12 : decode cX8_comeTo 12 = .ok (.iload_n 1, 1) := by decide +kernel
theorem dX8_comeTo_13 : decode cX8_comeTo 13 = .ok (.iload_n 2, 1) := by decide +kernel
theorem dX8_comeTo_14 : decode cX8_comeTo 14 = .ok (.iastore, 1) := by decide +kernel
theorem dX8_comeTo_15 : decode cX8_comeTo 15 = .ok (.return_, 1) := by decide +kernel
theorem dX9_forge_0 : decode cX9_forge 0 = .ok (.aload_n 0, 1) := by decide +kernel
theorem dX9_forge_1 : decode cX9_forge 1 = .ok (.getfield 25, 3) := by decide +kernel
theorem dX9_forge_4 : decode cX9_forge 4 = .ok (.invokevirtual 29, 3) := by decide +kernel
theorem dX9_forge_7 : decode cX9_forge 7 = .ok (.aload_n 0, 1) := by decide +kernel
theorem dX9_forge_8 : decode cX9_forge 8 = .ok (.aload_n 1, 1) := by decide +kernel
theorem dX9_forge_9 : decode cX9_forge 9 = .ok (.invokevirtual 34, 3) := by decide +kernel
theorem dX9_forge_12 : decode cX9_forge 12 = .ok (.aload_n 0, 1) := by decide +kernel
theorem dX9_forge_13 : decode cX9_forge 13 = .ok (.aload_n 1, 1) := by decide +kernel
theorem dX9_forge_14 : decode cX9_forge 14 = .ok (.invokevirtual 38, 3) := by decide +kernel
theorem dX9_forge_17 : decode cX9_forge 17 = .ok (.aload_n 0, 1) := by decide +kernel
theorem dX9_forge_18 : decode cX9_forge 18 = .ok (.aload_n 1, 1) := by decide +kernel
theorem dX9_forge_19 : decode cX9_forge 19 = .ok (.getfield 41, 3) := by decide +kernel
theorem dX9_forge_22 : decode cX9_forge 22 = .ok (.iconst 0, 1) := by decide +kernel
theorem dX9_forge_23 : decode cX9_forge 23 = .ok (.iconst 0, 1) := by decide +kernel
theorem dX9_forge_24 : decode cX9_forge 24 = .ok (.invokevirtual 47, 3) := by decide +kernel
theorem dX9_forge_27 : decode cX9_forge 27 = .ok (.aload_n 0, 1) := by decide +kernel
theorem dX9_forge_28 : decode cX9_forge 28 = .ok (.getfield 25, 3) := by decide +kernel
theorem dX9_forge_31 : decode cX9_forge 31 = .ok (.invokevirtual 51, 3) := by decide +kernel
theorem dX9_forge_34 : decode cX9_forge 34 = .ok (.istore_n 2, 1) := by decide +kernel
theorem dX9_forge_35 : decode cX9_forge 35 = .ok (.iconst 0, 1) := by decide +kernel
theorem dX9_forge_36 : decode cX9_forge 36 = .ok (.istore_n 3, 1) := by decide +kernel
theorem dX9_forge_37 : decode cX9_forge 37 = .ok (.iload_n 3, 1) := by decide +kernel
theorem dX9_forge_38 : decode cX9_forge 38 = .ok (.aload_n 1, 1) := by decide +kernel
theorem dX9_forge_39 : decode cX9_forge 39 = .ok (.getfield 55, 3) := by decide +kernel
theorem dX9_forge_42 : decode cX9_forge 42 = .ok (.if_icmp .ge 112, 3) := by decide +kernel
theorem dX9_forge_45 : decode cX9_forge 45 = .ok (.aload_n 1, 1) := by decide +kernel
theorem dX9_forge_46 : decode cX9_forge 46 = .ok (.iload_n 3, 1) := by decide +kernel
theorem dX9_forge_47 : decode cX9_forge 47 = .ok (.invokevirtual 59, 3) := by decide +kernel
theorem dX9_forge_50 : decode cX9_forge 50 = .ok (.ifCond .eq 6, 3) := by decide +kernel
theorem dX9_forge_53 : decode cX9_forge 53 = .ok (.goto 95, 3) := by decide +kernel
theorem dX9_forge_56 : decode cX9_forge 56 = .ok (.iload_n 3, 1) := by decide +kernel
theorem dX9_forge_57 : decode cX9_forge 57 = .ok (.ifCond .eq 12, 3) := by decide +kernel
theorem dX9_forge_60 : decode cX9_forge 60 = .ok (.aload_n 0, 1) := by decide +kernel
theorem dX9_forge_61 : decode cX9_forge 61 = .ok (.getfield 19, 3) := by decide +kernel
theorem dX9_forge_64 : decode cX9_forge 64 = .ok (.iload_n 3, 1) := by decide +kernel
theorem dX9_forge_65 : decode cX9_forge 65 = .ok (.baload, 1) := by decide +kernel
theorem dX9_forge_66 : decode cX9_forge 66 = .ok (.ifCond .eq 36, 3) := by decide +kernel
theorem dX9_forge_69 : decode cX9_forge 69 = .ok (.iload_n 3, 1) := by decide +kernel
theorem dX9_forge_70 : decode cX9_forge 70 = .ok (.ifCond .le 24, 3) := by decide +kernel
theorem dX9_forge_73 : decode cX9_forge 73 = .ok (.aload_n 1, 1) := by decide +kernel
theorem dX9_forge_74 : decode cX9_forge 74 = .ok (.iload_n 3, 1) := by decide +kernel
theorem dX9_forge_75 : decode cX9_forge 75 = .ok (.iconst 1, 1) := by decide +kernel
theorem dX9_forge_76 : decode cX9_forge 76 = .ok (.isub, 1) := by decide +kernel
theorem dX9_forge_77 : decode cX9_forge 77 = .ok (.invokevirtual 63, 3) := by decide +kernel
theorem dX9_forge_80 : decode cX9_forge 80 = .ok (.ifCond .eq 14, 3) := by decide +kernel
theorem dX9_forge_83 : decode cX9_forge 83 = .ok (.aload_n 0, 1) := by decide +kernel
theorem dX9_forge_84 : decode cX9_forge 84 = .ok (.bipush 7, 2) := by decide +kernel
theorem dX9_forge_86 : decode cX9_forge 86 = .ok (.bipush 14, 2) := by decide +kernel
theorem dX9_forge_88 : decode cX9_forge 88 = .ok (.iload_n 3, 1) := by decide +kernel
theorem dX9_forge_89 : decode cX9_forge 89 = .ok (.iconst 1, 1) := by decide +kernel
theorem dX9_forge_90 : decode cX9_forge 90 = .ok (.isub, 1) := by decide +kernel
theorem dX9_forge_91 : decode cX9_forge 91 = .ok (.invokevirtual 66, 3) := by decide +kernel
theorem dX9_forge_94 : decode cX9_forge 94 = .ok (.aload_n 0, 1) := by decide +kernel
theorem dX9_forge_95 : decode cX9_forge 95 = .ok (.aload_n 1, 1) := by decide +kernel
theorem dX9_forge_96 : decode cX9_forge 96 = .ok (.getfield 41, 3) := by decide +kernel
theorem dX9_forge_99 : decode cX9_forge 99 = .ok (.invokevirtual 70, 3) := by decide +kernel
theorem dX9_forge_102 : decode cX9_forge 102 = .ok (.aload_n 0, 1) := by decide +kernel
theorem dX9_forge_103 : decode cX9_forge 103 = .ok (.getfield 25, 3) := by decide +kernel
theorem dX9_forge_106 : decode cX9_forge 106 = .ok (.iload_n 3, 1) := by decide +kernel
theorem dX9_forge_107 : decode cX9_forge 107 = .ok (.invokevirtual 74, 3) := by decide +kernel
theorem dX9_forge_110 : decode cX9_forge 110 = .ok (.aload_n 0, 1) := by decide +kernel
theorem dX9_forge_111 : decode cX9_forge 111 = .ok (.aload_n 1, 1) := by decide +kernel
theorem dX9_forge_112 : decode cX9_forge 112 = .ok (.iload_n 3, 1) := by decide +kernel
theorem dX9_forge_113 : decode cX9_forge 113 = .ok (.invokevirtual 78, 3) := by decide +kernel
theorem dX9_forge_116 : decode cX9_forge 116 = .ok (.ifCond .eq 12, 3) := by decide +kernel
theorem dX9_forge_119 : decode cX9_forge 119 = .ok (.aload_n 0, 1) := by decide +kernel
theorem dX9_forge_120 : decode cX9_forge 120 = .ok (.getfield 25, 3) := by decide +kernel
theorem dX9_forge_123 : decode cX9_forge 123 = .ok (.aload_n 1, 1) := by decide +kernel
theorem dX9_forge_124 : decode cX9_forge 124 = .ok (.iload_n 3, 1) := by decide +kernel
theorem dX9_forge_125 : decode cX9_forge 125 = .ok (.invokevirtual 82, 3) := by decide +kernel
theorem dX9_forge_128 : decode cX9_forge 128 = .ok (.aload_n 1, 1) := by decide +kernel
theorem dX9_forge_129 : decode cX9_forge 129 = .ok (.iload_n 3, 1) := by decide +kernel
theorem dX9_forge_130 : decode cX9_forge 130 = .ok (.invokevirtual 86, 3) := by decide +kernel
theorem dX9_forge_133 : decode cX9_forge 133 = .ok (.bipush 11, 2) := by decide +kernel
theorem dX9_forge_135 : decode cX9_forge 135 = .ok (.if_icmp .ne 13, 3) := by decide +kernel
theorem dX9_forge_138 : decode cX9_forge 138 = .ok (.aload_n 0, 1) := by decide +kernel
theorem dX9_forge_139 : decode cX9_forge 139 = .ok (.aload_n 1, 1) := by decide +kernel
theorem dX9_forge_140 : decode cX9_forge 140 = .ok (.getfield 41, 3) := by decide +kernel
theorem dX9_forge_143 : decode cX9_forge 143 = .ok (.iconst 3, 1) := by decide +kernel
theorem dX9_forge_144 : decode cX9_forge 144 = .ok (.iload_n 3, 1) := by decide +kernel
theorem dX9_forge_145 : decode cX9_forge 145 = .ok (.invokevirtual 47, 3) := by decide +kernel
theorem dX9_forge_148 : decode cX9_forge 148 = .ok (.iinc 3 1, 3) := by decide +kernel
theorem dX9_forge_151 : decode cX9_forge 151 = .ok (.goto (-114), 3) := by decide +kernel
theorem dX9_forge_154 : decode cX9_forge 154 = .ok (.aload_n 0, 1) := by decide +kernel
theorem dX9_forge_155 : decode cX9_forge 155 = .ok (.getfield 25, 3) := by decide +kernel
theorem dX9_forge_158 : decode cX9_forge 158 = .ok (.aload_n 1, 1) := by decide +kernel
theorem dX9_forge_159 : decode cX9_forge 159 = .ok (.getfield 41, 3) := by decide +kernel
theorem dX9_forge_162 : decode cX9_forge 162 = .ok (.getfield 90, 3) := by decide +kernel
theorem dX9_forge_165 : decode cX9_forge 165 = .ok (.iconst 1, 1) := by decide +kernel
theorem dX9_forge_166 : decode cX9_forge 166 = .ok (.iadd, 1) := by decide +kernel
theorem dX9_forge_167 : decode cX9_forge 167 = .ok (.iload_n 2, 1) := by decide +kernel
theorem dX9_forge_168 : decode cX9_forge 168 = .ok (.aload_n 1, 1) := by decide +kernel
theorem dX9_forge_169 : decode cX9_forge 169 = .ok (.getfield 55, 3) := by decide +kernel
theorem dX9_forge_172 : decode cX9_forge 172 = .ok (.invokevirtual 95, 3) := by decide +kernel
theorem dX9_forge_175 : decode cX9_forge 175 = .ok (.areturn, 1) := by decide +kernel
theorem dX9_findTargets_0 : decode cX9_findTargets 0 = .ok (.iconst 0, 1) := by decide +kernel
theorem dX9_findTargets_1 : decode cX9_findTargets 1 = .ok (.istore_n 2, 1) := by decide +kernel
theorem dX9_findTargets_2 : decode cX9_findTargets 2 = .ok (.iload_n 2, 1) := by decide +kernel
theorem dX9_findTargets_3 : decode cX9_findTargets 3 = .ok (.bipush 60, 2) := by decide +kernel
theorem dX9_findTargets_5 : decode cX9_findTargets 5 = .ok (.if_icmp .ge 16, 3) := by decide +kernel
theorem dX9_findTargets_8 : decode cX9_findTargets 8 = .ok (.aload_n 0, 1) := by decide +kernel
theorem dX9_findTargets_9 : decode cX9_findTargets 9 = .ok (.getfield 19, 3) := by decide +kernel
theorem dX9_findTargets_12 : decode cX9_findTargets 12 = .ok (.iload_n 2, 1) := by decide +kernel
theorem dX9_findTargets_13 : decode cX9_findTargets 13 = .ok (.iconst 0, 1) := by decide +kernel
theorem dX9_findTargets_14 : decode cX9_findTargets 14 = .ok (.bastore, 1) := by decide +kernel
theorem dX9_findTargets_15 : decode cX9_findTargets 15 = .ok (.iinc 2 1, 3) := by decide +kernel
theorem dX9_findTargets_18 : decode cX9_findTargets 18 = .ok (.goto (-16), 3) := by decide +kernel
theorem dX9_findTargets_21 : decode cX9_findTargets 21 = .ok (.iconst 0, 1) := by decide +kernel
theorem dX9_findTargets_22 : decode cX9_findTargets 22 = .ok (.istore_n 2, 1) := by decide +kernel
theorem dX9_findTargets_23 : decode cX9_findTargets 23 = .ok (.iload_n 2, 1) := by decide +kernel
theorem dX9_findTargets_24 : decode cX9_findTargets 24 = .ok (.aload_n 1, 1) := by decide +kernel
theorem dX9_findTargets_25 : decode cX9_findTargets 25 = .ok (.getfield 55, 3) := by decide +kernel
theorem dX9_findTargets_28 : decode cX9_findTargets 28 = .ok (.if_icmp .ge 62, 3) := by decide +kernel
theorem dX9_findTargets_31 : decode cX9_findTargets 31 = .ok (.aload_n 1, 1) := by decide +kernel
theorem dX9_findTargets_32 : decode cX9_findTargets 32 = .ok (.iload_n 2, 1) := by decide +kernel
theorem dX9_findTargets_33 : decode cX9_findTargets 33 = .ok (.invokevirtual 86, 3) := by decide +kernel
theorem dX9_findTargets_36 : decode cX9_findTargets 36 = .ok (.istore_n 3, 1) := by decide +kernel
theorem dX9_findTargets_37 : decode cX9_findTargets 37 = .ok (.aload_n 1, 1) := by decide +kernel
theorem dX9_findTargets_38 : decode cX9_findTargets 38 = .ok (.iload_n 2, 1) := by decide +kernel
theorem dX9_findTargets_39 : decode cX9_findTargets 39 = .ok (.invokevirtual 99, 3) := by decide +kernel
theorem dX9_findTargets_42 : decode cX9_findTargets 42 = .ok (.istore 4, 2) := by decide +kernel
theorem dX9_findTargets_44 : decode cX9_findTargets 44 = .ok (.iload_n 3, 1) := by decide +kernel
theorem dX9_findTargets_45 : decode cX9_findTargets 45 = .ok (.bipush 9, 2) := by decide +kernel
theorem dX9_findTargets_47 : decode cX9_findTargets 47 = .ok (.if_icmp .eq 9, 3) := by decide +kernel
theorem dX9_findTargets_50 : decode cX9_findTargets 50 = .ok (.iload_n 3, 1) := by decide +kernel
theorem dX9_findTargets_51 : decode cX9_findTargets 51 = .ok (.bipush 10, 2) := by decide +kernel
theorem dX9_findTargets_53 : decode cX9_findTargets 53 = .ok (.if_icmp .ne 31, 3) := by decide +kernel
theorem dX9_findTargets_56 : decode cX9_findTargets 56 = .ok (.aload_n 1, 1) := by decide +kernel
theorem dX9_findTargets_57 : decode cX9_findTargets 57 = .ok (.iload_n 2, 1) := by decide +kernel
theorem dX9_findTargets_58 : decode cX9_findTargets 58 = .ok (.invokevirtual 59, 3) := by decide +kernel
theorem dX9_findTargets_61 : decode cX9_findTargets 61 = .ok (.ifCond .ne 23, 3) := by decide +kernel
theorem dX9_findTargets_64 : decode cX9_findTargets 64 = .ok (.iload 4, 2) := by decide +kernel
theorem dX9_findTargets_66 : decode cX9_findTargets 66 = .ok (.ifCond .lt 18, 3) := by decide +kernel
theorem dX9_findTargets_69 : decode cX9_findTargets 69 = .ok (.iload 4, 2) := by decide +kernel
theorem dX9_findTargets_71 : decode cX9_findTargets 71 = .ok (.bipush 60, 2) := by decide +kernel
theorem dX9_findTargets_73 : decode cX9_findTargets 73 = .ok (.if_icmp .ge 11, 3) := by decide +kernel
theorem dX9_findTargets_76 : decode cX9_findTargets 76 = .ok (.aload_n 0, 1) := by decide +kernel
theorem dX9_findTargets_77 : decode cX9_findTargets 77 = .ok (.getfield 19, 3) := by decide +kernel
theorem dX9_findTargets_80 : decode cX9_findTargets 80 = .ok (.iload 4, 2) := by decide +kernel
theorem dX9_findTargets_82 : decode cX9_findTargets 82 = .ok (.iconst 1, 1) := by decide +kernel
theorem dX9_findTargets_83 : decode cX9_findTargets 83 = .ok (.bastore, 1) := by decide +kernel
theorem dX9_findTargets_84 : decode cX9_findTargets 84 = .ok (.iinc 2 1, 3) := by decide +kernel
theorem dX9_findTargets_87 : decode cX9_findTargets 87 = .ok (.goto (-64), 3) := by decide +kernel
theorem dX9_findTargets_90 : decode cX9_findTargets 90 = .ok (.return_, 1) := by decide +kernel
theorem dX9_assume_0 : decode cX9_assume 0 = .ok (.iconst 0, 1) := by decide +kernel
theorem dX9_assume_1 : decode cX9_assume 1 = .ok (.istore_n 2, 1) := by decide +kernel
theorem dX9_assume_2 : decode cX9_assume 2 = .ok (.iload_n 2, 1) := by decide +kernel
theorem dX9_assume_3 : decode cX9_assume 3 = .ok (.bipush 11, 2) := by decide +kernel
theorem dX9_assume_5 : decode cX9_assume 5 = .ok (.if_icmp .ge 107, 3) := by decide +kernel
theorem dX9_assume_8 : decode cX9_assume 8 = .ok (.iload_n 2, 1) := by decide +kernel
theorem dX9_assume_9 : decode cX9_assume 9 = .ok (.iconst 3, 1) := by decide +kernel
theorem dX9_assume_10 : decode cX9_assume 10 = .ok (.if_icmp .ge 7, 3) := by decide +kernel
theorem dX9_assume_13 : decode cX9_assume 13 = .ok (.iconst 1, 1) := by decide +kernel
theorem dX9_assume_14 : decode cX9_assume 14 = .ok (.goto 4, 3) := by decide +kernel
theorem dX9_assume_17 : decode cX9_assume 17 = .ok (.iconst 0, 1) := by decide +kernel
theorem dX9_assume_18 : decode cX9_assume 18 = .ok (.istore_n 3, 1) := by decide +kernel
theorem dX9_assume_19 : decode cX9_assume 19 = .ok (.iload_n 3, 1) := by decide +kernel
theorem dX9_assume_20 : decode cX9_assume 20 = .ok (.ifCond .eq 7, 3) := by decide +kernel
theorem dX9_assume_23 : decode cX9_assume 23 = .ok (.iload_n 2, 1) := by decide +kernel
theorem dX9_assume_24 : decode cX9_assume 24 = .ok (.goto 6, 3) := by decide +kernel
theorem dX9_assume_27 : decode cX9_assume 27 = .ok (.iload_n 2, 1) := by decide +kernel
theorem dX9_assume_28 : decode cX9_assume 28 = .ok (.iconst 3, 1) := by decide +kernel
theorem dX9_assume_29 : decode cX9_assume 29 = .ok (.isub, 1) := by decide +kernel
theorem dX9_assume_30 : decode cX9_assume 30 = .ok (.istore 4, 2) := by decide +kernel
theorem dX9_assume_32 : decode cX9_assume 32 = .ok (.aload_n 0, 1) := by decide +kernel
theorem dX9_assume_33 : decode cX9_assume 33 = .ok (.getfield 22, 3) := by decide +kernel
theorem dX9_assume_36 : decode cX9_assume 36 = .ok (.iload_n 2, 1) := by decide +kernel
theorem dX9_assume_37 : decode cX9_assume 37 = .ok (.iload_n 3, 1) := by decide +kernel
theorem dX9_assume_38 : decode cX9_assume 38 = .ok (.ifCond .eq 11, 3) := by decide +kernel
theorem dX9_assume_41 : decode cX9_assume 41 = .ok (.iload_n 2, 1) := by decide +kernel
theorem dX9_assume_42 : decode cX9_assume 42 = .ok (.aload_n 1, 1) := by decide +kernel
theorem dX9_assume_43 : decode cX9_assume 43 = .ok (.getfield 102, 3) := by decide +kernel
theorem dX9_assume_46 : decode cX9_assume 46 = .ok (.if_icmp .ge 58, 3) := by decide +kernel
theorem dX9_assume_49 : decode cX9_assume 49 = .ok (.aload_n 1, 1) := by decide +kernel
theorem dX9_assume_50 : decode cX9_assume 50 = .ok (.getfield 41, 3) := by decide +kernel
theorem dX9_assume_53 : decode cX9_assume 53 = .ok (.iload_n 2, 1) := by decide +kernel
theorem dX9_assume_54 : decode cX9_assume 54 = .ok (.invokevirtual 105, 3) := by decide +kernel
theorem dX9_assume_57 : decode cX9_assume 57 = .ok (.ifCond .eq 47, 3) := by decide +kernel
theorem dX9_assume_60 : decode cX9_assume 60 = .ok (.aload_n 0, 1) := by decide +kernel
theorem dX9_assume_61 : decode cX9_assume 61 = .ok (.aload_n 1, 1) := by decide +kernel
theorem dX9_assume_62 : decode cX9_assume 62 = .ok (.iload_n 3, 1) := by decide +kernel
theorem dX9_assume_63 : decode cX9_assume 63 = .ok (.ifCond .eq 7, 3) := by decide +kernel
theorem dX9_assume_66 : decode cX9_assume 66 = .ok (.iconst 1, 1) := by decide +kernel
theorem dX9_assume_67 : decode cX9_assume 67 = .ok (.goto 5, 3) := by decide +kernel
theorem dX9_assume_70 : decode cX9_assume 70 = .ok (.bipush 13, 2) := by decide +kernel
theorem dX9_assume_72 : decode cX9_assume 72 = .ok (.iload 4, 2) := by decide +kernel
theorem dX9_assume_74 : decode cX9_assume 74 = .ok (.invokevirtual 108, 3) := by decide +kernel
theorem dX9_assume_77 : decode cX9_assume 77 = .ok (.ifCond .eq 27, 3) := by decide +kernel
theorem dX9_assume_80 : decode cX9_assume 80 = .ok (.aload_n 0, 1) := by decide +kernel
theorem dX9_assume_81 : decode cX9_assume 81 = .ok (.aload_n 1, 1) := by decide +kernel
theorem dX9_assume_82 : decode cX9_assume 82 = .ok (.iload_n 3, 1) := by decide +kernel
theorem dX9_assume_83 : decode cX9_assume 83 = .ok (.ifCond .eq 7, 3) := by decide +kernel
theorem dX9_assume_86 : decode cX9_assume 86 = .ok (.iconst 2, 1) := by decide +kernel
theorem dX9_assume_87 : decode cX9_assume 87 = .ok (.goto 5, 3) := by decide +kernel
theorem dX9_assume_90 : decode cX9_assume 90 = .ok (.bipush 14, 2) := by decide +kernel
theorem dX9_assume_92 : decode cX9_assume 92 = .ok (.iload 4, 2) := by decide +kernel
theorem dX9_assume_94 : decode cX9_assume 94 = .ok (.invokevirtual 108, 3) := by decide +kernel
theorem dX9_assume_97 : decode cX9_assume 97 = .ok (.ifCond .ne 7, 3) := by decide +kernel
theorem dX9_assume_100 : decode cX9_assume 100 = .ok (.iconst 1, 1) := by decide +kernel
theorem dX9_assume_101 : decode cX9_assume 101 = .ok (.goto 4, 3) := by decide +kernel
theorem dX9_assume_104 : decode cX9_assume 104 = .ok (.iconst 0, 1) := by decide +kernel
theorem dX9_assume_105 : decode cX9_assume 105 = .ok (.bastore, 1) := by decide +kernel
theorem dX9_assume_106 : decode cX9_assume 106 = .ok (.iinc 2 1, 3) := by decide +kernel
theorem dX9_assume_109 : decode cX9_assume 109 = .ok (.goto (-107), 3) := by decide +kernel
theorem dX9_assume_112 : decode cX9_assume 112 = .ok (.return_, 1) := by decide +kernel
theorem dX9_uses_0 : decode cX9_uses 0 = .ok (.iconst 0, 1) := by decide +kernel
theorem dX9_uses_1 : decode cX9_uses 1 = .ok (.istore 4, 2) := by decide +kernel
theorem dX9_uses_3 : decode cX9_uses 3 = .ok (.iload 4, 2) := by decide +kernel
theorem dX9_uses_5 : decode cX9_uses 5 = .ok (.aload_n 1, 1) := by decide +kernel
theorem dX9_uses_6 : decode cX9_uses 6 = .ok (.getfield 55, 3) := by decide +kernel
theorem dX9_uses_9 : decode cX9_uses 9 = .ok (.if_icmp .ge 40, 3) := by decide +kernel
theorem dX9_uses_12 : decode cX9_uses 12 = .ok (.aload_n 1, 1) := by decide +kernel
theorem dX9_uses_13 : decode cX9_uses 13 = .ok (.iload 4, 2) := by decide +kernel
theorem dX9_uses_15 : decode cX9_uses 15 = .ok (.invokevirtual 86, 3) := by decide +kernel
theorem dX9_uses_18 : decode cX9_uses 18 = .ok (.iload_n 2, 1) := by decide +kernel
theorem dX9_uses_19 : decode cX9_uses 19 = .ok (.if_icmp .ne 24, 3) := by decide +kernel
theorem dX9_uses_22 : decode cX9_uses 22 = .ok (.aload_n 1, 1) := by decide +kernel
theorem dX9_uses_23 : decode cX9_uses 23 = .ok (.iload 4, 2) := by decide +kernel
theorem dX9_uses_25 : decode cX9_uses 25 = .ok (.invokevirtual 99, 3) := by decide +kernel
theorem dX9_uses_28 : decode cX9_uses 28 = .ok (.iload_n 3, 1) := by decide +kernel
theorem dX9_uses_29 : decode cX9_uses 29 = .ok (.if_icmp .ne 14, 3) := by decide +kernel
theorem dX9_uses_32 : decode cX9_uses 32 = .ok (.aload_n 1, 1) := by decide +kernel
theorem dX9_uses_33 : decode cX9_uses 33 = .ok (.iload 4, 2) := by decide +kernel
theorem dX9_uses_35 : decode cX9_uses 35 = .ok (.invokevirtual 59, 3) := by decide +kernel
theorem dX9_uses_38 : decode cX9_uses 38 = .ok (.ifCond .ne 5, 3) := by decide +kernel
theorem dX9_uses_41 : decode cX9_uses 41 = .ok (.iconst 1, 1) := by decide +kernel
theorem dX9_uses_42 : decode cX9_uses 42 = .ok (.ireturn, 1) := by decide +kernel
theorem dX9_uses_43 : decode cX9_uses 43 = .ok (.iinc 4 1, 3) := by decide +kernel
theorem dX9_uses_46 : decode cX9_uses 46 = .ok (.goto (-43), 3) := by decide +kernel
theorem dX9_uses_49 : decode cX9_uses 49 = .ok (.iconst 0, 1) := by decide +kernel
theorem dX9_uses_50 : decode cX9_uses 50 = .ok (.ireturn, 1) := by decide +kernel
theorem dX9_addGuards_0 : decode cX9_addGuards 0 = .ok (.iload_n 2, 1) := by decide +kernel
theorem dX9_addGuards_1 : decode cX9_addGuards 1 = .ok (.iconst 0, 1) := by decide +kernel
theorem dX9_addGuards_2 : decode cX9_addGuards 2 = .ok (.invokestatic 112, 3) := by decide +kernel
theorem dX9_addGuards_5 : decode cX9_addGuards 5 = .ok (.istore 4, 2) := by decide +kernel
theorem dX9_addGuards_7 : decode cX9_addGuards 7 = .ok (.iload 4, 2) := by decide +kernel
theorem dX9_addGuards_9 : decode cX9_addGuards 9 = .ok (.bipush 11, 2) := by decide +kernel
theorem dX9_addGuards_11 : decode cX9_addGuards 11 = .ok (.if_icmp .ge 73, 3) := by decide +kernel
theorem dX9_addGuards_14 : decode cX9_addGuards 14 = .ok (.aload_n 0, 1) := by decide +kernel
theorem dX9_addGuards_15 : decode cX9_addGuards 15 = .ok (.getfield 22, 3) := by decide +kernel
theorem dX9_addGuards_18 : decode cX9_addGuards 18 = .ok (.iload 4, 2) := by decide +kernel
theorem dX9_addGuards_20 : decode cX9_addGuards 20 = .ok (.baload, 1) := by decide +kernel
theorem dX9_addGuards_21 : decode cX9_addGuards 21 = .ok (.ifCond .eq 57, 3) := by decide +kernel
theorem dX9_addGuards_24 : decode cX9_addGuards 24 = .ok (.iload 4, 2) := by decide +kernel
theorem dX9_addGuards_26 : decode cX9_addGuards 26 = .ok (.iconst 3, 1) := by decide +kernel
theorem dX9_addGuards_27 : decode cX9_addGuards 27 = .ok (.if_icmp .ge 7, 3) := by decide +kernel
theorem dX9_addGuards_30 : decode cX9_addGuards 30 = .ok (.iconst 1, 1) := by decide +kernel
theorem dX9_addGuards_31 : decode cX9_addGuards 31 = .ok (.goto 4, 3) := by decide +kernel
theorem dX9_addGuards_34 : decode cX9_addGuards 34 = .ok (.iconst 0, 1) := by decide +kernel
theorem dX9_addGuards_35 : decode cX9_addGuards 35 = .ok (.istore 5, 2) := by decide +kernel
theorem dX9_addGuards_37 : decode cX9_addGuards 37 = .ok (.aload_n 0, 1) := by decide +kernel
theorem dX9_addGuards_38 : decode cX9_addGuards 38 = .ok (.getfield 25, 3) := by decide +kernel
theorem dX9_addGuards_41 : decode cX9_addGuards 41 = .ok (.iload 5, 2) := by decide +kernel
theorem dX9_addGuards_43 : decode cX9_addGuards 43 = .ok (.ifCond .eq 8, 3) := by decide +kernel
theorem dX9_addGuards_46 : decode cX9_addGuards 46 = .ok (.bipush 17, 2) := by decide +kernel
theorem dX9_addGuards_48 : decode cX9_addGuards 48 = .ok (.goto 5, 3) := by decide +kernel
theorem dX9_addGuards_51 : decode cX9_addGuards 51 = .ok (.bipush 18, 2) := by decide +kernel
theorem dX9_addGuards_53 : decode cX9_addGuards 53 = .ok (.iload 5, 2) := by decide +kernel
theorem dX9_addGuards_55 : decode cX9_addGuards 55 = .ok (.ifCond .eq 8, 3) := by decide +kernel
theorem dX9_addGuards_58 : decode cX9_addGuards 58 = .ok (.iload 4, 2) := by decide +kernel
theorem dX9_addGuards_60 : decode cX9_addGuards 60 = .ok (.goto 7, 3) := by decide +kernel
theorem dX9_addGuards_63 : decode cX9_addGuards 63 = .ok (.iload 4, 2) := by decide +kernel
theorem dX9_addGuards_65 : decode cX9_addGuards 65 = .ok (.iconst 3, 1) := by decide +kernel
theorem dX9_addGuards_66 : decode cX9_addGuards 66 = .ok (.isub, 1) := by decide +kernel
theorem dX9_addGuards_67 : decode cX9_addGuards 67 = .ok (.aload_n 1, 1) := by decide +kernel
theorem dX9_addGuards_68 : decode cX9_addGuards 68 = .ok (.iload 4, 2) := by decide +kernel
theorem dX9_addGuards_70 : decode cX9_addGuards 70 = .ok (.invokevirtual 118, 3) := by decide +kernel
theorem dX9_addGuards_73 : decode cX9_addGuards 73 = .ok (.iconst 0, 1) := by decide +kernel
theorem dX9_addGuards_74 : decode cX9_addGuards 74 = .ok (.iload_n 3, 1) := by decide +kernel
theorem dX9_addGuards_75 : decode cX9_addGuards 75 = .ok (.invokevirtual 121, 3) := by decide +kernel
theorem dX9_addGuards_78 : decode cX9_addGuards 78 = .ok (.iinc 4 1, 3) := by decide +kernel
theorem dX9_addGuards_81 : decode cX9_addGuards 81 = .ok (.goto (-74), 3) := by decide +kernel
theorem dX9_addGuards_84 : decode cX9_addGuards 84 = .ok (.return_, 1) := by decide +kernel
theorem dX9_knowArgsAlone_0 : decode cX9_knowArgsAlone 0 = .ok (.iconst 0, 1) := by decide +kernel
theorem dX9_knowArgsAlone_1 : decode cX9_knowArgsAlone 1 = .ok (.istore_n 2, 1) := by decide +kernel
theorem dX9_knowArgsAlone_2 : decode cX9_knowArgsAlone 2 = .ok (.iload_n 2, 1) := by decide +kernel
theorem dX9_knowArgsAlone_3 : decode cX9_knowArgsAlone 3 = .ok (.bipush 15, 2) := by decide +kernel
theorem dX9_knowArgsAlone_5 : decode cX9_knowArgsAlone 5 = .ok (.if_icmp .ge 16, 3) := by decide +kernel
theorem dX9_knowArgsAlone_8 : decode cX9_knowArgsAlone 8 = .ok (.aload_n 0, 1) := by decide +kernel
theorem dX9_knowArgsAlone_9 : decode cX9_knowArgsAlone 9 = .ok (.getfield 9, 3) := by decide +kernel
theorem dX9_knowArgsAlone_12 : decode cX9_knowArgsAlone 12 = .ok (.iload_n 2, 1) := by decide +kernel
theorem dX9_knowArgsAlone_13 : decode cX9_knowArgsAlone 13 = .ok (.iconst 0, 1) := by decide +kernel
theorem dX9_knowArgsAlone_14 : decode cX9_knowArgsAlone 14 = .ok (.bastore, 1) := by decide +kernel
theorem dX9_knowArgsAlone_15 : decode cX9_knowArgsAlone 15 = .ok (.iinc 2 1, 3) := by decide +kernel
theorem dX9_knowArgsAlone_18 : decode cX9_knowArgsAlone 18 = .ok (.goto (-16), 3) := by decide +kernel
theorem dX9_knowArgsAlone_21 : decode cX9_knowArgsAlone 21 = .ok (.iconst 0, 1) := by decide +kernel
theorem dX9_knowArgsAlone_22 : decode cX9_knowArgsAlone 22 = .ok (.istore_n 2, 1) := by decide +kernel
theorem dX9_knowArgsAlone_23 : decode cX9_knowArgsAlone 23 = .ok (.iload_n 2, 1) := by decide +kernel
theorem dX9_knowArgsAlone_24 : decode cX9_knowArgsAlone 24 = .ok (.iconst 3, 1) := by decide +kernel
theorem dX9_knowArgsAlone_25 : decode cX9_knowArgsAlone 25 = .ok (.if_icmp .ge 28, 3) := by decide +kernel
theorem dX9_knowArgsAlone_28 : decode cX9_knowArgsAlone 28 = .ok (.aload_n 0, 1) := by decide +kernel
theorem dX9_knowArgsAlone_29 : decode cX9_knowArgsAlone 29 = .ok (.getfield 22, 3) := by decide +kernel
theorem dX9_knowArgsAlone_32 : decode cX9_knowArgsAlone 32 = .ok (.iload_n 2, 1) := by decide +kernel
theorem dX9_knowArgsAlone_33 : decode cX9_knowArgsAlone 33 = .ok (.baload, 1) := by decide +kernel
theorem dX9_knowArgsAlone_34 : decode cX9_knowArgsAlone 34 = .ok (.ifCond .eq 13, 3) := by decide +kernel
theorem dX9_knowArgsAlone_37 : decode cX9_knowArgsAlone 37 = .ok (.aload_n 0, 1) := by decide +kernel
theorem dX9_knowArgsAlone_38 : decode cX9_knowArgsAlone 38 = .ok (.iload_n 2, 1) := by decide +kernel
theorem dX9_knowArgsAlone_39 : decode cX9_knowArgsAlone 39 = .ok (.aload_n 1, 1) := by decide +kernel
theorem dX9_knowArgsAlone_40 : decode cX9_knowArgsAlone 40 = .ok (.iload_n 2, 1) := by decide +kernel
theorem dX9_knowArgsAlone_41 : decode cX9_knowArgsAlone 41 = .ok (.invokevirtual 118, 3) := by decide +kernel
theorem dX9_knowArgsAlone_44 : decode cX9_knowArgsAlone 44 = .ok (.invokevirtual 125, 3) := by decide +kernel
theorem dX9_knowArgsAlone_47 : decode cX9_knowArgsAlone 47 = .ok (.iinc 2 1, 3) := by decide +kernel
theorem dX9_knowArgsAlone_50 : decode cX9_knowArgsAlone 50 = .ok (.goto (-27), 3) := by decide +kernel
theorem dX9_knowArgsAlone_53 : decode cX9_knowArgsAlone 53 = .ok (.return_, 1) := by decide +kernel
theorem dX9_wantsTemplate_0 : decode cX9_wantsTemplate 0 = .ok (.aload_n 1, 1) := by decide +kernel
theorem dX9_wantsTemplate_1 : decode cX9_wantsTemplate 1 = .ok (.iload_n 2, 1) := by decide +kernel
theorem dX9_wantsTemplate_2 : decode cX9_wantsTemplate 2 = .ok (.invokevirtual 86, 3) := by decide +kernel
theorem dX9_wantsTemplate_5 : decode cX9_wantsTemplate 5 = .ok (.istore_n 3, 1) := by decide +kernel
theorem dX9_wantsTemplate_6 : decode cX9_wantsTemplate 6 = .ok (.aload_n 1, 1) := by decide +kernel
theorem dX9_wantsTemplate_7 : decode cX9_wantsTemplate 7 = .ok (.iload_n 2, 1) := by decide +kernel
theorem dX9_wantsTemplate_8 : decode cX9_wantsTemplate 8 = .ok (.invokevirtual 99, 3) := by decide +kernel
theorem dX9_wantsTemplate_11 : decode cX9_wantsTemplate 11 = .ok (.istore 4, 2) := by decide +kernel
theorem dX9_wantsTemplate_13 : decode cX9_wantsTemplate 13 = .ok (.bipush 7, 2) := by decide +kernel
theorem dX9_wantsTemplate_15 : decode cX9_wantsTemplate 15 = .ok (.aload_n 1, 1) := by decide +kernel
theorem dX9_wantsTemplate_16 : decode cX9_wantsTemplate 16 = .ok (.iload_n 2, 1) := by decide +kernel
theorem dX9_wantsTemplate_17 : decode cX9_wantsTemplate 17 = .ok (.invokevirtual 129, 3) := by decide +kernel
theorem dX9_wantsTemplate_20 : decode cX9_wantsTemplate 20 = .ok (.iadd, 1) := by decide +kernel
theorem dX9_wantsTemplate_21 : decode cX9_wantsTemplate 21 = .ok (.istore 5, 2) := by decide +kernel
theorem dX9_wantsTemplate_23 : decode cX9_wantsTemplate 23 = .ok (.iload_n 3, 1) := by decide +kernel
theorem dX9_wantsTemplate_24 : decode cX9_wantsTemplate 24 = .ok (.tableswitch 254 0 19 #[96, 106, 142, 254, 254, 254, 254, 254, 254, 192, 172, 192, 224, 203, 224, 224, 224, 239, 123, 162], 96) := by decide +kernel
theorem dX9_wantsTemplate_120 : decode cX9_wantsTemplate 120 = .ok (.aload_n 0, 1) := by decide +kernel
theorem dX9_wantsTemplate_121 : decode cX9_wantsTemplate 121 = .ok (.iload 5, 2) := by decide +kernel
theorem dX9_wantsTemplate_123 : decode cX9_wantsTemplate 123 = .ok (.iload 4, 2) := by decide +kernel
theorem dX9_wantsTemplate_125 : decode cX9_wantsTemplate 125 = .ok (.invokevirtual 125, 3) := by decide +kernel
theorem dX9_wantsTemplate_128 : decode cX9_wantsTemplate 128 = .ok (.iconst 0, 1) := by decide +kernel
theorem dX9_wantsTemplate_129 : decode cX9_wantsTemplate 129 = .ok (.ireturn, 1) := by decide +kernel
theorem dX9_wantsTemplate_130 : decode cX9_wantsTemplate 130 = .ok (.aload_n 0, 1) := by decide +kernel
theorem dX9_wantsTemplate_131 : decode cX9_wantsTemplate 131 = .ok (.iload 4, 2) := by decide +kernel
theorem dX9_wantsTemplate_133 : decode cX9_wantsTemplate 133 = .ok (.iload 5, 2) := by decide +kernel
theorem dX9_wantsTemplate_135 : decode cX9_wantsTemplate 135 = .ok (.invokevirtual 132, 3) := by decide +kernel
theorem dX9_wantsTemplate_138 : decode cX9_wantsTemplate 138 = .ok (.ifCond .ne 7, 3) := by decide +kernel
theorem dX9_wantsTemplate_141 : decode cX9_wantsTemplate 141 = .ok (.iconst 1, 1) := by decide +kernel
theorem dX9_wantsTemplate_142 : decode cX9_wantsTemplate 142 = .ok (.goto 4, 3) := by decide +kernel
theorem dX9_wantsTemplate_145 : decode cX9_wantsTemplate 145 = .ok (.iconst 0, 1) := by decide +kernel
theorem dX9_wantsTemplate_146 : decode cX9_wantsTemplate 146 = .ok (.ireturn, 1) := by decide +kernel
theorem dX9_wantsTemplate_147 : decode cX9_wantsTemplate 147 = .ok (.aload_n 0, 1) := by decide +kernel
theorem dX9_wantsTemplate_148 : decode cX9_wantsTemplate 148 = .ok (.iload 5, 2) := by decide +kernel
theorem dX9_wantsTemplate_150 : decode cX9_wantsTemplate 150 = .ok (.iconst 1, 1) := by decide +kernel
theorem dX9_wantsTemplate_151 : decode cX9_wantsTemplate 151 = .ok (.isub, 1) := by decide +kernel
theorem dX9_wantsTemplate_152 : decode cX9_wantsTemplate 152 = .ok (.iload 5, 2) := by decide +kernel
theorem dX9_wantsTemplate_154 : decode cX9_wantsTemplate 154 = .ok (.invokevirtual 132, 3) := by decide +kernel
theorem dX9_wantsTemplate_157 : decode cX9_wantsTemplate 157 = .ok (.ifCond .ne 7, 3) := by decide +kernel
theorem dX9_wantsTemplate_160 : decode cX9_wantsTemplate 160 = .ok (.iconst 1, 1) := by decide +kernel
theorem dX9_wantsTemplate_161 : decode cX9_wantsTemplate 161 = .ok (.goto 4, 3) := by decide +kernel
theorem dX9_wantsTemplate_164 : decode cX9_wantsTemplate 164 = .ok (.iconst 0, 1) := by decide +kernel
theorem dX9_wantsTemplate_165 : decode cX9_wantsTemplate 165 = .ok (.ireturn, 1) := by decide +kernel
theorem dX9_wantsTemplate_166 : decode cX9_wantsTemplate 166 = .ok (.aload_n 0, 1) := by decide +kernel
theorem dX9_wantsTemplate_167 : decode cX9_wantsTemplate 167 = .ok (.iload 4, 2) := by decide +kernel
theorem dX9_wantsTemplate_169 : decode cX9_wantsTemplate 169 = .ok (.iload 5, 2) := by decide +kernel
theorem dX9_wantsTemplate_171 : decode cX9_wantsTemplate 171 = .ok (.iconst 1, 1) := by decide +kernel
theorem dX9_wantsTemplate_172 : decode cX9_wantsTemplate 172 = .ok (.isub, 1) := by decide +kernel
theorem dX9_wantsTemplate_173 : decode cX9_wantsTemplate 173 = .ok (.iload_n 2, 1) := by decide +kernel
theorem dX9_wantsTemplate_174 : decode cX9_wantsTemplate 174 = .ok (.invokevirtual 136, 3) := by decide +kernel
theorem dX9_wantsTemplate_177 : decode cX9_wantsTemplate 177 = .ok (.ifCond .ne 7, 3) := by decide +kernel
theorem dX9_wantsTemplate_180 : decode cX9_wantsTemplate 180 = .ok (.iconst 1, 1) := by decide +kernel
theorem dX9_wantsTemplate_181 : decode cX9_wantsTemplate 181 = .ok (.goto 4, 3) := by decide +kernel
theorem dX9_wantsTemplate_184 : decode cX9_wantsTemplate 184 = .ok (.iconst 0, 1) := by decide +kernel
theorem dX9_wantsTemplate_185 : decode cX9_wantsTemplate 185 = .ok (.ireturn, 1) := by decide +kernel
theorem dX9_wantsTemplate_186 : decode cX9_wantsTemplate 186 = .ok (.aload_n 0, 1) := by decide +kernel
theorem dX9_wantsTemplate_187 : decode cX9_wantsTemplate 187 = .ok (.iload 5, 2) := by decide +kernel
theorem dX9_wantsTemplate_189 : decode cX9_wantsTemplate 189 = .ok (.iconst 1, 1) := by decide +kernel
theorem dX9_wantsTemplate_190 : decode cX9_wantsTemplate 190 = .ok (.isub, 1) := by decide +kernel
theorem dX9_wantsTemplate_191 : decode cX9_wantsTemplate 191 = .ok (.invokevirtual 140, 3) := by decide +kernel
theorem dX9_wantsTemplate_194 : decode cX9_wantsTemplate 194 = .ok (.iconst 0, 1) := by decide +kernel
theorem dX9_wantsTemplate_195 : decode cX9_wantsTemplate 195 = .ok (.ireturn, 1) := by decide +kernel
theorem dX9_wantsTemplate_196 : decode cX9_wantsTemplate 196 = .ok (.aload_n 0, 1) := by decide +kernel
theorem dX9_wantsTemplate_197 : decode cX9_wantsTemplate 197 = .ok (.iload 4, 2) := by decide +kernel
theorem dX9_wantsTemplate_199 : decode cX9_wantsTemplate 199 = .ok (.iload 5, 2) := by decide +kernel
theorem dX9_wantsTemplate_201 : decode cX9_wantsTemplate 201 = .ok (.iconst 1, 1) := by decide +kernel
theorem dX9_wantsTemplate_202 : decode cX9_wantsTemplate 202 = .ok (.isub, 1) := by decide +kernel
theorem dX9_wantsTemplate_203 : decode cX9_wantsTemplate 203 = .ok (.iload_n 2, 1) := by decide +kernel
theorem dX9_wantsTemplate_204 : decode cX9_wantsTemplate 204 = .ok (.invokevirtual 143, 3) := by decide +kernel
theorem dX9_wantsTemplate_207 : decode cX9_wantsTemplate 207 = .ok (.ifCond .ne 7, 3) := by decide +kernel
theorem dX9_wantsTemplate_210 : decode cX9_wantsTemplate 210 = .ok (.iconst 1, 1) := by decide +kernel
theorem dX9_wantsTemplate_211 : decode cX9_wantsTemplate 211 = .ok (.goto 4, 3) := by decide +kernel
theorem dX9_wantsTemplate_214 : decode cX9_wantsTemplate 214 = .ok (.iconst 0, 1) := by decide +kernel
theorem dX9_wantsTemplate_215 : decode cX9_wantsTemplate 215 = .ok (.ireturn, 1) := by decide +kernel
theorem dX9_wantsTemplate_216 : decode cX9_wantsTemplate 216 = .ok (.aload_n 0, 1) := by decide +kernel
theorem dX9_wantsTemplate_217 : decode cX9_wantsTemplate 217 = .ok (.bipush 7, 2) := by decide +kernel
theorem dX9_wantsTemplate_219 : decode cX9_wantsTemplate 219 = .ok (.bipush 14, 2) := by decide +kernel
theorem dX9_wantsTemplate_221 : decode cX9_wantsTemplate 221 = .ok (.iload_n 2, 1) := by decide +kernel
theorem dX9_wantsTemplate_222 : decode cX9_wantsTemplate 222 = .ok (.invokevirtual 66, 3) := by decide +kernel
theorem dX9_wantsTemplate_225 : decode cX9_wantsTemplate 225 = .ok (.iconst 1, 1) := by decide +kernel
theorem dX9_wantsTemplate_226 : decode cX9_wantsTemplate 226 = .ok (.ireturn, 1) := by decide +kernel
theorem dX9_wantsTemplate_227 : decode cX9_wantsTemplate 227 = .ok (.aload_n 0, 1) := by decide +kernel
theorem dX9_wantsTemplate_228 : decode cX9_wantsTemplate 228 = .ok (.aload_n 1, 1) := by decide +kernel
theorem dX9_wantsTemplate_229 : decode cX9_wantsTemplate 229 = .ok (.getfield 41, 3) := by decide +kernel
theorem dX9_wantsTemplate_232 : decode cX9_wantsTemplate 232 = .ok (.iload 4, 2) := by decide +kernel
theorem dX9_wantsTemplate_234 : decode cX9_wantsTemplate 234 = .ok (.iload 5, 2) := by decide +kernel
theorem dX9_wantsTemplate_236 : decode cX9_wantsTemplate 236 = .ok (.invokevirtual 146, 3) := by decide +kernel
theorem dX9_wantsTemplate_239 : decode cX9_wantsTemplate 239 = .ok (.ifCond .ne 7, 3) := by decide +kernel
theorem dX9_wantsTemplate_242 : decode cX9_wantsTemplate 242 = .ok (.iconst 1, 1) := by decide +kernel
theorem dX9_wantsTemplate_243 : decode cX9_wantsTemplate 243 = .ok (.goto 4, 3) := by decide +kernel
theorem dX9_wantsTemplate_246 : decode cX9_wantsTemplate 246 = .ok (.iconst 0, 1) := by decide +kernel
theorem dX9_wantsTemplate_247 : decode cX9_wantsTemplate 247 = .ok (.ireturn, 1) := by decide +kernel
theorem dX9_wantsTemplate_248 : decode cX9_wantsTemplate 248 = .ok (.aload_n 0, 1) := by decide +kernel
theorem dX9_wantsTemplate_249 : decode cX9_wantsTemplate 249 = .ok (.iload 5, 2) := by decide +kernel
theorem dX9_wantsTemplate_251 : decode cX9_wantsTemplate 251 = .ok (.iconst 1, 1) := by decide +kernel
theorem dX9_wantsTemplate_252 : decode cX9_wantsTemplate 252 = .ok (.isub, 1) := by decide +kernel
theorem dX9_wantsTemplate_253 : decode cX9_wantsTemplate 253 = .ok (.iload 5, 2) := by decide +kernel
theorem dX9_wantsTemplate_255 : decode cX9_wantsTemplate 255 = .ok (.iconst 1, 1) := by decide +kernel
theorem dX9_wantsTemplate_256 : decode cX9_wantsTemplate 256 = .ok (.isub, 1) := by decide +kernel
theorem dX9_wantsTemplate_257 : decode cX9_wantsTemplate 257 = .ok (.iload_n 2, 1) := by decide +kernel
theorem dX9_wantsTemplate_258 : decode cX9_wantsTemplate 258 = .ok (.invokevirtual 66, 3) := by decide +kernel
theorem dX9_wantsTemplate_261 : decode cX9_wantsTemplate 261 = .ok (.iconst 1, 1) := by decide +kernel
theorem dX9_wantsTemplate_262 : decode cX9_wantsTemplate 262 = .ok (.ireturn, 1) := by decide +kernel
theorem dX9_wantsTemplate_263 : decode cX9_wantsTemplate 263 = .ok (.aload_n 0, 1) := by decide +kernel
theorem dX9_wantsTemplate_264 : decode cX9_wantsTemplate 264 = .ok (.iload 5, 2) := by decide +kernel
theorem dX9_wantsTemplate_266 : decode cX9_wantsTemplate 266 = .ok (.iconst 2, 1) := by decide +kernel
theorem dX9_wantsTemplate_267 : decode cX9_wantsTemplate 267 = .ok (.isub, 1) := by decide +kernel
theorem dX9_wantsTemplate_268 : decode cX9_wantsTemplate 268 = .ok (.iload 5, 2) := by decide +kernel
theorem dX9_wantsTemplate_270 : decode cX9_wantsTemplate 270 = .ok (.iconst 1, 1) := by decide +kernel
theorem dX9_wantsTemplate_271 : decode cX9_wantsTemplate 271 = .ok (.isub, 1) := by decide +kernel
theorem dX9_wantsTemplate_272 : decode cX9_wantsTemplate 272 = .ok (.iload_n 2, 1) := by decide +kernel
theorem dX9_wantsTemplate_273 : decode cX9_wantsTemplate 273 = .ok (.invokevirtual 66, 3) := by decide +kernel
theorem dX9_wantsTemplate_276 : decode cX9_wantsTemplate 276 = .ok (.iconst 1, 1) := by decide +kernel
theorem dX9_wantsTemplate_277 : decode cX9_wantsTemplate 277 = .ok (.ireturn, 1) := by decide +kernel
theorem dX9_wantsTemplate_278 : decode cX9_wantsTemplate 278 = .ok (.aload_n 0, 1) := by decide +kernel
theorem dX9_wantsTemplate_279 : decode cX9_wantsTemplate 279 = .ok (.iload_n 3, 1) := by decide +kernel
theorem dX9_wantsTemplate_280 : decode cX9_wantsTemplate 280 = .ok (.iconst 3, 1) := by decide +kernel
theorem dX9_wantsTemplate_281 : decode cX9_wantsTemplate 281 = .ok (.isub, 1) := by decide +kernel
theorem dX9_wantsTemplate_282 : decode cX9_wantsTemplate 282 = .ok (.iconst 2, 1) := by decide +kernel
theorem dX9_wantsTemplate_283 : decode cX9_wantsTemplate 283 = .ok (.iadd, 1) := by decide +kernel
theorem dX9_wantsTemplate_284 : decode cX9_wantsTemplate 284 = .ok (.iload 5, 2) := by decide +kernel
theorem dX9_wantsTemplate_286 : decode cX9_wantsTemplate 286 = .ok (.iconst 2, 1) := by decide +kernel
theorem dX9_wantsTemplate_287 : decode cX9_wantsTemplate 287 = .ok (.isub, 1) := by decide +kernel
theorem dX9_wantsTemplate_288 : decode cX9_wantsTemplate 288 = .ok (.iload 5, 2) := by decide +kernel
theorem dX9_wantsTemplate_290 : decode cX9_wantsTemplate 290 = .ok (.iconst 1, 1) := by decide +kernel
theorem dX9_wantsTemplate_291 : decode cX9_wantsTemplate 291 = .ok (.isub, 1) := by decide +kernel
theorem dX9_wantsTemplate_292 : decode cX9_wantsTemplate 292 = .ok (.iload_n 2, 1) := by decide +kernel
theorem dX9_wantsTemplate_293 : decode cX9_wantsTemplate 293 = .ok (.invokevirtual 150, 3) := by decide +kernel
theorem dX9_wantsTemplate_296 : decode cX9_wantsTemplate 296 = .ok (.ifCond .ne 7, 3) := by decide +kernel
theorem dX9_wantsTemplate_299 : decode cX9_wantsTemplate 299 = .ok (.iconst 1, 1) := by decide +kernel
theorem dX9_wantsTemplate_300 : decode cX9_wantsTemplate 300 = .ok (.goto 4, 3) := by decide +kernel
theorem dX9_wantsTemplate_303 : decode cX9_wantsTemplate 303 = .ok (.iconst 0, 1) := by decide +kernel
theorem dX9_wantsTemplate_304 : decode cX9_wantsTemplate 304 = .ok (.ireturn, 1) := by decide +kernel
theorem dX9_isCopyKnown_0 : decode cX9_isCopyKnown 0 = .ok (.aload_n 0, 1) := by decide +kernel
theorem dX9_isCopyKnown_1 : decode cX9_isCopyKnown 1 = .ok (.iload_n 1, 1) := by decide +kernel
theorem dX9_isCopyKnown_2 : decode cX9_isCopyKnown 2 = .ok (.invokevirtual 154, 3) := by decide +kernel
theorem dX9_isCopyKnown_5 : decode cX9_isCopyKnown 5 = .ok (.ifCond .eq 15, 3) := by decide +kernel
theorem dX9_isCopyKnown_8 : decode cX9_isCopyKnown 8 = .ok (.aload_n 0, 1) := by decide +kernel
theorem dX9_isCopyKnown_9 : decode cX9_isCopyKnown 9 = .ok (.iload_n 2, 1) := by decide +kernel
theorem dX9_isCopyKnown_10 : decode cX9_isCopyKnown 10 = .ok (.aload_n 0, 1) := by decide +kernel
theorem dX9_isCopyKnown_11 : decode cX9_isCopyKnown 11 = .ok (.iload_n 1, 1) := by decide +kernel
theorem dX9_isCopyKnown_12 : decode cX9_isCopyKnown 12 = .ok (.invokevirtual 157, 3) := by decide +kernel
theorem dX9_isCopyKnown_15 : decode cX9_isCopyKnown 15 = .ok (.invokevirtual 125, 3) := by decide +kernel
theorem dX9_isCopyKnown_18 : decode cX9_isCopyKnown 18 = .ok (.iconst 1, 1) := by decide +kernel
theorem dX9_isCopyKnown_19 : decode cX9_isCopyKnown 19 = .ok (.ireturn, 1) := by decide +kernel
theorem dX9_isCopyKnown_20 : decode cX9_isCopyKnown 20 = .ok (.iconst 0, 1) := by decide +kernel
theorem dX9_isCopyKnown_21 : decode cX9_isCopyKnown 21 = .ok (.ireturn, 1) := by decide +kernel
theorem dX9_isStoredKnown_0 : decode cX9_isStoredKnown 0 = .ok (.aload_n 0, 1) := by decide +kernel
theorem dX9_isStoredKnown_1 : decode cX9_isStoredKnown 1 = .ok (.iload_n 2, 1) := by decide +kernel
theorem dX9_isStoredKnown_2 : decode cX9_isStoredKnown 2 = .ok (.invokevirtual 154, 3) := by decide +kernel
theorem dX9_isStoredKnown_5 : decode cX9_isStoredKnown 5 = .ok (.ifCond .eq 36, 3) := by decide +kernel
theorem dX9_isStoredKnown_8 : decode cX9_isStoredKnown 8 = .ok (.aload_n 0, 1) := by decide +kernel
theorem dX9_isStoredKnown_9 : decode cX9_isStoredKnown 9 = .ok (.getfield 25, 3) := by decide +kernel
theorem dX9_isStoredKnown_12 : decode cX9_isStoredKnown 12 = .ok (.iconst 0, 1) := by decide +kernel
theorem dX9_isStoredKnown_13 : decode cX9_isStoredKnown 13 = .ok (.iload_n 1, 1) := by decide +kernel
theorem dX9_isStoredKnown_14 : decode cX9_isStoredKnown 14 = .ok (.aload_n 0, 1) := by decide +kernel
theorem dX9_isStoredKnown_15 : decode cX9_isStoredKnown 15 = .ok (.iload_n 2, 1) := by decide +kernel
theorem dX9_isStoredKnown_16 : decode cX9_isStoredKnown 16 = .ok (.invokevirtual 157, 3) := by decide +kernel
theorem dX9_isStoredKnown_19 : decode cX9_isStoredKnown 19 = .ok (.iconst 0, 1) := by decide +kernel
theorem dX9_isStoredKnown_20 : decode cX9_isStoredKnown 20 = .ok (.iload_n 3, 1) := by decide +kernel
theorem dX9_isStoredKnown_21 : decode cX9_isStoredKnown 21 = .ok (.invokevirtual 121, 3) := by decide +kernel
theorem dX9_isStoredKnown_24 : decode cX9_isStoredKnown 24 = .ok (.aload_n 0, 1) := by decide +kernel
theorem dX9_isStoredKnown_25 : decode cX9_isStoredKnown 25 = .ok (.iload_n 1, 1) := by decide +kernel
theorem dX9_isStoredKnown_26 : decode cX9_isStoredKnown 26 = .ok (.aload_n 0, 1) := by decide +kernel
theorem dX9_isStoredKnown_27 : decode cX9_isStoredKnown 27 = .ok (.iload_n 2, 1) := by decide +kernel
theorem dX9_isStoredKnown_28 : decode cX9_isStoredKnown 28 = .ok (.invokevirtual 157, 3) := by decide +kernel
theorem dX9_isStoredKnown_31 : decode cX9_isStoredKnown 31 = .ok (.invokevirtual 125, 3) := by decide +kernel
theorem dX9_isStoredKnown_34 : decode cX9_isStoredKnown 34 = .ok (.aload_n 0, 1) := by decide +kernel
theorem dX9_isStoredKnown_35 : decode cX9_isStoredKnown 35 = .ok (.iload_n 2, 1) := by decide +kernel
theorem dX9_isStoredKnown_36 : decode cX9_isStoredKnown 36 = .ok (.invokevirtual 140, 3) := by decide +kernel
theorem dX9_isStoredKnown_39 : decode cX9_isStoredKnown 39 = .ok (.iconst 1, 1) := by decide +kernel
theorem dX9_isStoredKnown_40 : decode cX9_isStoredKnown 40 = .ok (.ireturn, 1) := by decide +kernel
theorem dX9_isStoredKnown_41 : decode cX9_isStoredKnown 41 = .ok (.aload_n 0, 1) := by decide +kernel
theorem dX9_isStoredKnown_42 : decode cX9_isStoredKnown 42 = .ok (.iload_n 1, 1) := by decide +kernel
theorem dX9_isStoredKnown_43 : decode cX9_isStoredKnown 43 = .ok (.invokevirtual 140, 3) := by decide +kernel
theorem dX9_isStoredKnown_46 : decode cX9_isStoredKnown 46 = .ok (.iconst 0, 1) := by decide +kernel
theorem dX9_isStoredKnown_47 : decode cX9_isStoredKnown 47 = .ok (.ireturn, 1) := by decide +kernel
theorem dX9_isWaySure_0 : decode cX9_isWaySure 0 = .ok (.aload_n 0, 1) := by decide +kernel
theorem dX9_isWaySure_1 : decode cX9_isWaySure 1 = .ok (.iload_n 2, 1) := by decide +kernel
theorem dX9_isWaySure_2 : decode cX9_isWaySure 2 = .ok (.invokevirtual 154, 3) := by decide +kernel
theorem dX9_isWaySure_5 : decode cX9_isWaySure 5 = .ok (.ifCond .ne 14, 3) := by decide +kernel
theorem dX9_isWaySure_8 : decode cX9_isWaySure 8 = .ok (.aload_n 0, 1) := by decide +kernel
theorem dX9_isWaySure_9 : decode cX9_isWaySure 9 = .ok (.bipush 7, 2) := by decide +kernel
theorem dX9_isWaySure_11 : decode cX9_isWaySure 11 = .ok (.bipush 14, 2) := by decide +kernel
theorem dX9_isWaySure_13 : decode cX9_isWaySure 13 = .ok (.iload_n 3, 1) := by decide +kernel
theorem dX9_isWaySure_14 : decode cX9_isWaySure 14 = .ok (.invokevirtual 66, 3) := by decide +kernel
theorem dX9_isWaySure_17 : decode cX9_isWaySure 17 = .ok (.iconst 0, 1) := by decide +kernel
theorem dX9_isWaySure_18 : decode cX9_isWaySure 18 = .ok (.ireturn, 1) := by decide +kernel
theorem dX9_isWaySure_19 : decode cX9_isWaySure 19 = .ok (.aload_n 0, 1) := by decide +kernel
theorem dX9_isWaySure_20 : decode cX9_isWaySure 20 = .ok (.iload_n 2, 1) := by decide +kernel
theorem dX9_isWaySure_21 : decode cX9_isWaySure 21 = .ok (.invokevirtual 140, 3) := by decide +kernel
theorem dX9_isWaySure_24 : decode cX9_isWaySure 24 = .ok (.aload_n 0, 1) := by decide +kernel
theorem dX9_isWaySure_25 : decode cX9_isWaySure 25 = .ok (.iload_n 2, 1) := by decide +kernel
theorem dX9_isWaySure_26 : decode cX9_isWaySure 26 = .ok (.invokevirtual 157, 3) := by decide +kernel
theorem dX9_isWaySure_29 : decode cX9_isWaySure 29 = .ok (.ifCond .ne 25, 3) := by decide +kernel
theorem dX9_isWaySure_32 : decode cX9_isWaySure 32 = .ok (.aload_n 0, 1) := by decide +kernel
theorem dX9_isWaySure_33 : decode cX9_isWaySure 33 = .ok (.bipush 7, 2) := by decide +kernel
theorem dX9_isWaySure_35 : decode cX9_isWaySure 35 = .ok (.bipush 14, 2) := by decide +kernel
theorem dX9_isWaySure_37 : decode cX9_isWaySure 37 = .ok (.iload_n 3, 1) := by decide +kernel
theorem dX9_isWaySure_38 : decode cX9_isWaySure 38 = .ok (.invokevirtual 66, 3) := by decide +kernel
theorem dX9_isWaySure_41 : decode cX9_isWaySure 41 = .ok (.aload_n 0, 1) := by decide +kernel
theorem dX9_isWaySure_42 : decode cX9_isWaySure 42 = .ok (.getfield 25, 3) := by decide +kernel
theorem dX9_isWaySure_45 : decode cX9_isWaySure 45 = .ok (.bipush 8, 2) := by decide +kernel
theorem dX9_isWaySure_47 : decode cX9_isWaySure 47 = .ok (.iload_n 1, 1) := by decide +kernel
theorem dX9_isWaySure_48 : decode cX9_isWaySure 48 = .ok (.iconst 0, 1) := by decide +kernel
theorem dX9_isWaySure_49 : decode cX9_isWaySure 49 = .ok (.iconst 0, 1) := by decide +kernel
theorem dX9_isWaySure_50 : decode cX9_isWaySure 50 = .ok (.iload_n 3, 1) := by decide +kernel
theorem dX9_isWaySure_51 : decode cX9_isWaySure 51 = .ok (.invokevirtual 121, 3) := by decide +kernel
theorem dX9_isWaySure_54 : decode cX9_isWaySure 54 = .ok (.iconst 1, 1) := by decide +kernel
theorem dX9_isWaySure_55 : decode cX9_isWaySure 55 = .ok (.ireturn, 1) := by decide +kernel
theorem dX9_isFieldKnown_0 : decode cX9_isFieldKnown 0 = .ok (.iconst 3, 1) := by decide +kernel
theorem dX9_isFieldKnown_1 : decode cX9_isFieldKnown 1 = .ok (.iload_n 2, 1) := by decide +kernel
theorem dX9_isFieldKnown_2 : decode cX9_isFieldKnown 2 = .ok (.iadd, 1) := by decide +kernel
theorem dX9_isFieldKnown_3 : decode cX9_isFieldKnown 3 = .ok (.istore 4, 2) := by decide +kernel
theorem dX9_isFieldKnown_5 : decode cX9_isFieldKnown 5 = .ok (.iload 4, 2) := by decide +kernel
theorem dX9_isFieldKnown_7 : decode cX9_isFieldKnown 7 = .ok (.iconst 3, 1) := by decide +kernel
theorem dX9_isFieldKnown_8 : decode cX9_isFieldKnown 8 = .ok (.if_icmp .lt 33, 3) := by decide +kernel
theorem dX9_isFieldKnown_11 : decode cX9_isFieldKnown 11 = .ok (.iload 4, 2) := by decide +kernel
theorem dX9_isFieldKnown_13 : decode cX9_isFieldKnown 13 = .ok (.bipush 11, 2) := by decide +kernel
theorem dX9_isFieldKnown_15 : decode cX9_isFieldKnown 15 = .ok (.if_icmp .ge 26, 3) := by decide +kernel
theorem dX9_isFieldKnown_18 : decode cX9_isFieldKnown 18 = .ok (.aload_n 0, 1) := by decide +kernel
theorem dX9_isFieldKnown_19 : decode cX9_isFieldKnown 19 = .ok (.getfield 22, 3) := by decide +kernel
theorem dX9_isFieldKnown_22 : decode cX9_isFieldKnown 22 = .ok (.iload 4, 2) := by decide +kernel
theorem dX9_isFieldKnown_24 : decode cX9_isFieldKnown 24 = .ok (.baload, 1) := by decide +kernel
theorem dX9_isFieldKnown_25 : decode cX9_isFieldKnown 25 = .ok (.ifCond .eq 16, 3) := by decide +kernel
theorem dX9_isFieldKnown_28 : decode cX9_isFieldKnown 28 = .ok (.aload_n 0, 1) := by decide +kernel
theorem dX9_isFieldKnown_29 : decode cX9_isFieldKnown 29 = .ok (.iload_n 3, 1) := by decide +kernel
theorem dX9_isFieldKnown_30 : decode cX9_isFieldKnown 30 = .ok (.aload_n 1, 1) := by decide +kernel
theorem dX9_isFieldKnown_31 : decode cX9_isFieldKnown 31 = .ok (.iload 4, 2) := by decide +kernel
theorem dX9_isFieldKnown_33 : decode cX9_isFieldKnown 33 = .ok (.invokevirtual 118, 3) := by decide +kernel
theorem dX9_isFieldKnown_36 : decode cX9_isFieldKnown 36 = .ok (.invokevirtual 125, 3) := by decide +kernel
theorem dX9_isFieldKnown_39 : decode cX9_isFieldKnown 39 = .ok (.iconst 1, 1) := by decide +kernel
theorem dX9_isFieldKnown_40 : decode cX9_isFieldKnown 40 = .ok (.ireturn, 1) := by decide +kernel
theorem dX9_isFieldKnown_41 : decode cX9_isFieldKnown 41 = .ok (.iconst 0, 1) := by decide +kernel
theorem dX9_isFieldKnown_42 : decode cX9_isFieldKnown 42 = .ok (.ireturn, 1) := by decide +kernel
theorem dX9_isResultKnown_0 : decode cX9_isResultKnown 0 = .ok (.iload_n 1, 1) := by decide +kernel
theorem dX9_isResultKnown_1 : decode cX9_isResultKnown 1 = .ok (.iconst 5, 1) := by decide +kernel
theorem dX9_isResultKnown_2 : decode cX9_isResultKnown 2 = .ok (.if_icmp .ne 15, 3) := by decide +kernel
theorem dX9_isResultKnown_5 : decode cX9_isResultKnown 5 = .ok (.aload_n 0, 1) := by decide +kernel
theorem dX9_isResultKnown_6 : decode cX9_isResultKnown 6 = .ok (.iload_n 3, 1) := by decide +kernel
theorem dX9_isResultKnown_7 : decode cX9_isResultKnown 7 = .ok (.invokevirtual 157, 3) := by decide +kernel
theorem dX9_isResultKnown_10 : decode cX9_isResultKnown 10 = .ok (.ifCond .ne 7, 3) := by decide +kernel
theorem dX9_isResultKnown_13 : decode cX9_isResultKnown 13 = .ok (.iconst 1, 1) := by decide +kernel
theorem dX9_isResultKnown_14 : decode cX9_isResultKnown 14 = .ok (.goto 4, 3) := by decide +kernel
theorem dX9_isResultKnown_17 : decode cX9_isResultKnown 17 = .ok (.iconst 0, 1) := by decide +kernel
theorem dX9_isResultKnown_18 : decode cX9_isResultKnown 18 = .ok (.istore 5, 2) := by decide +kernel
theorem dX9_isResultKnown_20 : decode cX9_isResultKnown 20 = .ok (.aload_n 0, 1) := by decide +kernel
theorem dX9_isResultKnown_21 : decode cX9_isResultKnown 21 = .ok (.iload_n 2, 1) := by decide +kernel
theorem dX9_isResultKnown_22 : decode cX9_isResultKnown 22 = .ok (.invokevirtual 154, 3) := by decide +kernel
theorem dX9_isResultKnown_25 : decode cX9_isResultKnown 25 = .ok (.ifCond .eq 42, 3) := by decide +kernel
theorem dX9_isResultKnown_28 : decode cX9_isResultKnown 28 = .ok (.aload_n 0, 1) := by decide +kernel
theorem dX9_isResultKnown_29 : decode cX9_isResultKnown 29 = .ok (.iload_n 3, 1) := by decide +kernel
theorem dX9_isResultKnown_30 : decode cX9_isResultKnown 30 = .ok (.invokevirtual 154, 3) := by decide +kernel
theorem dX9_isResultKnown_33 : decode cX9_isResultKnown 33 = .ok (.ifCond .eq 34, 3) := by decide +kernel
theorem dX9_isResultKnown_36 : decode cX9_isResultKnown 36 = .ok (.iload 5, 2) := by decide +kernel
theorem dX9_isResultKnown_38 : decode cX9_isResultKnown 38 = .ok (.ifCond .ne 29, 3) := by decide +kernel
theorem dX9_isResultKnown_41 : decode cX9_isResultKnown 41 = .ok (.aload_n 0, 1) := by decide +kernel
theorem dX9_isResultKnown_42 : decode cX9_isResultKnown 42 = .ok (.iload_n 2, 1) := by decide +kernel
theorem dX9_isResultKnown_43 : decode cX9_isResultKnown 43 = .ok (.iload_n 1, 1) := by decide +kernel
theorem dX9_isResultKnown_44 : decode cX9_isResultKnown 44 = .ok (.aload_n 0, 1) := by decide +kernel
theorem dX9_isResultKnown_45 : decode cX9_isResultKnown 45 = .ok (.iload_n 2, 1) := by decide +kernel
theorem dX9_isResultKnown_46 : decode cX9_isResultKnown 46 = .ok (.invokevirtual 157, 3) := by decide +kernel
theorem dX9_isResultKnown_49 : decode cX9_isResultKnown 49 = .ok (.aload_n 0, 1) := by decide +kernel
theorem dX9_isResultKnown_50 : decode cX9_isResultKnown 50 = .ok (.iload_n 3, 1) := by decide +kernel
theorem dX9_isResultKnown_51 : decode cX9_isResultKnown 51 = .ok (.invokevirtual 157, 3) := by decide +kernel
theorem dX9_isResultKnown_54 : decode cX9_isResultKnown 54 = .ok (.invokestatic 160, 3) := by decide +kernel
theorem dX9_isResultKnown_57 : decode cX9_isResultKnown 57 = .ok (.invokevirtual 125, 3) := by decide +kernel
theorem dX9_isResultKnown_60 : decode cX9_isResultKnown 60 = .ok (.aload_n 0, 1) := by decide +kernel
theorem dX9_isResultKnown_61 : decode cX9_isResultKnown 61 = .ok (.iload_n 3, 1) := by decide +kernel
theorem dX9_isResultKnown_62 : decode cX9_isResultKnown 62 = .ok (.invokevirtual 140, 3) := by decide +kernel
theorem dX9_isResultKnown_65 : decode cX9_isResultKnown 65 = .ok (.iconst 1, 1) := by decide +kernel
theorem dX9_isResultKnown_66 : decode cX9_isResultKnown 66 = .ok (.ireturn, 1) := by decide +kernel
theorem dX9_isResultKnown_67 : decode cX9_isResultKnown 67 = .ok (.aload_n 0, 1) := by decide +kernel
theorem dX9_isResultKnown_68 : decode cX9_isResultKnown 68 = .ok (.iload_n 2, 1) := by decide +kernel
theorem dX9_isResultKnown_69 : decode cX9_isResultKnown 69 = .ok (.iload_n 3, 1) := by decide +kernel
theorem dX9_isResultKnown_70 : decode cX9_isResultKnown 70 = .ok (.iload 4, 2) := by decide +kernel
theorem dX9_isResultKnown_72 : decode cX9_isResultKnown 72 = .ok (.invokevirtual 66, 3) := by decide +kernel
theorem dX9_isResultKnown_75 : decode cX9_isResultKnown 75 = .ok (.iconst 0, 1) := by decide +kernel
theorem dX9_isResultKnown_76 : decode cX9_isResultKnown 76 = .ok (.ireturn, 1) := by decide +kernel
theorem dX9_lay_0 : decode cX9_lay 0 = .ok (.iload_n 1, 1) := by decide +kernel
theorem dX9_lay_1 : decode cX9_lay 1 = .ok (.iconst 0, 1) := by decide +kernel
theorem dX9_lay_2 : decode cX9_lay 2 = .ok (.invokestatic 112, 3) := by decide +kernel
theorem dX9_lay_5 : decode cX9_lay 5 = .ok (.istore 4, 2) := by decide +kernel
theorem dX9_lay_7 : decode cX9_lay 7 = .ok (.iload 4, 2) := by decide +kernel
theorem dX9_lay_9 : decode cX9_lay 9 = .ok (.iload_n 2, 1) := by decide +kernel
theorem dX9_lay_10 : decode cX9_lay 10 = .ok (.if_icmp .gt 53, 3) := by decide +kernel
theorem dX9_lay_13 : decode cX9_lay 13 = .ok (.iload 4, 2) := by decide +kernel
theorem dX9_lay_15 : decode cX9_lay 15 = .ok (.bipush 15, 2) := by decide +kernel
theorem dX9_lay_17 : decode cX9_lay 17 = .ok (.if_icmp .ge 46, 3) := by decide +kernel
theorem dX9_lay_20 : decode cX9_lay 20 = .ok (.aload_n 0, 1) := by decide +kernel
theorem dX9_lay_21 : decode cX9_lay 21 = .ok (.getfield 9, 3) := by decide +kernel
theorem dX9_lay_24 : decode cX9_lay 24 = .ok (.iload 4, 2) := by decide +kernel
theorem dX9_lay_26 : decode cX9_lay 26 = .ok (.baload, 1) := by decide +kernel
theorem dX9_lay_27 : decode cX9_lay 27 = .ok (.ifCond .eq 30, 3) := by decide +kernel
theorem dX9_lay_30 : decode cX9_lay 30 = .ok (.aload_n 0, 1) := by decide +kernel
theorem dX9_lay_31 : decode cX9_lay 31 = .ok (.getfield 25, 3) := by decide +kernel
theorem dX9_lay_34 : decode cX9_lay 34 = .ok (.iconst 0, 1) := by decide +kernel
theorem dX9_lay_35 : decode cX9_lay 35 = .ok (.iload 4, 2) := by decide +kernel
theorem dX9_lay_37 : decode cX9_lay 37 = .ok (.aload_n 0, 1) := by decide +kernel
theorem dX9_lay_38 : decode cX9_lay 38 = .ok (.getfield 15, 3) := by decide +kernel
theorem dX9_lay_41 : decode cX9_lay 41 = .ok (.iload 4, 2) := by decide +kernel
theorem dX9_lay_43 : decode cX9_lay 43 = .ok (.iaload, 1) := by decide +kernel
theorem dX9_lay_44 : decode cX9_lay 44 = .ok (.iconst 0, 1) := by decide +kernel
theorem dX9_lay_45 : decode cX9_lay 45 = .ok (.iload_n 3, 1) := by decide +kernel
theorem dX9_lay_46 : decode cX9_lay 46 = .ok (.invokevirtual 121, 3) := by decide +kernel
theorem dX9_lay_49 : decode cX9_lay 49 = .ok (.aload_n 0, 1) := by decide +kernel
theorem dX9_lay_50 : decode cX9_lay 50 = .ok (.getfield 9, 3) := by decide +kernel
theorem dX9_lay_53 : decode cX9_lay 53 = .ok (.iload 4, 2) := by decide +kernel
theorem dX9_lay_55 : decode cX9_lay 55 = .ok (.iconst 0, 1) := by decide +kernel
theorem dX9_lay_56 : decode cX9_lay 56 = .ok (.bastore, 1) := by decide +kernel
theorem dX9_lay_57 : decode cX9_lay 57 = .ok (.iinc 4 1, 3) := by decide +kernel
theorem dX9_lay_60 : decode cX9_lay 60 = .ok (.goto (-53), 3) := by decide +kernel
theorem dX9_lay_63 : decode cX9_lay 63 = .ok (.return_, 1) := by decide +kernel
theorem dX9_know_0 : decode cX9_know 0 = .ok (.iload_n 1, 1) := by decide +kernel
theorem dX9_know_1 : decode cX9_know 1 = .ok (.ifCond .lt 23, 3) := by decide +kernel
theorem dX9_know_4 : decode cX9_know 4 = .ok (.iload_n 1, 1) := by decide +kernel
theorem dX9_know_5 : decode cX9_know 5 = .ok (.bipush 15, 2) := by decide +kernel
theorem dX9_know_7 : decode cX9_know 7 = .ok (.if_icmp .ge 17, 3) := by decide +kernel
theorem dX9_know_10 : decode cX9_know 10 = .ok (.aload_n 0, 1) := by decide +kernel
theorem dX9_know_11 : decode cX9_know 11 = .ok (.getfield 9, 3) := by decide +kernel
theorem dX9_know_14 : decode cX9_know 14 = .ok (.iload_n 1, 1) := by decide +kernel
theorem dX9_know_15 : decode cX9_know 15 = .ok (.iconst 1, 1) := by decide +kernel
theorem dX9_know_16 : decode cX9_know 16 = .ok (.bastore, 1) := by decide +kernel
theorem dX9_know_17 : decode cX9_know 17 = .ok (.aload_n 0, 1) := by decide +kernel
theorem dX9_know_18 : decode cX9_know 18 = .ok (.getfield 15, 3) := by decide +kernel
theorem dX9_know_21 : decode cX9_know 21 = .ok (.iload_n 1, 1) := by decide +kernel
theorem dX9_know_22 : decode cX9_know 22 = .ok (.iload_n 2, 1) := by decide +kernel
theorem dX9_know_23 : decode cX9_know 23 = .ok (.iastore, 1) := by decide +kernel
theorem dX9_know_24 : decode cX9_know 24 = .ok (.return_, 1) := by decide +kernel
theorem dX9_forget_0 : decode cX9_forget 0 = .ok (.iload_n 1, 1) := by decide +kernel
theorem dX9_forget_1 : decode cX9_forget 1 = .ok (.ifCond .lt 16, 3) := by decide +kernel
theorem dX9_forget_4 : decode cX9_forget 4 = .ok (.iload_n 1, 1) := by decide +kernel
theorem dX9_forget_5 : decode cX9_forget 5 = .ok (.bipush 15, 2) := by decide +kernel
theorem dX9_forget_7 : decode cX9_forget 7 = .ok (.if_icmp .ge 10, 3) := by decide +kernel
theorem dX9_forget_10 : decode cX9_forget 10 = .ok (.aload_n 0, 1) := by decide +kernel
theorem dX9_forget_11 : decode cX9_forget 11 = .ok (.getfield 9, 3) := by decide +kernel
theorem dX9_forget_14 : decode cX9_forget 14 = .ok (.iload_n 1, 1) := by decide +kernel
theorem dX9_forget_15 : decode cX9_forget 15 = .ok (.iconst 0, 1) := by decide +kernel
theorem dX9_forget_16 : decode cX9_forget 16 = .ok (.bastore, 1) := by decide +kernel
theorem dX9_forget_17 : decode cX9_forget 17 = .ok (.return_, 1) := by decide +kernel
theorem dX9_isKnown_0 : decode cX9_isKnown 0 = .ok (.iload_n 1, 1) := by decide +kernel
theorem dX9_isKnown_1 : decode cX9_isKnown 1 = .ok (.ifCond .lt 22, 3) := by decide +kernel
theorem dX9_isKnown_4 : decode cX9_isKnown 4 = .ok (.iload_n 1, 1) := by decide +kernel
theorem dX9_isKnown_5 : decode cX9_isKnown 5 = .ok (.bipush 15, 2) := by decide +kernel
theorem dX9_isKnown_7 : decode cX9_isKnown 7 = .ok (.if_icmp .ge 16, 3) := by decide +kernel
theorem dX9_isKnown_10 : decode cX9_isKnown 10 = .ok (.aload_n 0, 1) := by decide +kernel
theorem dX9_isKnown_11 : decode cX9_isKnown 11 = .ok (.getfield 9, 3) := by decide +kernel
theorem dX9_isKnown_14 : decode cX9_isKnown 14 = .ok (.iload_n 1, 1) := by decide +kernel
theorem dX9_isKnown_15 : decode cX9_isKnown 15 = .ok (.baload, 1) := by decide +kernel
theorem dX9_isKnown_16 : decode cX9_isKnown 16 = .ok (.ifCond .eq 7, 3) := by decide +kernel
theorem dX9_isKnown_19 : decode cX9_isKnown 19 = .ok (.iconst 1, 1) := by decide +kernel
theorem dX9_isKnown_20 : decode cX9_isKnown 20 = .ok (.goto 4, 3) := by decide +kernel
theorem dX9_isKnown_23 : decode cX9_isKnown 23 = .ok (.iconst 0, 1) := by decide +kernel
theorem dX9_isKnown_24 : decode cX9_isKnown 24 = .ok (.ireturn, 1) := by decide +kernel
theorem dX9_worthOf_0 : decode cX9_worthOf 0 = .ok (.iload_n 1, 1) := by decide +kernel
theorem dX9_worthOf_1 : decode cX9_worthOf 1 = .ok (.ifCond .lt 18, 3) := by decide +kernel
theorem dX9_worthOf_4 : decode cX9_worthOf 4 = .ok (.iload_n 1, 1) := by decide +kernel
theorem dX9_worthOf_5 : decode cX9_worthOf 5 = .ok (.bipush 15, 2) := by decide +kernel
theorem dX9_worthOf_7 : decode cX9_worthOf 7 = .ok (.if_icmp .ge 12, 3) := by decide +kernel
theorem dX9_worthOf_10 : decode cX9_worthOf 10 = .ok (.aload_n 0, 1) := by decide +kernel
theorem dX9_worthOf_11 : decode cX9_worthOf 11 = .ok (.getfield 15, 3) := by decide +kernel
theorem dX9_worthOf_14 : decode cX9_worthOf 14 = .ok (.iload_n 1, 1) := by decide +kernel
theorem dX9_worthOf_15 : decode cX9_worthOf 15 = .ok (.iaload, 1) := by decide +kernel
theorem dX9_worthOf_16 : decode cX9_worthOf 16 = .ok (.goto 4, 3) := by decide +kernel
theorem dX9_worthOf_19 : decode cX9_worthOf 19 = .ok (.iconst 0, 1) := by decide +kernel
theorem dX9_worthOf_20 : decode cX9_worthOf 20 = .ok (.ireturn, 1) := by decide +kernel
theorem dX10_beginRun_0 : decode cX10_beginRun 0 = .ok (.aload_n 0, 1) := by decide +kernel
theorem dX10_beginRun_1 : decode cX10_beginRun 1 = .ok (.dup, 1) := by decide +kernel
theorem dX10_beginRun_2 : decode cX10_beginRun 2 = .ok (.getfield 15, 3) := by decide +kernel
theorem dX10_beginRun_5 : decode cX10_beginRun 5 = .ok (.iconst 1, 1) := by decide +kernel
theorem dX10_beginRun_6 : decode cX10_beginRun 6 = .ok (.iadd, 1) := by decide +kernel
theorem dX10_beginRun_7 : decode cX10_beginRun 7 = .ok (.putfield 15, 3) := by decide +kernel
theorem dX10_beginRun_10 : decode cX10_beginRun 10 = .ok (.aload_n 0, 1) := by decide +kernel
theorem dX10_beginRun_11 : decode cX10_beginRun 11 = .ok (.iconst 0, 1) := by decide +kernel
theorem dX10_beginRun_12 : decode cX10_beginRun 12 = .ok (.putfield 19, 3) := by decide +kernel
theorem dX10_beginRun_15 : decode cX10_beginRun 15 = .ok (.aload_n 0, 1) := by decide +kernel
theorem dX10_beginRun_16 : decode cX10_beginRun 16 = .ok (.iconst 0, 1) := by decide +kernel
theorem dX10_beginRun_17 : decode cX10_beginRun 17 = .ok (.putfield 22, 3) := by decide +kernel
theorem dX10_beginRun_20 : decode cX10_beginRun 20 = .ok (.aload_n 0, 1) := by decide +kernel
theorem dX10_beginRun_21 : decode cX10_beginRun 21 = .ok (.iconst 0, 1) := by decide +kernel
theorem dX10_beginRun_22 : decode cX10_beginRun 22 = .ok (.putfield 25, 3) := by decide +kernel
theorem dX10_beginRun_25 : decode cX10_beginRun 25 = .ok (.aload_n 0, 1) := by decide +kernel
theorem dX10_beginRun_26 : decode cX10_beginRun 26 = .ok (.iconst 0, 1) := by decide +kernel
theorem dX10_beginRun_27 : decode cX10_beginRun 27 = .ok (.putfield 28, 3) := by decide +kernel
theorem dX10_beginRun_30 : decode cX10_beginRun 30 = .ok (.aload_n 0, 1) := by decide +kernel
theorem dX10_beginRun_31 : decode cX10_beginRun 31 = .ok (.iconst 0, 1) := by decide +kernel
theorem dX10_beginRun_32 : decode cX10_beginRun 32 = .ok (.putfield 31, 3) := by decide +kernel
theorem dX10_beginRun_35 : decode cX10_beginRun 35 = .ok (.aload_n 0, 1) := by decide +kernel
theorem dX10_beginRun_36 : decode cX10_beginRun 36 = .ok (.iconst 0, 1) := by decide +kernel
theorem dX10_beginRun_37 : decode cX10_beginRun 37 = .ok (.iconst 0, 1) := by decide +kernel
theorem dX10_beginRun_38 : decode cX10_beginRun 38 = .ok (.iconst 0, 1) := by decide +kernel
theorem dX10_beginRun_39 : decode cX10_beginRun 39 = .ok (.iconst 0, 1) := by decide +kernel
theorem dX10_beginRun_40 : decode cX10_beginRun 40 = .ok (.invokevirtual 34, 3) := by decide +kernel
theorem dX10_beginRun_43 : decode cX10_beginRun 43 = .ok (.return_, 1) := by decide +kernel
theorem dX10_noteTrap_0 : decode cX10_noteTrap 0 = .ok (.aload_n 0, 1) := by decide +kernel
theorem dX10_noteTrap_1 : decode cX10_noteTrap 1 = .ok (.getfield 9, 3) := by decide +kernel
theorem dX10_noteTrap_4 : decode cX10_noteTrap 4 = .ok (.iconst 0, 1) := by decide +kernel
theorem dX10_noteTrap_5 : decode cX10_noteTrap 5 = .ok (.iload_n 1, 1) := by decide +kernel
theorem dX10_noteTrap_6 : decode cX10_noteTrap 6 = .ok (.iastore, 1) := by decide +kernel
theorem dX10_noteTrap_7 : decode cX10_noteTrap 7 = .ok (.aload_n 0, 1) := by decide +kernel
theorem dX10_noteTrap_8 : decode cX10_noteTrap 8 = .ok (.getfield 9, 3) := by decide +kernel
theorem dX10_noteTrap_11 : decode cX10_noteTrap 11 = .ok (.iconst 1, 1) := by decide +kernel
theorem dX10_noteTrap_12 : decode cX10_noteTrap 12 = .ok (.iload_n 2, 1) := by decide +kernel
theorem dX10_noteTrap_13 : decode cX10_noteTrap 13 = .ok (.iastore, 1) := by decide +kernel
theorem dX10_noteTrap_14 : decode cX10_noteTrap 14 = .ok (.aload_n 0, 1) := by decide +kernel
theorem dX10_noteTrap_15 : decode cX10_noteTrap 15 = .ok (.getfield 9, 3) := by decide +kernel
theorem dX10_noteTrap_18 : decode cX10_noteTrap 18 = .ok (.iconst 2, 1) := by decide +kernel
theorem dX10_noteTrap_19 : decode cX10_noteTrap 19 = .ok (.iload_n 3, 1) := by decide +kernel
theorem dX10_noteTrap_20 : decode cX10_noteTrap 20 = .ok (.iastore, 1) := by decide +kernel
theorem dX10_noteTrap_21 : decode cX10_noteTrap 21 = .ok (.aload_n 0, 1) := by decide +kernel
theorem dX10_noteTrap_22 : decode cX10_noteTrap 22 = .ok (.getfield 9, 3) := by decide +kernel
theorem dX10_noteTrap_25 : decode cX10_noteTrap 25 = .ok (.iconst 3, 1) := by decide +kernel
theorem dX10_noteTrap_26 : decode cX10_noteTrap 26 = .ok (.iload 4, 2) := by decide +kernel
theorem dX10_noteTrap_28 : decode cX10_noteTrap 28 = .ok (.iastore, 1) := by decide +kernel
theorem dX10_noteTrap_29 : decode cX10_noteTrap 29 = .ok (.return_, 1) := by decide +kernel
theorem dX11_mixedWith_0 : decode cX11_mixedWith 0 = .ok (.iconst 0, 1) := by decide +kernel
theorem dX11_mixedWith_1 : decode cX11_mixedWith 1 = .ok (.istore_n 3, 1) := by decide +kernel
theorem dX11_mixedWith_2 : decode cX11_mixedWith 2 = .ok (.iload_n 3, 1) := by decide +kernel
theorem dX11_mixedWith_3 : decode cX11_mixedWith 3 = .ok (.iconst 5, 1) := by decide +kernel
theorem dX11_mixedWith_4 : decode cX11_mixedWith 4 = .ok (.if_icmp .gt 22, 3) := by decide +kernel
theorem dX11_mixedWith_7 : decode cX11_mixedWith 7 = .ok (.ldc2_w 162, 3) := by decide +kernel
theorem dX11_mixedWith_10 : decode cX11_mixedWith 10 = .ok (.lload_n 0, 1) := by decide +kernel
theorem dX11_mixedWith_11 : decode cX11_mixedWith 11 = .ok (.lmul, 1) := by decide +kernel
theorem dX11_mixedWith_12 : decode cX11_mixedWith 12 = .ok (.aload_n 2, 1) := by decide +kernel
theorem dX11_mixedWith_13 : decode cX11_mixedWith 13 = .ok (.iload_n 3, 1) := by decide +kernel
theorem dX11_mixedWith_14 : decode cX11_mixedWith 14 = .ok (.invokestatic 107, 3) := by decide +kernel
theorem dX11_mixedWith_17 : decode cX11_mixedWith 17 = .ok (.i2l, 1) := by decide +kernel
theorem dX11_mixedWith_18 : decode cX11_mixedWith 18 = .ok (.ladd, 1) := by decide +kernel
theorem dX11_mixedWith_19 : decode cX11_mixedWith 19 = .ok (.lstore_n 0, 1) := by decide +kernel
theorem dX11_mixedWith_20 : decode cX11_mixedWith 20 = .ok (.iinc 3 1, 3) := by decide +kernel
theorem dX11_mixedWith_23 : decode cX11_mixedWith 23 = .ok (.goto (-21), 3) := by decide +kernel
theorem dX11_mixedWith_26 : decode cX11_mixedWith 26 = .ok (.aload_n 2, 1) := by decide +kernel
theorem dX11_mixedWith_27 : decode cX11_mixedWith 27 = .ok (.getfield 111, 3) := by decide +kernel
theorem dX11_mixedWith_30 : decode cX11_mixedWith 30 = .ok (.getfield 115, 3) := by decide +kernel
theorem dX11_mixedWith_33 : decode cX11_mixedWith 33 = .ok (.ifnonnull 7, 3) := by decide +kernel
theorem dX11_mixedWith_36 : decode cX11_mixedWith 36 = .ok (.lload_n 0, 1) := by decide +kernel
theorem dX11_mixedWith_37 : decode cX11_mixedWith 37 = .ok (.goto 14, 3) := by decide +kernel
theorem dX11_mixedWith_40 : decode cX11_mixedWith 40 = .ok (.aload_n 2, 1) := by decide +kernel
theorem dX11_mixedWith_41 : decode cX11_mixedWith 41 = .ok (.getfield 111, 3) := by decide +kernel
theorem dX11_mixedWith_44 : decode cX11_mixedWith 44 = .ok (.getfield 115, 3) := by decide +kernel
theorem dX11_mixedWith_47 : decode cX11_mixedWith 47 = .ok (.lload_n 0, 1) := by decide +kernel
theorem dX11_mixedWith_48 : decode cX11_mixedWith 48 = .ok (.invokevirtual 164, 3) := by decide +kernel
theorem dX11_mixedWith_51 : decode cX11_mixedWith 51 = .ok (.lreturn, 1) := by decide +kernel
theorem dX11_tellOf_0 : decode cX11_tellOf 0 = .ok (.aload_n 0, 1) := by decide +kernel
theorem dX11_tellOf_1 : decode cX11_tellOf 1 = .ok (.getfield 111, 3) := by decide +kernel
theorem dX11_tellOf_4 : decode cX11_tellOf 4 = .ok (.astore_n 2, 1) := by decide +kernel
theorem dX11_tellOf_5 : decode cX11_tellOf 5 = .ok (.iload_n 1, 1) := by decide +kernel
theorem dX11_tellOf_6 : decode cX11_tellOf 6 = .ok (.tableswitch 108 0 7 #[46, 59, 64, 69, 74, 79, 98, 103], 46) := by decide +kernel
theorem dX11_tellOf_52 : decode cX11_tellOf 52 = .ok (.aload_n 2, 1) := by decide +kernel
theorem dX11_tellOf_53 : decode cX11_tellOf 53 = .ok (.getfield 165, 3) := by decide +kernel
theorem dX11_tellOf_56 : decode cX11_tellOf 56 = .ok (.ifCond .eq 7, 3) := by decide +kernel
theorem dX11_tellOf_59 : decode cX11_tellOf 59 = .ok (.iconst 1, 1) := by decide +kernel
theorem dX11_tellOf_60 : decode cX11_tellOf 60 = .ok (.goto 4, 3) := by decide +kernel
theorem dX11_tellOf_63 : decode cX11_tellOf 63 = .ok (.iconst 0, 1) := by decide +kernel
theorem dX11_tellOf_64 : decode cX11_tellOf 64 = .ok (.ireturn, 1) := by decide +kernel
theorem dX11_tellOf_65 : decode cX11_tellOf 65 = .ok (.aload_n 2, 1) := by decide +kernel
theorem dX11_tellOf_66 : decode cX11_tellOf 66 = .ok (.getfield 169, 3) := by decide +kernel
theorem dX11_tellOf_69 : decode cX11_tellOf 69 = .ok (.ireturn, 1) := by decide +kernel
theorem dX11_tellOf_70 : decode cX11_tellOf 70 = .ok (.aload_n 2, 1) := by decide +kernel
theorem dX11_tellOf_71 : decode cX11_tellOf 71 = .ok (.getfield 172, 3) := by decide +kernel
theorem dX11_tellOf_74 : decode cX11_tellOf 74 = .ok (.ireturn, 1) := by decide +kernel
theorem dX11_tellOf_75 : decode cX11_tellOf 75 = .ok (.aload_n 2, 1) := by decide +kernel
theorem dX11_tellOf_76 : decode cX11_tellOf 76 = .ok (.getfield 175, 3) := by decide +kernel
theorem dX11_tellOf_79 : decode cX11_tellOf 79 = .ok (.ireturn, 1) := by decide +kernel
theorem dX11_tellOf_80 : decode cX11_tellOf 80 = .ok (.aload_n 2, 1) := by decide +kernel
theorem dX11_tellOf_81 : decode cX11_tellOf 81 = .ok (.getfield 176, 3) := by decide +kernel
theorem dX11_tellOf_84 : decode cX11_tellOf 84 = .ok (.ireturn, 1) := by decide +kernel
theorem dX11_tellOf_85 : decode cX11_tellOf 85 = .ok (.aload_n 2, 1) := by decide +kernel
theorem dX11_tellOf_86 : decode cX11_tellOf 86 = .ok (.getfield 115, 3) := by decide +kernel
theorem dX11_tellOf_89 : decode cX11_tellOf 89 = .ok (.ifnonnull 7, 3) := by decide +kernel
theorem dX11_tellOf_92 : decode cX11_tellOf 92 = .ok (.iconst 0, 1) := by decide +kernel
theorem dX11_tellOf_93 : decode cX11_tellOf 93 = .ok (.goto 10, 3) := by decide +kernel
theorem dX11_tellOf_96 : decode cX11_tellOf 96 = .ok (.aload_n 2, 1) := by decide +kernel
theorem dX11_tellOf_97 : decode cX11_tellOf 97 = .ok (.getfield 115, 3) := by decide +kernel
theorem dX11_tellOf_100 : decode cX11_tellOf 100 = .ok (.invokevirtual 179, 3) := by decide +kernel
theorem dX11_tellOf_103 : decode cX11_tellOf 103 = .ok (.ireturn, 1) := by decide +kernel
theorem dX11_tellOf_104 : decode cX11_tellOf 104 = .ok (.aload_n 0, 1) := by decide +kernel
theorem dX11_tellOf_105 : decode cX11_tellOf 105 = .ok (.getfield 183, 3) := by decide +kernel
theorem dX11_tellOf_108 : decode cX11_tellOf 108 = .ok (.ireturn, 1) := by decide +kernel
theorem dX11_tellOf_109 : decode cX11_tellOf 109 = .ok (.aload_n 0, 1) := by decide +kernel
theorem dX11_tellOf_110 : decode cX11_tellOf 110 = .ok (.getfield 186, 3) := by decide +kernel
theorem dX11_tellOf_113 : decode cX11_tellOf 113 = .ok (.ireturn, 1) := by decide +kernel
theorem dX11_tellOf_114 : decode cX11_tellOf 114 = .ok (.bipush (-2), 2) := by decide +kernel
theorem dX11_tellOf_116 : decode cX11_tellOf 116 = .ok (.ireturn, 1) := by decide +kernel
theorem dX11_reckoned_0 : decode cX11_reckoned 0 = .ok (.iload_n 0, 1) := by decide +kernel
theorem dX11_reckoned_1 : decode cX11_reckoned 1 = .ok (.tableswitch 70 2 6 #[35, 39, 43, 47, 59], 35) := by decide +kernel
theorem dX11_reckoned_36 : decode cX11_reckoned 36 = .ok (.iload_n 1, 1) := by decide +kernel
theorem dX11_reckoned_37 : decode cX11_reckoned 37 = .ok (.iload_n 2, 1) := by decide +kernel
theorem dX11_reckoned_38 : decode cX11_reckoned 38 = .ok (.iadd, 1) := by decide +kernel
theorem dX11_reckoned_39 : decode cX11_reckoned 39 = .ok (.ireturn, 1) := by decide +kernel
theorem dX11_reckoned_40 : decode cX11_reckoned 40 = .ok (.iload_n 1, 1) := by decide +kernel
theorem dX11_reckoned_41 : decode cX11_reckoned 41 = .ok (.iload_n 2, 1) := by decide +kernel
theorem dX11_reckoned_42 : decode cX11_reckoned 42 = .ok (.isub, 1) := by decide +kernel
theorem dX11_reckoned_43 : decode cX11_reckoned 43 = .ok (.ireturn, 1) := by decide +kernel
theorem dX11_reckoned_44 : decode cX11_reckoned 44 = .ok (.iload_n 1, 1) := by decide +kernel
theorem dX11_reckoned_45 : decode cX11_reckoned 45 = .ok (.iload_n 2, 1) := by decide +kernel
theorem dX11_reckoned_46 : decode cX11_reckoned 46 = .ok (.imul, 1) := by decide +kernel
theorem dX11_reckoned_47 : decode cX11_reckoned 47 = .ok (.ireturn, 1) := by decide +kernel
theorem dX11_reckoned_48 : decode cX11_reckoned 48 = .ok (.iload_n 2, 1) := by decide +kernel
theorem dX11_reckoned_49 : decode cX11_reckoned 49 = .ok (.ifCond .ne 7, 3) := by decide +kernel
theorem dX11_reckoned_52 : decode cX11_reckoned 52 = .ok (.iconst 0, 1) := by decide +kernel
theorem dX11_reckoned_53 : decode cX11_reckoned 53 = .ok (.goto 6, 3) := by decide +kernel
theorem dX11_reckoned_56 : decode cX11_reckoned 56 = .ok (.iload_n 1, 1) := by decide +kernel
theorem dX11_reckoned_57 : decode cX11_reckoned 57 = .ok (.iload_n 2, 1) := by decide +kernel
theorem dX11_reckoned_58 : decode cX11_reckoned 58 = .ok (.idiv, 1) := by decide +kernel
theorem dX11_reckoned_59 : decode cX11_reckoned 59 = .ok (.ireturn, 1) := by decide +kernel
theorem dX11_reckoned_60 : decode cX11_reckoned 60 = .ok (.iload_n 1, 1) := by decide +kernel
theorem dX11_reckoned_61 : decode cX11_reckoned 61 = .ok (.iload_n 2, 1) := by decide +kernel
theorem dX11_reckoned_62 : decode cX11_reckoned 62 = .ok (.if_icmp .ge 7, 3) := by decide +kernel
theorem dX11_reckoned_65 : decode cX11_reckoned 65 = .ok (.iconst 1, 1) := by decide +kernel
theorem dX11_reckoned_66 : decode cX11_reckoned 66 = .ok (.goto 4, 3) := by decide +kernel
theorem dX11_reckoned_69 : decode cX11_reckoned 69 = .ok (.iconst 0, 1) := by decide +kernel
theorem dX11_reckoned_70 : decode cX11_reckoned 70 = .ok (.ireturn, 1) := by decide +kernel
theorem dX11_reckoned_71 : decode cX11_reckoned 71 = .ok (.iload_n 1, 1) := by decide +kernel
theorem dX11_reckoned_72 : decode cX11_reckoned 72 = .ok (.iload_n 2, 1) := by decide +kernel
theorem dX11_reckoned_73 : decode cX11_reckoned 73 = .ok (.if_icmp .ne 7, 3) := by decide +kernel
theorem dX11_reckoned_76 : decode cX11_reckoned 76 = .ok (.iconst 1, 1) := by decide +kernel
theorem dX11_reckoned_77 : decode cX11_reckoned 77 = .ok (.goto 4, 3) := by decide +kernel
theorem dX11_reckoned_80 : decode cX11_reckoned 80 = .ok (.iconst 0, 1) := by decide +kernel
theorem dX11_reckoned_81 : decode cX11_reckoned 81 = .ok (.ireturn, 1) := by decide +kernel
theorem dJ9_max_7cf53_0 : decode cJ9_max_7cf53 0 = .ok (.iload_n 0, 1) := by decide +kernel
theorem dJ9_max_7cf53_1 : decode cJ9_max_7cf53 1 = .ok (.iload_n 1, 1) := by decide +kernel
theorem dJ9_max_7cf53_2 : decode cJ9_max_7cf53 2 = .ok (.if_icmp .lt 7, 3) := by decide +kernel
theorem dJ9_max_7cf53_5 : decode cJ9_max_7cf53 5 = .ok (.iload_n 0, 1) := by decide +kernel
theorem dJ9_max_7cf53_6 : decode cJ9_max_7cf53 6 = .ok (.goto 4, 3) := by decide +kernel
theorem dJ9_max_7cf53_9 : decode cJ9_max_7cf53 9 = .ok (.iload_n 1, 1) := by decide +kernel
theorem dJ9_max_7cf53_10 : decode cJ9_max_7cf53 10 = .ok (.ireturn, 1) := by decide +kernel
theorem dJ9_min_7cf53_0 : decode cJ9_min_7cf53 0 = .ok (.iload_n 0, 1) := by decide +kernel
theorem dJ9_min_7cf53_1 : decode cJ9_min_7cf53 1 = .ok (.iload_n 1, 1) := by decide +kernel
theorem dJ9_min_7cf53_2 : decode cJ9_min_7cf53 2 = .ok (.if_icmp .gt 7, 3) := by decide +kernel
theorem dJ9_min_7cf53_5 : decode cJ9_min_7cf53 5 = .ok (.iload_n 0, 1) := by decide +kernel
theorem dJ9_min_7cf53_6 : decode cJ9_min_7cf53 6 = .ok (.goto 4, 3) := by decide +kernel
theorem dJ9_min_7cf53_9 : decode cJ9_min_7cf53 9 = .ok (.iload_n 1, 1) := by decide +kernel
theorem dJ9_min_7cf53_10 : decode cJ9_min_7cf53 10 = .ok (.ireturn, 1) := by decide +kernel
theorem dJ7_copyOf_59c91_0 : decode cJ7_copyOf_59c91 0 = .ok (.iload_n 1, 1) := by decide +kernel
theorem dJ7_copyOf_59c91_1 : decode cJ7_copyOf_59c91 1 = .ok (.aload_n 0, 1) := by decide +kernel
theorem dJ7_copyOf_59c91_2 : decode cJ7_copyOf_59c91 2 = .ok (.arraylength, 1) := by decide +kernel
theorem dJ7_copyOf_59c91_3 : decode cJ7_copyOf_59c91 3 = .ok (.if_icmp .ne 11, 3) := by decide +kernel
theorem dJ7_copyOf_59c91_6 : decode cJ7_copyOf_59c91 6 = .ok (.aload_n 0, 1) := by decide +kernel
theorem dJ7_copyOf_59c91_7 : decode cJ7_copyOf_59c91 7 = .ok (.invokevirtual 316, 3) := by decide +kernel
theorem dJ7_copyOf_59c91_10 : decode cJ7_copyOf_59c91 10 = .ok (.checkcast 317, 3) := by decide +kernel
theorem dJ7_copyOf_59c91_13 : decode cJ7_copyOf_59c91 13 = .ok (.areturn, 1) := by decide +kernel
theorem dJ7_copyOf_59c91_14 : decode cJ7_copyOf_59c91 14 = .ok (.iload_n 1, 1) := by decide +kernel
theorem dJ7_copyOf_59c91_15 : decode cJ7_copyOf_59c91 15 = .ok (.newarray .int, 2) := by decide +kernel
theorem dJ7_copyOf_59c91_17 : decode cJ7_copyOf_59c91 17 = .ok (.astore_n 2, 1) := by decide +kernel
theorem dJ7_copyOf_59c91_18 : decode cJ7_copyOf_59c91 18 = .ok (.aload_n 0, 1) := by decide +kernel
theorem dJ7_copyOf_59c91_19 : decode cJ7_copyOf_59c91 19 = .ok (.iconst 0, 1) := by decide +kernel
theorem dJ7_copyOf_59c91_20 : decode cJ7_copyOf_59c91 20 = .ok (.aload_n 2, 1) := by decide +kernel
theorem dJ7_copyOf_59c91_21 : decode cJ7_copyOf_59c91 21 = .ok (.iconst 0, 1) := by decide +kernel
theorem dJ7_copyOf_59c91_22 : decode cJ7_copyOf_59c91 22 = .ok (.aload_n 0, 1) := by decide +kernel
theorem dJ7_copyOf_59c91_23 : decode cJ7_copyOf_59c91 23 = .ok (.arraylength, 1) := by decide +kernel
theorem dJ7_copyOf_59c91_24 : decode cJ7_copyOf_59c91 24 = .ok (.iload_n 1, 1) := by decide +kernel
theorem dJ7_copyOf_59c91_25 : decode cJ7_copyOf_59c91 25 = .ok (.invokestatic 304, 3) := by decide +kernel
theorem dJ7_copyOf_59c91_28 : decode cJ7_copyOf_59c91 28 = .ok (.invokestatic 150, 3) := by decide +kernel
theorem dJ7_copyOf_59c91_31 : decode cJ7_copyOf_59c91 31 = .ok (.aload_n 2, 1) := by decide +kernel
theorem dJ7_copyOf_59c91_32 : decode cJ7_copyOf_59c91 32 = .ok (.areturn, 1) := by decide +kernel
