theorem dX0_init_0 : decode cX0_init 0 = .ok (.aload_n 0, 1) := by decide +kernel
theorem dX0_init_1 : decode cX0_init 1 = .ok (.invokespecial 3, 3) := by decide +kernel
theorem dX0_init_4 : decode cX0_init 4 = .ok (.aload_n 0, 1) := by decide +kernel
theorem dX0_init_5 : decode cX0_init 5 = .ok (.bipush 8, 2) := by decide +kernel
theorem dX0_init_7 : decode cX0_init 7 = .ok (.anewarray 9, 3) := by decide +kernel
theorem dX0_init_10 : decode cX0_init 10 = .ok (.putfield 11, 3) := by decide +kernel
theorem dX0_init_13 : decode cX0_init 13 = .ok (.return_, 1) := by decide +kernel
theorem dX0_at_0 : decode cX0_at 0 = .ok (.iload_n 1, 1) := by decide +kernel
theorem dX0_at_1 : decode cX0_at 1 = .ok (.ifCond .lt 26, 3) := by decide +kernel
theorem dX0_at_4 : decode cX0_at 4 = .ok (.iload_n 1, 1) := by decide +kernel
theorem dX0_at_5 : decode cX0_at 5 = .ok (.aload_n 0, 1) := by decide +kernel
theorem dX0_at_6 : decode cX0_at 6 = .ok (.getfield 17, 3) := by decide +kernel
theorem dX0_at_9 : decode cX0_at 9 = .ok (.if_icmp .ge 18, 3) := by decide +kernel
theorem dX0_at_12 : decode cX0_at 12 = .ok (.iload_n 1, 1) := by decide +kernel
theorem dX0_at_13 : decode cX0_at 13 = .ok (.bipush 8, 2) := by decide +kernel
theorem dX0_at_15 : decode cX0_at 15 = .ok (.if_icmp .ge 12, 3) := by decide +kernel
theorem dX0_at_18 : decode cX0_at 18 = .ok (.aload_n 0, 1) := by decide +kernel
theorem dX0_at_19 : decode cX0_at 19 = .ok (.getfield 11, 3) := by decide +kernel
theorem dX0_at_22 : decode cX0_at 22 = .ok (.iload_n 1, 1) := by decide +kernel
theorem dX0_at_23 : decode cX0_at 23 = .ok (.aaload, 1) := by decide +kernel
theorem dX0_at_24 : decode cX0_at 24 = .ok (.goto 4, 3) := by decide +kernel
theorem dX0_at_27 : decode cX0_at 27 = .ok (.aconst_null, 1) := by decide +kernel
theorem dX0_at_28 : decode cX0_at 28 = .ok (.areturn, 1) := by decide +kernel
theorem dX0_tell_0 : decode cX0_tell 0 = .ok (.aload_n 0, 1) := by decide +kernel
theorem dX0_tell_1 : decode cX0_tell 1 = .ok (.getfield 17, 3) := by decide +kernel
theorem dX0_tell_4 : decode cX0_tell 4 = .ok (.bipush 8, 2) := by decide +kernel
theorem dX0_tell_6 : decode cX0_tell 6 = .ok (.if_icmp .lt 6, 3) := by decide +kernel
theorem dX0_tell_9 : decode cX0_tell 9 = .ok (.bipush (-4), 2) := by decide +kernel
theorem dX0_tell_11 : decode cX0_tell 11 = .ok (.ireturn, 1) := by decide +kernel
theorem dX0_tell_12 : decode cX0_tell 12 = .ok (.aload_n 0, 1) := by decide +kernel
theorem dX0_tell_13 : decode cX0_tell 13 = .ok (.getfield 11, 3) := by decide +kernel
theorem dX0_tell_16 : decode cX0_tell 16 = .ok (.aload_n 0, 1) := by decide +kernel
theorem dX0_tell_17 : decode cX0_tell 17 = .ok (.getfield 17, 3) := by decide +kernel
theorem dX0_tell_20 : decode cX0_tell 20 = .ok (.new 9, 3) := by decide +kernel
theorem dX0_tell_23 : decode cX0_tell 23 = .ok (.dup, 1) := by decide +kernel
theorem dX0_tell_24 : decode cX0_tell 24 = .ok (.aload_n 0, 1) := by decide +kernel
theorem dX0_tell_25 : decode cX0_tell 25 = .ok (.getfield 17, 3) := by decide +kernel
theorem dX0_tell_28 : decode cX0_tell 28 = .ok (.iload_n 1, 1) := by decide +kernel
theorem dX0_tell_29 : decode cX0_tell 29 = .ok (.iload_n 2, 1) := by decide +kernel
theorem dX0_tell_30 : decode cX0_tell 30 = .ok (.invokespecial 21, 3) := by decide +kernel
theorem dX0_tell_33 : decode cX0_tell 33 = .ok (.aastore, 1) := by decide +kernel
theorem dX0_tell_34 : decode cX0_tell 34 = .ok (.aload_n 0, 1) := by decide +kernel
theorem dX0_tell_35 : decode cX0_tell 35 = .ok (.dup, 1) := by decide +kernel
theorem dX0_tell_36 : decode cX0_tell 36 = .ok (.getfield 17, 3) := by decide +kernel
theorem dX0_tell_39 : decode cX0_tell 39 = .ok (.iconst 1, 1) := by decide +kernel
theorem dX0_tell_40 : decode cX0_tell 40 = .ok (.iadd, 1) := by decide +kernel
theorem dX0_tell_41 : decode cX0_tell 41 = .ok (.putfield 17, 3) := by decide +kernel
theorem dX0_tell_44 : decode cX0_tell 44 = .ok (.aload_n 0, 1) := by decide +kernel
theorem dX0_tell_45 : decode cX0_tell 45 = .ok (.getfield 17, 3) := by decide +kernel
theorem dX0_tell_48 : decode cX0_tell 48 = .ok (.iconst 1, 1) := by decide +kernel
theorem dX0_tell_49 : decode cX0_tell 49 = .ok (.isub, 1) := by decide +kernel
theorem dX0_tell_50 : decode cX0_tell 50 = .ok (.ireturn, 1) := by decide +kernel
theorem dX2_init_0 : decode cX2_init 0 = .ok (.aload_n 0, 1) := by decide +kernel
theorem dX2_init_1 : decode cX2_init 1 = .ok (.invokespecial 3, 3) := by decide +kernel
theorem dX2_init_4 : decode cX2_init 4 = .ok (.aload_n 0, 1) := by decide +kernel
theorem dX2_init_5 : decode cX2_init 5 = .ok (.bipush 8, 2) := by decide +kernel
theorem dX2_init_7 : decode cX2_init 7 = .ok (.newarray .int, 2) := by decide +kernel
theorem dX2_init_9 : decode cX2_init 9 = .ok (.putfield 9, 3) := by decide +kernel
theorem dX2_init_12 : decode cX2_init 12 = .ok (.aload_n 0, 1) := by decide +kernel
theorem dX2_init_13 : decode cX2_init 13 = .ok (.iconst 4, 1) := by decide +kernel
theorem dX2_init_14 : decode cX2_init 14 = .ok (.newarray .int, 2) := by decide +kernel
theorem dX2_init_16 : decode cX2_init 16 = .ok (.putfield 15, 3) := by decide +kernel
theorem dX2_init_19 : decode cX2_init 19 = .ok (.aload_n 0, 1) := by decide +kernel
theorem dX2_init_20 : decode cX2_init 20 = .ok (.bipush 80, 2) := by decide +kernel
theorem dX2_init_22 : decode cX2_init 22 = .ok (.newarray .int, 2) := by decide +kernel
theorem dX2_init_24 : decode cX2_init 24 = .ok (.putfield 18, 3) := by decide +kernel
theorem dX2_init_27 : decode cX2_init 27 = .ok (.aload_n 0, 1) := by decide +kernel
theorem dX2_init_28 : decode cX2_init 28 = .ok (.getfield 15, 3) := by decide +kernel
theorem dX2_init_31 : decode cX2_init 31 = .ok (.iconst (-1), 1) := by decide +kernel
theorem dX2_init_32 : decode cX2_init 32 = .ok (.invokestatic 21, 3) := by decide +kernel
theorem dX2_init_35 : decode cX2_init 35 = .ok (.return_, 1) := by decide +kernel
theorem dX2_valueOf_0 : decode cX2_valueOf 0 = .ok (.iload_n 1, 1) := by decide +kernel
theorem dX2_valueOf_1 : decode cX2_valueOf 1 = .ok (.ifCond .lt 18, 3) := by decide +kernel
theorem dX2_valueOf_4 : decode cX2_valueOf 4 = .ok (.iload_n 1, 1) := by decide +kernel
theorem dX2_valueOf_5 : decode cX2_valueOf 5 = .ok (.bipush 8, 2) := by decide +kernel
theorem dX2_valueOf_7 : decode cX2_valueOf 7 = .ok (.if_icmp .ge 12, 3) := by decide +kernel
theorem dX2_valueOf_10 : decode cX2_valueOf 10 = .ok (.aload_n 0, 1) := by decide +kernel
theorem dX2_valueOf_11 : decode cX2_valueOf 11 = .ok (.getfield 9, 3) := by decide +kernel
theorem dX2_valueOf_14 : decode cX2_valueOf 14 = .ok (.iload_n 1, 1) := by decide +kernel
theorem dX2_valueOf_15 : decode cX2_valueOf 15 = .ok (.iaload, 1) := by decide +kernel
theorem dX2_valueOf_16 : decode cX2_valueOf 16 = .ok (.goto 4, 3) := by decide +kernel
theorem dX2_valueOf_19 : decode cX2_valueOf 19 = .ok (.iconst 0, 1) := by decide +kernel
theorem dX2_valueOf_20 : decode cX2_valueOf 20 = .ok (.ireturn, 1) := by decide +kernel
theorem dX2_put_0 : decode cX2_put 0 = .ok (.iload_n 1, 1) := by decide +kernel
theorem dX2_put_1 : decode cX2_put 1 = .ok (.ifCond .lt 16, 3) := by decide +kernel
theorem dX2_put_4 : decode cX2_put 4 = .ok (.iload_n 1, 1) := by decide +kernel
theorem dX2_put_5 : decode cX2_put 5 = .ok (.bipush 8, 2) := by decide +kernel
theorem dX2_put_7 : decode cX2_put 7 = .ok (.if_icmp .ge 10, 3) := by decide +kernel
theorem dX2_put_10 : decode cX2_put 10 = .ok (.aload_n 0, 1) := by decide +kernel
theorem dX2_put_11 : decode cX2_put 11 = .ok (.getfield 9, 3) := by decide +kernel
theorem dX2_put_14 : decode cX2_put 14 = .ok (.iload_n 1, 1) := by decide +kernel
theorem dX2_put_15 : decode cX2_put 15 = .ok (.iload_n 2, 1) := by decide +kernel
theorem dX2_put_16 : decode cX2_put 16 = .ok (.iastore, 1) := by decide +kernel
theorem dX2_put_17 : decode cX2_put 17 = .ok (.return_, 1) := by decide +kernel
theorem dX2_lengthOf_0 : decode cX2_lengthOf 0 = .ok (.iload_n 1, 1) := by decide +kernel
theorem dX2_lengthOf_1 : decode cX2_lengthOf 1 = .ok (.ifCond .lt 17, 3) := by decide +kernel
theorem dX2_lengthOf_4 : decode cX2_lengthOf 4 = .ok (.iload_n 1, 1) := by decide +kernel
theorem dX2_lengthOf_5 : decode cX2_lengthOf 5 = .ok (.iconst 4, 1) := by decide +kernel
theorem dX2_lengthOf_6 : decode cX2_lengthOf 6 = .ok (.if_icmp .ge 12, 3) := by decide +kernel
theorem dX2_lengthOf_9 : decode cX2_lengthOf 9 = .ok (.aload_n 0, 1) := by decide +kernel
theorem dX2_lengthOf_10 : decode cX2_lengthOf 10 = .ok (.getfield 15, 3) := by decide +kernel
theorem dX2_lengthOf_13 : decode cX2_lengthOf 13 = .ok (.iload_n 1, 1) := by decide +kernel
theorem dX2_lengthOf_14 : decode cX2_lengthOf 14 = .ok (.iaload, 1) := by decide +kernel
theorem dX2_lengthOf_15 : decode cX2_lengthOf 15 = .ok (.goto 4, 3) := by decide +kernel
theorem dX2_lengthOf_18 : decode cX2_lengthOf 18 = .ok (.iconst (-1), 1) := by decide +kernel
theorem dX2_lengthOf_19 : decode cX2_lengthOf 19 = .ok (.ireturn, 1) := by decide +kernel
theorem dX2_renew_0 : decode cX2_renew 0 = .ok (.iload_n 1, 1) := by decide +kernel
theorem dX2_renew_1 : decode cX2_renew 1 = .ok (.ifCond .lt 44, 3) := by decide +kernel
theorem dX2_renew_4 : decode cX2_renew 4 = .ok (.iload_n 1, 1) := by decide +kernel
theorem dX2_renew_5 : decode cX2_renew 5 = .ok (.iconst 4, 1) := by decide +kernel
theorem dX2_renew_6 : decode cX2_renew 6 = .ok (.if_icmp .ge 39, 3) := by decide +kernel
theorem dX2_renew_9 : decode cX2_renew 9 = .ok (.iload_n 2, 1) := by decide +kernel
theorem dX2_renew_10 : decode cX2_renew 10 = .ok (.iconst (-1), 1) := by decide +kernel
theorem dX2_renew_11 : decode cX2_renew 11 = .ok (.if_icmp .lt 34, 3) := by decide +kernel
theorem dX2_renew_14 : decode cX2_renew 14 = .ok (.iload_n 2, 1) := by decide +kernel
theorem dX2_renew_15 : decode cX2_renew 15 = .ok (.bipush 20, 2) := by decide +kernel
theorem dX2_renew_17 : decode cX2_renew 17 = .ok (.if_icmp .gt 28, 3) := by decide +kernel
theorem dX2_renew_20 : decode cX2_renew 20 = .ok (.aload_n 0, 1) := by decide +kernel
theorem dX2_renew_21 : decode cX2_renew 21 = .ok (.getfield 15, 3) := by decide +kernel
theorem dX2_renew_24 : decode cX2_renew 24 = .ok (.iload_n 1, 1) := by decide +kernel
theorem dX2_renew_25 : decode cX2_renew 25 = .ok (.iload_n 2, 1) := by decide +kernel
theorem dX2_renew_26 : decode cX2_renew 26 = .ok (.iastore, 1) := by decide +kernel
theorem dX2_renew_27 : decode cX2_renew 27 = .ok (.aload_n 0, 1) := by decide +kernel
theorem dX2_renew_28 : decode cX2_renew 28 = .ok (.getfield 18, 3) := by decide +kernel
theorem dX2_renew_31 : decode cX2_renew 31 = .ok (.bipush 20, 2) := by decide +kernel
theorem dX2_renew_33 : decode cX2_renew 33 = .ok (.iload_n 1, 1) := by decide +kernel
theorem dX2_renew_34 : decode cX2_renew 34 = .ok (.imul, 1) := by decide +kernel
theorem dX2_renew_35 : decode cX2_renew 35 = .ok (.bipush 20, 2) := by decide +kernel
theorem dX2_renew_37 : decode cX2_renew 37 = .ok (.iload_n 1, 1) := by decide +kernel
theorem dX2_renew_38 : decode cX2_renew 38 = .ok (.iconst 1, 1) := by decide +kernel
theorem dX2_renew_39 : decode cX2_renew 39 = .ok (.iadd, 1) := by decide +kernel
theorem dX2_renew_40 : decode cX2_renew 40 = .ok (.imul, 1) := by decide +kernel
theorem dX2_renew_41 : decode cX2_renew 41 = .ok (.iconst 0, 1) := by decide +kernel
theorem dX2_renew_42 : decode cX2_renew 42 = .ok (.invokestatic 27, 3) := by decide +kernel
theorem dX2_renew_45 : decode cX2_renew 45 = .ok (.return_, 1) := by decide +kernel
theorem dX2_itemOf_0 : decode cX2_itemOf 0 = .ok (.iload_n 2, 1) := by decide +kernel
theorem dX2_itemOf_1 : decode cX2_itemOf 1 = .ok (.ifCond .lt 32, 3) := by decide +kernel
theorem dX2_itemOf_4 : decode cX2_itemOf 4 = .ok (.iload_n 2, 1) := by decide +kernel
theorem dX2_itemOf_5 : decode cX2_itemOf 5 = .ok (.aload_n 0, 1) := by decide +kernel
theorem dX2_itemOf_6 : decode cX2_itemOf 6 = .ok (.iload_n 1, 1) := by decide +kernel
theorem dX2_itemOf_7 : decode cX2_itemOf 7 = .ok (.invokevirtual 30, 3) := by decide +kernel
theorem dX2_itemOf_10 : decode cX2_itemOf 10 = .ok (.if_icmp .ge 23, 3) := by decide +kernel
theorem dX2_itemOf_13 : decode cX2_itemOf 13 = .ok (.iload_n 2, 1) := by decide +kernel
theorem dX2_itemOf_14 : decode cX2_itemOf 14 = .ok (.bipush 20, 2) := by decide +kernel
theorem dX2_itemOf_16 : decode cX2_itemOf 16 = .ok (.if_icmp .ge 17, 3) := by decide +kernel
theorem dX2_itemOf_19 : decode cX2_itemOf 19 = .ok (.aload_n 0, 1) := by decide +kernel
theorem dX2_itemOf_20 : decode cX2_itemOf 20 = .ok (.getfield 18, 3) := by decide +kernel
theorem dX2_itemOf_23 : decode cX2_itemOf 23 = .ok (.bipush 20, 2) := by decide +kernel
theorem dX2_itemOf_25 : decode cX2_itemOf 25 = .ok (.iload_n 1, 1) := by decide +kernel
theorem dX2_itemOf_26 : decode cX2_itemOf 26 = .ok (.imul, 1) := by decide +kernel
theorem dX2_itemOf_27 : decode cX2_itemOf 27 = .ok (.iload_n 2, 1) := by decide +kernel
theorem dX2_itemOf_28 : decode cX2_itemOf 28 = .ok (.iadd, 1) := by decide +kernel
theorem dX2_itemOf_29 : decode cX2_itemOf 29 = .ok (.iaload, 1) := by decide +kernel
theorem dX2_itemOf_30 : decode cX2_itemOf 30 = .ok (.goto 4, 3) := by decide +kernel
theorem dX2_itemOf_33 : decode cX2_itemOf 33 = .ok (.iconst 0, 1) := by decide +kernel
theorem dX2_itemOf_34 : decode cX2_itemOf 34 = .ok (.ireturn, 1) := by decide +kernel
theorem dX2_mixedInto_0 : decode cX2_mixedInto 0 = .ok (.iconst 0, 1) := by decide +kernel
theorem dX2_mixedInto_1 : decode cX2_mixedInto 1 = .ok (.istore_n 3, 1) := by decide +kernel
theorem dX2_mixedInto_2 : decode cX2_mixedInto 2 = .ok (.iload_n 3, 1) := by decide +kernel
theorem dX2_mixedInto_3 : decode cX2_mixedInto 3 = .ok (.bipush 8, 2) := by decide +kernel
theorem dX2_mixedInto_5 : decode cX2_mixedInto 5 = .ok (.if_icmp .ge 22, 3) := by decide +kernel
theorem dX2_mixedInto_8 : decode cX2_mixedInto 8 = .ok (.ldc2_w 34, 3) := by decide +kernel
theorem dX2_mixedInto_11 : decode cX2_mixedInto 11 = .ok (.lload_n 1, 1) := by decide +kernel
theorem dX2_mixedInto_12 : decode cX2_mixedInto 12 = .ok (.lmul, 1) := by decide +kernel
theorem dX2_mixedInto_13 : decode cX2_mixedInto 13 = .ok (.aload_n 0, 1) := by decide +kernel
theorem dX2_mixedInto_14 : decode cX2_mixedInto 14 = .ok (.iload_n 3, 1) := by decide +kernel
theorem dX2_mixedInto_15 : decode cX2_mixedInto 15 = .ok (.invokevirtual 36, 3) := by decide +kernel
theorem dX2_mixedInto_18 : decode cX2_mixedInto 18 = .ok (.i2l, 1) := by decide +kernel
theorem dX2_mixedInto_19 : decode cX2_mixedInto 19 = .ok (.ladd, 1) := by decide +kernel
theorem dX2_mixedInto_20 : decode cX2_mixedInto 20 = .ok (.lstore_n 1, 1) := by decide +kernel
theorem dX2_mixedInto_21 : decode cX2_mixedInto 21 = .ok (.iinc 3 1, 3) := by decide +kernel
theorem dX2_mixedInto_24 : decode cX2_mixedInto 24 = .ok (.goto (-22), 3) := by decide +kernel
theorem dX2_mixedInto_27 : decode cX2_mixedInto 27 = .ok (.iconst 0, 1) := by decide +kernel
theorem dX2_mixedInto_28 : decode cX2_mixedInto 28 = .ok (.istore_n 3, 1) := by decide +kernel
theorem dX2_mixedInto_29 : decode cX2_mixedInto 29 = .ok (.iload_n 3, 1) := by decide +kernel
theorem dX2_mixedInto_30 : decode cX2_mixedInto 30 = .ok (.iconst 4, 1) := by decide +kernel
theorem dX2_mixedInto_31 : decode cX2_mixedInto 31 = .ok (.if_icmp .ge 56, 3) := by decide +kernel
theorem dX2_mixedInto_34 : decode cX2_mixedInto 34 = .ok (.ldc2_w 34, 3) := by decide +kernel
theorem dX2_mixedInto_37 : decode cX2_mixedInto 37 = .ok (.lload_n 1, 1) := by decide +kernel
theorem dX2_mixedInto_38 : decode cX2_mixedInto 38 = .ok (.lmul, 1) := by decide +kernel
theorem dX2_mixedInto_39 : decode cX2_mixedInto 39 = .ok (.aload_n 0, 1) := by decide +kernel
theorem dX2_mixedInto_40 : decode cX2_mixedInto 40 = .ok (.iload_n 3, 1) := by decide +kernel
theorem dX2_mixedInto_41 : decode cX2_mixedInto 41 = .ok (.invokevirtual 30, 3) := by decide +kernel
theorem dX2_mixedInto_44 : decode cX2_mixedInto 44 = .ok (.i2l, 1) := by decide +kernel
theorem dX2_mixedInto_45 : decode cX2_mixedInto 45 = .ok (.ladd, 1) := by decide +kernel
theorem dX2_mixedInto_46 : decode cX2_mixedInto 46 = .ok (.lstore_n 1, 1) := by decide +kernel
theorem dX2_mixedInto_47 : decode cX2_mixedInto 47 = .ok (.iconst 0, 1) := by decide +kernel
theorem dX2_mixedInto_48 : decode cX2_mixedInto 48 = .ok (.istore 4, 2) := by decide +kernel
theorem dX2_mixedInto_50 : decode cX2_mixedInto 50 = .ok (.iload 4, 2) := by decide +kernel
theorem dX2_mixedInto_52 : decode cX2_mixedInto 52 = .ok (.aload_n 0, 1) := by decide +kernel
theorem dX2_mixedInto_53 : decode cX2_mixedInto 53 = .ok (.iload_n 3, 1) := by decide +kernel
theorem dX2_mixedInto_54 : decode cX2_mixedInto 54 = .ok (.invokevirtual 30, 3) := by decide +kernel
theorem dX2_mixedInto_57 : decode cX2_mixedInto 57 = .ok (.if_icmp .ge 24, 3) := by decide +kernel
theorem dX2_mixedInto_60 : decode cX2_mixedInto 60 = .ok (.ldc2_w 34, 3) := by decide +kernel
theorem dX2_mixedInto_63 : decode cX2_mixedInto 63 = .ok (.lload_n 1, 1) := by decide +kernel
theorem dX2_mixedInto_64 : decode cX2_mixedInto 64 = .ok (.lmul, 1) := by decide +kernel
theorem dX2_mixedInto_65 : decode cX2_mixedInto 65 = .ok (.aload_n 0, 1) := by decide +kernel
theorem dX2_mixedInto_66 : decode cX2_mixedInto 66 = .ok (.iload_n 3, 1) := by decide +kernel
theorem dX2_mixedInto_67 : decode cX2_mixedInto 67 = .ok (.iload 4, 2) := by decide +kernel
theorem dX2_mixedInto_69 : decode cX2_mixedInto 69 = .ok (.invokevirtual 39, 3) := by decide +kernel
theorem dX2_mixedInto_72 : decode cX2_mixedInto 72 = .ok (.i2l, 1) := by decide +kernel
theorem dX2_mixedInto_73 : decode cX2_mixedInto 73 = .ok (.ladd, 1) := by decide +kernel
theorem dX2_mixedInto_74 : decode cX2_mixedInto 74 = .ok (.lstore_n 1, 1) := by decide +kernel
theorem dX2_mixedInto_75 : decode cX2_mixedInto 75 = .ok (.iinc 4 1, 3) := by decide +kernel
theorem dX2_mixedInto_78 : decode cX2_mixedInto 78 = .ok (.goto (-28), 3) := by decide +kernel
theorem dX2_mixedInto_81 : decode cX2_mixedInto 81 = .ok (.iinc 3 1, 3) := by decide +kernel
theorem dX2_mixedInto_84 : decode cX2_mixedInto 84 = .ok (.goto (-55), 3) := by decide +kernel
theorem dX2_mixedInto_87 : decode cX2_mixedInto 87 = .ok (.lload_n 1, 1) := by decide +kernel
theorem dX2_mixedInto_88 : decode cX2_mixedInto 88 = .ok (.lreturn, 1) := by decide +kernel
theorem dX3_init_0 : decode cX3_init 0 = .ok (.aload_n 0, 1) := by decide +kernel
theorem dX3_init_1 : decode cX3_init 1 = .ok (.invokespecial 3, 3) := by decide +kernel
theorem dX3_init_4 : decode cX3_init 4 = .ok (.aload_n 0, 1) := by decide +kernel
theorem dX3_init_5 : decode cX3_init 5 = .ok (.sipush 7555, 3) := by decide +kernel
theorem dX3_init_8 : decode cX3_init 8 = .ok (.newarray .int, 2) := by decide +kernel
theorem dX3_init_10 : decode cX3_init 10 = .ok (.putfield 9, 3) := by decide +kernel
theorem dX3_init_13 : decode cX3_init 13 = .ok (.aload_n 0, 1) := by decide +kernel
theorem dX3_init_14 : decode cX3_init 14 = .ok (.bipush 60, 2) := by decide +kernel
theorem dX3_init_16 : decode cX3_init 16 = .ok (.newarray .int, 2) := by decide +kernel
theorem dX3_init_18 : decode cX3_init 18 = .ok (.putfield 15, 3) := by decide +kernel
theorem dX3_init_21 : decode cX3_init 21 = .ok (.return_, 1) := by decide +kernel
theorem dX4_init_0 : decode cX4_init 0 = .ok (.aload_n 0, 1) := by decide +kernel
theorem dX4_init_1 : decode cX4_init 1 = .ok (.invokespecial 3, 3) := by decide +kernel
theorem dX4_init_4 : decode cX4_init 4 = .ok (.aload_n 0, 1) := by decide +kernel
theorem dX4_init_5 : decode cX4_init 5 = .ok (.bipush 15, 2) := by decide +kernel
theorem dX4_init_7 : decode cX4_init 7 = .ok (.newarray .int, 2) := by decide +kernel
theorem dX4_init_9 : decode cX4_init 9 = .ok (.putfield 9, 3) := by decide +kernel
theorem dX4_init_12 : decode cX4_init 12 = .ok (.return_, 1) := by decide +kernel
theorem dX5_init_0 : decode cX5_init 0 = .ok (.aload_n 0, 1) := by decide +kernel
theorem dX5_init_1 : decode cX5_init 1 = .ok (.invokespecial 3, 3) := by decide +kernel
theorem dX5_init_4 : decode cX5_init 4 = .ok (.aload_n 0, 1) := by decide +kernel
theorem dX5_init_5 : decode cX5_init 5 = .ok (.bipush 11, 2) := by decide +kernel
theorem dX5_init_7 : decode cX5_init 7 = .ok (.newarray .int, 2) := by decide +kernel
theorem dX5_init_9 : decode cX5_init 9 = .ok (.putfield 9, 3) := by decide +kernel
theorem dX5_init_12 : decode cX5_init 12 = .ok (.aload_n 0, 1) := by decide +kernel
theorem dX5_init_13 : decode cX5_init 13 = .ok (.bipush 11, 2) := by decide +kernel
theorem dX5_init_15 : decode cX5_init 15 = .ok (.newarray .boolean, 2) := by decide +kernel
theorem dX5_init_17 : decode cX5_init 17 = .ok (.putfield 15, 3) := by decide +kernel
theorem dX5_init_20 : decode cX5_init 20 = .ok (.aload_n 0, 1) := by decide +kernel
theorem dX5_init_21 : decode cX5_init 21 = .ok (.bipush 11, 2) := by decide +kernel
theorem dX5_init_23 : decode cX5_init 23 = .ok (.newarray .boolean, 2) := by decide +kernel
theorem dX5_init_25 : decode cX5_init 25 = .ok (.putfield 19, 3) := by decide +kernel
theorem dX5_init_28 : decode cX5_init 28 = .ok (.return_, 1) := by decide +kernel
theorem dX6_init_0 : decode cX6_init 0 = .ok (.aload_n 0, 1) := by decide +kernel
theorem dX6_init_1 : decode cX6_init 1 = .ok (.invokespecial 3, 3) := by decide +kernel
theorem dX6_init_4 : decode cX6_init 4 = .ok (.aload_n 0, 1) := by decide +kernel
theorem dX6_init_5 : decode cX6_init 5 = .ok (.bipush 60, 2) := by decide +kernel
theorem dX6_init_7 : decode cX6_init 7 = .ok (.newarray .boolean, 2) := by decide +kernel
theorem dX6_init_9 : decode cX6_init 9 = .ok (.putfield 9, 3) := by decide +kernel
theorem dX6_init_12 : decode cX6_init 12 = .ok (.aload_n 0, 1) := by decide +kernel
theorem dX6_init_13 : decode cX6_init 13 = .ok (.aload_n 1, 1) := by decide +kernel
theorem dX6_init_14 : decode cX6_init 14 = .ok (.putfield 15, 3) := by decide +kernel
theorem dX6_init_17 : decode cX6_init 17 = .ok (.aload_n 0, 1) := by decide +kernel
theorem dX6_init_18 : decode cX6_init 18 = .ok (.aload_n 2, 1) := by decide +kernel
theorem dX6_init_19 : decode cX6_init 19 = .ok (.putfield 19, 3) := by decide +kernel
theorem dX6_init_22 : decode cX6_init 22 = .ok (.return_, 1) := by decide +kernel
theorem dX7_init_0 : decode cX7_init 0 = .ok (.aload_n 0, 1) := by decide +kernel
theorem dX7_init_1 : decode cX7_init 1 = .ok (.invokespecial 3, 3) := by decide +kernel
theorem dX7_init_4 : decode cX7_init 4 = .ok (.aload_n 0, 1) := by decide +kernel
theorem dX7_init_5 : decode cX7_init 5 = .ok (.new 9, 3) := by decide +kernel
theorem dX7_init_8 : decode cX7_init 8 = .ok (.dup, 1) := by decide +kernel
theorem dX7_init_9 : decode cX7_init 9 = .ok (.invokespecial 11, 3) := by decide +kernel
theorem dX7_init_12 : decode cX7_init 12 = .ok (.putfield 12, 3) := by decide +kernel
theorem dX7_init_15 : decode cX7_init 15 = .ok (.aload_n 0, 1) := by decide +kernel
theorem dX7_init_16 : decode cX7_init 16 = .ok (.bipush 16, 2) := by decide +kernel
theorem dX7_init_18 : decode cX7_init 18 = .ok (.anewarray 18, 3) := by decide +kernel
theorem dX7_init_21 : decode cX7_init 21 = .ok (.putfield 20, 3) := by decide +kernel
theorem dX7_init_24 : decode cX7_init 24 = .ok (.aload_n 0, 1) := by decide +kernel
theorem dX7_init_25 : decode cX7_init 25 = .ok (.iconst 3, 1) := by decide +kernel
theorem dX7_init_26 : decode cX7_init 26 = .ok (.newarray .int, 2) := by decide +kernel
theorem dX7_init_28 : decode cX7_init 28 = .ok (.putfield 24, 3) := by decide +kernel
theorem dX7_init_31 : decode cX7_init 31 = .ok (.aload_n 0, 1) := by decide +kernel
theorem dX7_init_32 : decode cX7_init 32 = .ok (.aload_n 1, 1) := by decide +kernel
theorem dX7_init_33 : decode cX7_init 33 = .ok (.putfield 28, 3) := by decide +kernel
theorem dX7_init_36 : decode cX7_init 36 = .ok (.aload_n 0, 1) := by decide +kernel
theorem dX7_init_37 : decode cX7_init 37 = .ok (.aload_n 2, 1) := by decide +kernel
theorem dX7_init_38 : decode cX7_init 38 = .ok (.putfield 32, 3) := by decide +kernel
theorem dX7_init_41 : decode cX7_init 41 = .ok (.aload_n 0, 1) := by decide +kernel
theorem dX7_init_42 : decode cX7_init 42 = .ok (.new 36, 3) := by decide +kernel
theorem dX7_init_45 : decode cX7_init 45 = .ok (.dup, 1) := by decide +kernel
theorem dX7_init_46 : decode cX7_init 46 = .ok (.aload_n 3, 1) := by decide +kernel
theorem dX7_init_47 : decode cX7_init 47 = .ok (.invokespecial 38, 3) := by decide +kernel
theorem dX7_init_50 : decode cX7_init 50 = .ok (.putfield 41, 3) := by decide +kernel
theorem dX7_init_53 : decode cX7_init 53 = .ok (.iconst 0, 1) := by decide +kernel
theorem dX7_init_54 : decode cX7_init 54 = .ok (.istore 4, 2) := by decide +kernel
theorem dX7_init_56 : decode cX7_init 56 = .ok (.iload 4, 2) := by decide +kernel
theorem dX7_init_58 : decode cX7_init 58 = .ok (.bipush 16, 2) := by decide +kernel
theorem dX7_init_60 : decode cX7_init 60 = .ok (.if_icmp .ge 23, 3) := by decide +kernel
theorem dX7_init_63 : decode cX7_init 63 = .ok (.aload_n 0, 1) := by decide +kernel
theorem dX7_init_64 : decode cX7_init 64 = .ok (.getfield 20, 3) := by decide +kernel
theorem dX7_init_67 : decode cX7_init 67 = .ok (.iload 4, 2) := by decide +kernel
theorem dX7_init_69 : decode cX7_init 69 = .ok (.new 18, 3) := by decide +kernel
theorem dX7_init_72 : decode cX7_init 72 = .ok (.dup, 1) := by decide +kernel
theorem dX7_init_73 : decode cX7_init 73 = .ok (.invokespecial 45, 3) := by decide +kernel
theorem dX7_init_76 : decode cX7_init 76 = .ok (.aastore, 1) := by decide +kernel
theorem dX7_init_77 : decode cX7_init 77 = .ok (.iinc 4 1, 3) := by decide +kernel
theorem dX7_init_80 : decode cX7_init 80 = .ok (.goto (-24), 3) := by decide +kernel
theorem dX7_init_83 : decode cX7_init 83 = .ok (.return_, 1) := by decide +kernel
theorem dX8_init_0 : decode cX8_init 0 = .ok (.aload_n 0, 1) := by decide +kernel
theorem dX8_init_1 : decode cX8_init 1 = .ok (.invokespecial 3, 3) := by decide +kernel
theorem dX8_init_4 : decode cX8_init 4 = .ok (.aload_n 0, 1) := by decide +kernel
theorem dX8_init_5 : decode cX8_init 5 = .ok (.new 9, 3) := by decide +kernel
theorem dX8_init_8 : decode cX8_init 8 = .ok (.dup, 1) := by decide +kernel
theorem dX8_init_9 : decode cX8_init 9 = .ok (.invokespecial 11, 3) := by decide +kernel
theorem dX8_init_12 : decode cX8_init 12 = .ok (.putfield 12, 3) := by decide +kernel
theorem dX8_init_15 : decode cX8_init 15 = .ok (.aload_n 0, 1) := by decide +kernel
theorem dX8_init_16 : decode cX8_init 16 = .ok (.bipush 60, 2) := by decide +kernel
theorem dX8_init_18 : decode cX8_init 18 = .ok (.newarray .int, 2) := by decide +kernel
theorem dX8_init_20 : decode cX8_init 20 = .ok (.putfield 18, 3) := by decide +kernel
theorem dX8_init_23 : decode cX8_init 23 = .ok (.aload_n 0, 1) := by decide +kernel
theorem dX8_init_24 : decode cX8_init 24 = .ok (.bipush 60, 2) := by decide +kernel
theorem dX8_init_26 : decode cX8_init 26 = .ok (.newarray .int, 2) := by decide +kernel
theorem dX8_init_28 : decode cX8_init 28 = .ok (.putfield 22, 3) := by decide +kernel
theorem dX8_init_31 : decode cX8_init 31 = .ok (.aload_n 0, 1) := by decide +kernel
theorem dX8_init_32 : decode cX8_init 32 = .ok (.bipush 60, 2) := by decide +kernel
theorem dX8_init_34 : decode cX8_init 34 = .ok (.newarray .int, 2) := by decide +kernel
theorem dX8_init_36 : decode cX8_init 36 = .ok (.putfield 25, 3) := by decide +kernel
theorem dX8_init_39 : decode cX8_init 39 = .ok (.aload_n 0, 1) := by decide +kernel
theorem dX8_init_40 : decode cX8_init 40 = .ok (.iconst (-1), 1) := by decide +kernel
theorem dX8_init_41 : decode cX8_init 41 = .ok (.putfield 28, 3) := by decide +kernel
theorem dX8_init_44 : decode cX8_init 44 = .ok (.aload_n 0, 1) := by decide +kernel
theorem dX8_init_45 : decode cX8_init 45 = .ok (.iload_n 1, 1) := by decide +kernel
theorem dX8_init_46 : decode cX8_init 46 = .ok (.putfield 32, 3) := by decide +kernel
theorem dX8_init_49 : decode cX8_init 49 = .ok (.aload_n 0, 1) := by decide +kernel
theorem dX8_init_50 : decode cX8_init 50 = .ok (.iload_n 2, 1) := by decide +kernel
theorem dX8_init_51 : decode cX8_init 51 = .ok (.putfield 35, 3) := by decide +kernel
theorem dX8_init_54 : decode cX8_init 54 = .ok (.aload_n 0, 1) := by decide +kernel
theorem dX8_init_55 : decode cX8_init 55 = .ok (.iload_n 3, 1) := by decide +kernel
theorem dX8_init_56 : decode cX8_init 56 = .ok (.putfield 38, 3) := by decide +kernel
theorem dX8_init_59 : decode cX8_init 59 = .ok (.return_, 1) := by decide +kernel
theorem dX9_init_0 : decode cX9_init 0 = .ok (.aload_n 0, 1) := by decide +kernel
theorem dX9_init_1 : decode cX9_init 1 = .ok (.invokespecial 3, 3) := by decide +kernel
theorem dX9_init_4 : decode cX9_init 4 = .ok (.aload_n 0, 1) := by decide +kernel
theorem dX9_init_5 : decode cX9_init 5 = .ok (.bipush 15, 2) := by decide +kernel
theorem dX9_init_7 : decode cX9_init 7 = .ok (.newarray .boolean, 2) := by decide +kernel
theorem dX9_init_9 : decode cX9_init 9 = .ok (.putfield 9, 3) := by decide +kernel
theorem dX9_init_12 : decode cX9_init 12 = .ok (.aload_n 0, 1) := by decide +kernel
theorem dX9_init_13 : decode cX9_init 13 = .ok (.bipush 15, 2) := by decide +kernel
theorem dX9_init_15 : decode cX9_init 15 = .ok (.newarray .int, 2) := by decide +kernel
theorem dX9_init_17 : decode cX9_init 17 = .ok (.putfield 15, 3) := by decide +kernel
theorem dX9_init_20 : decode cX9_init 20 = .ok (.aload_n 0, 1) := by decide +kernel
theorem dX9_init_21 : decode cX9_init 21 = .ok (.bipush 60, 2) := by decide +kernel
theorem dX9_init_23 : decode cX9_init 23 = .ok (.newarray .boolean, 2) := by decide +kernel
theorem dX9_init_25 : decode cX9_init 25 = .ok (.putfield 19, 3) := by decide +kernel
theorem dX9_init_28 : decode cX9_init 28 = .ok (.aload_n 0, 1) := by decide +kernel
theorem dX9_init_29 : decode cX9_init 29 = .ok (.bipush 11, 2) := by decide +kernel
theorem dX9_init_31 : decode cX9_init 31 = .ok (.newarray .boolean, 2) := by decide +kernel
theorem dX9_init_33 : decode cX9_init 33 = .ok (.putfield 22, 3) := by decide +kernel
theorem dX9_init_36 : decode cX9_init 36 = .ok (.aload_n 0, 1) := by decide +kernel
theorem dX9_init_37 : decode cX9_init 37 = .ok (.aload_n 1, 1) := by decide +kernel
theorem dX9_init_38 : decode cX9_init 38 = .ok (.putfield 25, 3) := by decide +kernel
theorem dX9_init_41 : decode cX9_init 41 = .ok (.return_, 1) := by decide +kernel
theorem dX10_init_0 : decode cX10_init 0 = .ok (.aload_n 0, 1) := by decide +kernel
theorem dX10_init_1 : decode cX10_init 1 = .ok (.invokespecial 3, 3) := by decide +kernel
theorem dX10_init_4 : decode cX10_init 4 = .ok (.aload_n 0, 1) := by decide +kernel
theorem dX10_init_5 : decode cX10_init 5 = .ok (.iconst 4, 1) := by decide +kernel
theorem dX10_init_6 : decode cX10_init 6 = .ok (.newarray .int, 2) := by decide +kernel
theorem dX10_init_8 : decode cX10_init 8 = .ok (.putfield 9, 3) := by decide +kernel
theorem dX10_init_11 : decode cX10_init 11 = .ok (.return_, 1) := by decide +kernel
theorem dX10_ofTrap_0 : decode cX10_ofTrap 0 = .ok (.iload_n 1, 1) := by decide +kernel
theorem dX10_ofTrap_1 : decode cX10_ofTrap 1 = .ok (.ifCond .lt 17, 3) := by decide +kernel
theorem dX10_ofTrap_4 : decode cX10_ofTrap 4 = .ok (.iload_n 1, 1) := by decide +kernel
theorem dX10_ofTrap_5 : decode cX10_ofTrap 5 = .ok (.iconst 4, 1) := by decide +kernel
theorem dX10_ofTrap_6 : decode cX10_ofTrap 6 = .ok (.if_icmp .ge 12, 3) := by decide +kernel
theorem dX10_ofTrap_9 : decode cX10_ofTrap 9 = .ok (.aload_n 0, 1) := by decide +kernel
theorem dX10_ofTrap_10 : decode cX10_ofTrap 10 = .ok (.getfield 9, 3) := by decide +kernel
theorem dX10_ofTrap_13 : decode cX10_ofTrap 13 = .ok (.iload_n 1, 1) := by decide +kernel
theorem dX10_ofTrap_14 : decode cX10_ofTrap 14 = .ok (.iaload, 1) := by decide +kernel
theorem dX10_ofTrap_15 : decode cX10_ofTrap 15 = .ok (.goto 5, 3) := by decide +kernel
theorem dX10_ofTrap_18 : decode cX10_ofTrap 18 = .ok (.bipush (-2), 2) := by decide +kernel
theorem dX10_ofTrap_20 : decode cX10_ofTrap 20 = .ok (.ireturn, 1) := by decide +kernel
theorem dX10_mixedInto_0 : decode cX10_mixedInto 0 = .ok (.ldc2_w 38, 3) := by decide +kernel
theorem dX10_mixedInto_3 : decode cX10_mixedInto 3 = .ok (.lload_n 1, 1) := by decide +kernel
theorem dX10_mixedInto_4 : decode cX10_mixedInto 4 = .ok (.lmul, 1) := by decide +kernel
theorem dX10_mixedInto_5 : decode cX10_mixedInto 5 = .ok (.aload_n 0, 1) := by decide +kernel
theorem dX10_mixedInto_6 : decode cX10_mixedInto 6 = .ok (.getfield 31, 3) := by decide +kernel
theorem dX10_mixedInto_9 : decode cX10_mixedInto 9 = .ok (.i2l, 1) := by decide +kernel
theorem dX10_mixedInto_10 : decode cX10_mixedInto 10 = .ok (.ladd, 1) := by decide +kernel
theorem dX10_mixedInto_11 : decode cX10_mixedInto 11 = .ok (.lstore_n 1, 1) := by decide +kernel
theorem dX10_mixedInto_12 : decode cX10_mixedInto 12 = .ok (.iconst 0, 1) := by decide +kernel
theorem dX10_mixedInto_13 : decode cX10_mixedInto 13 = .ok (.istore_n 3, 1) := by decide +kernel
theorem dX10_mixedInto_14 : decode cX10_mixedInto 14 = .ok (.iload_n 3, 1) := by decide +kernel
theorem dX10_mixedInto_15 : decode cX10_mixedInto 15 = .ok (.iconst 4, 1) := by decide +kernel
theorem dX10_mixedInto_16 : decode cX10_mixedInto 16 = .ok (.if_icmp .ge 23, 3) := by decide +kernel
theorem dX10_mixedInto_19 : decode cX10_mixedInto 19 = .ok (.ldc2_w 38, 3) := by decide +kernel
theorem dX10_mixedInto_22 : decode cX10_mixedInto 22 = .ok (.lload_n 1, 1) := by decide +kernel
theorem dX10_mixedInto_23 : decode cX10_mixedInto 23 = .ok (.lmul, 1) := by decide +kernel
theorem dX10_mixedInto_24 : decode cX10_mixedInto 24 = .ok (.aload_n 0, 1) := by decide +kernel
theorem dX10_mixedInto_25 : decode cX10_mixedInto 25 = .ok (.getfield 9, 3) := by decide +kernel
theorem dX10_mixedInto_28 : decode cX10_mixedInto 28 = .ok (.iload_n 3, 1) := by decide +kernel
theorem dX10_mixedInto_29 : decode cX10_mixedInto 29 = .ok (.iaload, 1) := by decide +kernel
theorem dX10_mixedInto_30 : decode cX10_mixedInto 30 = .ok (.i2l, 1) := by decide +kernel
theorem dX10_mixedInto_31 : decode cX10_mixedInto 31 = .ok (.ladd, 1) := by decide +kernel
theorem dX10_mixedInto_32 : decode cX10_mixedInto 32 = .ok (.lstore_n 1, 1) := by decide +kernel
theorem dX10_mixedInto_33 : decode cX10_mixedInto 33 = .ok (.iinc 3 1, 3) := by decide +kernel
theorem dX10_mixedInto_36 : decode cX10_mixedInto 36 = .ok (.goto (-22), 3) := by decide +kernel
theorem dX10_mixedInto_39 : decode cX10_mixedInto 39 = .ok (.lload_n 1, 1) := by decide +kernel
theorem dX10_mixedInto_40 : decode cX10_mixedInto 40 = .ok (.lreturn, 1) := by decide +kernel
theorem dX11_init_0 : decode cX11_init 0 = .ok (.aload_n 0, 1) := by decide +kernel
theorem dX11_init_1 : decode cX11_init 1 = .ok (.invokespecial 3, 3) := by decide +kernel
theorem dX11_init_4 : decode cX11_init 4 = .ok (.new 9, 3) := by decide +kernel
theorem dX11_init_7 : decode cX11_init 7 = .ok (.dup, 1) := by decide +kernel
theorem dX11_init_8 : decode cX11_init 8 = .ok (.invokespecial 11, 3) := by decide +kernel
theorem dX11_init_11 : decode cX11_init 11 = .ok (.astore_n 1, 1) := by decide +kernel
theorem dX11_init_12 : decode cX11_init 12 = .ok (.aload_n 0, 1) := by decide +kernel
theorem dX11_init_13 : decode cX11_init 13 = .ok (.new 12, 3) := by decide +kernel
theorem dX11_init_16 : decode cX11_init 16 = .ok (.dup, 1) := by decide +kernel
theorem dX11_init_17 : decode cX11_init 17 = .ok (.invokespecial 14, 3) := by decide +kernel
theorem dX11_init_20 : decode cX11_init 20 = .ok (.putfield 15, 3) := by decide +kernel
theorem dX11_init_23 : decode cX11_init 23 = .ok (.aload_n 0, 1) := by decide +kernel
theorem dX11_init_24 : decode cX11_init 24 = .ok (.new 19, 3) := by decide +kernel
theorem dX11_init_27 : decode cX11_init 27 = .ok (.dup, 1) := by decide +kernel
theorem dX11_init_28 : decode cX11_init 28 = .ok (.invokespecial 21, 3) := by decide +kernel
theorem dX11_init_31 : decode cX11_init 31 = .ok (.putfield 22, 3) := by decide +kernel
theorem dX11_init_34 : decode cX11_init 34 = .ok (.aload_n 0, 1) := by decide +kernel
theorem dX11_init_35 : decode cX11_init 35 = .ok (.new 26, 3) := by decide +kernel
theorem dX11_init_38 : decode cX11_init 38 = .ok (.dup, 1) := by decide +kernel
theorem dX11_init_39 : decode cX11_init 39 = .ok (.aload_n 0, 1) := by decide +kernel
theorem dX11_init_40 : decode cX11_init 40 = .ok (.getfield 15, 3) := by decide +kernel
theorem dX11_init_43 : decode cX11_init 43 = .ok (.aload_n 1, 1) := by decide +kernel
theorem dX11_init_44 : decode cX11_init 44 = .ok (.invokespecial 28, 3) := by decide +kernel
theorem dX11_init_47 : decode cX11_init 47 = .ok (.putfield 31, 3) := by decide +kernel
theorem dX11_init_50 : decode cX11_init 50 = .ok (.aload_n 0, 1) := by decide +kernel
theorem dX11_init_51 : decode cX11_init 51 = .ok (.new 35, 3) := by decide +kernel
theorem dX11_init_54 : decode cX11_init 54 = .ok (.dup, 1) := by decide +kernel
theorem dX11_init_55 : decode cX11_init 55 = .ok (.aload_n 0, 1) := by decide +kernel
theorem dX11_init_56 : decode cX11_init 56 = .ok (.getfield 15, 3) := by decide +kernel
theorem dX11_init_59 : decode cX11_init 59 = .ok (.aload_n 0, 1) := by decide +kernel
theorem dX11_init_60 : decode cX11_init 60 = .ok (.getfield 22, 3) := by decide +kernel
theorem dX11_init_63 : decode cX11_init 63 = .ok (.aload_n 1, 1) := by decide +kernel
theorem dX11_init_64 : decode cX11_init 64 = .ok (.invokespecial 37, 3) := by decide +kernel
theorem dX11_init_67 : decode cX11_init 67 = .ok (.putfield 40, 3) := by decide +kernel
theorem dX11_init_70 : decode cX11_init 70 = .ok (.return_, 1) := by decide +kernel
theorem dX11_method_0 : decode cX11_method 0 = .ok (.iload_n 1, 1) := by decide +kernel
theorem dX11_method_1 : decode cX11_method 1 = .ok (.ifCond .lt 19, 3) := by decide +kernel
theorem dX11_method_4 : decode cX11_method 4 = .ok (.iload_n 1, 1) := by decide +kernel
theorem dX11_method_5 : decode cX11_method 5 = .ok (.iconst 3, 1) := by decide +kernel
theorem dX11_method_6 : decode cX11_method 6 = .ok (.if_icmp .gt 14, 3) := by decide +kernel
theorem dX11_method_9 : decode cX11_method 9 = .ok (.iload_n 2, 1) := by decide +kernel
theorem dX11_method_10 : decode cX11_method 10 = .ok (.iload_n 1, 1) := by decide +kernel
theorem dX11_method_11 : decode cX11_method 11 = .ok (.if_icmp .lt 9, 3) := by decide +kernel
theorem dX11_method_14 : decode cX11_method 14 = .ok (.iload_n 2, 1) := by decide +kernel
theorem dX11_method_15 : decode cX11_method 15 = .ok (.bipush 6, 2) := by decide +kernel
theorem dX11_method_17 : decode cX11_method 17 = .ok (.if_icmp .le 6, 3) := by decide +kernel
theorem dX11_method_20 : decode cX11_method 20 = .ok (.bipush (-2), 2) := by decide +kernel
theorem dX11_method_22 : decode cX11_method 22 = .ok (.ireturn, 1) := by decide +kernel
theorem dX11_method_23 : decode cX11_method 23 = .ok (.aload_n 0, 1) := by decide +kernel
theorem dX11_method_24 : decode cX11_method 24 = .ok (.getfield 15, 3) := by decide +kernel
theorem dX11_method_27 : decode cX11_method 27 = .ok (.iload_n 1, 1) := by decide +kernel
theorem dX11_method_28 : decode cX11_method 28 = .ok (.iload_n 2, 1) := by decide +kernel
theorem dX11_method_29 : decode cX11_method 29 = .ok (.invokevirtual 44, 3) := by decide +kernel
theorem dX11_method_32 : decode cX11_method 32 = .ok (.ireturn, 1) := by decide +kernel
theorem dX11_write_0 : decode cX11_write 0 = .ok (.aload_n 0, 1) := by decide +kernel
theorem dX11_write_1 : decode cX11_write 1 = .ok (.getfield 15, 3) := by decide +kernel
theorem dX11_write_4 : decode cX11_write 4 = .ok (.iload_n 1, 1) := by decide +kernel
theorem dX11_write_5 : decode cX11_write 5 = .ok (.invokevirtual 48, 3) := by decide +kernel
theorem dX11_write_8 : decode cX11_write 8 = .ok (.astore 4, 2) := by decide +kernel
theorem dX11_write_10 : decode cX11_write 10 = .ok (.aload 4, 2) := by decide +kernel
theorem dX11_write_12 : decode cX11_write 12 = .ok (.ifnull 13, 3) := by decide +kernel
theorem dX11_write_15 : decode cX11_write 15 = .ok (.iload_n 2, 1) := by decide +kernel
theorem dX11_write_16 : decode cX11_write 16 = .ok (.ifCond .lt 9, 3) := by decide +kernel
theorem dX11_write_19 : decode cX11_write 19 = .ok (.iload_n 2, 1) := by decide +kernel
theorem dX11_write_20 : decode cX11_write 20 = .ok (.bipush 20, 2) := by decide +kernel
theorem dX11_write_22 : decode cX11_write 22 = .ok (.if_icmp .lt 6, 3) := by decide +kernel
theorem dX11_write_25 : decode cX11_write 25 = .ok (.bipush (-2), 2) := by decide +kernel
theorem dX11_write_27 : decode cX11_write 27 = .ok (.ireturn, 1) := by decide +kernel
theorem dX11_write_28 : decode cX11_write 28 = .ok (.aload 4, 2) := by decide +kernel
theorem dX11_write_30 : decode cX11_write 30 = .ok (.invokevirtual 52, 3) := by decide +kernel
theorem dX11_write_33 : decode cX11_write 33 = .ok (.ifCond .eq 6, 3) := by decide +kernel
theorem dX11_write_36 : decode cX11_write 36 = .ok (.bipush (-3), 2) := by decide +kernel
theorem dX11_write_38 : decode cX11_write 38 = .ok (.ireturn, 1) := by decide +kernel
theorem dX11_write_39 : decode cX11_write 39 = .ok (.aload 4, 2) := by decide +kernel
theorem dX11_write_41 : decode cX11_write 41 = .ok (.iload_n 2, 1) := by decide +kernel
theorem dX11_write_42 : decode cX11_write 42 = .ok (.iload_n 3, 1) := by decide +kernel
theorem dX11_write_43 : decode cX11_write 43 = .ok (.invokevirtual 58, 3) := by decide +kernel
theorem dX11_write_46 : decode cX11_write 46 = .ok (.ireturn, 1) := by decide +kernel
theorem dX11_look_0 : decode cX11_look 0 = .ok (.aload_n 0, 1) := by decide +kernel
theorem dX11_look_1 : decode cX11_look 1 = .ok (.getfield 15, 3) := by decide +kernel
theorem dX11_look_4 : decode cX11_look 4 = .ok (.iload_n 1, 1) := by decide +kernel
theorem dX11_look_5 : decode cX11_look 5 = .ok (.invokevirtual 48, 3) := by decide +kernel
theorem dX11_look_8 : decode cX11_look 8 = .ok (.astore_n 2, 1) := by decide +kernel
theorem dX11_look_9 : decode cX11_look 9 = .ok (.aload_n 2, 1) := by decide +kernel
theorem dX11_look_10 : decode cX11_look 10 = .ok (.ifnonnull 6, 3) := by decide +kernel
theorem dX11_look_13 : decode cX11_look 13 = .ok (.bipush (-2), 2) := by decide +kernel
theorem dX11_look_15 : decode cX11_look 15 = .ok (.ireturn, 1) := by decide +kernel
theorem dX11_look_16 : decode cX11_look 16 = .ok (.aload_n 2, 1) := by decide +kernel
theorem dX11_look_17 : decode cX11_look 17 = .ok (.invokevirtual 52, 3) := by decide +kernel
theorem dX11_look_20 : decode cX11_look 20 = .ok (.ifCond .eq 6, 3) := by decide +kernel
theorem dX11_look_23 : decode cX11_look 23 = .ok (.bipush (-3), 2) := by decide +kernel
theorem dX11_look_25 : decode cX11_look 25 = .ok (.ireturn, 1) := by decide +kernel
theorem dX11_look_26 : decode cX11_look 26 = .ok (.aload_n 0, 1) := by decide +kernel
theorem dX11_look_27 : decode cX11_look 27 = .ok (.getfield 31, 3) := by decide +kernel
theorem dX11_look_30 : decode cX11_look 30 = .ok (.aload_n 2, 1) := by decide +kernel
theorem dX11_look_31 : decode cX11_look 31 = .ok (.invokevirtual 61, 3) := by decide +kernel
theorem dX11_look_34 : decode cX11_look 34 = .ok (.ireturn, 1) := by decide +kernel
theorem dX11_fault_0 : decode cX11_fault 0 = .ok (.aload_n 0, 1) := by decide +kernel
theorem dX11_fault_1 : decode cX11_fault 1 = .ok (.getfield 31, 3) := by decide +kernel
theorem dX11_fault_4 : decode cX11_fault 4 = .ok (.getfield 65, 3) := by decide +kernel
theorem dX11_fault_7 : decode cX11_fault 7 = .ok (.ireturn, 1) := by decide +kernel
theorem dX11_keep_0 : decode cX11_keep 0 = .ok (.iload_n 1, 1) := by decide +kernel
theorem dX11_keep_1 : decode cX11_keep 1 = .ok (.ifCond .lt 9, 3) := by decide +kernel
theorem dX11_keep_4 : decode cX11_keep 4 = .ok (.iload_n 1, 1) := by decide +kernel
theorem dX11_keep_5 : decode cX11_keep 5 = .ok (.bipush 8, 2) := by decide +kernel
theorem dX11_keep_7 : decode cX11_keep 7 = .ok (.if_icmp .lt 6, 3) := by decide +kernel
theorem dX11_keep_10 : decode cX11_keep 10 = .ok (.ldc 69, 2) := by decide +kernel
theorem dX11_keep_12 : decode cX11_keep 12 = .ok (.ireturn, 1) := by decide +kernel
theorem dX11_keep_13 : decode cX11_keep 13 = .ok (.aload_n 0, 1) := by decide +kernel
theorem dX11_keep_14 : decode cX11_keep 14 = .ok (.getfield 22, 3) := by decide +kernel
theorem dX11_keep_17 : decode cX11_keep 17 = .ok (.iload_n 1, 1) := by decide +kernel
theorem dX11_keep_18 : decode cX11_keep 18 = .ok (.invokevirtual 70, 3) := by decide +kernel
theorem dX11_keep_21 : decode cX11_keep 21 = .ok (.istore_n 3, 1) := by decide +kernel
theorem dX11_keep_22 : decode cX11_keep 22 = .ok (.aload_n 0, 1) := by decide +kernel
theorem dX11_keep_23 : decode cX11_keep 23 = .ok (.getfield 22, 3) := by decide +kernel
theorem dX11_keep_26 : decode cX11_keep 26 = .ok (.iload_n 1, 1) := by decide +kernel
theorem dX11_keep_27 : decode cX11_keep 27 = .ok (.iload_n 2, 1) := by decide +kernel
theorem dX11_keep_28 : decode cX11_keep 28 = .ok (.invokevirtual 74, 3) := by decide +kernel
theorem dX11_keep_31 : decode cX11_keep 31 = .ok (.iload_n 3, 1) := by decide +kernel
theorem dX11_keep_32 : decode cX11_keep 32 = .ok (.ireturn, 1) := by decide +kernel
theorem dX11_field_0 : decode cX11_field 0 = .ok (.iload_n 1, 1) := by decide +kernel
theorem dX11_field_1 : decode cX11_field 1 = .ok (.ifCond .lt 9, 3) := by decide +kernel
theorem dX11_field_4 : decode cX11_field 4 = .ok (.iload_n 1, 1) := by decide +kernel
theorem dX11_field_5 : decode cX11_field 5 = .ok (.bipush 8, 2) := by decide +kernel
theorem dX11_field_7 : decode cX11_field 7 = .ok (.if_icmp .lt 8, 3) := by decide +kernel
theorem dX11_field_10 : decode cX11_field 10 = .ok (.ldc 69, 2) := by decide +kernel
theorem dX11_field_12 : decode cX11_field 12 = .ok (.goto 11, 3) := by decide +kernel
theorem dX11_field_15 : decode cX11_field 15 = .ok (.aload_n 0, 1) := by decide +kernel
theorem dX11_field_16 : decode cX11_field 16 = .ok (.getfield 22, 3) := by decide +kernel
theorem dX11_field_19 : decode cX11_field 19 = .ok (.iload_n 1, 1) := by decide +kernel
theorem dX11_field_20 : decode cX11_field 20 = .ok (.invokevirtual 70, 3) := by decide +kernel
theorem dX11_field_23 : decode cX11_field 23 = .ok (.ireturn, 1) := by decide +kernel
theorem dX11_lose_0 : decode cX11_lose 0 = .ok (.iload_n 1, 1) := by decide +kernel
theorem dX11_lose_1 : decode cX11_lose 1 = .ok (.ifCond .lt 8, 3) := by decide +kernel
theorem dX11_lose_4 : decode cX11_lose 4 = .ok (.iload_n 1, 1) := by decide +kernel
theorem dX11_lose_5 : decode cX11_lose 5 = .ok (.iconst 4, 1) := by decide +kernel
theorem dX11_lose_6 : decode cX11_lose 6 = .ok (.if_icmp .lt 6, 3) := by decide +kernel
theorem dX11_lose_9 : decode cX11_lose 9 = .ok (.bipush (-2), 2) := by decide +kernel
theorem dX11_lose_11 : decode cX11_lose 11 = .ok (.ireturn, 1) := by decide +kernel
theorem dX11_lose_12 : decode cX11_lose 12 = .ok (.aload_n 0, 1) := by decide +kernel
theorem dX11_lose_13 : decode cX11_lose 13 = .ok (.getfield 22, 3) := by decide +kernel
theorem dX11_lose_16 : decode cX11_lose 16 = .ok (.iload_n 1, 1) := by decide +kernel
theorem dX11_lose_17 : decode cX11_lose 17 = .ok (.invokevirtual 78, 3) := by decide +kernel
theorem dX11_lose_20 : decode cX11_lose 20 = .ok (.istore_n 2, 1) := by decide +kernel
theorem dX11_lose_21 : decode cX11_lose 21 = .ok (.aload_n 0, 1) := by decide +kernel
theorem dX11_lose_22 : decode cX11_lose 22 = .ok (.getfield 22, 3) := by decide +kernel
theorem dX11_lose_25 : decode cX11_lose 25 = .ok (.iload_n 1, 1) := by decide +kernel
theorem dX11_lose_26 : decode cX11_lose 26 = .ok (.iconst (-1), 1) := by decide +kernel
theorem dX11_lose_27 : decode cX11_lose 27 = .ok (.invokevirtual 81, 3) := by decide +kernel
theorem dX11_lose_30 : decode cX11_lose 30 = .ok (.iload_n 2, 1) := by decide +kernel
theorem dX11_lose_31 : decode cX11_lose 31 = .ok (.ireturn, 1) := by decide +kernel
theorem dX11_size_0 : decode cX11_size 0 = .ok (.iload_n 1, 1) := by decide +kernel
theorem dX11_size_1 : decode cX11_size 1 = .ok (.ifCond .lt 8, 3) := by decide +kernel
theorem dX11_size_4 : decode cX11_size 4 = .ok (.iload_n 1, 1) := by decide +kernel
theorem dX11_size_5 : decode cX11_size 5 = .ok (.iconst 4, 1) := by decide +kernel
theorem dX11_size_6 : decode cX11_size 6 = .ok (.if_icmp .lt 8, 3) := by decide +kernel
theorem dX11_size_9 : decode cX11_size 9 = .ok (.bipush (-2), 2) := by decide +kernel
theorem dX11_size_11 : decode cX11_size 11 = .ok (.goto 11, 3) := by decide +kernel
theorem dX11_size_14 : decode cX11_size 14 = .ok (.aload_n 0, 1) := by decide +kernel
theorem dX11_size_15 : decode cX11_size 15 = .ok (.getfield 22, 3) := by decide +kernel
theorem dX11_size_18 : decode cX11_size 18 = .ok (.iload_n 1, 1) := by decide +kernel
theorem dX11_size_19 : decode cX11_size 19 = .ok (.invokevirtual 78, 3) := by decide +kernel
theorem dX11_size_22 : decode cX11_size 22 = .ok (.ireturn, 1) := by decide +kernel
theorem dX11_item_0 : decode cX11_item 0 = .ok (.aload_n 0, 1) := by decide +kernel
theorem dX11_item_1 : decode cX11_item 1 = .ok (.getfield 22, 3) := by decide +kernel
theorem dX11_item_4 : decode cX11_item 4 = .ok (.iload_n 1, 1) := by decide +kernel
theorem dX11_item_5 : decode cX11_item 5 = .ok (.iload_n 2, 1) := by decide +kernel
theorem dX11_item_6 : decode cX11_item 6 = .ok (.invokevirtual 84, 3) := by decide +kernel
theorem dX11_item_9 : decode cX11_item 9 = .ok (.ireturn, 1) := by decide +kernel
theorem dX11_run_0 : decode cX11_run 0 = .ok (.aload_n 0, 1) := by decide +kernel
theorem dX11_run_1 : decode cX11_run 1 = .ok (.getfield 15, 3) := by decide +kernel
theorem dX11_run_4 : decode cX11_run 4 = .ok (.iload_n 1, 1) := by decide +kernel
theorem dX11_run_5 : decode cX11_run 5 = .ok (.invokevirtual 48, 3) := by decide +kernel
theorem dX11_run_8 : decode cX11_run 8 = .ok (.ifnonnull 6, 3) := by decide +kernel
theorem dX11_run_11 : decode cX11_run 11 = .ok (.bipush (-2), 2) := by decide +kernel
theorem dX11_run_13 : decode cX11_run 13 = .ok (.ireturn, 1) := by decide +kernel
theorem dX11_run_14 : decode cX11_run 14 = .ok (.aload_n 0, 1) := by decide +kernel
theorem dX11_run_15 : decode cX11_run 15 = .ok (.getfield 15, 3) := by decide +kernel
theorem dX11_run_18 : decode cX11_run 18 = .ok (.invokevirtual 87, 3) := by decide +kernel
theorem dX11_run_21 : decode cX11_run 21 = .ok (.ifCond .ne 6, 3) := by decide +kernel
theorem dX11_run_24 : decode cX11_run 24 = .ok (.bipush (-3), 2) := by decide +kernel
theorem dX11_run_26 : decode cX11_run 26 = .ok (.ireturn, 1) := by decide +kernel
theorem dX11_run_27 : decode cX11_run 27 = .ok (.aload_n 0, 1) := by decide +kernel
theorem dX11_run_28 : decode cX11_run 28 = .ok (.getfield 40, 3) := by decide +kernel
theorem dX11_run_31 : decode cX11_run 31 = .ok (.getfield 88, 3) := by decide +kernel
theorem dX11_run_34 : decode cX11_run 34 = .ok (.getfield 92, 3) := by decide +kernel
theorem dX11_run_37 : decode cX11_run 37 = .ok (.bipush 80, 2) := by decide +kernel
theorem dX11_run_39 : decode cX11_run 39 = .ok (.if_icmp .lt 6, 3) := by decide +kernel
theorem dX11_run_42 : decode cX11_run 42 = .ok (.bipush (-4), 2) := by decide +kernel
theorem dX11_run_44 : decode cX11_run 44 = .ok (.ireturn, 1) := by decide +kernel
theorem dX11_run_45 : decode cX11_run 45 = .ok (.aload_n 0, 1) := by decide +kernel
theorem dX11_run_46 : decode cX11_run 46 = .ok (.getfield 40, 3) := by decide +kernel
theorem dX11_run_49 : decode cX11_run 49 = .ok (.iload_n 1, 1) := by decide +kernel
theorem dX11_run_50 : decode cX11_run 50 = .ok (.iload_n 2, 1) := by decide +kernel
theorem dX11_run_51 : decode cX11_run 51 = .ok (.iload_n 3, 1) := by decide +kernel
theorem dX11_run_52 : decode cX11_run 52 = .ok (.iload 4, 2) := by decide +kernel
theorem dX11_run_54 : decode cX11_run 54 = .ok (.invokevirtual 97, 3) := by decide +kernel
theorem dX11_run_57 : decode cX11_run 57 = .ok (.ireturn, 1) := by decide +kernel
theorem dX11_answer_0 : decode cX11_answer 0 = .ok (.aload_n 0, 1) := by decide +kernel
theorem dX11_answer_1 : decode cX11_answer 1 = .ok (.getfield 40, 3) := by decide +kernel
theorem dX11_answer_4 : decode cX11_answer 4 = .ok (.getfield 88, 3) := by decide +kernel
theorem dX11_answer_7 : decode cX11_answer 7 = .ok (.getfield 101, 3) := by decide +kernel
theorem dX11_answer_10 : decode cX11_answer 10 = .ok (.ireturn, 1) := by decide +kernel
theorem dX11_trap_0 : decode cX11_trap 0 = .ok (.aload_n 0, 1) := by decide +kernel
theorem dX11_trap_1 : decode cX11_trap 1 = .ok (.getfield 40, 3) := by decide +kernel
theorem dX11_trap_4 : decode cX11_trap 4 = .ok (.getfield 88, 3) := by decide +kernel
theorem dX11_trap_7 : decode cX11_trap 7 = .ok (.iload_n 1, 1) := by decide +kernel
theorem dX11_trap_8 : decode cX11_trap 8 = .ok (.invokevirtual 104, 3) := by decide +kernel
theorem dX11_trap_11 : decode cX11_trap 11 = .ok (.ireturn, 1) := by decide +kernel
theorem dX11_of_0 : decode cX11_of 0 = .ok (.aload_n 0, 1) := by decide +kernel
theorem dX11_of_1 : decode cX11_of 1 = .ok (.getfield 15, 3) := by decide +kernel
theorem dX11_of_4 : decode cX11_of 4 = .ok (.iload_n 1, 1) := by decide +kernel
theorem dX11_of_5 : decode cX11_of 5 = .ok (.invokevirtual 48, 3) := by decide +kernel
theorem dX11_of_8 : decode cX11_of 8 = .ok (.astore_n 3, 1) := by decide +kernel
theorem dX11_of_9 : decode cX11_of 9 = .ok (.aload_n 3, 1) := by decide +kernel
theorem dX11_of_10 : decode cX11_of 10 = .ok (.ifnonnull 8, 3) := by decide +kernel
theorem dX11_of_13 : decode cX11_of 13 = .ok (.bipush (-2), 2) := by decide +kernel
theorem dX11_of_15 : decode cX11_of 15 = .ok (.goto 8, 3) := by decide +kernel
theorem dX11_of_18 : decode cX11_of 18 = .ok (.aload_n 3, 1) := by decide +kernel
theorem dX11_of_19 : decode cX11_of 19 = .ok (.iload_n 2, 1) := by decide +kernel
theorem dX11_of_20 : decode cX11_of 20 = .ok (.invokestatic 107, 3) := by decide +kernel
theorem dX11_of_23 : decode cX11_of 23 = .ok (.ireturn, 1) := by decide +kernel
theorem dX11_part_0 : decode cX11_part 0 = .ok (.aload_n 0, 1) := by decide +kernel
theorem dX11_part_1 : decode cX11_part 1 = .ok (.getfield 15, 3) := by decide +kernel
theorem dX11_part_4 : decode cX11_part 4 = .ok (.iload_n 1, 1) := by decide +kernel
theorem dX11_part_5 : decode cX11_part 5 = .ok (.invokevirtual 48, 3) := by decide +kernel
theorem dX11_part_8 : decode cX11_part 8 = .ok (.astore 4, 2) := by decide +kernel
theorem dX11_part_10 : decode cX11_part 10 = .ok (.aload 4, 2) := by decide +kernel
theorem dX11_part_12 : decode cX11_part 12 = .ok (.ifnull 14, 3) := by decide +kernel
theorem dX11_part_15 : decode cX11_part 15 = .ok (.aload 4, 2) := by decide +kernel
theorem dX11_part_17 : decode cX11_part 17 = .ok (.getfield 111, 3) := by decide +kernel
theorem dX11_part_20 : decode cX11_part 20 = .ok (.getfield 115, 3) := by decide +kernel
theorem dX11_part_23 : decode cX11_part 23 = .ok (.ifnonnull 8, 3) := by decide +kernel
theorem dX11_part_26 : decode cX11_part 26 = .ok (.ldc 69, 2) := by decide +kernel
theorem dX11_part_28 : decode cX11_part 28 = .ok (.goto 16, 3) := by decide +kernel
theorem dX11_part_31 : decode cX11_part 31 = .ok (.aload 4, 2) := by decide +kernel
theorem dX11_part_33 : decode cX11_part 33 = .ok (.getfield 111, 3) := by decide +kernel
theorem dX11_part_36 : decode cX11_part 36 = .ok (.getfield 115, 3) := by decide +kernel
theorem dX11_part_39 : decode cX11_part 39 = .ok (.iload_n 2, 1) := by decide +kernel
theorem dX11_part_40 : decode cX11_part 40 = .ok (.iload_n 3, 1) := by decide +kernel
theorem dX11_part_41 : decode cX11_part 41 = .ok (.invokevirtual 121, 3) := by decide +kernel
theorem dX11_part_44 : decode cX11_part 44 = .ok (.ireturn, 1) := by decide +kernel
theorem dX11_varies_0 : decode cX11_varies 0 = .ok (.aload_n 0, 1) := by decide +kernel
theorem dX11_varies_1 : decode cX11_varies 1 = .ok (.getfield 15, 3) := by decide +kernel
theorem dX11_varies_4 : decode cX11_varies 4 = .ok (.iload_n 1, 1) := by decide +kernel
theorem dX11_varies_5 : decode cX11_varies 5 = .ok (.invokevirtual 48, 3) := by decide +kernel
theorem dX11_varies_8 : decode cX11_varies 8 = .ok (.astore_n 3, 1) := by decide +kernel
theorem dX11_varies_9 : decode cX11_varies 9 = .ok (.iload_n 2, 1) := by decide +kernel
theorem dX11_varies_10 : decode cX11_varies 10 = .ok (.ifCond .lt 12, 3) := by decide +kernel
theorem dX11_varies_13 : decode cX11_varies 13 = .ok (.iload_n 2, 1) := by decide +kernel
theorem dX11_varies_14 : decode cX11_varies 14 = .ok (.iconst 3, 1) := by decide +kernel
theorem dX11_varies_15 : decode cX11_varies 15 = .ok (.if_icmp .ge 7, 3) := by decide +kernel
theorem dX11_varies_18 : decode cX11_varies 18 = .ok (.iconst 1, 1) := by decide +kernel
theorem dX11_varies_19 : decode cX11_varies 19 = .ok (.goto 4, 3) := by decide +kernel
theorem dX11_varies_22 : decode cX11_varies 22 = .ok (.iconst 0, 1) := by decide +kernel
theorem dX11_varies_23 : decode cX11_varies 23 = .ok (.istore 4, 2) := by decide +kernel
theorem dX11_varies_25 : decode cX11_varies 25 = .ok (.iload_n 2, 1) := by decide +kernel
theorem dX11_varies_26 : decode cX11_varies 26 = .ok (.bipush 10, 2) := by decide +kernel
theorem dX11_varies_28 : decode cX11_varies 28 = .ok (.if_icmp .lt 13, 3) := by decide +kernel
theorem dX11_varies_31 : decode cX11_varies 31 = .ok (.iload_n 2, 1) := by decide +kernel
theorem dX11_varies_32 : decode cX11_varies 32 = .ok (.bipush 18, 2) := by decide +kernel
theorem dX11_varies_34 : decode cX11_varies 34 = .ok (.if_icmp .ge 7, 3) := by decide +kernel
theorem dX11_varies_37 : decode cX11_varies 37 = .ok (.iconst 1, 1) := by decide +kernel
theorem dX11_varies_38 : decode cX11_varies 38 = .ok (.goto 4, 3) := by decide +kernel
theorem dX11_varies_41 : decode cX11_varies 41 = .ok (.iconst 0, 1) := by decide +kernel
theorem dX11_varies_42 : decode cX11_varies 42 = .ok (.istore 5, 2) := by decide +kernel
theorem dX11_varies_44 : decode cX11_varies 44 = .ok (.aload_n 3, 1) := by decide +kernel
theorem dX11_varies_45 : decode cX11_varies 45 = .ok (.ifnull 13, 3) := by decide +kernel
theorem dX11_varies_48 : decode cX11_varies 48 = .ok (.iload 4, 2) := by decide +kernel
theorem dX11_varies_50 : decode cX11_varies 50 = .ok (.ifCond .ne 11, 3) := by decide +kernel
theorem dX11_varies_53 : decode cX11_varies 53 = .ok (.iload 5, 2) := by decide +kernel
theorem dX11_varies_55 : decode cX11_varies 55 = .ok (.ifCond .ne 6, 3) := by decide +kernel
theorem dX11_varies_58 : decode cX11_varies 58 = .ok (.bipush (-2), 2) := by decide +kernel
theorem dX11_varies_60 : decode cX11_varies 60 = .ok (.ireturn, 1) := by decide +kernel
theorem dX11_varies_61 : decode cX11_varies 61 = .ok (.aload_n 3, 1) := by decide +kernel
theorem dX11_varies_62 : decode cX11_varies 62 = .ok (.getfield 111, 3) := by decide +kernel
theorem dX11_varies_65 : decode cX11_varies 65 = .ok (.iload 4, 2) := by decide +kernel
theorem dX11_varies_67 : decode cX11_varies 67 = .ok (.ifCond .eq 7, 3) := by decide +kernel
theorem dX11_varies_70 : decode cX11_varies 70 = .ok (.iload_n 2, 1) := by decide +kernel
theorem dX11_varies_71 : decode cX11_varies 71 = .ok (.goto 9, 3) := by decide +kernel
theorem dX11_varies_74 : decode cX11_varies 74 = .ok (.iconst 3, 1) := by decide +kernel
theorem dX11_varies_75 : decode cX11_varies 75 = .ok (.iload_n 2, 1) := by decide +kernel
theorem dX11_varies_76 : decode cX11_varies 76 = .ok (.iadd, 1) := by decide +kernel
theorem dX11_varies_77 : decode cX11_varies 77 = .ok (.bipush 10, 2) := by decide +kernel
theorem dX11_varies_79 : decode cX11_varies 79 = .ok (.isub, 1) := by decide +kernel
theorem dX11_varies_80 : decode cX11_varies 80 = .ok (.invokevirtual 126, 3) := by decide +kernel
theorem dX11_varies_83 : decode cX11_varies 83 = .ok (.ifCond .eq 7, 3) := by decide +kernel
theorem dX11_varies_86 : decode cX11_varies 86 = .ok (.iconst 1, 1) := by decide +kernel
theorem dX11_varies_87 : decode cX11_varies 87 = .ok (.goto 4, 3) := by decide +kernel
theorem dX11_varies_90 : decode cX11_varies 90 = .ok (.iconst 0, 1) := by decide +kernel
theorem dX11_varies_91 : decode cX11_varies 91 = .ok (.ireturn, 1) := by decide +kernel
theorem dX11_depth_0 : decode cX11_depth 0 = .ok (.aload_n 0, 1) := by decide +kernel
theorem dX11_depth_1 : decode cX11_depth 1 = .ok (.getfield 15, 3) := by decide +kernel
theorem dX11_depth_4 : decode cX11_depth 4 = .ok (.iload_n 1, 1) := by decide +kernel
theorem dX11_depth_5 : decode cX11_depth 5 = .ok (.invokevirtual 48, 3) := by decide +kernel
theorem dX11_depth_8 : decode cX11_depth 8 = .ok (.astore_n 3, 1) := by decide +kernel
theorem dX11_depth_9 : decode cX11_depth 9 = .ok (.aload_n 3, 1) := by decide +kernel
theorem dX11_depth_10 : decode cX11_depth 10 = .ok (.ifnull 11, 3) := by decide +kernel
theorem dX11_depth_13 : decode cX11_depth 13 = .ok (.aload_n 3, 1) := by decide +kernel
theorem dX11_depth_14 : decode cX11_depth 14 = .ok (.iload_n 2, 1) := by decide +kernel
theorem dX11_depth_15 : decode cX11_depth 15 = .ok (.invokevirtual 130, 3) := by decide +kernel
theorem dX11_depth_18 : decode cX11_depth 18 = .ok (.ifCond .ne 6, 3) := by decide +kernel
theorem dX11_depth_21 : decode cX11_depth 21 = .ok (.bipush (-2), 2) := by decide +kernel
theorem dX11_depth_23 : decode cX11_depth 23 = .ok (.ireturn, 1) := by decide +kernel
theorem dX11_depth_24 : decode cX11_depth 24 = .ok (.aload_n 3, 1) := by decide +kernel
theorem dX11_depth_25 : decode cX11_depth 25 = .ok (.invokevirtual 52, 3) := by decide +kernel
theorem dX11_depth_28 : decode cX11_depth 28 = .ok (.ifCond .eq 11, 3) := by decide +kernel
theorem dX11_depth_31 : decode cX11_depth 31 = .ok (.aload_n 3, 1) := by decide +kernel
theorem dX11_depth_32 : decode cX11_depth 32 = .ok (.iload_n 2, 1) := by decide +kernel
theorem dX11_depth_33 : decode cX11_depth 33 = .ok (.invokevirtual 133, 3) := by decide +kernel
theorem dX11_depth_36 : decode cX11_depth 36 = .ok (.goto 4, 3) := by decide +kernel
theorem dX11_depth_39 : decode cX11_depth 39 = .ok (.iconst (-1), 1) := by decide +kernel
theorem dX11_depth_40 : decode cX11_depth 40 = .ok (.ireturn, 1) := by decide +kernel
theorem dX11_count_0 : decode cX11_count 0 = .ok (.aload_n 0, 1) := by decide +kernel
theorem dX11_count_1 : decode cX11_count 1 = .ok (.getfield 40, 3) := by decide +kernel
theorem dX11_count_4 : decode cX11_count 4 = .ok (.getfield 88, 3) := by decide +kernel
theorem dX11_count_7 : decode cX11_count 7 = .ok (.astore_n 2, 1) := by decide +kernel
theorem dX11_count_8 : decode cX11_count 8 = .ok (.iload_n 1, 1) := by decide +kernel
theorem dX11_count_9 : decode cX11_count 9 = .ok (.tableswitch 72 0 5 #[39, 47, 52, 57, 62, 67], 39) := by decide +kernel
theorem dX11_count_48 : decode cX11_count 48 = .ok (.aload_n 0, 1) := by decide +kernel
theorem dX11_count_49 : decode cX11_count 49 = .ok (.getfield 15, 3) := by decide +kernel
theorem dX11_count_52 : decode cX11_count 52 = .ok (.getfield 136, 3) := by decide +kernel
theorem dX11_count_55 : decode cX11_count 55 = .ok (.ireturn, 1) := by decide +kernel
theorem dX11_count_56 : decode cX11_count 56 = .ok (.aload_n 2, 1) := by decide +kernel
theorem dX11_count_57 : decode cX11_count 57 = .ok (.getfield 92, 3) := by decide +kernel
theorem dX11_count_60 : decode cX11_count 60 = .ok (.ireturn, 1) := by decide +kernel
theorem dX11_count_61 : decode cX11_count 61 = .ok (.aload_n 2, 1) := by decide +kernel
theorem dX11_count_62 : decode cX11_count 62 = .ok (.getfield 139, 3) := by decide +kernel
theorem dX11_count_65 : decode cX11_count 65 = .ok (.ireturn, 1) := by decide +kernel
theorem dX11_count_66 : decode cX11_count 66 = .ok (.aload_n 2, 1) := by decide +kernel
theorem dX11_count_67 : decode cX11_count 67 = .ok (.getfield 142, 3) := by decide +kernel
theorem dX11_count_70 : decode cX11_count 70 = .ok (.ireturn, 1) := by decide +kernel
theorem dX11_count_71 : decode cX11_count 71 = .ok (.aload_n 2, 1) := by decide +kernel
theorem dX11_count_72 : decode cX11_count 72 = .ok (.getfield 145, 3) := by decide +kernel
theorem dX11_count_75 : decode cX11_count 75 = .ok (.ireturn, 1) := by decide +kernel
theorem dX11_count_76 : decode cX11_count 76 = .ok (.aload_n 2, 1) := by decide +kernel
theorem dX11_count_77 : decode cX11_count 77 = .ok (.getfield 148, 3) := by decide +kernel
theorem dX11_count_80 : decode cX11_count 80 = .ok (.ireturn, 1) := by decide +kernel
theorem dX11_count_81 : decode cX11_count 81 = .ok (.bipush (-2), 2) := by decide +kernel
theorem dX11_count_83 : decode cX11_count 83 = .ok (.ireturn, 1) := by decide +kernel
theorem dX11_digest_0 : decode cX11_digest 0 = .ok (.aload_n 0, 1) := by decide +kernel
theorem dX11_digest_1 : decode cX11_digest 1 = .ok (.getfield 22, 3) := by decide +kernel
theorem dX11_digest_4 : decode cX11_digest 4 = .ok (.ldc2_w 151, 3) := by decide +kernel
theorem dX11_digest_7 : decode cX11_digest 7 = .ok (.invokevirtual 153, 3) := by decide +kernel
theorem dX11_digest_10 : decode cX11_digest 10 = .ok (.lstore_n 1, 1) := by decide +kernel
theorem dX11_digest_11 : decode cX11_digest 11 = .ok (.aload_n 0, 1) := by decide +kernel
theorem dX11_digest_12 : decode cX11_digest 12 = .ok (.getfield 40, 3) := by decide +kernel
theorem dX11_digest_15 : decode cX11_digest 15 = .ok (.getfield 88, 3) := by decide +kernel
theorem dX11_digest_18 : decode cX11_digest 18 = .ok (.lload_n 1, 1) := by decide +kernel
theorem dX11_digest_19 : decode cX11_digest 19 = .ok (.invokevirtual 157, 3) := by decide +kernel
theorem dX11_digest_22 : decode cX11_digest 22 = .ok (.lstore_n 1, 1) := by decide +kernel
theorem dX11_digest_23 : decode cX11_digest 23 = .ok (.iconst 0, 1) := by decide +kernel
theorem dX11_digest_24 : decode cX11_digest 24 = .ok (.istore_n 3, 1) := by decide +kernel
theorem dX11_digest_25 : decode cX11_digest 25 = .ok (.iload_n 3, 1) := by decide +kernel
theorem dX11_digest_26 : decode cX11_digest 26 = .ok (.aload_n 0, 1) := by decide +kernel
theorem dX11_digest_27 : decode cX11_digest 27 = .ok (.getfield 15, 3) := by decide +kernel
theorem dX11_digest_30 : decode cX11_digest 30 = .ok (.getfield 136, 3) := by decide +kernel
theorem dX11_digest_33 : decode cX11_digest 33 = .ok (.if_icmp .ge 31, 3) := by decide +kernel
theorem dX11_digest_36 : decode cX11_digest 36 = .ok (.aload_n 0, 1) := by decide +kernel
theorem dX11_digest_37 : decode cX11_digest 37 = .ok (.getfield 15, 3) := by decide +kernel
theorem dX11_digest_40 : decode cX11_digest 40 = .ok (.iload_n 3, 1) := by decide +kernel
theorem dX11_digest_41 : decode cX11_digest 41 = .ok (.invokevirtual 48, 3) := by decide +kernel
theorem dX11_digest_44 : decode cX11_digest 44 = .ok (.astore 4, 2) := by decide +kernel
theorem dX11_digest_46 : decode cX11_digest 46 = .ok (.aload 4, 2) := by decide +kernel
theorem dX11_digest_48 : decode cX11_digest 48 = .ok (.ifnull 10, 3) := by decide +kernel
theorem dX11_digest_51 : decode cX11_digest 51 = .ok (.lload_n 1, 1) := by decide +kernel
theorem dX11_digest_52 : decode cX11_digest 52 = .ok (.aload 4, 2) := by decide +kernel
theorem dX11_digest_54 : decode cX11_digest 54 = .ok (.invokestatic 158, 3) := by decide +kernel
theorem dX11_digest_57 : decode cX11_digest 57 = .ok (.lstore_n 1, 1) := by decide +kernel
theorem dX11_digest_58 : decode cX11_digest 58 = .ok (.iinc 3 1, 3) := by decide +kernel
theorem dX11_digest_61 : decode cX11_digest 61 = .ok (.goto (-36), 3) := by decide +kernel
theorem dX11_digest_64 : decode cX11_digest 64 = .ok (.lload_n 1, 1) := by decide +kernel
theorem dX11_digest_65 : decode cX11_digest 65 = .ok (.lreturn, 1) := by decide +kernel
theorem dX12_init_0 : decode cX12_init 0 = .ok (.aload_n 0, 1) := by decide +kernel
theorem dX12_init_1 : decode cX12_init 1 = .ok (.invokespecial 1, 3) := by decide +kernel
theorem dX12_init_4 : decode cX12_init 4 = .ok (.aload_n 0, 1) := by decide +kernel
theorem dX12_init_5 : decode cX12_init 5 = .ok (.bipush 8, 2) := by decide +kernel
theorem dX12_init_7 : decode cX12_init 7 = .ok (.newarray .int, 2) := by decide +kernel
theorem dX12_init_9 : decode cX12_init 9 = .ok (.putfield 7, 3) := by decide +kernel
theorem dX12_init_12 : decode cX12_init 12 = .ok (.aload_n 0, 1) := by decide +kernel
theorem dX12_init_13 : decode cX12_init 13 = .ok (.bipush 8, 2) := by decide +kernel
theorem dX12_init_15 : decode cX12_init 15 = .ok (.newarray .int, 2) := by decide +kernel
theorem dX12_init_17 : decode cX12_init 17 = .ok (.putfield 13, 3) := by decide +kernel
theorem dX12_init_20 : decode cX12_init 20 = .ok (.aload_n 0, 1) := by decide +kernel
theorem dX12_init_21 : decode cX12_init 21 = .ok (.bipush 8, 2) := by decide +kernel
theorem dX12_init_23 : decode cX12_init 23 = .ok (.newarray .int, 2) := by decide +kernel
theorem dX12_init_25 : decode cX12_init 25 = .ok (.putfield 16, 3) := by decide +kernel
theorem dX12_init_28 : decode cX12_init 28 = .ok (.aload_n 0, 1) := by decide +kernel
theorem dX12_init_29 : decode cX12_init 29 = .ok (.sipush 480, 3) := by decide +kernel
theorem dX12_init_32 : decode cX12_init 32 = .ok (.newarray .int, 2) := by decide +kernel
theorem dX12_init_34 : decode cX12_init 34 = .ok (.putfield 19, 3) := by decide +kernel
theorem dX12_init_37 : decode cX12_init 37 = .ok (.aload_n 0, 1) := by decide +kernel
theorem dX12_init_38 : decode cX12_init 38 = .ok (.sipush 480, 3) := by decide +kernel
theorem dX12_init_41 : decode cX12_init 41 = .ok (.newarray .int, 2) := by decide +kernel
theorem dX12_init_43 : decode cX12_init 43 = .ok (.putfield 22, 3) := by decide +kernel
theorem dX12_init_46 : decode cX12_init 46 = .ok (.aload_n 0, 1) := by decide +kernel
theorem dX12_init_47 : decode cX12_init 47 = .ok (.bipush 8, 2) := by decide +kernel
theorem dX12_init_49 : decode cX12_init 49 = .ok (.newarray .boolean, 2) := by decide +kernel
theorem dX12_init_51 : decode cX12_init 51 = .ok (.putfield 25, 3) := by decide +kernel
theorem dX12_init_54 : decode cX12_init 54 = .ok (.aload_n 0, 1) := by decide +kernel
theorem dX12_init_55 : decode cX12_init 55 = .ok (.sipush 480, 3) := by decide +kernel
theorem dX12_init_58 : decode cX12_init 58 = .ok (.newarray .int, 2) := by decide +kernel
theorem dX12_init_60 : decode cX12_init 60 = .ok (.putfield 29, 3) := by decide +kernel
theorem dX12_init_63 : decode cX12_init 63 = .ok (.aload_n 0, 1) := by decide +kernel
theorem dX12_init_64 : decode cX12_init 64 = .ok (.bipush 8, 2) := by decide +kernel
theorem dX12_init_66 : decode cX12_init 66 = .ok (.newarray .int, 2) := by decide +kernel
theorem dX12_init_68 : decode cX12_init 68 = .ok (.putfield 32, 3) := by decide +kernel
theorem dX12_init_71 : decode cX12_init 71 = .ok (.aload_n 0, 1) := by decide +kernel
theorem dX12_init_72 : decode cX12_init 72 = .ok (.bipush 60, 2) := by decide +kernel
theorem dX12_init_74 : decode cX12_init 74 = .ok (.newarray .boolean, 2) := by decide +kernel
theorem dX12_init_76 : decode cX12_init 76 = .ok (.putfield 35, 3) := by decide +kernel
theorem dX12_init_79 : decode cX12_init 79 = .ok (.aload_n 0, 1) := by decide +kernel
theorem dX12_init_80 : decode cX12_init 80 = .ok (.bipush 60, 2) := by decide +kernel
theorem dX12_init_82 : decode cX12_init 82 = .ok (.newarray .boolean, 2) := by decide +kernel
theorem dX12_init_84 : decode cX12_init 84 = .ok (.putfield 38, 3) := by decide +kernel
theorem dX12_init_87 : decode cX12_init 87 = .ok (.aload_n 0, 1) := by decide +kernel
theorem dX12_init_88 : decode cX12_init 88 = .ok (.bipush 8, 2) := by decide +kernel
theorem dX12_init_90 : decode cX12_init 90 = .ok (.newarray .int, 2) := by decide +kernel
theorem dX12_init_92 : decode cX12_init 92 = .ok (.putfield 41, 3) := by decide +kernel
theorem dX12_init_95 : decode cX12_init 95 = .ok (.aload_n 0, 1) := by decide +kernel
theorem dX12_init_96 : decode cX12_init 96 = .ok (.iconst 4, 1) := by decide +kernel
theorem dX12_init_97 : decode cX12_init 97 = .ok (.newarray .int, 2) := by decide +kernel
theorem dX12_init_99 : decode cX12_init 99 = .ok (.putfield 44, 3) := by decide +kernel
theorem dX12_init_102 : decode cX12_init 102 = .ok (.aload_n 0, 1) := by decide +kernel
theorem dX12_init_103 : decode cX12_init 103 = .ok (.bipush 80, 2) := by decide +kernel
theorem dX12_init_105 : decode cX12_init 105 = .ok (.newarray .int, 2) := by decide +kernel
theorem dX12_init_107 : decode cX12_init 107 = .ok (.putfield 47, 3) := by decide +kernel
theorem dX12_init_110 : decode cX12_init 110 = .ok (.aload_n 0, 1) := by decide +kernel
theorem dX12_init_111 : decode cX12_init 111 = .ok (.bipush 8, 2) := by decide +kernel
theorem dX12_init_113 : decode cX12_init 113 = .ok (.newarray .boolean, 2) := by decide +kernel
theorem dX12_init_115 : decode cX12_init 115 = .ok (.putfield 50, 3) := by decide +kernel
theorem dX12_init_118 : decode cX12_init 118 = .ok (.aload_n 0, 1) := by decide +kernel
theorem dX12_init_119 : decode cX12_init 119 = .ok (.bipush 8, 2) := by decide +kernel
theorem dX12_init_121 : decode cX12_init 121 = .ok (.newarray .int, 2) := by decide +kernel
theorem dX12_init_123 : decode cX12_init 123 = .ok (.putfield 53, 3) := by decide +kernel
theorem dX12_init_126 : decode cX12_init 126 = .ok (.aload_n 0, 1) := by decide +kernel
theorem dX12_init_127 : decode cX12_init 127 = .ok (.bipush 8, 2) := by decide +kernel
theorem dX12_init_129 : decode cX12_init 129 = .ok (.newarray .int, 2) := by decide +kernel
theorem dX12_init_131 : decode cX12_init 131 = .ok (.putfield 56, 3) := by decide +kernel
theorem dX12_init_134 : decode cX12_init 134 = .ok (.aload_n 0, 1) := by decide +kernel
theorem dX12_init_135 : decode cX12_init 135 = .ok (.bipush 8, 2) := by decide +kernel
theorem dX12_init_137 : decode cX12_init 137 = .ok (.newarray .int, 2) := by decide +kernel
theorem dX12_init_139 : decode cX12_init 139 = .ok (.putfield 59, 3) := by decide +kernel
theorem dX12_init_142 : decode cX12_init 142 = .ok (.aload_n 0, 1) := by decide +kernel
theorem dX12_init_143 : decode cX12_init 143 = .ok (.bipush 8, 2) := by decide +kernel
theorem dX12_init_145 : decode cX12_init 145 = .ok (.newarray .int, 2) := by decide +kernel
theorem dX12_init_147 : decode cX12_init 147 = .ok (.putfield 62, 3) := by decide +kernel
theorem dX12_init_150 : decode cX12_init 150 = .ok (.aload_n 0, 1) := by decide +kernel
theorem dX12_init_151 : decode cX12_init 151 = .ok (.bipush 88, 2) := by decide +kernel
theorem dX12_init_153 : decode cX12_init 153 = .ok (.newarray .int, 2) := by decide +kernel
theorem dX12_init_155 : decode cX12_init 155 = .ok (.putfield 65, 3) := by decide +kernel
theorem dX12_init_158 : decode cX12_init 158 = .ok (.aload_n 0, 1) := by decide +kernel
theorem dX12_init_159 : decode cX12_init 159 = .ok (.bipush 88, 2) := by decide +kernel
theorem dX12_init_161 : decode cX12_init 161 = .ok (.newarray .boolean, 2) := by decide +kernel
theorem dX12_init_163 : decode cX12_init 163 = .ok (.putfield 68, 3) := by decide +kernel
theorem dX12_init_166 : decode cX12_init 166 = .ok (.aload_n 0, 1) := by decide +kernel
theorem dX12_init_167 : decode cX12_init 167 = .ok (.bipush 88, 2) := by decide +kernel
theorem dX12_init_169 : decode cX12_init 169 = .ok (.newarray .boolean, 2) := by decide +kernel
theorem dX12_init_171 : decode cX12_init 171 = .ok (.putfield 71, 3) := by decide +kernel
theorem dX12_init_174 : decode cX12_init 174 = .ok (.aload_n 0, 1) := by decide +kernel
theorem dX12_init_175 : decode cX12_init 175 = .ok (.bipush 96, 2) := by decide +kernel
theorem dX12_init_177 : decode cX12_init 177 = .ok (.newarray .int, 2) := by decide +kernel
theorem dX12_init_179 : decode cX12_init 179 = .ok (.putfield 74, 3) := by decide +kernel
theorem dX12_init_182 : decode cX12_init 182 = .ok (.aload_n 0, 1) := by decide +kernel
theorem dX12_init_183 : decode cX12_init 183 = .ok (.sipush 5760, 3) := by decide +kernel
theorem dX12_init_186 : decode cX12_init 186 = .ok (.newarray .int, 2) := by decide +kernel
theorem dX12_init_188 : decode cX12_init 188 = .ok (.putfield 77, 3) := by decide +kernel
theorem dX12_init_191 : decode cX12_init 191 = .ok (.aload_n 0, 1) := by decide +kernel
theorem dX12_init_192 : decode cX12_init 192 = .ok (.ldc 80, 2) := by decide +kernel
theorem dX12_init_194 : decode cX12_init 194 = .ok (.newarray .int, 2) := by decide +kernel
theorem dX12_init_196 : decode cX12_init 196 = .ok (.putfield 81, 3) := by decide +kernel
theorem dX12_init_199 : decode cX12_init 199 = .ok (.aload_n 0, 1) := by decide +kernel
theorem dX12_init_200 : decode cX12_init 200 = .ok (.ldc 80, 2) := by decide +kernel
theorem dX12_init_202 : decode cX12_init 202 = .ok (.newarray .int, 2) := by decide +kernel
theorem dX12_init_204 : decode cX12_init 204 = .ok (.putfield 84, 3) := by decide +kernel
theorem dX12_init_207 : decode cX12_init 207 = .ok (.aload_n 0, 1) := by decide +kernel
theorem dX12_init_208 : decode cX12_init 208 = .ok (.ldc 80, 2) := by decide +kernel
theorem dX12_init_210 : decode cX12_init 210 = .ok (.newarray .int, 2) := by decide +kernel
theorem dX12_init_212 : decode cX12_init 212 = .ok (.putfield 87, 3) := by decide +kernel
theorem dX12_init_215 : decode cX12_init 215 = .ok (.aload_n 0, 1) := by decide +kernel
theorem dX12_init_216 : decode cX12_init 216 = .ok (.ldc 80, 2) := by decide +kernel
theorem dX12_init_218 : decode cX12_init 218 = .ok (.newarray .int, 2) := by decide +kernel
theorem dX12_init_220 : decode cX12_init 220 = .ok (.putfield 90, 3) := by decide +kernel
theorem dX12_init_223 : decode cX12_init 223 = .ok (.aload_n 0, 1) := by decide +kernel
theorem dX12_init_224 : decode cX12_init 224 = .ok (.ldc 80, 2) := by decide +kernel
theorem dX12_init_226 : decode cX12_init 226 = .ok (.newarray .int, 2) := by decide +kernel
theorem dX12_init_228 : decode cX12_init 228 = .ok (.putfield 93, 3) := by decide +kernel
theorem dX12_init_231 : decode cX12_init 231 = .ok (.aload_n 0, 1) := by decide +kernel
theorem dX12_init_232 : decode cX12_init 232 = .ok (.bipush 11, 2) := by decide +kernel
theorem dX12_init_234 : decode cX12_init 234 = .ok (.newarray .boolean, 2) := by decide +kernel
theorem dX12_init_236 : decode cX12_init 236 = .ok (.putfield 96, 3) := by decide +kernel
theorem dX12_init_239 : decode cX12_init 239 = .ok (.aload_n 0, 1) := by decide +kernel
theorem dX12_init_240 : decode cX12_init 240 = .ok (.bipush 7, 2) := by decide +kernel
theorem dX12_init_242 : decode cX12_init 242 = .ok (.newarray .boolean, 2) := by decide +kernel
theorem dX12_init_244 : decode cX12_init 244 = .ok (.putfield 99, 3) := by decide +kernel
theorem dX12_init_247 : decode cX12_init 247 = .ok (.aload_n 0, 1) := by decide +kernel
theorem dX12_init_248 : decode cX12_init 248 = .ok (.bipush 7, 2) := by decide +kernel
theorem dX12_init_250 : decode cX12_init 250 = .ok (.newarray .int, 2) := by decide +kernel
theorem dX12_init_252 : decode cX12_init 252 = .ok (.putfield 102, 3) := by decide +kernel
theorem dX12_init_255 : decode cX12_init 255 = .ok (.aload_n 0, 1) := by decide +kernel
theorem dX12_init_256 : decode cX12_init 256 = .ok (.bipush 9, 2) := by decide +kernel
theorem dX12_init_258 : decode cX12_init 258 = .ok (.newarray .boolean, 2) := by decide +kernel
theorem dX12_init_260 : decode cX12_init 260 = .ok (.putfield 105, 3) := by decide +kernel
theorem dX12_init_263 : decode cX12_init 263 = .ok (.aload_n 0, 1) := by decide +kernel
theorem dX12_init_264 : decode cX12_init 264 = .ok (.bipush 9, 2) := by decide +kernel
theorem dX12_init_266 : decode cX12_init 266 = .ok (.newarray .int, 2) := by decide +kernel
theorem dX12_init_268 : decode cX12_init 268 = .ok (.putfield 108, 3) := by decide +kernel
theorem dX12_init_271 : decode cX12_init 271 = .ok (.aload_n 0, 1) := by decide +kernel
theorem dX12_init_272 : decode cX12_init 272 = .ok (.bipush 16, 2) := by decide +kernel
theorem dX12_init_274 : decode cX12_init 274 = .ok (.newarray .int, 2) := by decide +kernel
theorem dX12_init_276 : decode cX12_init 276 = .ok (.putfield 111, 3) := by decide +kernel
theorem dX12_init_279 : decode cX12_init 279 = .ok (.aload_n 0, 1) := by decide +kernel
theorem dX12_init_280 : decode cX12_init 280 = .ok (.bipush 16, 2) := by decide +kernel
theorem dX12_init_282 : decode cX12_init 282 = .ok (.newarray .int, 2) := by decide +kernel
theorem dX12_init_284 : decode cX12_init 284 = .ok (.putfield 114, 3) := by decide +kernel
theorem dX12_init_287 : decode cX12_init 287 = .ok (.aload_n 0, 1) := by decide +kernel
theorem dX12_init_288 : decode cX12_init 288 = .ok (.bipush 16, 2) := by decide +kernel
theorem dX12_init_290 : decode cX12_init 290 = .ok (.newarray .int, 2) := by decide +kernel
theorem dX12_init_292 : decode cX12_init 292 = .ok (.putfield 117, 3) := by decide +kernel
theorem dX12_init_295 : decode cX12_init 295 = .ok (.aload_n 0, 1) := by decide +kernel
theorem dX12_init_296 : decode cX12_init 296 = .ok (.bipush 16, 2) := by decide +kernel
theorem dX12_init_298 : decode cX12_init 298 = .ok (.newarray .int, 2) := by decide +kernel
theorem dX12_init_300 : decode cX12_init 300 = .ok (.putfield 120, 3) := by decide +kernel
theorem dX12_init_303 : decode cX12_init 303 = .ok (.aload_n 0, 1) := by decide +kernel
theorem dX12_init_304 : decode cX12_init 304 = .ok (.sipush 240, 3) := by decide +kernel
theorem dX12_init_307 : decode cX12_init 307 = .ok (.newarray .int, 2) := by decide +kernel
theorem dX12_init_309 : decode cX12_init 309 = .ok (.putfield 123, 3) := by decide +kernel
theorem dX12_init_312 : decode cX12_init 312 = .ok (.aload_n 0, 1) := by decide +kernel
theorem dX12_init_313 : decode cX12_init 313 = .ok (.iconst 4, 1) := by decide +kernel
theorem dX12_init_314 : decode cX12_init 314 = .ok (.newarray .int, 2) := by decide +kernel
theorem dX12_init_316 : decode cX12_init 316 = .ok (.putfield 126, 3) := by decide +kernel
theorem dX12_init_319 : decode cX12_init 319 = .ok (.aload_n 0, 1) := by decide +kernel
theorem dX12_init_320 : decode cX12_init 320 = .ok (.iconst 3, 1) := by decide +kernel
theorem dX12_init_321 : decode cX12_init 321 = .ok (.newarray .int, 2) := by decide +kernel
theorem dX12_init_323 : decode cX12_init 323 = .ok (.putfield 129, 3) := by decide +kernel
theorem dX12_init_326 : decode cX12_init 326 = .ok (.iconst 0, 1) := by decide +kernel
theorem dX12_init_327 : decode cX12_init 327 = .ok (.istore_n 1, 1) := by decide +kernel
theorem dX12_init_328 : decode cX12_init 328 = .ok (.iload_n 1, 1) := by decide +kernel
theorem dX12_init_329 : decode cX12_init 329 = .ok (.iconst 4, 1) := by decide +kernel
theorem dX12_init_330 : decode cX12_init 330 = .ok (.if_icmp .ge 16, 3) := by decide +kernel
theorem dX12_init_333 : decode cX12_init 333 = .ok (.aload_n 0, 1) := by decide +kernel
theorem dX12_init_334 : decode cX12_init 334 = .ok (.getfield 44, 3) := by decide +kernel
theorem dX12_init_337 : decode cX12_init 337 = .ok (.iload_n 1, 1) := by decide +kernel
theorem dX12_init_338 : decode cX12_init 338 = .ok (.iconst (-1), 1) := by decide +kernel
theorem dX12_init_339 : decode cX12_init 339 = .ok (.iastore, 1) := by decide +kernel
theorem dX12_init_340 : decode cX12_init 340 = .ok (.iinc 1 1, 3) := by decide +kernel
theorem dX12_init_343 : decode cX12_init 343 = .ok (.goto (-15), 3) := by decide +kernel
theorem dX12_init_346 : decode cX12_init 346 = .ok (.return_, 1) := by decide +kernel
theorem dX12_in_0 : decode cX12_in 0 = .ok (.lload_n 0, 1) := by decide +kernel
theorem dX12_in_1 : decode cX12_in 1 = .ok (.lload_n 2, 1) := by decide +kernel
theorem dX12_in_2 : decode cX12_in 2 = .ok (.lcmp, 1) := by decide +kernel
theorem dX12_in_3 : decode cX12_in 3 = .ok (.ifCond .lt 14, 3) := by decide +kernel
theorem dX12_in_6 : decode cX12_in 6 = .ok (.lload_n 0, 1) := by decide +kernel
theorem dX12_in_7 : decode cX12_in 7 = .ok (.lload 4, 2) := by decide +kernel
theorem dX12_in_9 : decode cX12_in 9 = .ok (.lcmp, 1) := by decide +kernel
theorem dX12_in_10 : decode cX12_in 10 = .ok (.ifCond .gt 7, 3) := by decide +kernel
theorem dX12_in_13 : decode cX12_in 13 = .ok (.iconst 1, 1) := by decide +kernel
theorem dX12_in_14 : decode cX12_in 14 = .ok (.goto 4, 3) := by decide +kernel
theorem dX12_in_17 : decode cX12_in 17 = .ok (.iconst 0, 1) := by decide +kernel
theorem dX12_in_18 : decode cX12_in 18 = .ok (.ireturn, 1) := by decide +kernel
theorem dX12_method_0 : decode cX12_method 0 = .ok (.iload_n 1, 1) := by decide +kernel
theorem dX12_method_1 : decode cX12_method 1 = .ok (.i2l, 1) := by decide +kernel
theorem dX12_method_2 : decode cX12_method 2 = .ok (.lconst 0, 1) := by decide +kernel
theorem dX12_method_3 : decode cX12_method 3 = .ok (.ldc2_w 132, 3) := by decide +kernel
theorem dX12_method_6 : decode cX12_method 6 = .ok (.invokestatic 134, 3) := by decide +kernel
theorem dX12_method_9 : decode cX12_method 9 = .ok (.ifCond .eq 16, 3) := by decide +kernel
theorem dX12_method_12 : decode cX12_method 12 = .ok (.iload_n 2, 1) := by decide +kernel
theorem dX12_method_13 : decode cX12_method 13 = .ok (.i2l, 1) := by decide +kernel
theorem dX12_method_14 : decode cX12_method 14 = .ok (.iload_n 1, 1) := by decide +kernel
theorem dX12_method_15 : decode cX12_method 15 = .ok (.i2l, 1) := by decide +kernel
theorem dX12_method_16 : decode cX12_method 16 = .ok (.ldc2_w 138, 3) := by decide +kernel
theorem dX12_method_19 : decode cX12_method 19 = .ok (.invokestatic 134, 3) := by decide +kernel
theorem dX12_method_22 : decode cX12_method 22 = .ok (.ifCond .ne 6, 3) := by decide +kernel
theorem dX12_method_25 : decode cX12_method 25 = .ok (.bipush (-2), 2) := by decide +kernel
theorem dX12_method_27 : decode cX12_method 27 = .ok (.ireturn, 1) := by decide +kernel
theorem dX12_method_28 : decode cX12_method 28 = .ok (.aload_n 0, 1) := by decide +kernel
theorem dX12_method_29 : decode cX12_method 29 = .ok (.getfield 140, 3) := by decide +kernel
theorem dX12_method_32 : decode cX12_method 32 = .ok (.bipush 8, 2) := by decide +kernel
theorem dX12_method_34 : decode cX12_method 34 = .ok (.if_icmp .ne 6, 3) := by decide +kernel
theorem dX12_method_37 : decode cX12_method 37 = .ok (.bipush (-4), 2) := by decide +kernel
theorem dX12_method_39 : decode cX12_method 39 = .ok (.ireturn, 1) := by decide +kernel
theorem dX12_method_40 : decode cX12_method 40 = .ok (.aload_n 0, 1) := by decide +kernel
theorem dX12_method_41 : decode cX12_method 41 = .ok (.getfield 7, 3) := by decide +kernel
theorem dX12_method_44 : decode cX12_method 44 = .ok (.aload_n 0, 1) := by decide +kernel
theorem dX12_method_45 : decode cX12_method 45 = .ok (.getfield 140, 3) := by decide +kernel
theorem dX12_method_48 : decode cX12_method 48 = .ok (.iload_n 1, 1) := by decide +kernel
theorem dX12_method_49 : decode cX12_method 49 = .ok (.iastore, 1) := by decide +kernel
theorem dX12_method_50 : decode cX12_method 50 = .ok (.aload_n 0, 1) := by decide +kernel
theorem dX12_method_51 : decode cX12_method 51 = .ok (.getfield 13, 3) := by decide +kernel
theorem dX12_method_54 : decode cX12_method 54 = .ok (.aload_n 0, 1) := by decide +kernel
theorem dX12_method_55 : decode cX12_method 55 = .ok (.getfield 140, 3) := by decide +kernel
theorem dX12_method_58 : decode cX12_method 58 = .ok (.iload_n 2, 1) := by decide +kernel
theorem dX12_method_59 : decode cX12_method 59 = .ok (.iastore, 1) := by decide +kernel
theorem dX12_method_60 : decode cX12_method 60 = .ok (.aload_n 0, 1) := by decide +kernel
theorem dX12_method_61 : decode cX12_method 61 = .ok (.dup, 1) := by decide +kernel
theorem dX12_method_62 : decode cX12_method 62 = .ok (.getfield 140, 3) := by decide +kernel
theorem dX12_method_65 : decode cX12_method 65 = .ok (.iconst 1, 1) := by decide +kernel
theorem dX12_method_66 : decode cX12_method 66 = .ok (.iadd, 1) := by decide +kernel
theorem dX12_method_67 : decode cX12_method 67 = .ok (.putfield 140, 3) := by decide +kernel
theorem dX12_method_70 : decode cX12_method 70 = .ok (.aload_n 0, 1) := by decide +kernel
theorem dX12_method_71 : decode cX12_method 71 = .ok (.getfield 140, 3) := by decide +kernel
theorem dX12_method_74 : decode cX12_method 74 = .ok (.iconst 1, 1) := by decide +kernel
theorem dX12_method_75 : decode cX12_method 75 = .ok (.isub, 1) := by decide +kernel
theorem dX12_method_76 : decode cX12_method 76 = .ok (.ireturn, 1) := by decide +kernel
theorem dX12_isMethod_0 : decode cX12_isMethod 0 = .ok (.iload_n 1, 1) := by decide +kernel
theorem dX12_isMethod_1 : decode cX12_isMethod 1 = .ok (.i2l, 1) := by decide +kernel
theorem dX12_isMethod_2 : decode cX12_isMethod 2 = .ok (.lconst 0, 1) := by decide +kernel
theorem dX12_isMethod_3 : decode cX12_isMethod 3 = .ok (.aload_n 0, 1) := by decide +kernel
theorem dX12_isMethod_4 : decode cX12_isMethod 4 = .ok (.getfield 140, 3) := by decide +kernel
theorem dX12_isMethod_7 : decode cX12_isMethod 7 = .ok (.iconst 1, 1) := by decide +kernel
theorem dX12_isMethod_8 : decode cX12_isMethod 8 = .ok (.isub, 1) := by decide +kernel
theorem dX12_isMethod_9 : decode cX12_isMethod 9 = .ok (.i2l, 1) := by decide +kernel
theorem dX12_isMethod_10 : decode cX12_isMethod 10 = .ok (.invokestatic 134, 3) := by decide +kernel
theorem dX12_isMethod_13 : decode cX12_isMethod 13 = .ok (.ireturn, 1) := by decide +kernel
theorem dX12_write_0 : decode cX12_write 0 = .ok (.aload_n 0, 1) := by decide +kernel
theorem dX12_write_1 : decode cX12_write 1 = .ok (.iload_n 1, 1) := by decide +kernel
theorem dX12_write_2 : decode cX12_write 2 = .ok (.invokevirtual 144, 3) := by decide +kernel
theorem dX12_write_5 : decode cX12_write 5 = .ok (.ifCond .eq 15, 3) := by decide +kernel
theorem dX12_write_8 : decode cX12_write 8 = .ok (.iload_n 2, 1) := by decide +kernel
theorem dX12_write_9 : decode cX12_write 9 = .ok (.i2l, 1) := by decide +kernel
theorem dX12_write_10 : decode cX12_write 10 = .ok (.lconst 0, 1) := by decide +kernel
theorem dX12_write_11 : decode cX12_write 11 = .ok (.ldc2_w 148, 3) := by decide +kernel
theorem dX12_write_14 : decode cX12_write 14 = .ok (.invokestatic 134, 3) := by decide +kernel
theorem dX12_write_17 : decode cX12_write 17 = .ok (.ifCond .ne 6, 3) := by decide +kernel
theorem dX12_write_20 : decode cX12_write 20 = .ok (.bipush (-2), 2) := by decide +kernel
theorem dX12_write_22 : decode cX12_write 22 = .ok (.ireturn, 1) := by decide +kernel
theorem dX12_write_23 : decode cX12_write 23 = .ok (.aload_n 0, 1) := by decide +kernel
theorem dX12_write_24 : decode cX12_write 24 = .ok (.getfield 25, 3) := by decide +kernel
theorem dX12_write_27 : decode cX12_write 27 = .ok (.iload_n 1, 1) := by decide +kernel
theorem dX12_write_28 : decode cX12_write 28 = .ok (.baload, 1) := by decide +kernel
theorem dX12_write_29 : decode cX12_write 29 = .ok (.ifCond .eq 6, 3) := by decide +kernel
theorem dX12_write_32 : decode cX12_write 32 = .ok (.bipush (-3), 2) := by decide +kernel
theorem dX12_write_34 : decode cX12_write 34 = .ok (.ireturn, 1) := by decide +kernel
theorem dX12_write_35 : decode cX12_write 35 = .ok (.aload_n 0, 1) := by decide +kernel
theorem dX12_write_36 : decode cX12_write 36 = .ok (.getfield 16, 3) := by decide +kernel
theorem dX12_write_39 : decode cX12_write 39 = .ok (.iload_n 1, 1) := by decide +kernel
theorem dX12_write_40 : decode cX12_write 40 = .ok (.iaload, 1) := by decide +kernel
theorem dX12_write_41 : decode cX12_write 41 = .ok (.bipush 60, 2) := by decide +kernel
theorem dX12_write_43 : decode cX12_write 43 = .ok (.if_icmp .ne 6, 3) := by decide +kernel
theorem dX12_write_46 : decode cX12_write 46 = .ok (.bipush (-4), 2) := by decide +kernel
theorem dX12_write_48 : decode cX12_write 48 = .ok (.ireturn, 1) := by decide +kernel
theorem dX12_write_49 : decode cX12_write 49 = .ok (.aload_n 0, 1) := by decide +kernel
theorem dX12_write_50 : decode cX12_write 50 = .ok (.getfield 19, 3) := by decide +kernel
theorem dX12_write_53 : decode cX12_write 53 = .ok (.bipush 60, 2) := by decide +kernel
theorem dX12_write_55 : decode cX12_write 55 = .ok (.iload_n 1, 1) := by decide +kernel
theorem dX12_write_56 : decode cX12_write 56 = .ok (.imul, 1) := by decide +kernel
theorem dX12_write_57 : decode cX12_write 57 = .ok (.aload_n 0, 1) := by decide +kernel
theorem dX12_write_58 : decode cX12_write 58 = .ok (.getfield 16, 3) := by decide +kernel
theorem dX12_write_61 : decode cX12_write 61 = .ok (.iload_n 1, 1) := by decide +kernel
theorem dX12_write_62 : decode cX12_write 62 = .ok (.iaload, 1) := by decide +kernel
theorem dX12_write_63 : decode cX12_write 63 = .ok (.iadd, 1) := by decide +kernel
theorem dX12_write_64 : decode cX12_write 64 = .ok (.iload_n 2, 1) := by decide +kernel
theorem dX12_write_65 : decode cX12_write 65 = .ok (.iastore, 1) := by decide +kernel
theorem dX12_write_66 : decode cX12_write 66 = .ok (.aload_n 0, 1) := by decide +kernel
theorem dX12_write_67 : decode cX12_write 67 = .ok (.getfield 22, 3) := by decide +kernel
theorem dX12_write_70 : decode cX12_write 70 = .ok (.bipush 60, 2) := by decide +kernel
theorem dX12_write_72 : decode cX12_write 72 = .ok (.iload_n 1, 1) := by decide +kernel
theorem dX12_write_73 : decode cX12_write 73 = .ok (.imul, 1) := by decide +kernel
theorem dX12_write_74 : decode cX12_write 74 = .ok (.aload_n 0, 1) := by decide +kernel
theorem dX12_write_75 : decode cX12_write 75 = .ok (.getfield 16, 3) := by decide +kernel
theorem dX12_write_78 : decode cX12_write 78 = .ok (.iload_n 1, 1) := by decide +kernel
theorem dX12_write_79 : decode cX12_write 79 = .ok (.iaload, 1) := by decide +kernel
theorem dX12_write_80 : decode cX12_write 80 = .ok (.iadd, 1) := by decide +kernel
theorem dX12_write_81 : decode cX12_write 81 = .ok (.iload_n 3, 1) := by decide +kernel
theorem dX12_write_82 : decode cX12_write 82 = .ok (.iastore, 1) := by decide +kernel
theorem dX12_write_83 : decode cX12_write 83 = .ok (.aload_n 0, 1) := by decide +kernel
theorem dX12_write_84 : decode cX12_write 84 = .ok (.getfield 16, 3) := by decide +kernel
theorem dX12_write_87 : decode cX12_write 87 = .ok (.iload_n 1, 1) := by decide +kernel
theorem dX12_write_88 : decode cX12_write 88 = .ok (.dup2, 1) := by decide +kernel
theorem dX12_write_89 : decode cX12_write 89 = .ok (.iaload, 1) := by decide +kernel
theorem dX12_write_90 : decode cX12_write 90 = .ok (.iconst 1, 1) := by decide +kernel
theorem dX12_write_91 : decode cX12_write 91 = .ok (.iadd, 1) := by decide +kernel
theorem dX12_write_92 : decode cX12_write 92 = .ok (.iastore, 1) := by decide +kernel
theorem dX12_write_93 : decode cX12_write 93 = .ok (.aload_n 0, 1) := by decide +kernel
theorem dX12_write_94 : decode cX12_write 94 = .ok (.getfield 16, 3) := by decide +kernel
theorem dX12_write_97 : decode cX12_write 97 = .ok (.iload_n 1, 1) := by decide +kernel
theorem dX12_write_98 : decode cX12_write 98 = .ok (.iaload, 1) := by decide +kernel
theorem dX12_write_99 : decode cX12_write 99 = .ok (.iconst 1, 1) := by decide +kernel
theorem dX12_write_100 : decode cX12_write 100 = .ok (.isub, 1) := by decide +kernel
theorem dX12_write_101 : decode cX12_write 101 = .ok (.ireturn, 1) := by decide +kernel
theorem dX12_look_0 : decode cX12_look 0 = .ok (.aload_n 0, 1) := by decide +kernel
theorem dX12_look_1 : decode cX12_look 1 = .ok (.iload_n 1, 1) := by decide +kernel
theorem dX12_look_2 : decode cX12_look 2 = .ok (.invokevirtual 144, 3) := by decide +kernel
theorem dX12_look_5 : decode cX12_look 5 = .ok (.ifCond .ne 6, 3) := by decide +kernel
theorem dX12_look_8 : decode cX12_look 8 = .ok (.bipush (-2), 2) := by decide +kernel
theorem dX12_look_10 : decode cX12_look 10 = .ok (.ireturn, 1) := by decide +kernel
theorem dX12_look_11 : decode cX12_look 11 = .ok (.aload_n 0, 1) := by decide +kernel
theorem dX12_look_12 : decode cX12_look 12 = .ok (.getfield 25, 3) := by decide +kernel
theorem dX12_look_15 : decode cX12_look 15 = .ok (.iload_n 1, 1) := by decide +kernel
theorem dX12_look_16 : decode cX12_look 16 = .ok (.baload, 1) := by decide +kernel
theorem dX12_look_17 : decode cX12_look 17 = .ok (.ifCond .eq 6, 3) := by decide +kernel
theorem dX12_look_20 : decode cX12_look 20 = .ok (.bipush (-3), 2) := by decide +kernel
theorem dX12_look_22 : decode cX12_look 22 = .ok (.ireturn, 1) := by decide +kernel
theorem dX12_look_23 : decode cX12_look 23 = .ok (.aload_n 0, 1) := by decide +kernel
theorem dX12_look_24 : decode cX12_look 24 = .ok (.iconst 0, 1) := by decide +kernel
theorem dX12_look_25 : decode cX12_look 25 = .ok (.putfield 168, 3) := by decide +kernel
theorem dX12_look_28 : decode cX12_look 28 = .ok (.iconst 0, 1) := by decide +kernel
theorem dX12_look_29 : decode cX12_look 29 = .ok (.istore_n 2, 1) := by decide +kernel
theorem dX12_look_30 : decode cX12_look 30 = .ok (.iload_n 2, 1) := by decide +kernel
theorem dX12_look_31 : decode cX12_look 31 = .ok (.bipush 60, 2) := by decide +kernel
theorem dX12_look_33 : decode cX12_look 33 = .ok (.if_icmp .ge 28, 3) := by decide +kernel
theorem dX12_look_36 : decode cX12_look 36 = .ok (.aload_n 0, 1) := by decide +kernel
theorem dX12_look_37 : decode cX12_look 37 = .ok (.getfield 35, 3) := by decide +kernel
theorem dX12_look_40 : decode cX12_look 40 = .ok (.iload_n 2, 1) := by decide +kernel
theorem dX12_look_41 : decode cX12_look 41 = .ok (.iconst 0, 1) := by decide +kernel
theorem dX12_look_42 : decode cX12_look 42 = .ok (.bastore, 1) := by decide +kernel
theorem dX12_look_43 : decode cX12_look 43 = .ok (.aload_n 0, 1) := by decide +kernel
theorem dX12_look_44 : decode cX12_look 44 = .ok (.getfield 29, 3) := by decide +kernel
theorem dX12_look_47 : decode cX12_look 47 = .ok (.bipush 60, 2) := by decide +kernel
theorem dX12_look_49 : decode cX12_look 49 = .ok (.iload_n 1, 1) := by decide +kernel
theorem dX12_look_50 : decode cX12_look 50 = .ok (.imul, 1) := by decide +kernel
theorem dX12_look_51 : decode cX12_look 51 = .ok (.iload_n 2, 1) := by decide +kernel
theorem dX12_look_52 : decode cX12_look 52 = .ok (.iadd, 1) := by decide +kernel
theorem dX12_look_53 : decode cX12_look 53 = .ok (.iconst (-1), 1) := by decide +kernel
theorem dX12_look_54 : decode cX12_look 54 = .ok (.iastore, 1) := by decide +kernel
theorem dX12_look_55 : decode cX12_look 55 = .ok (.iinc 2 1, 3) := by decide +kernel
theorem dX12_look_58 : decode cX12_look 58 = .ok (.goto (-28), 3) := by decide +kernel
theorem dX12_look_61 : decode cX12_look 61 = .ok (.aload_n 0, 1) := by decide +kernel
theorem dX12_look_62 : decode cX12_look 62 = .ok (.getfield 16, 3) := by decide +kernel
theorem dX12_look_65 : decode cX12_look 65 = .ok (.iload_n 1, 1) := by decide +kernel
theorem dX12_look_66 : decode cX12_look 66 = .ok (.iaload, 1) := by decide +kernel
theorem dX12_look_67 : decode cX12_look 67 = .ok (.ifCond .ne 11, 3) := by decide +kernel
theorem dX12_look_70 : decode cX12_look 70 = .ok (.aload_n 0, 1) := by decide +kernel
theorem dX12_look_71 : decode cX12_look 71 = .ok (.iconst 5, 1) := by decide +kernel
theorem dX12_look_72 : decode cX12_look 72 = .ok (.putfield 168, 3) := by decide +kernel
theorem dX12_look_75 : decode cX12_look 75 = .ok (.bipush (-100), 2) := by decide +kernel
theorem dX12_look_77 : decode cX12_look 77 = .ok (.ireturn, 1) := by decide +kernel
theorem dX12_look_78 : decode cX12_look 78 = .ok (.aload_n 0, 1) := by decide +kernel
theorem dX12_look_79 : decode cX12_look 79 = .ok (.iload_n 1, 1) := by decide +kernel
theorem dX12_look_80 : decode cX12_look 80 = .ok (.iconst 0, 1) := by decide +kernel
theorem dX12_look_81 : decode cX12_look 81 = .ok (.iconst 0, 1) := by decide +kernel
theorem dX12_look_82 : decode cX12_look 82 = .ok (.invokevirtual 164, 3) := by decide +kernel
theorem dX12_look_85 : decode cX12_look 85 = .ok (.istore_n 2, 1) := by decide +kernel
theorem dX12_look_86 : decode cX12_look 86 = .ok (.iconst 0, 1) := by decide +kernel
theorem dX12_look_87 : decode cX12_look 87 = .ok (.istore_n 3, 1) := by decide +kernel
theorem dX12_look_88 : decode cX12_look 88 = .ok (.iconst 0, 1) := by decide +kernel
theorem dX12_look_89 : decode cX12_look 89 = .ok (.istore 4, 2) := by decide +kernel
theorem dX12_look_91 : decode cX12_look 91 = .ok (.iload 4, 2) := by decide +kernel
theorem dX12_look_93 : decode cX12_look 93 = .ok (.ifCond .lt 78, 3) := by decide +kernel
theorem dX12_look_96 : decode cX12_look 96 = .ok (.aload_n 0, 1) := by decide +kernel
theorem dX12_look_97 : decode cX12_look 97 = .ok (.getfield 35, 3) := by decide +kernel
theorem dX12_look_100 : decode cX12_look 100 = .ok (.iload 4, 2) := by decide +kernel
theorem dX12_look_102 : decode cX12_look 102 = .ok (.iconst 0, 1) := by decide +kernel
theorem dX12_look_103 : decode cX12_look 103 = .ok (.bastore, 1) := by decide +kernel
theorem dX12_look_104 : decode cX12_look 104 = .ok (.aload_n 0, 1) := by decide +kernel
theorem dX12_look_105 : decode cX12_look 105 = .ok (.getfield 29, 3) := by decide +kernel
theorem dX12_look_108 : decode cX12_look 108 = .ok (.bipush 60, 2) := by decide +kernel
theorem dX12_look_110 : decode cX12_look 110 = .ok (.iload_n 1, 1) := by decide +kernel
theorem dX12_look_111 : decode cX12_look 111 = .ok (.imul, 1) := by decide +kernel
theorem dX12_look_112 : decode cX12_look 112 = .ok (.iload 4, 2) := by decide +kernel
theorem dX12_look_114 : decode cX12_look 114 = .ok (.iadd, 1) := by decide +kernel
theorem dX12_look_115 : decode cX12_look 115 = .ok (.iaload, 1) := by decide +kernel
theorem dX12_look_116 : decode cX12_look 116 = .ok (.iload_n 3, 1) := by decide +kernel
theorem dX12_look_117 : decode cX12_look 117 = .ok (.if_icmp .le 18, 3) := by decide +kernel
theorem dX12_look_120 : decode cX12_look 120 = .ok (.aload_n 0, 1) := by decide +kernel
theorem dX12_look_121 : decode cX12_look 121 = .ok (.getfield 29, 3) := by decide +kernel
theorem dX12_look_124 : decode cX12_look 124 = .ok (.bipush 60, 2) := by decide +kernel
theorem dX12_look_126 : decode cX12_look 126 = .ok (.iload_n 1, 1) := by decide +kernel
theorem dX12_look_127 : decode cX12_look 127 = .ok (.imul, 1) := by decide +kernel
theorem dX12_look_128 : decode cX12_look 128 = .ok (.iload 4, 2) := by decide +kernel
theorem dX12_look_130 : decode cX12_look 130 = .ok (.iadd, 1) := by decide +kernel
theorem dX12_look_131 : decode cX12_look 131 = .ok (.iaload, 1) := by decide +kernel
theorem dX12_look_132 : decode cX12_look 132 = .ok (.goto 4, 3) := by decide +kernel
theorem dX12_look_135 : decode cX12_look 135 = .ok (.iload_n 3, 1) := by decide +kernel
theorem dX12_look_136 : decode cX12_look 136 = .ok (.istore_n 3, 1) := by decide +kernel
theorem dX12_look_137 : decode cX12_look 137 = .ok (.aload_n 0, 1) := by decide +kernel
theorem dX12_look_138 : decode cX12_look 138 = .ok (.aload_n 0, 1) := by decide +kernel
theorem dX12_look_139 : decode cX12_look 139 = .ok (.iload_n 1, 1) := by decide +kernel
theorem dX12_look_140 : decode cX12_look 140 = .ok (.iload 4, 2) := by decide +kernel
theorem dX12_look_142 : decode cX12_look 142 = .ok (.invokevirtual 171, 3) := by decide +kernel
theorem dX12_look_145 : decode cX12_look 145 = .ok (.putfield 168, 3) := by decide +kernel
theorem dX12_look_148 : decode cX12_look 148 = .ok (.aload_n 0, 1) := by decide +kernel
theorem dX12_look_149 : decode cX12_look 149 = .ok (.getfield 168, 3) := by decide +kernel
theorem dX12_look_152 : decode cX12_look 152 = .ok (.ifCond .eq 9, 3) := by decide +kernel
theorem dX12_look_155 : decode cX12_look 155 = .ok (.bipush (-100), 2) := by decide +kernel
theorem dX12_look_157 : decode cX12_look 157 = .ok (.iload 4, 2) := by decide +kernel
theorem dX12_look_159 : decode cX12_look 159 = .ok (.isub, 1) := by decide +kernel
theorem dX12_look_160 : decode cX12_look 160 = .ok (.ireturn, 1) := by decide +kernel
theorem dX12_look_161 : decode cX12_look 161 = .ok (.aload_n 0, 1) := by decide +kernel
theorem dX12_look_162 : decode cX12_look 162 = .ok (.iload_n 1, 1) := by decide +kernel
theorem dX12_look_163 : decode cX12_look 163 = .ok (.invokevirtual 174, 3) := by decide +kernel
theorem dX12_look_166 : decode cX12_look 166 = .ok (.istore 4, 2) := by decide +kernel
theorem dX12_look_168 : decode cX12_look 168 = .ok (.goto (-77), 3) := by decide +kernel
theorem dX12_look_171 : decode cX12_look 171 = .ok (.aload_n 0, 1) := by decide +kernel
theorem dX12_look_172 : decode cX12_look 172 = .ok (.getfield 25, 3) := by decide +kernel
theorem dX12_look_175 : decode cX12_look 175 = .ok (.iload_n 1, 1) := by decide +kernel
theorem dX12_look_176 : decode cX12_look 176 = .ok (.iconst 1, 1) := by decide +kernel
theorem dX12_look_177 : decode cX12_look 177 = .ok (.bastore, 1) := by decide +kernel
theorem dX12_look_178 : decode cX12_look 178 = .ok (.aload_n 0, 1) := by decide +kernel
theorem dX12_look_179 : decode cX12_look 179 = .ok (.getfield 32, 3) := by decide +kernel
theorem dX12_look_182 : decode cX12_look 182 = .ok (.iload_n 1, 1) := by decide +kernel
theorem dX12_look_183 : decode cX12_look 183 = .ok (.iload_n 3, 1) := by decide +kernel
theorem dX12_look_184 : decode cX12_look 184 = .ok (.iastore, 1) := by decide +kernel
theorem dX12_look_185 : decode cX12_look 185 = .ok (.iload_n 3, 1) := by decide +kernel
theorem dX12_look_186 : decode cX12_look 186 = .ok (.ireturn, 1) := by decide +kernel
theorem dX12_fault_0 : decode cX12_fault 0 = .ok (.aload_n 0, 1) := by decide +kernel
theorem dX12_fault_1 : decode cX12_fault 1 = .ok (.getfield 168, 3) := by decide +kernel
theorem dX12_fault_4 : decode cX12_fault 4 = .ok (.ireturn, 1) := by decide +kernel
theorem dX12_keep_0 : decode cX12_keep 0 = .ok (.iload_n 1, 1) := by decide +kernel
theorem dX12_keep_1 : decode cX12_keep 1 = .ok (.i2l, 1) := by decide +kernel
theorem dX12_keep_2 : decode cX12_keep 2 = .ok (.lconst 0, 1) := by decide +kernel
theorem dX12_keep_3 : decode cX12_keep 3 = .ok (.ldc2_w 150, 3) := by decide +kernel
theorem dX12_keep_6 : decode cX12_keep 6 = .ok (.invokestatic 134, 3) := by decide +kernel
theorem dX12_keep_9 : decode cX12_keep 9 = .ok (.ifCond .ne 6, 3) := by decide +kernel
theorem dX12_keep_12 : decode cX12_keep 12 = .ok (.ldc 177, 2) := by decide +kernel
theorem dX12_keep_14 : decode cX12_keep 14 = .ok (.ireturn, 1) := by decide +kernel
theorem dX12_keep_15 : decode cX12_keep 15 = .ok (.aload_n 0, 1) := by decide +kernel
theorem dX12_keep_16 : decode cX12_keep 16 = .ok (.getfield 41, 3) := by decide +kernel
theorem dX12_keep_19 : decode cX12_keep 19 = .ok (.iload_n 1, 1) := by decide +kernel
theorem dX12_keep_20 : decode cX12_keep 20 = .ok (.iaload, 1) := by decide +kernel
theorem dX12_keep_21 : decode cX12_keep 21 = .ok (.istore_n 3, 1) := by decide +kernel
theorem dX12_keep_22 : decode cX12_keep 22 = .ok (.aload_n 0, 1) := by decide +kernel
theorem dX12_keep_23 : decode cX12_keep 23 = .ok (.getfield 41, 3) := by decide +kernel
theorem dX12_keep_26 : decode cX12_keep 26 = .ok (.iload_n 1, 1) := by decide +kernel
theorem dX12_keep_27 : decode cX12_keep 27 = .ok (.iload_n 2, 1) := by decide +kernel
theorem dX12_keep_28 : decode cX12_keep 28 = .ok (.iastore, 1) := by decide +kernel
theorem dX12_keep_29 : decode cX12_keep 29 = .ok (.iload_n 3, 1) := by decide +kernel
theorem dX12_keep_30 : decode cX12_keep 30 = .ok (.ireturn, 1) := by decide +kernel
theorem dX12_field_0 : decode cX12_field 0 = .ok (.iload_n 1, 1) := by decide +kernel
theorem dX12_field_1 : decode cX12_field 1 = .ok (.i2l, 1) := by decide +kernel
theorem dX12_field_2 : decode cX12_field 2 = .ok (.lconst 0, 1) := by decide +kernel
theorem dX12_field_3 : decode cX12_field 3 = .ok (.ldc2_w 150, 3) := by decide +kernel
theorem dX12_field_6 : decode cX12_field 6 = .ok (.invokestatic 134, 3) := by decide +kernel
theorem dX12_field_9 : decode cX12_field 9 = .ok (.ifCond .eq 12, 3) := by decide +kernel
theorem dX12_field_12 : decode cX12_field 12 = .ok (.aload_n 0, 1) := by decide +kernel
theorem dX12_field_13 : decode cX12_field 13 = .ok (.getfield 41, 3) := by decide +kernel
theorem dX12_field_16 : decode cX12_field 16 = .ok (.iload_n 1, 1) := by decide +kernel
theorem dX12_field_17 : decode cX12_field 17 = .ok (.iaload, 1) := by decide +kernel
theorem dX12_field_18 : decode cX12_field 18 = .ok (.goto 5, 3) := by decide +kernel
theorem dX12_field_21 : decode cX12_field 21 = .ok (.ldc 177, 2) := by decide +kernel
theorem dX12_field_23 : decode cX12_field 23 = .ok (.ireturn, 1) := by decide +kernel
theorem dX12_lose_0 : decode cX12_lose 0 = .ok (.iload_n 1, 1) := by decide +kernel
theorem dX12_lose_1 : decode cX12_lose 1 = .ok (.i2l, 1) := by decide +kernel
theorem dX12_lose_2 : decode cX12_lose 2 = .ok (.lconst 0, 1) := by decide +kernel
theorem dX12_lose_3 : decode cX12_lose 3 = .ok (.ldc2_w 132, 3) := by decide +kernel
theorem dX12_lose_6 : decode cX12_lose 6 = .ok (.invokestatic 134, 3) := by decide +kernel
theorem dX12_lose_9 : decode cX12_lose 9 = .ok (.ifCond .ne 6, 3) := by decide +kernel
theorem dX12_lose_12 : decode cX12_lose 12 = .ok (.bipush (-2), 2) := by decide +kernel
theorem dX12_lose_14 : decode cX12_lose 14 = .ok (.ireturn, 1) := by decide +kernel
theorem dX12_lose_15 : decode cX12_lose 15 = .ok (.aload_n 0, 1) := by decide +kernel
theorem dX12_lose_16 : decode cX12_lose 16 = .ok (.getfield 44, 3) := by decide +kernel
theorem dX12_lose_19 : decode cX12_lose 19 = .ok (.iload_n 1, 1) := by decide +kernel
theorem dX12_lose_20 : decode cX12_lose 20 = .ok (.iaload, 1) := by decide +kernel
theorem dX12_lose_21 : decode cX12_lose 21 = .ok (.istore_n 2, 1) := by decide +kernel
theorem dX12_lose_22 : decode cX12_lose 22 = .ok (.aload_n 0, 1) := by decide +kernel
theorem dX12_lose_23 : decode cX12_lose 23 = .ok (.getfield 44, 3) := by decide +kernel
theorem dX12_lose_26 : decode cX12_lose 26 = .ok (.iload_n 1, 1) := by decide +kernel
theorem dX12_lose_27 : decode cX12_lose 27 = .ok (.iconst (-1), 1) := by decide +kernel
theorem dX12_lose_28 : decode cX12_lose 28 = .ok (.iastore, 1) := by decide +kernel
theorem dX12_lose_29 : decode cX12_lose 29 = .ok (.iload_n 2, 1) := by decide +kernel
theorem dX12_lose_30 : decode cX12_lose 30 = .ok (.ireturn, 1) := by decide +kernel
theorem dX12_size_0 : decode cX12_size 0 = .ok (.iload_n 1, 1) := by decide +kernel
theorem dX12_size_1 : decode cX12_size 1 = .ok (.i2l, 1) := by decide +kernel
theorem dX12_size_2 : decode cX12_size 2 = .ok (.lconst 0, 1) := by decide +kernel
theorem dX12_size_3 : decode cX12_size 3 = .ok (.ldc2_w 132, 3) := by decide +kernel
theorem dX12_size_6 : decode cX12_size 6 = .ok (.invokestatic 134, 3) := by decide +kernel
theorem dX12_size_9 : decode cX12_size 9 = .ok (.ifCond .eq 12, 3) := by decide +kernel
theorem dX12_size_12 : decode cX12_size 12 = .ok (.aload_n 0, 1) := by decide +kernel
theorem dX12_size_13 : decode cX12_size 13 = .ok (.getfield 44, 3) := by decide +kernel
theorem dX12_size_16 : decode cX12_size 16 = .ok (.iload_n 1, 1) := by decide +kernel
theorem dX12_size_17 : decode cX12_size 17 = .ok (.iaload, 1) := by decide +kernel
theorem dX12_size_18 : decode cX12_size 18 = .ok (.goto 5, 3) := by decide +kernel
theorem dX12_size_21 : decode cX12_size 21 = .ok (.bipush (-2), 2) := by decide +kernel
theorem dX12_size_23 : decode cX12_size 23 = .ok (.ireturn, 1) := by decide +kernel
theorem dX12_item_0 : decode cX12_item 0 = .ok (.iload_n 1, 1) := by decide +kernel
theorem dX12_item_1 : decode cX12_item 1 = .ok (.i2l, 1) := by decide +kernel
theorem dX12_item_2 : decode cX12_item 2 = .ok (.lconst 0, 1) := by decide +kernel
theorem dX12_item_3 : decode cX12_item 3 = .ok (.ldc2_w 132, 3) := by decide +kernel
theorem dX12_item_6 : decode cX12_item 6 = .ok (.invokestatic 134, 3) := by decide +kernel
theorem dX12_item_9 : decode cX12_item 9 = .ok (.ifCond .eq 35, 3) := by decide +kernel
theorem dX12_item_12 : decode cX12_item 12 = .ok (.iload_n 2, 1) := by decide +kernel
theorem dX12_item_13 : decode cX12_item 13 = .ok (.i2l, 1) := by decide +kernel
theorem dX12_item_14 : decode cX12_item 14 = .ok (.lconst 0, 1) := by decide +kernel
theorem dX12_item_15 : decode cX12_item 15 = .ok (.aload_n 0, 1) := by decide +kernel
theorem dX12_item_16 : decode cX12_item 16 = .ok (.getfield 44, 3) := by decide +kernel
theorem dX12_item_19 : decode cX12_item 19 = .ok (.iload_n 1, 1) := by decide +kernel
theorem dX12_item_20 : decode cX12_item 20 = .ok (.iaload, 1) := by decide +kernel
theorem dX12_item_21 : decode cX12_item 21 = .ok (.iconst 1, 1) := by decide +kernel
theorem dX12_item_22 : decode cX12_item 22 = .ok (.isub, 1) := by decide +kernel
theorem dX12_item_23 : decode cX12_item 23 = .ok (.i2l, 1) := by decide +kernel
theorem dX12_item_24 : decode cX12_item 24 = .ok (.invokestatic 134, 3) := by decide +kernel
theorem dX12_item_27 : decode cX12_item 27 = .ok (.ifCond .eq 17, 3) := by decide +kernel
theorem dX12_item_30 : decode cX12_item 30 = .ok (.aload_n 0, 1) := by decide +kernel
theorem dX12_item_31 : decode cX12_item 31 = .ok (.getfield 47, 3) := by decide +kernel
theorem dX12_item_34 : decode cX12_item 34 = .ok (.bipush 20, 2) := by decide +kernel
theorem dX12_item_36 : decode cX12_item 36 = .ok (.iload_n 1, 1) := by decide +kernel
theorem dX12_item_37 : decode cX12_item 37 = .ok (.imul, 1) := by decide +kernel
theorem dX12_item_38 : decode cX12_item 38 = .ok (.iload_n 2, 1) := by decide +kernel
theorem dX12_item_39 : decode cX12_item 39 = .ok (.iadd, 1) := by decide +kernel
theorem dX12_item_40 : decode cX12_item 40 = .ok (.iaload, 1) := by decide +kernel
theorem dX12_item_41 : decode cX12_item 41 = .ok (.goto 4, 3) := by decide +kernel
theorem dX12_item_44 : decode cX12_item 44 = .ok (.iconst 0, 1) := by decide +kernel
theorem dX12_item_45 : decode cX12_item 45 = .ok (.ireturn, 1) := by decide +kernel
theorem dX12_part_0 : decode cX12_part 0 = .ok (.sipush 640, 3) := by decide +kernel
theorem dX12_part_3 : decode cX12_part 3 = .ok (.aload_n 0, 1) := by decide +kernel
theorem dX12_part_4 : decode cX12_part 4 = .ok (.getfield 181, 3) := by decide +kernel
theorem dX12_part_7 : decode cX12_part 7 = .ok (.imul, 1) := by decide +kernel
theorem dX12_part_8 : decode cX12_part 8 = .ok (.aload_n 0, 1) := by decide +kernel
theorem dX12_part_9 : decode cX12_part 9 = .ok (.getfield 74, 3) := by decide +kernel
theorem dX12_part_12 : decode cX12_part 12 = .ok (.aload_n 0, 1) := by decide +kernel
theorem dX12_part_13 : decode cX12_part 13 = .ok (.getfield 181, 3) := by decide +kernel
theorem dX12_part_16 : decode cX12_part 16 = .ok (.iaload, 1) := by decide +kernel
theorem dX12_part_17 : decode cX12_part 17 = .ok (.iadd, 1) := by decide +kernel
theorem dX12_part_18 : decode cX12_part 18 = .ok (.istore 5, 2) := by decide +kernel
theorem dX12_part_20 : decode cX12_part 20 = .ok (.aload_n 0, 1) := by decide +kernel
theorem dX12_part_21 : decode cX12_part 21 = .ok (.getfield 81, 3) := by decide +kernel
theorem dX12_part_24 : decode cX12_part 24 = .ok (.iload 5, 2) := by decide +kernel
theorem dX12_part_26 : decode cX12_part 26 = .ok (.iload_n 1, 1) := by decide +kernel
theorem dX12_part_27 : decode cX12_part 27 = .ok (.iastore, 1) := by decide +kernel
theorem dX12_part_28 : decode cX12_part 28 = .ok (.aload_n 0, 1) := by decide +kernel
theorem dX12_part_29 : decode cX12_part 29 = .ok (.getfield 84, 3) := by decide +kernel
theorem dX12_part_32 : decode cX12_part 32 = .ok (.iload 5, 2) := by decide +kernel
theorem dX12_part_34 : decode cX12_part 34 = .ok (.iload_n 2, 1) := by decide +kernel
theorem dX12_part_35 : decode cX12_part 35 = .ok (.iastore, 1) := by decide +kernel
theorem dX12_part_36 : decode cX12_part 36 = .ok (.aload_n 0, 1) := by decide +kernel
theorem dX12_part_37 : decode cX12_part 37 = .ok (.getfield 87, 3) := by decide +kernel
theorem dX12_part_40 : decode cX12_part 40 = .ok (.iload 5, 2) := by decide +kernel
theorem dX12_part_42 : decode cX12_part 42 = .ok (.iload_n 3, 1) := by decide +kernel
theorem dX12_part_43 : decode cX12_part 43 = .ok (.iastore, 1) := by decide +kernel
theorem dX12_part_44 : decode cX12_part 44 = .ok (.aload_n 0, 1) := by decide +kernel
theorem dX12_part_45 : decode cX12_part 45 = .ok (.getfield 90, 3) := by decide +kernel
theorem dX12_part_48 : decode cX12_part 48 = .ok (.iload 5, 2) := by decide +kernel
theorem dX12_part_50 : decode cX12_part 50 = .ok (.iload 4, 2) := by decide +kernel
theorem dX12_part_52 : decode cX12_part 52 = .ok (.iastore, 1) := by decide +kernel
theorem dX12_part_53 : decode cX12_part 53 = .ok (.aload_n 0, 1) := by decide +kernel
theorem dX12_part_54 : decode cX12_part 54 = .ok (.getfield 93, 3) := by decide +kernel
theorem dX12_part_57 : decode cX12_part 57 = .ok (.iload 5, 2) := by decide +kernel
theorem dX12_part_59 : decode cX12_part 59 = .ok (.aload_n 0, 1) := by decide +kernel
theorem dX12_part_60 : decode cX12_part 60 = .ok (.getfield 184, 3) := by decide +kernel
theorem dX12_part_63 : decode cX12_part 63 = .ok (.iastore, 1) := by decide +kernel
theorem dX12_part_64 : decode cX12_part 64 = .ok (.aload_n 0, 1) := by decide +kernel
theorem dX12_part_65 : decode cX12_part 65 = .ok (.getfield 74, 3) := by decide +kernel
theorem dX12_part_68 : decode cX12_part 68 = .ok (.aload_n 0, 1) := by decide +kernel
theorem dX12_part_69 : decode cX12_part 69 = .ok (.getfield 181, 3) := by decide +kernel
theorem dX12_part_72 : decode cX12_part 72 = .ok (.dup2, 1) := by decide +kernel
theorem dX12_part_73 : decode cX12_part 73 = .ok (.iaload, 1) := by decide +kernel
theorem dX12_part_74 : decode cX12_part 74 = .ok (.iconst 1, 1) := by decide +kernel
theorem dX12_part_75 : decode cX12_part 75 = .ok (.iadd, 1) := by decide +kernel
theorem dX12_part_76 : decode cX12_part 76 = .ok (.iastore, 1) := by decide +kernel
theorem dX12_part_77 : decode cX12_part 77 = .ok (.return_, 1) := by decide +kernel
theorem dX12_run_0 : decode cX12_run 0 = .ok (.aload_n 0, 1) := by decide +kernel
theorem dX12_run_1 : decode cX12_run 1 = .ok (.iload_n 1, 1) := by decide +kernel
theorem dX12_run_2 : decode cX12_run 2 = .ok (.invokevirtual 144, 3) := by decide +kernel
theorem dX12_run_5 : decode cX12_run 5 = .ok (.ifCond .ne 6, 3) := by decide +kernel
theorem dX12_run_8 : decode cX12_run 8 = .ok (.bipush (-2), 2) := by decide +kernel
theorem dX12_run_10 : decode cX12_run 10 = .ok (.ireturn, 1) := by decide +kernel
theorem dX12_run_11 : decode cX12_run 11 = .ok (.iconst 0, 1) := by decide +kernel
theorem dX12_run_12 : decode cX12_run 12 = .ok (.istore 5, 2) := by decide +kernel
theorem dX12_run_14 : decode cX12_run 14 = .ok (.iload 5, 2) := by decide +kernel
theorem dX12_run_16 : decode cX12_run 16 = .ok (.aload_n 0, 1) := by decide +kernel
theorem dX12_run_17 : decode cX12_run 17 = .ok (.getfield 140, 3) := by decide +kernel
theorem dX12_run_20 : decode cX12_run 20 = .ok (.if_icmp .ge 22, 3) := by decide +kernel
theorem dX12_run_23 : decode cX12_run 23 = .ok (.aload_n 0, 1) := by decide +kernel
theorem dX12_run_24 : decode cX12_run 24 = .ok (.getfield 25, 3) := by decide +kernel
theorem dX12_run_27 : decode cX12_run 27 = .ok (.iload 5, 2) := by decide +kernel
theorem dX12_run_29 : decode cX12_run 29 = .ok (.baload, 1) := by decide +kernel
theorem dX12_run_30 : decode cX12_run 30 = .ok (.ifCond .ne 6, 3) := by decide +kernel
theorem dX12_run_33 : decode cX12_run 33 = .ok (.bipush (-3), 2) := by decide +kernel
theorem dX12_run_35 : decode cX12_run 35 = .ok (.ireturn, 1) := by decide +kernel
theorem dX12_run_36 : decode cX12_run 36 = .ok (.iinc 5 1, 3) := by decide +kernel
theorem dX12_run_39 : decode cX12_run 39 = .ok (.goto (-25), 3) := by decide +kernel
theorem dX12_run_42 : decode cX12_run 42 = .ok (.aload_n 0, 1) := by decide +kernel
theorem dX12_run_43 : decode cX12_run 43 = .ok (.getfield 285, 3) := by decide +kernel
theorem dX12_run_46 : decode cX12_run 46 = .ok (.bipush 80, 2) := by decide +kernel
theorem dX12_run_48 : decode cX12_run 48 = .ok (.if_icmp .ne 6, 3) := by decide +kernel
theorem dX12_run_51 : decode cX12_run 51 = .ok (.bipush (-4), 2) := by decide +kernel
theorem dX12_run_53 : decode cX12_run 53 = .ok (.ireturn, 1) := by decide +kernel
theorem dX12_run_54 : decode cX12_run 54 = .ok (.aload_n 0, 1) := by decide +kernel
theorem dX12_run_55 : decode cX12_run 55 = .ok (.dup, 1) := by decide +kernel
theorem dX12_run_56 : decode cX12_run 56 = .ok (.getfield 285, 3) := by decide +kernel
theorem dX12_run_59 : decode cX12_run 59 = .ok (.iconst 1, 1) := by decide +kernel
theorem dX12_run_60 : decode cX12_run 60 = .ok (.iadd, 1) := by decide +kernel
theorem dX12_run_61 : decode cX12_run 61 = .ok (.putfield 285, 3) := by decide +kernel
theorem dX12_run_64 : decode cX12_run 64 = .ok (.aload_n 0, 1) := by decide +kernel
theorem dX12_run_65 : decode cX12_run 65 = .ok (.iconst 0, 1) := by decide +kernel
theorem dX12_run_66 : decode cX12_run 66 = .ok (.putfield 233, 3) := by decide +kernel
theorem dX12_run_69 : decode cX12_run 69 = .ok (.aload_n 0, 1) := by decide +kernel
theorem dX12_run_70 : decode cX12_run 70 = .ok (.iconst 0, 1) := by decide +kernel
theorem dX12_run_71 : decode cX12_run 71 = .ok (.putfield 236, 3) := by decide +kernel
theorem dX12_run_74 : decode cX12_run 74 = .ok (.aload_n 0, 1) := by decide +kernel
theorem dX12_run_75 : decode cX12_run 75 = .ok (.iconst 0, 1) := by decide +kernel
theorem dX12_run_76 : decode cX12_run 76 = .ok (.putfield 230, 3) := by decide +kernel
theorem dX12_run_79 : decode cX12_run 79 = .ok (.aload_n 0, 1) := by decide +kernel
theorem dX12_run_80 : decode cX12_run 80 = .ok (.iconst 0, 1) := by decide +kernel
theorem dX12_run_81 : decode cX12_run 81 = .ok (.putfield 246, 3) := by decide +kernel
theorem dX12_run_84 : decode cX12_run 84 = .ok (.aload_n 0, 1) := by decide +kernel
theorem dX12_run_85 : decode cX12_run 85 = .ok (.iconst 0, 1) := by decide +kernel
theorem dX12_run_86 : decode cX12_run 86 = .ok (.putfield 252, 3) := by decide +kernel
theorem dX12_run_89 : decode cX12_run 89 = .ok (.aload_n 0, 1) := by decide +kernel
theorem dX12_run_90 : decode cX12_run 90 = .ok (.iconst 0, 1) := by decide +kernel
theorem dX12_run_91 : decode cX12_run 91 = .ok (.putfield 275, 3) := by decide +kernel
theorem dX12_run_94 : decode cX12_run 94 = .ok (.aload_n 0, 1) := by decide +kernel
theorem dX12_run_95 : decode cX12_run 95 = .ok (.iconst 0, 1) := by decide +kernel
theorem dX12_run_96 : decode cX12_run 96 = .ok (.putfield 259, 3) := by decide +kernel
theorem dX12_run_99 : decode cX12_run 99 = .ok (.iconst 0, 1) := by decide +kernel
theorem dX12_run_100 : decode cX12_run 100 = .ok (.istore 5, 2) := by decide +kernel
theorem dX12_run_102 : decode cX12_run 102 = .ok (.iload 5, 2) := by decide +kernel
theorem dX12_run_104 : decode cX12_run 104 = .ok (.iconst 4, 1) := by decide +kernel
theorem dX12_run_105 : decode cX12_run 105 = .ok (.if_icmp .ge 17, 3) := by decide +kernel
theorem dX12_run_108 : decode cX12_run 108 = .ok (.aload_n 0, 1) := by decide +kernel
theorem dX12_run_109 : decode cX12_run 109 = .ok (.getfield 126, 3) := by decide +kernel
theorem dX12_run_112 : decode cX12_run 112 = .ok (.iload 5, 2) := by decide +kernel
theorem dX12_run_114 : decode cX12_run 114 = .ok (.iconst 0, 1) := by decide +kernel
theorem dX12_run_115 : decode cX12_run 115 = .ok (.iastore, 1) := by decide +kernel
theorem dX12_run_116 : decode cX12_run 116 = .ok (.iinc 5 1, 3) := by decide +kernel
theorem dX12_run_119 : decode cX12_run 119 = .ok (.goto (-17), 3) := by decide +kernel
theorem dX12_run_122 : decode cX12_run 122 = .ok (.aload_n 0, 1) := by decide +kernel
theorem dX12_run_123 : decode cX12_run 123 = .ok (.getfield 129, 3) := by decide +kernel
theorem dX12_run_126 : decode cX12_run 126 = .ok (.iconst 0, 1) := by decide +kernel
theorem dX12_run_127 : decode cX12_run 127 = .ok (.iload_n 2, 1) := by decide +kernel
theorem dX12_run_128 : decode cX12_run 128 = .ok (.iastore, 1) := by decide +kernel
theorem dX12_run_129 : decode cX12_run 129 = .ok (.aload_n 0, 1) := by decide +kernel
theorem dX12_run_130 : decode cX12_run 130 = .ok (.getfield 129, 3) := by decide +kernel
theorem dX12_run_133 : decode cX12_run 133 = .ok (.iconst 1, 1) := by decide +kernel
theorem dX12_run_134 : decode cX12_run 134 = .ok (.iload_n 3, 1) := by decide +kernel
theorem dX12_run_135 : decode cX12_run 135 = .ok (.iastore, 1) := by decide +kernel
theorem dX12_run_136 : decode cX12_run 136 = .ok (.aload_n 0, 1) := by decide +kernel
theorem dX12_run_137 : decode cX12_run 137 = .ok (.getfield 129, 3) := by decide +kernel
theorem dX12_run_140 : decode cX12_run 140 = .ok (.iconst 2, 1) := by decide +kernel
theorem dX12_run_141 : decode cX12_run 141 = .ok (.iload 4, 2) := by decide +kernel
theorem dX12_run_143 : decode cX12_run 143 = .ok (.iastore, 1) := by decide +kernel
theorem dX12_run_144 : decode cX12_run 144 = .ok (.aload_n 0, 1) := by decide +kernel
theorem dX12_run_145 : decode cX12_run 145 = .ok (.iload_n 1, 1) := by decide +kernel
theorem dX12_run_146 : decode cX12_run 146 = .ok (.aload_n 0, 1) := by decide +kernel
theorem dX12_run_147 : decode cX12_run 147 = .ok (.getfield 129, 3) := by decide +kernel
theorem dX12_run_150 : decode cX12_run 150 = .ok (.iconst 0, 1) := by decide +kernel
theorem dX12_run_151 : decode cX12_run 151 = .ok (.iconst 0, 1) := by decide +kernel
theorem dX12_run_152 : decode cX12_run 152 = .ok (.invokevirtual 262, 3) := by decide +kernel
theorem dX12_run_155 : decode cX12_run 155 = .ok (.aload_n 0, 1) := by decide +kernel
theorem dX12_run_156 : decode cX12_run 156 = .ok (.getfield 233, 3) := by decide +kernel
theorem dX12_run_159 : decode cX12_run 159 = .ok (.ifCond .ne 31, 3) := by decide +kernel
theorem dX12_run_162 : decode cX12_run 162 = .ok (.aload_n 0, 1) := by decide +kernel
theorem dX12_run_163 : decode cX12_run 163 = .ok (.getfield 117, 3) := by decide +kernel
theorem dX12_run_166 : decode cX12_run 166 = .ok (.aload_n 0, 1) := by decide +kernel
theorem dX12_run_167 : decode cX12_run 167 = .ok (.getfield 236, 3) := by decide +kernel
theorem dX12_run_170 : decode cX12_run 170 = .ok (.iconst 1, 1) := by decide +kernel
theorem dX12_run_171 : decode cX12_run 171 = .ok (.isub, 1) := by decide +kernel
theorem dX12_run_172 : decode cX12_run 172 = .ok (.iaload, 1) := by decide +kernel
theorem dX12_run_173 : decode cX12_run 173 = .ok (.ifCond .ge 10, 3) := by decide +kernel
theorem dX12_run_176 : decode cX12_run 176 = .ok (.aload_n 0, 1) := by decide +kernel
theorem dX12_run_177 : decode cX12_run 177 = .ok (.invokevirtual 288, 3) := by decide +kernel
theorem dX12_run_180 : decode cX12_run 180 = .ok (.goto (-25), 3) := by decide +kernel
theorem dX12_run_183 : decode cX12_run 183 = .ok (.aload_n 0, 1) := by decide +kernel
theorem dX12_run_184 : decode cX12_run 184 = .ok (.invokevirtual 291, 3) := by decide +kernel
theorem dX12_run_187 : decode cX12_run 187 = .ok (.goto (-32), 3) := by decide +kernel
theorem dX12_run_190 : decode cX12_run 190 = .ok (.aload_n 0, 1) := by decide +kernel
theorem dX12_run_191 : decode cX12_run 191 = .ok (.getfield 233, 3) := by decide +kernel
theorem dX12_run_194 : decode cX12_run 194 = .ok (.iconst 2, 1) := by decide +kernel
theorem dX12_run_195 : decode cX12_run 195 = .ok (.if_icmp .ne 7, 3) := by decide +kernel
theorem dX12_run_198 : decode cX12_run 198 = .ok (.iconst 0, 1) := by decide +kernel
theorem dX12_run_199 : decode cX12_run 199 = .ok (.goto 7, 3) := by decide +kernel
theorem dX12_run_202 : decode cX12_run 202 = .ok (.aload_n 0, 1) := by decide +kernel
theorem dX12_run_203 : decode cX12_run 203 = .ok (.getfield 233, 3) := by decide +kernel
theorem dX12_run_206 : decode cX12_run 206 = .ok (.ireturn, 1) := by decide +kernel
theorem dX12_answer_0 : decode cX12_answer 0 = .ok (.aload_n 0, 1) := by decide +kernel
theorem dX12_answer_1 : decode cX12_answer 1 = .ok (.getfield 259, 3) := by decide +kernel
theorem dX12_answer_4 : decode cX12_answer 4 = .ok (.ireturn, 1) := by decide +kernel
theorem dX12_trap_0 : decode cX12_trap 0 = .ok (.iload_n 1, 1) := by decide +kernel
theorem dX12_trap_1 : decode cX12_trap 1 = .ok (.i2l, 1) := by decide +kernel
theorem dX12_trap_2 : decode cX12_trap 2 = .ok (.lconst 0, 1) := by decide +kernel
theorem dX12_trap_3 : decode cX12_trap 3 = .ok (.ldc2_w 132, 3) := by decide +kernel
theorem dX12_trap_6 : decode cX12_trap 6 = .ok (.invokestatic 134, 3) := by decide +kernel
theorem dX12_trap_9 : decode cX12_trap 9 = .ok (.ifCond .eq 12, 3) := by decide +kernel
theorem dX12_trap_12 : decode cX12_trap 12 = .ok (.aload_n 0, 1) := by decide +kernel
theorem dX12_trap_13 : decode cX12_trap 13 = .ok (.getfield 126, 3) := by decide +kernel
theorem dX12_trap_16 : decode cX12_trap 16 = .ok (.iload_n 1, 1) := by decide +kernel
theorem dX12_trap_17 : decode cX12_trap 17 = .ok (.iaload, 1) := by decide +kernel
theorem dX12_trap_18 : decode cX12_trap 18 = .ok (.goto 5, 3) := by decide +kernel
theorem dX12_trap_21 : decode cX12_trap 21 = .ok (.bipush (-2), 2) := by decide +kernel
theorem dX12_trap_23 : decode cX12_trap 23 = .ok (.ireturn, 1) := by decide +kernel
theorem dX12_of_0 : decode cX12_of 0 = .ok (.aload_n 0, 1) := by decide +kernel
theorem dX12_of_1 : decode cX12_of 1 = .ok (.iload_n 1, 1) := by decide +kernel
theorem dX12_of_2 : decode cX12_of 2 = .ok (.invokevirtual 144, 3) := by decide +kernel
theorem dX12_of_5 : decode cX12_of 5 = .ok (.ifCond .ne 6, 3) := by decide +kernel
theorem dX12_of_8 : decode cX12_of 8 = .ok (.bipush (-2), 2) := by decide +kernel
theorem dX12_of_10 : decode cX12_of 10 = .ok (.ireturn, 1) := by decide +kernel
theorem dX12_of_11 : decode cX12_of 11 = .ok (.iload_n 2, 1) := by decide +kernel
theorem dX12_of_12 : decode cX12_of 12 = .ok (.tableswitch 124 0 7 #[48, 63, 70, 77, 84, 91, 97, 104], 48) := by decide +kernel
theorem dX12_of_60 : decode cX12_of 60 = .ok (.aload_n 0, 1) := by decide +kernel
theorem dX12_of_61 : decode cX12_of 61 = .ok (.getfield 50, 3) := by decide +kernel
theorem dX12_of_64 : decode cX12_of 64 = .ok (.iload_n 1, 1) := by decide +kernel
theorem dX12_of_65 : decode cX12_of 65 = .ok (.baload, 1) := by decide +kernel
theorem dX12_of_66 : decode cX12_of 66 = .ok (.ifCond .eq 7, 3) := by decide +kernel
theorem dX12_of_69 : decode cX12_of 69 = .ok (.iconst 1, 1) := by decide +kernel
theorem dX12_of_70 : decode cX12_of 70 = .ok (.goto 4, 3) := by decide +kernel
theorem dX12_of_73 : decode cX12_of 73 = .ok (.iconst 0, 1) := by decide +kernel
theorem dX12_of_74 : decode cX12_of 74 = .ok (.ireturn, 1) := by decide +kernel
theorem dX12_of_75 : decode cX12_of 75 = .ok (.aload_n 0, 1) := by decide +kernel
theorem dX12_of_76 : decode cX12_of 76 = .ok (.getfield 53, 3) := by decide +kernel
theorem dX12_of_79 : decode cX12_of 79 = .ok (.iload_n 1, 1) := by decide +kernel
theorem dX12_of_80 : decode cX12_of 80 = .ok (.iaload, 1) := by decide +kernel
theorem dX12_of_81 : decode cX12_of 81 = .ok (.ireturn, 1) := by decide +kernel
theorem dX12_of_82 : decode cX12_of 82 = .ok (.aload_n 0, 1) := by decide +kernel
theorem dX12_of_83 : decode cX12_of 83 = .ok (.getfield 56, 3) := by decide +kernel
theorem dX12_of_86 : decode cX12_of 86 = .ok (.iload_n 1, 1) := by decide +kernel
theorem dX12_of_87 : decode cX12_of 87 = .ok (.iaload, 1) := by decide +kernel
theorem dX12_of_88 : decode cX12_of 88 = .ok (.ireturn, 1) := by decide +kernel
theorem dX12_of_89 : decode cX12_of 89 = .ok (.aload_n 0, 1) := by decide +kernel
theorem dX12_of_90 : decode cX12_of 90 = .ok (.getfield 59, 3) := by decide +kernel
theorem dX12_of_93 : decode cX12_of 93 = .ok (.iload_n 1, 1) := by decide +kernel
theorem dX12_of_94 : decode cX12_of 94 = .ok (.iaload, 1) := by decide +kernel
theorem dX12_of_95 : decode cX12_of 95 = .ok (.ireturn, 1) := by decide +kernel
theorem dX12_of_96 : decode cX12_of 96 = .ok (.aload_n 0, 1) := by decide +kernel
theorem dX12_of_97 : decode cX12_of 97 = .ok (.getfield 62, 3) := by decide +kernel
theorem dX12_of_100 : decode cX12_of 100 = .ok (.iload_n 1, 1) := by decide +kernel
theorem dX12_of_101 : decode cX12_of 101 = .ok (.iaload, 1) := by decide +kernel
theorem dX12_of_102 : decode cX12_of 102 = .ok (.ireturn, 1) := by decide +kernel
theorem dX12_of_103 : decode cX12_of 103 = .ok (.aload_n 0, 1) := by decide +kernel
theorem dX12_of_104 : decode cX12_of 104 = .ok (.iload_n 1, 1) := by decide +kernel
theorem dX12_of_105 : decode cX12_of 105 = .ok (.invokevirtual 294, 3) := by decide +kernel
theorem dX12_of_108 : decode cX12_of 108 = .ok (.ireturn, 1) := by decide +kernel
theorem dX12_of_109 : decode cX12_of 109 = .ok (.aload_n 0, 1) := by decide +kernel
theorem dX12_of_110 : decode cX12_of 110 = .ok (.getfield 16, 3) := by decide +kernel
theorem dX12_of_113 : decode cX12_of 113 = .ok (.iload_n 1, 1) := by decide +kernel
theorem dX12_of_114 : decode cX12_of 114 = .ok (.iaload, 1) := by decide +kernel
theorem dX12_of_115 : decode cX12_of 115 = .ok (.ireturn, 1) := by decide +kernel
theorem dX12_of_116 : decode cX12_of 116 = .ok (.aload_n 0, 1) := by decide +kernel
theorem dX12_of_117 : decode cX12_of 117 = .ok (.getfield 25, 3) := by decide +kernel
theorem dX12_of_120 : decode cX12_of 120 = .ok (.iload_n 1, 1) := by decide +kernel
theorem dX12_of_121 : decode cX12_of 121 = .ok (.baload, 1) := by decide +kernel
theorem dX12_of_122 : decode cX12_of 122 = .ok (.ifCond .eq 12, 3) := by decide +kernel
theorem dX12_of_125 : decode cX12_of 125 = .ok (.aload_n 0, 1) := by decide +kernel
theorem dX12_of_126 : decode cX12_of 126 = .ok (.getfield 32, 3) := by decide +kernel
theorem dX12_of_129 : decode cX12_of 129 = .ok (.iload_n 1, 1) := by decide +kernel
theorem dX12_of_130 : decode cX12_of 130 = .ok (.iaload, 1) := by decide +kernel
theorem dX12_of_131 : decode cX12_of 131 = .ok (.goto 4, 3) := by decide +kernel
theorem dX12_of_134 : decode cX12_of 134 = .ok (.iconst (-1), 1) := by decide +kernel
theorem dX12_of_135 : decode cX12_of 135 = .ok (.ireturn, 1) := by decide +kernel
theorem dX12_of_136 : decode cX12_of 136 = .ok (.bipush (-2), 2) := by decide +kernel
theorem dX12_of_138 : decode cX12_of 138 = .ok (.ireturn, 1) := by decide +kernel
theorem dX12_part__0 : decode cX12_part_ 0 = .ok (.aload_n 0, 1) := by decide +kernel
theorem dX12_part__1 : decode cX12_part_ 1 = .ok (.iload_n 1, 1) := by decide +kernel
theorem dX12_part__2 : decode cX12_part_ 2 = .ok (.invokevirtual 144, 3) := by decide +kernel
theorem dX12_part__5 : decode cX12_part_ 5 = .ok (.ifCond .eq 20, 3) := by decide +kernel
theorem dX12_part__8 : decode cX12_part_ 8 = .ok (.iload_n 2, 1) := by decide +kernel
theorem dX12_part__9 : decode cX12_part_ 9 = .ok (.i2l, 1) := by decide +kernel
theorem dX12_part__10 : decode cX12_part_ 10 = .ok (.lconst 0, 1) := by decide +kernel
theorem dX12_part__11 : decode cX12_part_ 11 = .ok (.aload_n 0, 1) := by decide +kernel
theorem dX12_part__12 : decode cX12_part_ 12 = .ok (.iload_n 1, 1) := by decide +kernel
theorem dX12_part__13 : decode cX12_part_ 13 = .ok (.invokevirtual 294, 3) := by decide +kernel
theorem dX12_part__16 : decode cX12_part_ 16 = .ok (.iconst 1, 1) := by decide +kernel
theorem dX12_part__17 : decode cX12_part_ 17 = .ok (.isub, 1) := by decide +kernel
theorem dX12_part__18 : decode cX12_part_ 18 = .ok (.i2l, 1) := by decide +kernel
theorem dX12_part__19 : decode cX12_part_ 19 = .ok (.invokestatic 134, 3) := by decide +kernel
theorem dX12_part__22 : decode cX12_part_ 22 = .ok (.ifCond .ne 6, 3) := by decide +kernel
theorem dX12_part__25 : decode cX12_part_ 25 = .ok (.ldc 177, 2) := by decide +kernel
theorem dX12_part__27 : decode cX12_part_ 27 = .ok (.ireturn, 1) := by decide +kernel
theorem dX12_part__28 : decode cX12_part_ 28 = .ok (.sipush 640, 3) := by decide +kernel
theorem dX12_part__31 : decode cX12_part_ 31 = .ok (.aload_n 0, 1) := by decide +kernel
theorem dX12_part__32 : decode cX12_part_ 32 = .ok (.iload_n 1, 1) := by decide +kernel
theorem dX12_part__33 : decode cX12_part_ 33 = .ok (.invokevirtual 217, 3) := by decide +kernel
theorem dX12_part__36 : decode cX12_part_ 36 = .ok (.imul, 1) := by decide +kernel
theorem dX12_part__37 : decode cX12_part_ 37 = .ok (.iload_n 2, 1) := by decide +kernel
theorem dX12_part__38 : decode cX12_part_ 38 = .ok (.iadd, 1) := by decide +kernel
theorem dX12_part__39 : decode cX12_part_ 39 = .ok (.istore 4, 2) := by decide +kernel
theorem dX12_part__41 : decode cX12_part_ 41 = .ok (.iload_n 3, 1) := by decide +kernel
theorem dX12_part__42 : decode cX12_part_ 42 = .ok (.tableswitch 74 0 4 #[34, 42, 50, 58, 66], 34) := by decide +kernel
theorem dX12_part__76 : decode cX12_part_ 76 = .ok (.aload_n 0, 1) := by decide +kernel
theorem dX12_part__77 : decode cX12_part_ 77 = .ok (.getfield 81, 3) := by decide +kernel
theorem dX12_part__80 : decode cX12_part_ 80 = .ok (.iload 4, 2) := by decide +kernel
theorem dX12_part__82 : decode cX12_part_ 82 = .ok (.iaload, 1) := by decide +kernel
theorem dX12_part__83 : decode cX12_part_ 83 = .ok (.ireturn, 1) := by decide +kernel
theorem dX12_part__84 : decode cX12_part_ 84 = .ok (.aload_n 0, 1) := by decide +kernel
theorem dX12_part__85 : decode cX12_part_ 85 = .ok (.getfield 84, 3) := by decide +kernel
theorem dX12_part__88 : decode cX12_part_ 88 = .ok (.iload 4, 2) := by decide +kernel
theorem dX12_part__90 : decode cX12_part_ 90 = .ok (.iaload, 1) := by decide +kernel
theorem dX12_part__91 : decode cX12_part_ 91 = .ok (.ireturn, 1) := by decide +kernel
theorem dX12_part__92 : decode cX12_part_ 92 = .ok (.aload_n 0, 1) := by decide +kernel
theorem dX12_part__93 : decode cX12_part_ 93 = .ok (.getfield 87, 3) := by decide +kernel
theorem dX12_part__96 : decode cX12_part_ 96 = .ok (.iload 4, 2) := by decide +kernel
theorem dX12_part__98 : decode cX12_part_ 98 = .ok (.iaload, 1) := by decide +kernel
theorem dX12_part__99 : decode cX12_part_ 99 = .ok (.ireturn, 1) := by decide +kernel
theorem dX12_part__100 : decode cX12_part_ 100 = .ok (.aload_n 0, 1) := by decide +kernel
theorem dX12_part__101 : decode cX12_part_ 101 = .ok (.getfield 90, 3) := by decide +kernel
theorem dX12_part__104 : decode cX12_part_ 104 = .ok (.iload 4, 2) := by decide +kernel
theorem dX12_part__106 : decode cX12_part_ 106 = .ok (.iaload, 1) := by decide +kernel
theorem dX12_part__107 : decode cX12_part_ 107 = .ok (.ireturn, 1) := by decide +kernel
theorem dX12_part__108 : decode cX12_part_ 108 = .ok (.aload_n 0, 1) := by decide +kernel
theorem dX12_part__109 : decode cX12_part_ 109 = .ok (.getfield 93, 3) := by decide +kernel
theorem dX12_part__112 : decode cX12_part_ 112 = .ok (.iload 4, 2) := by decide +kernel
theorem dX12_part__114 : decode cX12_part_ 114 = .ok (.iaload, 1) := by decide +kernel
theorem dX12_part__115 : decode cX12_part_ 115 = .ok (.ireturn, 1) := by decide +kernel
theorem dX12_part__116 : decode cX12_part_ 116 = .ok (.ldc 177, 2) := by decide +kernel
theorem dX12_part__118 : decode cX12_part_ 118 = .ok (.ireturn, 1) := by decide +kernel
theorem dX12_varies_0 : decode cX12_varies 0 = .ok (.aload_n 0, 1) := by decide +kernel
theorem dX12_varies_1 : decode cX12_varies 1 = .ok (.iload_n 1, 1) := by decide +kernel
theorem dX12_varies_2 : decode cX12_varies 2 = .ok (.invokevirtual 144, 3) := by decide +kernel
theorem dX12_varies_5 : decode cX12_varies 5 = .ok (.ifCond .eq 29, 3) := by decide +kernel
theorem dX12_varies_8 : decode cX12_varies 8 = .ok (.iload_n 2, 1) := by decide +kernel
theorem dX12_varies_9 : decode cX12_varies 9 = .ok (.i2l, 1) := by decide +kernel
theorem dX12_varies_10 : decode cX12_varies 10 = .ok (.lconst 0, 1) := by decide +kernel
theorem dX12_varies_11 : decode cX12_varies 11 = .ok (.ldc2_w 297, 3) := by decide +kernel
theorem dX12_varies_14 : decode cX12_varies 14 = .ok (.invokestatic 134, 3) := by decide +kernel
theorem dX12_varies_17 : decode cX12_varies 17 = .ok (.ifCond .ne 20, 3) := by decide +kernel
theorem dX12_varies_20 : decode cX12_varies 20 = .ok (.iload_n 2, 1) := by decide +kernel
theorem dX12_varies_21 : decode cX12_varies 21 = .ok (.i2l, 1) := by decide +kernel
theorem dX12_varies_22 : decode cX12_varies 22 = .ok (.ldc2_w 299, 3) := by decide +kernel
theorem dX12_varies_25 : decode cX12_varies 25 = .ok (.ldc2_w 301, 3) := by decide +kernel
theorem dX12_varies_28 : decode cX12_varies 28 = .ok (.invokestatic 134, 3) := by decide +kernel
theorem dX12_varies_31 : decode cX12_varies 31 = .ok (.ifCond .ne 6, 3) := by decide +kernel
theorem dX12_varies_34 : decode cX12_varies 34 = .ok (.bipush (-2), 2) := by decide +kernel
theorem dX12_varies_36 : decode cX12_varies 36 = .ok (.ireturn, 1) := by decide +kernel
theorem dX12_varies_37 : decode cX12_varies 37 = .ok (.aload_n 0, 1) := by decide +kernel
theorem dX12_varies_38 : decode cX12_varies 38 = .ok (.getfield 71, 3) := by decide +kernel
theorem dX12_varies_41 : decode cX12_varies 41 = .ok (.bipush 11, 2) := by decide +kernel
theorem dX12_varies_43 : decode cX12_varies 43 = .ok (.iload_n 1, 1) := by decide +kernel
theorem dX12_varies_44 : decode cX12_varies 44 = .ok (.imul, 1) := by decide +kernel
theorem dX12_varies_45 : decode cX12_varies 45 = .ok (.iload_n 2, 1) := by decide +kernel
theorem dX12_varies_46 : decode cX12_varies 46 = .ok (.iconst 3, 1) := by decide +kernel
theorem dX12_varies_47 : decode cX12_varies 47 = .ok (.if_icmp .ge 7, 3) := by decide +kernel
theorem dX12_varies_50 : decode cX12_varies 50 = .ok (.iload_n 2, 1) := by decide +kernel
theorem dX12_varies_51 : decode cX12_varies 51 = .ok (.goto 7, 3) := by decide +kernel
theorem dX12_varies_54 : decode cX12_varies 54 = .ok (.iload_n 2, 1) := by decide +kernel
theorem dX12_varies_55 : decode cX12_varies 55 = .ok (.bipush 7, 2) := by decide +kernel
theorem dX12_varies_57 : decode cX12_varies 57 = .ok (.isub, 1) := by decide +kernel
theorem dX12_varies_58 : decode cX12_varies 58 = .ok (.iadd, 1) := by decide +kernel
theorem dX12_varies_59 : decode cX12_varies 59 = .ok (.baload, 1) := by decide +kernel
theorem dX12_varies_60 : decode cX12_varies 60 = .ok (.ifCond .eq 7, 3) := by decide +kernel
theorem dX12_varies_63 : decode cX12_varies 63 = .ok (.iconst 1, 1) := by decide +kernel
theorem dX12_varies_64 : decode cX12_varies 64 = .ok (.goto 4, 3) := by decide +kernel
theorem dX12_varies_67 : decode cX12_varies 67 = .ok (.iconst 0, 1) := by decide +kernel
theorem dX12_varies_68 : decode cX12_varies 68 = .ok (.ireturn, 1) := by decide +kernel
theorem dX12_depth_0 : decode cX12_depth 0 = .ok (.aload_n 0, 1) := by decide +kernel
theorem dX12_depth_1 : decode cX12_depth 1 = .ok (.iload_n 1, 1) := by decide +kernel
theorem dX12_depth_2 : decode cX12_depth 2 = .ok (.invokevirtual 144, 3) := by decide +kernel
theorem dX12_depth_5 : decode cX12_depth 5 = .ok (.ifCond .eq 21, 3) := by decide +kernel
theorem dX12_depth_8 : decode cX12_depth 8 = .ok (.iload_n 2, 1) := by decide +kernel
theorem dX12_depth_9 : decode cX12_depth 9 = .ok (.i2l, 1) := by decide +kernel
theorem dX12_depth_10 : decode cX12_depth 10 = .ok (.lconst 0, 1) := by decide +kernel
theorem dX12_depth_11 : decode cX12_depth 11 = .ok (.aload_n 0, 1) := by decide +kernel
theorem dX12_depth_12 : decode cX12_depth 12 = .ok (.getfield 16, 3) := by decide +kernel
theorem dX12_depth_15 : decode cX12_depth 15 = .ok (.iload_n 1, 1) := by decide +kernel
theorem dX12_depth_16 : decode cX12_depth 16 = .ok (.iaload, 1) := by decide +kernel
theorem dX12_depth_17 : decode cX12_depth 17 = .ok (.iconst 1, 1) := by decide +kernel
theorem dX12_depth_18 : decode cX12_depth 18 = .ok (.isub, 1) := by decide +kernel
theorem dX12_depth_19 : decode cX12_depth 19 = .ok (.i2l, 1) := by decide +kernel
theorem dX12_depth_20 : decode cX12_depth 20 = .ok (.invokestatic 134, 3) := by decide +kernel
theorem dX12_depth_23 : decode cX12_depth 23 = .ok (.ifCond .ne 6, 3) := by decide +kernel
theorem dX12_depth_26 : decode cX12_depth 26 = .ok (.bipush (-2), 2) := by decide +kernel
theorem dX12_depth_28 : decode cX12_depth 28 = .ok (.ireturn, 1) := by decide +kernel
theorem dX12_depth_29 : decode cX12_depth 29 = .ok (.aload_n 0, 1) := by decide +kernel
theorem dX12_depth_30 : decode cX12_depth 30 = .ok (.getfield 25, 3) := by decide +kernel
theorem dX12_depth_33 : decode cX12_depth 33 = .ok (.iload_n 1, 1) := by decide +kernel
theorem dX12_depth_34 : decode cX12_depth 34 = .ok (.baload, 1) := by decide +kernel
theorem dX12_depth_35 : decode cX12_depth 35 = .ok (.ifCond .eq 17, 3) := by decide +kernel
theorem dX12_depth_38 : decode cX12_depth 38 = .ok (.aload_n 0, 1) := by decide +kernel
theorem dX12_depth_39 : decode cX12_depth 39 = .ok (.getfield 29, 3) := by decide +kernel
theorem dX12_depth_42 : decode cX12_depth 42 = .ok (.bipush 60, 2) := by decide +kernel
theorem dX12_depth_44 : decode cX12_depth 44 = .ok (.iload_n 1, 1) := by decide +kernel
theorem dX12_depth_45 : decode cX12_depth 45 = .ok (.imul, 1) := by decide +kernel
theorem dX12_depth_46 : decode cX12_depth 46 = .ok (.iload_n 2, 1) := by decide +kernel
theorem dX12_depth_47 : decode cX12_depth 47 = .ok (.iadd, 1) := by decide +kernel
theorem dX12_depth_48 : decode cX12_depth 48 = .ok (.iaload, 1) := by decide +kernel
theorem dX12_depth_49 : decode cX12_depth 49 = .ok (.goto 4, 3) := by decide +kernel
theorem dX12_depth_52 : decode cX12_depth 52 = .ok (.iconst (-1), 1) := by decide +kernel
theorem dX12_depth_53 : decode cX12_depth 53 = .ok (.ireturn, 1) := by decide +kernel
theorem dX12_count_0 : decode cX12_count 0 = .ok (.iload_n 1, 1) := by decide +kernel
theorem dX12_count_1 : decode cX12_count 1 = .ok (.tableswitch 69 0 5 #[39, 44, 49, 54, 59, 64], 39) := by decide +kernel
theorem dX12_count_40 : decode cX12_count 40 = .ok (.aload_n 0, 1) := by decide +kernel
theorem dX12_count_41 : decode cX12_count 41 = .ok (.getfield 140, 3) := by decide +kernel
theorem dX12_count_44 : decode cX12_count 44 = .ok (.ireturn, 1) := by decide +kernel
theorem dX12_count_45 : decode cX12_count 45 = .ok (.aload_n 0, 1) := by decide +kernel
theorem dX12_count_46 : decode cX12_count 46 = .ok (.getfield 285, 3) := by decide +kernel
theorem dX12_count_49 : decode cX12_count 49 = .ok (.ireturn, 1) := by decide +kernel
theorem dX12_count_50 : decode cX12_count 50 = .ok (.aload_n 0, 1) := by decide +kernel
theorem dX12_count_51 : decode cX12_count 51 = .ok (.getfield 230, 3) := by decide +kernel
theorem dX12_count_54 : decode cX12_count 54 = .ok (.ireturn, 1) := by decide +kernel
theorem dX12_count_55 : decode cX12_count 55 = .ok (.aload_n 0, 1) := by decide +kernel
theorem dX12_count_56 : decode cX12_count 56 = .ok (.getfield 246, 3) := by decide +kernel
theorem dX12_count_59 : decode cX12_count 59 = .ok (.ireturn, 1) := by decide +kernel
theorem dX12_count_60 : decode cX12_count 60 = .ok (.aload_n 0, 1) := by decide +kernel
theorem dX12_count_61 : decode cX12_count 61 = .ok (.getfield 252, 3) := by decide +kernel
theorem dX12_count_64 : decode cX12_count 64 = .ok (.ireturn, 1) := by decide +kernel
theorem dX12_count_65 : decode cX12_count 65 = .ok (.aload_n 0, 1) := by decide +kernel
theorem dX12_count_66 : decode cX12_count 66 = .ok (.getfield 275, 3) := by decide +kernel
theorem dX12_count_69 : decode cX12_count 69 = .ok (.ireturn, 1) := by decide +kernel
theorem dX12_count_70 : decode cX12_count 70 = .ok (.bipush (-2), 2) := by decide +kernel
theorem dX12_count_72 : decode cX12_count 72 = .ok (.ireturn, 1) := by decide +kernel
theorem dX12_digest_0 : decode cX12_digest 0 = .ok (.ldc2_w 301, 3) := by decide +kernel
theorem dX12_digest_3 : decode cX12_digest 3 = .ok (.lstore_n 1, 1) := by decide +kernel
theorem dX12_digest_4 : decode cX12_digest 4 = .ok (.iconst 0, 1) := by decide +kernel
theorem dX12_digest_5 : decode cX12_digest 5 = .ok (.istore_n 3, 1) := by decide +kernel
theorem dX12_digest_6 : decode cX12_digest 6 = .ok (.iload_n 3, 1) := by decide +kernel
theorem dX12_digest_7 : decode cX12_digest 7 = .ok (.bipush 8, 2) := by decide +kernel
theorem dX12_digest_9 : decode cX12_digest 9 = .ok (.if_icmp .ge 23, 3) := by decide +kernel
theorem dX12_digest_12 : decode cX12_digest 12 = .ok (.ldc2_w 303, 3) := by decide +kernel
theorem dX12_digest_15 : decode cX12_digest 15 = .ok (.lload_n 1, 1) := by decide +kernel
theorem dX12_digest_16 : decode cX12_digest 16 = .ok (.lmul, 1) := by decide +kernel
theorem dX12_digest_17 : decode cX12_digest 17 = .ok (.aload_n 0, 1) := by decide +kernel
theorem dX12_digest_18 : decode cX12_digest 18 = .ok (.getfield 41, 3) := by decide +kernel
theorem dX12_digest_21 : decode cX12_digest 21 = .ok (.iload_n 3, 1) := by decide +kernel
theorem dX12_digest_22 : decode cX12_digest 22 = .ok (.iaload, 1) := by decide +kernel
theorem dX12_digest_23 : decode cX12_digest 23 = .ok (.i2l, 1) := by decide +kernel
theorem dX12_digest_24 : decode cX12_digest 24 = .ok (.ladd, 1) := by decide +kernel
theorem dX12_digest_25 : decode cX12_digest 25 = .ok (.lstore_n 1, 1) := by decide +kernel
theorem dX12_digest_26 : decode cX12_digest 26 = .ok (.iinc 3 1, 3) := by decide +kernel
theorem dX12_digest_29 : decode cX12_digest 29 = .ok (.goto (-23), 3) := by decide +kernel
theorem dX12_digest_32 : decode cX12_digest 32 = .ok (.iconst 0, 1) := by decide +kernel
theorem dX12_digest_33 : decode cX12_digest 33 = .ok (.istore_n 3, 1) := by decide +kernel
theorem dX12_digest_34 : decode cX12_digest 34 = .ok (.iload_n 3, 1) := by decide +kernel
theorem dX12_digest_35 : decode cX12_digest 35 = .ok (.iconst 4, 1) := by decide +kernel
theorem dX12_digest_36 : decode cX12_digest 36 = .ok (.if_icmp .ge 63, 3) := by decide +kernel
theorem dX12_digest_39 : decode cX12_digest 39 = .ok (.ldc2_w 303, 3) := by decide +kernel
theorem dX12_digest_42 : decode cX12_digest 42 = .ok (.lload_n 1, 1) := by decide +kernel
theorem dX12_digest_43 : decode cX12_digest 43 = .ok (.lmul, 1) := by decide +kernel
theorem dX12_digest_44 : decode cX12_digest 44 = .ok (.aload_n 0, 1) := by decide +kernel
theorem dX12_digest_45 : decode cX12_digest 45 = .ok (.getfield 44, 3) := by decide +kernel
theorem dX12_digest_48 : decode cX12_digest 48 = .ok (.iload_n 3, 1) := by decide +kernel
theorem dX12_digest_49 : decode cX12_digest 49 = .ok (.iaload, 1) := by decide +kernel
theorem dX12_digest_50 : decode cX12_digest 50 = .ok (.i2l, 1) := by decide +kernel
theorem dX12_digest_51 : decode cX12_digest 51 = .ok (.ladd, 1) := by decide +kernel
theorem dX12_digest_52 : decode cX12_digest 52 = .ok (.lstore_n 1, 1) := by decide +kernel
theorem dX12_digest_53 : decode cX12_digest 53 = .ok (.iconst 0, 1) := by decide +kernel
theorem dX12_digest_54 : decode cX12_digest 54 = .ok (.istore 4, 2) := by decide +kernel
theorem dX12_digest_56 : decode cX12_digest 56 = .ok (.iload 4, 2) := by decide +kernel
theorem dX12_digest_58 : decode cX12_digest 58 = .ok (.aload_n 0, 1) := by decide +kernel
theorem dX12_digest_59 : decode cX12_digest 59 = .ok (.getfield 44, 3) := by decide +kernel
theorem dX12_digest_62 : decode cX12_digest 62 = .ok (.iload_n 3, 1) := by decide +kernel
theorem dX12_digest_63 : decode cX12_digest 63 = .ok (.iaload, 1) := by decide +kernel
theorem dX12_digest_64 : decode cX12_digest 64 = .ok (.if_icmp .ge 29, 3) := by decide +kernel
theorem dX12_digest_67 : decode cX12_digest 67 = .ok (.ldc2_w 303, 3) := by decide +kernel
theorem dX12_digest_70 : decode cX12_digest 70 = .ok (.lload_n 1, 1) := by decide +kernel
theorem dX12_digest_71 : decode cX12_digest 71 = .ok (.lmul, 1) := by decide +kernel
theorem dX12_digest_72 : decode cX12_digest 72 = .ok (.aload_n 0, 1) := by decide +kernel
theorem dX12_digest_73 : decode cX12_digest 73 = .ok (.getfield 47, 3) := by decide +kernel
theorem dX12_digest_76 : decode cX12_digest 76 = .ok (.bipush 20, 2) := by decide +kernel
theorem dX12_digest_78 : decode cX12_digest 78 = .ok (.iload_n 3, 1) := by decide +kernel
theorem dX12_digest_79 : decode cX12_digest 79 = .ok (.imul, 1) := by decide +kernel
theorem dX12_digest_80 : decode cX12_digest 80 = .ok (.iload 4, 2) := by decide +kernel
theorem dX12_digest_82 : decode cX12_digest 82 = .ok (.iadd, 1) := by decide +kernel
theorem dX12_digest_83 : decode cX12_digest 83 = .ok (.iaload, 1) := by decide +kernel
theorem dX12_digest_84 : decode cX12_digest 84 = .ok (.i2l, 1) := by decide +kernel
theorem dX12_digest_85 : decode cX12_digest 85 = .ok (.ladd, 1) := by decide +kernel
theorem dX12_digest_86 : decode cX12_digest 86 = .ok (.lstore_n 1, 1) := by decide +kernel
theorem dX12_digest_87 : decode cX12_digest 87 = .ok (.iinc 4 1, 3) := by decide +kernel
theorem dX12_digest_90 : decode cX12_digest 90 = .ok (.goto (-34), 3) := by decide +kernel
theorem dX12_digest_93 : decode cX12_digest 93 = .ok (.iinc 3 1, 3) := by decide +kernel
theorem dX12_digest_96 : decode cX12_digest 96 = .ok (.goto (-62), 3) := by decide +kernel
theorem dX12_digest_99 : decode cX12_digest 99 = .ok (.ldc2_w 303, 3) := by decide +kernel
theorem dX12_digest_102 : decode cX12_digest 102 = .ok (.lload_n 1, 1) := by decide +kernel
theorem dX12_digest_103 : decode cX12_digest 103 = .ok (.lmul, 1) := by decide +kernel
theorem dX12_digest_104 : decode cX12_digest 104 = .ok (.aload_n 0, 1) := by decide +kernel
theorem dX12_digest_105 : decode cX12_digest 105 = .ok (.getfield 259, 3) := by decide +kernel
theorem dX12_digest_108 : decode cX12_digest 108 = .ok (.i2l, 1) := by decide +kernel
theorem dX12_digest_109 : decode cX12_digest 109 = .ok (.ladd, 1) := by decide +kernel
theorem dX12_digest_110 : decode cX12_digest 110 = .ok (.lstore_n 1, 1) := by decide +kernel
theorem dX12_digest_111 : decode cX12_digest 111 = .ok (.iconst 0, 1) := by decide +kernel
theorem dX12_digest_112 : decode cX12_digest 112 = .ok (.istore_n 3, 1) := by decide +kernel
theorem dX12_digest_113 : decode cX12_digest 113 = .ok (.iload_n 3, 1) := by decide +kernel
theorem dX12_digest_114 : decode cX12_digest 114 = .ok (.iconst 4, 1) := by decide +kernel
theorem dX12_digest_115 : decode cX12_digest 115 = .ok (.if_icmp .ge 23, 3) := by decide +kernel
theorem dX12_digest_118 : decode cX12_digest 118 = .ok (.ldc2_w 303, 3) := by decide +kernel
theorem dX12_digest_121 : decode cX12_digest 121 = .ok (.lload_n 1, 1) := by decide +kernel
theorem dX12_digest_122 : decode cX12_digest 122 = .ok (.lmul, 1) := by decide +kernel
theorem dX12_digest_123 : decode cX12_digest 123 = .ok (.aload_n 0, 1) := by decide +kernel
theorem dX12_digest_124 : decode cX12_digest 124 = .ok (.getfield 126, 3) := by decide +kernel
theorem dX12_digest_127 : decode cX12_digest 127 = .ok (.iload_n 3, 1) := by decide +kernel
theorem dX12_digest_128 : decode cX12_digest 128 = .ok (.iaload, 1) := by decide +kernel
theorem dX12_digest_129 : decode cX12_digest 129 = .ok (.i2l, 1) := by decide +kernel
theorem dX12_digest_130 : decode cX12_digest 130 = .ok (.ladd, 1) := by decide +kernel
theorem dX12_digest_131 : decode cX12_digest 131 = .ok (.lstore_n 1, 1) := by decide +kernel
theorem dX12_digest_132 : decode cX12_digest 132 = .ok (.iinc 3 1, 3) := by decide +kernel
theorem dX12_digest_135 : decode cX12_digest 135 = .ok (.goto (-22), 3) := by decide +kernel
theorem dX12_digest_138 : decode cX12_digest 138 = .ok (.iconst 0, 1) := by decide +kernel
theorem dX12_digest_139 : decode cX12_digest 139 = .ok (.istore_n 3, 1) := by decide +kernel
theorem dX12_digest_140 : decode cX12_digest 140 = .ok (.iload_n 3, 1) := by decide +kernel
theorem dX12_digest_141 : decode cX12_digest 141 = .ok (.aload_n 0, 1) := by decide +kernel
theorem dX12_digest_142 : decode cX12_digest 142 = .ok (.getfield 140, 3) := by decide +kernel
theorem dX12_digest_145 : decode cX12_digest 145 = .ok (.if_icmp .ge 91, 3) := by decide +kernel
theorem dX12_digest_148 : decode cX12_digest 148 = .ok (.iconst 0, 1) := by decide +kernel
theorem dX12_digest_149 : decode cX12_digest 149 = .ok (.istore 4, 2) := by decide +kernel
theorem dX12_digest_151 : decode cX12_digest 151 = .ok (.iload 4, 2) := by decide +kernel
theorem dX12_digest_153 : decode cX12_digest 153 = .ok (.bipush 6, 2) := by decide +kernel
theorem dX12_digest_155 : decode cX12_digest 155 = .ok (.if_icmp .ge 24, 3) := by decide +kernel
theorem dX12_digest_158 : decode cX12_digest 158 = .ok (.ldc2_w 303, 3) := by decide +kernel
theorem dX12_digest_161 : decode cX12_digest 161 = .ok (.lload_n 1, 1) := by decide +kernel
theorem dX12_digest_162 : decode cX12_digest 162 = .ok (.lmul, 1) := by decide +kernel
theorem dX12_digest_163 : decode cX12_digest 163 = .ok (.aload_n 0, 1) := by decide +kernel
theorem dX12_digest_164 : decode cX12_digest 164 = .ok (.iload_n 3, 1) := by decide +kernel
theorem dX12_digest_165 : decode cX12_digest 165 = .ok (.iload 4, 2) := by decide +kernel
theorem dX12_digest_167 : decode cX12_digest 167 = .ok (.invokevirtual 305, 3) := by decide +kernel
theorem dX12_digest_170 : decode cX12_digest 170 = .ok (.i2l, 1) := by decide +kernel
theorem dX12_digest_171 : decode cX12_digest 171 = .ok (.ladd, 1) := by decide +kernel
theorem dX12_digest_172 : decode cX12_digest 172 = .ok (.lstore_n 1, 1) := by decide +kernel
theorem dX12_digest_173 : decode cX12_digest 173 = .ok (.iinc 4 1, 3) := by decide +kernel
theorem dX12_digest_176 : decode cX12_digest 176 = .ok (.goto (-25), 3) := by decide +kernel
theorem dX12_digest_179 : decode cX12_digest 179 = .ok (.iconst 0, 1) := by decide +kernel
theorem dX12_digest_180 : decode cX12_digest 180 = .ok (.istore 4, 2) := by decide +kernel
theorem dX12_digest_182 : decode cX12_digest 182 = .ok (.iload 4, 2) := by decide +kernel
theorem dX12_digest_184 : decode cX12_digest 184 = .ok (.aload_n 0, 1) := by decide +kernel
theorem dX12_digest_185 : decode cX12_digest 185 = .ok (.iload_n 3, 1) := by decide +kernel
theorem dX12_digest_186 : decode cX12_digest 186 = .ok (.invokevirtual 294, 3) := by decide +kernel
theorem dX12_digest_189 : decode cX12_digest 189 = .ok (.if_icmp .ge 41, 3) := by decide +kernel
theorem dX12_digest_192 : decode cX12_digest 192 = .ok (.iconst 0, 1) := by decide +kernel
theorem dX12_digest_193 : decode cX12_digest 193 = .ok (.istore 5, 2) := by decide +kernel
theorem dX12_digest_195 : decode cX12_digest 195 = .ok (.iload 5, 2) := by decide +kernel
theorem dX12_digest_197 : decode cX12_digest 197 = .ok (.iconst 5, 1) := by decide +kernel
theorem dX12_digest_198 : decode cX12_digest 198 = .ok (.if_icmp .ge 26, 3) := by decide +kernel
theorem dX12_digest_201 : decode cX12_digest 201 = .ok (.ldc2_w 303, 3) := by decide +kernel
theorem dX12_digest_204 : decode cX12_digest 204 = .ok (.lload_n 1, 1) := by decide +kernel
theorem dX12_digest_205 : decode cX12_digest 205 = .ok (.lmul, 1) := by decide +kernel
theorem dX12_digest_206 : decode cX12_digest 206 = .ok (.aload_n 0, 1) := by decide +kernel
theorem dX12_digest_207 : decode cX12_digest 207 = .ok (.iload_n 3, 1) := by decide +kernel
theorem dX12_digest_208 : decode cX12_digest 208 = .ok (.iload 4, 2) := by decide +kernel
theorem dX12_digest_210 : decode cX12_digest 210 = .ok (.iload 5, 2) := by decide +kernel
theorem dX12_digest_212 : decode cX12_digest 212 = .ok (.invokevirtual 308, 3) := by decide +kernel
theorem dX12_digest_215 : decode cX12_digest 215 = .ok (.i2l, 1) := by decide +kernel
theorem dX12_digest_216 : decode cX12_digest 216 = .ok (.ladd, 1) := by decide +kernel
theorem dX12_digest_217 : decode cX12_digest 217 = .ok (.lstore_n 1, 1) := by decide +kernel
theorem dX12_digest_218 : decode cX12_digest 218 = .ok (.iinc 5 1, 3) := by decide +kernel
theorem dX12_digest_221 : decode cX12_digest 221 = .ok (.goto (-26), 3) := by decide +kernel
theorem dX12_digest_224 : decode cX12_digest 224 = .ok (.iinc 4 1, 3) := by decide +kernel
theorem dX12_digest_227 : decode cX12_digest 227 = .ok (.goto (-45), 3) := by decide +kernel
theorem dX12_digest_230 : decode cX12_digest 230 = .ok (.iinc 3 1, 3) := by decide +kernel
theorem dX12_digest_233 : decode cX12_digest 233 = .ok (.goto (-93), 3) := by decide +kernel
theorem dX12_digest_236 : decode cX12_digest 236 = .ok (.lload_n 1, 1) := by decide +kernel
theorem dX12_digest_237 : decode cX12_digest 237 = .ok (.lreturn, 1) := by decide +kernel
theorem dJ7_rangeCheck_23922_0 : decode cJ7_rangeCheck_23922 0 = .ok (.iload_n 1, 1) := by decide +kernel
theorem dJ7_rangeCheck_23922_1 : decode cJ7_rangeCheck_23922 1 = .ok (.iload_n 2, 1) := by decide +kernel
theorem dJ7_rangeCheck_23922_2 : decode cJ7_rangeCheck_23922 2 = .ok (.if_icmp .le 44, 3) := by decide +kernel
theorem dJ7_rangeCheck_23922_5 : decode cJ7_rangeCheck_23922 5 = .ok (.new 43, 3) := by decide +kernel
theorem dJ7_rangeCheck_23922_8 : decode cJ7_rangeCheck_23922 8 = .ok (.dup, 1) := by decide +kernel
theorem dJ7_rangeCheck_23922_9 : decode cJ7_rangeCheck_23922 9 = .ok (.new 45, 3) := by decide +kernel
theorem dJ7_rangeCheck_23922_12 : decode cJ7_rangeCheck_23922 12 = .ok (.dup, 1) := by decide +kernel
theorem dJ7_rangeCheck_23922_13 : decode cJ7_rangeCheck_23922 13 = .ok (.invokespecial 47, 3) := by decide +kernel
theorem dJ7_rangeCheck_23922_16 : decode cJ7_rangeCheck_23922 16 = .ok (.ldc 48, 2) := by decide +kernel
theorem dJ7_rangeCheck_23922_18 : decode cJ7_rangeCheck_23922 18 = .ok (.invokevirtual 50, 3) := by decide +kernel
theorem dJ7_rangeCheck_23922_21 : decode cJ7_rangeCheck_23922 21 = .ok (.iload_n 1, 1) := by decide +kernel
theorem dJ7_rangeCheck_23922_22 : decode cJ7_rangeCheck_23922 22 = .ok (.invokevirtual 54, 3) := by decide +kernel
theorem dJ7_rangeCheck_23922_25 : decode cJ7_rangeCheck_23922 25 = .ok (.ldc 57, 2) := by decide +kernel
theorem dJ7_rangeCheck_23922_27 : decode cJ7_rangeCheck_23922 27 = .ok (.invokevirtual 50, 3) := by decide +kernel
theorem dJ7_rangeCheck_23922_30 : decode cJ7_rangeCheck_23922 30 = .ok (.iload_n 2, 1) := by decide +kernel
theorem dJ7_rangeCheck_23922_31 : decode cJ7_rangeCheck_23922 31 = .ok (.invokevirtual 54, 3) := by decide +kernel
theorem dJ7_rangeCheck_23922_34 : decode cJ7_rangeCheck_23922 34 = .ok (.ldc 59, 2) := by decide +kernel
theorem dJ7_rangeCheck_23922_36 : decode cJ7_rangeCheck_23922 36 = .ok (.invokevirtual 50, 3) := by decide +kernel
theorem dJ7_rangeCheck_23922_39 : decode cJ7_rangeCheck_23922 39 = .ok (.invokevirtual 61, 3) := by decide +kernel
theorem dJ7_rangeCheck_23922_42 : decode cJ7_rangeCheck_23922 42 = .ok (.invokespecial 65, 3) := by decide +kernel
theorem dJ7_rangeCheck_23922_45 : decode cJ7_rangeCheck_23922 45 = .ok (.athrow, 1) := by decide +kernel
theorem dJ7_rangeCheck_23922_46 : decode cJ7_rangeCheck_23922 46 = .ok (.iload_n 1, 1) := by decide +kernel
theorem dJ7_rangeCheck_23922_47 : decode cJ7_rangeCheck_23922 47 = .ok (.ifCond .ge 12, 3) := by decide +kernel
theorem dJ7_rangeCheck_23922_50 : decode cJ7_rangeCheck_23922 50 = .ok (.new 68, 3) := by decide +kernel
theorem dJ7_rangeCheck_23922_53 : decode cJ7_rangeCheck_23922 53 = .ok (.dup, 1) := by decide +kernel
theorem dJ7_rangeCheck_23922_54 : decode cJ7_rangeCheck_23922 54 = .ok (.iload_n 1, 1) := by decide +kernel
theorem dJ7_rangeCheck_23922_55 : decode cJ7_rangeCheck_23922 55 = .ok (.invokespecial 70, 3) := by decide +kernel
theorem dJ7_rangeCheck_23922_58 : decode cJ7_rangeCheck_23922 58 = .ok (.athrow, 1) := by decide +kernel
theorem dJ7_rangeCheck_23922_59 : decode cJ7_rangeCheck_23922 59 = .ok (.iload_n 2, 1) := by decide +kernel
theorem dJ7_rangeCheck_23922_60 : decode cJ7_rangeCheck_23922 60 = .ok (.iload_n 0, 1) := by decide +kernel
theorem dJ7_rangeCheck_23922_61 : decode cJ7_rangeCheck_23922 61 = .ok (.if_icmp .le 12, 3) := by decide +kernel
theorem dJ7_rangeCheck_23922_64 : decode cJ7_rangeCheck_23922 64 = .ok (.new 68, 3) := by decide +kernel
theorem dJ7_rangeCheck_23922_67 : decode cJ7_rangeCheck_23922 67 = .ok (.dup, 1) := by decide +kernel
theorem dJ7_rangeCheck_23922_68 : decode cJ7_rangeCheck_23922 68 = .ok (.iload_n 2, 1) := by decide +kernel
theorem dJ7_rangeCheck_23922_69 : decode cJ7_rangeCheck_23922 69 = .ok (.invokespecial 70, 3) := by decide +kernel
theorem dJ7_rangeCheck_23922_72 : decode cJ7_rangeCheck_23922 72 = .ok (.athrow, 1) := by decide +kernel
theorem dJ7_rangeCheck_23922_73 : decode cJ7_rangeCheck_23922 73 = .ok (.return_, 1) := by decide +kernel
theorem dJ7_fill_53178_0 : decode cJ7_fill_53178 0 = .ok (.iconst 0, 1) := by decide +kernel
theorem dJ7_fill_53178_1 : decode cJ7_fill_53178 1 = .ok (.istore_n 2, 1) := by decide +kernel
theorem dJ7_fill_53178_2 : decode cJ7_fill_53178 2 = .ok (.aload_n 0, 1) := by decide +kernel
theorem dJ7_fill_53178_3 : decode cJ7_fill_53178 3 = .ok (.arraylength, 1) := by decide +kernel
theorem dJ7_fill_53178_4 : decode cJ7_fill_53178 4 = .ok (.istore_n 3, 1) := by decide +kernel
theorem dJ7_fill_53178_5 : decode cJ7_fill_53178 5 = .ok (.iload_n 2, 1) := by decide +kernel
theorem dJ7_fill_53178_6 : decode cJ7_fill_53178 6 = .ok (.iload_n 3, 1) := by decide +kernel
theorem dJ7_fill_53178_7 : decode cJ7_fill_53178 7 = .ok (.if_icmp .ge 13, 3) := by decide +kernel
theorem dJ7_fill_53178_10 : decode cJ7_fill_53178 10 = .ok (.aload_n 0, 1) := by decide +kernel
theorem dJ7_fill_53178_11 : decode cJ7_fill_53178 11 = .ok (.iload_n 2, 1) := by decide +kernel
theorem dJ7_fill_53178_12 : decode cJ7_fill_53178 12 = .ok (.iload_n 1, 1) := by decide +kernel
theorem dJ7_fill_53178_13 : decode cJ7_fill_53178 13 = .ok (.iastore, 1) := by decide +kernel
theorem dJ7_fill_53178_14 : decode cJ7_fill_53178 14 = .ok (.iinc 2 1, 3) := by decide +kernel
theorem dJ7_fill_53178_17 : decode cJ7_fill_53178 17 = .ok (.goto (-12), 3) := by decide +kernel
theorem dJ7_fill_53178_20 : decode cJ7_fill_53178 20 = .ok (.return_, 1) := by decide +kernel
theorem dJ7_fill_fda19_0 : decode cJ7_fill_fda19 0 = .ok (.aload_n 0, 1) := by decide +kernel
theorem dJ7_fill_fda19_1 : decode cJ7_fill_fda19 1 = .ok (.arraylength, 1) := by decide +kernel
theorem dJ7_fill_fda19_2 : decode cJ7_fill_fda19 2 = .ok (.iload_n 1, 1) := by decide +kernel
theorem dJ7_fill_fda19_3 : decode cJ7_fill_fda19 3 = .ok (.iload_n 2, 1) := by decide +kernel
theorem dJ7_fill_fda19_4 : decode cJ7_fill_fda19 4 = .ok (.invokestatic 13, 3) := by decide +kernel
theorem dJ7_fill_fda19_7 : decode cJ7_fill_fda19 7 = .ok (.iload_n 1, 1) := by decide +kernel
theorem dJ7_fill_fda19_8 : decode cJ7_fill_fda19 8 = .ok (.istore 4, 2) := by decide +kernel
theorem dJ7_fill_fda19_10 : decode cJ7_fill_fda19 10 = .ok (.iload 4, 2) := by decide +kernel
theorem dJ7_fill_fda19_12 : decode cJ7_fill_fda19 12 = .ok (.iload_n 2, 1) := by decide +kernel
theorem dJ7_fill_fda19_13 : decode cJ7_fill_fda19 13 = .ok (.if_icmp .ge 14, 3) := by decide +kernel
theorem dJ7_fill_fda19_16 : decode cJ7_fill_fda19 16 = .ok (.aload_n 0, 1) := by decide +kernel
theorem dJ7_fill_fda19_17 : decode cJ7_fill_fda19 17 = .ok (.iload 4, 2) := by decide +kernel
theorem dJ7_fill_fda19_19 : decode cJ7_fill_fda19 19 = .ok (.iload_n 3, 1) := by decide +kernel
theorem dJ7_fill_fda19_20 : decode cJ7_fill_fda19 20 = .ok (.iastore, 1) := by decide +kernel
theorem dJ7_fill_fda19_21 : decode cJ7_fill_fda19 21 = .ok (.iinc 4 1, 3) := by decide +kernel
theorem dJ7_fill_fda19_24 : decode cJ7_fill_fda19 24 = .ok (.goto (-14), 3) := by decide +kernel
theorem dJ7_fill_fda19_27 : decode cJ7_fill_fda19 27 = .ok (.return_, 1) := by decide +kernel
theorem dL_law_0 : decode cL_law 0 = .ok (.new 7, 3) := by decide +kernel
theorem dL_law_3 : decode cL_law 3 = .ok (.dup, 1) := by decide +kernel
theorem dL_law_4 : decode cL_law 4 = .ok (.invokespecial 9, 3) := by decide +kernel
theorem dL_law_7 : decode cL_law 7 = .ok (.astore_n 1, 1) := by decide +kernel
theorem dL_law_8 : decode cL_law 8 = .ok (.new 10, 3) := by decide +kernel
theorem dL_law_11 : decode cL_law 11 = .ok (.dup, 1) := by decide +kernel
theorem dL_law_12 : decode cL_law 12 = .ok (.invokespecial 12, 3) := by decide +kernel
theorem dL_law_15 : decode cL_law 15 = .ok (.astore_n 2, 1) := by decide +kernel
theorem dL_law_16 : decode cL_law 16 = .ok (.iconst 0, 1) := by decide +kernel
theorem dL_law_17 : decode cL_law 17 = .ok (.istore_n 3, 1) := by decide +kernel
theorem dL_law_18 : decode cL_law 18 = .ok (.iload_n 3, 1) := by decide +kernel
theorem dL_law_19 : decode cL_law 19 = .ok (.aload_n 0, 1) := by decide +kernel
theorem dL_law_20 : decode cL_law 20 = .ok (.arraylength, 1) := by decide +kernel
theorem dL_law_21 : decode cL_law 21 = .ok (.iconst 5, 1) := by decide +kernel
theorem dL_law_22 : decode cL_law 22 = .ok (.isub, 1) := by decide +kernel
theorem dL_law_23 : decode cL_law 23 = .ok (.if_icmp .gt 618, 3) := by decide +kernel
theorem dL_law_26 : decode cL_law 26 = .ok (.aload_n 0, 1) := by decide +kernel
theorem dL_law_27 : decode cL_law 27 = .ok (.iload_n 3, 1) := by decide +kernel
theorem dL_law_28 : decode cL_law 28 = .ok (.iaload, 1) := by decide +kernel
theorem dL_law_29 : decode cL_law 29 = .ok (.bipush 31, 2) := by decide +kernel
theorem dL_law_31 : decode cL_law 31 = .ok (.iand, 1) := by decide +kernel
theorem dL_law_32 : decode cL_law 32 = .ok (.tableswitch 603 0 17 #[88, 121, 164, 187, 200, 233, 256, 279, 302, 335, 388, 401, 424, 457, 500, 533, 566, 589], 88) := by decide +kernel
theorem dL_law_120 : decode cL_law 120 = .ok (.aload_n 1, 1) := by decide +kernel
theorem dL_law_121 : decode cL_law 121 = .ok (.aload_n 0, 1) := by decide +kernel
theorem dL_law_122 : decode cL_law 122 = .ok (.iload_n 3, 1) := by decide +kernel
theorem dL_law_123 : decode cL_law 123 = .ok (.iconst 1, 1) := by decide +kernel
theorem dL_law_124 : decode cL_law 124 = .ok (.iadd, 1) := by decide +kernel
theorem dL_law_125 : decode cL_law 125 = .ok (.iaload, 1) := by decide +kernel
theorem dL_law_126 : decode cL_law 126 = .ok (.aload_n 0, 1) := by decide +kernel
theorem dL_law_127 : decode cL_law 127 = .ok (.iload_n 3, 1) := by decide +kernel
theorem dL_law_128 : decode cL_law 128 = .ok (.iconst 2, 1) := by decide +kernel
theorem dL_law_129 : decode cL_law 129 = .ok (.iadd, 1) := by decide +kernel
theorem dL_law_130 : decode cL_law 130 = .ok (.iaload, 1) := by decide +kernel
theorem dL_law_131 : decode cL_law 131 = .ok (.invokevirtual 13, 3) := by decide +kernel
theorem dL_law_134 : decode cL_law 134 = .ok (.aload_n 2, 1) := by decide +kernel
theorem dL_law_135 : decode cL_law 135 = .ok (.aload_n 0, 1) := by decide +kernel
theorem dL_law_136 : decode cL_law 136 = .ok (.iload_n 3, 1) := by decide +kernel
theorem dL_law_137 : decode cL_law 137 = .ok (.iconst 1, 1) := by decide +kernel
theorem dL_law_138 : decode cL_law 138 = .ok (.iadd, 1) := by decide +kernel
theorem dL_law_139 : decode cL_law 139 = .ok (.iaload, 1) := by decide +kernel
theorem dL_law_140 : decode cL_law 140 = .ok (.aload_n 0, 1) := by decide +kernel
theorem dL_law_141 : decode cL_law 141 = .ok (.iload_n 3, 1) := by decide +kernel
theorem dL_law_142 : decode cL_law 142 = .ok (.iconst 2, 1) := by decide +kernel
theorem dL_law_143 : decode cL_law 143 = .ok (.iadd, 1) := by decide +kernel
theorem dL_law_144 : decode cL_law 144 = .ok (.iaload, 1) := by decide +kernel
theorem dL_law_145 : decode cL_law 145 = .ok (.invokevirtual 17, 3) := by decide +kernel
theorem dL_law_148 : decode cL_law 148 = .ok (.if_icmp .eq 487, 3) := by decide +kernel
theorem dL_law_151 : decode cL_law 151 = .ok (.iconst 0, 1) := by decide +kernel
theorem dL_law_152 : decode cL_law 152 = .ok (.ireturn, 1) := by decide +kernel
theorem dL_law_153 : decode cL_law 153 = .ok (.aload_n 1, 1) := by decide +kernel
theorem dL_law_154 : decode cL_law 154 = .ok (.aload_n 0, 1) := by decide +kernel
theorem dL_law_155 : decode cL_law 155 = .ok (.iload_n 3, 1) := by decide +kernel
theorem dL_law_156 : decode cL_law 156 = .ok (.iconst 1, 1) := by decide +kernel
theorem dL_law_157 : decode cL_law 157 = .ok (.iadd, 1) := by decide +kernel
theorem dL_law_158 : decode cL_law 158 = .ok (.iaload, 1) := by decide +kernel
theorem dL_law_159 : decode cL_law 159 = .ok (.aload_n 0, 1) := by decide +kernel
theorem dL_law_160 : decode cL_law 160 = .ok (.iload_n 3, 1) := by decide +kernel
theorem dL_law_161 : decode cL_law 161 = .ok (.iconst 2, 1) := by decide +kernel
theorem dL_law_162 : decode cL_law 162 = .ok (.iadd, 1) := by decide +kernel
theorem dL_law_163 : decode cL_law 163 = .ok (.iaload, 1) := by decide +kernel
theorem dL_law_164 : decode cL_law 164 = .ok (.aload_n 0, 1) := by decide +kernel
theorem dL_law_165 : decode cL_law 165 = .ok (.iload_n 3, 1) := by decide +kernel
theorem dL_law_166 : decode cL_law 166 = .ok (.iconst 3, 1) := by decide +kernel
theorem dL_law_167 : decode cL_law 167 = .ok (.iadd, 1) := by decide +kernel
theorem dL_law_168 : decode cL_law 168 = .ok (.iaload, 1) := by decide +kernel
theorem dL_law_169 : decode cL_law 169 = .ok (.invokevirtual 18, 3) := by decide +kernel
theorem dL_law_172 : decode cL_law 172 = .ok (.aload_n 2, 1) := by decide +kernel
theorem dL_law_173 : decode cL_law 173 = .ok (.aload_n 0, 1) := by decide +kernel
theorem dL_law_174 : decode cL_law 174 = .ok (.iload_n 3, 1) := by decide +kernel
theorem dL_law_175 : decode cL_law 175 = .ok (.iconst 1, 1) := by decide +kernel
theorem dL_law_176 : decode cL_law 176 = .ok (.iadd, 1) := by decide +kernel
theorem dL_law_177 : decode cL_law 177 = .ok (.iaload, 1) := by decide +kernel
theorem dL_law_178 : decode cL_law 178 = .ok (.aload_n 0, 1) := by decide +kernel
theorem dL_law_179 : decode cL_law 179 = .ok (.iload_n 3, 1) := by decide +kernel
theorem dL_law_180 : decode cL_law 180 = .ok (.iconst 2, 1) := by decide +kernel
theorem dL_law_181 : decode cL_law 181 = .ok (.iadd, 1) := by decide +kernel
theorem dL_law_182 : decode cL_law 182 = .ok (.iaload, 1) := by decide +kernel
theorem dL_law_183 : decode cL_law 183 = .ok (.aload_n 0, 1) := by decide +kernel
theorem dL_law_184 : decode cL_law 184 = .ok (.iload_n 3, 1) := by decide +kernel
theorem dL_law_185 : decode cL_law 185 = .ok (.iconst 3, 1) := by decide +kernel
theorem dL_law_186 : decode cL_law 186 = .ok (.iadd, 1) := by decide +kernel
theorem dL_law_187 : decode cL_law 187 = .ok (.iaload, 1) := by decide +kernel
theorem dL_law_188 : decode cL_law 188 = .ok (.invokevirtual 22, 3) := by decide +kernel
theorem dL_law_191 : decode cL_law 191 = .ok (.if_icmp .eq 444, 3) := by decide +kernel
theorem dL_law_194 : decode cL_law 194 = .ok (.iconst 0, 1) := by decide +kernel
theorem dL_law_195 : decode cL_law 195 = .ok (.ireturn, 1) := by decide +kernel
theorem dL_law_196 : decode cL_law 196 = .ok (.aload_n 1, 1) := by decide +kernel
theorem dL_law_197 : decode cL_law 197 = .ok (.aload_n 0, 1) := by decide +kernel
theorem dL_law_198 : decode cL_law 198 = .ok (.iload_n 3, 1) := by decide +kernel
theorem dL_law_199 : decode cL_law 199 = .ok (.iconst 1, 1) := by decide +kernel
theorem dL_law_200 : decode cL_law 200 = .ok (.iadd, 1) := by decide +kernel
theorem dL_law_201 : decode cL_law 201 = .ok (.iaload, 1) := by decide +kernel
theorem dL_law_202 : decode cL_law 202 = .ok (.invokevirtual 23, 3) := by decide +kernel
theorem dL_law_205 : decode cL_law 205 = .ok (.aload_n 2, 1) := by decide +kernel
theorem dL_law_206 : decode cL_law 206 = .ok (.aload_n 0, 1) := by decide +kernel
theorem dL_law_207 : decode cL_law 207 = .ok (.iload_n 3, 1) := by decide +kernel
theorem dL_law_208 : decode cL_law 208 = .ok (.iconst 1, 1) := by decide +kernel
theorem dL_law_209 : decode cL_law 209 = .ok (.iadd, 1) := by decide +kernel
theorem dL_law_210 : decode cL_law 210 = .ok (.iaload, 1) := by decide +kernel
theorem dL_law_211 : decode cL_law 211 = .ok (.invokevirtual 27, 3) := by decide +kernel
theorem dL_law_214 : decode cL_law 214 = .ok (.if_icmp .eq 421, 3) := by decide +kernel
theorem dL_law_217 : decode cL_law 217 = .ok (.iconst 0, 1) := by decide +kernel
theorem dL_law_218 : decode cL_law 218 = .ok (.ireturn, 1) := by decide +kernel
theorem dL_law_219 : decode cL_law 219 = .ok (.aload_n 1, 1) := by decide +kernel
theorem dL_law_220 : decode cL_law 220 = .ok (.invokevirtual 28, 3) := by decide +kernel
theorem dL_law_223 : decode cL_law 223 = .ok (.aload_n 2, 1) := by decide +kernel
theorem dL_law_224 : decode cL_law 224 = .ok (.invokevirtual 32, 3) := by decide +kernel
theorem dL_law_227 : decode cL_law 227 = .ok (.if_icmp .eq 408, 3) := by decide +kernel
theorem dL_law_230 : decode cL_law 230 = .ok (.iconst 0, 1) := by decide +kernel
theorem dL_law_231 : decode cL_law 231 = .ok (.ireturn, 1) := by decide +kernel
theorem dL_law_232 : decode cL_law 232 = .ok (.aload_n 1, 1) := by decide +kernel
theorem dL_law_233 : decode cL_law 233 = .ok (.aload_n 0, 1) := by decide +kernel
theorem dL_law_234 : decode cL_law 234 = .ok (.iload_n 3, 1) := by decide +kernel
theorem dL_law_235 : decode cL_law 235 = .ok (.iconst 1, 1) := by decide +kernel
theorem dL_law_236 : decode cL_law 236 = .ok (.iadd, 1) := by decide +kernel
theorem dL_law_237 : decode cL_law 237 = .ok (.iaload, 1) := by decide +kernel
theorem dL_law_238 : decode cL_law 238 = .ok (.aload_n 0, 1) := by decide +kernel
theorem dL_law_239 : decode cL_law 239 = .ok (.iload_n 3, 1) := by decide +kernel
theorem dL_law_240 : decode cL_law 240 = .ok (.iconst 2, 1) := by decide +kernel
theorem dL_law_241 : decode cL_law 241 = .ok (.iadd, 1) := by decide +kernel
theorem dL_law_242 : decode cL_law 242 = .ok (.iaload, 1) := by decide +kernel
theorem dL_law_243 : decode cL_law 243 = .ok (.invokevirtual 33, 3) := by decide +kernel
theorem dL_law_246 : decode cL_law 246 = .ok (.aload_n 2, 1) := by decide +kernel
theorem dL_law_247 : decode cL_law 247 = .ok (.aload_n 0, 1) := by decide +kernel
theorem dL_law_248 : decode cL_law 248 = .ok (.iload_n 3, 1) := by decide +kernel
theorem dL_law_249 : decode cL_law 249 = .ok (.iconst 1, 1) := by decide +kernel
theorem dL_law_250 : decode cL_law 250 = .ok (.iadd, 1) := by decide +kernel
theorem dL_law_251 : decode cL_law 251 = .ok (.iaload, 1) := by decide +kernel
theorem dL_law_252 : decode cL_law 252 = .ok (.aload_n 0, 1) := by decide +kernel
theorem dL_law_253 : decode cL_law 253 = .ok (.iload_n 3, 1) := by decide +kernel
theorem dL_law_254 : decode cL_law 254 = .ok (.iconst 2, 1) := by decide +kernel
theorem dL_law_255 : decode cL_law 255 = .ok (.iadd, 1) := by decide +kernel
theorem dL_law_256 : decode cL_law 256 = .ok (.iaload, 1) := by decide +kernel
theorem dL_law_257 : decode cL_law 257 = .ok (.invokevirtual 36, 3) := by decide +kernel
theorem dL_law_260 : decode cL_law 260 = .ok (.if_icmp .eq 375, 3) := by decide +kernel
theorem dL_law_263 : decode cL_law 263 = .ok (.iconst 0, 1) := by decide +kernel
theorem dL_law_264 : decode cL_law 264 = .ok (.ireturn, 1) := by decide +kernel
theorem dL_law_265 : decode cL_law 265 = .ok (.aload_n 1, 1) := by decide +kernel
theorem dL_law_266 : decode cL_law 266 = .ok (.aload_n 0, 1) := by decide +kernel
theorem dL_law_267 : decode cL_law 267 = .ok (.iload_n 3, 1) := by decide +kernel
theorem dL_law_268 : decode cL_law 268 = .ok (.iconst 1, 1) := by decide +kernel
theorem dL_law_269 : decode cL_law 269 = .ok (.iadd, 1) := by decide +kernel
theorem dL_law_270 : decode cL_law 270 = .ok (.iaload, 1) := by decide +kernel
theorem dL_law_271 : decode cL_law 271 = .ok (.invokevirtual 37, 3) := by decide +kernel
theorem dL_law_274 : decode cL_law 274 = .ok (.aload_n 2, 1) := by decide +kernel
theorem dL_law_275 : decode cL_law 275 = .ok (.aload_n 0, 1) := by decide +kernel
theorem dL_law_276 : decode cL_law 276 = .ok (.iload_n 3, 1) := by decide +kernel
theorem dL_law_277 : decode cL_law 277 = .ok (.iconst 1, 1) := by decide +kernel
theorem dL_law_278 : decode cL_law 278 = .ok (.iadd, 1) := by decide +kernel
theorem dL_law_279 : decode cL_law 279 = .ok (.iaload, 1) := by decide +kernel
theorem dL_law_280 : decode cL_law 280 = .ok (.invokevirtual 40, 3) := by decide +kernel
theorem dL_law_283 : decode cL_law 283 = .ok (.if_icmp .eq 352, 3) := by decide +kernel
theorem dL_law_286 : decode cL_law 286 = .ok (.iconst 0, 1) := by decide +kernel
theorem dL_law_287 : decode cL_law 287 = .ok (.ireturn, 1) := by decide +kernel
theorem dL_law_288 : decode cL_law 288 = .ok (.aload_n 1, 1) := by decide +kernel
theorem dL_law_289 : decode cL_law 289 = .ok (.aload_n 0, 1) := by decide +kernel
theorem dL_law_290 : decode cL_law 290 = .ok (.iload_n 3, 1) := by decide +kernel
theorem dL_law_291 : decode cL_law 291 = .ok (.iconst 1, 1) := by decide +kernel
theorem dL_law_292 : decode cL_law 292 = .ok (.iadd, 1) := by decide +kernel
theorem dL_law_293 : decode cL_law 293 = .ok (.iaload, 1) := by decide +kernel
theorem dL_law_294 : decode cL_law 294 = .ok (.invokevirtual 41, 3) := by decide +kernel
theorem dL_law_297 : decode cL_law 297 = .ok (.aload_n 2, 1) := by decide +kernel
theorem dL_law_298 : decode cL_law 298 = .ok (.aload_n 0, 1) := by decide +kernel
theorem dL_law_299 : decode cL_law 299 = .ok (.iload_n 3, 1) := by decide +kernel
theorem dL_law_300 : decode cL_law 300 = .ok (.iconst 1, 1) := by decide +kernel
theorem dL_law_301 : decode cL_law 301 = .ok (.iadd, 1) := by decide +kernel
theorem dL_law_302 : decode cL_law 302 = .ok (.iaload, 1) := by decide +kernel
theorem dL_law_303 : decode cL_law 303 = .ok (.invokevirtual 44, 3) := by decide +kernel
theorem dL_law_306 : decode cL_law 306 = .ok (.if_icmp .eq 329, 3) := by decide +kernel
theorem dL_law_309 : decode cL_law 309 = .ok (.iconst 0, 1) := by decide +kernel
theorem dL_law_310 : decode cL_law 310 = .ok (.ireturn, 1) := by decide +kernel
theorem dL_law_311 : decode cL_law 311 = .ok (.aload_n 1, 1) := by decide +kernel
theorem dL_law_312 : decode cL_law 312 = .ok (.aload_n 0, 1) := by decide +kernel
theorem dL_law_313 : decode cL_law 313 = .ok (.iload_n 3, 1) := by decide +kernel
theorem dL_law_314 : decode cL_law 314 = .ok (.iconst 1, 1) := by decide +kernel
theorem dL_law_315 : decode cL_law 315 = .ok (.iadd, 1) := by decide +kernel
theorem dL_law_316 : decode cL_law 316 = .ok (.iaload, 1) := by decide +kernel
theorem dL_law_317 : decode cL_law 317 = .ok (.invokevirtual 45, 3) := by decide +kernel
theorem dL_law_320 : decode cL_law 320 = .ok (.aload_n 2, 1) := by decide +kernel
theorem dL_law_321 : decode cL_law 321 = .ok (.aload_n 0, 1) := by decide +kernel
theorem dL_law_322 : decode cL_law 322 = .ok (.iload_n 3, 1) := by decide +kernel
theorem dL_law_323 : decode cL_law 323 = .ok (.iconst 1, 1) := by decide +kernel
theorem dL_law_324 : decode cL_law 324 = .ok (.iadd, 1) := by decide +kernel
theorem dL_law_325 : decode cL_law 325 = .ok (.iaload, 1) := by decide +kernel
theorem dL_law_326 : decode cL_law 326 = .ok (.invokevirtual 48, 3) := by decide +kernel
theorem dL_law_329 : decode cL_law 329 = .ok (.if_icmp .eq 306, 3) := by decide +kernel
theorem dL_law_332 : decode cL_law 332 = .ok (.iconst 0, 1) := by decide +kernel
theorem dL_law_333 : decode cL_law 333 = .ok (.ireturn, 1) := by decide +kernel
theorem dL_law_334 : decode cL_law 334 = .ok (.aload_n 1, 1) := by decide +kernel
theorem dL_law_335 : decode cL_law 335 = .ok (.aload_n 0, 1) := by decide +kernel
theorem dL_law_336 : decode cL_law 336 = .ok (.iload_n 3, 1) := by decide +kernel
theorem dL_law_337 : decode cL_law 337 = .ok (.iconst 1, 1) := by decide +kernel
theorem dL_law_338 : decode cL_law 338 = .ok (.iadd, 1) := by decide +kernel
theorem dL_law_339 : decode cL_law 339 = .ok (.iaload, 1) := by decide +kernel
theorem dL_law_340 : decode cL_law 340 = .ok (.aload_n 0, 1) := by decide +kernel
theorem dL_law_341 : decode cL_law 341 = .ok (.iload_n 3, 1) := by decide +kernel
theorem dL_law_342 : decode cL_law 342 = .ok (.iconst 2, 1) := by decide +kernel
theorem dL_law_343 : decode cL_law 343 = .ok (.iadd, 1) := by decide +kernel
theorem dL_law_344 : decode cL_law 344 = .ok (.iaload, 1) := by decide +kernel
theorem dL_law_345 : decode cL_law 345 = .ok (.invokevirtual 49, 3) := by decide +kernel
theorem dL_law_348 : decode cL_law 348 = .ok (.aload_n 2, 1) := by decide +kernel
theorem dL_law_349 : decode cL_law 349 = .ok (.aload_n 0, 1) := by decide +kernel
theorem dL_law_350 : decode cL_law 350 = .ok (.iload_n 3, 1) := by decide +kernel
theorem dL_law_351 : decode cL_law 351 = .ok (.iconst 1, 1) := by decide +kernel
theorem dL_law_352 : decode cL_law 352 = .ok (.iadd, 1) := by decide +kernel
theorem dL_law_353 : decode cL_law 353 = .ok (.iaload, 1) := by decide +kernel
theorem dL_law_354 : decode cL_law 354 = .ok (.aload_n 0, 1) := by decide +kernel
theorem dL_law_355 : decode cL_law 355 = .ok (.iload_n 3, 1) := by decide +kernel
theorem dL_law_356 : decode cL_law 356 = .ok (.iconst 2, 1) := by decide +kernel
theorem dL_law_357 : decode cL_law 357 = .ok (.iadd, 1) := by decide +kernel
theorem dL_law_358 : decode cL_law 358 = .ok (.iaload, 1) := by decide +kernel
theorem dL_law_359 : decode cL_law 359 = .ok (.invokevirtual 52, 3) := by decide +kernel
theorem dL_law_362 : decode cL_law 362 = .ok (.if_icmp .eq 273, 3) := by decide +kernel
theorem dL_law_365 : decode cL_law 365 = .ok (.iconst 0, 1) := by decide +kernel
theorem dL_law_366 : decode cL_law 366 = .ok (.ireturn, 1) := by decide +kernel
theorem dL_law_367 : decode cL_law 367 = .ok (.aload_n 1, 1) := by decide +kernel
theorem dL_law_368 : decode cL_law 368 = .ok (.aload_n 0, 1) := by decide +kernel
theorem dL_law_369 : decode cL_law 369 = .ok (.iload_n 3, 1) := by decide +kernel
theorem dL_law_370 : decode cL_law 370 = .ok (.iconst 1, 1) := by decide +kernel
theorem dL_law_371 : decode cL_law 371 = .ok (.iadd, 1) := by decide +kernel
theorem dL_law_372 : decode cL_law 372 = .ok (.iaload, 1) := by decide +kernel
theorem dL_law_373 : decode cL_law 373 = .ok (.aload_n 0, 1) := by decide +kernel
theorem dL_law_374 : decode cL_law 374 = .ok (.iload_n 3, 1) := by decide +kernel
theorem dL_law_375 : decode cL_law 375 = .ok (.iconst 2, 1) := by decide +kernel
theorem dL_law_376 : decode cL_law 376 = .ok (.iadd, 1) := by decide +kernel
theorem dL_law_377 : decode cL_law 377 = .ok (.iaload, 1) := by decide +kernel
theorem dL_law_378 : decode cL_law 378 = .ok (.aload_n 0, 1) := by decide +kernel
theorem dL_law_379 : decode cL_law 379 = .ok (.iload_n 3, 1) := by decide +kernel
theorem dL_law_380 : decode cL_law 380 = .ok (.iconst 3, 1) := by decide +kernel
theorem dL_law_381 : decode cL_law 381 = .ok (.iadd, 1) := by decide +kernel
theorem dL_law_382 : decode cL_law 382 = .ok (.iaload, 1) := by decide +kernel
theorem dL_law_383 : decode cL_law 383 = .ok (.aload_n 0, 1) := by decide +kernel
theorem dL_law_384 : decode cL_law 384 = .ok (.iload_n 3, 1) := by decide +kernel
theorem dL_law_385 : decode cL_law 385 = .ok (.iconst 4, 1) := by decide +kernel
theorem dL_law_386 : decode cL_law 386 = .ok (.iadd, 1) := by decide +kernel
theorem dL_law_387 : decode cL_law 387 = .ok (.iaload, 1) := by decide +kernel
theorem dL_law_388 : decode cL_law 388 = .ok (.invokevirtual 53, 3) := by decide +kernel
theorem dL_law_391 : decode cL_law 391 = .ok (.aload_n 2, 1) := by decide +kernel
theorem dL_law_392 : decode cL_law 392 = .ok (.aload_n 0, 1) := by decide +kernel
theorem dL_law_393 : decode cL_law 393 = .ok (.iload_n 3, 1) := by decide +kernel
theorem dL_law_394 : decode cL_law 394 = .ok (.iconst 1, 1) := by decide +kernel
theorem dL_law_395 : decode cL_law 395 = .ok (.iadd, 1) := by decide +kernel
theorem dL_law_396 : decode cL_law 396 = .ok (.iaload, 1) := by decide +kernel
theorem dL_law_397 : decode cL_law 397 = .ok (.aload_n 0, 1) := by decide +kernel
theorem dL_law_398 : decode cL_law 398 = .ok (.iload_n 3, 1) := by decide +kernel
theorem dL_law_399 : decode cL_law 399 = .ok (.iconst 2, 1) := by decide +kernel
theorem dL_law_400 : decode cL_law 400 = .ok (.iadd, 1) := by decide +kernel
theorem dL_law_401 : decode cL_law 401 = .ok (.iaload, 1) := by decide +kernel
theorem dL_law_402 : decode cL_law 402 = .ok (.aload_n 0, 1) := by decide +kernel
theorem dL_law_403 : decode cL_law 403 = .ok (.iload_n 3, 1) := by decide +kernel
theorem dL_law_404 : decode cL_law 404 = .ok (.iconst 3, 1) := by decide +kernel
theorem dL_law_405 : decode cL_law 405 = .ok (.iadd, 1) := by decide +kernel
theorem dL_law_406 : decode cL_law 406 = .ok (.iaload, 1) := by decide +kernel
theorem dL_law_407 : decode cL_law 407 = .ok (.aload_n 0, 1) := by decide +kernel
theorem dL_law_408 : decode cL_law 408 = .ok (.iload_n 3, 1) := by decide +kernel
theorem dL_law_409 : decode cL_law 409 = .ok (.iconst 4, 1) := by decide +kernel
theorem dL_law_410 : decode cL_law 410 = .ok (.iadd, 1) := by decide +kernel
theorem dL_law_411 : decode cL_law 411 = .ok (.iaload, 1) := by decide +kernel
theorem dL_law_412 : decode cL_law 412 = .ok (.invokevirtual 57, 3) := by decide +kernel
theorem dL_law_415 : decode cL_law 415 = .ok (.if_icmp .eq 220, 3) := by decide +kernel
theorem dL_law_418 : decode cL_law 418 = .ok (.iconst 0, 1) := by decide +kernel
theorem dL_law_419 : decode cL_law 419 = .ok (.ireturn, 1) := by decide +kernel
theorem dL_law_420 : decode cL_law 420 = .ok (.aload_n 1, 1) := by decide +kernel
theorem dL_law_421 : decode cL_law 421 = .ok (.invokevirtual 58, 3) := by decide +kernel
theorem dL_law_424 : decode cL_law 424 = .ok (.aload_n 2, 1) := by decide +kernel
theorem dL_law_425 : decode cL_law 425 = .ok (.invokevirtual 61, 3) := by decide +kernel
theorem dL_law_428 : decode cL_law 428 = .ok (.if_icmp .eq 207, 3) := by decide +kernel
theorem dL_law_431 : decode cL_law 431 = .ok (.iconst 0, 1) := by decide +kernel
theorem dL_law_432 : decode cL_law 432 = .ok (.ireturn, 1) := by decide +kernel
theorem dL_law_433 : decode cL_law 433 = .ok (.aload_n 1, 1) := by decide +kernel
theorem dL_law_434 : decode cL_law 434 = .ok (.aload_n 0, 1) := by decide +kernel
theorem dL_law_435 : decode cL_law 435 = .ok (.iload_n 3, 1) := by decide +kernel
theorem dL_law_436 : decode cL_law 436 = .ok (.iconst 1, 1) := by decide +kernel
theorem dL_law_437 : decode cL_law 437 = .ok (.iadd, 1) := by decide +kernel
theorem dL_law_438 : decode cL_law 438 = .ok (.iaload, 1) := by decide +kernel
theorem dL_law_439 : decode cL_law 439 = .ok (.invokevirtual 62, 3) := by decide +kernel
theorem dL_law_442 : decode cL_law 442 = .ok (.aload_n 2, 1) := by decide +kernel
theorem dL_law_443 : decode cL_law 443 = .ok (.aload_n 0, 1) := by decide +kernel
theorem dL_law_444 : decode cL_law 444 = .ok (.iload_n 3, 1) := by decide +kernel
theorem dL_law_445 : decode cL_law 445 = .ok (.iconst 1, 1) := by decide +kernel
theorem dL_law_446 : decode cL_law 446 = .ok (.iadd, 1) := by decide +kernel
theorem dL_law_447 : decode cL_law 447 = .ok (.iaload, 1) := by decide +kernel
theorem dL_law_448 : decode cL_law 448 = .ok (.invokevirtual 65, 3) := by decide +kernel
theorem dL_law_451 : decode cL_law 451 = .ok (.if_icmp .eq 184, 3) := by decide +kernel
theorem dL_law_454 : decode cL_law 454 = .ok (.iconst 0, 1) := by decide +kernel
theorem dL_law_455 : decode cL_law 455 = .ok (.ireturn, 1) := by decide +kernel
theorem dL_law_456 : decode cL_law 456 = .ok (.aload_n 1, 1) := by decide +kernel
theorem dL_law_457 : decode cL_law 457 = .ok (.aload_n 0, 1) := by decide +kernel
theorem dL_law_458 : decode cL_law 458 = .ok (.iload_n 3, 1) := by decide +kernel
theorem dL_law_459 : decode cL_law 459 = .ok (.iconst 1, 1) := by decide +kernel
theorem dL_law_460 : decode cL_law 460 = .ok (.iadd, 1) := by decide +kernel
theorem dL_law_461 : decode cL_law 461 = .ok (.iaload, 1) := by decide +kernel
theorem dL_law_462 : decode cL_law 462 = .ok (.aload_n 0, 1) := by decide +kernel
theorem dL_law_463 : decode cL_law 463 = .ok (.iload_n 3, 1) := by decide +kernel
theorem dL_law_464 : decode cL_law 464 = .ok (.iconst 2, 1) := by decide +kernel
theorem dL_law_465 : decode cL_law 465 = .ok (.iadd, 1) := by decide +kernel
theorem dL_law_466 : decode cL_law 466 = .ok (.iaload, 1) := by decide +kernel
theorem dL_law_467 : decode cL_law 467 = .ok (.invokevirtual 66, 3) := by decide +kernel
theorem dL_law_470 : decode cL_law 470 = .ok (.aload_n 2, 1) := by decide +kernel
theorem dL_law_471 : decode cL_law 471 = .ok (.aload_n 0, 1) := by decide +kernel
theorem dL_law_472 : decode cL_law 472 = .ok (.iload_n 3, 1) := by decide +kernel
theorem dL_law_473 : decode cL_law 473 = .ok (.iconst 1, 1) := by decide +kernel
theorem dL_law_474 : decode cL_law 474 = .ok (.iadd, 1) := by decide +kernel
theorem dL_law_475 : decode cL_law 475 = .ok (.iaload, 1) := by decide +kernel
theorem dL_law_476 : decode cL_law 476 = .ok (.aload_n 0, 1) := by decide +kernel
theorem dL_law_477 : decode cL_law 477 = .ok (.iload_n 3, 1) := by decide +kernel
theorem dL_law_478 : decode cL_law 478 = .ok (.iconst 2, 1) := by decide +kernel
theorem dL_law_479 : decode cL_law 479 = .ok (.iadd, 1) := by decide +kernel
theorem dL_law_480 : decode cL_law 480 = .ok (.iaload, 1) := by decide +kernel
theorem dL_law_481 : decode cL_law 481 = .ok (.invokevirtual 69, 3) := by decide +kernel
theorem dL_law_484 : decode cL_law 484 = .ok (.if_icmp .eq 151, 3) := by decide +kernel
theorem dL_law_487 : decode cL_law 487 = .ok (.iconst 0, 1) := by decide +kernel
theorem dL_law_488 : decode cL_law 488 = .ok (.ireturn, 1) := by decide +kernel
theorem dL_law_489 : decode cL_law 489 = .ok (.aload_n 1, 1) := by decide +kernel
theorem dL_law_490 : decode cL_law 490 = .ok (.aload_n 0, 1) := by decide +kernel
theorem dL_law_491 : decode cL_law 491 = .ok (.iload_n 3, 1) := by decide +kernel
theorem dL_law_492 : decode cL_law 492 = .ok (.iconst 1, 1) := by decide +kernel
theorem dL_law_493 : decode cL_law 493 = .ok (.iadd, 1) := by decide +kernel
theorem dL_law_494 : decode cL_law 494 = .ok (.iaload, 1) := by decide +kernel
theorem dL_law_495 : decode cL_law 495 = .ok (.aload_n 0, 1) := by decide +kernel
theorem dL_law_496 : decode cL_law 496 = .ok (.iload_n 3, 1) := by decide +kernel
theorem dL_law_497 : decode cL_law 497 = .ok (.iconst 2, 1) := by decide +kernel
theorem dL_law_498 : decode cL_law 498 = .ok (.iadd, 1) := by decide +kernel
theorem dL_law_499 : decode cL_law 499 = .ok (.iaload, 1) := by decide +kernel
theorem dL_law_500 : decode cL_law 500 = .ok (.aload_n 0, 1) := by decide +kernel
theorem dL_law_501 : decode cL_law 501 = .ok (.iload_n 3, 1) := by decide +kernel
theorem dL_law_502 : decode cL_law 502 = .ok (.iconst 3, 1) := by decide +kernel
theorem dL_law_503 : decode cL_law 503 = .ok (.iadd, 1) := by decide +kernel
theorem dL_law_504 : decode cL_law 504 = .ok (.iaload, 1) := by decide +kernel
theorem dL_law_505 : decode cL_law 505 = .ok (.invokevirtual 70, 3) := by decide +kernel
theorem dL_law_508 : decode cL_law 508 = .ok (.aload_n 2, 1) := by decide +kernel
theorem dL_law_509 : decode cL_law 509 = .ok (.aload_n 0, 1) := by decide +kernel
theorem dL_law_510 : decode cL_law 510 = .ok (.iload_n 3, 1) := by decide +kernel
theorem dL_law_511 : decode cL_law 511 = .ok (.iconst 1, 1) := by decide +kernel
theorem dL_law_512 : decode cL_law 512 = .ok (.iadd, 1) := by decide +kernel
theorem dL_law_513 : decode cL_law 513 = .ok (.iaload, 1) := by decide +kernel
theorem dL_law_514 : decode cL_law 514 = .ok (.aload_n 0, 1) := by decide +kernel
theorem dL_law_515 : decode cL_law 515 = .ok (.iload_n 3, 1) := by decide +kernel
theorem dL_law_516 : decode cL_law 516 = .ok (.iconst 2, 1) := by decide +kernel
theorem dL_law_517 : decode cL_law 517 = .ok (.iadd, 1) := by decide +kernel
theorem dL_law_518 : decode cL_law 518 = .ok (.iaload, 1) := by decide +kernel
theorem dL_law_519 : decode cL_law 519 = .ok (.aload_n 0, 1) := by decide +kernel
theorem dL_law_520 : decode cL_law 520 = .ok (.iload_n 3, 1) := by decide +kernel
theorem dL_law_521 : decode cL_law 521 = .ok (.iconst 3, 1) := by decide +kernel
theorem dL_law_522 : decode cL_law 522 = .ok (.iadd, 1) := by decide +kernel
theorem dL_law_523 : decode cL_law 523 = .ok (.iaload, 1) := by decide +kernel
theorem dL_law_524 : decode cL_law 524 = .ok (.invokevirtual 73, 3) := by decide +kernel
theorem dL_law_527 : decode cL_law 527 = .ok (.if_icmp .eq 108, 3) := by decide +kernel
theorem dL_law_530 : decode cL_law 530 = .ok (.iconst 0, 1) := by decide +kernel
theorem dL_law_531 : decode cL_law 531 = .ok (.ireturn, 1) := by decide +kernel
theorem dL_law_532 : decode cL_law 532 = .ok (.aload_n 1, 1) := by decide +kernel
theorem dL_law_533 : decode cL_law 533 = .ok (.aload_n 0, 1) := by decide +kernel
theorem dL_law_534 : decode cL_law 534 = .ok (.iload_n 3, 1) := by decide +kernel
theorem dL_law_535 : decode cL_law 535 = .ok (.iconst 1, 1) := by decide +kernel
theorem dL_law_536 : decode cL_law 536 = .ok (.iadd, 1) := by decide +kernel
theorem dL_law_537 : decode cL_law 537 = .ok (.iaload, 1) := by decide +kernel
theorem dL_law_538 : decode cL_law 538 = .ok (.aload_n 0, 1) := by decide +kernel
theorem dL_law_539 : decode cL_law 539 = .ok (.iload_n 3, 1) := by decide +kernel
theorem dL_law_540 : decode cL_law 540 = .ok (.iconst 2, 1) := by decide +kernel
theorem dL_law_541 : decode cL_law 541 = .ok (.iadd, 1) := by decide +kernel
theorem dL_law_542 : decode cL_law 542 = .ok (.iaload, 1) := by decide +kernel
theorem dL_law_543 : decode cL_law 543 = .ok (.invokevirtual 74, 3) := by decide +kernel
theorem dL_law_546 : decode cL_law 546 = .ok (.aload_n 2, 1) := by decide +kernel
theorem dL_law_547 : decode cL_law 547 = .ok (.aload_n 0, 1) := by decide +kernel
theorem dL_law_548 : decode cL_law 548 = .ok (.iload_n 3, 1) := by decide +kernel
theorem dL_law_549 : decode cL_law 549 = .ok (.iconst 1, 1) := by decide +kernel
theorem dL_law_550 : decode cL_law 550 = .ok (.iadd, 1) := by decide +kernel
theorem dL_law_551 : decode cL_law 551 = .ok (.iaload, 1) := by decide +kernel
theorem dL_law_552 : decode cL_law 552 = .ok (.aload_n 0, 1) := by decide +kernel
theorem dL_law_553 : decode cL_law 553 = .ok (.iload_n 3, 1) := by decide +kernel
theorem dL_law_554 : decode cL_law 554 = .ok (.iconst 2, 1) := by decide +kernel
theorem dL_law_555 : decode cL_law 555 = .ok (.iadd, 1) := by decide +kernel
theorem dL_law_556 : decode cL_law 556 = .ok (.iaload, 1) := by decide +kernel
theorem dL_law_557 : decode cL_law 557 = .ok (.invokevirtual 77, 3) := by decide +kernel
theorem dL_law_560 : decode cL_law 560 = .ok (.if_icmp .eq 75, 3) := by decide +kernel
theorem dL_law_563 : decode cL_law 563 = .ok (.iconst 0, 1) := by decide +kernel
theorem dL_law_564 : decode cL_law 564 = .ok (.ireturn, 1) := by decide +kernel
theorem dL_law_565 : decode cL_law 565 = .ok (.aload_n 1, 1) := by decide +kernel
theorem dL_law_566 : decode cL_law 566 = .ok (.aload_n 0, 1) := by decide +kernel
theorem dL_law_567 : decode cL_law 567 = .ok (.iload_n 3, 1) := by decide +kernel
theorem dL_law_568 : decode cL_law 568 = .ok (.iconst 1, 1) := by decide +kernel
theorem dL_law_569 : decode cL_law 569 = .ok (.iadd, 1) := by decide +kernel
theorem dL_law_570 : decode cL_law 570 = .ok (.iaload, 1) := by decide +kernel
theorem dL_law_571 : decode cL_law 571 = .ok (.aload_n 0, 1) := by decide +kernel
theorem dL_law_572 : decode cL_law 572 = .ok (.iload_n 3, 1) := by decide +kernel
theorem dL_law_573 : decode cL_law 573 = .ok (.iconst 2, 1) := by decide +kernel
theorem dL_law_574 : decode cL_law 574 = .ok (.iadd, 1) := by decide +kernel
theorem dL_law_575 : decode cL_law 575 = .ok (.iaload, 1) := by decide +kernel
theorem dL_law_576 : decode cL_law 576 = .ok (.invokevirtual 78, 3) := by decide +kernel
theorem dL_law_579 : decode cL_law 579 = .ok (.aload_n 2, 1) := by decide +kernel
theorem dL_law_580 : decode cL_law 580 = .ok (.aload_n 0, 1) := by decide +kernel
theorem dL_law_581 : decode cL_law 581 = .ok (.iload_n 3, 1) := by decide +kernel
theorem dL_law_582 : decode cL_law 582 = .ok (.iconst 1, 1) := by decide +kernel
theorem dL_law_583 : decode cL_law 583 = .ok (.iadd, 1) := by decide +kernel
theorem dL_law_584 : decode cL_law 584 = .ok (.iaload, 1) := by decide +kernel
theorem dL_law_585 : decode cL_law 585 = .ok (.aload_n 0, 1) := by decide +kernel
theorem dL_law_586 : decode cL_law 586 = .ok (.iload_n 3, 1) := by decide +kernel
theorem dL_law_587 : decode cL_law 587 = .ok (.iconst 2, 1) := by decide +kernel
theorem dL_law_588 : decode cL_law 588 = .ok (.iadd, 1) := by decide +kernel
theorem dL_law_589 : decode cL_law 589 = .ok (.iaload, 1) := by decide +kernel
theorem dL_law_590 : decode cL_law 590 = .ok (.invokevirtual 81, 3) := by decide +kernel
theorem dL_law_593 : decode cL_law 593 = .ok (.if_icmp .eq 42, 3) := by decide +kernel
theorem dL_law_596 : decode cL_law 596 = .ok (.iconst 0, 1) := by decide +kernel
theorem dL_law_597 : decode cL_law 597 = .ok (.ireturn, 1) := by decide +kernel
theorem dL_law_598 : decode cL_law 598 = .ok (.aload_n 1, 1) := by decide +kernel
theorem dL_law_599 : decode cL_law 599 = .ok (.aload_n 0, 1) := by decide +kernel
theorem dL_law_600 : decode cL_law 600 = .ok (.iload_n 3, 1) := by decide +kernel
theorem dL_law_601 : decode cL_law 601 = .ok (.iconst 1, 1) := by decide +kernel
theorem dL_law_602 : decode cL_law 602 = .ok (.iadd, 1) := by decide +kernel
theorem dL_law_603 : decode cL_law 603 = .ok (.iaload, 1) := by decide +kernel
theorem dL_law_604 : decode cL_law 604 = .ok (.invokevirtual 82, 3) := by decide +kernel
theorem dL_law_607 : decode cL_law 607 = .ok (.aload_n 2, 1) := by decide +kernel
theorem dL_law_608 : decode cL_law 608 = .ok (.aload_n 0, 1) := by decide +kernel
theorem dL_law_609 : decode cL_law 609 = .ok (.iload_n 3, 1) := by decide +kernel
theorem dL_law_610 : decode cL_law 610 = .ok (.iconst 1, 1) := by decide +kernel
theorem dL_law_611 : decode cL_law 611 = .ok (.iadd, 1) := by decide +kernel
theorem dL_law_612 : decode cL_law 612 = .ok (.iaload, 1) := by decide +kernel
theorem dL_law_613 : decode cL_law 613 = .ok (.invokevirtual 85, 3) := by decide +kernel
theorem dL_law_616 : decode cL_law 616 = .ok (.if_icmp .eq 19, 3) := by decide +kernel
theorem dL_law_619 : decode cL_law 619 = .ok (.iconst 0, 1) := by decide +kernel
theorem dL_law_620 : decode cL_law 620 = .ok (.ireturn, 1) := by decide +kernel
theorem dL_law_621 : decode cL_law 621 = .ok (.aload_n 1, 1) := by decide +kernel
theorem dL_law_622 : decode cL_law 622 = .ok (.invokevirtual 86, 3) := by decide +kernel
theorem dL_law_625 : decode cL_law 625 = .ok (.aload_n 2, 1) := by decide +kernel
theorem dL_law_626 : decode cL_law 626 = .ok (.invokevirtual 90, 3) := by decide +kernel
theorem dL_law_629 : decode cL_law 629 = .ok (.lcmp, 1) := by decide +kernel
theorem dL_law_630 : decode cL_law 630 = .ok (.ifCond .eq 5, 3) := by decide +kernel
theorem dL_law_633 : decode cL_law 633 = .ok (.iconst 0, 1) := by decide +kernel
theorem dL_law_634 : decode cL_law 634 = .ok (.ireturn, 1) := by decide +kernel
theorem dL_law_635 : decode cL_law 635 = .ok (.iinc 3 5, 3) := by decide +kernel
theorem dL_law_638 : decode cL_law 638 = .ok (.goto (-620), 3) := by decide +kernel
theorem dL_law_641 : decode cL_law 641 = .ok (.iconst 1, 1) := by decide +kernel
theorem dL_law_642 : decode cL_law 642 = .ok (.ireturn, 1) := by decide +kernel
