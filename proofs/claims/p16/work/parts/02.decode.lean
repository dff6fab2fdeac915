theorem dX0_init_0 : decode cX0_init 0 = .ok (.aload_n 0, 1) := by decide +kernel
theorem dX0_init_1 : decode cX0_init 1 = .ok (.invokespecial 3, 3) := by decide +kernel
theorem dX0_init_4 : decode cX0_init 4 = .ok (.aload_n 0, 1) := by decide +kernel
theorem dX0_init_5 : decode cX0_init 5 = .ok (.bipush 8, 2) := by decide +kernel
theorem dX0_init_7 : decode cX0_init 7 = .ok (.anewarray 9, 3) := by decide +kernel
theorem dX0_init_10 : decode cX0_init 10 = .ok (.putfield 11, 3) := by decide +kernel
theorem dX0_init_13 : decode cX0_init 13 = .ok (.return_, 1) := by decide +kernel
theorem dX0_at_0 : decode cX0_at 0 = .ok (.iload_n 1, 1) := by decide +kernel
theorem dX0_at_1 : decode cX0_at 1 = .ok (.ifCond .lt 26, 3) := by decide +kernel
theorem dX0_at_4 : decode cX0_at 4 = .ok (.iload_n 1, 1) := by decide +kernel
theorem dX0_at_5 : decode cX0_at 5 = .ok (.aload_n 0, 1) := by decide +kernel
theorem dX0_at_6 : decode cX0_at 6 = .ok (.getfield 17, 3) := by decide +kernel
theorem dX0_at_9 : decode cX0_at 9 = .ok (.if_icmp .ge 18, 3) := by decide +kernel
theorem dX0_at_12 : decode cX0_at 12 = .ok (.iload_n 1, 1) := by decide +kernel
theorem dX0_at_13 : decode cX0_at 13 = .ok (.bipush 8, 2) := by decide +kernel
theorem dX0_at_15 : decode cX0_at 15 = .ok (.if_icmp .ge 12, 3) := by decide +kernel
theorem dX0_at_18 : decode cX0_at 18 = .ok (.aload_n 0, 1) := by decide +kernel
theorem dX0_at_19 : decode cX0_at 19 = .ok (.getfield 11, 3) := by decide +kernel
theorem dX0_at_22 : decode cX0_at 22 = .ok (.iload_n 1, 1) := by decide +kernel
theorem dX0_at_23 : decode cX0_at 23 = .ok (.aaload, 1) := by decide +kernel
theorem dX0_at_24 : decode cX0_at 24 = .ok (.goto 4, 3) := by decide +kernel
theorem dX0_at_27 : decode cX0_at 27 = .ok (.aconst_null, 1) := by decide +kernel
theorem dX0_at_28 : decode cX0_at 28 = .ok (.areturn, 1) := by decide +kernel
theorem dX0_tell_0 : decode cX0_tell 0 = .ok (.aload_n 0, 1) := by decide +kernel
theorem dX0_tell_1 : decode cX0_tell 1 = .ok (.getfield 17, 3) := by decide +kernel
theorem dX0_tell_4 : decode cX0_tell 4 = .ok (.bipush 8, 2) := by decide +kernel
theorem dX0_tell_6 : decode cX0_tell 6 = .ok (.if_icmp .lt 6, 3) := by decide +kernel
theorem dX0_tell_9 : decode cX0_tell 9 = .ok (.bipush (-4), 2) := by decide +kernel
theorem dX0_tell_11 : decode cX0_tell 11 = .ok (.ireturn, 1) := by decide +kernel
theorem dX0_tell_12 : decode cX0_tell 12 = .ok (.aload_n 0, 1) := by decide +kernel
theorem dX0_tell_13 : decode cX0_tell 13 = .ok (.getfield 11, 3) := by decide +kernel
theorem dX0_tell_16 : decode cX0_tell 16 = .ok (.aload_n 0, 1) := by decide +kernel
theorem dX0_tell_17 : decode cX0_tell 17 = .ok (.getfield 17, 3) := by decide +kernel
theorem dX0_tell_20 : decode cX0_tell 20 = .ok (.new 9, 3) := by decide +kernel
theorem dX0_tell_23 : decode cX0_tell 23 = .ok (.dup, 1) := by decide +kernel
theorem dX0_tell_24 : decode cX0_tell 24 = .ok (.aload_n 0, 1) := by decide +kernel
theorem dX0_tell_25 : decode cX0_tell 25 = .ok (.getfield 17, 3) := by decide +kernel
theorem dX0_tell_28 : decode cX0_tell 28 = .ok (.iload_n 1, 1) := by decide +kernel
theorem dX0_tell_29 : decode cX0_tell 29 = .ok (.iload_n 2, 1) := by decide +kernel
theorem dX0_tell_30 : decode cX0_tell 30 = .ok (.invokespecial 21, 3) := by decide +kernel
theorem dX0_tell_33 : decode cX0_tell 33 = .ok (.aastore, 1) := by decide +kernel
theorem dX0_tell_34 : decode cX0_tell 34 = .ok (.aload_n 0, 1) := by decide +kernel
theorem dX0_tell_35 : decode cX0_tell 35 = .ok (.dup, 1) := by decide +kernel
theorem dX0_tell_36 : decode cX0_tell 36 = .ok (.getfield 17, 3) := by decide +kernel
theorem dX0_tell_39 : decode cX0_tell 39 = .ok (.iconst 1, 1) := by decide +kernel
theorem dX0_tell_40 : decode cX0_tell 40 = .ok (.iadd, 1) := by decide +kernel
theorem dX0_tell_41 : decode cX0_tell 41 = .ok (.putfield 17, 3) := by decide +kernel
theorem dX0_tell_44 : decode cX0_tell 44 = .ok (.aload_n 0, 1) := by decide +kernel
theorem dX0_tell_45 : decode cX0_tell 45 = .ok (.getfield 17, 3) := by decide +kernel
theorem dX0_tell_48 : decode cX0_tell 48 = .ok (.iconst 1, 1) := by decide +kernel
theorem dX0_tell_49 : decode cX0_tell 49 = .ok (.isub, 1) := by decide +kernel
theorem dX0_tell_50 : decode cX0_tell 50 = .ok (.ireturn, 1) := by decide +kernel
theorem dX2_init_0 : decode cX2_init 0 = .ok (.aload_n 0, 1) := by decide +kernel
theorem dX2_init_1 : decode cX2_init 1 = .ok (.invokespecial 3, 3) := by decide +kernel
theorem dX2_init_4 : decode cX2_init 4 = .ok (.aload_n 0, 1) := by decide +kernel
theorem dX2_init_5 : decode cX2_init 5 = .ok (.bipush 8, 2) := by decide +kernel
theorem dX2_init_7 : decode cX2_init 7 = .ok (.newarray .int, 2) := by decide +kernel
theorem dX2_init_9 : decode cX2_init 9 = .ok (.putfield 9, 3) := by decide +kernel
theorem dX2_init_12 : decode cX2_init 12 = .ok (.aload_n 0, 1) := by decide +kernel
theorem dX2_init_13 : decode cX2_init 13 = .ok (.iconst 4, 1) := by decide +kernel
theorem dX2_init_14 : decode cX2_init 14 = .ok (.newarray .int, 2) := by decide +kernel
theorem dX2_init_16 : decode cX2_init 16 = .ok (.putfield 15, 3) := by decide +kernel
theorem dX2_init_19 : decode cX2_init 19 = .ok (.aload_n 0, 1) := by decide +kernel
theorem dX2_init_20 : decode cX2_init 20 = .ok (.bipush 80, 2) := by decide +kernel
theorem dX2_init_22 : decode cX2_init 22 = .ok (.newarray .int, 2) := by decide +kernel
theorem dX2_init_24 : decode cX2_init 24 = .ok (.putfield 18, 3) := by decide +kernel
theorem dX2_init_27 : decode cX2_init 27 = .ok (.aload_n 0, 1) := by decide +kernel
theorem dX2_init_28 : decode cX2_init 28 = .ok (.getfield 15, 3) := by decide +kernel
theorem dX2_init_31 : decode cX2_init 31 = .ok (.iconst (-1), 1) := by decide +kernel
theorem dX2_init_32 : decode cX2_init 32 = .ok (.invokestatic 21, 3) := by decide +kernel
theorem dX2_init_35 : decode cX2_init 35 = .ok (.return_, 1) := by decide +kernel
theorem dX2_valueOf_0 : decode cX2_valueOf 0 = .ok (.iload_n 1, 1) := by decide +kernel
theorem dX2_valueOf_1 : decode cX2_valueOf 1 = .ok (.ifCond .lt 18, 3) := by decide +kernel
theorem dX2_valueOf_4 : decode cX2_valueOf 4 = .ok (.iload_n 1, 1) := by decide +kernel
theorem dX2_valueOf_5 : decode cX2_valueOf 5 = .ok (.bipush 8, 2) := by decide +kernel
theorem dX2_valueOf_7 : decode cX2_valueOf 7 = .ok (.if_icmp .ge 12, 3) := by decide +kernel
theorem dX2_valueOf_10 : decode cX2_valueOf 10 = .ok (.aload_n 0, 1) := by decide +kernel
theorem dX2_valueOf_11 : decode cX2_valueOf 11 = .ok (.getfield 9, 3) := by decide +kernel
theorem dX2_valueOf_14 : decode cX2_valueOf 14 = .ok (.iload_n 1, 1) := by decide +kernel
theorem dX2_valueOf_15 : decode cX2_valueOf 15 = .ok (.iaload, 1) := by decide +kernel
theorem dX2_valueOf_16 : decode cX2_valueOf 16 = .ok (.goto 4, 3) := by decide +kernel
theorem dX2_valueOf_19 : decode cX2_valueOf 19 = .ok (.iconst 0, 1) := by decide +kernel
theorem dX2_valueOf_20 : decode cX2_valueOf 20 = .ok (.ireturn, 1) := by decide +kernel
theorem dX2_put_0 : decode cX2_put 0 = .ok (.iload_n 1, 1) := by decide +kernel
theorem dX2_put_1 : decode cX2_put 1 = .ok (.ifCond .lt 16, 3) := by decide +kernel
theorem dX2_put_4 : decode cX2_put 4 = .ok (.iload_n 1, 1) := by decide +kernel
theorem dX2_put_5 : decode cX2_put 5 = .ok (.bipush 8, 2) := by decide +kernel
theorem dX2_put_7 : decode cX2_put 7 = .ok (.if_icmp .ge 10, 3) := by decide +kernel
theorem dX2_put_10 : decode cX2_put 10 = .ok (.aload_n 0, 1) := by decide +kernel
theorem dX2_put_11 : decode cX2_put 11 = .ok (.getfield 9, 3) := by decide +kernel
theorem dX2_put_14 : decode cX2_put 14 = .ok (.iload_n 1, 1) := by decide +kernel
theorem dX2_put_15 : decode cX2_put 15 = .ok (.iload_n 2, 1) := by decide +kernel
theorem dX2_put_16 : decode cX2_put 16 = .ok (.iastore, 1) := by decide +kernel
theorem dX2_put_17 : decode cX2_put 17 = .ok (.return_, 1) := by decide +kernel
theorem dX2_lengthOf_0 : decode cX2_lengthOf 0 = .ok (.iload_n 1, 1) := by decide +kernel
theorem dX2_lengthOf_1 : decode cX2_lengthOf 1 = .ok (.ifCond .lt 17, 3) := by decide +kernel
theorem dX2_lengthOf_4 : decode cX2_lengthOf 4 = .ok (.iload_n 1, 1) := by decide +kernel
theorem dX2_lengthOf_5 : decode cX2_lengthOf 5 = .ok (.iconst 4, 1) := by decide +kernel
theorem dX2_lengthOf_6 : decode cX2_lengthOf 6 = .ok (.if_icmp .ge 12, 3) := by decide +kernel
theorem dX2_lengthOf_9 : decode cX2_lengthOf 9 = .ok (.aload_n 0, 1) := by decide +kernel
theorem dX2_lengthOf_10 : decode cX2_lengthOf 10 = .ok (.getfield 15, 3) := by decide +kernel
theorem dX2_lengthOf_13 : decode cX2_lengthOf 13 = .ok (.iload_n 1, 1) := by decide +kernel
theorem dX2_lengthOf_14 : decode cX2_lengthOf 14 = .ok (.iaload, 1) := by decide +kernel
theorem dX2_lengthOf_15 : decode cX2_lengthOf 15 = .ok (.goto 4, 3) := by decide +kernel
theorem dX2_lengthOf_18 : decode cX2_lengthOf 18 = .ok (.iconst (-1), 1) := by decide +kernel
theorem dX2_lengthOf_19 : decode cX2_lengthOf 19 = .ok (.ireturn, 1) := by decide +kernel
theorem dX2_renew_0 : decode cX2_renew 0 = .ok (.iload_n 1, 1) := by decide +kernel
theorem dX2_renew_1 : decode cX2_renew 1 = .ok (.ifCond .lt 44, 3) := by decide +kernel
theorem dX2_renew_4 : decode cX2_renew 4 = .ok (.iload_n 1, 1) := by decide +kernel
theorem dX2_renew_5 : decode cX2_renew 5 = .ok (.iconst 4, 1) := by decide +kernel
theorem dX2_renew_6 : decode cX2_renew 6 = .ok (.if_icmp .ge 39, 3) := by decide +kernel
theorem dX2_renew_9 : decode cX2_renew 9 = .ok (.iload_n 2, 1) := by decide +kernel
theorem dX2_renew_10 : decode cX2_renew 10 = .ok (.iconst (-1), 1) := by decide +kernel
theorem dX2_renew_11 : decode cX2_renew 11 = .ok (.if_icmp .lt 34, 3) := by decide +kernel
theorem dX2_renew_14 : decode cX2_renew 14 = .ok (.iload_n 2, 1) := by decide +kernel
theorem dX2_renew_15 : decode cX2_renew 15 = .ok (.bipush 20, 2) := by decide +kernel
theorem dX2_renew_17 : decode cX2_renew 17 = .ok (.if_icmp .gt 28, 3) := by decide +kernel
theorem dX2_renew_20 : decode cX2_renew 20 = .ok (.aload_n 0, 1) := by decide +kernel
theorem dX2_renew_21 : decode cX2_renew 21 = .ok (.getfield 15, 3) := by decide +kernel
theorem dX2_renew_24 : decode cX2_renew 24 = .ok (.iload_n 1, 1) := by decide +kernel
theorem dX2_renew_25 : decode cX2_renew 25 = .ok (.iload_n 2, 1) := by decide +kernel
theorem dX2_renew_26 : decode cX2_renew 26 = .ok (.iastore, 1) := by decide +kernel
theorem dX2_renew_27 : decode cX2_renew 27 = .ok (.aload_n 0, 1) := by decide +kernel
theorem dX2_renew_28 : decode cX2_renew 28 = .ok (.getfield 18, 3) := by decide +kernel
theorem dX2_renew_31 : decode cX2_renew 31 = .ok (.bipush 20, 2) := by decide +kernel
theorem dX2_renew_33 : decode cX2_renew 33 = .ok (.iload_n 1, 1) := by decide +kernel
theorem dX2_renew_34 : decode cX2_renew 34 = .ok (.imul, 1) := by decide +kernel
theorem dX2_renew_35 : decode cX2_renew 35 = .ok (.bipush 20, 2) := by decide +kernel
theorem dX2_renew_37 : decode cX2_renew 37 = .ok (.iload_n 1, 1) := by decide +kernel
theorem dX2_renew_38 : decode cX2_renew 38 = .ok (.iconst 1, 1) := by decide +kernel
theorem dX2_renew_39 : decode cX2_renew 39 = .ok (.iadd, 1) := by decide +kernel
theorem dX2_renew_40 : decode cX2_renew 40 = .ok (.imul, 1) := by decide +kernel
theorem dX2_renew_41 : decode cX2_renew 41 = .ok (.iconst 0, 1) := by decide +kernel
theorem dX2_renew_42 : decode cX2_renew 42 = .ok (.invokestatic 27, 3) := by decide +kernel
theorem dX2_renew_45 : decode cX2_renew 45 = .ok (.return_, 1) := by decide +kernel
theorem dX2_itemOf_0 : decode cX2_itemOf 0 = .ok (.iload_n 2, 1) := by decide +kernel
theorem dX2_itemOf_1 : decode cX2_itemOf 1 = .ok (.ifCond .lt 32, 3) := by decide +kernel
theorem dX2_itemOf_4 : decode cX2_itemOf 4 = .ok (.iload_n 2, 1) := by decide +kernel
theorem dX2_itemOf_5 : decode cX2_itemOf 5 = .ok (.aload_n 0, 1) := by decide +kernel
theorem dX2_itemOf_6 : decode cX2_itemOf 6 = .ok (.iload_n 1, 1) := by decide +kernel
theorem dX2_itemOf_7 : decode cX2_itemOf 7 = .ok (.invokevirtual 30, 3) := by decide +kernel
theorem dX2_itemOf_10 : decode cX2_itemOf 10 = .ok (.if_icmp .ge 23, 3) := by decide +kernel
theorem dX2_itemOf_13 : decode cX2_itemOf 13 = .ok (.iload_n 2, 1) := by decide +kernel
theorem dX2_itemOf_14 : decode cX2_itemOf 14 = .ok (.bipush 20, 2) := by decide +kernel
theorem dX2_itemOf_16 : decode cX2_itemOf 16 = .ok (.if_icmp .ge 17, 3) := by decide +kernel
theorem dX2_itemOf_19 : decode cX2_itemOf 19 = .ok (.aload_n 0, 1) := by decide +kernel
theorem dX2_itemOf_20 : decode cX2_itemOf 20 = .ok (.getfield 18, 3) := by decide +kernel
theorem dX2_itemOf_23 : decode cX2_itemOf 23 = .ok (.bipush 20, 2) := by decide +kernel
theorem dX2_itemOf_25 : decode cX2_itemOf 25 = .ok (.iload_n 1, 1) := by decide +kernel
theorem dX2_itemOf_26 : decode cX2_itemOf 26 = .ok (.imul, 1) := by decide +kernel
theorem dX2_itemOf_27 : decode cX2_itemOf 27 = .ok (.iload_n 2, 1) := by decide +kernel
theorem dX2_itemOf_28 : decode cX2_itemOf 28 = .ok (.iadd, 1) := by decide +kernel
theorem dX2_itemOf_29 : decode cX2_itemOf 29 = .ok (.iaload, 1) := by decide +kernel
theorem dX2_itemOf_30 : decode cX2_itemOf 30 = .ok (.goto 4, 3) := by decide +kernel
theorem dX2_itemOf_33 : decode cX2_itemOf 33 = .ok (.iconst 0, 1) := by decide +kernel
theorem dX2_itemOf_34 : decode cX2_itemOf 34 = .ok (.ireturn, 1) := by decide +kernel
theorem dX2_mixedInto_0 : decode cX2_mixedInto 0 = .ok (.iconst 0, 1) := by decide +kernel
theorem dX2_mixedInto_1 : decode cX2_mixedInto 1 = .ok (.istore_n 3, 1) := by decide +kernel
theorem dX2_mixedInto_2 : decode cX2_mixedInto 2 = .ok (.iload_n 3, 1) := by decide +kernel
theorem dX2_mixedInto_3 : decode cX2_mixedInto 3 = .ok (.bipush 8, 2) := by decide +kernel
theorem dX2_mixedInto_5 : decode cX2_mixedInto 5 = .ok (.if_icmp .ge 22, 3) := by decide +kernel
theorem dX2_mixedInto_8 : decode cX2_mixedInto 8 = .ok (.ldc2_w 34, 3) := by decide +kernel
theorem dX2_mixedInto_11 : decode cX2_mixedInto 11 = .ok (.lload_n 1, 1) := by decide +kernel
theorem dX2_mixedInto_12 : decode cX2_mixedInto 12 = .ok (.lmul, 1) := by decide +kernel
theorem dX2_mixedInto_13 : decode cX2_mixedInto 13 = .ok (.aload_n 0, 1) := by decide +kernel
theorem dX2_mixedInto_14 : decode cX2_mixedInto 14 = .ok (.iload_n 3, 1) := by decide +kernel
theorem dX2_mixedInto_15 : decode cX2_mixedInto 15 = .ok (.invokevirtual 36, 3) := by decide +kernel
theorem dX2_mixedInto_18 : decode cX2_mixedInto 18 = .ok (.i2l, 1) := by decide +kernel
theorem dX2_mixedInto_19 : decode cX2_mixedInto 19 = .ok (.ladd, 1) := by decide +kernel
theorem dX2_mixedInto_20 : decode cX2_mixedInto 20 = .ok (.lstore_n 1, 1) := by decide +kernel
theorem dX2_mixedInto_21 : decode cX2_mixedInto 21 = .ok (.iinc 3 1, 3) := by decide +kernel
theorem dX2_mixedInto_24 : decode cX2_mixedInto 24 = .ok (.goto (-22), 3) := by decide +kernel
theorem dX2_mixedInto_27 : decode cX2_mixedInto 27 = .ok (.iconst 0, 1) := by decide +kernel
theorem dX2_mixedInto_28 : decode cX2_mixedInto 28 = .ok (.istore_n 3, 1) := by decide +kernel
theorem dX2_mixedInto_29 : decode cX2_mixedInto 29 = .ok (.iload_n 3, 1) := by decide +kernel
theorem dX2_mixedInto_30 : decode cX2_mixedInto 30 = .ok (.iconst 4, 1) := by decide +kernel
theorem dX2_mixedInto_31 : decode cX2_mixedInto 31 = .ok (.if_icmp .ge 56, 3) := by decide +kernel
theorem dX2_mixedInto_34 : decode cX2_mixedInto 34 = .ok (.ldc2_w 34, 3) := by decide +kernel
theorem dX2_mixedInto_37 : decode cX2_mixedInto 37 = .ok (.lload_n 1, 1) := by decide +kernel
theorem dX2_mixedInto_38 : decode cX2_mixedInto 38 = .ok (.lmul, 1) := by decide +kernel
theorem dX2_mixedInto_39 : decode cX2_mixedInto 39 = .ok (.aload_n 0, 1) := by decide +kernel
theorem dX2_mixedInto_40 : decode cX2_mixedInto 40 = .ok (.iload_n 3, 1) := by decide +kernel
theorem dX2_mixedInto_41 : decode cX2_mixedInto 41 = .ok (.invokevirtual 30, 3) := by decide +kernel
theorem dX2_mixedInto_44 : decode cX2_mixedInto 44 = .ok (.i2l, 1) := by decide +kernel
theorem dX2_mixedInto_45 : decode cX2_mixedInto 45 = .ok (.ladd, 1) := by decide +kernel
theorem dX2_mixedInto_46 : decode cX2_mixedInto 46 = .ok (.lstore_n 1, 1) := by decide +kernel
theorem dX2_mixedInto_47 : decode cX2_mixedInto 47 = .ok (.iconst 0, 1) := by decide +kernel
theorem dX2_mixedInto_48 : decode cX2_mixedInto 48 = .ok (.istore 4, 2) := by decide +kernel
theorem dX2_mixedInto_50 : decode cX2_mixedInto 50 = .ok (.iload 4, 2) := by decide +kernel
theorem dX2_mixedInto_52 : decode cX2_mixedInto 52 = .ok (.aload_n 0, 1) := by decide +kernel
theorem dX2_mixedInto_53 : decode cX2_mixedInto 53 = .ok (.iload_n 3, 1) := by decide +kernel
theorem dX2_mixedInto_54 : decode cX2_mixedInto 54 = .ok (.invokevirtual 30, 3) := by decide +kernel
theorem dX2_mixedInto_57 : decode cX2_mixedInto 57 = .ok (.if_icmp .ge 24, 3) := by decide +kernel
theorem dX2_mixedInto_60 : decode cX2_mixedInto 60 = .ok (.ldc2_w 34, 3) := by decide +kernel
theorem dX2_mixedInto_63 : decode cX2_mixedInto 63 = .ok (.lload_n 1, 1) := by decide +kernel
theorem dX2_mixedInto_64 : decode cX2_mixedInto 64 = .ok (.lmul, 1) := by decide +kernel
theorem dX2_mixedInto_65 : decode cX2_mixedInto 65 = .ok (.aload_n 0, 1) := by decide +kernel
theorem dX2_mixedInto_66 : decode cX2_mixedInto 66 = .ok (.iload_n 3, 1) := by decide +kernel
theorem dX2_mixedInto_67 : decode cX2_mixedInto 67 = .ok (.iload 4, 2) := by decide +kernel
theorem dX2_mixedInto_69 : decode cX2_mixedInto 69 = .ok (.invokevirtual 39, 3) := by decide +kernel
theorem dX2_mixedInto_72 : decode cX2_mixedInto 72 = .ok (.i2l, 1) := by decide +kernel
theorem dX2_mixedInto_73 : decode cX2_mixedInto 73 = .ok (.ladd, 1) := by decide +kernel
theorem dX2_mixedInto_74 : decode cX2_mixedInto 74 = .ok (.lstore_n 1, 1) := by decide +kernel
theorem dX2_mixedInto_75 : decode cX2_mixedInto 75 = .ok (.iinc 4 1, 3) := by decide +kernel
theorem dX2_mixedInto_78 : decode cX2_mixedInto 78 = .ok (.goto (-28), 3) := by decide +kernel
theorem dX2_mixedInto_81 : decode cX2_mixedInto 81 = .ok (.iinc 3 1, 3) := by decide +kernel
theorem dX2_mixedInto_84 : decode cX2_mixedInto 84 = .ok (.goto (-55), 3) := by decide +kernel
theorem dX2_mixedInto_87 : decode cX2_mixedInto 87 = .ok (.lload_n 1, 1) := by decide +kernel
theorem dX2_mixedInto_88 : decode cX2_mixedInto 88 = .ok (.lreturn, 1) := by decide +kernel
theorem dX3_init_0 : decode cX3_init 0 = .ok (.aload_n 0, 1) := by decide +kernel
theorem dX3_init_1 : decode cX3_init 1 = .ok (.invokespecial 3, 3) := by decide +kernel
theorem dX3_init_4 : decode cX3_init 4 = .ok (.aload_n 0, 1) := by decide +kernel
theorem dX3_init_5 : decode cX3_init 5 = .ok (.sipush 7555, 3) := by decide +kernel
theorem dX3_init_8 : decode cX3_init 8 = .ok (.newarray .int, 2) := by decide +kernel
theorem dX3_init_10 : decode cX3_init 10 = .ok (.putfield 9, 3) := by decide +kernel
theorem dX3_init_13 : decode cX3_init 13 = .ok (.aload_n 0, 1) := by decide +kernel
theorem dX3_init_14 : decode cX3_init 14 = .ok (.bipush 60, 2) := by decide +kernel
theorem dX3_init_16 : decode cX3_init 16 = .ok (.newarray .int, 2) := by decide +kernel
theorem dX3_init_18 : decode cX3_init 18 = .ok (.putfield 15, 3) := by decide +kernel
theorem dX3_init_21 : decode cX3_init 21 = .ok (.return_, 1) := by decide +kernel
theorem dX4_init_0 : decode cX4_init 0 = .ok (.aload_n 0, 1) := by decide +kernel
theorem dX4_init_1 : decode cX4_init 1 = .ok (.invokespecial 3, 3) := by decide +kernel
theorem dX4_init_4 : decode cX4_init 4 = .ok (.aload_n 0, 1) := by decide +kernel
theorem dX4_init_5 : decode cX4_init 5 = .ok (.bipush 15, 2) := by decide +kernel
theorem dX4_init_7 : decode cX4_init 7 = .ok (.newarray .int, 2) := by decide +kernel
theorem dX4_init_9 : decode cX4_init 9 = .ok (.putfield 9, 3) := by decide +kernel
theorem dX4_init_12 : decode cX4_init 12 = .ok (.return_, 1) := by decide +kernel
theorem dX5_init_0 : decode cX5_init 0 = .ok (.aload_n 0, 1) := by decide +kernel
theorem dX5_init_1 : decode cX5_init 1 = .ok (.invokespecial 3, 3) := by decide +kernel
theorem dX5_init_4 : decode cX5_init 4 = .ok (.aload_n 0, 1) := by decide +kernel
theorem dX5_init_5 : decode cX5_init 5 = .ok (.bipush 11, 2) := by decide +kernel
theorem dX5_init_7 : decode cX5_init 7 = .ok (.newarray .int, 2) := by decide +kernel
theorem dX5_init_9 : decode cX5_init 9 = .ok (.putfield 9, 3) := by decide +kernel
theorem dX5_init_12 : decode cX5_init 12 = .ok (.aload_n 0, 1) := by decide +kernel
theorem dX5_init_13 : decode cX5_init 13 = .ok (.bipush 11, 2) := by decide +kernel
theorem dX5_init_15 : decode cX5_init 15 = .ok (.newarray .boolean, 2) := by decide +kernel
theorem dX5_init_17 : decode cX5_init 17 = .ok (.putfield 15, 3) := by decide +kernel
theorem dX5_init_20 : decode cX5_init 20 = .ok (.aload_n 0, 1) := by decide +kernel
theorem dX5_init_21 : decode cX5_init 21 = .ok (.bipush 11, 2) := by decide +kernel
theorem dX5_init_23 : decode cX5_init 23 = .ok (.newarray .boolean, 2) := by decide +kernel
theorem dX5_init_25 : decode cX5_init 25 = .ok (.putfield 19, 3) := by decide +kernel
theorem dX5_init_28 : decode cX5_init 28 = .ok (.return_, 1) := by decide +kernel
theorem dX6_init_0 : decode cX6_init 0 = .ok (.aload_n 0, 1) := by decide +kernel
theorem dX6_init_1 : decode cX6_init 1 = .ok (.invokespecial 3, 3) := by decide +kernel
theorem dX6_init_4 : decode cX6_init 4 = .ok (.aload_n 0, 1) := by decide +kernel
theorem dX6_init_5 : decode cX6_init 5 = .ok (.bipush 60, 2) := by decide +kernel
theorem dX6_init_7 : decode cX6_init 7 = .ok (.newarray .boolean, 2) := by decide +kernel
theorem dX6_init_9 : decode cX6_init 9 = .ok (.putfield 9, 3) := by decide +kernel
theorem dX6_init_12 : decode cX6_init 12 = .ok (.aload_n 0, 1) := by decide +kernel
theorem dX6_init_13 : decode cX6_init 13 = .ok (.aload_n 1, 1) := by decide +kernel
theorem dX6_init_14 : decode cX6_init 14 = .ok (.putfield 15, 3) := by decide +kernel
theorem dX6_init_17 : decode cX6_init 17 = .ok (.aload_n 0, 1) := by decide +kernel
theorem dX6_init_18 : decode cX6_init 18 = .ok (.aload_n 2, 1) := by decide +kernel
theorem dX6_init_19 : decode cX6_init 19 = .ok (.putfield 19, 3) := by decide +kernel
theorem dX6_init_22 : decode cX6_init 22 = .ok (.return_, 1) := by decide +kernel
theorem dX7_init_0 : decode cX7_init 0 = .ok (.aload_n 0, 1) := by decide +kernel
theorem dX7_init_1 : decode cX7_init 1 = .ok (.invokespecial 3, 3) := by decide +kernel
theorem dX7_init_4 : decode cX7_init 4 = .ok (.aload_n 0, 1) := by decide +kernel
theorem dX7_init_5 : decode cX7_init 5 = .ok (.new 9, 3) := by decide +kernel
theorem dX7_init_8 : decode cX7_init 8 = .ok (.dup, 1) := by decide +kernel
theorem dX7_init_9 : decode cX7_init 9 = .ok (.invokespecial 11, 3) := by decide +kernel
theorem dX7_init_12 : decode cX7_init 12 = .ok (.putfield 12, 3) := by decide +kernel
theorem dX7_init_15 : decode cX7_init 15 = .ok (.aload_n 0, 1) := by decide +kernel
theorem dX7_init_16 : decode cX7_init 16 = .ok (.bipush 16, 2) := by decide +kernel
theorem dX7_init_18 : decode cX7_init 18 = .ok (.anewarray 18, 3) := by decide +kernel
theorem dX7_init_21 : decode cX7_init 21 = .ok (.putfield 20, 3) := by decide +kernel
theorem dX7_init_24 : decode cX7_init 24 = .ok (.aload_n 0, 1) := by decide +kernel
theorem dX7_init_25 : decode cX7_init 25 = .ok (.iconst 3, 1) := by decide +kernel
theorem dX7_init_26 : decode cX7_init 26 = .ok (.newarray .int, 2) := by decide +kernel
theorem dX7_init_28 : decode cX7_init 28 = .ok (.putfield 24, 3) := by decide +kernel
theorem dX7_init_31 : decode cX7_init 31 = .ok (.aload_n 0, 1) := by decide +kernel
theorem dX7_init_32 : decode cX7_init 32 = .ok (.aload_n 1, 1) := by decide +kernel
theorem dX7_init_33 : decode cX7_init 33 = .ok (.putfield 28, 3) := by decide +kernel
theorem dX7_init_36 : decode cX7_init 36 = .ok (.aload_n 0, 1) := by decide +kernel
theorem dX7_init_37 : decode cX7_init 37 = .ok (.aload_n 2, 1) := by decide +kernel
theorem dX7_init_38 : decode cX7_init 38 = .ok (.putfield 32, 3) := by decide +kernel
theorem dX7_init_41 : decode cX7_init 41 = .ok (.aload_n 0, 1) := by decide +kernel
theorem dX7_init_42 : decode cX7_init 42 = .ok (.new 36, 3) := by decide +kernel
theorem dX7_init_45 : decode cX7_init 45 = .ok (.dup, 1) := by decide +kernel
theorem dX7_init_46 : decode cX7_init 46 = .ok (.aload_n 3, 1) := by decide +kernel
theorem dX7_init_47 : decode cX7_init 47 = .ok (.invokespecial 38, 3) := by decide +kernel
theorem dX7_init_50 : decode cX7_init 50 = .ok (.putfield 41, 3) := by decide +kernel
theorem dX7_init_53 : decode cX7_init 53 = .ok (.iconst 0, 1) := by decide +kernel
theorem dX7_init_54 : decode cX7_init 54 = .ok (.istore 4, 2) := by decide +kernel
theorem dX7_init_56 : decode cX7_init 56 = .ok (.iload 4, 2) := by decide +kernel
theorem dX7_init_58 : decode cX7_init 58 = .ok (.bipush 16, 2) := by decide +kernel
theorem dX7_init_60 : decode cX7_init 60 = .ok (.if_icmp .ge 23, 3) := by decide +kernel
theorem dX7_init_63 : decode cX7_init 63 = .ok (.aload_n 0, 1) := by decide +kernel
theorem dX7_init_64 : decode cX7_init 64 = .ok (.getfield 20, 3) := by decide +kernel
theorem dX7_init_67 : decode cX7_init 67 = .ok (.iload 4, 2) := by decide +kernel
theorem dX7_init_69 : decode cX7_init 69 = .ok (.new 18, 3) := by decide +kernel
theorem dX7_init_72 : decode cX7_init 72 = .ok (.dup, 1) := by decide +kernel
theorem dX7_init_73 : decode cX7_init 73 = .ok (.invokespecial 45, 3) := by decide +kernel
theorem dX7_init_76 : decode cX7_init 76 = .ok (.aastore, 1) := by decide +kernel
theorem dX7_init_77 : decode cX7_init 77 = .ok (.iinc 4 1, 3) := by decide +kernel
theorem dX7_init_80 : decode cX7_init 80 = .ok (.goto (-24), 3) := by decide +kernel
theorem dX7_init_83 : decode cX7_init 83 = .ok (.return_, 1) := by decide +kernel
theorem dX8_init_0 : decode cX8_init 0 = .ok (.aload_n 0, 1) := by decide +kernel
theorem dX8_init_1 : decode cX8_init 1 = .ok (.invokespecial 3, 3) := by decide +kernel
theorem dX8_init_4 : decode cX8_init 4 = .ok (.aload_n 0, 1) := by decide +kernel
theorem dX8_init_5 : decode cX8_init 5 = .ok (.new 9, 3) := by decide +kernel
theorem dX8_init_8 : decode cX8_init 8 = .ok (.dup, 1) := by decide +kernel
theorem dX8_init_9 : decode cX8_init 9 = .ok (.invokespecial 11, 3) := by decide +kernel
theorem dX8_init_12 : decode cX8_init 12 = .ok (.putfield 12, 3) := by decide +kernel
theorem dX8_init_15 : decode cX8_init 15 = .ok (.aload_n 0, 1) := by decide +kernel
theorem dX8_init_16 : decode cX8_init 16 = .ok (.bipush 60, 2) := by decide +kernel
theorem dX8_init_18 : decode cX8_init 18 = .ok (.newarray .int, 2) := by decide +kernel
theorem dX8_init_20 : decode cX8_init 20 = .ok (.putfield 18, 3) := by decide +kernel
theorem dX8_init_23 : decode cX8_init 23 = .ok (.aload_n 0, 1) := by decide +kernel
theorem dX8_init_24 : decode cX8_init 24 = .ok (.bipush 60, 2) := by decide +kernel
theorem dX8_init_26 : decode cX8_init 26 = .ok (.newarray .int, 2) := by decide +kernel
theorem dX8_init_28 : decode cX8_init 28 = .ok (.putfield 22, 3) := by decide +kernel
theorem dX8_init_31 : decode cX8_init 31 = .ok (.aload_n 0, 1) := by decide +kernel
theorem dX8_init_32 : decode cX8_init 32 = .ok (.bipush 60, 2) := by decide +kernel
theorem dX8_init_34 : decode cX8_init 34 = .ok (.newarray .int, 2) := by decide +kernel
theorem dX8_init_36 : decode cX8_init 36 = .ok (.putfield 25, 3) := by decide +kernel
theorem dX8_init_39 : decode cX8_init 39 = .ok (.aload_n 0, 1) := by decide +kernel
theorem dX8_init_40 : decode cX8_init 40 = .ok (.iconst (-1), 1) := by decide +kernel
theorem dX8_init_41 : decode cX8_init 41 = .ok (.putfield 28, 3) := by decide +kernel
theorem dX8_init_44 : decode cX8_init 44 = .ok (.aload_n 0, 1) := by decide +kernel
theorem dX8_init_45 : decode cX8_init 45 = .ok (.iload_n 1, 1) := by decide +kernel
theorem dX8_init_46 : decode cX8_init 46 = .ok (.putfield 32, 3) := by decide +kernel
theorem dX8_init_49 : decode cX8_init 49 = .ok (.aload_n 0, 1) := by decide +kernel
theorem dX8_init_50 : decode cX8_init 50 = .ok (.iload_n 2, 1) := by decide +kernel
theorem dX8_init_51 : decode cX8_init 51 = .ok (.putfield 35, 3) := by decide +kernel
theorem dX8_init_54 : decode cX8_init 54 = .ok (.aload_n 0, 1) := by decide +kernel
theorem dX8_init_55 : decode cX8_init 55 = .ok (.iload_n 3, 1) := by decide +kernel
theorem dX8_init_56 : decode cX8_init 56 = .ok (.putfield 38, 3) := by decide +kernel
theorem dX8_init_59 : decode cX8_init 59 = .ok (.return_, 1) := by decide +kernel
theorem dX9_init_0 : decode cX9_init 0 = .ok (.aload_n 0, 1) := by decide +kernel
theorem dX9_init_1 : decode cX9_init 1 = .ok (.invokespecial 3, 3) := by decide +kernel
theorem dX9_init_4 : decode cX9_init 4 = .ok (.aload_n 0, 1) := by decide +kernel
theorem dX9_init_5 : decode cX9_init 5 = .ok (.bipush 15, 2) := by decide +kernel
theorem dX9_init_7 : decode cX9_init 7 = .ok (.newarray .boolean, 2) := by decide +kernel
theorem dX9_init_9 : decode cX9_init 9 = .ok (.putfield 9, 3) := by decide +kernel
theorem dX9_init_12 : decode cX9_init 12 = .ok (.aload_n 0, 1) := by decide +kernel
theorem dX9_init_13 : decode cX9_init 13 = .ok (.bipush 15, 2) := by decide +kernel
theorem dX9_init_15 : decode cX9_init 15 = .ok (.newarray .int, 2) := by decide +kernel
theorem dX9_init_17 : decode cX9_init 17 = .ok (.putfield 15, 3) := by decide +kernel
theorem dX9_init_20 : decode cX9_init 20 = .ok (.aload_n 0, 1) := by decide +kernel
theorem dX9_init_21 : decode cX9_init 21 = .ok (.bipush 60, 2) := by decide +kernel
theorem dX9_init_23 : decode cX9_init 23 = .ok (.newarray .boolean, 2) := by decide +kernel
theorem dX9_init_25 : decode cX9_init 25 = .ok (.putfield 19, 3) := by decide +kernel
theorem dX9_init_28 : decode cX9_init 28 = .ok (.aload_n 0, 1) := by decide +kernel
theorem dX9_init_29 : decode cX9_init 29 = .ok (.bipush 11, 2) := by decide +kernel
theorem dX9_init_31 : decode cX9_init 31 = .ok (.newarray .boolean, 2) := by decide +kernel
theorem dX9_init_33 : decode cX9_init 33 = .ok (.putfield 22, 3) := by decide +kernel
theorem dX9_init_36 : decode cX9_init 36 = .ok (.aload_n 0, 1) := by decide +kernel
theorem dX9_init_37 : decode cX9_init 37 = .ok (.aload_n 1, 1) := by decide +kernel
theorem dX9_init_38 : decode cX9_init 38 = .ok (.putfield 25, 3) := by decide +kernel
theorem dX9_init_41 : decode cX9_init 41 = .ok (.return_, 1) := by decide +kernel
theorem dX10_init_0 : decode cX10_init 0 = .ok (.aload_n 0, 1) := by decide +kernel
theorem dX10_init_1 : decode cX10_init 1 = .ok (.invokespecial 3, 3) := by decide +kernel
theorem dX10_init_4 : decode cX10_init 4 = .ok (.aload_n 0, 1) := by decide +kernel
theorem dX10_init_5 : decode cX10_init 5 = .ok (.iconst 4, 1) := by decide +kernel
theorem dX10_init_6 : decode cX10_init 6 = .ok (.newarray .int, 2) := by decide +kernel
theorem dX10_init_8 : decode cX10_init 8 = .ok (.putfield 9, 3) := by decide +kernel
theorem dX10_init_11 : decode cX10_init 11 = .ok (.return_, 1) := by decide +kernel
theorem dX10_ofTrap_0 : decode cX10_ofTrap 0 = .ok (.iload_n 1, 1) := by decide +kernel
theorem dX10_ofTrap_1 : decode cX10_ofTrap 1 = .ok (.ifCond .lt 17, 3) := by decide +kernel
theorem dX10_ofTrap_4 : decode cX10_ofTrap 4 = .ok (.iload_n 1, 1) := by decide +kernel
theorem dX10_ofTrap_5 : decode cX10_ofTrap 5 = .ok (.iconst 4, 1) := by decide +kernel
theorem dX10_ofTrap_6 : decode cX10_ofTrap 6 = .ok (.if_icmp .ge 12, 3) := by decide +kernel
theorem dX10_ofTrap_9 : decode cX10_ofTrap 9 = .ok (.aload_n 0, 1) := by decide +kernel
theorem dX10_ofTrap_10 : decode cX10_ofTrap 10 = .ok (.getfield 9, 3) := by decide +kernel
theorem dX10_ofTrap_13 : decode cX10_ofTrap 13 = .ok (.iload_n 1, 1) := by decide +kernel
theorem dX10_ofTrap_14 : decode cX10_ofTrap 14 = .ok (.iaload, 1) := by decide +kernel
theorem dX10_ofTrap_15 : decode cX10_ofTrap 15 = .ok (.goto 5, 3) := by decide +kernel
theorem dX10_ofTrap_18 : decode cX10_ofTrap 18 = .ok (.bipush (-2), 2) := by decide +kernel
theorem dX10_ofTrap_20 : decode cX10_ofTrap 20 = .ok (.ireturn, 1) := by decide +kernel
theorem dX10_mixedInto_0 : decode cX10_mixedInto 0 = .ok (.ldc2_w 38, 3) := by decide +kernel
theorem dX10_mixedInto_3 : decode cX10_mixedInto 3 = .ok (.lload_n 1, 1) := by decide +kernel
theorem dX10_mixedInto_4 : decode cX10_mixedInto 4 = .ok (.lmul, 1) := by decide +kernel
theorem dX10_mixedInto_5 : decode cX10_mixedInto 5 = .ok (.aload_n 0, 1) := by decide +kernel
theorem dX10_mixedInto_6 : decode cX10_mixedInto 6 = .ok (.getfield 31, 3) := by decide +kernel
theorem dX10_mixedInto_9 : decode cX10_mixedInto 9 = .ok (.i2l, 1) := by decide +kernel
theorem dX10_mixedInto_10 : decode cX10_mixedInto 10 = .ok (.ladd, 1) := by decide +kernel
theorem dX10_mixedInto_11 : decode cX10_mixedInto 11 = .ok (.lstore_n 1, 1) := by decide +kernel
theorem dX10_mixedInto_12 : decode cX10_mixedInto 12 = .ok (.iconst 0, 1) := by decide +kernel
theorem dX10_mixedInto_13 : decode cX10_mixedInto 13 = .ok (.istore_n 3, 1) := by decide +kernel
theorem dX10_mixedInto_14 : decode cX10_mixedInto 14 = .ok (.iload_n 3, 1) := by decide +kernel
theorem dX10_mixedInto_15 : decode cX10_mixedInto 15 = .ok (.iconst 4, 1) := by decide +kernel
theorem dX10_mixedInto_16 : decode cX10_mixedInto 16 = .ok (.if_icmp .ge 23, 3) := by decide +kernel
theorem dX10_mixedInto_19 : decode cX10_mixedInto 19 = .ok (.ldc2_w 38, 3) := by decide +kernel
theorem dX10_mixedInto_22 : decode cX10_mixedInto 22 = .ok (.lload_n 1, 1) := by decide +kernel
theorem dX10_mixedInto_23 : decode cX10_mixedInto 23 = .ok (.lmul, 1) := by decide +kernel
theorem dX10_mixedInto_24 : decode cX10_mixedInto 24 = .ok (.aload_n 0, 1) := by decide +kernel
theorem dX10_mixedInto_25 : decode cX10_mixedInto 25 = .ok (.getfield 9, 3) := by decide +kernel
theorem dX10_mixedInto_28 : decode cX10_mixedInto 28 = .ok (.iload_n 3, 1) := by decide +kernel
theorem dX10_mixedInto_29 : decode cX10_mixedInto 29 = .ok (.iaload, 1) := by decide +kernel
theorem dX10_mixedInto_30 : decode cX10_mixedInto 30 = .ok (.i2l, 1) := by decide +kernel
theorem dX10_mixedInto_31 : decode cX10_mixedInto 31 = .ok (.ladd, 1) := by decide +kernel
theorem dX10_mixedInto_32 : decode cX10_mixedInto 32 = .ok (.lstore_n 1, 1) := by decide +kernel
theorem dX10_mixedInto_33 : decode cX10_mixedInto 33 = .ok (.iinc 3 1, 3) := by decide +kernel
theorem dX10_mixedInto_36 : decode cX10_mixedInto 36 = .ok (.goto (-22), 3) := by decide +kernel
theorem dX10_mixedInto_39 : decode cX10_mixedInto 39 = .ok (.lload_n 1, 1) := by decide +kernel
theorem dX10_mixedInto_40 : decode cX10_mixedInto 40 = .ok (.lreturn, 1) := by decide +kernel
theorem dX11_init_0 : decode cX11_init 0 = .ok (.aload_n 0, 1) := by decide +kernel
theorem dX11_init_1 : decode cX11_init 1 = .ok (.invokespecial 3, 3) := by decide +kernel
theorem dX11_init_4 : decode cX11_init 4 = .ok (.new 9, 3) := by decide +kernel
theorem dX11_init_7 : decode cX11_init 7 = .ok (.dup, 1) := by decide +kernel
theorem dX11_init_8 : decode cX11_init 8 = .ok (.invokespecial 11, 3) := by decide +kernel
theorem dX11_init_11 : decode cX11_init 11 = .ok (.astore_n 1, 1) := by decide +kernel
theorem dX11_init_12 : decode cX11_init 12 = .ok (.aload_n 0, 1) := by decide +kernel
theorem dX11_init_13 : decode cX11_init 13 = .ok (.new 12, 3) := by decide +kernel
theorem dX11_init_16 : decode cX11_init 16 = .ok (.dup, 1) := by decide +kernel
theorem dX11_init_17 : decode cX11_init 17 = .ok (.invokespecial 14, 3) := by decide +kernel
theorem dX11_init_20 : decode cX11_init 20 = .ok (.putfield 15, 3) := by decide +kernel
theorem dX11_init_23 : decode cX11_init 23 = .ok (.aload_n 0, 1) := by decide +kernel
theorem dX11_init_24 : decode cX11_init 24 = .ok (.new 19, 3) := by decide +kernel
theorem dX11_init_27 : decode cX11_init 27 = .ok (.dup, 1) := by decide +kernel
theorem dX11_init_28 : decode cX11_init 28 = .ok (.invokespecial 21, 3) := by decide +kernel
theorem dX11_init_31 : decode cX11_init 31 = .ok (.putfield 22, 3) := by decide +kernel
theorem dX11_init_34 : decode cX11_init 34 = .ok (.aload_n 0, 1) := by decide +kernel
theorem dX11_init_35 : decode cX11_init 35 = .ok (.new 26, 3) := by decide +kernel
theorem dX11_init_38 : decode cX11_init 38 = .ok (.dup, 1) := by decide +kernel
theorem dX11_init_39 : decode cX11_init 39 = .ok (.aload_n 0, 1) := by decide +kernel
theorem dX11_init_40 : decode cX11_init 40 = .ok (.getfield 15, 3) := by decide +kernel
theorem dX11_init_43 : decode cX11_init 43 = .ok (.aload_n 1, 1) := by decide +kernel
theorem dX11_init_44 : decode cX11_init 44 = .ok (.invokespecial 28, 3) := by decide +kernel
theorem dX11_init_47 : decode cX11_init 47 = .ok (.putfield 31, 3) := by decide +kernel
theorem dX11_init_50 : decode cX11_init 50 = .ok (.aload_n 0, 1) := by decide +kernel
theorem dX11_init_51 : decode cX11_init 51 = .ok (.new 35, 3) := by decide +kernel
theorem dX11_init_54 : decode cX11_init 54 = .ok (.dup, 1) := by decide +kernel
theorem dX11_init_55 : decode cX11_init 55 = .ok (.aload_n 0, 1) := by decide +kernel
theorem dX11_init_56 : decode cX11_init 56 = .ok (.getfield 15, 3) := by decide +kernel
theorem dX11_init_59 : decode cX11_init 59 = .ok (.aload_n 0, 1) := by decide +kernel
theorem dX11_init_60 : decode cX11_init 60 = .ok (.getfield 22, 3) := by decide +kernel
theorem dX11_init_63 : decode cX11_init 63 = .ok (.aload_n 1, 1) := by decide +kernel
theorem dX11_init_64 : decode cX11_init 64 = .ok (.invokespecial 37, 3) := by decide +kernel
theorem dX11_init_67 : decode cX11_init 67 = .ok (.putfield 40, 3) := by decide +kernel
theorem dX11_init_70 : decode cX11_init 70 = .ok (.return_, 1) := by decide +kernel
theorem dX11_method_0 : decode cX11_method 0 = .ok (.iload_n 1, 1) := by decide +kernel
theorem dX11_method_1 : decode cX11_method 1 = .ok (.ifCond .lt 19, 3) := by decide +kernel
theorem dX11_method_4 : decode cX11_method 4 = .ok (.iload_n 1, 1) := by decide +kernel
theorem dX11_method_5 : decode cX11_method 5 = .ok (.iconst 3, 1) := by decide +kernel
theorem dX11_method_6 : decode cX11_method 6 = .ok (.if_icmp .gt 14, 3) := by decide +kernel
theorem dX11_method_9 : decode cX11_method 9 = .ok (.iload_n 2, 1) := by decide +kernel
theorem dX11_method_10 : decode cX11_method 10 = .ok (.iload_n 1, 1) := by decide +kernel
theorem dX11_method_11 : decode cX11_method 11 = .ok (.if_icmp .lt 9, 3) := by decide +kernel
theorem dX11_method_14 : decode cX11_method 14 = .ok (.iload_n 2, 1) := by decide +kernel
theorem dX11_method_15 : decode cX11_method 15 = .ok (.bipush 6, 2) := by decide +kernel
theorem dX11_method_17 : decode cX11_method 17 = .ok (.if_icmp .le 6, 3) := by decide +kernel
theorem dX11_method_20 : decode cX11_method 20 = .ok (.bipush (-2), 2) := by decide +kernel
theorem dX11_method_22 : decode cX11_method 22 = .ok (.ireturn, 1) := by decide +kernel
theorem dX11_method_23 : decode cX11_method 23 = .ok (.aload_n 0, 1) := by decide +kernel
theorem dX11_method_24 : decode cX11_method 24 = .ok (.getfield 15, 3) := by decide +kernel
theorem dX11_method_27 : decode cX11_method 27 = .ok (.iload_n 1, 1) := by decide +kernel
theorem dX11_method_28 : decode cX11_method 28 = .ok (.iload_n 2, 1) := by decide +kernel
theorem dX11_method_29 : decode cX11_method 29 = .ok (.invokevirtual 44, 3) := by decide +kernel
theorem dX11_method_32 : decode cX11_method 32 = .ok (.ireturn, 1) := by decide +kernel
theorem dX11_write_0 : decode cX11_write 0 = .ok (.aload_n 0, 1) := by decide +kernel
theorem dX11_write_1 : decode cX11_write 1 = .ok (.getfield 15, 3) := by decide +kernel
theorem dX11_write_4 : decode cX11_write 4 = .ok (.iload_n 1, 1) := by decide +kernel
theorem dX11_write_5 : decode cX11_write 5 = .ok (.invokevirtual 48, 3) := by decide +kernel
theorem dX11_write_8 : decode cX11_write 8 = .ok (.astore 4, 2) := by decide +kernel
theorem dX11_write_10 : decode cX11_write 10 = .ok (.aload 4, 2) := by decide +kernel
theorem dX11_write_12 : decode cX11_write 12 = .ok (.ifnull 13, 3) := by decide +kernel
theorem dX11_write_15 : decode cX11_write 15 = .ok (.iload_n 2, 1) := by decide +kernel
theorem dX11_write_16 : decode cX11_write 16 = .ok (.ifCond .lt 9, 3) := by decide +kernel
theorem dX11_write_19 : decode cX11_write 19 = .ok (.iload_n 2, 1) := by decide +kernel
theorem dX11_write_20 : decode cX11_write 20 = .ok (.bipush 20, 2) := by decide +kernel
theorem dX11_write_22 : decode cX11_write 22 = .ok (.if_icmp .lt 6, 3) := by decide +kernel
theorem dX11_write_25 : decode cX11_write 25 = .ok (.bipush (-2), 2) := by decide +kernel
theorem dX11_write_27 : decode cX11_write 27 = .ok (.ireturn, 1) := by decide +kernel
theorem dX11_write_28 : decode cX11_write 28 = .ok (.aload 4, 2) := by decide +kernel
theorem dX11_write_30 : decode cX11_write 30 = .ok (.invokevirtual 52, 3) := by decide +kernel
theorem dX11_write_33 : decode cX11_write 33 = .ok (.ifCond .eq 6, 3) := by decide +kernel
theorem dX11_write_36 : decode cX11_write 36 = .ok (.bipush (-3), 2) := by decide +kernel
theorem dX11_write_38 : decode cX11_write 38 = .ok (.ireturn, 1) := by decide +kernel
theorem dX11_write_39 : decode cX11_write 39 = .ok (.aload 4, 2) := by decide +kernel
theorem dX11_write_41 : decode cX11_write 41 = .ok (.iload_n 2, 1) := by decide +kernel
theorem dX11_write_42 : decode cX11_write 42 = .ok (.iload_n 3, 1) := by decide +kernel
theorem dX11_write_43 : decode cX11_write 43 = .ok (.invokevirtual 58, 3) := by decide +kernel
theorem dX11_write_46 : decode cX11_write 46 = .ok (.ireturn, 1) := by decide +kernel
theorem dX11_look_0 : decode cX11_look 0 = .ok (.aload_n 0, 1) := by decide +kernel
theorem dX11_look_1 : decode cX11_look 1 = .ok (.getfield 15, 3) := by decide +kernel
theorem dX11_look_4 : decode cX11_look 4 = .ok (.iload_n 1, 1) := by decide +kernel
theorem dX11_look_5 : decode cX11_look 5 = .ok (.invokevirtual 48, 3) := by decide +kernel
theorem dX11_look_8 : decode cX11_look 8 = .ok (.astore_n 2, 1) := by decide +kernel
theorem dX11_look_9 : decode cX11_look 9 = .ok (.aload_n 2, 1) := by decide +kernel
theorem dX11_look_10 : decode cX11_look 10 = .ok (.ifnonnull 6, 3) := by decide +kernel
theorem dX11_look_13 : decode cX11_look 13 = .ok (.bipush (-2), 2) := by decide +kernel
theorem dX11_look_15 : decode cX11_look 15 = .ok (.ireturn, 1) := by decide +kernel
theorem dX11_look_16 : decode cX11_look 16 = .ok (.aload_n 2, 1) := by decide +kernel
theorem dX11_look_17 : decode cX11_look 17 = .ok (.invokevirtual 52, 3) := by decide +kernel
theorem dX11_look_20 : decode cX11_look 20 = .ok (.ifCond .eq 6, 3) := by decide +kernel
theorem dX11_look_23 : decode cX11_look 23 = .ok (.bipush (-3), 2) := by decide +kernel
theorem dX11_look_25 : decode cX11_look 25 = .ok (.ireturn, 1) := by decide +kernel
theorem dX11_look_26 : decode cX11_look 26 = .ok (.aload_n 0, 1) := by decide +kernel
theorem dX11_look_27 : decode cX11_look 27 = .ok (.getfield 31, 3) := by decide +kernel
theorem dX11_look_30 : decode cX11_look 30 = .ok (.aload_n 2, 1) := by decide +kernel
theorem dX11_look_31 : decode cX11_look 31 = .ok (.invokevirtual 61, 3) := by decide +kernel
theorem dX11_look_34 : decode cX11_look 34 = .ok (.ireturn, 1) := by decide +kernel
theorem dX11_fault_0 : decode cX11_fault 0 = .ok (.aload_n 0, 1) := by decide +kernel
theorem dX11_fault_1 : decode cX11_fault 1 = .ok (.getfield 31, 3) := by decide +kernel
theorem dX11_fault_4 : decode cX11_fault 4 = .ok (.getfield 65, 3) := by decide +kernel
theorem dX11_fault_7 : decode cX11_fault 7 = .ok (.ireturn, 1) := by decide +kernel
theorem dX11_keep_0 : decode cX11_keep 0 = .ok (.iload_n 1, 1) := by decide +kernel
theorem dX11_keep_1 : decode cX11_keep 1 = .ok (.ifCond .lt 9, 3) := by decide +kernel
theorem dX11_keep_4 : decode cX11_keep 4 = .ok (.iload_n 1, 1) := by decide +kernel
theorem dX11_keep_5 : decode cX11_keep 5 = .ok (.bipush 8, 2) := by decide +kernel
theorem dX11_keep_7 : decode cX11_keep 7 = .ok (.if_icmp .lt 6, 3) := by decide +kernel
theorem dX11_keep_10 : decode cX11_keep 10 = .ok (.ldc 69, 2) := by decide +kernel
theorem dX11_keep_12 : decode cX11_keep 12 = .ok (.ireturn, 1) := by decide +kernel
theorem dX11_keep_13 : decode cX11_keep 13 = .ok (.aload_n 0, 1) := by decide +kernel
theorem dX11_keep_14 : decode cX11_keep 14 = .ok (.getfield 22, 3) := by decide +kernel
theorem dX11_keep_17 : decode cX11_keep 17 = .ok (.iload_n 1, 1) := by decide +kernel
theorem dX11_keep_18 : decode cX11_keep 18 = .ok (.invokevirtual 70, 3) := by decide +kernel
theorem dX11_keep_21 : decode cX11_keep 21 = .ok (.istore_n 3, 1) := by decide +kernel
theorem dX11_keep_22 : decode cX11_keep 22 = .ok (.aload_n 0, 1) := by decide +kernel
theorem dX11_keep_23 : decode cX11_keep 23 = .ok (.getfield 22, 3) := by decide +kernel
theorem dX11_keep_26 : decode cX11_keep 26 = .ok (.iload_n 1, 1) := by decide +kernel
theorem dX11_keep_27 : decode cX11_keep 27 = .ok (.iload_n 2, 1) := by decide +kernel
theorem dX11_keep_28 : decode cX11_keep 28 = .ok (.invokevirtual 74, 3) := by decide +kernel
theorem dX11_keep_31 : decode cX11_keep 31 = .ok (.iload_n 3, 1) := by decide +kernel
theorem dX11_keep_32 : decode cX11_keep 32 = .ok (.ireturn, 1) := by decide +kernel
theorem dX11_field_0 : decode cX11_field 0 = .ok (.iload_n 1, 1) := by decide +kernel
theorem dX11_field_1 : decode cX11_field 1 = .ok (.ifCond .lt 9, 3) := by decide +kernel
theorem dX11_field_4 : decode cX11_field 4 = .ok (.iload_n 1, 1) := by decide +kernel
theorem dX11_field_5 : decode cX11_field 5 = .ok (.bipush 8, 2) := by decide +kernel
theorem dX11_field_7 : decode cX11_field 7 = .ok (.if_icmp .lt 8, 3) := by decide +kernel
theorem dX11_field_10 : decode cX11_field 10 = .ok (.ldc 69, 2) := by decide +kernel
theorem dX11_field_12 : decode cX11_field 12 = .ok (.goto 11, 3) := by decide +kernel
theorem dX11_field_15 : decode cX11_field 15 = .ok (.aload_n 0, 1) := by decide +kernel
theorem dX11_field_16 : decode cX11_field 16 = .ok (.getfield 22, 3) := by decide +kernel
theorem dX11_field_19 : decode cX11_field 19 = .ok (.iload_n 1, 1) := by decide +kernel
theorem dX11_field_20 : decode cX11_field 20 = .ok (.invokevirtual 70, 3) := by decide +kernel
theorem dX11_field_23 : decode cX11_field 23 = .ok (.ireturn, 1) := by decide +kernel
theorem dX11_lose_0 : decode cX11_lose 0 = .ok (.iload_n 1, 1) := by decide +kernel
theorem dX11_lose_1 : decode cX11_lose 1 = .ok (.ifCond .lt 8, 3) := by decide +kernel
theorem dX11_lose_4 : decode cX11_lose 4 = .ok (.iload_n 1, 1) := by decide +kernel
theorem dX11_lose_5 : decode cX11_lose 5 = .ok (.iconst 4, 1) := by decide +kernel
theorem dX11_lose_6 : decode cX11_lose 6 = .ok (.if_icmp .lt 6, 3) := by decide +kernel
theorem dX11_lose_9 : decode cX11_lose 9 = .ok (.bipush (-2), 2) := by decide +kernel
theorem dX11_lose_11 : decode cX11_lose 11 = .ok (.ireturn, 1) := by decide +kernel
theorem dX11_lose_12 : decode cX11_lose 12 = .ok (.aload_n 0, 1) := by decide +kernel
theorem dX11_lose_13 : decode cX11_lose 13 = .ok (.getfield 22, 3) := by decide +kernel
theorem dX11_lose_16 : decode cX11_lose 16 = .ok (.iload_n 1, 1) := by decide +kernel
theorem dX11_lose_17 : decode cX11_lose 17 = .ok (.invokevirtual 78, 3) := by decide +kernel
theorem dX11_lose_20 : decode cX11_lose 20 = .ok (.istore_n 2, 1) := by decide +kernel
theorem dX11_lose_21 : decode cX11_lose 21 = .ok (.aload_n 0, 1) := by decide +kernel
theorem dX11_lose_22 : decode cX11_lose 22 = .ok (.getfield 22, 3) := by decide +kernel
theorem dX11_lose_25 : decode cX11_lose 25 = .ok (.iload_n 1, 1) := by decide +kernel
theorem dX11_lose_26 : decode cX11_lose 26 = .ok (.iconst (-1), 1) := by decide +kernel
theorem dX11_lose_27 : decode cX11_lose 27 = .ok (.invokevirtual 81, 3) := by decide +kernel
theorem dX11_lose_30 : decode cX11_lose 30 = .ok (.iload_n 2, 1) := by decide +kernel
theorem dX11_lose_31 : decode cX11_lose 31 = .ok (.ireturn, 1) := by decide +kernel
theorem dX11_size_0 : decode cX11_size 0 = .ok (.iload_n 1, 1) := by decide +kernel
theorem dX11_size_1 : decode cX11_size 1 = .ok (.ifCond .lt 8, 3) := by decide +kernel
theorem dX11_size_4 : decode cX11_size 4 = .ok (.iload_n 1, 1) := by decide +kernel
theorem dX11_size_5 : decode cX11_size 5 = .ok (.iconst 4, 1) := by decide +kernel
theorem dX11_size_6 : decode cX11_size 6 = .ok (.if_icmp .lt 8, 3) := by decide +kernel
theorem dX11_size_9 : decode cX11_size 9 = .ok (.bipush (-2), 2) := by decide +kernel
theorem dX11_size_11 : decode cX11_size 11 = .ok (.goto 11, 3) := by decide +kernel
theorem dX11_size_14 : decode cX11_size 14 = .ok (.aload_n 0, 1) := by decide +kernel
theorem dX11_size_15 : decode cX11_size 15 = .ok (.getfield 22, 3) := by decide +kernel
theorem dX11_size_18 : decode cX11_size 18 = .ok (.iload_n 1, 1) := by decide +kernel
theorem dX11_size_19 : decode cX11_size 19 = .ok (.invokevirtual 78, 3) := by decide +kernel
theorem dX11_size_22 : decode cX11_size 22 = .ok (.ireturn, 1) := by decide +kernel
theorem dX11_item_0 : decode cX11_item 0 = .ok (.aload_n 0, 1) := by decide +kernel
theorem dX11_item_1 : decode cX11_item 1 = .ok (.getfield 22, 3) := by decide +kernel
theorem dX11_item_4 : decode cX11_item 4 = .ok (.iload_n 1, 1) := by decide +kernel
theorem dX11_item_5 : decode cX11_item 5 = .ok (.iload_n 2, 1) := by decide +kernel
theorem dX11_item_6 : decode cX11_item 6 = .ok (.invokevirtual 84, 3) := by decide +kernel
theorem dX11_item_9 : decode cX11_item 9 = .ok (.ireturn, 1) := by decide +kernel
theorem dX11_run_0 : decode cX11_run 0 = .ok (.aload_n 0, 1) := by decide +kernel
theorem dX11_run_1 : decode cX11_run 1 = .ok (.getfield 15, 3) := by decide +kernel
theorem dX11_run_4 : decode cX11_run 4 = .ok (.iload_n 1, 1) := by decide +kernel
theorem dX11_run_5 : decode cX11_run 5 = .ok (.invokevirtual 48, 3) := by decide +kernel
theorem dX11_run_8 : decode cX11_run 8 = .ok (.ifnonnull 6, 3) := by decide +kernel
theorem dX11_run_11 : decode cX11_run 11 = .ok (.bipush (-2), 2) := by decide +kernel
theorem dX11_run_13 : decode cX11_run 13 = .ok (.ireturn, 1) := by decide +kernel
theorem dX11_run_14 : decode cX11_run 14 = .ok (.aload_n 0, 1) := by decide +kernel
theorem dX11_run_15 : decode cX11_run 15 = .ok (.getfield 15, 3) := by decide +kernel
theorem dX11_run_18 : decode cX11_run 18 = .ok (.invokevirtual 87, 3) := by decide +kernel
theorem dX11_run_21 : decode cX11_run 21 = .ok (.ifCond .ne 6, 3) := by decide +kernel
theorem dX11_run_24 : decode cX11_run 24 = .ok (.bipush (-3), 2) := by decide +kernel
theorem dX11_run_26 : decode cX11_run 26 = .ok (.ireturn, 1) := by decide +kernel
theorem dX11_run_27 : decode cX11_run 27 = .ok (.aload_n 0, 1) := by decide +kernel
theorem dX11_run_28 : decode cX11_run 28 = .ok (.getfield 40, 3) := by decide +kernel
theorem dX11_run_31 : decode cX11_run 31 = .ok (.getfield 88, 3) := by decide +kernel
theorem dX11_run_34 : decode cX11_run 34 = .ok (.getfield 92, 3) := by decide +kernel
theorem dX11_run_37 : decode cX11_run 37 = .ok (.bipush 80, 2) := by decide +kernel
theorem dX11_run_39 : decode cX11_run 39 = .ok (.if_icmp .lt 6, 3) := by decide +kernel
theorem dX11_run_42 : decode cX11_run 42 = .ok (.bipush (-4), 2) := by decide +kernel
theorem dX11_run_44 : decode cX11_run 44 = .ok (.ireturn, 1) := by decide +kernel
theorem dX11_run_45 : decode cX11_run 45 = .ok (.aload_n 0, 1) := by decide +kernel
theorem dX11_run_46 : decode cX11_run 46 = .ok (.getfield 40, 3) := by decide +kernel
theorem dX11_run_49 : decode cX11_run 49 = .ok (.iload_n 1, 1) := by decide +kernel
theorem dX11_run_50 : decode cX11_run 50 = .ok (.iload_n 2, 1) := by decide +kernel
theorem dX11_run_51 : decode cX11_run 51 = .ok (.iload_n 3, 1) := by decide +kernel
theorem dX11_run_52 : decode cX11_run 52 = .ok (.iload 4, 2) := by decide +kernel
theorem dX11_run_54 : decode cX11_run 54 = .ok (.invokevirtual 97, 3) := by decide +kernel
theorem dX11_run_57 : decode cX11_run 57 = .ok (.ireturn, 1) := by decide +kernel
theorem dX11_answer_0 : decode cX11_answer 0 = .ok (.aload_n 0, 1) := by decide +kernel
theorem dX11_answer_1 : decode cX11_answer 1 = .ok (.getfield 40, 3) := by decide +kernel
theorem dX11_answer_4 : decode cX11_answer 4 = .ok (.getfield 88, 3) := by decide +kernel
theorem dX11_answer_7 : decode cX11_answer 7 = .ok (.getfield 101, 3) := by decide +kernel
theorem dX11_answer_10 : decode cX11_answer 10 = .ok (.ireturn, 1) := by decide +kernel
theorem dX11_trap_0 : decode cX11_trap 0 = .ok (.aload_n 0, 1) := by decide +kernel
theorem dX11_trap_1 : decode cX11_trap 1 = .ok (.getfield 40, 3) := by decide +kernel
theorem dX11_trap_4 : decode cX11_trap 4 = .ok (.getfield 88, 3) := by decide +kernel
theorem dX11_trap_7 : decode cX11_trap 7 = .ok (.iload_n 1, 1) := by decide +kernel
theorem dX11_trap_8 : decode cX11_trap 8 = .ok (.invokevirtual 104, 3) := by decide +kernel
theorem dX11_trap_11 : decode cX11_trap 11 = .ok (.ireturn, 1) := by decide +kernel
theorem dX11_of_0 : decode cX11_of 0 = .ok (.aload_n 0, 1) := by decide +kernel
theorem dX11_of_1 : decode cX11_of 1 = .ok (.getfield 15, 3) := by decide +kernel
theorem dX11_of_4 : decode cX11_of 4 = .ok (.iload_n 1, 1) := by decide +kernel
theorem dX11_of_5 : decode cX11_of 5 = .ok (.invokevirtual 48, 3) := by decide +kernel
theorem dX11_of_8 : decode cX11_of 8 = .ok (.astore_n 3, 1) := by decide +kernel
theorem dX11_of_9 : decode cX11_of 9 = .ok (.aload_n 3, 1) := by decide +kernel
theorem dX11_of_10 : decode cX11_of 10 = .ok (.ifnonnull 8, 3) := by decide +kernel
theorem dX11_of_13 : decode cX11_of 13 = .ok (.bipush (-2), 2) := by decide +kernel
theorem dX11_of_15 : decode cX11_of 15 = .ok (.goto 8, 3) := by decide +kernel
theorem dX11_of_18 : decode cX11_of 18 = .ok (.aload_n 3, 1) := by decide +kernel
theorem dX11_of_19 : decode cX11_of 19 = .ok (.iload_n 2, 1) := by decide +kernel
theorem dX11_of_20 : decode cX11_of 20 = .ok (.invokestatic 107, 3) := by decide +kernel
theorem dX11_of_23 : decode cX11_of 23 = .ok (.ireturn, 1) := by decide +kernel
theorem dX11_part_0 : decode cX11_part 0 = .ok (.aload_n 0, 1) := by decide +kernel
theorem dX11_part_1 : decode cX11_part 1 = .ok (.getfield 15, 3) := by decide +kernel
theorem dX11_part_4 : decode cX11_part 4 = .ok (.iload_n 1, 1) := by decide +kernel
theorem dX11_part_5 : decode cX11_part 5 = .ok (.invokevirtual 48, 3) := by decide +kernel
theorem dX11_part_8 : decode cX11_part 8 = .ok (.astore 4, 2) := by decide +kernel
theorem dX11_part_10 : decode cX11_part 10 = .ok (.aload 4, 2) := by decide +kernel
theorem dX11_part_12 : decode cX11_part 12 = .ok (.ifnull 14, 3) := by decide +kernel
theorem dX11_part_15 : decode cX11_part 15 = .ok (.aload 4, 2) := by decide +kernel
theorem dX11_part_17 : decode cX11_part 17 = .ok (.getfield 111, 3) := by decide +kernel
theorem dX11_part_20 : decode cX11_part 20 = .ok (.getfield 115, 3) := by decide +kernel
theorem dX11_part_23 : decode cX11_part 23 = .ok (.ifnonnull 8, 3) := by decide +kernel
theorem dX11_part_26 : decode cX11_part 26 = .ok (.ldc 69, 2) := by decide +kernel
theorem dX11_part_28 : decode cX11_part 28 = .ok (.goto 16, 3) := by decide +kernel
theorem dX11_part_31 : decode cX11_part 31 = .ok (.aload 4, 2) := by decide +kernel
theorem dX11_part_33 : decode cX11_part 33 = .ok (.getfield 111, 3) := by decide +kernel
theorem dX11_part_36 : decode cX11_part 36 = .ok (.getfield 115, 3) := by decide +kernel
theorem dX11_part_39 : decode cX11_part 39 = .ok (.iload_n 2, 1) := by decide +kernel
theorem dX11_part_40 : decode cX11_part 40 = .ok (.iload_n 3, 1) := by decide +kernel
theorem dX11_part_41 : decode cX11_part 41 = .ok (.invokevirtual 121, 3) := by decide +kernel
theorem dX11_part_44 : decode cX11_part 44 = .ok (.ireturn, 1) := by decide +kernel
theorem dX11_varies_0 : decode cX11_varies 0 = .ok (.aload_n 0, 1) := by decide +kernel
theorem dX11_varies_1 : decode cX11_varies 1 = .ok (.getfield 15, 3) := by decide +kernel
theorem dX11_varies_4 : decode cX11_varies 4 = .ok (.iload_n 1, 1) := by decide +kernel
theorem dX11_varies_5 : decode cX11_varies 5 = .ok (.invokevirtual 48, 3) := by decide +kernel
theorem dX11_varies_8 : decode cX11_varies 8 = .ok (.astore_n 3, 1) := by decide +kernel
theorem dX11_varies_9 : decode cX11_varies 9 = .ok (.iload_n 2, 1) := by decide +kernel
theorem dX11_varies_10 : decode cX11_varies 10 = .ok (.ifCond .lt 12, 3) := by decide +kernel
theorem dX11_varies_13 : decode cX11_varies 13 = .ok (.iload_n 2, 1) := by decide +kernel
theorem dX11_varies_14 : decode cX11_varies 14 = .ok (.iconst 3, 1) := by decide +kernel
theorem dX11_varies_15 : decode cX11_varies 15 = .ok (.if_icmp .ge 7, 3) := by decide +kernel
theorem dX11_varies_18 : decode cX11_varies 18 = .ok (.iconst 1, 1) := by decide +kernel
theorem dX11_varies_19 : decode cX11_varies 19 = .ok (.goto 4, 3) := by decide +kernel
theorem dX11_varies_22 : decode cX11_varies 22 = .ok (.iconst 0, 1) := by decide +kernel
theorem dX11_varies_23 : decode cX11_varies 23 = .ok (.istore 4, 2) := by decide +kernel
theorem dX11_varies_25 : decode cX11_varies 25 = .ok (.iload_n 2, 1) := by decide +kernel
theorem dX11_varies_26 : decode cX11_varies 26 = .ok (.bipush 10, 2) := by decide +kernel
theorem dX11_varies_28 : decode cX11_varies 28 = .ok (.if_icmp .lt 13, 3) := by decide +kernel
theorem dX11_varies_31 : decode cX11_varies 31 = .ok (.iload_n 2, 1) := by decide +kernel
theorem dX11_varies_32 : decode cX11_varies 32 = .ok (.bipush 18, 2) := by decide +kernel
theorem dX11_varies_34 : decode cX11_varies 34 = .ok (.if_icmp .ge 7, 3) := by decide +kernel
theorem dX11_varies_37 : decode cX11_varies 37 = .ok (.iconst 1, 1) := by decide +kernel
theorem dX11_varies_38 : decode cX11_varies 38 = .ok (.goto 4, 3) := by decide +kernel
theorem dX11_varies_41 : decode cX11_varies 41 = .ok (.iconst 0, 1) := by decide +kernel
theorem dX11_varies_42 : decode cX11_varies 42 = .ok (.istore 5, 2) := by decide +kernel
theorem dX11_varies_44 : decode cX11_varies 44 = .ok (.aload_n 3, 1) := by decide +kernel
theorem dX11_varies_45 : decode cX11_varies 45 = .ok (.ifnull 13, 3) := by decide +kernel
theorem dX11_varies_48 : decode cX11_varies 48 = .ok (.iload 4, 2) := by decide +kernel
theorem dX11_varies_50 : decode cX11_varies 50 = .ok (.ifCond .ne 11, 3) := by decide +kernel
theorem dX11_varies_53 : decode cX11_varies 53 = .ok (.iload 5, 2) := by decide +kernel
theorem dX11_varies_55 : decode cX11_varies 55 = .ok (.ifCond .ne 6, 3) := by decide +kernel
theorem dX11_varies_58 : decode cX11_varies 58 = .ok (.bipush (-2), 2) := by decide +kernel
theorem dX11_varies_60 : decode cX11_varies 60 = .ok (.ireturn, 1) := by decide +kernel
theorem dX11_varies_61 : decode cX11_varies 61 = .ok (.aload_n 3, 1) := by decide +kernel
theorem dX11_varies_62 : decode cX11_varies 62 = .ok (.getfield 111, 3) := by decide +kernel
theorem dX11_varies_65 : decode cX11_varies 65 = .ok (.iload 4, 2) := by decide +kernel
theorem dX11_varies_67 : decode cX11_varies 67 = .ok (.ifCond .eq 7, 3) := by decide +kernel
theorem dX11_varies_70 : decode cX11_varies 70 = .ok (.iload_n 2, 1) := by decide +kernel
theorem dX11_varies_71 : decode cX11_varies 71 = .ok (.goto 9, 3) := by decide +kernel
theorem dX11_varies_74 : decode cX11_varies 74 = .ok (.iconst 3, 1) := by decide +kernel
theorem dX11_varies_75 : decode cX11_varies 75 = .ok (.iload_n 2, 1) := by decide +kernel
theorem dX11_varies_76 : decode cX11_varies 76 = .ok (.iadd, 1) := by decide +kernel
theorem dX11_varies_77 : decode cX11_varies 77 = .ok (.bipush 10, 2) := by decide +kernel
theorem dX11_varies_79 : decode cX11_varies 79 = .ok (.isub, 1) := by decide +kernel
theorem dX11_varies_80 : decode cX11_varies 80 = .ok (.invokevirtual 126, 3) := by decide +kernel
theorem dX11_varies_83 : decode cX11_varies 83 = .ok (.ifCond .eq 7, 3) := by decide +kernel
theorem dX11_varies_86 : decode cX11_varies 86 = .ok (.iconst 1, 1) := by decide +kernel
theorem dX11_varies_87 : decode cX11_varies 87 = .ok (.goto 4, 3) := by decide +kernel
theorem dX11_varies_90 : decode cX11_varies 90 = .ok (.iconst 0, 1) := by decide +kernel
theorem dX11_varies_91 : decode cX11_varies 91 = .ok (.ireturn, 1) := by decide +kernel
theorem dX11_depth_0 : decode cX11_depth 0 = .ok (.aload_n 0, 1) := by decide +kernel
theorem dX11_depth_1 : decode cX11_depth 1 = .ok (.getfield 15, 3) := by decide +kernel
theorem dX11_depth_4 : decode cX11_depth 4 = .ok (.iload_n 1, 1) := by decide +kernel
theorem dX11_depth_5 : decode cX11_depth 5 = .ok (.invokevirtual 48, 3) := by decide +kernel
theorem dX11_depth_8 : decode cX11_depth 8 = .ok (.astore_n 3, 1) := by decide +kernel
theorem dX11_depth_9 : decode cX11_depth 9 = .ok (.aload_n 3, 1) := by decide +kernel
theorem dX11_depth_10 : decode cX11_depth 10 = .ok (.ifnull 11, 3) := by decide +kernel
theorem dX11_depth_13 : decode cX11_depth 13 = .ok (.aload_n 3, 1) := by decide +kernel
theorem dX11_depth_14 : decode cX11_depth 14 = .ok (.iload_n 2, 1) := by decide +kernel
theorem dX11_depth_15 : decode cX11_depth 15 = .ok (.invokevirtual 130, 3) := by decide +kernel
theorem dX11_depth_18 : decode cX11_depth 18 = .ok (.ifCond .ne 6, 3) := by decide +kernel
theorem dX11_depth_21 : decode cX11_depth 21 = .ok (.bipush (-2), 2) := by decide +kernel
theorem dX11_depth_23 : decode cX11_depth 23 = .ok (.ireturn, 1) := by decide +kernel
theorem dX11_depth_24 : decode cX11_depth 24 = .ok (.aload_n 3, 1) := by decide +kernel
theorem dX11_depth_25 : decode cX11_depth 25 = .ok (.invokevirtual 52, 3) := by decide +kernel
theorem dX11_depth_28 : decode cX11_depth 28 = .ok (.ifCond .eq 11, 3) := by decide +kernel
theorem dX11_depth_31 : decode cX11_depth 31 = .ok (.aload_n 3, 1) := by decide +kernel
theorem dX11_depth_32 : decode cX11_depth 32 = .ok (.iload_n 2, 1) := by decide +kernel
theorem dX11_depth_33 : decode cX11_depth 33 = .ok (.invokevirtual 133, 3) := by decide +kernel
theorem dX11_depth_36 : decode cX11_depth 36 = .ok (.goto 4, 3) := by decide +kernel
theorem dX11_depth_39 : decode cX11_depth 39 = .ok (.iconst (-1), 1) := by decide +kernel
theorem dX11_depth_40 : decode cX11_depth 40 = .ok (.ireturn, 1) := by decide +kernel
theorem dX11_count_0 : decode cX11_count 0 = .ok (.aload_n 0, 1) := by decide +kernel
theorem dX11_count_1 : decode cX11_count 1 = .ok (.getfield 40, 3) := by decide +kernel
theorem dX11_count_4 : decode cX11_count 4 = .ok (.getfield 88, 3) := by decide +kernel
theorem dX11_count_7 : decode cX11_count 7 = .ok (.astore_n 2, 1) := by decide +kernel
theorem dX11_count_8 : decode cX11_count 8 = .ok (.iload_n 1, 1) := by decide +kernel
theorem dX11_count_9 : decode cX11_count 9 = .ok (.tableswitch 72 0 5 #[39, 47, 52, 57, 62, 67], 39) := by decide +kernel
theorem dX11_count_48 : decode cX11_count 48 = .ok (.aload_n 0, 1) := by decide +kernel
theorem dX11_count_49 : decode cX11_count 49 = .ok (.getfield 15, 3) := by decide +kernel
theorem dX11_count_52 : decode cX11_count 52 = .ok (.getfield 136, 3) := by decide +kernel
theorem dX11_count_55 : decode cX11_count 55 = .ok (.ireturn, 1) := by decide +kernel
theorem dX11_count_56 : decode cX11_count 56 = .ok (.aload_n 2, 1) := by decide +kernel
theorem dX11_count_57 : decode cX11_count 57 = .ok (.getfield 92, 3) := by decide +kernel
theorem dX11_count_60 : decode cX11_count 60 = .ok (.ireturn, 1) := by decide +kernel
theorem dX11_count_61 : decode cX11_count 61 = .ok (.aload_n 2, 1) := by decide +kernel
theorem dX11_count_62 : decode cX11_count 62 = .ok (.getfield 139, 3) := by decide +kernel
theorem dX11_count_65 : decode cX11_count 65 = .ok (.ireturn, 1) := by decide +kernel
theorem dX11_count_66 : decode cX11_count 66 = .ok (.aload_n 2, 1) := by decide +kernel
theorem dX11_count_67 : decode cX11_count 67 = .ok (.getfield 142, 3) := by decide +kernel
theorem dX11_count_70 : decode cX11_count 70 = .ok (.ireturn, 1) := by decide +kernel
theorem dX11_count_71 : decode cX11_count 71 = .ok (.aload_n 2, 1) := by decide +kernel
theorem dX11_count_72 : decode cX11_count 72 = .ok (.getfield 145, 3) := by decide +kernel
theorem dX11_count_75 : decode cX11_count 75 = .ok (.ireturn, 1) := by decide +kernel
theorem dX11_count_76 : decode cX11_count 76 = .ok (.aload_n 2, 1) := by decide +kernel
theorem dX11_count_77 : decode cX11_count 77 = .ok (.getfield 148, 3) := by decide +kernel
theorem dX11_count_80 : decode cX11_count 80 = .ok (.ireturn, 1) := by decide +kernel
theorem dX11_count_81 : decode cX11_count 81 = .ok (.bipush (-2), 2) := by decide +kernel
theorem dX11_count_83 : decode cX11_count 83 = .ok (.ireturn, 1) := by decide +kernel
theorem dX11_digest_0 : decode cX11_digest 0 = .ok (.aload_n 0, 1) := by decide +kernel
theorem dX11_digest_1 : decode cX11_digest 1 = .ok (.getfield 22, 3) := by decide +kernel
theorem dX11_digest_4 : decode cX11_digest 4 = .ok (.ldc2_w 151, 3) := by decide +kernel
theorem dX11_digest_7 : decode cX11_digest 7 = .ok (.invokevirtual 153, 3) := by decide +kernel
theorem dX11_digest_10 : decode cX11_digest 10 = .ok (.lstore_n 1, 1) := by decide +kernel
theorem dX11_digest_11 : decode cX11_digest 11 = .ok (.aload_n 0, 1) := by decide +kernel
theorem dX11_digest_12 : decode cX11_digest 12 = .ok (.getfield 40, 3) := by decide +kernel
theorem dX11_digest_15 : decode cX11_digest 15 = .ok (.getfield 88, 3) := by decide +kernel
theorem dX11_digest_18 : decode cX11_digest 18 = .ok (.lload_n 1, 1) := by decide +kernel
theorem dX11_digest_19 : decode cX11_digest 19 = .ok (.invokevirtual 157, 3) := by decide +kernel
theorem dX11_digest_22 : decode cX11_digest 22 = .ok (.lstore_n 1, 1) := by decide +kernel
theorem dX11_digest_23 : decode cX11_digest 23 = .ok (.iconst 0, 1) := by decide +kernel
theorem dX11_digest_24 : decode cX11_digest 24 = .ok (.istore_n 3, 1) := by decide +kernel
theorem dX11_digest_25 : decode cX11_digest 25 = .ok (.iload_n 3, 1) := by decide +kernel
theorem dX11_digest_26 : decode cX11_digest 26 = .ok (.aload_n 0, 1) := by decide +kernel
theorem dX11_digest_27 : decode cX11_digest 27 = .ok (.getfield 15, 3) := by decide +kernel
theorem dX11_digest_30 : decode cX11_digest 30 = .ok (.getfield 136, 3) := by decide +kernel
theorem dX11_digest_33 : decode cX11_digest 33 = .ok (.if_icmp .ge 31, 3) := by decide +kernel
theorem dX11_digest_36 : decode cX11_digest 36 = .ok (.aload_n 0, 1) := by decide +kernel
theorem dX11_digest_37 : decode cX11_digest 37 = .ok (.getfield 15, 3) := by decide +kernel
theorem dX11_digest_40 : decode cX11_digest 40 = .ok (.iload_n 3, 1) := by decide +kernel
theorem dX11_digest_41 : decode cX11_digest 41 = .ok (.invokevirtual 48, 3) := by decide +kernel
theorem dX11_digest_44 : decode cX11_digest 44 = .ok (.astore 4, 2) := by decide +kernel
theorem dX11_digest_46 : decode cX11_digest 46 = .ok (.aload 4, 2) := by decide +kernel
theorem dX11_digest_48 : decode cX11_digest 48 = .ok (.ifnull 10, 3) := by decide +kernel
theorem dX11_digest_51 : decode cX11_digest 51 = .ok (.lload_n 1, 1) := by decide +kernel
theorem dX11_digest_52 : decode cX11_digest 52 = .ok (.aload 4, 2) := by decide +kernel
theorem dX11_digest_54 : decode cX11_digest 54 = .ok (.invokestatic 158, 3) := by decide +kernel
theorem dX11_digest_57 : decode cX11_digest 57 = .ok (.lstore_n 1, 1) := by decide +kernel
theorem dX11_digest_58 : decode cX11_digest 58 = .ok (.iinc 3 1, 3) := by decide +kernel
theorem dX11_digest_61 : decode cX11_digest 61 = .ok (.goto (-36), 3) := by decide +kernel
theorem dX11_digest_64 : decode cX11_digest 64 = .ok (.lload_n 1, 1) := by decide +kernel
theorem dX11_digest_65 : decode cX11_digest 65 = .ok (.lreturn, 1) := by decide +kernel
theorem dX12_init_0 : decode cX12_init 0 = .ok (.aload_n 0, 1) := by decide +kernel
theorem dX12_init_1 : decode cX12_init 1 = .ok (.invokespecial 1, 3) := by decide +kernel
theorem dX12_init_4 : decode cX12_init 4 = .ok (.aload_n 0, 1) := by decide +kernel
theorem dX12_init_5 : decode cX12_init 5 = .ok (.bipush 8, 2) := by decide +kernel
theorem dX12_init_7 : decode cX12_init 7 = .ok (.newarray .int, 2) := by decide +kernel
theorem dX12_init_9 : decode cX12_init 9 = .ok (.putfield 7, 3) := by decide +kernel
theorem dX12_init_12 : decode cX12_init 12 = .ok (.aload_n 0, 1) := by decide +kernel
theorem dX12_init_13 : decode cX12_init 13 = .ok (.bipush 8, 2) := by decide +kernel
theorem dX12_init_15 : decode cX12_init 15 = .ok (.newarray .int, 2) := by decide +kernel
theorem dX12_init_17 : decode cX12_init 17 = .ok (.putfield 13, 3) := by decide +kernel
theorem dX12_init_20 : decode cX12_init 20 = .ok (.aload_n 0, 1) := by decide +kernel
theorem dX12_init_21 : decode cX12_init 21 = .ok (.bipush 8, 2) := by decide +kernel
theorem dX12_init_23 : decode cX12_init 23 = .ok (.newarray .int, 2) := by decide +kernel
theorem dX12_init_25 : decode cX12_init 25 = .ok (.putfield 16, 3) := by decide +kernel
theorem dX12_init_28 : decode cX12_init 28 = .ok (.aload_n 0, 1) := by decide +kernel
theorem dX12_init_29 : decode cX12_init 29 = .ok (.sipush 480, 3) := by decide +kernel
theorem dX12_init_32 : decode cX12_init 32 = .ok (.newarray .int, 2) := by decide +kernel
theorem dX12_init_34 : decode cX12_init 34 = .ok (.putfield 19, 3) := by decide +kernel
theorem dX12_init_37 : decode cX12_init 37 = .ok (.aload_n 0, 1) := by decide +kernel
theorem dX12_init_38 : decode cX12_init 38 = .ok (.sipush 480, 3) := by decide +kernel
theorem dX12_init_41 : decode cX12_init 41 = .ok (.newarray .int, 2) := by decide +kernel
theorem dX12_init_43 : decode cX12_init 43 = .ok (.putfield 22, 3) := by decide +kernel
theorem dX12_init_46 : decode cX12_init 46 = .ok (.aload_n 0, 1) := by decide +kernel
theorem dX12_init_47 : decode cX12_init 47 = .ok (.bipush 8, 2) := by decide +kernel
theorem dX12_init_49 : decode cX12_init 49 = .ok (.newarray .boolean, 2) := by decide +kernel
theorem dX12_init_51 : decode cX12_init 51 = .ok (.putfield 25, 3) := by decide +kernel
theorem dX12_init_54 : decode cX12_init 54 = .ok (.aload_n 0, 1) := by decide +kernel
theorem dX12_init_55 : decode cX12_init 55 = .ok (.sipush 480, 3) := by decide +kernel
theorem dX12_init_58 : decode cX12_init 58 = .ok (.newarray .int, 2) := by decide +kernel
theorem dX12_init_60 : decode cX12_init 60 = .ok (.putfield 29, 3) := by decide +kernel
theorem dX12_init_63 : decode cX12_init 63 = .ok (.aload_n 0, 1) := by decide +kernel
theorem dX12_init_64 : decode cX12_init 64 = .ok (.bipush 8, 2) := by decide +kernel
theorem dX12_init_66 : decode cX12_init 66 = .ok (.newarray .int, 2) := by decide +kernel
theorem dX12_init_68 : decode cX12_init 68 = .ok (.putfield 32, 3) := by decide +kernel
theorem dX12_init_71 : decode cX12_init 71 = .ok (.aload_n 0, 1) := by decide +kernel
theorem dX12_init_72 : decode cX12_init 72 = .ok (.bipush 60, 2) := by decide +kernel
theorem dX12_init_74 : decode cX12_init 74 = .ok (.newarray .boolean, 2) := by decide +kernel
theorem dX12_init_76 : decode cX12_init 76 = .ok (.putfield 35, 3) := by decide +kernel
theorem dX12_init_79 : decode cX12_init 79 = .ok (.aload_n 0, 1) := by decide +kernel
theorem dX12_init_80 : decode cX12_init 80 = .ok (.bipush 60, 2) := by decide +kernel
theorem dX12_init_82 : decode cX12_init 82 = .ok (.newarray .boolean, 2) := by decide +kernel
theorem dX12_init_84 : decode cX12_init 84 = .ok (.putfield 38, 3) := by decide +kernel
theorem dX12_init_87 : decode cX12_init 87 = .ok (.aload_n 0, 1) := by decide +kernel
theorem dX12_init_88 : decode cX12_init 88 = .ok (.bipush 8, 2) := by decide +kernel
theorem dX12_init_90 : decode cX12_init 90 = .ok (.newarray .int, 2) := by decide +kernel
theorem dX12_init_92 : decode cX12_init 92 = .ok (.putfield 41, 3) := by decide +kernel
theorem dX12_init_95 : decode cX12_init 95 = .ok (.aload_n 0, 1) := by decide +kernel
theorem dX12_init_96 : decode cX12_init 96 = .ok (.iconst 4, 1) := by decide +kernel
theorem dX12_init_97 : decode cX12_init 97 = .ok (.newarray .int, 2) := by decide +kernel
theorem dX12_init_99 : decode cX12_init 99 = .ok (.putfield 44, 3) := by decide +kernel
theorem dX12_init_102 : decode cX12_init 102 = .ok (.aload_n 0, 1) := by decide +kernel
theorem dX12_init_103 : decode cX12_init 103 = .ok (.bipush 80, 2) := by decide +kernel
theorem dX12_init_105 : decode cX12_init 105 = .ok (.newarray .int, 2) := by decide +kernel
theorem dX12_init_107 : decode cX12_init 107 = .ok (.putfield 47, 3) := by decide +kernel
theorem dX12_init_110 : decode cX12_init 110 = .ok (.aload_n 0, 1) := by decide +kernel
theorem dX12_init_111 : decode cX12_init 111 = .ok (.bipush 8, 2) := by decide +kernel
theorem dX12_init_113 : decode cX12_init 113 = .ok (.newarray .boolean, 2) := by decide +kernel
theorem dX12_init_115 : decode cX12_init 115 = .ok (.putfield 50, 3) := by decide +kernel
theorem dX12_init_118 : decode cX12_init 118 = .ok (.aload_n 0, 1) := by decide +kernel
theorem dX12_init_119 : decode cX12_init 119 = .ok (.bipush 8, 2) := by decide +kernel
theorem dX12_init_121 : decode cX12_init 121 = .ok (.newarray .int, 2) := by decide +kernel
theorem dX12_init_123 : decode cX12_init 123 = .ok (.putfield 53, 3) := by decide +kernel
theorem dX12_init_126 : decode cX12_init 126 = .ok (.aload_n 0, 1) := by decide +kernel
theorem dX12_init_127 : decode cX12_init 127 = .ok (.bipush 8, 2) := by decide +kernel
theorem dX12_init_129 : decode cX12_init 129 = .ok (.newarray .int, 2) := by decide +kernel
theorem dX12_init_131 : decode cX12_init 131 = .ok (.putfield 56, 3) := by decide +kernel
theorem dX12_init_134 : decode cX12_init 134 = .ok (.aload_n 0, 1) := by decide +kernel
theorem dX12_init_135 : decode cX12_init 135 = .ok (.bipush 8, 2) := by decide +kernel
theorem dX12_init_137 : decode cX12_init 137 = .ok (.newarray .int, 2) := by decide +kernel
theorem dX12_init_139 : decode cX12_init 139 = .ok (.putfield 59, 3) := by decide +kernel
theorem dX12_init_142 : decode cX12_init 142 = .ok (.aload_n 0, 1) := by decide +kernel
theorem dX12_init_143 : decode cX12_init 143 = .ok (.bipush 8, 2) := by decide +kernel
theorem dX12_init_145 : decode cX12_init 145 = .ok (.newarray .int, 2) := by decide +kernel
theorem dX12_init_147 : decode cX12_init 147 = .ok (.putfield 62, 3) := by decide +kernel
theorem dX12_init_150 : decode cX12_init 150 = .ok (.aload_n 0, 1) := by decide +kernel
theorem dX12_init_151 : decode cX12_init 151 = .ok (.bipush 88, 2) := by decide +kernel
theorem dX12_init_153 : decode cX12_init 153 = .ok (.newarray .int, 2) := by decide +kernel
theorem dX12_init_155 : decode cX12_init 155 = .ok (.putfield 65, 3) := by decide +kernel
theorem dX12_init_158 : decode cX12_init 158 = .ok (.aload_n 0, 1) := by decide +kernel
theorem dX12_init_159 : decode cX12_init 159 = .ok (.bipush 88, 2) := by decide +kernel
theorem dX12_init_161 : decode cX12_init 161 = .ok (.newarray .boolean, 2) := by decide +kernel
theorem dX12_init_163 : decode cX12_init 163 = .ok (.putfield 68, 3) := by decide +kernel
theorem dX12_init_166 : decode cX12_init 166 = .ok (.aload_n 0, 1) := by decide +kernel
theorem dX12_init_167 : decode cX12_init 167 = .ok (.bipush 88, 2) := by decide +kernel
theorem dX12_init_169 : decode cX12_init 169 = .ok (.newarray .boolean, 2) := by decide +kernel
theorem dX12_init_171 : decode cX12_init 171 = .ok (.putfield 71, 3) := by decide +kernel
theorem dX12_init_174 : decode cX12_init 174 = .ok (.aload_n 0, 1) := by decide +kernel
theorem dX12_init_175 : decode cX12_init 175 = .ok (.bipush 96, 2) := by decide +kernel
theorem dX12_init_177 : decode cX12_init 177 = .ok (.newarray .int, 2) := by decide +kernel
theorem dX12_init_179 : decode cX12_init 179 = .ok (.putfield 74, 3) := by decide +kernel
theorem dX12_init_182 : decode cX12_init 182 = .ok (.aload_n 0, 1) := by decide +kernel
theorem dX12_init_183 : decode cX12_init 183 = .ok (.sipush 5760, 3) := by decide +kernel
theorem dX12_init_186 : decode cX12_init 186 = .ok (.newarray .int, 2) := by decide +kernel
theorem dX12_init_188 : decode cX12_init 188 = .ok (.putfield 77, 3) := by decide +kernel
theorem dX12_init_191 : decode cX12_init 191 = .ok (.aload_n 0, 1) := by decide +kernel
theorem dX12_init_192 : decode cX12_init 192 = .ok (.ldc 80, 2) := by decide +kernel
theorem dX12_init_194 : decode cX12_init 194 = .ok (.newarray .int, 2) := by decide +kernel
theorem dX12_init_196 : decode cX12_init 196 = .ok (.putfield 81, 3) := by decide +kernel
theorem dX12_init_199 : decode cX12_init 199 = .ok (.aload_n 0, 1) := by decide +kernel
theorem dX12_init_200 : decode cX12_init 200 = .ok (.ldc 80, 2) := by decide +kernel
theorem dX12_init_202 : decode cX12_init 202 = .ok (.newarray .int, 2) := by decide +kernel
theorem dX12_init_204 : decode cX12_init 204 = .ok (.putfield 84, 3) := by decide +kernel
theorem dX12_init_207 : decode cX12_init 207 = .ok (.aload_n 0, 1) := by decide +kernel
theorem dX12_init_208 : decode cX12_init 208 = .ok (.ldc 80, 2) := by decide +kernel
theorem dX12_init_210 : decode cX12_init 210 = .ok (.newarray .int, 2) := by decide +kernel
theorem dX12_init_212 : decode cX12_init 212 = .ok (.putfield 87, 3) := by decide +kernel
theorem dX12_init_215 : decode cX12_init 215 = .ok (.aload_n 0, 1) := by decide +kernel
theorem dX12_init_216 : decode cX12_init 216 = .ok (.ldc 80, 2) := by decide +kernel
theorem dX12_init_218 : decode cX12_init 218 = .ok (.newarray .int, 2) := by decide +kernel
theorem dX12_init_220 : decode cX12_init 220 = .ok (.putfield 90, 3) := by decide +kernel
theorem dX12_init_223 : decode cX12_init 223 = .ok (.aload_n 0, 1) := by decide +kernel
theorem dX12_init_224 : decode cX12_init 224 = .ok (.ldc 80, 2) := by decide +kernel
theorem dX12_init_226 : decode cX12_init 226 = .ok (.newarray .int, 2) := by decide +kernel
theorem dX12_init_228 : decode cX12_init 228 = .ok (.putfield 93, 3) := by decide +kernel
theorem dX12_init_231 : decode cX12_init 231 = .ok (.aload_n 0, 1) := by decide +kernel
theorem dX12_init_232 : decode cX12_init 232 = .ok (.bipush 11, 2) := by decide +kernel
theorem dX12_init_234 : decode cX12_init 234 = .ok (.newarray .boolean, 2) := by decide +kernel
theorem dX12_init_236 : decode cX12_init 236 = .ok (.putfield 96, 3) := by decide +kernel
theorem dX12_init_239 : decode cX12_init 239 = .ok (.aload_n 0, 1) := by decide +kernel
theorem dX12_init_240 : decode cX12_init 240 = .ok (.bipush 7, 2) := by decide +kernel
theorem dX12_init_242 : decode cX12_init 242 = .ok (.newarray .boolean, 2) := by decide +kernel
theorem dX12_init_244 : decode cX12_init 244 = .ok (.putfield 99, 3) := by decide +kernel
theorem dX12_init_247 : decode cX12_init 247 = .ok (.aload_n 0, 1) := by decide +kernel
theorem dX12_init_248 : decode cX12_init 248 = .ok (.bipush 7, 2) := by decide +kernel
theorem dX12_init_250 : decode cX12_init 250 = .ok (.newarray .int, 2) := by decide +kernel
theorem dX12_init_252 : decode cX12_init 252 = .ok (.putfield 102, 3) := by decide +kernel
theorem dX12_init_255 : decode cX12_init 255 = .ok (.aload_n 0, 1) := by decide +kernel
theorem dX12_init_256 : decode cX12_init 256 = .ok (.bipush 9, 2) := by decide +kernel
theorem dX12_init_258 : decode cX12_init 258 = .ok (.newarray .boolean, 2) := by decide +kernel
theorem dX12_init_260 : decode cX12_init 260 = .ok (.putfield 105, 3) := by decide +kernel
theorem dX12_init_263 : decode cX12_init 263 = .ok (.aload_n 0, 1) := by decide +kernel
theorem dX12_init_264 : decode cX12_init 264 = .ok (.bipush 9, 2) := by decide +kernel
theorem dX12_init_266 : decode cX12_init 266 = .ok (.newarray .int, 2) := by decide +kernel
theorem dX12_init_268 : decode cX12_init 268 = .ok (.putfield 108, 3) := by decide +kernel
theorem dX12_init_271 : decode cX12_init 271 = .ok (.aload_n 0, 1) := by decide +kernel
theorem dX12_init_272 : decode cX12_init 272 = .ok (.bipush 16, 2) := by decide +kernel
theorem dX12_init_274 : decode cX12_init 274 = .ok (.newarray .int, 2) := by decide +kernel
theorem dX12_init_276 : decode cX12_init 276 = .ok (.putfield 111, 3) := by decide +kernel
theorem dX12_init_279 : decode cX12_init 279 = .ok (.aload_n 0, 1) := by decide +kernel
theorem dX12_init_280 : decode cX12_init 280 = .ok (.bipush 16, 2) := by decide +kernel
theorem dX12_init_282 : decode cX12_init 282 = .ok (.newarray .int, 2) := by decide +kernel
theorem dX12_init_284 : decode cX12_init 284 = .ok (.putfield 114, 3) := by decide +kernel
theorem dX12_init_287 : decode cX12_init 287 = .ok (.aload_n 0, 1) := by decide +kernel
theorem dX12_init_288 : decode cX12_init 288 = .ok (.bipush 16, 2) := by decide +kernel
theorem dX12_init_290 : decode cX12_init 290 = .ok (.newarray .int, 2) := by decide +kernel
theorem dX12_init_292 : decode cX12_init 292 = .ok (.putfield 117, 3) := by decide +kernel
theorem dX12_init_295 : decode cX12_init 295 = .ok (.aload_n 0, 1) := by decide +kernel
theorem dX12_init_296 : decode cX12_init 296 = .ok (.bipush 16, 2) := by decide +kernel
theorem dX12_init_298 : decode cX12_init 298 = .ok (.newarray .int, 2) := by decide +kernel
theorem dX12_init_300 : decode cX12_init 300 = .ok (.putfield 120, 3) := by decide +kernel
theorem dX12_init_303 : decode cX12_init 303 = .ok (.aload_n 0, 1) := by decide +kernel
theorem dX12_init_304 : decode cX12_init 304 = .ok (.sipush 240, 3) := by decide +kernel
theorem dX12_init_307 : decode cX12_init 307 = .ok (.newarray .int, 2) := by decide +kernel
theorem dX12_init_309 : decode cX12_init 309 = .ok (.putfield 123, 3) := by decide +kernel
theorem dX12_init_312 : decode cX12_init 312 = .ok (.aload_n 0, 1) := by decide +kernel
theorem dX12_init_313 : decode cX12_init 313 = .ok (.iconst 4, 1) := by decide +kernel
theorem dX12_init_314 : decode cX12_init 314 = .ok (.newarray .int, 2) := by decide +kernel
theorem dX12_init_316 : decode cX12_init 316 = .ok (.putfield 126, 3) := by decide +kernel
theorem dX12_init_319 : decode cX12_init 319 = .ok (.aload_n 0, 1) := by decide +kernel
theorem dX12_init_320 : decode cX12_init 320 = .ok (.iconst 3, 1) := by decide +kernel
theorem dX12_init_321 : decode cX12_init 321 = .ok (.newarray .int, 2) := by decide +kernel
theorem dX12_init_323 : decode cX12_init 323 = .ok (.putfield 129, 3) := by decide +kernel
theorem dX12_init_326 : decode cX12_init 326 = .ok (.iconst 0, 1) := by decide +kernel
theorem dX12_init_327 : decode cX12_init 327 = .ok (.istore_n 1, 1) := by decide +kernel
theorem dX12_init_328 : decode cX12_init 328 = .ok (.iload_n 1, 1) := by decide +kernel
theorem dX12_init_329 : decode cX12_init 329 = .ok (.iconst 4, 1) := by decide +kernel
theorem dX12_init_330 : decode cX12_init 330 = .ok (.if_icmp .ge 16, 3) := by decide +kernel
theorem dX12_init_333 : decode cX12_init 333 = .ok (.aload_n 0, 1) := by decide +kernel
theorem dX12_init_334 : decode cX12_init 334 = .ok (.getfield 44, 3) := by decide +kernel
theorem dX12_init_337 : decode cX12_init 337 = .ok (.iload_n 1, 1) := by decide +kernel
theorem dX12_init_338 : decode cX12_init 338 = .ok (.iconst (-1), 1) := by decide +kernel
theorem dX12_init_339 : decode cX12_init 339 = .ok (.iastore, 1) := by decide +kernel
theorem dX12_init_340 : decode cX12_init 340 = .ok (.iinc 1 1, 3) := by decide +kernel
theorem dX12_init_343 : decode cX12_init 343 = .ok (.goto (-15), 3) := by decide +kernel
theorem dX12_init_346 : decode cX12_init 346 = .ok (.return_, 1) := by decide +kernel
theorem dX12_in_0 : decode cX12_in 0 = .ok (.lload_n 0, 1) := by decide +kernel
theorem dX12_in_1 : decode cX12_in 1 = .ok (.lload_n 2, 1) := by decide +kernel
theorem dX12_in_2 : decode cX12_in 2 = .ok (.lcmp, 1) := by decide +kernel
theorem dX12_in_3 : decode cX12_in 3 = .ok (.ifCond .lt 14, 3) := by decide +kernel
theorem dX12_in_6 : decode cX12_in 6 = .ok (.lload_n 0, 1) := by decide +kernel
theorem dX12_in_7 : decode cX12_in 7 = .ok (.lload 4, 2) := by decide +kernel
theorem dX12_in_9 : decode cX12_in 9 = .ok (.lcmp, 1) := by decide +kernel
theorem dX12_in_10 : decode cX12_in 10 = .ok (.ifCond .gt 7, 3) := by decide +kernel
theorem dX12_in_13 : decode cX12_in 13 = .ok (.iconst 1, 1) := by decide +kernel
theorem dX12_in_14 : decode cX12_in 14 = .ok (.goto 4, 3) := by decide +kernel
theorem dX12_in_17 : decode cX12_in 17 = .ok (.iconst 0, 1) := by decide +kernel
theorem dX12_in_18 : decode cX12_in 18 = .ok (.ireturn, 1) := by decide +kernel
theorem dX12_method_0 : decode cX12_method 0 = .ok (.iload_n 1, 1) := by decide +kernel
theorem dX12_method_1 : decode cX12_method 1 = .ok (.i2l, 1) := by decide +kernel
theorem dX12_method_2 : decode cX12_method 2 = .ok (.lconst 0, 1) := by decide +kernel
theorem dX12_method_3 : decode cX12_method 3 = .ok (.ldc2_w 132, 3) := by decide +kernel
theorem dX12_method_6 : decode cX12_method 6 = .ok (.invokestatic 134, 3) := by decide +kernel
theorem dX12_method_9 : decode cX12_method 9 = .ok (.ifCond .eq 16, 3) := by decide +kernel
theorem dX12_method_12 : decode cX12_method 12 = .ok (.iload_n 2, 1) := by decide +kernel
theorem dX12_method_13 : decode cX12_method 13 = .ok (.i2l, 1) := by decide +kernel
theorem dX12_method_14 : decode cX12_method 14 = .ok (.iload_n 1, 1) := by decide +kernel
theorem dX12_method_15 : decode cX12_method 15 = .ok (.i2l, 1) := by decide +kernel
theorem dX12_method_16 : decode cX12_method 16 = .ok (.ldc2_w 138, 3) := by decide +kernel
theorem dX12_method_19 : decode cX12_method 19 = .ok (.invokestatic 134, 3) := by decide +kernel
theorem dX12_method_22 : decode cX12_method 22 = .ok (.ifCond .ne 6, 3) := by decide +kernel
theorem dX12_method_25 : decode cX12_method 25 = .ok (.bipush (-2), 2) := by decide +kernel
theorem dX12_method_27 : decode cX12_method 27 = .ok (.ireturn, 1) := by decide +kernel
theorem dX12_method_28 : decode cX12_method 28 = .ok (.aload_n 0, 1) := by decide +kernel
theorem dX12_method_29 : decode cX12_method 29 = .ok (.getfield 140, 3) := by decide +kernel
theorem dX12_method_32 : decode cX12_method 32 = .ok (.bipush 8, 2) := by decide +kernel
theorem dX12_method_34 : decode cX12_method 34 = .ok (.if_icmp .ne 6, 3) := by decide +kernel
theorem dX12_method_37 : decode cX12_method 37 = .ok (.bipush (-4), 2) := by decide +kernel
theorem dX12_method_39 : decode cX12_method 39 = .ok (.ireturn, 1) := by decide +kernel
theorem dX12_method_40 : decode cX12_method 40 = .ok (.aload_n 0, 1) := by decide +kernel
theorem dX12_method_41 : decode cX12_method 41 = .ok (.getfield 7, 3) := by decide +kernel
theorem dX12_method_44 : decode cX12_method 44 = .ok (.aload_n 0, 1) := by decide +kernel
theorem dX12_method_45 : decode cX12_method 45 = .ok (.getfield 140, 3) := by decide +kernel
theorem dX12_method_48 : decode cX12_method 48 = .ok (.iload_n 1, 1) := by decide +kernel
theorem dX12_method_49 : decode cX12_method 49 = .ok (.iastore, 1) := by decide +kernel
theorem dX12_method_50 : decode cX12_method 50 = .ok (.aload_n 0, 1) := by decide +kernel
theorem dX12_method_51 : decode cX12_method 51 = .ok (.getfield 13, 3) := by decide +kernel
theorem dX12_method_54 : decode cX12_method 54 = .ok (.aload_n 0, 1) := by decide +kernel
theorem dX12_method_55 : decode cX12_method 55 = .ok (.getfield 140, 3) := by decide +kernel
theorem dX12_method_58 : decode cX12_method 58 = .ok (.iload_n 2, 1) := by decide +kernel
theorem dX12_method_59 : decode cX12_method 59 = .ok (.iastore, 1) := by decide +kernel
theorem dX12_method_60 : decode cX12_method 60 = .ok (.aload_n 0, 1) := by decide +kernel
theorem dX12_method_61 : decode cX12_method 61 = .ok (.dup, 1) := by decide +kernel
theorem dX12_method_62 : decode cX12_method 62 = .ok (.getfield 140, 3) := by decide +kernel
theorem dX12_method_65 : decode cX12_method 65 = .ok (.iconst 1, 1) := by decide +kernel
theorem dX12_method_66 : decode cX12_method 66 = .ok (.iadd, 1) := by decide +kernel
theorem dX12_method_67 : decode cX12_method 67 = .ok (.putfield 140, 3) := by decide +kernel
theorem dX12_method_70 : decode cX12_method 70 = .ok (.aload_n 0, 1) := by decide +kernel
theorem dX12_method_71 : decode cX12_method 71 = .ok (.getfield 140, 3) := by decide +kernel
theorem dX12_method_74 : decode cX12_method 74 = .ok (.iconst 1, 1) := by decide +kernel
theorem dX12_method_75 : decode cX12_method 75 = .ok (.isub, 1) := by decide +kernel
theorem dX12_method_76 : decode cX12_method 76 = .ok (.ireturn, 1) := by decide +kernel
theorem dX12_isMethod_0 : decode cX12_isMethod 0 = .ok (.iload_n 1, 1) := by decide +kernel
theorem dX12_isMethod_1 : decode cX12_isMethod 1 = .ok (.i2l, 1) := by decide +kernel
theorem dX12_isMethod_2 : decode cX12_isMethod 2 = .ok (.lconst 0, 1) := by decide +kernel
theorem dX12_isMethod_3 : decode cX12_isMethod 3 = .ok (.aload_n 0, 1) := by decide +kernel
theorem dX12_isMethod_4 : decode cX12_isMethod 4 = .ok (.getfield 140, 3) := by decide +kernel
theorem dX12_isMethod_7 : decode cX12_isMethod 7 = .ok (.iconst 1, 1) := by decide +kernel
theorem dX12_isMethod_8 : decode cX12_isMethod 8 = .ok (.isub, 1) := by decide +kernel
theorem dX12_isMethod_9 : decode cX12_isMethod 9 = .ok (.i2l, 1) := by decide +kernel
theorem dX12_isMethod_10 : decode cX12_isMethod 10 = .ok (.invokestatic 134, 3) := by decide +kernel
theorem dX12_isMethod_13 : decode cX12_isMethod 13 = .ok (.ireturn, 1) := by decide +kernel
theorem dX12_write_0 : decode cX12_write 0 = .ok (.aload_n 0, 1) := by decide +kernel
theorem dX12_write_1 : decode cX12_write 1 = .ok (.iload_n 1, 1) := by decide +kernel
theorem dX12_write_2 : decode cX12_write 2 = .ok (.invokevirtual 144, 3) := by decide +kernel
theorem dX12_write_5 : decode cX12_write 5 = .ok (.ifCond .eq 15, 3) := by decide +kernel
theorem dX12_write_8 : decode cX12_write 8 = .ok (.iload_n 2, 1) := by decide +kernel
theorem dX12_write_9 : decode cX12_write 9 = .ok (.i2l, 1) := by decide +kernel
theorem dX12_write_10 : decode cX12_write 10 = .ok (.lconst 0, 1) := by decide +kernel
theorem dX12_write_11 : decode cX12_write 11 = .ok (.ldc2_w 148, 3) := by decide +kernel
theorem dX12_write_14 : decode cX12_write 14 = .ok (.invokestatic 134, 3) := by decide +kernel
theorem dX12_write_17 : decode cX12_write 17 = .ok (.ifCond .ne 6, 3) := by decide +kernel
theorem dX12_write_20 : decode cX12_write 20 = .ok (.bipush (-2), 2) := by decide +kernel
theorem dX12_write_22 : decode cX12_write 22 = .ok (.ireturn, 1) := by decide +kernel
theorem dX12_write_23 : decode cX12_write 23 = .ok (.aload_n 0, 1) := by decide +kernel
theorem dX12_write_24 : decode cX12_write 24 = .ok (.getfield 25, 3) := by decide +kernel
theorem dX12_write_27 : decode cX12_write 27 = .ok (.iload_n 1, 1) := by decide +kernel
theorem dX12_write_28 : decode cX12_write 28 = .ok (.baload, 1) := by decide +kernel
theorem dX12_write_29 : decode cX12_write 29 = .ok (.ifCond .eq 6, 3) := by decide +kernel
theorem dX12_write_32 : decode cX12_write 32 = .ok (.bipush (-3), 2) := by decide +kernel
theorem dX12_write_34 : decode cX12_write 34 = .ok (.ireturn, 1) := by decide +kernel
theorem dX12_write_35 : decode cX12_write 35 = .ok (.aload_n 0, 1) := by decide +kernel
theorem dX12_write_36 : decode cX12_write 36 = .ok (.getfield 16, 3) := by decide +kernel
theorem dX12_write_39 : decode cX12_write 39 = .ok (.iload_n 1, 1) := by decide +kernel
theorem dX12_write_40 : decode cX12_write 40 = .ok (.iaload, 1) := by decide +kernel
theorem dX12_write_41 : decode cX12_write 41 = .ok (.bipush 60, 2) := by decide +kernel
theorem dX12_write_43 : decode cX12_write 43 = .ok (.if_icmp .ne 6, 3) := by decide +kernel
theorem dX12_write_46 : decode cX12_write 46 = .ok (.bipush (-4), 2) := by decide +kernel
theorem dX12_write_48 : decode cX12_write 48 = .ok (.ireturn, 1) := by decide +kernel
theorem dX12_write_49 : decode cX12_write 49 = .ok (.aload_n 0, 1) := by decide +kernel
theorem dX12_write_50 : decode cX12_write 50 = .ok (.getfield 19, 3) := by decide +kernel
theorem dX12_write_53 : decode cX12_write 53 = .ok (.bipush 60, 2) := by decide +kernel
theorem dX12_write_55 : decode cX12_write 55 = .ok (.iload_n 1, 1) := by decide +kernel
theorem dX12_write_56 : decode cX12_write 56 = .ok (.imul, 1) := by decide +kernel
theorem dX12_write_57 : decode cX12_write 57 = .ok (.aload_n 0, 1) := by decide +kernel
theorem dX12_write_58 : decode cX12_write 58 = .ok (.getfield 16, 3) := by decide +kernel
theorem dX12_write_61 : decode cX12_write 61 = .ok (.iload_n 1, 1) := by decide +kernel
theorem dX12_write_62 : decode cX12_write 62 = .ok (.iaload, 1) := by decide +kernel
theorem dX12_write_63 : decode cX12_write 63 = .ok (.iadd, 1) := by decide +kernel
theorem dX12_write_64 : decode cX12_write 64 = .ok (.iload_n 2, 1) := by decide +kernel
theorem dX12_write_65 : decode cX12_write 65 = .ok (.iastore, 1) := by decide +kernel
theorem dX12_write_66 : decode cX12_write 66 = .ok (.aload_n 0, 1) := by decide +kernel
theorem dX12_write_67 : decode cX12_write 67 = .ok (.getfield 22, 3) := by decide +kernel
theorem dX12_write_70 : decode cX12_write 70 = .ok (.bipush 60, 2) := by decide +kernel
theorem dX12_write_72 : decode cX12_write 72 = .ok (.iload_n 1, 1) := by decide +kernel
theorem dX12_write_73 : decode cX12_write 73 = .ok (.imul, 1) := by decide +kernel
theorem dX12_write_74 : decode cX12_write 74 = .ok (.aload_n 0, 1) := by decide +kernel
theorem dX12_write_75 : decode cX12_write 75 = .ok (.getfield 16, 3) := by decide +kernel
theorem dX12_write_78 : decode cX12_write 78 = .ok (.iload_n 1, 1) := by decide +kernel
theorem dX12_write_79 : decode cX12_write 79 = .ok (.iaload, 1) := by decide +kernel
theorem dX12_write_80 : decode cX12_write 80 = .ok (.iadd, 1) := by decide +kernel
theorem dX12_write_81 : decode cX12_write 81 = .ok (.iload_n 3, 1) := by decide +kernel
theorem dX12_write_82 : decode cX12_write 82 = .ok (.iastore, 1) := by decide +kernel
theorem dX12_write_83 : decode cX12_write 83 = .ok (.aload_n 0, 1) := by decide +kernel
theorem dX12_write_84 : decode cX12_write 84 = .ok (.getfield 16, 3) := by decide +kernel
theorem dX12_write_87 : decode cX12_write 87 = .ok (.iload_n 1, 1) := by decide +kernel
theorem dX12_write_88 : decode cX12_write 88 = .ok (.dup2, 1) := by decide +kernel
theorem dX12_write_89 : decode cX12_write 89 = .ok (.iaload, 1) := by decide +kernel
theorem dX12_write_90 : decode cX12_write 90 = .ok (.iconst 1, 1) := by decide +kernel
theorem dX12_write_91 : decode cX12_write 91 = .ok (.iadd, 1) := by decide +kernel
theorem dX12_write_92 : decode cX12_write 92 = .ok (.iastore, 1) := by decide +kernel
theorem dX12_write_93 : decode cX12_write 93 = .ok (.aload_n 0, 1) := by decide +kernel
theorem dX12_write_94 : decode cX12_write 94 = .ok (.getfield 16, 3) := by decide +kernel
theorem dX12_write_97 : decode cX12_write 97 = .ok (.iload_n 1, 1) := by decide +kernel
theorem dX12_write_98 : decode cX12_write 98 = .ok (.iaload, 1) := by decide +kernel
theorem dX12_write_99 : decode cX12_write 99 = .ok (.iconst 1, 1) := by decide +kernel
theorem dX12_write_100 : decode cX12_write 100 = .ok (.isub, 1) := by decide +kernel
theorem dX12_write_101 : decode cX12_write 101 = .ok (.ireturn, 1) := by decide +kernel
theorem dX12_takes_0 : decode cX12_takes 0 = .ok (.iload_n 1, 1) := by decide +kernel
theorem dX12_takes_1 : decode cX12_takes 1 = .ok (.tableswitch 98 0 17 #[87, 87, 98, 98, 98, 98, 98, 98, 98, 87, 98, 89, 98, 87, 98, 98, 98, 96], 87) := by decide +kernel
theorem dX12_takes_88 : decode cX12_takes 88 = .ok (.iconst 0, 1) := by decide +kernel
theorem dX12_takes_89 : decode cX12_takes 89 = .ok (.ireturn, 1) := by decide +kernel
theorem dX12_takes_90 : decode cX12_takes 90 = .ok (.aload_n 0, 1) := by decide +kernel
theorem dX12_takes_91 : decode cX12_takes 91 = .ok (.getfield 7, 3) := by decide +kernel
theorem dX12_takes_94 : decode cX12_takes 94 = .ok (.iload_n 2, 1) := by decide +kernel
theorem dX12_takes_95 : decode cX12_takes 95 = .ok (.iaload, 1) := by decide +kernel
theorem dX12_takes_96 : decode cX12_takes 96 = .ok (.ireturn, 1) := by decide +kernel
theorem dX12_takes_97 : decode cX12_takes 97 = .ok (.iconst 2, 1) := by decide +kernel
theorem dX12_takes_98 : decode cX12_takes 98 = .ok (.ireturn, 1) := by decide +kernel
theorem dX12_takes_99 : decode cX12_takes 99 = .ok (.iload_n 1, 1) := by decide +kernel
theorem dX12_takes_100 : decode cX12_takes 100 = .ok (.iconst 3, 1) := by decide +kernel
theorem dX12_takes_101 : decode cX12_takes 101 = .ok (.if_icmp .lt 13, 3) := by decide +kernel
theorem dX12_takes_104 : decode cX12_takes 104 = .ok (.iload_n 1, 1) := by decide +kernel
theorem dX12_takes_105 : decode cX12_takes 105 = .ok (.bipush 8, 2) := by decide +kernel
theorem dX12_takes_107 : decode cX12_takes 107 = .ok (.if_icmp .gt 7, 3) := by decide +kernel
theorem dX12_takes_110 : decode cX12_takes 110 = .ok (.iconst 2, 1) := by decide +kernel
theorem dX12_takes_111 : decode cX12_takes 111 = .ok (.goto 4, 3) := by decide +kernel
theorem dX12_takes_114 : decode cX12_takes 114 = .ok (.iconst 1, 1) := by decide +kernel
theorem dX12_takes_115 : decode cX12_takes 115 = .ok (.ireturn, 1) := by decide +kernel
theorem dX12_lays_0 : decode cX12_lays 0 = .ok (.iload_n 0, 1) := by decide +kernel
theorem dX12_lays_1 : decode cX12_lays 1 = .ok (.tableswitch 91 2 19 #[87, 91, 91, 91, 91, 91, 91, 87, 87, 91, 87, 91, 87, 87, 91, 87, 89, 87], 87) := by decide +kernel
theorem dX12_lays_88 : decode cX12_lays 88 = .ok (.iconst 0, 1) := by decide +kernel
theorem dX12_lays_89 : decode cX12_lays 89 = .ok (.ireturn, 1) := by decide +kernel
theorem dX12_lays_90 : decode cX12_lays 90 = .ok (.iconst 2, 1) := by decide +kernel
theorem dX12_lays_91 : decode cX12_lays 91 = .ok (.ireturn, 1) := by decide +kernel
theorem dX12_lays_92 : decode cX12_lays 92 = .ok (.iconst 1, 1) := by decide +kernel
theorem dX12_lays_93 : decode cX12_lays 93 = .ok (.ireturn, 1) := by decide +kernel
theorem dX12_isOperand_0 : decode cX12_isOperand 0 = .ok (.iload_n 2, 1) := by decide +kernel
theorem dX12_isOperand_1 : decode cX12_isOperand 1 = .ok (.tableswitch 125 1 17 #[83, 83, 125, 125, 125, 125, 125, 125, 125, 125, 99, 125, 105, 105, 115, 115, 115], 83) := by decide +kernel
theorem dX12_isOperand_84 : decode cX12_isOperand 84 = .ok (.iload_n 3, 1) := by decide +kernel
theorem dX12_isOperand_85 : decode cX12_isOperand 85 = .ok (.i2l, 1) := by decide +kernel
theorem dX12_isOperand_86 : decode cX12_isOperand 86 = .ok (.lconst 0, 1) := by decide +kernel
theorem dX12_isOperand_87 : decode cX12_isOperand 87 = .ok (.aload_n 0, 1) := by decide +kernel
theorem dX12_isOperand_88 : decode cX12_isOperand 88 = .ok (.getfield 13, 3) := by decide +kernel
theorem dX12_isOperand_91 : decode cX12_isOperand 91 = .ok (.iload_n 1, 1) := by decide +kernel
theorem dX12_isOperand_92 : decode cX12_isOperand 92 = .ok (.iaload, 1) := by decide +kernel
theorem dX12_isOperand_93 : decode cX12_isOperand 93 = .ok (.iconst 1, 1) := by decide +kernel
theorem dX12_isOperand_94 : decode cX12_isOperand 94 = .ok (.isub, 1) := by decide +kernel
theorem dX12_isOperand_95 : decode cX12_isOperand 95 = .ok (.i2l, 1) := by decide +kernel
theorem dX12_isOperand_96 : decode cX12_isOperand 96 = .ok (.invokestatic 134, 3) := by decide +kernel
theorem dX12_isOperand_99 : decode cX12_isOperand 99 = .ok (.ireturn, 1) := by decide +kernel
theorem dX12_isOperand_100 : decode cX12_isOperand 100 = .ok (.aload_n 0, 1) := by decide +kernel
theorem dX12_isOperand_101 : decode cX12_isOperand 101 = .ok (.iload_n 3, 1) := by decide +kernel
theorem dX12_isOperand_102 : decode cX12_isOperand 102 = .ok (.invokevirtual 144, 3) := by decide +kernel
theorem dX12_isOperand_105 : decode cX12_isOperand 105 = .ok (.ireturn, 1) := by decide +kernel
theorem dX12_isOperand_106 : decode cX12_isOperand 106 = .ok (.iload_n 3, 1) := by decide +kernel
theorem dX12_isOperand_107 : decode cX12_isOperand 107 = .ok (.i2l, 1) := by decide +kernel
theorem dX12_isOperand_108 : decode cX12_isOperand 108 = .ok (.lconst 0, 1) := by decide +kernel
theorem dX12_isOperand_109 : decode cX12_isOperand 109 = .ok (.ldc2_w 150, 3) := by decide +kernel
theorem dX12_isOperand_112 : decode cX12_isOperand 112 = .ok (.invokestatic 134, 3) := by decide +kernel
theorem dX12_isOperand_115 : decode cX12_isOperand 115 = .ok (.ireturn, 1) := by decide +kernel
theorem dX12_isOperand_116 : decode cX12_isOperand 116 = .ok (.iload_n 3, 1) := by decide +kernel
theorem dX12_isOperand_117 : decode cX12_isOperand 117 = .ok (.i2l, 1) := by decide +kernel
theorem dX12_isOperand_118 : decode cX12_isOperand 118 = .ok (.lconst 0, 1) := by decide +kernel
theorem dX12_isOperand_119 : decode cX12_isOperand 119 = .ok (.ldc2_w 132, 3) := by decide +kernel
theorem dX12_isOperand_122 : decode cX12_isOperand 122 = .ok (.invokestatic 134, 3) := by decide +kernel
theorem dX12_isOperand_125 : decode cX12_isOperand 125 = .ok (.ireturn, 1) := by decide +kernel
theorem dX12_isOperand_126 : decode cX12_isOperand 126 = .ok (.iconst 1, 1) := by decide +kernel
theorem dX12_isOperand_127 : decode cX12_isOperand 127 = .ok (.ireturn, 1) := by decide +kernel
theorem dX12_comesTo_0 : decode cX12_comesTo 0 = .ok (.aload_n 0, 1) := by decide +kernel
theorem dX12_comesTo_1 : decode cX12_comesTo 1 = .ok (.getfield 29, 3) := by decide +kernel
theorem dX12_comesTo_4 : decode cX12_comesTo 4 = .ok (.bipush 60, 2) := by decide +kernel
theorem dX12_comesTo_6 : decode cX12_comesTo 6 = .ok (.iload_n 1, 1) := by decide +kernel
theorem dX12_comesTo_7 : decode cX12_comesTo 7 = .ok (.imul, 1) := by decide +kernel
theorem dX12_comesTo_8 : decode cX12_comesTo 8 = .ok (.iload_n 2, 1) := by decide +kernel
theorem dX12_comesTo_9 : decode cX12_comesTo 9 = .ok (.iadd, 1) := by decide +kernel
theorem dX12_comesTo_10 : decode cX12_comesTo 10 = .ok (.iaload, 1) := by decide +kernel
theorem dX12_comesTo_11 : decode cX12_comesTo 11 = .ok (.iconst (-1), 1) := by decide +kernel
theorem dX12_comesTo_12 : decode cX12_comesTo 12 = .ok (.if_icmp .ne 24, 3) := by decide +kernel
theorem dX12_comesTo_15 : decode cX12_comesTo 15 = .ok (.aload_n 0, 1) := by decide +kernel
theorem dX12_comesTo_16 : decode cX12_comesTo 16 = .ok (.getfield 29, 3) := by decide +kernel
theorem dX12_comesTo_19 : decode cX12_comesTo 19 = .ok (.bipush 60, 2) := by decide +kernel
theorem dX12_comesTo_21 : decode cX12_comesTo 21 = .ok (.iload_n 1, 1) := by decide +kernel
theorem dX12_comesTo_22 : decode cX12_comesTo 22 = .ok (.imul, 1) := by decide +kernel
theorem dX12_comesTo_23 : decode cX12_comesTo 23 = .ok (.iload_n 2, 1) := by decide +kernel
theorem dX12_comesTo_24 : decode cX12_comesTo 24 = .ok (.iadd, 1) := by decide +kernel
theorem dX12_comesTo_25 : decode cX12_comesTo 25 = .ok (.iload_n 3, 1) := by decide +kernel
theorem dX12_comesTo_26 : decode cX12_comesTo 26 = .ok (.iastore, 1) := by decide +kernel
theorem dX12_comesTo_27 : decode cX12_comesTo 27 = .ok (.aload_n 0, 1) := by decide +kernel
theorem dX12_comesTo_28 : decode cX12_comesTo 28 = .ok (.getfield 35, 3) := by decide +kernel
theorem dX12_comesTo_31 : decode cX12_comesTo 31 = .ok (.iload_n 2, 1) := by decide +kernel
theorem dX12_comesTo_32 : decode cX12_comesTo 32 = .ok (.iconst 1, 1) := by decide +kernel
theorem dX12_comesTo_33 : decode cX12_comesTo 33 = .ok (.bastore, 1) := by decide +kernel
theorem dX12_comesTo_34 : decode cX12_comesTo 34 = .ok (.iconst 0, 1) := by decide +kernel
theorem dX12_comesTo_35 : decode cX12_comesTo 35 = .ok (.ireturn, 1) := by decide +kernel
theorem dX12_comesTo_36 : decode cX12_comesTo 36 = .ok (.aload_n 0, 1) := by decide +kernel
theorem dX12_comesTo_37 : decode cX12_comesTo 37 = .ok (.getfield 29, 3) := by decide +kernel
theorem dX12_comesTo_40 : decode cX12_comesTo 40 = .ok (.bipush 60, 2) := by decide +kernel
theorem dX12_comesTo_42 : decode cX12_comesTo 42 = .ok (.iload_n 1, 1) := by decide +kernel
theorem dX12_comesTo_43 : decode cX12_comesTo 43 = .ok (.imul, 1) := by decide +kernel
theorem dX12_comesTo_44 : decode cX12_comesTo 44 = .ok (.iload_n 2, 1) := by decide +kernel
theorem dX12_comesTo_45 : decode cX12_comesTo 45 = .ok (.iadd, 1) := by decide +kernel
theorem dX12_comesTo_46 : decode cX12_comesTo 46 = .ok (.iaload, 1) := by decide +kernel
theorem dX12_comesTo_47 : decode cX12_comesTo 47 = .ok (.iload_n 3, 1) := by decide +kernel
theorem dX12_comesTo_48 : decode cX12_comesTo 48 = .ok (.if_icmp .ne 7, 3) := by decide +kernel
theorem dX12_comesTo_51 : decode cX12_comesTo 51 = .ok (.iconst 0, 1) := by decide +kernel
theorem dX12_comesTo_52 : decode cX12_comesTo 52 = .ok (.goto 4, 3) := by decide +kernel
theorem dX12_comesTo_55 : decode cX12_comesTo 55 = .ok (.iconst 3, 1) := by decide +kernel
theorem dX12_comesTo_56 : decode cX12_comesTo 56 = .ok (.ireturn, 1) := by decide +kernel
theorem dX12_looksAt_0 : decode cX12_looksAt 0 = .ok (.aload_n 0, 1) := by decide +kernel
theorem dX12_looksAt_1 : decode cX12_looksAt 1 = .ok (.getfield 19, 3) := by decide +kernel
theorem dX12_looksAt_4 : decode cX12_looksAt 4 = .ok (.bipush 60, 2) := by decide +kernel
theorem dX12_looksAt_6 : decode cX12_looksAt 6 = .ok (.iload_n 1, 1) := by decide +kernel
theorem dX12_looksAt_7 : decode cX12_looksAt 7 = .ok (.imul, 1) := by decide +kernel
theorem dX12_looksAt_8 : decode cX12_looksAt 8 = .ok (.iload_n 2, 1) := by decide +kernel
theorem dX12_looksAt_9 : decode cX12_looksAt 9 = .ok (.iadd, 1) := by decide +kernel
theorem dX12_looksAt_10 : decode cX12_looksAt 10 = .ok (.iaload, 1) := by decide +kernel
theorem dX12_looksAt_11 : decode cX12_looksAt 11 = .ok (.istore_n 3, 1) := by decide +kernel
theorem dX12_looksAt_12 : decode cX12_looksAt 12 = .ok (.aload_n 0, 1) := by decide +kernel
theorem dX12_looksAt_13 : decode cX12_looksAt 13 = .ok (.getfield 22, 3) := by decide +kernel
theorem dX12_looksAt_16 : decode cX12_looksAt 16 = .ok (.bipush 60, 2) := by decide +kernel
theorem dX12_looksAt_18 : decode cX12_looksAt 18 = .ok (.iload_n 1, 1) := by decide +kernel
theorem dX12_looksAt_19 : decode cX12_looksAt 19 = .ok (.imul, 1) := by decide +kernel
theorem dX12_looksAt_20 : decode cX12_looksAt 20 = .ok (.iload_n 2, 1) := by decide +kernel
theorem dX12_looksAt_21 : decode cX12_looksAt 21 = .ok (.iadd, 1) := by decide +kernel
theorem dX12_looksAt_22 : decode cX12_looksAt 22 = .ok (.iaload, 1) := by decide +kernel
theorem dX12_looksAt_23 : decode cX12_looksAt 23 = .ok (.istore 4, 2) := by decide +kernel
theorem dX12_looksAt_25 : decode cX12_looksAt 25 = .ok (.aload_n 0, 1) := by decide +kernel
theorem dX12_looksAt_26 : decode cX12_looksAt 26 = .ok (.getfield 29, 3) := by decide +kernel
theorem dX12_looksAt_29 : decode cX12_looksAt 29 = .ok (.bipush 60, 2) := by decide +kernel
theorem dX12_looksAt_31 : decode cX12_looksAt 31 = .ok (.iload_n 1, 1) := by decide +kernel
theorem dX12_looksAt_32 : decode cX12_looksAt 32 = .ok (.imul, 1) := by decide +kernel
theorem dX12_looksAt_33 : decode cX12_looksAt 33 = .ok (.iload_n 2, 1) := by decide +kernel
theorem dX12_looksAt_34 : decode cX12_looksAt 34 = .ok (.iadd, 1) := by decide +kernel
theorem dX12_looksAt_35 : decode cX12_looksAt 35 = .ok (.iaload, 1) := by decide +kernel
theorem dX12_looksAt_36 : decode cX12_looksAt 36 = .ok (.istore 5, 2) := by decide +kernel
theorem dX12_looksAt_38 : decode cX12_looksAt 38 = .ok (.aload_n 0, 1) := by decide +kernel
theorem dX12_looksAt_39 : decode cX12_looksAt 39 = .ok (.iload_n 1, 1) := by decide +kernel
theorem dX12_looksAt_40 : decode cX12_looksAt 40 = .ok (.iload_n 3, 1) := by decide +kernel
theorem dX12_looksAt_41 : decode cX12_looksAt 41 = .ok (.iload 4, 2) := by decide +kernel
theorem dX12_looksAt_43 : decode cX12_looksAt 43 = .ok (.invokevirtual 152, 3) := by decide +kernel
theorem dX12_looksAt_46 : decode cX12_looksAt 46 = .ok (.ifCond .ne 6, 3) := by decide +kernel
theorem dX12_looksAt_49 : decode cX12_looksAt 49 = .ok (.bipush 6, 2) := by decide +kernel
theorem dX12_looksAt_51 : decode cX12_looksAt 51 = .ok (.ireturn, 1) := by decide +kernel
theorem dX12_looksAt_52 : decode cX12_looksAt 52 = .ok (.iload 5, 2) := by decide +kernel
theorem dX12_looksAt_54 : decode cX12_looksAt 54 = .ok (.aload_n 0, 1) := by decide +kernel
theorem dX12_looksAt_55 : decode cX12_looksAt 55 = .ok (.iload_n 3, 1) := by decide +kernel
theorem dX12_looksAt_56 : decode cX12_looksAt 56 = .ok (.iload 4, 2) := by decide +kernel
theorem dX12_looksAt_58 : decode cX12_looksAt 58 = .ok (.invokevirtual 156, 3) := by decide +kernel
theorem dX12_looksAt_61 : decode cX12_looksAt 61 = .ok (.if_icmp .ge 5, 3) := by decide +kernel
theorem dX12_looksAt_64 : decode cX12_looksAt 64 = .ok (.iconst 1, 1) := by decide +kernel
theorem dX12_looksAt_65 : decode cX12_looksAt 65 = .ok (.ireturn, 1) := by decide +kernel
theorem dX12_looksAt_66 : decode cX12_looksAt 66 = .ok (.iload 5, 2) := by decide +kernel
theorem dX12_looksAt_68 : decode cX12_looksAt 68 = .ok (.aload_n 0, 1) := by decide +kernel
theorem dX12_looksAt_69 : decode cX12_looksAt 69 = .ok (.iload_n 3, 1) := by decide +kernel
theorem dX12_looksAt_70 : decode cX12_looksAt 70 = .ok (.iload 4, 2) := by decide +kernel
theorem dX12_looksAt_72 : decode cX12_looksAt 72 = .ok (.invokevirtual 156, 3) := by decide +kernel
theorem dX12_looksAt_75 : decode cX12_looksAt 75 = .ok (.isub, 1) := by decide +kernel
theorem dX12_looksAt_76 : decode cX12_looksAt 76 = .ok (.iload_n 3, 1) := by decide +kernel
theorem dX12_looksAt_77 : decode cX12_looksAt 77 = .ok (.invokestatic 160, 3) := by decide +kernel
theorem dX12_looksAt_80 : decode cX12_looksAt 80 = .ok (.iadd, 1) := by decide +kernel
theorem dX12_looksAt_81 : decode cX12_looksAt 81 = .ok (.istore 6, 2) := by decide +kernel
theorem dX12_looksAt_83 : decode cX12_looksAt 83 = .ok (.iload 6, 2) := by decide +kernel
theorem dX12_looksAt_85 : decode cX12_looksAt 85 = .ok (.bipush 8, 2) := by decide +kernel
theorem dX12_looksAt_87 : decode cX12_looksAt 87 = .ok (.if_icmp .le 5, 3) := by decide +kernel
theorem dX12_looksAt_90 : decode cX12_looksAt 90 = .ok (.iconst 2, 1) := by decide +kernel
theorem dX12_looksAt_91 : decode cX12_looksAt 91 = .ok (.ireturn, 1) := by decide +kernel
theorem dX12_looksAt_92 : decode cX12_looksAt 92 = .ok (.iload_n 3, 1) := by decide +kernel
theorem dX12_looksAt_93 : decode cX12_looksAt 93 = .ok (.bipush 9, 2) := by decide +kernel
theorem dX12_looksAt_95 : decode cX12_looksAt 95 = .ok (.if_icmp .eq 9, 3) := by decide +kernel
theorem dX12_looksAt_98 : decode cX12_looksAt 98 = .ok (.iload_n 3, 1) := by decide +kernel
theorem dX12_looksAt_99 : decode cX12_looksAt 99 = .ok (.bipush 10, 2) := by decide +kernel
theorem dX12_looksAt_101 : decode cX12_looksAt 101 = .ok (.if_icmp .ne 43, 3) := by decide +kernel
theorem dX12_looksAt_104 : decode cX12_looksAt 104 = .ok (.iload 4, 2) := by decide +kernel
theorem dX12_looksAt_106 : decode cX12_looksAt 106 = .ok (.i2l, 1) := by decide +kernel
theorem dX12_looksAt_107 : decode cX12_looksAt 107 = .ok (.lconst 0, 1) := by decide +kernel
theorem dX12_looksAt_108 : decode cX12_looksAt 108 = .ok (.aload_n 0, 1) := by decide +kernel
theorem dX12_looksAt_109 : decode cX12_looksAt 109 = .ok (.getfield 16, 3) := by decide +kernel
theorem dX12_looksAt_112 : decode cX12_looksAt 112 = .ok (.iload_n 1, 1) := by decide +kernel
theorem dX12_looksAt_113 : decode cX12_looksAt 113 = .ok (.iaload, 1) := by decide +kernel
theorem dX12_looksAt_114 : decode cX12_looksAt 114 = .ok (.iconst 1, 1) := by decide +kernel
theorem dX12_looksAt_115 : decode cX12_looksAt 115 = .ok (.isub, 1) := by decide +kernel
theorem dX12_looksAt_116 : decode cX12_looksAt 116 = .ok (.i2l, 1) := by decide +kernel
theorem dX12_looksAt_117 : decode cX12_looksAt 117 = .ok (.invokestatic 134, 3) := by decide +kernel
theorem dX12_looksAt_120 : decode cX12_looksAt 120 = .ok (.ifCond .ne 5, 3) := by decide +kernel
theorem dX12_looksAt_123 : decode cX12_looksAt 123 = .ok (.iconst 4, 1) := by decide +kernel
theorem dX12_looksAt_124 : decode cX12_looksAt 124 = .ok (.ireturn, 1) := by decide +kernel
theorem dX12_looksAt_125 : decode cX12_looksAt 125 = .ok (.aload_n 0, 1) := by decide +kernel
theorem dX12_looksAt_126 : decode cX12_looksAt 126 = .ok (.iload_n 1, 1) := by decide +kernel
theorem dX12_looksAt_127 : decode cX12_looksAt 127 = .ok (.iload 4, 2) := by decide +kernel
theorem dX12_looksAt_129 : decode cX12_looksAt 129 = .ok (.iload 6, 2) := by decide +kernel
theorem dX12_looksAt_131 : decode cX12_looksAt 131 = .ok (.invokevirtual 164, 3) := by decide +kernel
theorem dX12_looksAt_134 : decode cX12_looksAt 134 = .ok (.istore 7, 2) := by decide +kernel
theorem dX12_looksAt_136 : decode cX12_looksAt 136 = .ok (.iload 7, 2) := by decide +kernel
theorem dX12_looksAt_138 : decode cX12_looksAt 138 = .ok (.ifCond .eq 6, 3) := by decide +kernel
theorem dX12_looksAt_141 : decode cX12_looksAt 141 = .ok (.iload 7, 2) := by decide +kernel
theorem dX12_looksAt_143 : decode cX12_looksAt 143 = .ok (.ireturn, 1) := by decide +kernel
theorem dX12_looksAt_144 : decode cX12_looksAt 144 = .ok (.iload_n 3, 1) := by decide +kernel
theorem dX12_looksAt_145 : decode cX12_looksAt 145 = .ok (.bipush 9, 2) := by decide +kernel
theorem dX12_looksAt_147 : decode cX12_looksAt 147 = .ok (.if_icmp .eq 9, 3) := by decide +kernel
theorem dX12_looksAt_150 : decode cX12_looksAt 150 = .ok (.iload_n 3, 1) := by decide +kernel
theorem dX12_looksAt_151 : decode cX12_looksAt 151 = .ok (.bipush 12, 2) := by decide +kernel
theorem dX12_looksAt_153 : decode cX12_looksAt 153 = .ok (.if_icmp .ne 5, 3) := by decide +kernel
theorem dX12_looksAt_156 : decode cX12_looksAt 156 = .ok (.iconst 0, 1) := by decide +kernel
theorem dX12_looksAt_157 : decode cX12_looksAt 157 = .ok (.ireturn, 1) := by decide +kernel
theorem dX12_looksAt_158 : decode cX12_looksAt 158 = .ok (.iload_n 2, 1) := by decide +kernel
theorem dX12_looksAt_159 : decode cX12_looksAt 159 = .ok (.iconst 1, 1) := by decide +kernel
theorem dX12_looksAt_160 : decode cX12_looksAt 160 = .ok (.iadd, 1) := by decide +kernel
theorem dX12_looksAt_161 : decode cX12_looksAt 161 = .ok (.aload_n 0, 1) := by decide +kernel
theorem dX12_looksAt_162 : decode cX12_looksAt 162 = .ok (.getfield 16, 3) := by decide +kernel
theorem dX12_looksAt_165 : decode cX12_looksAt 165 = .ok (.iload_n 1, 1) := by decide +kernel
theorem dX12_looksAt_166 : decode cX12_looksAt 166 = .ok (.iaload, 1) := by decide +kernel
theorem dX12_looksAt_167 : decode cX12_looksAt 167 = .ok (.if_icmp .ne 7, 3) := by decide +kernel
theorem dX12_looksAt_170 : decode cX12_looksAt 170 = .ok (.iconst 5, 1) := by decide +kernel
theorem dX12_looksAt_171 : decode cX12_looksAt 171 = .ok (.goto 13, 3) := by decide +kernel
theorem dX12_looksAt_174 : decode cX12_looksAt 174 = .ok (.aload_n 0, 1) := by decide +kernel
theorem dX12_looksAt_175 : decode cX12_looksAt 175 = .ok (.iload_n 1, 1) := by decide +kernel
theorem dX12_looksAt_176 : decode cX12_looksAt 176 = .ok (.iload_n 2, 1) := by decide +kernel
theorem dX12_looksAt_177 : decode cX12_looksAt 177 = .ok (.iconst 1, 1) := by decide +kernel
theorem dX12_looksAt_178 : decode cX12_looksAt 178 = .ok (.iadd, 1) := by decide +kernel
theorem dX12_looksAt_179 : decode cX12_looksAt 179 = .ok (.iload 6, 2) := by decide +kernel
theorem dX12_looksAt_181 : decode cX12_looksAt 181 = .ok (.invokevirtual 164, 3) := by decide +kernel
theorem dX12_looksAt_184 : decode cX12_looksAt 184 = .ok (.ireturn, 1) := by decide +kernel
theorem dX12_nextWaiting_0 : decode cX12_nextWaiting 0 = .ok (.iconst 0, 1) := by decide +kernel
theorem dX12_nextWaiting_1 : decode cX12_nextWaiting 1 = .ok (.istore_n 2, 1) := by decide +kernel
theorem dX12_nextWaiting_2 : decode cX12_nextWaiting 2 = .ok (.iload_n 2, 1) := by decide +kernel
theorem dX12_nextWaiting_3 : decode cX12_nextWaiting 3 = .ok (.aload_n 0, 1) := by decide +kernel
theorem dX12_nextWaiting_4 : decode cX12_nextWaiting 4 = .ok (.getfield 16, 3) := by decide +kernel
theorem dX12_nextWaiting_7 : decode cX12_nextWaiting 7 = .ok (.iload_n 1, 1) := by decide +kernel
theorem dX12_nextWaiting_8 : decode cX12_nextWaiting 8 = .ok (.iaload, 1) := by decide +kernel
theorem dX12_nextWaiting_9 : decode cX12_nextWaiting 9 = .ok (.if_icmp .ge 20, 3) := by decide +kernel
theorem dX12_nextWaiting_12 : decode cX12_nextWaiting 12 = .ok (.aload_n 0, 1) := by decide +kernel
theorem dX12_nextWaiting_13 : decode cX12_nextWaiting 13 = .ok (.getfield 35, 3) := by decide +kernel
theorem dX12_nextWaiting_16 : decode cX12_nextWaiting 16 = .ok (.iload_n 2, 1) := by decide +kernel
theorem dX12_nextWaiting_17 : decode cX12_nextWaiting 17 = .ok (.baload, 1) := by decide +kernel
theorem dX12_nextWaiting_18 : decode cX12_nextWaiting 18 = .ok (.ifCond .eq 5, 3) := by decide +kernel
theorem dX12_nextWaiting_21 : decode cX12_nextWaiting 21 = .ok (.iload_n 2, 1) := by decide +kernel
theorem dX12_nextWaiting_22 : decode cX12_nextWaiting 22 = .ok (.ireturn, 1) := by decide +kernel
theorem dX12_nextWaiting_23 : decode cX12_nextWaiting 23 = .ok (.iinc 2 1, 3) := by decide +kernel
theorem dX12_nextWaiting_26 : decode cX12_nextWaiting 26 = .ok (.goto (-24), 3) := by decide +kernel
theorem dX12_nextWaiting_29 : decode cX12_nextWaiting 29 = .ok (.iconst (-1), 1) := by decide +kernel
theorem dX12_nextWaiting_30 : decode cX12_nextWaiting 30 = .ok (.ireturn, 1) := by decide +kernel
theorem dX12_look_0 : decode cX12_look 0 = .ok (.aload_n 0, 1) := by decide +kernel
theorem dX12_look_1 : decode cX12_look 1 = .ok (.iload_n 1, 1) := by decide +kernel
theorem dX12_look_2 : decode cX12_look 2 = .ok (.invokevirtual 144, 3) := by decide +kernel
theorem dX12_look_5 : decode cX12_look 5 = .ok (.ifCond .ne 6, 3) := by decide +kernel
theorem dX12_look_8 : decode cX12_look 8 = .ok (.bipush (-2), 2) := by decide +kernel
theorem dX12_look_10 : decode cX12_look 10 = .ok (.ireturn, 1) := by decide +kernel
theorem dX12_look_11 : decode cX12_look 11 = .ok (.aload_n 0, 1) := by decide +kernel
theorem dX12_look_12 : decode cX12_look 12 = .ok (.getfield 25, 3) := by decide +kernel
theorem dX12_look_15 : decode cX12_look 15 = .ok (.iload_n 1, 1) := by decide +kernel
theorem dX12_look_16 : decode cX12_look 16 = .ok (.baload, 1) := by decide +kernel
theorem dX12_look_17 : decode cX12_look 17 = .ok (.ifCond .eq 6, 3) := by decide +kernel
theorem dX12_look_20 : decode cX12_look 20 = .ok (.bipush (-3), 2) := by decide +kernel
theorem dX12_look_22 : decode cX12_look 22 = .ok (.ireturn, 1) := by decide +kernel
theorem dX12_look_23 : decode cX12_look 23 = .ok (.aload_n 0, 1) := by decide +kernel
theorem dX12_look_24 : decode cX12_look 24 = .ok (.iconst 0, 1) := by decide +kernel
theorem dX12_look_25 : decode cX12_look 25 = .ok (.putfield 168, 3) := by decide +kernel
theorem dX12_look_28 : decode cX12_look 28 = .ok (.iconst 0, 1) := by decide +kernel
theorem dX12_look_29 : decode cX12_look 29 = .ok (.istore_n 2, 1) := by decide +kernel
theorem dX12_look_30 : decode cX12_look 30 = .ok (.iload_n 2, 1) := by decide +kernel
theorem dX12_look_31 : decode cX12_look 31 = .ok (.bipush 60, 2) := by decide +kernel
theorem dX12_look_33 : decode cX12_look 33 = .ok (.if_icmp .ge 28, 3) := by decide +kernel
theorem dX12_look_36 : decode cX12_look 36 = .ok (.aload_n 0, 1) := by decide +kernel
theorem dX12_look_37 : decode cX12_look 37 = .ok (.getfield 35, 3) := by decide +kernel
theorem dX12_look_40 : decode cX12_look 40 = .ok (.iload_n 2, 1) := by decide +kernel
theorem dX12_look_41 : decode cX12_look 41 = .ok (.iconst 0, 1) := by decide +kernel
theorem dX12_look_42 : decode cX12_look 42 = .ok (.bastore, 1) := by decide +kernel
theorem dX12_look_43 : decode cX12_look 43 = .ok (.aload_n 0, 1) := by decide +kernel
theorem dX12_look_44 : decode cX12_look 44 = .ok (.getfield 29, 3) := by decide +kernel
theorem dX12_look_47 : decode cX12_look 47 = .ok (.bipush 60, 2) := by decide +kernel
theorem dX12_look_49 : decode cX12_look 49 = .ok (.iload_n 1, 1) := by decide +kernel
theorem dX12_look_50 : decode cX12_look 50 = .ok (.imul, 1) := by decide +kernel
theorem dX12_look_51 : decode cX12_look 51 = .ok (.iload_n 2, 1) := by decide +kernel
theorem dX12_look_52 : decode cX12_look 52 = .ok (.iadd, 1) := by decide +kernel
theorem dX12_look_53 : decode cX12_look 53 = .ok (.iconst (-1), 1) := by decide +kernel
theorem dX12_look_54 : decode cX12_look 54 = .ok (.iastore, 1) := by decide +kernel
theorem dX12_look_55 : decode cX12_look 55 = .ok (.iinc 2 1, 3) := by decide +kernel
theorem dX12_look_58 : decode cX12_look 58 = .ok (.goto (-28), 3) := by decide +kernel
theorem dX12_look_61 : decode cX12_look 61 = .ok (.aload_n 0, 1) := by decide +kernel
theorem dX12_look_62 : decode cX12_look 62 = .ok (.getfield 16, 3) := by decide +kernel
theorem dX12_look_65 : decode cX12_look 65 = .ok (.iload_n 1, 1) := by decide +kernel
theorem dX12_look_66 : decode cX12_look 66 = .ok (.iaload, 1) := by decide +kernel
theorem dX12_look_67 : decode cX12_look 67 = .ok (.ifCond .ne 11, 3) := by decide +kernel
theorem dX12_look_70 : decode cX12_look 70 = .ok (.aload_n 0, 1) := by decide +kernel
theorem dX12_look_71 : decode cX12_look 71 = .ok (.iconst 5, 1) := by decide +kernel
theorem dX12_look_72 : decode cX12_look 72 = .ok (.putfield 168, 3) := by decide +kernel
theorem dX12_look_75 : decode cX12_look 75 = .ok (.bipush (-100), 2) := by decide +kernel
theorem dX12_look_77 : decode cX12_look 77 = .ok (.ireturn, 1) := by decide +kernel
theorem dX12_look_78 : decode cX12_look 78 = .ok (.aload_n 0, 1) := by decide +kernel
theorem dX12_look_79 : decode cX12_look 79 = .ok (.iload_n 1, 1) := by decide +kernel
theorem dX12_look_80 : decode cX12_look 80 = .ok (.iconst 0, 1) := by decide +kernel
theorem dX12_look_81 : decode cX12_look 81 = .ok (.iconst 0, 1) := by decide +kernel
theorem dX12_look_82 : decode cX12_look 82 = .ok (.invokevirtual 164, 3) := by decide +kernel
theorem dX12_look_85 : decode cX12_look 85 = .ok (.istore_n 2, 1) := by decide +kernel
theorem dX12_look_86 : decode cX12_look 86 = .ok (.iconst 0, 1) := by decide +kernel
theorem dX12_look_87 : decode cX12_look 87 = .ok (.istore_n 3, 1) := by decide +kernel
theorem dX12_look_88 : decode cX12_look 88 = .ok (.iconst 0, 1) := by decide +kernel
theorem dX12_look_89 : decode cX12_look 89 = .ok (.istore 4, 2) := by decide +kernel
theorem dX12_look_91 : decode cX12_look 91 = .ok (.iload 4, 2) := by decide +kernel
theorem dX12_look_93 : decode cX12_look 93 = .ok (.ifCond .lt 78, 3) := by decide +kernel
theorem dX12_look_96 : decode cX12_look 96 = .ok (.aload_n 0, 1) := by decide +kernel
theorem dX12_look_97 : decode cX12_look 97 = .ok (.getfield 35, 3) := by decide +kernel
theorem dX12_look_100 : decode cX12_look 100 = .ok (.iload 4, 2) := by decide +kernel
theorem dX12_look_102 : decode cX12_look 102 = .ok (.iconst 0, 1) := by decide +kernel
theorem dX12_look_103 : decode cX12_look 103 = .ok (.bastore, 1) := by decide +kernel
theorem dX12_look_104 : decode cX12_look 104 = .ok (.aload_n 0, 1) := by decide +kernel
theorem dX12_look_105 : decode cX12_look 105 = .ok (.getfield 29, 3) := by decide +kernel
theorem dX12_look_108 : decode cX12_look 108 = .ok (.bipush 60, 2) := by decide +kernel
theorem dX12_look_110 : decode cX12_look 110 = .ok (.iload_n 1, 1) := by decide +kernel
theorem dX12_look_111 : decode cX12_look 111 = .ok (.imul, 1) := by decide +kernel
theorem dX12_look_112 : decode cX12_look 112 = .ok (.iload 4, 2) := by decide +kernel
theorem dX12_look_114 : decode cX12_look 114 = .ok (.iadd, 1) := by decide +kernel
theorem dX12_look_115 : decode cX12_look 115 = .ok (.iaload, 1) := by decide +kernel
theorem dX12_look_116 : decode cX12_look 116 = .ok (.iload_n 3, 1) := by decide +kernel
theorem dX12_look_117 : decode cX12_look 117 = .ok (.if_icmp .le 18, 3) := by decide +kernel
theorem dX12_look_120 : decode cX12_look 120 = .ok (.aload_n 0, 1) := by decide +kernel
theorem dX12_look_121 : decode cX12_look 121 = .ok (.getfield 29, 3) := by decide +kernel
theorem dX12_look_124 : decode cX12_look 124 = .ok (.bipush 60, 2) := by decide +kernel
theorem dX12_look_126 : decode cX12_look 126 = .ok (.iload_n 1, 1) := by decide +kernel
theorem dX12_look_127 : decode cX12_look 127 = .ok (.imul, 1) := by decide +kernel
theorem dX12_look_128 : decode cX12_look 128 = .ok (.iload 4, 2) := by decide +kernel
theorem dX12_look_130 : decode cX12_look 130 = .ok (.iadd, 1) := by decide +kernel
theorem dX12_look_131 : decode cX12_look 131 = .ok (.iaload, 1) := by decide +kernel
theorem dX12_look_132 : decode cX12_look 132 = .ok (.goto 4, 3) := by decide +kernel
theorem dX12_look_135 : decode cX12_look 135 = .ok (.iload_n 3, 1) := by decide +kernel
theorem dX12_look_136 : decode cX12_look 136 = .ok (.istore_n 3, 1) := by decide +kernel
theorem dX12_look_137 : decode cX12_look 137 = .ok (.aload_n 0, 1) := by decide +kernel
theorem dX12_look_138 : decode cX12_look 138 = .ok (.aload_n 0, 1) := by decide +kernel
theorem dX12_look_139 : decode cX12_look 139 = .ok (.iload_n 1, 1) := by decide +kernel
theorem dX12_look_140 : decode cX12_look 140 = .ok (.iload 4, 2) := by decide +kernel
theorem dX12_look_142 : decode cX12_look 142 = .ok (.invokevirtual 171, 3) := by decide +kernel
theorem dX12_look_145 : decode cX12_look 145 = .ok (.putfield 168, 3) := by decide +kernel
theorem dX12_look_148 : decode cX12_look 148 = .ok (.aload_n 0, 1) := by decide +kernel
theorem dX12_look_149 : decode cX12_look 149 = .ok (.getfield 168, 3) := by decide +kernel
theorem dX12_look_152 : decode cX12_look 152 = .ok (.ifCond .eq 9, 3) := by decide +kernel
theorem dX12_look_155 : decode cX12_look 155 = .ok (.bipush (-100), 2) := by decide +kernel
theorem dX12_look_157 : decode cX12_look 157 = .ok (.iload 4, 2) := by decide +kernel
theorem dX12_look_159 : decode cX12_look 159 = .ok (.isub, 1) := by decide +kernel
theorem dX12_look_160 : decode cX12_look 160 = .ok (.ireturn, 1) := by decide +kernel
theorem dX12_look_161 : decode cX12_look 161 = .ok (.aload_n 0, 1) := by decide +kernel
theorem dX12_look_162 : decode cX12_look 162 = .ok (.iload_n 1, 1) := by decide +kernel
theorem dX12_look_163 : decode cX12_look 163 = .ok (.invokevirtual 174, 3) := by decide +kernel
theorem dX12_look_166 : decode cX12_look 166 = .ok (.istore 4, 2) := by decide +kernel
theorem dX12_look_168 : decode cX12_look 168 = .ok (.goto (-77), 3) := by decide +kernel
theorem dX12_look_171 : decode cX12_look 171 = .ok (.aload_n 0, 1) := by decide +kernel
theorem dX12_look_172 : decode cX12_look 172 = .ok (.getfield 25, 3) := by decide +kernel
theorem dX12_look_175 : decode cX12_look 175 = .ok (.iload_n 1, 1) := by decide +kernel
theorem dX12_look_176 : decode cX12_look 176 = .ok (.iconst 1, 1) := by decide +kernel
theorem dX12_look_177 : decode cX12_look 177 = .ok (.bastore, 1) := by decide +kernel
theorem dX12_look_178 : decode cX12_look 178 = .ok (.aload_n 0, 1) := by decide +kernel
theorem dX12_look_179 : decode cX12_look 179 = .ok (.getfield 32, 3) := by decide +kernel
theorem dX12_look_182 : decode cX12_look 182 = .ok (.iload_n 1, 1) := by decide +kernel
theorem dX12_look_183 : decode cX12_look 183 = .ok (.iload_n 3, 1) := by decide +kernel
theorem dX12_look_184 : decode cX12_look 184 = .ok (.iastore, 1) := by decide +kernel
theorem dX12_look_185 : decode cX12_look 185 = .ok (.iload_n 3, 1) := by decide +kernel
theorem dX12_look_186 : decode cX12_look 186 = .ok (.ireturn, 1) := by decide +kernel
theorem dX12_fault_0 : decode cX12_fault 0 = .ok (.aload_n 0, 1) := by decide +kernel
theorem dX12_fault_1 : decode cX12_fault 1 = .ok (.getfield 168, 3) := by decide +kernel
theorem dX12_fault_4 : decode cX12_fault 4 = .ok (.ireturn, 1) := by decide +kernel
theorem dX12_keep_0 : decode cX12_keep 0 = .ok (.iload_n 1, 1) := by decide +kernel
theorem dX12_keep_1 : decode cX12_keep 1 = .ok (.i2l, 1) := by decide +kernel
theorem dX12_keep_2 : decode cX12_keep 2 = .ok (.lconst 0, 1) := by decide +kernel
theorem dX12_keep_3 : decode cX12_keep 3 = .ok (.ldc2_w 150, 3) := by decide +kernel
theorem dX12_keep_6 : decode cX12_keep 6 = .ok (.invokestatic 134, 3) := by decide +kernel
theorem dX12_keep_9 : decode cX12_keep 9 = .ok (.ifCond .ne 6, 3) := by decide +kernel
theorem dX12_keep_12 : decode cX12_keep 12 = .ok (.ldc 177, 2) := by decide +kernel
theorem dX12_keep_14 : decode cX12_keep 14 = .ok (.ireturn, 1) := by decide +kernel
theorem dX12_keep_15 : decode cX12_keep 15 = .ok (.aload_n 0, 1) := by decide +kernel
theorem dX12_keep_16 : decode cX12_keep 16 = .ok (.getfield 41, 3) := by decide +kernel
theorem dX12_keep_19 : decode cX12_keep 19 = .ok (.iload_n 1, 1) := by decide +kernel
theorem dX12_keep_20 : decode cX12_keep 20 = .ok (.iaload, 1) := by decide +kernel
theorem dX12_keep_21 : decode cX12_keep 21 = .ok (.istore_n 3, 1) := by decide +kernel
theorem dX12_keep_22 : decode cX12_keep 22 = .ok (.aload_n 0, 1) := by decide +kernel
theorem dX12_keep_23 : decode cX12_keep 23 = .ok (.getfield 41, 3) := by decide +kernel
theorem dX12_keep_26 : decode cX12_keep 26 = .ok (.iload_n 1, 1) := by decide +kernel
theorem dX12_keep_27 : decode cX12_keep 27 = .ok (.iload_n 2, 1) := by decide +kernel
theorem dX12_keep_28 : decode cX12_keep 28 = .ok (.iastore, 1) := by decide +kernel
theorem dX12_keep_29 : decode cX12_keep 29 = .ok (.iload_n 3, 1) := by decide +kernel
theorem dX12_keep_30 : decode cX12_keep 30 = .ok (.ireturn, 1) := by decide +kernel
theorem dX12_field_0 : decode cX12_field 0 = .ok (.iload_n 1, 1) := by decide +kernel
theorem dX12_field_1 : decode cX12_field 1 = .ok (.i2l, 1) := by decide +kernel
theorem dX12_field_2 : decode cX12_field 2 = .ok (.lconst 0, 1) := by decide +kernel
theorem dX12_field_3 : decode cX12_field 3 = .ok (.ldc2_w 150, 3) := by decide +kernel
theorem dX12_field_6 : decode cX12_field 6 = .ok (.invokestatic 134, 3) := by decide +kernel
theorem dX12_field_9 : decode cX12_field 9 = .ok (.ifCond .eq 12, 3) := by decide +kernel
theorem dX12_field_12 : decode cX12_field 12 = .ok (.aload_n 0, 1) := by decide +kernel
theorem dX12_field_13 : decode cX12_field 13 = .ok (.getfield 41, 3) := by decide +kernel
theorem dX12_field_16 : decode cX12_field 16 = .ok (.iload_n 1, 1) := by decide +kernel
theorem dX12_field_17 : decode cX12_field 17 = .ok (.iaload, 1) := by decide +kernel
theorem dX12_field_18 : decode cX12_field 18 = .ok (.goto 5, 3) := by decide +kernel
theorem dX12_field_21 : decode cX12_field 21 = .ok (.ldc 177, 2) := by decide +kernel
theorem dX12_field_23 : decode cX12_field 23 = .ok (.ireturn, 1) := by decide +kernel
theorem dX12_lose_0 : decode cX12_lose 0 = .ok (.iload_n 1, 1) := by decide +kernel
theorem dX12_lose_1 : decode cX12_lose 1 = .ok (.i2l, 1) := by decide +kernel
theorem dX12_lose_2 : decode cX12_lose 2 = .ok (.lconst 0, 1) := by decide +kernel
theorem dX12_lose_3 : decode cX12_lose 3 = .ok (.ldc2_w 132, 3) := by decide +kernel
theorem dX12_lose_6 : decode cX12_lose 6 = .ok (.invokestatic 134, 3) := by decide +kernel
theorem dX12_lose_9 : decode cX12_lose 9 = .ok (.ifCond .ne 6, 3) := by decide +kernel
theorem dX12_lose_12 : decode cX12_lose 12 = .ok (.bipush (-2), 2) := by decide +kernel
theorem dX12_lose_14 : decode cX12_lose 14 = .ok (.ireturn, 1) := by decide +kernel
theorem dX12_lose_15 : decode cX12_lose 15 = .ok (.aload_n 0, 1) := by decide +kernel
theorem dX12_lose_16 : decode cX12_lose 16 = .ok (.getfield 44, 3) := by decide +kernel
theorem dX12_lose_19 : decode cX12_lose 19 = .ok (.iload_n 1, 1) := by decide +kernel
theorem dX12_lose_20 : decode cX12_lose 20 = .ok (.iaload, 1) := by decide +kernel
theorem dX12_lose_21 : decode cX12_lose 21 = .ok (.istore_n 2, 1) := by decide +kernel
theorem dX12_lose_22 : decode cX12_lose 22 = .ok (.aload_n 0, 1) := by decide +kernel
theorem dX12_lose_23 : decode cX12_lose 23 = .ok (.getfield 44, 3) := by decide +kernel
theorem dX12_lose_26 : decode cX12_lose 26 = .ok (.iload_n 1, 1) := by decide +kernel
theorem dX12_lose_27 : decode cX12_lose 27 = .ok (.iconst (-1), 1) := by decide +kernel
theorem dX12_lose_28 : decode cX12_lose 28 = .ok (.iastore, 1) := by decide +kernel
theorem dX12_lose_29 : decode cX12_lose 29 = .ok (.iload_n 2, 1) := by decide +kernel
theorem dX12_lose_30 : decode cX12_lose 30 = .ok (.ireturn, 1) := by decide +kernel
theorem dX12_size_0 : decode cX12_size 0 = .ok (.iload_n 1, 1) := by decide +kernel
theorem dX12_size_1 : decode cX12_size 1 = .ok (.i2l, 1) := by decide +kernel
theorem dX12_size_2 : decode cX12_size 2 = .ok (.lconst 0, 1) := by decide +kernel
theorem dX12_size_3 : decode cX12_size 3 = .ok (.ldc2_w 132, 3) := by decide +kernel
theorem dX12_size_6 : decode cX12_size 6 = .ok (.invokestatic 134, 3) := by decide +kernel
theorem dX12_size_9 : decode cX12_size 9 = .ok (.ifCond .eq 12, 3) := by decide +kernel
theorem dX12_size_12 : decode cX12_size 12 = .ok (.aload_n 0, 1) := by decide +kernel
theorem dX12_size_13 : decode cX12_size 13 = .ok (.getfield 44, 3) := by decide +kernel
theorem dX12_size_16 : decode cX12_size 16 = .ok (.iload_n 1, 1) := by decide +kernel
theorem dX12_size_17 : decode cX12_size 17 = .ok (.iaload, 1) := by decide +kernel
theorem dX12_size_18 : decode cX12_size 18 = .ok (.goto 5, 3) := by decide +kernel
theorem dX12_size_21 : decode cX12_size 21 = .ok (.bipush (-2), 2) := by decide +kernel
theorem dX12_size_23 : decode cX12_size 23 = .ok (.ireturn, 1) := by decide +kernel
theorem dX12_item_0 : decode cX12_item 0 = .ok (.iload_n 1, 1) := by decide +kernel
theorem dX12_item_1 : decode cX12_item 1 = .ok (.i2l, 1) := by decide +kernel
theorem dX12_item_2 : decode cX12_item 2 = .ok (.lconst 0, 1) := by decide +kernel
theorem dX12_item_3 : decode cX12_item 3 = .ok (.ldc2_w 132, 3) := by decide +kernel
theorem dX12_item_6 : decode cX12_item 6 = .ok (.invokestatic 134, 3) := by decide +kernel
theorem dX12_item_9 : decode cX12_item 9 = .ok (.ifCond .eq 35, 3) := by decide +kernel
theorem dX12_item_12 : decode cX12_item 12 = .ok (.iload_n 2, 1) := by decide +kernel
theorem dX12_item_13 : decode cX12_item 13 = .ok (.i2l, 1) := by decide +kernel
theorem dX12_item_14 : decode cX12_item 14 = .ok (.lconst 0, 1) := by decide +kernel
theorem dX12_item_15 : decode cX12_item 15 = .ok (.aload_n 0, 1) := by decide +kernel
theorem dX12_item_16 : decode cX12_item 16 = .ok (.getfield 44, 3) := by decide +kernel
theorem dX12_item_19 : decode cX12_item 19 = .ok (.iload_n 1, 1) := by decide +kernel
theorem dX12_item_20 : decode cX12_item 20 = .ok (.iaload, 1) := by decide +kernel
theorem dX12_item_21 : decode cX12_item 21 = .ok (.iconst 1, 1) := by decide +kernel
theorem dX12_item_22 : decode cX12_item 22 = .ok (.isub, 1) := by decide +kernel
theorem dX12_item_23 : decode cX12_item 23 = .ok (.i2l, 1) := by decide +kernel
theorem dX12_item_24 : decode cX12_item 24 = .ok (.invokestatic 134, 3) := by decide +kernel
theorem dX12_item_27 : decode cX12_item 27 = .ok (.ifCond .eq 17, 3) := by decide +kernel
theorem dX12_item_30 : decode cX12_item 30 = .ok (.aload_n 0, 1) := by decide +kernel
theorem dX12_item_31 : decode cX12_item 31 = .ok (.getfield 47, 3) := by decide +kernel
theorem dX12_item_34 : decode cX12_item 34 = .ok (.bipush 20, 2) := by decide +kernel
theorem dX12_item_36 : decode cX12_item 36 = .ok (.iload_n 1, 1) := by decide +kernel
theorem dX12_item_37 : decode cX12_item 37 = .ok (.imul, 1) := by decide +kernel
theorem dX12_item_38 : decode cX12_item 38 = .ok (.iload_n 2, 1) := by decide +kernel
theorem dX12_item_39 : decode cX12_item 39 = .ok (.iadd, 1) := by decide +kernel
theorem dX12_item_40 : decode cX12_item 40 = .ok (.iaload, 1) := by decide +kernel
theorem dX12_item_41 : decode cX12_item 41 = .ok (.goto 4, 3) := by decide +kernel
theorem dX12_item_44 : decode cX12_item 44 = .ok (.iconst 0, 1) := by decide +kernel
theorem dX12_item_45 : decode cX12_item 45 = .ok (.ireturn, 1) := by decide +kernel
theorem dX12_codeNow_0 : decode cX12_codeNow 0 = .ok (.bipush 12, 2) := by decide +kernel
theorem dX12_codeNow_2 : decode cX12_codeNow 2 = .ok (.iload_n 1, 1) := by decide +kernel
theorem dX12_codeNow_3 : decode cX12_codeNow 3 = .ok (.imul, 1) := by decide +kernel
theorem dX12_codeNow_4 : decode cX12_codeNow 4 = .ok (.aload_n 0, 1) := by decide +kernel
theorem dX12_codeNow_5 : decode cX12_codeNow 5 = .ok (.getfield 56, 3) := by decide +kernel
theorem dX12_codeNow_8 : decode cX12_codeNow 8 = .ok (.iload_n 1, 1) := by decide +kernel
theorem dX12_codeNow_9 : decode cX12_codeNow 9 = .ok (.iaload, 1) := by decide +kernel
theorem dX12_codeNow_10 : decode cX12_codeNow 10 = .ok (.iadd, 1) := by decide +kernel
theorem dX12_codeNow_11 : decode cX12_codeNow 11 = .ok (.iconst 1, 1) := by decide +kernel
theorem dX12_codeNow_12 : decode cX12_codeNow 12 = .ok (.isub, 1) := by decide +kernel
theorem dX12_codeNow_13 : decode cX12_codeNow 13 = .ok (.ireturn, 1) := by decide +kernel
theorem dX12_remember_0 : decode cX12_remember 0 = .ok (.iconst 0, 1) := by decide +kernel
theorem dX12_remember_1 : decode cX12_remember 1 = .ok (.istore 4, 2) := by decide +kernel
theorem dX12_remember_3 : decode cX12_remember 3 = .ok (.iload 4, 2) := by decide +kernel
theorem dX12_remember_5 : decode cX12_remember 5 = .ok (.bipush 11, 2) := by decide +kernel
theorem dX12_remember_7 : decode cX12_remember 7 = .ok (.if_icmp .ge 135, 3) := by decide +kernel
theorem dX12_remember_10 : decode cX12_remember 10 = .ok (.iload 4, 2) := by decide +kernel
theorem dX12_remember_12 : decode cX12_remember 12 = .ok (.iconst 3, 1) := by decide +kernel
theorem dX12_remember_13 : decode cX12_remember 13 = .ok (.if_icmp .ge 27, 3) := by decide +kernel
theorem dX12_remember_16 : decode cX12_remember 16 = .ok (.iload 4, 2) := by decide +kernel
theorem dX12_remember_18 : decode cX12_remember 18 = .ok (.aload_n 0, 1) := by decide +kernel
theorem dX12_remember_19 : decode cX12_remember 19 = .ok (.getfield 7, 3) := by decide +kernel
theorem dX12_remember_22 : decode cX12_remember 22 = .ok (.iload_n 1, 1) := by decide +kernel
theorem dX12_remember_23 : decode cX12_remember 23 = .ok (.iaload, 1) := by decide +kernel
theorem dX12_remember_24 : decode cX12_remember 24 = .ok (.if_icmp .ge 12, 3) := by decide +kernel
theorem dX12_remember_27 : decode cX12_remember 27 = .ok (.aload_n 2, 1) := by decide +kernel
theorem dX12_remember_28 : decode cX12_remember 28 = .ok (.iload_n 3, 1) := by decide +kernel
theorem dX12_remember_29 : decode cX12_remember 29 = .ok (.iload 4, 2) := by decide +kernel
theorem dX12_remember_31 : decode cX12_remember 31 = .ok (.iadd, 1) := by decide +kernel
theorem dX12_remember_32 : decode cX12_remember 32 = .ok (.iaload, 1) := by decide +kernel
theorem dX12_remember_33 : decode cX12_remember 33 = .ok (.goto 16, 3) := by decide +kernel
theorem dX12_remember_36 : decode cX12_remember 36 = .ok (.iconst 0, 1) := by decide +kernel
theorem dX12_remember_37 : decode cX12_remember 37 = .ok (.goto 12, 3) := by decide +kernel
theorem dX12_remember_40 : decode cX12_remember 40 = .ok (.aload_n 0, 1) := by decide +kernel
theorem dX12_remember_41 : decode cX12_remember 41 = .ok (.getfield 41, 3) := by decide +kernel
theorem dX12_remember_44 : decode cX12_remember 44 = .ok (.iload 4, 2) := by decide +kernel
theorem dX12_remember_46 : decode cX12_remember 46 = .ok (.iconst 3, 1) := by decide +kernel
theorem dX12_remember_47 : decode cX12_remember 47 = .ok (.isub, 1) := by decide +kernel
theorem dX12_remember_48 : decode cX12_remember 48 = .ok (.iaload, 1) := by decide +kernel
theorem dX12_remember_49 : decode cX12_remember 49 = .ok (.istore 5, 2) := by decide +kernel
theorem dX12_remember_51 : decode cX12_remember 51 = .ok (.aload_n 0, 1) := by decide +kernel
theorem dX12_remember_52 : decode cX12_remember 52 = .ok (.getfield 53, 3) := by decide +kernel
theorem dX12_remember_55 : decode cX12_remember 55 = .ok (.iload_n 1, 1) := by decide +kernel
theorem dX12_remember_56 : decode cX12_remember 56 = .ok (.iaload, 1) := by decide +kernel
theorem dX12_remember_57 : decode cX12_remember 57 = .ok (.ifCond .ne 30, 3) := by decide +kernel
theorem dX12_remember_60 : decode cX12_remember 60 = .ok (.aload_n 0, 1) := by decide +kernel
theorem dX12_remember_61 : decode cX12_remember 61 = .ok (.getfield 65, 3) := by decide +kernel
theorem dX12_remember_64 : decode cX12_remember 64 = .ok (.bipush 11, 2) := by decide +kernel
theorem dX12_remember_66 : decode cX12_remember 66 = .ok (.iload_n 1, 1) := by decide +kernel
theorem dX12_remember_67 : decode cX12_remember 67 = .ok (.imul, 1) := by decide +kernel
theorem dX12_remember_68 : decode cX12_remember 68 = .ok (.iload 4, 2) := by decide +kernel
theorem dX12_remember_70 : decode cX12_remember 70 = .ok (.iadd, 1) := by decide +kernel
theorem dX12_remember_71 : decode cX12_remember 71 = .ok (.iload 5, 2) := by decide +kernel
theorem dX12_remember_73 : decode cX12_remember 73 = .ok (.iastore, 1) := by decide +kernel
theorem dX12_remember_74 : decode cX12_remember 74 = .ok (.aload_n 0, 1) := by decide +kernel
theorem dX12_remember_75 : decode cX12_remember 75 = .ok (.getfield 68, 3) := by decide +kernel
theorem dX12_remember_78 : decode cX12_remember 78 = .ok (.bipush 11, 2) := by decide +kernel
theorem dX12_remember_80 : decode cX12_remember 80 = .ok (.iload_n 1, 1) := by decide +kernel
theorem dX12_remember_81 : decode cX12_remember 81 = .ok (.imul, 1) := by decide +kernel
theorem dX12_remember_82 : decode cX12_remember 82 = .ok (.iload 4, 2) := by decide +kernel
theorem dX12_remember_84 : decode cX12_remember 84 = .ok (.iadd, 1) := by decide +kernel
theorem dX12_remember_85 : decode cX12_remember 85 = .ok (.iconst 1, 1) := by decide +kernel
theorem dX12_remember_86 : decode cX12_remember 86 = .ok (.bastore, 1) := by decide +kernel
theorem dX12_remember_87 : decode cX12_remember 87 = .ok (.aload_n 0, 1) := by decide +kernel
theorem dX12_remember_88 : decode cX12_remember 88 = .ok (.getfield 68, 3) := by decide +kernel
theorem dX12_remember_91 : decode cX12_remember 91 = .ok (.bipush 11, 2) := by decide +kernel
theorem dX12_remember_93 : decode cX12_remember 93 = .ok (.iload_n 1, 1) := by decide +kernel
theorem dX12_remember_94 : decode cX12_remember 94 = .ok (.imul, 1) := by decide +kernel
theorem dX12_remember_95 : decode cX12_remember 95 = .ok (.iload 4, 2) := by decide +kernel
theorem dX12_remember_97 : decode cX12_remember 97 = .ok (.iadd, 1) := by decide +kernel
theorem dX12_remember_98 : decode cX12_remember 98 = .ok (.aload_n 0, 1) := by decide +kernel
theorem dX12_remember_99 : decode cX12_remember 99 = .ok (.getfield 68, 3) := by decide +kernel
theorem dX12_remember_102 : decode cX12_remember 102 = .ok (.bipush 11, 2) := by decide +kernel
theorem dX12_remember_104 : decode cX12_remember 104 = .ok (.iload_n 1, 1) := by decide +kernel
theorem dX12_remember_105 : decode cX12_remember 105 = .ok (.imul, 1) := by decide +kernel
theorem dX12_remember_106 : decode cX12_remember 106 = .ok (.iload 4, 2) := by decide +kernel
theorem dX12_remember_108 : decode cX12_remember 108 = .ok (.iadd, 1) := by decide +kernel
theorem dX12_remember_109 : decode cX12_remember 109 = .ok (.baload, 1) := by decide +kernel
theorem dX12_remember_110 : decode cX12_remember 110 = .ok (.ifCond .eq 24, 3) := by decide +kernel
theorem dX12_remember_113 : decode cX12_remember 113 = .ok (.aload_n 0, 1) := by decide +kernel
theorem dX12_remember_114 : decode cX12_remember 114 = .ok (.getfield 65, 3) := by decide +kernel
theorem dX12_remember_117 : decode cX12_remember 117 = .ok (.bipush 11, 2) := by decide +kernel
theorem dX12_remember_119 : decode cX12_remember 119 = .ok (.iload_n 1, 1) := by decide +kernel
theorem dX12_remember_120 : decode cX12_remember 120 = .ok (.imul, 1) := by decide +kernel
theorem dX12_remember_121 : decode cX12_remember 121 = .ok (.iload 4, 2) := by decide +kernel
theorem dX12_remember_123 : decode cX12_remember 123 = .ok (.iadd, 1) := by decide +kernel
theorem dX12_remember_124 : decode cX12_remember 124 = .ok (.iaload, 1) := by decide +kernel
theorem dX12_remember_125 : decode cX12_remember 125 = .ok (.iload 5, 2) := by decide +kernel
theorem dX12_remember_127 : decode cX12_remember 127 = .ok (.if_icmp .ne 7, 3) := by decide +kernel
theorem dX12_remember_130 : decode cX12_remember 130 = .ok (.iconst 1, 1) := by decide +kernel
theorem dX12_remember_131 : decode cX12_remember 131 = .ok (.goto 4, 3) := by decide +kernel
theorem dX12_remember_134 : decode cX12_remember 134 = .ok (.iconst 0, 1) := by decide +kernel
theorem dX12_remember_135 : decode cX12_remember 135 = .ok (.bastore, 1) := by decide +kernel
theorem dX12_remember_136 : decode cX12_remember 136 = .ok (.iinc 4 1, 3) := by decide +kernel
theorem dX12_remember_139 : decode cX12_remember 139 = .ok (.goto (-136), 3) := by decide +kernel
theorem dX12_remember_142 : decode cX12_remember 142 = .ok (.aload_n 0, 1) := by decide +kernel
theorem dX12_remember_143 : decode cX12_remember 143 = .ok (.getfield 53, 3) := by decide +kernel
theorem dX12_remember_146 : decode cX12_remember 146 = .ok (.iload_n 1, 1) := by decide +kernel
theorem dX12_remember_147 : decode cX12_remember 147 = .ok (.dup2, 1) := by decide +kernel
theorem dX12_remember_148 : decode cX12_remember 148 = .ok (.iaload, 1) := by decide +kernel
theorem dX12_remember_149 : decode cX12_remember 149 = .ok (.iconst 1, 1) := by decide +kernel
theorem dX12_remember_150 : decode cX12_remember 150 = .ok (.iadd, 1) := by decide +kernel
theorem dX12_remember_151 : decode cX12_remember 151 = .ok (.iastore, 1) := by decide +kernel
theorem dX12_remember_152 : decode cX12_remember 152 = .ok (.return_, 1) := by decide +kernel
theorem dX12_has_0 : decode cX12_has 0 = .ok (.iconst 0, 1) := by decide +kernel
theorem dX12_has_1 : decode cX12_has 1 = .ok (.istore 4, 2) := by decide +kernel
theorem dX12_has_3 : decode cX12_has 3 = .ok (.iconst 0, 1) := by decide +kernel
theorem dX12_has_4 : decode cX12_has 4 = .ok (.istore 5, 2) := by decide +kernel
theorem dX12_has_6 : decode cX12_has 6 = .ok (.iload 5, 2) := by decide +kernel
theorem dX12_has_8 : decode cX12_has 8 = .ok (.aload_n 0, 1) := by decide +kernel
theorem dX12_has_9 : decode cX12_has 9 = .ok (.getfield 16, 3) := by decide +kernel
theorem dX12_has_12 : decode cX12_has 12 = .ok (.iload_n 1, 1) := by decide +kernel
theorem dX12_has_13 : decode cX12_has 13 = .ok (.iaload, 1) := by decide +kernel
theorem dX12_has_14 : decode cX12_has 14 = .ok (.if_icmp .ge 68, 3) := by decide +kernel
theorem dX12_has_17 : decode cX12_has 17 = .ok (.iload 4, 2) := by decide +kernel
theorem dX12_has_19 : decode cX12_has 19 = .ok (.ifCond .ne 50, 3) := by decide +kernel
theorem dX12_has_22 : decode cX12_has 22 = .ok (.aload_n 0, 1) := by decide +kernel
theorem dX12_has_23 : decode cX12_has 23 = .ok (.getfield 29, 3) := by decide +kernel
theorem dX12_has_26 : decode cX12_has 26 = .ok (.bipush 60, 2) := by decide +kernel
theorem dX12_has_28 : decode cX12_has 28 = .ok (.iload_n 1, 1) := by decide +kernel
theorem dX12_has_29 : decode cX12_has 29 = .ok (.imul, 1) := by decide +kernel
theorem dX12_has_30 : decode cX12_has 30 = .ok (.iload 5, 2) := by decide +kernel
theorem dX12_has_32 : decode cX12_has 32 = .ok (.iadd, 1) := by decide +kernel
theorem dX12_has_33 : decode cX12_has 33 = .ok (.iaload, 1) := by decide +kernel
theorem dX12_has_34 : decode cX12_has 34 = .ok (.ifCond .lt 39, 3) := by decide +kernel
theorem dX12_has_37 : decode cX12_has 37 = .ok (.aload_n 0, 1) := by decide +kernel
theorem dX12_has_38 : decode cX12_has 38 = .ok (.getfield 19, 3) := by decide +kernel
theorem dX12_has_41 : decode cX12_has 41 = .ok (.bipush 60, 2) := by decide +kernel
theorem dX12_has_43 : decode cX12_has 43 = .ok (.iload_n 1, 1) := by decide +kernel
theorem dX12_has_44 : decode cX12_has 44 = .ok (.imul, 1) := by decide +kernel
theorem dX12_has_45 : decode cX12_has 45 = .ok (.iload 5, 2) := by decide +kernel
theorem dX12_has_47 : decode cX12_has 47 = .ok (.iadd, 1) := by decide +kernel
theorem dX12_has_48 : decode cX12_has 48 = .ok (.iaload, 1) := by decide +kernel
theorem dX12_has_49 : decode cX12_has 49 = .ok (.iload_n 2, 1) := by decide +kernel
theorem dX12_has_50 : decode cX12_has 50 = .ok (.if_icmp .ne 23, 3) := by decide +kernel
theorem dX12_has_53 : decode cX12_has 53 = .ok (.aload_n 0, 1) := by decide +kernel
theorem dX12_has_54 : decode cX12_has 54 = .ok (.getfield 22, 3) := by decide +kernel
theorem dX12_has_57 : decode cX12_has 57 = .ok (.bipush 60, 2) := by decide +kernel
theorem dX12_has_59 : decode cX12_has 59 = .ok (.iload_n 1, 1) := by decide +kernel
theorem dX12_has_60 : decode cX12_has 60 = .ok (.imul, 1) := by decide +kernel
theorem dX12_has_61 : decode cX12_has 61 = .ok (.iload 5, 2) := by decide +kernel
theorem dX12_has_63 : decode cX12_has 63 = .ok (.iadd, 1) := by decide +kernel
theorem dX12_has_64 : decode cX12_has 64 = .ok (.iaload, 1) := by decide +kernel
theorem dX12_has_65 : decode cX12_has 65 = .ok (.iload_n 3, 1) := by decide +kernel
theorem dX12_has_66 : decode cX12_has 66 = .ok (.if_icmp .ne 7, 3) := by decide +kernel
theorem dX12_has_69 : decode cX12_has 69 = .ok (.iconst 1, 1) := by decide +kernel
theorem dX12_has_70 : decode cX12_has 70 = .ok (.goto 4, 3) := by decide +kernel
theorem dX12_has_73 : decode cX12_has 73 = .ok (.iconst 0, 1) := by decide +kernel
theorem dX12_has_74 : decode cX12_has 74 = .ok (.istore 4, 2) := by decide +kernel
theorem dX12_has_76 : decode cX12_has 76 = .ok (.iinc 5 1, 3) := by decide +kernel
theorem dX12_has_79 : decode cX12_has 79 = .ok (.goto (-73), 3) := by decide +kernel
theorem dX12_has_82 : decode cX12_has 82 = .ok (.iload 4, 2) := by decide +kernel
theorem dX12_has_84 : decode cX12_has 84 = .ok (.ireturn, 1) := by decide +kernel
theorem dX12_assumes_0 : decode cX12_assumes 0 = .ok (.iconst 0, 1) := by decide +kernel
theorem dX12_assumes_1 : decode cX12_assumes 1 = .ok (.istore_n 2, 1) := by decide +kernel
theorem dX12_assumes_2 : decode cX12_assumes 2 = .ok (.iload_n 2, 1) := by decide +kernel
theorem dX12_assumes_3 : decode cX12_assumes 3 = .ok (.bipush 11, 2) := by decide +kernel
theorem dX12_assumes_5 : decode cX12_assumes 5 = .ok (.if_icmp .ge 127, 3) := by decide +kernel
theorem dX12_assumes_8 : decode cX12_assumes 8 = .ok (.iload_n 2, 1) := by decide +kernel
theorem dX12_assumes_9 : decode cX12_assumes 9 = .ok (.iconst 3, 1) := by decide +kernel
theorem dX12_assumes_10 : decode cX12_assumes 10 = .ok (.if_icmp .ge 41, 3) := by decide +kernel
theorem dX12_assumes_13 : decode cX12_assumes 13 = .ok (.iload_n 2, 1) := by decide +kernel
theorem dX12_assumes_14 : decode cX12_assumes 14 = .ok (.aload_n 0, 1) := by decide +kernel
theorem dX12_assumes_15 : decode cX12_assumes 15 = .ok (.getfield 7, 3) := by decide +kernel
theorem dX12_assumes_18 : decode cX12_assumes 18 = .ok (.iload_n 1, 1) := by decide +kernel
theorem dX12_assumes_19 : decode cX12_assumes 19 = .ok (.iaload, 1) := by decide +kernel
theorem dX12_assumes_20 : decode cX12_assumes 20 = .ok (.if_icmp .ge 27, 3) := by decide +kernel
theorem dX12_assumes_23 : decode cX12_assumes 23 = .ok (.aload_n 0, 1) := by decide +kernel
theorem dX12_assumes_24 : decode cX12_assumes 24 = .ok (.iload_n 1, 1) := by decide +kernel
theorem dX12_assumes_25 : decode cX12_assumes 25 = .ok (.iconst 1, 1) := by decide +kernel
theorem dX12_assumes_26 : decode cX12_assumes 26 = .ok (.iload_n 2, 1) := by decide +kernel
theorem dX12_assumes_27 : decode cX12_assumes 27 = .ok (.invokevirtual 178, 3) := by decide +kernel
theorem dX12_assumes_30 : decode cX12_assumes 30 = .ok (.ifCond .eq 17, 3) := by decide +kernel
theorem dX12_assumes_33 : decode cX12_assumes 33 = .ok (.aload_n 0, 1) := by decide +kernel
theorem dX12_assumes_34 : decode cX12_assumes 34 = .ok (.iload_n 1, 1) := by decide +kernel
theorem dX12_assumes_35 : decode cX12_assumes 35 = .ok (.iconst 2, 1) := by decide +kernel
theorem dX12_assumes_36 : decode cX12_assumes 36 = .ok (.iload_n 2, 1) := by decide +kernel
theorem dX12_assumes_37 : decode cX12_assumes 37 = .ok (.invokevirtual 178, 3) := by decide +kernel
theorem dX12_assumes_40 : decode cX12_assumes 40 = .ok (.ifCond .ne 7, 3) := by decide +kernel
theorem dX12_assumes_43 : decode cX12_assumes 43 = .ok (.iconst 1, 1) := by decide +kernel
theorem dX12_assumes_44 : decode cX12_assumes 44 = .ok (.goto 38, 3) := by decide +kernel
theorem dX12_assumes_47 : decode cX12_assumes 47 = .ok (.iconst 0, 1) := by decide +kernel
theorem dX12_assumes_48 : decode cX12_assumes 48 = .ok (.goto 34, 3) := by decide +kernel
theorem dX12_assumes_51 : decode cX12_assumes 51 = .ok (.aload_n 0, 1) := by decide +kernel
theorem dX12_assumes_52 : decode cX12_assumes 52 = .ok (.iload_n 1, 1) := by decide +kernel
theorem dX12_assumes_53 : decode cX12_assumes 53 = .ok (.bipush 13, 2) := by decide +kernel
theorem dX12_assumes_55 : decode cX12_assumes 55 = .ok (.iload_n 2, 1) := by decide +kernel
theorem dX12_assumes_56 : decode cX12_assumes 56 = .ok (.iconst 3, 1) := by decide +kernel
theorem dX12_assumes_57 : decode cX12_assumes 57 = .ok (.isub, 1) := by decide +kernel
theorem dX12_assumes_58 : decode cX12_assumes 58 = .ok (.invokevirtual 178, 3) := by decide +kernel
theorem dX12_assumes_61 : decode cX12_assumes 61 = .ok (.ifCond .eq 20, 3) := by decide +kernel
theorem dX12_assumes_64 : decode cX12_assumes 64 = .ok (.aload_n 0, 1) := by decide +kernel
theorem dX12_assumes_65 : decode cX12_assumes 65 = .ok (.iload_n 1, 1) := by decide +kernel
theorem dX12_assumes_66 : decode cX12_assumes 66 = .ok (.bipush 14, 2) := by decide +kernel
theorem dX12_assumes_68 : decode cX12_assumes 68 = .ok (.iload_n 2, 1) := by decide +kernel
theorem dX12_assumes_69 : decode cX12_assumes 69 = .ok (.iconst 3, 1) := by decide +kernel
theorem dX12_assumes_70 : decode cX12_assumes 70 = .ok (.isub, 1) := by decide +kernel
theorem dX12_assumes_71 : decode cX12_assumes 71 = .ok (.invokevirtual 178, 3) := by decide +kernel
theorem dX12_assumes_74 : decode cX12_assumes 74 = .ok (.ifCond .ne 7, 3) := by decide +kernel
theorem dX12_assumes_77 : decode cX12_assumes 77 = .ok (.iconst 1, 1) := by decide +kernel
theorem dX12_assumes_78 : decode cX12_assumes 78 = .ok (.goto 4, 3) := by decide +kernel
theorem dX12_assumes_81 : decode cX12_assumes 81 = .ok (.iconst 0, 1) := by decide +kernel
theorem dX12_assumes_82 : decode cX12_assumes 82 = .ok (.istore_n 3, 1) := by decide +kernel
theorem dX12_assumes_83 : decode cX12_assumes 83 = .ok (.aload_n 0, 1) := by decide +kernel
theorem dX12_assumes_84 : decode cX12_assumes 84 = .ok (.getfield 96, 3) := by decide +kernel
theorem dX12_assumes_87 : decode cX12_assumes 87 = .ok (.iload_n 2, 1) := by decide +kernel
theorem dX12_assumes_88 : decode cX12_assumes 88 = .ok (.iload_n 3, 1) := by decide +kernel
theorem dX12_assumes_89 : decode cX12_assumes 89 = .ok (.ifCond .eq 35, 3) := by decide +kernel
theorem dX12_assumes_92 : decode cX12_assumes 92 = .ok (.aload_n 0, 1) := by decide +kernel
theorem dX12_assumes_93 : decode cX12_assumes 93 = .ok (.getfield 71, 3) := by decide +kernel
theorem dX12_assumes_96 : decode cX12_assumes 96 = .ok (.bipush 11, 2) := by decide +kernel
theorem dX12_assumes_98 : decode cX12_assumes 98 = .ok (.iload_n 1, 1) := by decide +kernel
theorem dX12_assumes_99 : decode cX12_assumes 99 = .ok (.imul, 1) := by decide +kernel
theorem dX12_assumes_100 : decode cX12_assumes 100 = .ok (.iload_n 2, 1) := by decide +kernel
theorem dX12_assumes_101 : decode cX12_assumes 101 = .ok (.iadd, 1) := by decide +kernel
theorem dX12_assumes_102 : decode cX12_assumes 102 = .ok (.baload, 1) := by decide +kernel
theorem dX12_assumes_103 : decode cX12_assumes 103 = .ok (.ifCond .ne 21, 3) := by decide +kernel
theorem dX12_assumes_106 : decode cX12_assumes 106 = .ok (.aload_n 0, 1) := by decide +kernel
theorem dX12_assumes_107 : decode cX12_assumes 107 = .ok (.getfield 68, 3) := by decide +kernel
theorem dX12_assumes_110 : decode cX12_assumes 110 = .ok (.bipush 11, 2) := by decide +kernel
theorem dX12_assumes_112 : decode cX12_assumes 112 = .ok (.iload_n 1, 1) := by decide +kernel
theorem dX12_assumes_113 : decode cX12_assumes 113 = .ok (.imul, 1) := by decide +kernel
theorem dX12_assumes_114 : decode cX12_assumes 114 = .ok (.iload_n 2, 1) := by decide +kernel
theorem dX12_assumes_115 : decode cX12_assumes 115 = .ok (.iadd, 1) := by decide +kernel
theorem dX12_assumes_116 : decode cX12_assumes 116 = .ok (.baload, 1) := by decide +kernel
theorem dX12_assumes_117 : decode cX12_assumes 117 = .ok (.ifCond .eq 7, 3) := by decide +kernel
theorem dX12_assumes_120 : decode cX12_assumes 120 = .ok (.iconst 1, 1) := by decide +kernel
theorem dX12_assumes_121 : decode cX12_assumes 121 = .ok (.goto 4, 3) := by decide +kernel
theorem dX12_assumes_124 : decode cX12_assumes 124 = .ok (.iconst 0, 1) := by decide +kernel
theorem dX12_assumes_125 : decode cX12_assumes 125 = .ok (.bastore, 1) := by decide +kernel
theorem dX12_assumes_126 : decode cX12_assumes 126 = .ok (.iinc 2 1, 3) := by decide +kernel
theorem dX12_assumes_129 : decode cX12_assumes 129 = .ok (.goto (-127), 3) := by decide +kernel
theorem dX12_assumes_132 : decode cX12_assumes 132 = .ok (.return_, 1) := by decide +kernel
theorem dX12_part_0 : decode cX12_part 0 = .ok (.sipush 640, 3) := by decide +kernel
theorem dX12_part_3 : decode cX12_part 3 = .ok (.aload_n 0, 1) := by decide +kernel
theorem dX12_part_4 : decode cX12_part 4 = .ok (.getfield 181, 3) := by decide +kernel
theorem dX12_part_7 : decode cX12_part 7 = .ok (.imul, 1) := by decide +kernel
theorem dX12_part_8 : decode cX12_part 8 = .ok (.aload_n 0, 1) := by decide +kernel
theorem dX12_part_9 : decode cX12_part 9 = .ok (.getfield 74, 3) := by decide +kernel
theorem dX12_part_12 : decode cX12_part 12 = .ok (.aload_n 0, 1) := by decide +kernel
theorem dX12_part_13 : decode cX12_part 13 = .ok (.getfield 181, 3) := by decide +kernel
theorem dX12_part_16 : decode cX12_part 16 = .ok (.iaload, 1) := by decide +kernel
theorem dX12_part_17 : decode cX12_part 17 = .ok (.iadd, 1) := by decide +kernel
theorem dX12_part_18 : decode cX12_part 18 = .ok (.istore 5, 2) := by decide +kernel
theorem dX12_part_20 : decode cX12_part 20 = .ok (.aload_n 0, 1) := by decide +kernel
theorem dX12_part_21 : decode cX12_part 21 = .ok (.getfield 81, 3) := by decide +kernel
theorem dX12_part_24 : decode cX12_part 24 = .ok (.iload 5, 2) := by decide +kernel
theorem dX12_part_26 : decode cX12_part 26 = .ok (.iload_n 1, 1) := by decide +kernel
theorem dX12_part_27 : decode cX12_part 27 = .ok (.iastore, 1) := by decide +kernel
theorem dX12_part_28 : decode cX12_part 28 = .ok (.aload_n 0, 1) := by decide +kernel
theorem dX12_part_29 : decode cX12_part 29 = .ok (.getfield 84, 3) := by decide +kernel
theorem dX12_part_32 : decode cX12_part 32 = .ok (.iload 5, 2) := by decide +kernel
theorem dX12_part_34 : decode cX12_part 34 = .ok (.iload_n 2, 1) := by decide +kernel
theorem dX12_part_35 : decode cX12_part 35 = .ok (.iastore, 1) := by decide +kernel
theorem dX12_part_36 : decode cX12_part 36 = .ok (.aload_n 0, 1) := by decide +kernel
theorem dX12_part_37 : decode cX12_part 37 = .ok (.getfield 87, 3) := by decide +kernel
theorem dX12_part_40 : decode cX12_part 40 = .ok (.iload 5, 2) := by decide +kernel
theorem dX12_part_42 : decode cX12_part 42 = .ok (.iload_n 3, 1) := by decide +kernel
theorem dX12_part_43 : decode cX12_part 43 = .ok (.iastore, 1) := by decide +kernel
theorem dX12_part_44 : decode cX12_part 44 = .ok (.aload_n 0, 1) := by decide +kernel
theorem dX12_part_45 : decode cX12_part 45 = .ok (.getfield 90, 3) := by decide +kernel
theorem dX12_part_48 : decode cX12_part 48 = .ok (.iload 5, 2) := by decide +kernel
theorem dX12_part_50 : decode cX12_part 50 = .ok (.iload 4, 2) := by decide +kernel
theorem dX12_part_52 : decode cX12_part 52 = .ok (.iastore, 1) := by decide +kernel
theorem dX12_part_53 : decode cX12_part 53 = .ok (.aload_n 0, 1) := by decide +kernel
theorem dX12_part_54 : decode cX12_part 54 = .ok (.getfield 93, 3) := by decide +kernel
theorem dX12_part_57 : decode cX12_part 57 = .ok (.iload 5, 2) := by decide +kernel
theorem dX12_part_59 : decode cX12_part 59 = .ok (.aload_n 0, 1) := by decide +kernel
theorem dX12_part_60 : decode cX12_part 60 = .ok (.getfield 184, 3) := by decide +kernel
theorem dX12_part_63 : decode cX12_part 63 = .ok (.iastore, 1) := by decide +kernel
theorem dX12_part_64 : decode cX12_part 64 = .ok (.aload_n 0, 1) := by decide +kernel
theorem dX12_part_65 : decode cX12_part 65 = .ok (.getfield 74, 3) := by decide +kernel
theorem dX12_part_68 : decode cX12_part 68 = .ok (.aload_n 0, 1) := by decide +kernel
theorem dX12_part_69 : decode cX12_part 69 = .ok (.getfield 181, 3) := by decide +kernel
theorem dX12_part_72 : decode cX12_part 72 = .ok (.dup2, 1) := by decide +kernel
theorem dX12_part_73 : decode cX12_part 73 = .ok (.iaload, 1) := by decide +kernel
theorem dX12_part_74 : decode cX12_part 74 = .ok (.iconst 1, 1) := by decide +kernel
theorem dX12_part_75 : decode cX12_part 75 = .ok (.iadd, 1) := by decide +kernel
theorem dX12_part_76 : decode cX12_part 76 = .ok (.iastore, 1) := by decide +kernel
theorem dX12_part_77 : decode cX12_part 77 = .ok (.return_, 1) := by decide +kernel
theorem dX12_layOne_0 : decode cX12_layOne 0 = .ok (.aload_n 0, 1) := by decide +kernel
theorem dX12_layOne_1 : decode cX12_layOne 1 = .ok (.getfield 105, 3) := by decide +kernel
theorem dX12_layOne_4 : decode cX12_layOne 4 = .ok (.iload_n 1, 1) := by decide +kernel
theorem dX12_layOne_5 : decode cX12_layOne 5 = .ok (.baload, 1) := by decide +kernel
theorem dX12_layOne_6 : decode cX12_layOne 6 = .ok (.ifCond .eq 26, 3) := by decide +kernel
theorem dX12_layOne_9 : decode cX12_layOne 9 = .ok (.aload_n 0, 1) := by decide +kernel
theorem dX12_layOne_10 : decode cX12_layOne 10 = .ok (.iconst 0, 1) := by decide +kernel
theorem dX12_layOne_11 : decode cX12_layOne 11 = .ok (.bipush 7, 2) := by decide +kernel
theorem dX12_layOne_13 : decode cX12_layOne 13 = .ok (.iload_n 1, 1) := by decide +kernel
theorem dX12_layOne_14 : decode cX12_layOne 14 = .ok (.iadd, 1) := by decide +kernel
theorem dX12_layOne_15 : decode cX12_layOne 15 = .ok (.aload_n 0, 1) := by decide +kernel
theorem dX12_layOne_16 : decode cX12_layOne 16 = .ok (.getfield 108, 3) := by decide +kernel
theorem dX12_layOne_19 : decode cX12_layOne 19 = .ok (.iload_n 1, 1) := by decide +kernel
theorem dX12_layOne_20 : decode cX12_layOne 20 = .ok (.iaload, 1) := by decide +kernel
theorem dX12_layOne_21 : decode cX12_layOne 21 = .ok (.iconst 0, 1) := by decide +kernel
theorem dX12_layOne_22 : decode cX12_layOne 22 = .ok (.invokevirtual 187, 3) := by decide +kernel
theorem dX12_layOne_25 : decode cX12_layOne 25 = .ok (.aload_n 0, 1) := by decide +kernel
theorem dX12_layOne_26 : decode cX12_layOne 26 = .ok (.getfield 105, 3) := by decide +kernel
theorem dX12_layOne_29 : decode cX12_layOne 29 = .ok (.iload_n 1, 1) := by decide +kernel
theorem dX12_layOne_30 : decode cX12_layOne 30 = .ok (.iconst 0, 1) := by decide +kernel
theorem dX12_layOne_31 : decode cX12_layOne 31 = .ok (.bastore, 1) := by decide +kernel
theorem dX12_layOne_32 : decode cX12_layOne 32 = .ok (.return_, 1) := by decide +kernel
theorem dX12_layAll_0 : decode cX12_layAll 0 = .ok (.iconst 0, 1) := by decide +kernel
theorem dX12_layAll_1 : decode cX12_layAll 1 = .ok (.istore_n 2, 1) := by decide +kernel
theorem dX12_layAll_2 : decode cX12_layAll 2 = .ok (.iload_n 2, 1) := by decide +kernel
theorem dX12_layAll_3 : decode cX12_layAll 3 = .ok (.iload_n 1, 1) := by decide +kernel
theorem dX12_layAll_4 : decode cX12_layAll 4 = .ok (.if_icmp .ge 14, 3) := by decide +kernel
theorem dX12_layAll_7 : decode cX12_layAll 7 = .ok (.aload_n 0, 1) := by decide +kernel
theorem dX12_layAll_8 : decode cX12_layAll 8 = .ok (.iload_n 2, 1) := by decide +kernel
theorem dX12_layAll_9 : decode cX12_layAll 9 = .ok (.invokevirtual 191, 3) := by decide +kernel
theorem dX12_layAll_12 : decode cX12_layAll 12 = .ok (.iinc 2 1, 3) := by decide +kernel
theorem dX12_layAll_15 : decode cX12_layAll 15 = .ok (.goto (-13), 3) := by decide +kernel
theorem dX12_layAll_18 : decode cX12_layAll 18 = .ok (.return_, 1) := by decide +kernel
theorem dX12_knows_0 : decode cX12_knows 0 = .ok (.aload_n 0, 1) := by decide +kernel
theorem dX12_knows_1 : decode cX12_knows 1 = .ok (.getfield 105, 3) := by decide +kernel
theorem dX12_knows_4 : decode cX12_knows 4 = .ok (.iload_n 1, 1) := by decide +kernel
theorem dX12_knows_5 : decode cX12_knows 5 = .ok (.iconst 1, 1) := by decide +kernel
theorem dX12_knows_6 : decode cX12_knows 6 = .ok (.bastore, 1) := by decide +kernel
theorem dX12_knows_7 : decode cX12_knows 7 = .ok (.aload_n 0, 1) := by decide +kernel
theorem dX12_knows_8 : decode cX12_knows 8 = .ok (.getfield 108, 3) := by decide +kernel
theorem dX12_knows_11 : decode cX12_knows 11 = .ok (.iload_n 1, 1) := by decide +kernel
theorem dX12_knows_12 : decode cX12_knows 12 = .ok (.iload_n 2, 1) := by decide +kernel
theorem dX12_knows_13 : decode cX12_knows 13 = .ok (.iastore, 1) := by decide +kernel
theorem dX12_knows_14 : decode cX12_knows 14 = .ok (.return_, 1) := by decide +kernel
theorem dX12_begins_0 : decode cX12_begins 0 = .ok (.iconst 0, 1) := by decide +kernel
theorem dX12_begins_1 : decode cX12_begins 1 = .ok (.istore_n 2, 1) := by decide +kernel
theorem dX12_begins_2 : decode cX12_begins 2 = .ok (.iload_n 2, 1) := by decide +kernel
theorem dX12_begins_3 : decode cX12_begins 3 = .ok (.bipush 9, 2) := by decide +kernel
theorem dX12_begins_5 : decode cX12_begins 5 = .ok (.if_icmp .ge 16, 3) := by decide +kernel
theorem dX12_begins_8 : decode cX12_begins 8 = .ok (.aload_n 0, 1) := by decide +kernel
theorem dX12_begins_9 : decode cX12_begins 9 = .ok (.getfield 105, 3) := by decide +kernel
theorem dX12_begins_12 : decode cX12_begins 12 = .ok (.iload_n 2, 1) := by decide +kernel
theorem dX12_begins_13 : decode cX12_begins 13 = .ok (.iconst 0, 1) := by decide +kernel
theorem dX12_begins_14 : decode cX12_begins 14 = .ok (.bastore, 1) := by decide +kernel
theorem dX12_begins_15 : decode cX12_begins 15 = .ok (.iinc 2 1, 3) := by decide +kernel
theorem dX12_begins_18 : decode cX12_begins 18 = .ok (.goto (-16), 3) := by decide +kernel
theorem dX12_begins_21 : decode cX12_begins 21 = .ok (.iconst 0, 1) := by decide +kernel
theorem dX12_begins_22 : decode cX12_begins 22 = .ok (.istore_n 2, 1) := by decide +kernel
theorem dX12_begins_23 : decode cX12_begins 23 = .ok (.iload_n 2, 1) := by decide +kernel
theorem dX12_begins_24 : decode cX12_begins 24 = .ok (.bipush 7, 2) := by decide +kernel
theorem dX12_begins_26 : decode cX12_begins 26 = .ok (.if_icmp .ge 60, 3) := by decide +kernel
theorem dX12_begins_29 : decode cX12_begins 29 = .ok (.aload_n 0, 1) := by decide +kernel
theorem dX12_begins_30 : decode cX12_begins 30 = .ok (.getfield 99, 3) := by decide +kernel
theorem dX12_begins_33 : decode cX12_begins 33 = .ok (.iload_n 2, 1) := by decide +kernel
theorem dX12_begins_34 : decode cX12_begins 34 = .ok (.iload_n 2, 1) := by decide +kernel
theorem dX12_begins_35 : decode cX12_begins 35 = .ok (.iconst 3, 1) := by decide +kernel
theorem dX12_begins_36 : decode cX12_begins 36 = .ok (.if_icmp .ge 16, 3) := by decide +kernel
theorem dX12_begins_39 : decode cX12_begins 39 = .ok (.aload_n 0, 1) := by decide +kernel
theorem dX12_begins_40 : decode cX12_begins 40 = .ok (.getfield 96, 3) := by decide +kernel
theorem dX12_begins_43 : decode cX12_begins 43 = .ok (.iload_n 2, 1) := by decide +kernel
theorem dX12_begins_44 : decode cX12_begins 44 = .ok (.baload, 1) := by decide +kernel
theorem dX12_begins_45 : decode cX12_begins 45 = .ok (.ifCond .eq 7, 3) := by decide +kernel
theorem dX12_begins_48 : decode cX12_begins 48 = .ok (.iconst 1, 1) := by decide +kernel
theorem dX12_begins_49 : decode cX12_begins 49 = .ok (.goto 4, 3) := by decide +kernel
theorem dX12_begins_52 : decode cX12_begins 52 = .ok (.iconst 0, 1) := by decide +kernel
theorem dX12_begins_53 : decode cX12_begins 53 = .ok (.bastore, 1) := by decide +kernel
theorem dX12_begins_54 : decode cX12_begins 54 = .ok (.aload_n 0, 1) := by decide +kernel
theorem dX12_begins_55 : decode cX12_begins 55 = .ok (.getfield 102, 3) := by decide +kernel
theorem dX12_begins_58 : decode cX12_begins 58 = .ok (.iload_n 2, 1) := by decide +kernel
theorem dX12_begins_59 : decode cX12_begins 59 = .ok (.iload_n 2, 1) := by decide +kernel
theorem dX12_begins_60 : decode cX12_begins 60 = .ok (.iconst 3, 1) := by decide +kernel
theorem dX12_begins_61 : decode cX12_begins 61 = .ok (.if_icmp .ge 17, 3) := by decide +kernel
theorem dX12_begins_64 : decode cX12_begins 64 = .ok (.aload_n 0, 1) := by decide +kernel
theorem dX12_begins_65 : decode cX12_begins 65 = .ok (.getfield 65, 3) := by decide +kernel
theorem dX12_begins_68 : decode cX12_begins 68 = .ok (.bipush 11, 2) := by decide +kernel
theorem dX12_begins_70 : decode cX12_begins 70 = .ok (.iload_n 1, 1) := by decide +kernel
theorem dX12_begins_71 : decode cX12_begins 71 = .ok (.imul, 1) := by decide +kernel
theorem dX12_begins_72 : decode cX12_begins 72 = .ok (.iload_n 2, 1) := by decide +kernel
theorem dX12_begins_73 : decode cX12_begins 73 = .ok (.iadd, 1) := by decide +kernel
theorem dX12_begins_74 : decode cX12_begins 74 = .ok (.iaload, 1) := by decide +kernel
theorem dX12_begins_75 : decode cX12_begins 75 = .ok (.goto 4, 3) := by decide +kernel
theorem dX12_begins_78 : decode cX12_begins 78 = .ok (.iconst 0, 1) := by decide +kernel
theorem dX12_begins_79 : decode cX12_begins 79 = .ok (.iastore, 1) := by decide +kernel
theorem dX12_begins_80 : decode cX12_begins 80 = .ok (.iinc 2 1, 3) := by decide +kernel
theorem dX12_begins_83 : decode cX12_begins 83 = .ok (.goto (-60), 3) := by decide +kernel
theorem dX12_begins_86 : decode cX12_begins 86 = .ok (.return_, 1) := by decide +kernel
theorem dX12_fieldGuards_0 : decode cX12_fieldGuards 0 = .ok (.iconst 0, 1) := by decide +kernel
theorem dX12_fieldGuards_1 : decode cX12_fieldGuards 1 = .ok (.istore_n 2, 1) := by decide +kernel
theorem dX12_fieldGuards_2 : decode cX12_fieldGuards 2 = .ok (.iload_n 2, 1) := by decide +kernel
theorem dX12_fieldGuards_3 : decode cX12_fieldGuards 3 = .ok (.bipush 8, 2) := by decide +kernel
theorem dX12_fieldGuards_5 : decode cX12_fieldGuards 5 = .ok (.if_icmp .ge 41, 3) := by decide +kernel
theorem dX12_fieldGuards_8 : decode cX12_fieldGuards 8 = .ok (.aload_n 0, 1) := by decide +kernel
theorem dX12_fieldGuards_9 : decode cX12_fieldGuards 9 = .ok (.getfield 96, 3) := by decide +kernel
theorem dX12_fieldGuards_12 : decode cX12_fieldGuards 12 = .ok (.iconst 3, 1) := by decide +kernel
theorem dX12_fieldGuards_13 : decode cX12_fieldGuards 13 = .ok (.iload_n 2, 1) := by decide +kernel
theorem dX12_fieldGuards_14 : decode cX12_fieldGuards 14 = .ok (.iadd, 1) := by decide +kernel
theorem dX12_fieldGuards_15 : decode cX12_fieldGuards 15 = .ok (.baload, 1) := by decide +kernel
theorem dX12_fieldGuards_16 : decode cX12_fieldGuards 16 = .ok (.ifCond .eq 24, 3) := by decide +kernel
theorem dX12_fieldGuards_19 : decode cX12_fieldGuards 19 = .ok (.aload_n 0, 1) := by decide +kernel
theorem dX12_fieldGuards_20 : decode cX12_fieldGuards 20 = .ok (.bipush 18, 2) := by decide +kernel
theorem dX12_fieldGuards_22 : decode cX12_fieldGuards 22 = .ok (.iload_n 2, 1) := by decide +kernel
theorem dX12_fieldGuards_23 : decode cX12_fieldGuards 23 = .ok (.aload_n 0, 1) := by decide +kernel
theorem dX12_fieldGuards_24 : decode cX12_fieldGuards 24 = .ok (.getfield 65, 3) := by decide +kernel
theorem dX12_fieldGuards_27 : decode cX12_fieldGuards 27 = .ok (.bipush 11, 2) := by decide +kernel
theorem dX12_fieldGuards_29 : decode cX12_fieldGuards 29 = .ok (.iload_n 1, 1) := by decide +kernel
theorem dX12_fieldGuards_30 : decode cX12_fieldGuards 30 = .ok (.imul, 1) := by decide +kernel
theorem dX12_fieldGuards_31 : decode cX12_fieldGuards 31 = .ok (.iconst 3, 1) := by decide +kernel
theorem dX12_fieldGuards_32 : decode cX12_fieldGuards 32 = .ok (.iadd, 1) := by decide +kernel
theorem dX12_fieldGuards_33 : decode cX12_fieldGuards 33 = .ok (.iload_n 2, 1) := by decide +kernel
theorem dX12_fieldGuards_34 : decode cX12_fieldGuards 34 = .ok (.iadd, 1) := by decide +kernel
theorem dX12_fieldGuards_35 : decode cX12_fieldGuards 35 = .ok (.iaload, 1) := by decide +kernel
theorem dX12_fieldGuards_36 : decode cX12_fieldGuards 36 = .ok (.iconst 0, 1) := by decide +kernel
theorem dX12_fieldGuards_37 : decode cX12_fieldGuards 37 = .ok (.invokevirtual 187, 3) := by decide +kernel
theorem dX12_fieldGuards_40 : decode cX12_fieldGuards 40 = .ok (.iinc 2 1, 3) := by decide +kernel
theorem dX12_fieldGuards_43 : decode cX12_fieldGuards 43 = .ok (.goto (-41), 3) := by decide +kernel
theorem dX12_fieldGuards_46 : decode cX12_fieldGuards 46 = .ok (.return_, 1) := by decide +kernel
theorem dX12_sumOf_0 : decode cX12_sumOf 0 = .ok (.iload_n 0, 1) := by decide +kernel
theorem dX12_sumOf_1 : decode cX12_sumOf 1 = .ok (.tableswitch 62 3 7 #[35, 39, 43, 47, 51], 35) := by decide +kernel
theorem dX12_sumOf_36 : decode cX12_sumOf 36 = .ok (.iload_n 1, 1) := by decide +kernel
theorem dX12_sumOf_37 : decode cX12_sumOf 37 = .ok (.iload_n 2, 1) := by decide +kernel
theorem dX12_sumOf_38 : decode cX12_sumOf 38 = .ok (.iadd, 1) := by decide +kernel
theorem dX12_sumOf_39 : decode cX12_sumOf 39 = .ok (.ireturn, 1) := by decide +kernel
theorem dX12_sumOf_40 : decode cX12_sumOf 40 = .ok (.iload_n 1, 1) := by decide +kernel
theorem dX12_sumOf_41 : decode cX12_sumOf 41 = .ok (.iload_n 2, 1) := by decide +kernel
theorem dX12_sumOf_42 : decode cX12_sumOf 42 = .ok (.isub, 1) := by decide +kernel
theorem dX12_sumOf_43 : decode cX12_sumOf 43 = .ok (.ireturn, 1) := by decide +kernel
theorem dX12_sumOf_44 : decode cX12_sumOf 44 = .ok (.iload_n 1, 1) := by decide +kernel
theorem dX12_sumOf_45 : decode cX12_sumOf 45 = .ok (.iload_n 2, 1) := by decide +kernel
theorem dX12_sumOf_46 : decode cX12_sumOf 46 = .ok (.imul, 1) := by decide +kernel
theorem dX12_sumOf_47 : decode cX12_sumOf 47 = .ok (.ireturn, 1) := by decide +kernel
theorem dX12_sumOf_48 : decode cX12_sumOf 48 = .ok (.iload_n 1, 1) := by decide +kernel
theorem dX12_sumOf_49 : decode cX12_sumOf 49 = .ok (.iload_n 2, 1) := by decide +kernel
theorem dX12_sumOf_50 : decode cX12_sumOf 50 = .ok (.idiv, 1) := by decide +kernel
theorem dX12_sumOf_51 : decode cX12_sumOf 51 = .ok (.ireturn, 1) := by decide +kernel
theorem dX12_sumOf_52 : decode cX12_sumOf 52 = .ok (.iload_n 1, 1) := by decide +kernel
theorem dX12_sumOf_53 : decode cX12_sumOf 53 = .ok (.iload_n 2, 1) := by decide +kernel
theorem dX12_sumOf_54 : decode cX12_sumOf 54 = .ok (.if_icmp .ge 7, 3) := by decide +kernel
theorem dX12_sumOf_57 : decode cX12_sumOf 57 = .ok (.iconst 1, 1) := by decide +kernel
theorem dX12_sumOf_58 : decode cX12_sumOf 58 = .ok (.goto 4, 3) := by decide +kernel
theorem dX12_sumOf_61 : decode cX12_sumOf 61 = .ok (.iconst 0, 1) := by decide +kernel
theorem dX12_sumOf_62 : decode cX12_sumOf 62 = .ok (.ireturn, 1) := by decide +kernel
theorem dX12_sumOf_63 : decode cX12_sumOf 63 = .ok (.iload_n 1, 1) := by decide +kernel
theorem dX12_sumOf_64 : decode cX12_sumOf 64 = .ok (.iload_n 2, 1) := by decide +kernel
theorem dX12_sumOf_65 : decode cX12_sumOf 65 = .ok (.if_icmp .ne 7, 3) := by decide +kernel
theorem dX12_sumOf_68 : decode cX12_sumOf 68 = .ok (.iconst 1, 1) := by decide +kernel
theorem dX12_sumOf_69 : decode cX12_sumOf 69 = .ok (.goto 4, 3) := by decide +kernel
theorem dX12_sumOf_72 : decode cX12_sumOf 72 = .ok (.iconst 0, 1) := by decide +kernel
theorem dX12_sumOf_73 : decode cX12_sumOf 73 = .ok (.ireturn, 1) := by decide +kernel
theorem dX12_makeTwo_0 : decode cX12_makeTwo 0 = .ok (.iload_n 2, 1) := by decide +kernel
theorem dX12_makeTwo_1 : decode cX12_makeTwo 1 = .ok (.iconst 2, 1) := by decide +kernel
theorem dX12_makeTwo_2 : decode cX12_makeTwo 2 = .ok (.isub, 1) := by decide +kernel
theorem dX12_makeTwo_3 : decode cX12_makeTwo 3 = .ok (.istore_n 3, 1) := by decide +kernel
theorem dX12_makeTwo_4 : decode cX12_makeTwo 4 = .ok (.iload_n 2, 1) := by decide +kernel
theorem dX12_makeTwo_5 : decode cX12_makeTwo 5 = .ok (.iconst 1, 1) := by decide +kernel
theorem dX12_makeTwo_6 : decode cX12_makeTwo 6 = .ok (.isub, 1) := by decide +kernel
theorem dX12_makeTwo_7 : decode cX12_makeTwo 7 = .ok (.istore 4, 2) := by decide +kernel
theorem dX12_makeTwo_9 : decode cX12_makeTwo 9 = .ok (.aload_n 0, 1) := by decide +kernel
theorem dX12_makeTwo_10 : decode cX12_makeTwo 10 = .ok (.getfield 105, 3) := by decide +kernel
theorem dX12_makeTwo_13 : decode cX12_makeTwo 13 = .ok (.iload_n 3, 1) := by decide +kernel
theorem dX12_makeTwo_14 : decode cX12_makeTwo 14 = .ok (.baload, 1) := by decide +kernel
theorem dX12_makeTwo_15 : decode cX12_makeTwo 15 = .ok (.ifCond .eq 55, 3) := by decide +kernel
theorem dX12_makeTwo_18 : decode cX12_makeTwo 18 = .ok (.aload_n 0, 1) := by decide +kernel
theorem dX12_makeTwo_19 : decode cX12_makeTwo 19 = .ok (.getfield 105, 3) := by decide +kernel
theorem dX12_makeTwo_22 : decode cX12_makeTwo 22 = .ok (.iload 4, 2) := by decide +kernel
theorem dX12_makeTwo_24 : decode cX12_makeTwo 24 = .ok (.baload, 1) := by decide +kernel
theorem dX12_makeTwo_25 : decode cX12_makeTwo 25 = .ok (.ifCond .eq 45, 3) := by decide +kernel
theorem dX12_makeTwo_28 : decode cX12_makeTwo 28 = .ok (.iload_n 1, 1) := by decide +kernel
theorem dX12_makeTwo_29 : decode cX12_makeTwo 29 = .ok (.bipush 6, 2) := by decide +kernel
theorem dX12_makeTwo_31 : decode cX12_makeTwo 31 = .ok (.if_icmp .ne 13, 3) := by decide +kernel
theorem dX12_makeTwo_34 : decode cX12_makeTwo 34 = .ok (.aload_n 0, 1) := by decide +kernel
theorem dX12_makeTwo_35 : decode cX12_makeTwo 35 = .ok (.getfield 108, 3) := by decide +kernel
theorem dX12_makeTwo_38 : decode cX12_makeTwo 38 = .ok (.iload 4, 2) := by decide +kernel
theorem dX12_makeTwo_40 : decode cX12_makeTwo 40 = .ok (.iaload, 1) := by decide +kernel
theorem dX12_makeTwo_41 : decode cX12_makeTwo 41 = .ok (.ifCond .eq 29, 3) := by decide +kernel
theorem dX12_makeTwo_44 : decode cX12_makeTwo 44 = .ok (.aload_n 0, 1) := by decide +kernel
theorem dX12_makeTwo_45 : decode cX12_makeTwo 45 = .ok (.getfield 108, 3) := by decide +kernel
theorem dX12_makeTwo_48 : decode cX12_makeTwo 48 = .ok (.iload_n 3, 1) := by decide +kernel
theorem dX12_makeTwo_49 : decode cX12_makeTwo 49 = .ok (.iload_n 1, 1) := by decide +kernel
theorem dX12_makeTwo_50 : decode cX12_makeTwo 50 = .ok (.aload_n 0, 1) := by decide +kernel
theorem dX12_makeTwo_51 : decode cX12_makeTwo 51 = .ok (.getfield 108, 3) := by decide +kernel
theorem dX12_makeTwo_54 : decode cX12_makeTwo 54 = .ok (.iload_n 3, 1) := by decide +kernel
theorem dX12_makeTwo_55 : decode cX12_makeTwo 55 = .ok (.iaload, 1) := by decide +kernel
theorem dX12_makeTwo_56 : decode cX12_makeTwo 56 = .ok (.aload_n 0, 1) := by decide +kernel
theorem dX12_makeTwo_57 : decode cX12_makeTwo 57 = .ok (.getfield 108, 3) := by decide +kernel
theorem dX12_makeTwo_60 : decode cX12_makeTwo 60 = .ok (.iload 4, 2) := by decide +kernel
theorem dX12_makeTwo_62 : decode cX12_makeTwo 62 = .ok (.iaload, 1) := by decide +kernel
theorem dX12_makeTwo_63 : decode cX12_makeTwo 63 = .ok (.invokestatic 195, 3) := by decide +kernel
theorem dX12_makeTwo_66 : decode cX12_makeTwo 66 = .ok (.iastore, 1) := by decide +kernel
theorem dX12_makeTwo_67 : decode cX12_makeTwo 67 = .ok (.goto 34, 3) := by decide +kernel
theorem dX12_makeTwo_70 : decode cX12_makeTwo 70 = .ok (.aload_n 0, 1) := by decide +kernel
theorem dX12_makeTwo_71 : decode cX12_makeTwo 71 = .ok (.iload_n 3, 1) := by decide +kernel
theorem dX12_makeTwo_72 : decode cX12_makeTwo 72 = .ok (.invokevirtual 191, 3) := by decide +kernel
theorem dX12_makeTwo_75 : decode cX12_makeTwo 75 = .ok (.aload_n 0, 1) := by decide +kernel
theorem dX12_makeTwo_76 : decode cX12_makeTwo 76 = .ok (.iload 4, 2) := by decide +kernel
theorem dX12_makeTwo_78 : decode cX12_makeTwo 78 = .ok (.invokevirtual 191, 3) := by decide +kernel
theorem dX12_makeTwo_81 : decode cX12_makeTwo 81 = .ok (.aload_n 0, 1) := by decide +kernel
theorem dX12_makeTwo_82 : decode cX12_makeTwo 82 = .ok (.iload_n 1, 1) := by decide +kernel
theorem dX12_makeTwo_83 : decode cX12_makeTwo 83 = .ok (.iconst 1, 1) := by decide +kernel
theorem dX12_makeTwo_84 : decode cX12_makeTwo 84 = .ok (.isub, 1) := by decide +kernel
theorem dX12_makeTwo_85 : decode cX12_makeTwo 85 = .ok (.bipush 7, 2) := by decide +kernel
theorem dX12_makeTwo_87 : decode cX12_makeTwo 87 = .ok (.iload_n 3, 1) := by decide +kernel
theorem dX12_makeTwo_88 : decode cX12_makeTwo 88 = .ok (.iadd, 1) := by decide +kernel
theorem dX12_makeTwo_89 : decode cX12_makeTwo 89 = .ok (.bipush 7, 2) := by decide +kernel
theorem dX12_makeTwo_91 : decode cX12_makeTwo 91 = .ok (.iload_n 3, 1) := by decide +kernel
theorem dX12_makeTwo_92 : decode cX12_makeTwo 92 = .ok (.iadd, 1) := by decide +kernel
theorem dX12_makeTwo_93 : decode cX12_makeTwo 93 = .ok (.bipush 7, 2) := by decide +kernel
theorem dX12_makeTwo_95 : decode cX12_makeTwo 95 = .ok (.iload 4, 2) := by decide +kernel
theorem dX12_makeTwo_97 : decode cX12_makeTwo 97 = .ok (.iadd, 1) := by decide +kernel
theorem dX12_makeTwo_98 : decode cX12_makeTwo 98 = .ok (.invokevirtual 187, 3) := by decide +kernel
theorem dX12_makeTwo_101 : decode cX12_makeTwo 101 = .ok (.aload_n 0, 1) := by decide +kernel
theorem dX12_makeTwo_102 : decode cX12_makeTwo 102 = .ok (.getfield 105, 3) := by decide +kernel
theorem dX12_makeTwo_105 : decode cX12_makeTwo 105 = .ok (.iload 4, 2) := by decide +kernel
theorem dX12_makeTwo_107 : decode cX12_makeTwo 107 = .ok (.iconst 0, 1) := by decide +kernel
theorem dX12_makeTwo_108 : decode cX12_makeTwo 108 = .ok (.bastore, 1) := by decide +kernel
theorem dX12_makeTwo_109 : decode cX12_makeTwo 109 = .ok (.return_, 1) := by decide +kernel
theorem dX12_makeWhen_0 : decode cX12_makeWhen 0 = .ok (.aload_n 0, 1) := by decide +kernel
theorem dX12_makeWhen_1 : decode cX12_makeWhen 1 = .ok (.getfield 105, 3) := by decide +kernel
theorem dX12_makeWhen_4 : decode cX12_makeWhen 4 = .ok (.iload_n 2, 1) := by decide +kernel
theorem dX12_makeWhen_5 : decode cX12_makeWhen 5 = .ok (.iconst 1, 1) := by decide +kernel
theorem dX12_makeWhen_6 : decode cX12_makeWhen 6 = .ok (.isub, 1) := by decide +kernel
theorem dX12_makeWhen_7 : decode cX12_makeWhen 7 = .ok (.baload, 1) := by decide +kernel
theorem dX12_makeWhen_8 : decode cX12_makeWhen 8 = .ok (.ifCond .ne 25, 3) := by decide +kernel
theorem dX12_makeWhen_11 : decode cX12_makeWhen 11 = .ok (.aload_n 0, 1) := by decide +kernel
theorem dX12_makeWhen_12 : decode cX12_makeWhen 12 = .ok (.iload_n 2, 1) := by decide +kernel
theorem dX12_makeWhen_13 : decode cX12_makeWhen 13 = .ok (.iconst 1, 1) := by decide +kernel
theorem dX12_makeWhen_14 : decode cX12_makeWhen 14 = .ok (.isub, 1) := by decide +kernel
theorem dX12_makeWhen_15 : decode cX12_makeWhen 15 = .ok (.invokevirtual 198, 3) := by decide +kernel
theorem dX12_makeWhen_18 : decode cX12_makeWhen 18 = .ok (.aload_n 0, 1) := by decide +kernel
theorem dX12_makeWhen_19 : decode cX12_makeWhen 19 = .ok (.bipush 9, 2) := by decide +kernel
theorem dX12_makeWhen_21 : decode cX12_makeWhen 21 = .ok (.iload_n 1, 1) := by decide +kernel
theorem dX12_makeWhen_22 : decode cX12_makeWhen 22 = .ok (.bipush 6, 2) := by decide +kernel
theorem dX12_makeWhen_24 : decode cX12_makeWhen 24 = .ok (.iload_n 2, 1) := by decide +kernel
theorem dX12_makeWhen_25 : decode cX12_makeWhen 25 = .ok (.iadd, 1) := by decide +kernel
theorem dX12_makeWhen_26 : decode cX12_makeWhen 26 = .ok (.iconst 0, 1) := by decide +kernel
theorem dX12_makeWhen_27 : decode cX12_makeWhen 27 = .ok (.invokevirtual 187, 3) := by decide +kernel
theorem dX12_makeWhen_30 : decode cX12_makeWhen 30 = .ok (.goto 30, 3) := by decide +kernel
theorem dX12_makeWhen_33 : decode cX12_makeWhen 33 = .ok (.aload_n 0, 1) := by decide +kernel
theorem dX12_makeWhen_34 : decode cX12_makeWhen 34 = .ok (.getfield 108, 3) := by decide +kernel
theorem dX12_makeWhen_37 : decode cX12_makeWhen 37 = .ok (.iload_n 2, 1) := by decide +kernel
theorem dX12_makeWhen_38 : decode cX12_makeWhen 38 = .ok (.iconst 1, 1) := by decide +kernel
theorem dX12_makeWhen_39 : decode cX12_makeWhen 39 = .ok (.isub, 1) := by decide +kernel
theorem dX12_makeWhen_40 : decode cX12_makeWhen 40 = .ok (.iaload, 1) := by decide +kernel
theorem dX12_makeWhen_41 : decode cX12_makeWhen 41 = .ok (.ifCond .ne 19, 3) := by decide +kernel
theorem dX12_makeWhen_44 : decode cX12_makeWhen 44 = .ok (.aload_n 0, 1) := by decide +kernel
theorem dX12_makeWhen_45 : decode cX12_makeWhen 45 = .ok (.iload_n 2, 1) := by decide +kernel
theorem dX12_makeWhen_46 : decode cX12_makeWhen 46 = .ok (.iconst 1, 1) := by decide +kernel
theorem dX12_makeWhen_47 : decode cX12_makeWhen 47 = .ok (.isub, 1) := by decide +kernel
theorem dX12_makeWhen_48 : decode cX12_makeWhen 48 = .ok (.invokevirtual 198, 3) := by decide +kernel
theorem dX12_makeWhen_51 : decode cX12_makeWhen 51 = .ok (.aload_n 0, 1) := by decide +kernel
theorem dX12_makeWhen_52 : decode cX12_makeWhen 52 = .ok (.bipush 8, 2) := by decide +kernel
theorem dX12_makeWhen_54 : decode cX12_makeWhen 54 = .ok (.iload_n 1, 1) := by decide +kernel
theorem dX12_makeWhen_55 : decode cX12_makeWhen 55 = .ok (.iconst 0, 1) := by decide +kernel
theorem dX12_makeWhen_56 : decode cX12_makeWhen 56 = .ok (.iconst 0, 1) := by decide +kernel
theorem dX12_makeWhen_57 : decode cX12_makeWhen 57 = .ok (.invokevirtual 187, 3) := by decide +kernel
theorem dX12_makeWhen_60 : decode cX12_makeWhen 60 = .ok (.aload_n 0, 1) := by decide +kernel
theorem dX12_makeWhen_61 : decode cX12_makeWhen 61 = .ok (.getfield 105, 3) := by decide +kernel
theorem dX12_makeWhen_64 : decode cX12_makeWhen 64 = .ok (.iload_n 2, 1) := by decide +kernel
theorem dX12_makeWhen_65 : decode cX12_makeWhen 65 = .ok (.iconst 1, 1) := by decide +kernel
theorem dX12_makeWhen_66 : decode cX12_makeWhen 66 = .ok (.isub, 1) := by decide +kernel
theorem dX12_makeWhen_67 : decode cX12_makeWhen 67 = .ok (.iconst 0, 1) := by decide +kernel
theorem dX12_makeWhen_68 : decode cX12_makeWhen 68 = .ok (.bastore, 1) := by decide +kernel
theorem dX12_makeWhen_69 : decode cX12_makeWhen 69 = .ok (.return_, 1) := by decide +kernel
theorem dX12_make_0 : decode cX12_make 0 = .ok (.aload_n 0, 1) := by decide +kernel
theorem dX12_make_1 : decode cX12_make 1 = .ok (.getfield 19, 3) := by decide +kernel
theorem dX12_make_4 : decode cX12_make 4 = .ok (.bipush 60, 2) := by decide +kernel
theorem dX12_make_6 : decode cX12_make 6 = .ok (.iload_n 1, 1) := by decide +kernel
theorem dX12_make_7 : decode cX12_make 7 = .ok (.imul, 1) := by decide +kernel
theorem dX12_make_8 : decode cX12_make 8 = .ok (.iload_n 2, 1) := by decide +kernel
theorem dX12_make_9 : decode cX12_make 9 = .ok (.iadd, 1) := by decide +kernel
theorem dX12_make_10 : decode cX12_make 10 = .ok (.iaload, 1) := by decide +kernel
theorem dX12_make_11 : decode cX12_make 11 = .ok (.istore_n 3, 1) := by decide +kernel
theorem dX12_make_12 : decode cX12_make 12 = .ok (.aload_n 0, 1) := by decide +kernel
theorem dX12_make_13 : decode cX12_make 13 = .ok (.getfield 22, 3) := by decide +kernel
theorem dX12_make_16 : decode cX12_make 16 = .ok (.bipush 60, 2) := by decide +kernel
theorem dX12_make_18 : decode cX12_make 18 = .ok (.iload_n 1, 1) := by decide +kernel
theorem dX12_make_19 : decode cX12_make 19 = .ok (.imul, 1) := by decide +kernel
theorem dX12_make_20 : decode cX12_make 20 = .ok (.iload_n 2, 1) := by decide +kernel
theorem dX12_make_21 : decode cX12_make 21 = .ok (.iadd, 1) := by decide +kernel
theorem dX12_make_22 : decode cX12_make 22 = .ok (.iaload, 1) := by decide +kernel
theorem dX12_make_23 : decode cX12_make 23 = .ok (.istore 4, 2) := by decide +kernel
theorem dX12_make_25 : decode cX12_make 25 = .ok (.aload_n 0, 1) := by decide +kernel
theorem dX12_make_26 : decode cX12_make 26 = .ok (.getfield 29, 3) := by decide +kernel
theorem dX12_make_29 : decode cX12_make 29 = .ok (.bipush 60, 2) := by decide +kernel
theorem dX12_make_31 : decode cX12_make 31 = .ok (.iload_n 1, 1) := by decide +kernel
theorem dX12_make_32 : decode cX12_make 32 = .ok (.imul, 1) := by decide +kernel
theorem dX12_make_33 : decode cX12_make 33 = .ok (.iload_n 2, 1) := by decide +kernel
theorem dX12_make_34 : decode cX12_make 34 = .ok (.iadd, 1) := by decide +kernel
theorem dX12_make_35 : decode cX12_make 35 = .ok (.iaload, 1) := by decide +kernel
theorem dX12_make_36 : decode cX12_make 36 = .ok (.istore 5, 2) := by decide +kernel
theorem dX12_make_38 : decode cX12_make 38 = .ok (.bipush 6, 2) := by decide +kernel
theorem dX12_make_40 : decode cX12_make 40 = .ok (.iload 5, 2) := by decide +kernel
theorem dX12_make_42 : decode cX12_make 42 = .ok (.iadd, 1) := by decide +kernel
theorem dX12_make_43 : decode cX12_make 43 = .ok (.istore 6, 2) := by decide +kernel
theorem dX12_make_45 : decode cX12_make 45 = .ok (.iload_n 3, 1) := by decide +kernel
theorem dX12_make_46 : decode cX12_make 46 = .ok (.tableswitch 532 0 19 #[94, 105, 147, 532, 532, 532, 532, 532, 532, 234, 253, 264, 300, 321, 373, 395, 417, 440, 473, 519], 94) := by decide +kernel
theorem dX12_make_140 : decode cX12_make 140 = .ok (.aload_n 0, 1) := by decide +kernel
theorem dX12_make_141 : decode cX12_make 141 = .ok (.iload 5, 2) := by decide +kernel
theorem dX12_make_143 : decode cX12_make 143 = .ok (.iload 4, 2) := by decide +kernel
theorem dX12_make_145 : decode cX12_make 145 = .ok (.invokevirtual 201, 3) := by decide +kernel
theorem dX12_make_148 : decode cX12_make 148 = .ok (.goto 437, 3) := by decide +kernel
theorem dX12_make_151 : decode cX12_make 151 = .ok (.aload_n 0, 1) := by decide +kernel
theorem dX12_make_152 : decode cX12_make 152 = .ok (.getfield 99, 3) := by decide +kernel
theorem dX12_make_155 : decode cX12_make 155 = .ok (.iload 4, 2) := by decide +kernel
theorem dX12_make_157 : decode cX12_make 157 = .ok (.baload, 1) := by decide +kernel
theorem dX12_make_158 : decode cX12_make 158 = .ok (.ifCond .eq 19, 3) := by decide +kernel
theorem dX12_make_161 : decode cX12_make 161 = .ok (.aload_n 0, 1) := by decide +kernel
theorem dX12_make_162 : decode cX12_make 162 = .ok (.iload 5, 2) := by decide +kernel
theorem dX12_make_164 : decode cX12_make 164 = .ok (.aload_n 0, 1) := by decide +kernel
theorem dX12_make_165 : decode cX12_make 165 = .ok (.getfield 102, 3) := by decide +kernel
theorem dX12_make_168 : decode cX12_make 168 = .ok (.iload 4, 2) := by decide +kernel
theorem dX12_make_170 : decode cX12_make 170 = .ok (.iaload, 1) := by decide +kernel
theorem dX12_make_171 : decode cX12_make 171 = .ok (.invokevirtual 201, 3) := by decide +kernel
theorem dX12_make_174 : decode cX12_make 174 = .ok (.goto 411, 3) := by decide +kernel
theorem dX12_make_177 : decode cX12_make 177 = .ok (.aload_n 0, 1) := by decide +kernel
theorem dX12_make_178 : decode cX12_make 178 = .ok (.iconst 1, 1) := by decide +kernel
theorem dX12_make_179 : decode cX12_make 179 = .ok (.bipush 7, 2) := by decide +kernel
theorem dX12_make_181 : decode cX12_make 181 = .ok (.iload 5, 2) := by decide +kernel
theorem dX12_make_183 : decode cX12_make 183 = .ok (.iadd, 1) := by decide +kernel
theorem dX12_make_184 : decode cX12_make 184 = .ok (.iload 4, 2) := by decide +kernel
theorem dX12_make_186 : decode cX12_make 186 = .ok (.iconst 0, 1) := by decide +kernel
theorem dX12_make_187 : decode cX12_make 187 = .ok (.invokevirtual 187, 3) := by decide +kernel
theorem dX12_make_190 : decode cX12_make 190 = .ok (.goto 395, 3) := by decide +kernel
theorem dX12_make_193 : decode cX12_make 193 = .ok (.aload_n 0, 1) := by decide +kernel
theorem dX12_make_194 : decode cX12_make 194 = .ok (.getfield 99, 3) := by decide +kernel
theorem dX12_make_197 : decode cX12_make 197 = .ok (.iload 4, 2) := by decide +kernel
theorem dX12_make_199 : decode cX12_make 199 = .ok (.aload_n 0, 1) := by decide +kernel
theorem dX12_make_200 : decode cX12_make 200 = .ok (.getfield 105, 3) := by decide +kernel
theorem dX12_make_203 : decode cX12_make 203 = .ok (.iload 5, 2) := by decide +kernel
theorem dX12_make_205 : decode cX12_make 205 = .ok (.iconst 1, 1) := by decide +kernel
theorem dX12_make_206 : decode cX12_make 206 = .ok (.isub, 1) := by decide +kernel
theorem dX12_make_207 : decode cX12_make 207 = .ok (.baload, 1) := by decide +kernel
theorem dX12_make_208 : decode cX12_make 208 = .ok (.bastore, 1) := by decide +kernel
theorem dX12_make_209 : decode cX12_make 209 = .ok (.aload_n 0, 1) := by decide +kernel
theorem dX12_make_210 : decode cX12_make 210 = .ok (.getfield 105, 3) := by decide +kernel
theorem dX12_make_213 : decode cX12_make 213 = .ok (.iload 5, 2) := by decide +kernel
theorem dX12_make_215 : decode cX12_make 215 = .ok (.iconst 1, 1) := by decide +kernel
theorem dX12_make_216 : decode cX12_make 216 = .ok (.isub, 1) := by decide +kernel
theorem dX12_make_217 : decode cX12_make 217 = .ok (.baload, 1) := by decide +kernel
theorem dX12_make_218 : decode cX12_make 218 = .ok (.ifCond .eq 39, 3) := by decide +kernel
theorem dX12_make_221 : decode cX12_make 221 = .ok (.aload_n 0, 1) := by decide +kernel
theorem dX12_make_222 : decode cX12_make 222 = .ok (.getfield 102, 3) := by decide +kernel
theorem dX12_make_225 : decode cX12_make 225 = .ok (.iload 4, 2) := by decide +kernel
theorem dX12_make_227 : decode cX12_make 227 = .ok (.aload_n 0, 1) := by decide +kernel
theorem dX12_make_228 : decode cX12_make 228 = .ok (.getfield 108, 3) := by decide +kernel
theorem dX12_make_231 : decode cX12_make 231 = .ok (.iload 5, 2) := by decide +kernel
theorem dX12_make_233 : decode cX12_make 233 = .ok (.iconst 1, 1) := by decide +kernel
theorem dX12_make_234 : decode cX12_make 234 = .ok (.isub, 1) := by decide +kernel
theorem dX12_make_235 : decode cX12_make 235 = .ok (.iaload, 1) := by decide +kernel
theorem dX12_make_236 : decode cX12_make 236 = .ok (.iastore, 1) := by decide +kernel
theorem dX12_make_237 : decode cX12_make 237 = .ok (.aload_n 0, 1) := by decide +kernel
theorem dX12_make_238 : decode cX12_make 238 = .ok (.iconst 0, 1) := by decide +kernel
theorem dX12_make_239 : decode cX12_make 239 = .ok (.iload 4, 2) := by decide +kernel
theorem dX12_make_241 : decode cX12_make 241 = .ok (.aload_n 0, 1) := by decide +kernel
theorem dX12_make_242 : decode cX12_make 242 = .ok (.getfield 108, 3) := by decide +kernel
theorem dX12_make_245 : decode cX12_make 245 = .ok (.iload 5, 2) := by decide +kernel
theorem dX12_make_247 : decode cX12_make 247 = .ok (.iconst 1, 1) := by decide +kernel
theorem dX12_make_248 : decode cX12_make 248 = .ok (.isub, 1) := by decide +kernel
theorem dX12_make_249 : decode cX12_make 249 = .ok (.iaload, 1) := by decide +kernel
theorem dX12_make_250 : decode cX12_make 250 = .ok (.iconst 0, 1) := by decide +kernel
theorem dX12_make_251 : decode cX12_make 251 = .ok (.invokevirtual 187, 3) := by decide +kernel
theorem dX12_make_254 : decode cX12_make 254 = .ok (.goto 13, 3) := by decide +kernel
theorem dX12_make_257 : decode cX12_make 257 = .ok (.aload_n 0, 1) := by decide +kernel
theorem dX12_make_258 : decode cX12_make 258 = .ok (.iconst 1, 1) := by decide +kernel
theorem dX12_make_259 : decode cX12_make 259 = .ok (.iload 4, 2) := by decide +kernel
theorem dX12_make_261 : decode cX12_make 261 = .ok (.iload 6, 2) := by decide +kernel
theorem dX12_make_263 : decode cX12_make 263 = .ok (.iconst 0, 1) := by decide +kernel
theorem dX12_make_264 : decode cX12_make 264 = .ok (.invokevirtual 187, 3) := by decide +kernel
theorem dX12_make_267 : decode cX12_make 267 = .ok (.aload_n 0, 1) := by decide +kernel
theorem dX12_make_268 : decode cX12_make 268 = .ok (.getfield 105, 3) := by decide +kernel
theorem dX12_make_271 : decode cX12_make 271 = .ok (.iload 5, 2) := by decide +kernel
theorem dX12_make_273 : decode cX12_make 273 = .ok (.iconst 1, 1) := by decide +kernel
theorem dX12_make_274 : decode cX12_make 274 = .ok (.isub, 1) := by decide +kernel
theorem dX12_make_275 : decode cX12_make 275 = .ok (.iconst 0, 1) := by decide +kernel
theorem dX12_make_276 : decode cX12_make 276 = .ok (.bastore, 1) := by decide +kernel
theorem dX12_make_277 : decode cX12_make 277 = .ok (.goto 308, 3) := by decide +kernel
theorem dX12_make_280 : decode cX12_make 280 = .ok (.aload_n 0, 1) := by decide +kernel
theorem dX12_make_281 : decode cX12_make 281 = .ok (.iload 5, 2) := by decide +kernel
theorem dX12_make_283 : decode cX12_make 283 = .ok (.invokevirtual 198, 3) := by decide +kernel
theorem dX12_make_286 : decode cX12_make 286 = .ok (.aload_n 0, 1) := by decide +kernel
theorem dX12_make_287 : decode cX12_make 287 = .ok (.bipush 8, 2) := by decide +kernel
theorem dX12_make_289 : decode cX12_make 289 = .ok (.iload 4, 2) := by decide +kernel
theorem dX12_make_291 : decode cX12_make 291 = .ok (.iconst 0, 1) := by decide +kernel
theorem dX12_make_292 : decode cX12_make 292 = .ok (.iconst 0, 1) := by decide +kernel
theorem dX12_make_293 : decode cX12_make 293 = .ok (.invokevirtual 187, 3) := by decide +kernel
theorem dX12_make_296 : decode cX12_make 296 = .ok (.goto 289, 3) := by decide +kernel
theorem dX12_make_299 : decode cX12_make 299 = .ok (.aload_n 0, 1) := by decide +kernel
theorem dX12_make_300 : decode cX12_make 300 = .ok (.iload 4, 2) := by decide +kernel
theorem dX12_make_302 : decode cX12_make 302 = .ok (.iload 5, 2) := by decide +kernel
theorem dX12_make_304 : decode cX12_make 304 = .ok (.invokevirtual 205, 3) := by decide +kernel
theorem dX12_make_307 : decode cX12_make 307 = .ok (.goto 278, 3) := by decide +kernel
theorem dX12_make_310 : decode cX12_make 310 = .ok (.aload_n 0, 1) := by decide +kernel
theorem dX12_make_311 : decode cX12_make 311 = .ok (.iload 5, 2) := by decide +kernel
theorem dX12_make_313 : decode cX12_make 313 = .ok (.invokevirtual 198, 3) := by decide +kernel
theorem dX12_make_316 : decode cX12_make 316 = .ok (.aload_n 0, 1) := by decide +kernel
theorem dX12_make_317 : decode cX12_make 317 = .ok (.bipush 10, 2) := by decide +kernel
theorem dX12_make_319 : decode cX12_make 319 = .ok (.bipush 7, 2) := by decide +kernel
theorem dX12_make_321 : decode cX12_make 321 = .ok (.iload 5, 2) := by decide +kernel
theorem dX12_make_323 : decode cX12_make 323 = .ok (.iadd, 1) := by decide +kernel
theorem dX12_make_324 : decode cX12_make 324 = .ok (.aload_n 0, 1) := by decide +kernel
theorem dX12_make_325 : decode cX12_make 325 = .ok (.getfield 7, 3) := by decide +kernel
theorem dX12_make_328 : decode cX12_make 328 = .ok (.iload 4, 2) := by decide +kernel
theorem dX12_make_330 : decode cX12_make 330 = .ok (.iaload, 1) := by decide +kernel
theorem dX12_make_331 : decode cX12_make 331 = .ok (.isub, 1) := by decide +kernel
theorem dX12_make_332 : decode cX12_make 332 = .ok (.iload 4, 2) := by decide +kernel
theorem dX12_make_334 : decode cX12_make 334 = .ok (.iconst 0, 1) := by decide +kernel
theorem dX12_make_335 : decode cX12_make 335 = .ok (.invokevirtual 187, 3) := by decide +kernel
theorem dX12_make_338 : decode cX12_make 338 = .ok (.aload_n 0, 1) := by decide +kernel
theorem dX12_make_339 : decode cX12_make 339 = .ok (.iload_n 1, 1) := by decide +kernel
theorem dX12_make_340 : decode cX12_make 340 = .ok (.invokevirtual 208, 3) := by decide +kernel
theorem dX12_make_343 : decode cX12_make 343 = .ok (.goto 242, 3) := by decide +kernel
theorem dX12_make_346 : decode cX12_make 346 = .ok (.aload_n 0, 1) := by decide +kernel
theorem dX12_make_347 : decode cX12_make 347 = .ok (.iload 5, 2) := by decide +kernel
theorem dX12_make_349 : decode cX12_make 349 = .ok (.iconst 1, 1) := by decide +kernel
theorem dX12_make_350 : decode cX12_make 350 = .ok (.isub, 1) := by decide +kernel
theorem dX12_make_351 : decode cX12_make 351 = .ok (.invokevirtual 191, 3) := by decide +kernel
theorem dX12_make_354 : decode cX12_make 354 = .ok (.aload_n 0, 1) := by decide +kernel
theorem dX12_make_355 : decode cX12_make 355 = .ok (.bipush 11, 2) := by decide +kernel
theorem dX12_make_357 : decode cX12_make 357 = .ok (.iconst 0, 1) := by decide +kernel
theorem dX12_make_358 : decode cX12_make 358 = .ok (.iload 6, 2) := by decide +kernel
theorem dX12_make_360 : decode cX12_make 360 = .ok (.iconst 0, 1) := by decide +kernel
theorem dX12_make_361 : decode cX12_make 361 = .ok (.invokevirtual 187, 3) := by decide +kernel
theorem dX12_make_364 : decode cX12_make 364 = .ok (.goto 221, 3) := by decide +kernel
theorem dX12_make_367 : decode cX12_make 367 = .ok (.aload_n 0, 1) := by decide +kernel
theorem dX12_make_368 : decode cX12_make 368 = .ok (.getfield 96, 3) := by decide +kernel
theorem dX12_make_371 : decode cX12_make 371 = .ok (.iconst 3, 1) := by decide +kernel
theorem dX12_make_372 : decode cX12_make 372 = .ok (.iload 4, 2) := by decide +kernel
theorem dX12_make_374 : decode cX12_make 374 = .ok (.iadd, 1) := by decide +kernel
theorem dX12_make_375 : decode cX12_make 375 = .ok (.baload, 1) := by decide +kernel
theorem dX12_make_376 : decode cX12_make 376 = .ok (.ifCond .eq 26, 3) := by decide +kernel
theorem dX12_make_379 : decode cX12_make 379 = .ok (.aload_n 0, 1) := by decide +kernel
theorem dX12_make_380 : decode cX12_make 380 = .ok (.iload 5, 2) := by decide +kernel
theorem dX12_make_382 : decode cX12_make 382 = .ok (.aload_n 0, 1) := by decide +kernel
theorem dX12_make_383 : decode cX12_make 383 = .ok (.getfield 65, 3) := by decide +kernel
theorem dX12_make_386 : decode cX12_make 386 = .ok (.bipush 11, 2) := by decide +kernel
theorem dX12_make_388 : decode cX12_make 388 = .ok (.iload_n 1, 1) := by decide +kernel
theorem dX12_make_389 : decode cX12_make 389 = .ok (.imul, 1) := by decide +kernel
theorem dX12_make_390 : decode cX12_make 390 = .ok (.iconst 3, 1) := by decide +kernel
theorem dX12_make_391 : decode cX12_make 391 = .ok (.iadd, 1) := by decide +kernel
theorem dX12_make_392 : decode cX12_make 392 = .ok (.iload 4, 2) := by decide +kernel
theorem dX12_make_394 : decode cX12_make 394 = .ok (.iadd, 1) := by decide +kernel
theorem dX12_make_395 : decode cX12_make 395 = .ok (.iaload, 1) := by decide +kernel
theorem dX12_make_396 : decode cX12_make 396 = .ok (.invokevirtual 201, 3) := by decide +kernel
theorem dX12_make_399 : decode cX12_make 399 = .ok (.goto 186, 3) := by decide +kernel
theorem dX12_make_402 : decode cX12_make 402 = .ok (.aload_n 0, 1) := by decide +kernel
theorem dX12_make_403 : decode cX12_make 403 = .ok (.bipush 12, 2) := by decide +kernel
theorem dX12_make_405 : decode cX12_make 405 = .ok (.bipush 7, 2) := by decide +kernel
theorem dX12_make_407 : decode cX12_make 407 = .ok (.iload 5, 2) := by decide +kernel
theorem dX12_make_409 : decode cX12_make 409 = .ok (.iadd, 1) := by decide +kernel
theorem dX12_make_410 : decode cX12_make 410 = .ok (.iload 4, 2) := by decide +kernel
theorem dX12_make_412 : decode cX12_make 412 = .ok (.iconst 0, 1) := by decide +kernel
theorem dX12_make_413 : decode cX12_make 413 = .ok (.invokevirtual 187, 3) := by decide +kernel
theorem dX12_make_416 : decode cX12_make 416 = .ok (.goto 169, 3) := by decide +kernel
theorem dX12_make_419 : decode cX12_make 419 = .ok (.aload_n 0, 1) := by decide +kernel
theorem dX12_make_420 : decode cX12_make 420 = .ok (.iload 5, 2) := by decide +kernel
theorem dX12_make_422 : decode cX12_make 422 = .ok (.iconst 1, 1) := by decide +kernel
theorem dX12_make_423 : decode cX12_make 423 = .ok (.isub, 1) := by decide +kernel
theorem dX12_make_424 : decode cX12_make 424 = .ok (.invokevirtual 191, 3) := by decide +kernel
theorem dX12_make_427 : decode cX12_make 427 = .ok (.aload_n 0, 1) := by decide +kernel
theorem dX12_make_428 : decode cX12_make 428 = .ok (.bipush 13, 2) := by decide +kernel
theorem dX12_make_430 : decode cX12_make 430 = .ok (.iload 4, 2) := by decide +kernel
theorem dX12_make_432 : decode cX12_make 432 = .ok (.iload 6, 2) := by decide +kernel
theorem dX12_make_434 : decode cX12_make 434 = .ok (.iconst 0, 1) := by decide +kernel
theorem dX12_make_435 : decode cX12_make 435 = .ok (.invokevirtual 187, 3) := by decide +kernel
theorem dX12_make_438 : decode cX12_make 438 = .ok (.goto 147, 3) := by decide +kernel
theorem dX12_make_441 : decode cX12_make 441 = .ok (.aload_n 0, 1) := by decide +kernel
theorem dX12_make_442 : decode cX12_make 442 = .ok (.iload 5, 2) := by decide +kernel
theorem dX12_make_444 : decode cX12_make 444 = .ok (.iconst 1, 1) := by decide +kernel
theorem dX12_make_445 : decode cX12_make 445 = .ok (.isub, 1) := by decide +kernel
theorem dX12_make_446 : decode cX12_make 446 = .ok (.invokevirtual 191, 3) := by decide +kernel
theorem dX12_make_449 : decode cX12_make 449 = .ok (.aload_n 0, 1) := by decide +kernel
theorem dX12_make_450 : decode cX12_make 450 = .ok (.bipush 14, 2) := by decide +kernel
theorem dX12_make_452 : decode cX12_make 452 = .ok (.iload 4, 2) := by decide +kernel
theorem dX12_make_454 : decode cX12_make 454 = .ok (.iload 6, 2) := by decide +kernel
theorem dX12_make_456 : decode cX12_make 456 = .ok (.iconst 0, 1) := by decide +kernel
theorem dX12_make_457 : decode cX12_make 457 = .ok (.invokevirtual 187, 3) := by decide +kernel
theorem dX12_make_460 : decode cX12_make 460 = .ok (.goto 125, 3) := by decide +kernel
theorem dX12_make_463 : decode cX12_make 463 = .ok (.aload_n 0, 1) := by decide +kernel
theorem dX12_make_464 : decode cX12_make 464 = .ok (.iload 5, 2) := by decide +kernel
theorem dX12_make_466 : decode cX12_make 466 = .ok (.iconst 1, 1) := by decide +kernel
theorem dX12_make_467 : decode cX12_make 467 = .ok (.isub, 1) := by decide +kernel
theorem dX12_make_468 : decode cX12_make 468 = .ok (.invokevirtual 191, 3) := by decide +kernel
theorem dX12_make_471 : decode cX12_make 471 = .ok (.aload_n 0, 1) := by decide +kernel
theorem dX12_make_472 : decode cX12_make 472 = .ok (.bipush 15, 2) := by decide +kernel
theorem dX12_make_474 : decode cX12_make 474 = .ok (.iload 6, 2) := by decide +kernel
theorem dX12_make_476 : decode cX12_make 476 = .ok (.iload 4, 2) := by decide +kernel
theorem dX12_make_478 : decode cX12_make 478 = .ok (.iload 6, 2) := by decide +kernel
theorem dX12_make_480 : decode cX12_make 480 = .ok (.invokevirtual 187, 3) := by decide +kernel
theorem dX12_make_483 : decode cX12_make 483 = .ok (.goto 102, 3) := by decide +kernel
theorem dX12_make_486 : decode cX12_make 486 = .ok (.aload_n 0, 1) := by decide +kernel
theorem dX12_make_487 : decode cX12_make 487 = .ok (.iload 5, 2) := by decide +kernel
theorem dX12_make_489 : decode cX12_make 489 = .ok (.iconst 2, 1) := by decide +kernel
theorem dX12_make_490 : decode cX12_make 490 = .ok (.isub, 1) := by decide +kernel
theorem dX12_make_491 : decode cX12_make 491 = .ok (.invokevirtual 191, 3) := by decide +kernel
theorem dX12_make_494 : decode cX12_make 494 = .ok (.aload_n 0, 1) := by decide +kernel
theorem dX12_make_495 : decode cX12_make 495 = .ok (.iload 5, 2) := by decide +kernel
theorem dX12_make_497 : decode cX12_make 497 = .ok (.iconst 1, 1) := by decide +kernel
theorem dX12_make_498 : decode cX12_make 498 = .ok (.isub, 1) := by decide +kernel
theorem dX12_make_499 : decode cX12_make 499 = .ok (.invokevirtual 191, 3) := by decide +kernel
theorem dX12_make_502 : decode cX12_make 502 = .ok (.aload_n 0, 1) := by decide +kernel
theorem dX12_make_503 : decode cX12_make 503 = .ok (.bipush 16, 2) := by decide +kernel
theorem dX12_make_505 : decode cX12_make 505 = .ok (.iload 4, 2) := by decide +kernel
theorem dX12_make_507 : decode cX12_make 507 = .ok (.iload 6, 2) := by decide +kernel
theorem dX12_make_509 : decode cX12_make 509 = .ok (.iconst 1, 1) := by decide +kernel
theorem dX12_make_510 : decode cX12_make 510 = .ok (.isub, 1) := by decide +kernel
theorem dX12_make_511 : decode cX12_make 511 = .ok (.iload 6, 2) := by decide +kernel
theorem dX12_make_513 : decode cX12_make 513 = .ok (.invokevirtual 187, 3) := by decide +kernel
theorem dX12_make_516 : decode cX12_make 516 = .ok (.goto 69, 3) := by decide +kernel
theorem dX12_make_519 : decode cX12_make 519 = .ok (.aload_n 0, 1) := by decide +kernel
theorem dX12_make_520 : decode cX12_make 520 = .ok (.getfield 105, 3) := by decide +kernel
theorem dX12_make_523 : decode cX12_make 523 = .ok (.iload 5, 2) := by decide +kernel
theorem dX12_make_525 : decode cX12_make 525 = .ok (.iconst 1, 1) := by decide +kernel
theorem dX12_make_526 : decode cX12_make 526 = .ok (.isub, 1) := by decide +kernel
theorem dX12_make_527 : decode cX12_make 527 = .ok (.baload, 1) := by decide +kernel
theorem dX12_make_528 : decode cX12_make 528 = .ok (.ifCond .eq 21, 3) := by decide +kernel
theorem dX12_make_531 : decode cX12_make 531 = .ok (.aload_n 0, 1) := by decide +kernel
theorem dX12_make_532 : decode cX12_make 532 = .ok (.iload 5, 2) := by decide +kernel
theorem dX12_make_534 : decode cX12_make 534 = .ok (.aload_n 0, 1) := by decide +kernel
theorem dX12_make_535 : decode cX12_make 535 = .ok (.getfield 108, 3) := by decide +kernel
theorem dX12_make_538 : decode cX12_make 538 = .ok (.iload 5, 2) := by decide +kernel
theorem dX12_make_540 : decode cX12_make 540 = .ok (.iconst 1, 1) := by decide +kernel
theorem dX12_make_541 : decode cX12_make 541 = .ok (.isub, 1) := by decide +kernel
theorem dX12_make_542 : decode cX12_make 542 = .ok (.iaload, 1) := by decide +kernel
theorem dX12_make_543 : decode cX12_make 543 = .ok (.invokevirtual 201, 3) := by decide +kernel
theorem dX12_make_546 : decode cX12_make 546 = .ok (.goto 39, 3) := by decide +kernel
theorem dX12_make_549 : decode cX12_make 549 = .ok (.aload_n 0, 1) := by decide +kernel
theorem dX12_make_550 : decode cX12_make 550 = .ok (.iconst 1, 1) := by decide +kernel
theorem dX12_make_551 : decode cX12_make 551 = .ok (.bipush 7, 2) := by decide +kernel
theorem dX12_make_553 : decode cX12_make 553 = .ok (.iload 5, 2) := by decide +kernel
theorem dX12_make_555 : decode cX12_make 555 = .ok (.iadd, 1) := by decide +kernel
theorem dX12_make_556 : decode cX12_make 556 = .ok (.iload 6, 2) := by decide +kernel
theorem dX12_make_558 : decode cX12_make 558 = .ok (.iconst 0, 1) := by decide +kernel
theorem dX12_make_559 : decode cX12_make 559 = .ok (.invokevirtual 187, 3) := by decide +kernel
theorem dX12_make_562 : decode cX12_make 562 = .ok (.goto 23, 3) := by decide +kernel
theorem dX12_make_565 : decode cX12_make 565 = .ok (.aload_n 0, 1) := by decide +kernel
theorem dX12_make_566 : decode cX12_make 566 = .ok (.getfield 105, 3) := by decide +kernel
theorem dX12_make_569 : decode cX12_make 569 = .ok (.iload 5, 2) := by decide +kernel
theorem dX12_make_571 : decode cX12_make 571 = .ok (.iconst 1, 1) := by decide +kernel
theorem dX12_make_572 : decode cX12_make 572 = .ok (.isub, 1) := by decide +kernel
theorem dX12_make_573 : decode cX12_make 573 = .ok (.iconst 0, 1) := by decide +kernel
theorem dX12_make_574 : decode cX12_make 574 = .ok (.bastore, 1) := by decide +kernel
theorem dX12_make_575 : decode cX12_make 575 = .ok (.goto 10, 3) := by decide +kernel
theorem dX12_make_578 : decode cX12_make 578 = .ok (.aload_n 0, 1) := by decide +kernel
theorem dX12_make_579 : decode cX12_make 579 = .ok (.iload_n 3, 1) := by decide +kernel
theorem dX12_make_580 : decode cX12_make 580 = .ok (.iload 5, 2) := by decide +kernel
theorem dX12_make_582 : decode cX12_make 582 = .ok (.invokevirtual 211, 3) := by decide +kernel
theorem dX12_make_585 : decode cX12_make 585 = .ok (.return_, 1) := by decide +kernel
theorem dX12_isTarget_0 : decode cX12_isTarget 0 = .ok (.aload_n 0, 1) := by decide +kernel
theorem dX12_isTarget_1 : decode cX12_isTarget 1 = .ok (.iload_n 1, 1) := by decide +kernel
theorem dX12_isTarget_2 : decode cX12_isTarget 2 = .ok (.bipush 9, 2) := by decide +kernel
theorem dX12_isTarget_4 : decode cX12_isTarget 4 = .ok (.iload_n 2, 1) := by decide +kernel
theorem dX12_isTarget_5 : decode cX12_isTarget 5 = .ok (.invokevirtual 178, 3) := by decide +kernel
theorem dX12_isTarget_8 : decode cX12_isTarget 8 = .ok (.ifCond .ne 14, 3) := by decide +kernel
theorem dX12_isTarget_11 : decode cX12_isTarget 11 = .ok (.aload_n 0, 1) := by decide +kernel
theorem dX12_isTarget_12 : decode cX12_isTarget 12 = .ok (.iload_n 1, 1) := by decide +kernel
theorem dX12_isTarget_13 : decode cX12_isTarget 13 = .ok (.bipush 10, 2) := by decide +kernel
theorem dX12_isTarget_15 : decode cX12_isTarget 15 = .ok (.iload_n 2, 1) := by decide +kernel
theorem dX12_isTarget_16 : decode cX12_isTarget 16 = .ok (.invokevirtual 178, 3) := by decide +kernel
theorem dX12_isTarget_19 : decode cX12_isTarget 19 = .ok (.ifCond .eq 7, 3) := by decide +kernel
theorem dX12_isTarget_22 : decode cX12_isTarget 22 = .ok (.iconst 1, 1) := by decide +kernel
theorem dX12_isTarget_23 : decode cX12_isTarget 23 = .ok (.goto 4, 3) := by decide +kernel
theorem dX12_isTarget_26 : decode cX12_isTarget 26 = .ok (.iconst 0, 1) := by decide +kernel
theorem dX12_isTarget_27 : decode cX12_isTarget 27 = .ok (.ireturn, 1) := by decide +kernel
theorem dX12_makeCode_0 : decode cX12_makeCode 0 = .ok (.aload_n 0, 1) := by decide +kernel
theorem dX12_makeCode_1 : decode cX12_makeCode 1 = .ok (.iload_n 1, 1) := by decide +kernel
theorem dX12_makeCode_2 : decode cX12_makeCode 2 = .ok (.invokevirtual 214, 3) := by decide +kernel
theorem dX12_makeCode_5 : decode cX12_makeCode 5 = .ok (.aload_n 0, 1) := by decide +kernel
theorem dX12_makeCode_6 : decode cX12_makeCode 6 = .ok (.getfield 56, 3) := by decide +kernel
theorem dX12_makeCode_9 : decode cX12_makeCode 9 = .ok (.iload_n 1, 1) := by decide +kernel
theorem dX12_makeCode_10 : decode cX12_makeCode 10 = .ok (.dup2, 1) := by decide +kernel
theorem dX12_makeCode_11 : decode cX12_makeCode 11 = .ok (.iaload, 1) := by decide +kernel
theorem dX12_makeCode_12 : decode cX12_makeCode 12 = .ok (.iconst 1, 1) := by decide +kernel
theorem dX12_makeCode_13 : decode cX12_makeCode 13 = .ok (.iadd, 1) := by decide +kernel
theorem dX12_makeCode_14 : decode cX12_makeCode 14 = .ok (.iastore, 1) := by decide +kernel
theorem dX12_makeCode_15 : decode cX12_makeCode 15 = .ok (.aload_n 0, 1) := by decide +kernel
theorem dX12_makeCode_16 : decode cX12_makeCode 16 = .ok (.getfield 50, 3) := by decide +kernel
theorem dX12_makeCode_19 : decode cX12_makeCode 19 = .ok (.iload_n 1, 1) := by decide +kernel
theorem dX12_makeCode_20 : decode cX12_makeCode 20 = .ok (.iconst 1, 1) := by decide +kernel
theorem dX12_makeCode_21 : decode cX12_makeCode 21 = .ok (.bastore, 1) := by decide +kernel
theorem dX12_makeCode_22 : decode cX12_makeCode 22 = .ok (.aload_n 0, 1) := by decide +kernel
theorem dX12_makeCode_23 : decode cX12_makeCode 23 = .ok (.aload_n 0, 1) := by decide +kernel
theorem dX12_makeCode_24 : decode cX12_makeCode 24 = .ok (.iload_n 1, 1) := by decide +kernel
theorem dX12_makeCode_25 : decode cX12_makeCode 25 = .ok (.invokevirtual 217, 3) := by decide +kernel
theorem dX12_makeCode_28 : decode cX12_makeCode 28 = .ok (.putfield 181, 3) := by decide +kernel
theorem dX12_makeCode_31 : decode cX12_makeCode 31 = .ok (.aload_n 0, 1) := by decide +kernel
theorem dX12_makeCode_32 : decode cX12_makeCode 32 = .ok (.getfield 74, 3) := by decide +kernel
theorem dX12_makeCode_35 : decode cX12_makeCode 35 = .ok (.aload_n 0, 1) := by decide +kernel
theorem dX12_makeCode_36 : decode cX12_makeCode 36 = .ok (.getfield 181, 3) := by decide +kernel
theorem dX12_makeCode_39 : decode cX12_makeCode 39 = .ok (.iconst 0, 1) := by decide +kernel
theorem dX12_makeCode_40 : decode cX12_makeCode 40 = .ok (.iastore, 1) := by decide +kernel
theorem dX12_makeCode_41 : decode cX12_makeCode 41 = .ok (.aload_n 0, 1) := by decide +kernel
theorem dX12_makeCode_42 : decode cX12_makeCode 42 = .ok (.iconst 0, 1) := by decide +kernel
theorem dX12_makeCode_43 : decode cX12_makeCode 43 = .ok (.putfield 184, 3) := by decide +kernel
theorem dX12_makeCode_46 : decode cX12_makeCode 46 = .ok (.iconst 0, 1) := by decide +kernel
theorem dX12_makeCode_47 : decode cX12_makeCode 47 = .ok (.istore_n 2, 1) := by decide +kernel
theorem dX12_makeCode_48 : decode cX12_makeCode 48 = .ok (.iload_n 2, 1) := by decide +kernel
theorem dX12_makeCode_49 : decode cX12_makeCode 49 = .ok (.iconst 3, 1) := by decide +kernel
theorem dX12_makeCode_50 : decode cX12_makeCode 50 = .ok (.if_icmp .ge 37, 3) := by decide +kernel
theorem dX12_makeCode_53 : decode cX12_makeCode 53 = .ok (.aload_n 0, 1) := by decide +kernel
theorem dX12_makeCode_54 : decode cX12_makeCode 54 = .ok (.getfield 96, 3) := by decide +kernel
theorem dX12_makeCode_57 : decode cX12_makeCode 57 = .ok (.iload_n 2, 1) := by decide +kernel
theorem dX12_makeCode_58 : decode cX12_makeCode 58 = .ok (.baload, 1) := by decide +kernel
theorem dX12_makeCode_59 : decode cX12_makeCode 59 = .ok (.ifCond .eq 22, 3) := by decide +kernel
theorem dX12_makeCode_62 : decode cX12_makeCode 62 = .ok (.aload_n 0, 1) := by decide +kernel
theorem dX12_makeCode_63 : decode cX12_makeCode 63 = .ok (.bipush 17, 2) := by decide +kernel
theorem dX12_makeCode_65 : decode cX12_makeCode 65 = .ok (.iload_n 2, 1) := by decide +kernel
theorem dX12_makeCode_66 : decode cX12_makeCode 66 = .ok (.aload_n 0, 1) := by decide +kernel
theorem dX12_makeCode_67 : decode cX12_makeCode 67 = .ok (.getfield 65, 3) := by decide +kernel
theorem dX12_makeCode_70 : decode cX12_makeCode 70 = .ok (.bipush 11, 2) := by decide +kernel
theorem dX12_makeCode_72 : decode cX12_makeCode 72 = .ok (.iload_n 1, 1) := by decide +kernel
theorem dX12_makeCode_73 : decode cX12_makeCode 73 = .ok (.imul, 1) := by decide +kernel
theorem dX12_makeCode_74 : decode cX12_makeCode 74 = .ok (.iload_n 2, 1) := by decide +kernel
theorem dX12_makeCode_75 : decode cX12_makeCode 75 = .ok (.iadd, 1) := by decide +kernel
theorem dX12_makeCode_76 : decode cX12_makeCode 76 = .ok (.iaload, 1) := by decide +kernel
theorem dX12_makeCode_77 : decode cX12_makeCode 77 = .ok (.iconst 0, 1) := by decide +kernel
theorem dX12_makeCode_78 : decode cX12_makeCode 78 = .ok (.invokevirtual 187, 3) := by decide +kernel
theorem dX12_makeCode_81 : decode cX12_makeCode 81 = .ok (.iinc 2 1, 3) := by decide +kernel
theorem dX12_makeCode_84 : decode cX12_makeCode 84 = .ok (.goto (-36), 3) := by decide +kernel
theorem dX12_makeCode_87 : decode cX12_makeCode 87 = .ok (.aload_n 0, 1) := by decide +kernel
theorem dX12_makeCode_88 : decode cX12_makeCode 88 = .ok (.iload_n 1, 1) := by decide +kernel
theorem dX12_makeCode_89 : decode cX12_makeCode 89 = .ok (.invokevirtual 208, 3) := by decide +kernel
theorem dX12_makeCode_92 : decode cX12_makeCode 92 = .ok (.aload_n 0, 1) := by decide +kernel
theorem dX12_makeCode_93 : decode cX12_makeCode 93 = .ok (.iload_n 1, 1) := by decide +kernel
theorem dX12_makeCode_94 : decode cX12_makeCode 94 = .ok (.invokevirtual 220, 3) := by decide +kernel
theorem dX12_makeCode_97 : decode cX12_makeCode 97 = .ok (.iconst 0, 1) := by decide +kernel
theorem dX12_makeCode_98 : decode cX12_makeCode 98 = .ok (.istore_n 2, 1) := by decide +kernel
theorem dX12_makeCode_99 : decode cX12_makeCode 99 = .ok (.iload_n 2, 1) := by decide +kernel
theorem dX12_makeCode_100 : decode cX12_makeCode 100 = .ok (.aload_n 0, 1) := by decide +kernel
theorem dX12_makeCode_101 : decode cX12_makeCode 101 = .ok (.getfield 16, 3) := by decide +kernel
theorem dX12_makeCode_104 : decode cX12_makeCode 104 = .ok (.iload_n 1, 1) := by decide +kernel
theorem dX12_makeCode_105 : decode cX12_makeCode 105 = .ok (.iaload, 1) := by decide +kernel
theorem dX12_makeCode_106 : decode cX12_makeCode 106 = .ok (.if_icmp .ge 160, 3) := by decide +kernel
theorem dX12_makeCode_109 : decode cX12_makeCode 109 = .ok (.aload_n 0, 1) := by decide +kernel
theorem dX12_makeCode_110 : decode cX12_makeCode 110 = .ok (.getfield 29, 3) := by decide +kernel
theorem dX12_makeCode_113 : decode cX12_makeCode 113 = .ok (.bipush 60, 2) := by decide +kernel
theorem dX12_makeCode_115 : decode cX12_makeCode 115 = .ok (.iload_n 1, 1) := by decide +kernel
theorem dX12_makeCode_116 : decode cX12_makeCode 116 = .ok (.imul, 1) := by decide +kernel
theorem dX12_makeCode_117 : decode cX12_makeCode 117 = .ok (.iload_n 2, 1) := by decide +kernel
theorem dX12_makeCode_118 : decode cX12_makeCode 118 = .ok (.iadd, 1) := by decide +kernel
theorem dX12_makeCode_119 : decode cX12_makeCode 119 = .ok (.iaload, 1) := by decide +kernel
theorem dX12_makeCode_120 : decode cX12_makeCode 120 = .ok (.ifCond .lt 140, 3) := by decide +kernel
theorem dX12_makeCode_123 : decode cX12_makeCode 123 = .ok (.aload_n 0, 1) := by decide +kernel
theorem dX12_makeCode_124 : decode cX12_makeCode 124 = .ok (.iload_n 1, 1) := by decide +kernel
theorem dX12_makeCode_125 : decode cX12_makeCode 125 = .ok (.iload_n 2, 1) := by decide +kernel
theorem dX12_makeCode_126 : decode cX12_makeCode 126 = .ok (.invokevirtual 223, 3) := by decide +kernel
theorem dX12_makeCode_129 : decode cX12_makeCode 129 = .ok (.ifCond .eq 89, 3) := by decide +kernel
theorem dX12_makeCode_132 : decode cX12_makeCode 132 = .ok (.iload_n 2, 1) := by decide +kernel
theorem dX12_makeCode_133 : decode cX12_makeCode 133 = .ok (.ifCond .le 59, 3) := by decide +kernel
theorem dX12_makeCode_136 : decode cX12_makeCode 136 = .ok (.aload_n 0, 1) := by decide +kernel
theorem dX12_makeCode_137 : decode cX12_makeCode 137 = .ok (.getfield 29, 3) := by decide +kernel
theorem dX12_makeCode_140 : decode cX12_makeCode 140 = .ok (.bipush 60, 2) := by decide +kernel
theorem dX12_makeCode_142 : decode cX12_makeCode 142 = .ok (.iload_n 1, 1) := by decide +kernel
theorem dX12_makeCode_143 : decode cX12_makeCode 143 = .ok (.imul, 1) := by decide +kernel
theorem dX12_makeCode_144 : decode cX12_makeCode 144 = .ok (.iload_n 2, 1) := by decide +kernel
theorem dX12_makeCode_145 : decode cX12_makeCode 145 = .ok (.iadd, 1) := by decide +kernel
theorem dX12_makeCode_146 : decode cX12_makeCode 146 = .ok (.iconst 1, 1) := by decide +kernel
theorem dX12_makeCode_147 : decode cX12_makeCode 147 = .ok (.isub, 1) := by decide +kernel
theorem dX12_makeCode_148 : decode cX12_makeCode 148 = .ok (.iaload, 1) := by decide +kernel
theorem dX12_makeCode_149 : decode cX12_makeCode 149 = .ok (.ifCond .lt 43, 3) := by decide +kernel
theorem dX12_makeCode_152 : decode cX12_makeCode 152 = .ok (.aload_n 0, 1) := by decide +kernel
theorem dX12_makeCode_153 : decode cX12_makeCode 153 = .ok (.getfield 19, 3) := by decide +kernel
theorem dX12_makeCode_156 : decode cX12_makeCode 156 = .ok (.bipush 60, 2) := by decide +kernel
theorem dX12_makeCode_158 : decode cX12_makeCode 158 = .ok (.iload_n 1, 1) := by decide +kernel
theorem dX12_makeCode_159 : decode cX12_makeCode 159 = .ok (.imul, 1) := by decide +kernel
theorem dX12_makeCode_160 : decode cX12_makeCode 160 = .ok (.iload_n 2, 1) := by decide +kernel
theorem dX12_makeCode_161 : decode cX12_makeCode 161 = .ok (.iadd, 1) := by decide +kernel
theorem dX12_makeCode_162 : decode cX12_makeCode 162 = .ok (.iconst 1, 1) := by decide +kernel
theorem dX12_makeCode_163 : decode cX12_makeCode 163 = .ok (.isub, 1) := by decide +kernel
theorem dX12_makeCode_164 : decode cX12_makeCode 164 = .ok (.iaload, 1) := by decide +kernel
theorem dX12_makeCode_165 : decode cX12_makeCode 165 = .ok (.bipush 9, 2) := by decide +kernel
theorem dX12_makeCode_167 : decode cX12_makeCode 167 = .ok (.if_icmp .eq 25, 3) := by decide +kernel
theorem dX12_makeCode_170 : decode cX12_makeCode 170 = .ok (.aload_n 0, 1) := by decide +kernel
theorem dX12_makeCode_171 : decode cX12_makeCode 171 = .ok (.getfield 19, 3) := by decide +kernel
theorem dX12_makeCode_174 : decode cX12_makeCode 174 = .ok (.bipush 60, 2) := by decide +kernel
theorem dX12_makeCode_176 : decode cX12_makeCode 176 = .ok (.iload_n 1, 1) := by decide +kernel
theorem dX12_makeCode_177 : decode cX12_makeCode 177 = .ok (.imul, 1) := by decide +kernel
theorem dX12_makeCode_178 : decode cX12_makeCode 178 = .ok (.iload_n 2, 1) := by decide +kernel
theorem dX12_makeCode_179 : decode cX12_makeCode 179 = .ok (.iadd, 1) := by decide +kernel
theorem dX12_makeCode_180 : decode cX12_makeCode 180 = .ok (.iconst 1, 1) := by decide +kernel
theorem dX12_makeCode_181 : decode cX12_makeCode 181 = .ok (.isub, 1) := by decide +kernel
theorem dX12_makeCode_182 : decode cX12_makeCode 182 = .ok (.iaload, 1) := by decide +kernel
theorem dX12_makeCode_183 : decode cX12_makeCode 183 = .ok (.bipush 12, 2) := by decide +kernel
theorem dX12_makeCode_185 : decode cX12_makeCode 185 = .ok (.if_icmp .eq 7, 3) := by decide +kernel
theorem dX12_makeCode_188 : decode cX12_makeCode 188 = .ok (.iconst 1, 1) := by decide +kernel
theorem dX12_makeCode_189 : decode cX12_makeCode 189 = .ok (.goto 4, 3) := by decide +kernel
theorem dX12_makeCode_192 : decode cX12_makeCode 192 = .ok (.iconst 0, 1) := by decide +kernel
theorem dX12_makeCode_193 : decode cX12_makeCode 193 = .ok (.istore_n 3, 1) := by decide +kernel
theorem dX12_makeCode_194 : decode cX12_makeCode 194 = .ok (.iload_n 3, 1) := by decide +kernel
theorem dX12_makeCode_195 : decode cX12_makeCode 195 = .ok (.ifCond .eq 18, 3) := by decide +kernel
theorem dX12_makeCode_198 : decode cX12_makeCode 198 = .ok (.aload_n 0, 1) := by decide +kernel
theorem dX12_makeCode_199 : decode cX12_makeCode 199 = .ok (.aload_n 0, 1) := by decide +kernel
theorem dX12_makeCode_200 : decode cX12_makeCode 200 = .ok (.getfield 29, 3) := by decide +kernel
theorem dX12_makeCode_203 : decode cX12_makeCode 203 = .ok (.bipush 60, 2) := by decide +kernel
theorem dX12_makeCode_205 : decode cX12_makeCode 205 = .ok (.iload_n 1, 1) := by decide +kernel
theorem dX12_makeCode_206 : decode cX12_makeCode 206 = .ok (.imul, 1) := by decide +kernel
theorem dX12_makeCode_207 : decode cX12_makeCode 207 = .ok (.iload_n 2, 1) := by decide +kernel
theorem dX12_makeCode_208 : decode cX12_makeCode 208 = .ok (.iadd, 1) := by decide +kernel
theorem dX12_makeCode_209 : decode cX12_makeCode 209 = .ok (.iaload, 1) := by decide +kernel
theorem dX12_makeCode_210 : decode cX12_makeCode 210 = .ok (.invokevirtual 198, 3) := by decide +kernel
theorem dX12_makeCode_213 : decode cX12_makeCode 213 = .ok (.aload_n 0, 1) := by decide +kernel
theorem dX12_makeCode_214 : decode cX12_makeCode 214 = .ok (.iload_n 1, 1) := by decide +kernel
theorem dX12_makeCode_215 : decode cX12_makeCode 215 = .ok (.invokevirtual 220, 3) := by decide +kernel
theorem dX12_makeCode_218 : decode cX12_makeCode 218 = .ok (.aload_n 0, 1) := by decide +kernel
theorem dX12_makeCode_219 : decode cX12_makeCode 219 = .ok (.getfield 77, 3) := by decide +kernel
theorem dX12_makeCode_222 : decode cX12_makeCode 222 = .ok (.bipush 60, 2) := by decide +kernel
theorem dX12_makeCode_224 : decode cX12_makeCode 224 = .ok (.aload_n 0, 1) := by decide +kernel
theorem dX12_makeCode_225 : decode cX12_makeCode 225 = .ok (.getfield 181, 3) := by decide +kernel
theorem dX12_makeCode_228 : decode cX12_makeCode 228 = .ok (.imul, 1) := by decide +kernel
theorem dX12_makeCode_229 : decode cX12_makeCode 229 = .ok (.iload_n 2, 1) := by decide +kernel
theorem dX12_makeCode_230 : decode cX12_makeCode 230 = .ok (.iadd, 1) := by decide +kernel
theorem dX12_makeCode_231 : decode cX12_makeCode 231 = .ok (.iload_n 2, 1) := by decide +kernel
theorem dX12_makeCode_232 : decode cX12_makeCode 232 = .ok (.ifCond .ne 7, 3) := by decide +kernel
theorem dX12_makeCode_235 : decode cX12_makeCode 235 = .ok (.iconst 0, 1) := by decide +kernel
theorem dX12_makeCode_236 : decode cX12_makeCode 236 = .ok (.goto 12, 3) := by decide +kernel
theorem dX12_makeCode_239 : decode cX12_makeCode 239 = .ok (.aload_n 0, 1) := by decide +kernel
theorem dX12_makeCode_240 : decode cX12_makeCode 240 = .ok (.getfield 74, 3) := by decide +kernel
theorem dX12_makeCode_243 : decode cX12_makeCode 243 = .ok (.aload_n 0, 1) := by decide +kernel
theorem dX12_makeCode_244 : decode cX12_makeCode 244 = .ok (.getfield 181, 3) := by decide +kernel
theorem dX12_makeCode_247 : decode cX12_makeCode 247 = .ok (.iaload, 1) := by decide +kernel
theorem dX12_makeCode_248 : decode cX12_makeCode 248 = .ok (.iastore, 1) := by decide +kernel
theorem dX12_makeCode_249 : decode cX12_makeCode 249 = .ok (.aload_n 0, 1) := by decide +kernel
theorem dX12_makeCode_250 : decode cX12_makeCode 250 = .ok (.iload_n 2, 1) := by decide +kernel
theorem dX12_makeCode_251 : decode cX12_makeCode 251 = .ok (.putfield 184, 3) := by decide +kernel
theorem dX12_makeCode_254 : decode cX12_makeCode 254 = .ok (.aload_n 0, 1) := by decide +kernel
theorem dX12_makeCode_255 : decode cX12_makeCode 255 = .ok (.iload_n 1, 1) := by decide +kernel
theorem dX12_makeCode_256 : decode cX12_makeCode 256 = .ok (.iload_n 2, 1) := by decide +kernel
theorem dX12_makeCode_257 : decode cX12_makeCode 257 = .ok (.invokevirtual 227, 3) := by decide +kernel
theorem dX12_makeCode_260 : decode cX12_makeCode 260 = .ok (.iinc 2 1, 3) := by decide +kernel
theorem dX12_makeCode_263 : decode cX12_makeCode 263 = .ok (.goto (-164), 3) := by decide +kernel
theorem dX12_makeCode_266 : decode cX12_makeCode 266 = .ok (.return_, 1) := by decide +kernel
theorem dX12_stepOn_0 : decode cX12_stepOn 0 = .ok (.aload_n 0, 1) := by decide +kernel
theorem dX12_stepOn_1 : decode cX12_stepOn 1 = .ok (.getfield 230, 3) := by decide +kernel
theorem dX12_stepOn_4 : decode cX12_stepOn 4 = .ok (.sipush 1500, 3) := by decide +kernel
theorem dX12_stepOn_7 : decode cX12_stepOn 7 = .ok (.if_icmp .ne 10, 3) := by decide +kernel
theorem dX12_stepOn_10 : decode cX12_stepOn 10 = .ok (.aload_n 0, 1) := by decide +kernel
theorem dX12_stepOn_11 : decode cX12_stepOn 11 = .ok (.iconst 3, 1) := by decide +kernel
theorem dX12_stepOn_12 : decode cX12_stepOn 12 = .ok (.putfield 233, 3) := by decide +kernel
theorem dX12_stepOn_15 : decode cX12_stepOn 15 = .ok (.iconst 0, 1) := by decide +kernel
theorem dX12_stepOn_16 : decode cX12_stepOn 16 = .ok (.ireturn, 1) := by decide +kernel
theorem dX12_stepOn_17 : decode cX12_stepOn 17 = .ok (.aload_n 0, 1) := by decide +kernel
theorem dX12_stepOn_18 : decode cX12_stepOn 18 = .ok (.dup, 1) := by decide +kernel
theorem dX12_stepOn_19 : decode cX12_stepOn 19 = .ok (.getfield 230, 3) := by decide +kernel
theorem dX12_stepOn_22 : decode cX12_stepOn 22 = .ok (.iconst 1, 1) := by decide +kernel
theorem dX12_stepOn_23 : decode cX12_stepOn 23 = .ok (.iadd, 1) := by decide +kernel
theorem dX12_stepOn_24 : decode cX12_stepOn 24 = .ok (.putfield 230, 3) := by decide +kernel
theorem dX12_stepOn_27 : decode cX12_stepOn 27 = .ok (.iconst 1, 1) := by decide +kernel
theorem dX12_stepOn_28 : decode cX12_stepOn 28 = .ok (.ireturn, 1) := by decide +kernel
theorem dX12_traps_0 : decode cX12_traps 0 = .ok (.aload_n 0, 1) := by decide +kernel
theorem dX12_traps_1 : decode cX12_traps 1 = .ok (.iconst 1, 1) := by decide +kernel
theorem dX12_traps_2 : decode cX12_traps 2 = .ok (.putfield 233, 3) := by decide +kernel
theorem dX12_traps_5 : decode cX12_traps 5 = .ok (.aload_n 0, 1) := by decide +kernel
theorem dX12_traps_6 : decode cX12_traps 6 = .ok (.getfield 126, 3) := by decide +kernel
theorem dX12_traps_9 : decode cX12_traps 9 = .ok (.iconst 0, 1) := by decide +kernel
theorem dX12_traps_10 : decode cX12_traps 10 = .ok (.iload_n 1, 1) := by decide +kernel
theorem dX12_traps_11 : decode cX12_traps 11 = .ok (.iastore, 1) := by decide +kernel
theorem dX12_traps_12 : decode cX12_traps 12 = .ok (.aload_n 0, 1) := by decide +kernel
theorem dX12_traps_13 : decode cX12_traps 13 = .ok (.getfield 126, 3) := by decide +kernel
theorem dX12_traps_16 : decode cX12_traps 16 = .ok (.iconst 1, 1) := by decide +kernel
theorem dX12_traps_17 : decode cX12_traps 17 = .ok (.aload_n 0, 1) := by decide +kernel
theorem dX12_traps_18 : decode cX12_traps 18 = .ok (.getfield 111, 3) := by decide +kernel
theorem dX12_traps_21 : decode cX12_traps 21 = .ok (.aload_n 0, 1) := by decide +kernel
theorem dX12_traps_22 : decode cX12_traps 22 = .ok (.getfield 236, 3) := by decide +kernel
theorem dX12_traps_25 : decode cX12_traps 25 = .ok (.iconst 1, 1) := by decide +kernel
theorem dX12_traps_26 : decode cX12_traps 26 = .ok (.isub, 1) := by decide +kernel
theorem dX12_traps_27 : decode cX12_traps 27 = .ok (.iaload, 1) := by decide +kernel
theorem dX12_traps_28 : decode cX12_traps 28 = .ok (.iastore, 1) := by decide +kernel
theorem dX12_traps_29 : decode cX12_traps 29 = .ok (.aload_n 0, 1) := by decide +kernel
theorem dX12_traps_30 : decode cX12_traps 30 = .ok (.getfield 126, 3) := by decide +kernel
theorem dX12_traps_33 : decode cX12_traps 33 = .ok (.iconst 2, 1) := by decide +kernel
theorem dX12_traps_34 : decode cX12_traps 34 = .ok (.iload_n 2, 1) := by decide +kernel
theorem dX12_traps_35 : decode cX12_traps 35 = .ok (.iastore, 1) := by decide +kernel
theorem dX12_traps_36 : decode cX12_traps 36 = .ok (.aload_n 0, 1) := by decide +kernel
theorem dX12_traps_37 : decode cX12_traps 37 = .ok (.getfield 126, 3) := by decide +kernel
theorem dX12_traps_40 : decode cX12_traps 40 = .ok (.iconst 3, 1) := by decide +kernel
theorem dX12_traps_41 : decode cX12_traps 41 = .ok (.aload_n 0, 1) := by decide +kernel
theorem dX12_traps_42 : decode cX12_traps 42 = .ok (.getfield 236, 3) := by decide +kernel
theorem dX12_traps_45 : decode cX12_traps 45 = .ok (.iastore, 1) := by decide +kernel
theorem dX12_traps_46 : decode cX12_traps 46 = .ok (.return_, 1) := by decide +kernel
theorem dX12_call_0 : decode cX12_call 0 = .ok (.aload_n 0, 1) := by decide +kernel
theorem dX12_call_1 : decode cX12_call 1 = .ok (.getfield 236, 3) := by decide +kernel
theorem dX12_call_4 : decode cX12_call 4 = .ok (.bipush 16, 2) := by decide +kernel
theorem dX12_call_6 : decode cX12_call 6 = .ok (.if_icmp .ne 12, 3) := by decide +kernel
theorem dX12_call_9 : decode cX12_call 9 = .ok (.aload_n 0, 1) := by decide +kernel
theorem dX12_call_10 : decode cX12_call 10 = .ok (.bipush 6, 2) := by decide +kernel
theorem dX12_call_12 : decode cX12_call 12 = .ok (.iload 4, 2) := by decide +kernel
theorem dX12_call_14 : decode cX12_call 14 = .ok (.invokevirtual 239, 3) := by decide +kernel
theorem dX12_call_17 : decode cX12_call 17 = .ok (.return_, 1) := by decide +kernel
theorem dX12_call_18 : decode cX12_call 18 = .ok (.aload_n 0, 1) := by decide +kernel
theorem dX12_call_19 : decode cX12_call 19 = .ok (.invokevirtual 242, 3) := by decide +kernel
theorem dX12_call_22 : decode cX12_call 22 = .ok (.ifCond .ne 4, 3) := by decide +kernel
theorem dX12_call_25 : decode cX12_call 25 = .ok (.return_, 1) := by decide +kernel
theorem dX12_call_26 : decode cX12_call 26 = .ok (.aload_n 0, 1) := by decide +kernel
theorem dX12_call_27 : decode cX12_call 27 = .ok (.dup, 1) := by decide +kernel
theorem dX12_call_28 : decode cX12_call 28 = .ok (.getfield 246, 3) := by decide +kernel
theorem dX12_call_31 : decode cX12_call 31 = .ok (.iconst 1, 1) := by decide +kernel
theorem dX12_call_32 : decode cX12_call 32 = .ok (.iadd, 1) := by decide +kernel
theorem dX12_call_33 : decode cX12_call 33 = .ok (.putfield 246, 3) := by decide +kernel
theorem dX12_call_36 : decode cX12_call 36 = .ok (.aload_n 0, 1) := by decide +kernel
theorem dX12_call_37 : decode cX12_call 37 = .ok (.getfield 50, 3) := by decide +kernel
theorem dX12_call_40 : decode cX12_call 40 = .ok (.iload_n 1, 1) := by decide +kernel
theorem dX12_call_41 : decode cX12_call 41 = .ok (.baload, 1) := by decide +kernel
theorem dX12_call_42 : decode cX12_call 42 = .ok (.ifCond .ne 18, 3) := by decide +kernel
theorem dX12_call_45 : decode cX12_call 45 = .ok (.aload_n 0, 1) := by decide +kernel
theorem dX12_call_46 : decode cX12_call 46 = .ok (.getfield 53, 3) := by decide +kernel
theorem dX12_call_49 : decode cX12_call 49 = .ok (.iload_n 1, 1) := by decide +kernel
theorem dX12_call_50 : decode cX12_call 50 = .ok (.iaload, 1) := by decide +kernel
theorem dX12_call_51 : decode cX12_call 51 = .ok (.iconst 3, 1) := by decide +kernel
theorem dX12_call_52 : decode cX12_call 52 = .ok (.if_icmp .ne 8, 3) := by decide +kernel
theorem dX12_call_55 : decode cX12_call 55 = .ok (.aload_n 0, 1) := by decide +kernel
theorem dX12_call_56 : decode cX12_call 56 = .ok (.iload_n 1, 1) := by decide +kernel
theorem dX12_call_57 : decode cX12_call 57 = .ok (.invokevirtual 249, 3) := by decide +kernel
theorem dX12_call_60 : decode cX12_call 60 = .ok (.aload_n 0, 1) := by decide +kernel
theorem dX12_call_61 : decode cX12_call 61 = .ok (.getfield 236, 3) := by decide +kernel
theorem dX12_call_64 : decode cX12_call 64 = .ok (.istore 5, 2) := by decide +kernel
theorem dX12_call_66 : decode cX12_call 66 = .ok (.aload_n 0, 1) := by decide +kernel
theorem dX12_call_67 : decode cX12_call 67 = .ok (.getfield 111, 3) := by decide +kernel
theorem dX12_call_70 : decode cX12_call 70 = .ok (.iload 5, 2) := by decide +kernel
theorem dX12_call_72 : decode cX12_call 72 = .ok (.iload_n 1, 1) := by decide +kernel
theorem dX12_call_73 : decode cX12_call 73 = .ok (.iastore, 1) := by decide +kernel
theorem dX12_call_74 : decode cX12_call 74 = .ok (.aload_n 0, 1) := by decide +kernel
theorem dX12_call_75 : decode cX12_call 75 = .ok (.getfield 114, 3) := by decide +kernel
theorem dX12_call_78 : decode cX12_call 78 = .ok (.iload 5, 2) := by decide +kernel
theorem dX12_call_80 : decode cX12_call 80 = .ok (.iconst 0, 1) := by decide +kernel
theorem dX12_call_81 : decode cX12_call 81 = .ok (.iastore, 1) := by decide +kernel
theorem dX12_call_82 : decode cX12_call 82 = .ok (.aload_n 0, 1) := by decide +kernel
theorem dX12_call_83 : decode cX12_call 83 = .ok (.getfield 120, 3) := by decide +kernel
theorem dX12_call_86 : decode cX12_call 86 = .ok (.iload 5, 2) := by decide +kernel
theorem dX12_call_88 : decode cX12_call 88 = .ok (.iconst 0, 1) := by decide +kernel
theorem dX12_call_89 : decode cX12_call 89 = .ok (.iastore, 1) := by decide +kernel
theorem dX12_call_90 : decode cX12_call 90 = .ok (.iconst 0, 1) := by decide +kernel
theorem dX12_call_91 : decode cX12_call 91 = .ok (.istore 6, 2) := by decide +kernel
theorem dX12_call_93 : decode cX12_call 93 = .ok (.iload 6, 2) := by decide +kernel
theorem dX12_call_95 : decode cX12_call 95 = .ok (.bipush 15, 2) := by decide +kernel
theorem dX12_call_97 : decode cX12_call 97 = .ok (.if_icmp .ge 43, 3) := by decide +kernel
theorem dX12_call_100 : decode cX12_call 100 = .ok (.aload_n 0, 1) := by decide +kernel
theorem dX12_call_101 : decode cX12_call 101 = .ok (.getfield 123, 3) := by decide +kernel
theorem dX12_call_104 : decode cX12_call 104 = .ok (.bipush 15, 2) := by decide +kernel
theorem dX12_call_106 : decode cX12_call 106 = .ok (.iload 5, 2) := by decide +kernel
theorem dX12_call_108 : decode cX12_call 108 = .ok (.imul, 1) := by decide +kernel
theorem dX12_call_109 : decode cX12_call 109 = .ok (.iload 6, 2) := by decide +kernel
theorem dX12_call_111 : decode cX12_call 111 = .ok (.iadd, 1) := by decide +kernel
theorem dX12_call_112 : decode cX12_call 112 = .ok (.iload 6, 2) := by decide +kernel
theorem dX12_call_114 : decode cX12_call 114 = .ok (.aload_n 0, 1) := by decide +kernel
theorem dX12_call_115 : decode cX12_call 115 = .ok (.getfield 7, 3) := by decide +kernel
theorem dX12_call_118 : decode cX12_call 118 = .ok (.iload_n 1, 1) := by decide +kernel
theorem dX12_call_119 : decode cX12_call 119 = .ok (.iaload, 1) := by decide +kernel
theorem dX12_call_120 : decode cX12_call 120 = .ok (.if_icmp .ge 12, 3) := by decide +kernel
theorem dX12_call_123 : decode cX12_call 123 = .ok (.aload_n 2, 1) := by decide +kernel
theorem dX12_call_124 : decode cX12_call 124 = .ok (.iload_n 3, 1) := by decide +kernel
theorem dX12_call_125 : decode cX12_call 125 = .ok (.iload 6, 2) := by decide +kernel
theorem dX12_call_127 : decode cX12_call 127 = .ok (.iadd, 1) := by decide +kernel
theorem dX12_call_128 : decode cX12_call 128 = .ok (.iaload, 1) := by decide +kernel
theorem dX12_call_129 : decode cX12_call 129 = .ok (.goto 4, 3) := by decide +kernel
theorem dX12_call_132 : decode cX12_call 132 = .ok (.iconst 0, 1) := by decide +kernel
theorem dX12_call_133 : decode cX12_call 133 = .ok (.iastore, 1) := by decide +kernel
theorem dX12_call_134 : decode cX12_call 134 = .ok (.iinc 6 1, 3) := by decide +kernel
theorem dX12_call_137 : decode cX12_call 137 = .ok (.goto (-44), 3) := by decide +kernel
theorem dX12_call_140 : decode cX12_call 140 = .ok (.aload_n 0, 1) := by decide +kernel
theorem dX12_call_141 : decode cX12_call 141 = .ok (.getfield 50, 3) := by decide +kernel
theorem dX12_call_144 : decode cX12_call 144 = .ok (.iload_n 1, 1) := by decide +kernel
theorem dX12_call_145 : decode cX12_call 145 = .ok (.baload, 1) := by decide +kernel
theorem dX12_call_146 : decode cX12_call 146 = .ok (.ifCond .eq 38, 3) := by decide +kernel
theorem dX12_call_149 : decode cX12_call 149 = .ok (.aload_n 0, 1) := by decide +kernel
theorem dX12_call_150 : decode cX12_call 150 = .ok (.getfield 117, 3) := by decide +kernel
theorem dX12_call_153 : decode cX12_call 153 = .ok (.iload 5, 2) := by decide +kernel
theorem dX12_call_155 : decode cX12_call 155 = .ok (.aload_n 0, 1) := by decide +kernel
theorem dX12_call_156 : decode cX12_call 156 = .ok (.iload_n 1, 1) := by decide +kernel
theorem dX12_call_157 : decode cX12_call 157 = .ok (.invokevirtual 217, 3) := by decide +kernel
theorem dX12_call_160 : decode cX12_call 160 = .ok (.iastore, 1) := by decide +kernel
theorem dX12_call_161 : decode cX12_call 161 = .ok (.aload_n 0, 1) := by decide +kernel
theorem dX12_call_162 : decode cX12_call 162 = .ok (.getfield 62, 3) := by decide +kernel
theorem dX12_call_165 : decode cX12_call 165 = .ok (.iload_n 1, 1) := by decide +kernel
theorem dX12_call_166 : decode cX12_call 166 = .ok (.dup2, 1) := by decide +kernel
theorem dX12_call_167 : decode cX12_call 167 = .ok (.iaload, 1) := by decide +kernel
theorem dX12_call_168 : decode cX12_call 168 = .ok (.iconst 1, 1) := by decide +kernel
theorem dX12_call_169 : decode cX12_call 169 = .ok (.iadd, 1) := by decide +kernel
theorem dX12_call_170 : decode cX12_call 170 = .ok (.iastore, 1) := by decide +kernel
theorem dX12_call_171 : decode cX12_call 171 = .ok (.aload_n 0, 1) := by decide +kernel
theorem dX12_call_172 : decode cX12_call 172 = .ok (.dup, 1) := by decide +kernel
theorem dX12_call_173 : decode cX12_call 173 = .ok (.getfield 252, 3) := by decide +kernel
theorem dX12_call_176 : decode cX12_call 176 = .ok (.iconst 1, 1) := by decide +kernel
theorem dX12_call_177 : decode cX12_call 177 = .ok (.iadd, 1) := by decide +kernel
theorem dX12_call_178 : decode cX12_call 178 = .ok (.putfield 252, 3) := by decide +kernel
theorem dX12_call_181 : decode cX12_call 181 = .ok (.goto 18, 3) := by decide +kernel
theorem dX12_call_184 : decode cX12_call 184 = .ok (.aload_n 0, 1) := by decide +kernel
theorem dX12_call_185 : decode cX12_call 185 = .ok (.getfield 117, 3) := by decide +kernel
theorem dX12_call_188 : decode cX12_call 188 = .ok (.iload 5, 2) := by decide +kernel
theorem dX12_call_190 : decode cX12_call 190 = .ok (.iconst (-1), 1) := by decide +kernel
theorem dX12_call_191 : decode cX12_call 191 = .ok (.iastore, 1) := by decide +kernel
theorem dX12_call_192 : decode cX12_call 192 = .ok (.aload_n 0, 1) := by decide +kernel
theorem dX12_call_193 : decode cX12_call 193 = .ok (.iload_n 1, 1) := by decide +kernel
theorem dX12_call_194 : decode cX12_call 194 = .ok (.aload_n 2, 1) := by decide +kernel
theorem dX12_call_195 : decode cX12_call 195 = .ok (.iload_n 3, 1) := by decide +kernel
theorem dX12_call_196 : decode cX12_call 196 = .ok (.invokevirtual 255, 3) := by decide +kernel
theorem dX12_call_199 : decode cX12_call 199 = .ok (.aload_n 0, 1) := by decide +kernel
theorem dX12_call_200 : decode cX12_call 200 = .ok (.dup, 1) := by decide +kernel
theorem dX12_call_201 : decode cX12_call 201 = .ok (.getfield 236, 3) := by decide +kernel
theorem dX12_call_204 : decode cX12_call 204 = .ok (.iconst 1, 1) := by decide +kernel
theorem dX12_call_205 : decode cX12_call 205 = .ok (.iadd, 1) := by decide +kernel
theorem dX12_call_206 : decode cX12_call 206 = .ok (.putfield 236, 3) := by decide +kernel
theorem dX12_call_209 : decode cX12_call 209 = .ok (.return_, 1) := by decide +kernel
theorem dX12_returns_0 : decode cX12_returns 0 = .ok (.aload_n 0, 1) := by decide +kernel
theorem dX12_returns_1 : decode cX12_returns 1 = .ok (.dup, 1) := by decide +kernel
theorem dX12_returns_2 : decode cX12_returns 2 = .ok (.getfield 236, 3) := by decide +kernel
theorem dX12_returns_5 : decode cX12_returns 5 = .ok (.iconst 1, 1) := by decide +kernel
theorem dX12_returns_6 : decode cX12_returns 6 = .ok (.isub, 1) := by decide +kernel
theorem dX12_returns_7 : decode cX12_returns 7 = .ok (.putfield 236, 3) := by decide +kernel
theorem dX12_returns_10 : decode cX12_returns 10 = .ok (.aload_n 0, 1) := by decide +kernel
theorem dX12_returns_11 : decode cX12_returns 11 = .ok (.getfield 236, 3) := by decide +kernel
theorem dX12_returns_14 : decode cX12_returns 14 = .ok (.ifCond .ne 14, 3) := by decide +kernel
theorem dX12_returns_17 : decode cX12_returns 17 = .ok (.aload_n 0, 1) := by decide +kernel
theorem dX12_returns_18 : decode cX12_returns 18 = .ok (.iload_n 1, 1) := by decide +kernel
theorem dX12_returns_19 : decode cX12_returns 19 = .ok (.putfield 259, 3) := by decide +kernel
theorem dX12_returns_22 : decode cX12_returns 22 = .ok (.aload_n 0, 1) := by decide +kernel
theorem dX12_returns_23 : decode cX12_returns 23 = .ok (.iconst 2, 1) := by decide +kernel
theorem dX12_returns_24 : decode cX12_returns 24 = .ok (.putfield 233, 3) := by decide +kernel
theorem dX12_returns_27 : decode cX12_returns 27 = .ok (.return_, 1) := by decide +kernel
theorem dX12_returns_28 : decode cX12_returns 28 = .ok (.aload_n 0, 1) := by decide +kernel
theorem dX12_returns_29 : decode cX12_returns 29 = .ok (.getfield 236, 3) := by decide +kernel
theorem dX12_returns_32 : decode cX12_returns 32 = .ok (.iconst 1, 1) := by decide +kernel
theorem dX12_returns_33 : decode cX12_returns 33 = .ok (.isub, 1) := by decide +kernel
theorem dX12_returns_34 : decode cX12_returns 34 = .ok (.istore_n 2, 1) := by decide +kernel
theorem dX12_returns_35 : decode cX12_returns 35 = .ok (.aload_n 0, 1) := by decide +kernel
theorem dX12_returns_36 : decode cX12_returns 36 = .ok (.getfield 117, 3) := by decide +kernel
theorem dX12_returns_39 : decode cX12_returns 39 = .ok (.iload_n 2, 1) := by decide +kernel
theorem dX12_returns_40 : decode cX12_returns 40 = .ok (.iaload, 1) := by decide +kernel
theorem dX12_returns_41 : decode cX12_returns 41 = .ok (.ifCond .ge 86, 3) := by decide +kernel
theorem dX12_returns_44 : decode cX12_returns 44 = .ok (.aload_n 0, 1) := by decide +kernel
theorem dX12_returns_45 : decode cX12_returns 45 = .ok (.getfield 114, 3) := by decide +kernel
theorem dX12_returns_48 : decode cX12_returns 48 = .ok (.iload_n 2, 1) := by decide +kernel
theorem dX12_returns_49 : decode cX12_returns 49 = .ok (.iaload, 1) := by decide +kernel
theorem dX12_returns_50 : decode cX12_returns 50 = .ok (.istore_n 3, 1) := by decide +kernel
theorem dX12_returns_51 : decode cX12_returns 51 = .ok (.aload_n 0, 1) := by decide +kernel
theorem dX12_returns_52 : decode cX12_returns 52 = .ok (.getfield 22, 3) := by decide +kernel
theorem dX12_returns_55 : decode cX12_returns 55 = .ok (.bipush 60, 2) := by decide +kernel
theorem dX12_returns_57 : decode cX12_returns 57 = .ok (.aload_n 0, 1) := by decide +kernel
theorem dX12_returns_58 : decode cX12_returns 58 = .ok (.getfield 111, 3) := by decide +kernel
theorem dX12_returns_61 : decode cX12_returns 61 = .ok (.iload_n 2, 1) := by decide +kernel
theorem dX12_returns_62 : decode cX12_returns 62 = .ok (.iaload, 1) := by decide +kernel
theorem dX12_returns_63 : decode cX12_returns 63 = .ok (.imul, 1) := by decide +kernel
theorem dX12_returns_64 : decode cX12_returns 64 = .ok (.iload_n 3, 1) := by decide +kernel
theorem dX12_returns_65 : decode cX12_returns 65 = .ok (.iadd, 1) := by decide +kernel
theorem dX12_returns_66 : decode cX12_returns 66 = .ok (.iaload, 1) := by decide +kernel
theorem dX12_returns_67 : decode cX12_returns 67 = .ok (.istore 4, 2) := by decide +kernel
theorem dX12_returns_69 : decode cX12_returns 69 = .ok (.aload_n 0, 1) := by decide +kernel
theorem dX12_returns_70 : decode cX12_returns 70 = .ok (.getfield 120, 3) := by decide +kernel
theorem dX12_returns_73 : decode cX12_returns 73 = .ok (.iload_n 2, 1) := by decide +kernel
theorem dX12_returns_74 : decode cX12_returns 74 = .ok (.dup2, 1) := by decide +kernel
theorem dX12_returns_75 : decode cX12_returns 75 = .ok (.iaload, 1) := by decide +kernel
theorem dX12_returns_76 : decode cX12_returns 76 = .ok (.aload_n 0, 1) := by decide +kernel
theorem dX12_returns_77 : decode cX12_returns 77 = .ok (.getfield 7, 3) := by decide +kernel
theorem dX12_returns_80 : decode cX12_returns 80 = .ok (.iload 4, 2) := by decide +kernel
theorem dX12_returns_82 : decode cX12_returns 82 = .ok (.iaload, 1) := by decide +kernel
theorem dX12_returns_83 : decode cX12_returns 83 = .ok (.isub, 1) := by decide +kernel
theorem dX12_returns_84 : decode cX12_returns 84 = .ok (.iastore, 1) := by decide +kernel
theorem dX12_returns_85 : decode cX12_returns 85 = .ok (.aload_n 0, 1) := by decide +kernel
theorem dX12_returns_86 : decode cX12_returns 86 = .ok (.getfield 123, 3) := by decide +kernel
theorem dX12_returns_89 : decode cX12_returns 89 = .ok (.bipush 15, 2) := by decide +kernel
theorem dX12_returns_91 : decode cX12_returns 91 = .ok (.iload_n 2, 1) := by decide +kernel
theorem dX12_returns_92 : decode cX12_returns 92 = .ok (.imul, 1) := by decide +kernel
theorem dX12_returns_93 : decode cX12_returns 93 = .ok (.bipush 7, 2) := by decide +kernel
theorem dX12_returns_95 : decode cX12_returns 95 = .ok (.iadd, 1) := by decide +kernel
theorem dX12_returns_96 : decode cX12_returns 96 = .ok (.aload_n 0, 1) := by decide +kernel
theorem dX12_returns_97 : decode cX12_returns 97 = .ok (.getfield 120, 3) := by decide +kernel
theorem dX12_returns_100 : decode cX12_returns 100 = .ok (.iload_n 2, 1) := by decide +kernel
theorem dX12_returns_101 : decode cX12_returns 101 = .ok (.iaload, 1) := by decide +kernel
theorem dX12_returns_102 : decode cX12_returns 102 = .ok (.iadd, 1) := by decide +kernel
theorem dX12_returns_103 : decode cX12_returns 103 = .ok (.iload_n 1, 1) := by decide +kernel
theorem dX12_returns_104 : decode cX12_returns 104 = .ok (.iastore, 1) := by decide +kernel
theorem dX12_returns_105 : decode cX12_returns 105 = .ok (.aload_n 0, 1) := by decide +kernel
theorem dX12_returns_106 : decode cX12_returns 106 = .ok (.getfield 120, 3) := by decide +kernel
theorem dX12_returns_109 : decode cX12_returns 109 = .ok (.iload_n 2, 1) := by decide +kernel
theorem dX12_returns_110 : decode cX12_returns 110 = .ok (.dup2, 1) := by decide +kernel
theorem dX12_returns_111 : decode cX12_returns 111 = .ok (.iaload, 1) := by decide +kernel
theorem dX12_returns_112 : decode cX12_returns 112 = .ok (.iconst 1, 1) := by decide +kernel
theorem dX12_returns_113 : decode cX12_returns 113 = .ok (.iadd, 1) := by decide +kernel
theorem dX12_returns_114 : decode cX12_returns 114 = .ok (.iastore, 1) := by decide +kernel
theorem dX12_returns_115 : decode cX12_returns 115 = .ok (.aload_n 0, 1) := by decide +kernel
theorem dX12_returns_116 : decode cX12_returns 116 = .ok (.getfield 114, 3) := by decide +kernel
theorem dX12_returns_119 : decode cX12_returns 119 = .ok (.iload_n 2, 1) := by decide +kernel
theorem dX12_returns_120 : decode cX12_returns 120 = .ok (.iload_n 3, 1) := by decide +kernel
theorem dX12_returns_121 : decode cX12_returns 121 = .ok (.iconst 1, 1) := by decide +kernel
theorem dX12_returns_122 : decode cX12_returns 122 = .ok (.iadd, 1) := by decide +kernel
theorem dX12_returns_123 : decode cX12_returns 123 = .ok (.iastore, 1) := by decide +kernel
theorem dX12_returns_124 : decode cX12_returns 124 = .ok (.goto 48, 3) := by decide +kernel
theorem dX12_returns_127 : decode cX12_returns 127 = .ok (.sipush 640, 3) := by decide +kernel
theorem dX12_returns_130 : decode cX12_returns 130 = .ok (.aload_n 0, 1) := by decide +kernel
theorem dX12_returns_131 : decode cX12_returns 131 = .ok (.getfield 117, 3) := by decide +kernel
theorem dX12_returns_134 : decode cX12_returns 134 = .ok (.iload_n 2, 1) := by decide +kernel
theorem dX12_returns_135 : decode cX12_returns 135 = .ok (.iaload, 1) := by decide +kernel
theorem dX12_returns_136 : decode cX12_returns 136 = .ok (.imul, 1) := by decide +kernel
theorem dX12_returns_137 : decode cX12_returns 137 = .ok (.aload_n 0, 1) := by decide +kernel
theorem dX12_returns_138 : decode cX12_returns 138 = .ok (.getfield 114, 3) := by decide +kernel
theorem dX12_returns_141 : decode cX12_returns 141 = .ok (.iload_n 2, 1) := by decide +kernel
theorem dX12_returns_142 : decode cX12_returns 142 = .ok (.iaload, 1) := by decide +kernel
theorem dX12_returns_143 : decode cX12_returns 143 = .ok (.iadd, 1) := by decide +kernel
theorem dX12_returns_144 : decode cX12_returns 144 = .ok (.istore_n 3, 1) := by decide +kernel
theorem dX12_returns_145 : decode cX12_returns 145 = .ok (.aload_n 0, 1) := by decide +kernel
theorem dX12_returns_146 : decode cX12_returns 146 = .ok (.getfield 123, 3) := by decide +kernel
theorem dX12_returns_149 : decode cX12_returns 149 = .ok (.bipush 15, 2) := by decide +kernel
theorem dX12_returns_151 : decode cX12_returns 151 = .ok (.iload_n 2, 1) := by decide +kernel
theorem dX12_returns_152 : decode cX12_returns 152 = .ok (.imul, 1) := by decide +kernel
theorem dX12_returns_153 : decode cX12_returns 153 = .ok (.aload_n 0, 1) := by decide +kernel
theorem dX12_returns_154 : decode cX12_returns 154 = .ok (.getfield 84, 3) := by decide +kernel
theorem dX12_returns_157 : decode cX12_returns 157 = .ok (.iload_n 3, 1) := by decide +kernel
theorem dX12_returns_158 : decode cX12_returns 158 = .ok (.iaload, 1) := by decide +kernel
theorem dX12_returns_159 : decode cX12_returns 159 = .ok (.iadd, 1) := by decide +kernel
theorem dX12_returns_160 : decode cX12_returns 160 = .ok (.iload_n 1, 1) := by decide +kernel
theorem dX12_returns_161 : decode cX12_returns 161 = .ok (.iastore, 1) := by decide +kernel
theorem dX12_returns_162 : decode cX12_returns 162 = .ok (.aload_n 0, 1) := by decide +kernel
theorem dX12_returns_163 : decode cX12_returns 163 = .ok (.getfield 114, 3) := by decide +kernel
theorem dX12_returns_166 : decode cX12_returns 166 = .ok (.iload_n 2, 1) := by decide +kernel
theorem dX12_returns_167 : decode cX12_returns 167 = .ok (.dup2, 1) := by decide +kernel
theorem dX12_returns_168 : decode cX12_returns 168 = .ok (.iaload, 1) := by decide +kernel
theorem dX12_returns_169 : decode cX12_returns 169 = .ok (.iconst 1, 1) := by decide +kernel
theorem dX12_returns_170 : decode cX12_returns 170 = .ok (.iadd, 1) := by decide +kernel
theorem dX12_returns_171 : decode cX12_returns 171 = .ok (.iastore, 1) := by decide +kernel
theorem dX12_returns_172 : decode cX12_returns 172 = .ok (.return_, 1) := by decide +kernel
theorem dX12_refuses_0 : decode cX12_refuses 0 = .ok (.aload_n 0, 1) := by decide +kernel
theorem dX12_refuses_1 : decode cX12_refuses 1 = .ok (.getfield 44, 3) := by decide +kernel
theorem dX12_refuses_4 : decode cX12_refuses 4 = .ok (.iload_n 1, 1) := by decide +kernel
theorem dX12_refuses_5 : decode cX12_refuses 5 = .ok (.iaload, 1) := by decide +kernel
theorem dX12_refuses_6 : decode cX12_refuses 6 = .ok (.ifCond .ge 7, 3) := by decide +kernel
theorem dX12_refuses_9 : decode cX12_refuses 9 = .ok (.iconst 2, 1) := by decide +kernel
theorem dX12_refuses_10 : decode cX12_refuses 10 = .ok (.goto 26, 3) := by decide +kernel
theorem dX12_refuses_13 : decode cX12_refuses 13 = .ok (.iload_n 2, 1) := by decide +kernel
theorem dX12_refuses_14 : decode cX12_refuses 14 = .ok (.i2l, 1) := by decide +kernel
theorem dX12_refuses_15 : decode cX12_refuses 15 = .ok (.lconst 0, 1) := by decide +kernel
theorem dX12_refuses_16 : decode cX12_refuses 16 = .ok (.aload_n 0, 1) := by decide +kernel
theorem dX12_refuses_17 : decode cX12_refuses 17 = .ok (.getfield 44, 3) := by decide +kernel
theorem dX12_refuses_20 : decode cX12_refuses 20 = .ok (.iload_n 1, 1) := by decide +kernel
theorem dX12_refuses_21 : decode cX12_refuses 21 = .ok (.iaload, 1) := by decide +kernel
theorem dX12_refuses_22 : decode cX12_refuses 22 = .ok (.iconst 1, 1) := by decide +kernel
theorem dX12_refuses_23 : decode cX12_refuses 23 = .ok (.isub, 1) := by decide +kernel
theorem dX12_refuses_24 : decode cX12_refuses 24 = .ok (.i2l, 1) := by decide +kernel
theorem dX12_refuses_25 : decode cX12_refuses 25 = .ok (.invokestatic 134, 3) := by decide +kernel
theorem dX12_refuses_28 : decode cX12_refuses 28 = .ok (.ifCond .eq 7, 3) := by decide +kernel
theorem dX12_refuses_31 : decode cX12_refuses 31 = .ok (.iconst 0, 1) := by decide +kernel
theorem dX12_refuses_32 : decode cX12_refuses 32 = .ok (.goto 4, 3) := by decide +kernel
theorem dX12_refuses_35 : decode cX12_refuses 35 = .ok (.iconst 3, 1) := by decide +kernel
theorem dX12_refuses_36 : decode cX12_refuses 36 = .ok (.ireturn, 1) := by decide +kernel
theorem dX12_makesRow_0 : decode cX12_makesRow 0 = .ok (.iload_n 2, 1) := by decide +kernel
theorem dX12_makesRow_1 : decode cX12_makesRow 1 = .ok (.ifCond .ge 5, 3) := by decide +kernel
theorem dX12_makesRow_4 : decode cX12_makesRow 4 = .ok (.iconst 4, 1) := by decide +kernel
theorem dX12_makesRow_5 : decode cX12_makesRow 5 = .ok (.ireturn, 1) := by decide +kernel
theorem dX12_makesRow_6 : decode cX12_makesRow 6 = .ok (.iload_n 2, 1) := by decide +kernel
theorem dX12_makesRow_7 : decode cX12_makesRow 7 = .ok (.bipush 20, 2) := by decide +kernel
theorem dX12_makesRow_9 : decode cX12_makesRow 9 = .ok (.if_icmp .le 5, 3) := by decide +kernel
theorem dX12_makesRow_12 : decode cX12_makesRow 12 = .ok (.iconst 5, 1) := by decide +kernel
theorem dX12_makesRow_13 : decode cX12_makesRow 13 = .ok (.ireturn, 1) := by decide +kernel
theorem dX12_makesRow_14 : decode cX12_makesRow 14 = .ok (.aload_n 0, 1) := by decide +kernel
theorem dX12_makesRow_15 : decode cX12_makesRow 15 = .ok (.getfield 44, 3) := by decide +kernel
theorem dX12_makesRow_18 : decode cX12_makesRow 18 = .ok (.iload_n 1, 1) := by decide +kernel
theorem dX12_makesRow_19 : decode cX12_makesRow 19 = .ok (.iload_n 2, 1) := by decide +kernel
theorem dX12_makesRow_20 : decode cX12_makesRow 20 = .ok (.iastore, 1) := by decide +kernel
theorem dX12_makesRow_21 : decode cX12_makesRow 21 = .ok (.iconst 0, 1) := by decide +kernel
theorem dX12_makesRow_22 : decode cX12_makesRow 22 = .ok (.istore_n 3, 1) := by decide +kernel
theorem dX12_makesRow_23 : decode cX12_makesRow 23 = .ok (.iload_n 3, 1) := by decide +kernel
theorem dX12_makesRow_24 : decode cX12_makesRow 24 = .ok (.iload_n 2, 1) := by decide +kernel
theorem dX12_makesRow_25 : decode cX12_makesRow 25 = .ok (.if_icmp .ge 21, 3) := by decide +kernel
theorem dX12_makesRow_28 : decode cX12_makesRow 28 = .ok (.aload_n 0, 1) := by decide +kernel
theorem dX12_makesRow_29 : decode cX12_makesRow 29 = .ok (.getfield 47, 3) := by decide +kernel
theorem dX12_makesRow_32 : decode cX12_makesRow 32 = .ok (.bipush 20, 2) := by decide +kernel
theorem dX12_makesRow_34 : decode cX12_makesRow 34 = .ok (.iload_n 1, 1) := by decide +kernel
theorem dX12_makesRow_35 : decode cX12_makesRow 35 = .ok (.imul, 1) := by decide +kernel
theorem dX12_makesRow_36 : decode cX12_makesRow 36 = .ok (.iload_n 3, 1) := by decide +kernel
theorem dX12_makesRow_37 : decode cX12_makesRow 37 = .ok (.iadd, 1) := by decide +kernel
theorem dX12_makesRow_38 : decode cX12_makesRow 38 = .ok (.iconst 0, 1) := by decide +kernel
theorem dX12_makesRow_39 : decode cX12_makesRow 39 = .ok (.iastore, 1) := by decide +kernel
theorem dX12_makesRow_40 : decode cX12_makesRow 40 = .ok (.iinc 3 1, 3) := by decide +kernel
theorem dX12_makesRow_43 : decode cX12_makesRow 43 = .ok (.goto (-20), 3) := by decide +kernel
theorem dX12_makesRow_46 : decode cX12_makesRow 46 = .ok (.iconst 0, 1) := by decide +kernel
theorem dX12_makesRow_47 : decode cX12_makesRow 47 = .ok (.ireturn, 1) := by decide +kernel
theorem dX12_goes_0 : decode cX12_goes 0 = .ok (.aload_n 0, 1) := by decide +kernel
theorem dX12_goes_1 : decode cX12_goes 1 = .ok (.getfield 236, 3) := by decide +kernel
theorem dX12_goes_4 : decode cX12_goes 4 = .ok (.iconst 1, 1) := by decide +kernel
theorem dX12_goes_5 : decode cX12_goes 5 = .ok (.isub, 1) := by decide +kernel
theorem dX12_goes_6 : decode cX12_goes 6 = .ok (.istore_n 1, 1) := by decide +kernel
theorem dX12_goes_7 : decode cX12_goes 7 = .ok (.aload_n 0, 1) := by decide +kernel
theorem dX12_goes_8 : decode cX12_goes 8 = .ok (.getfield 111, 3) := by decide +kernel
theorem dX12_goes_11 : decode cX12_goes 11 = .ok (.iload_n 1, 1) := by decide +kernel
theorem dX12_goes_12 : decode cX12_goes 12 = .ok (.iaload, 1) := by decide +kernel
theorem dX12_goes_13 : decode cX12_goes 13 = .ok (.istore_n 2, 1) := by decide +kernel
theorem dX12_goes_14 : decode cX12_goes 14 = .ok (.aload_n 0, 1) := by decide +kernel
theorem dX12_goes_15 : decode cX12_goes 15 = .ok (.getfield 114, 3) := by decide +kernel
theorem dX12_goes_18 : decode cX12_goes 18 = .ok (.iload_n 1, 1) := by decide +kernel
theorem dX12_goes_19 : decode cX12_goes 19 = .ok (.iaload, 1) := by decide +kernel
theorem dX12_goes_20 : decode cX12_goes 20 = .ok (.istore_n 3, 1) := by decide +kernel
theorem dX12_goes_21 : decode cX12_goes 21 = .ok (.aload_n 0, 1) := by decide +kernel
theorem dX12_goes_22 : decode cX12_goes 22 = .ok (.getfield 19, 3) := by decide +kernel
theorem dX12_goes_25 : decode cX12_goes 25 = .ok (.bipush 60, 2) := by decide +kernel
theorem dX12_goes_27 : decode cX12_goes 27 = .ok (.iload_n 2, 1) := by decide +kernel
theorem dX12_goes_28 : decode cX12_goes 28 = .ok (.imul, 1) := by decide +kernel
theorem dX12_goes_29 : decode cX12_goes 29 = .ok (.iload_n 3, 1) := by decide +kernel
theorem dX12_goes_30 : decode cX12_goes 30 = .ok (.iadd, 1) := by decide +kernel
theorem dX12_goes_31 : decode cX12_goes 31 = .ok (.iaload, 1) := by decide +kernel
theorem dX12_goes_32 : decode cX12_goes 32 = .ok (.istore 4, 2) := by decide +kernel
theorem dX12_goes_34 : decode cX12_goes 34 = .ok (.aload_n 0, 1) := by decide +kernel
theorem dX12_goes_35 : decode cX12_goes 35 = .ok (.getfield 22, 3) := by decide +kernel
theorem dX12_goes_38 : decode cX12_goes 38 = .ok (.bipush 60, 2) := by decide +kernel
theorem dX12_goes_40 : decode cX12_goes 40 = .ok (.iload_n 2, 1) := by decide +kernel
theorem dX12_goes_41 : decode cX12_goes 41 = .ok (.imul, 1) := by decide +kernel
theorem dX12_goes_42 : decode cX12_goes 42 = .ok (.iload_n 3, 1) := by decide +kernel
theorem dX12_goes_43 : decode cX12_goes 43 = .ok (.iadd, 1) := by decide +kernel
theorem dX12_goes_44 : decode cX12_goes 44 = .ok (.iaload, 1) := by decide +kernel
theorem dX12_goes_45 : decode cX12_goes 45 = .ok (.istore 5, 2) := by decide +kernel
theorem dX12_goes_47 : decode cX12_goes 47 = .ok (.bipush 15, 2) := by decide +kernel
theorem dX12_goes_49 : decode cX12_goes 49 = .ok (.iload_n 1, 1) := by decide +kernel
theorem dX12_goes_50 : decode cX12_goes 50 = .ok (.imul, 1) := by decide +kernel
theorem dX12_goes_51 : decode cX12_goes 51 = .ok (.bipush 7, 2) := by decide +kernel
theorem dX12_goes_53 : decode cX12_goes 53 = .ok (.iadd, 1) := by decide +kernel
theorem dX12_goes_54 : decode cX12_goes 54 = .ok (.istore 6, 2) := by decide +kernel
theorem dX12_goes_56 : decode cX12_goes 56 = .ok (.aload_n 0, 1) := by decide +kernel
theorem dX12_goes_57 : decode cX12_goes 57 = .ok (.getfield 120, 3) := by decide +kernel
theorem dX12_goes_60 : decode cX12_goes 60 = .ok (.iload_n 1, 1) := by decide +kernel
theorem dX12_goes_61 : decode cX12_goes 61 = .ok (.iaload, 1) := by decide +kernel
theorem dX12_goes_62 : decode cX12_goes 62 = .ok (.istore 7, 2) := by decide +kernel
theorem dX12_goes_64 : decode cX12_goes 64 = .ok (.iload 7, 2) := by decide +kernel
theorem dX12_goes_66 : decode cX12_goes 66 = .ok (.ifCond .le 18, 3) := by decide +kernel
theorem dX12_goes_69 : decode cX12_goes 69 = .ok (.aload_n 0, 1) := by decide +kernel
theorem dX12_goes_70 : decode cX12_goes 70 = .ok (.getfield 123, 3) := by decide +kernel
theorem dX12_goes_73 : decode cX12_goes 73 = .ok (.iload 6, 2) := by decide +kernel
theorem dX12_goes_75 : decode cX12_goes 75 = .ok (.iload 7, 2) := by decide +kernel
theorem dX12_goes_77 : decode cX12_goes 77 = .ok (.iadd, 1) := by decide +kernel
theorem dX12_goes_78 : decode cX12_goes 78 = .ok (.iconst 1, 1) := by decide +kernel
theorem dX12_goes_79 : decode cX12_goes 79 = .ok (.isub, 1) := by decide +kernel
theorem dX12_goes_80 : decode cX12_goes 80 = .ok (.iaload, 1) := by decide +kernel
theorem dX12_goes_81 : decode cX12_goes 81 = .ok (.goto 4, 3) := by decide +kernel
theorem dX12_goes_84 : decode cX12_goes 84 = .ok (.iconst 0, 1) := by decide +kernel
theorem dX12_goes_85 : decode cX12_goes 85 = .ok (.istore 8, 2) := by decide +kernel
theorem dX12_goes_87 : decode cX12_goes 87 = .ok (.iconst 0, 1) := by decide +kernel
theorem dX12_goes_88 : decode cX12_goes 88 = .ok (.istore 9, 2) := by decide +kernel
theorem dX12_goes_90 : decode cX12_goes 90 = .ok (.aload_n 0, 1) := by decide +kernel
theorem dX12_goes_91 : decode cX12_goes 91 = .ok (.getfield 114, 3) := by decide +kernel
theorem dX12_goes_94 : decode cX12_goes 94 = .ok (.iload_n 1, 1) := by decide +kernel
theorem dX12_goes_95 : decode cX12_goes 95 = .ok (.iload_n 3, 1) := by decide +kernel
theorem dX12_goes_96 : decode cX12_goes 96 = .ok (.iconst 1, 1) := by decide +kernel
theorem dX12_goes_97 : decode cX12_goes 97 = .ok (.iadd, 1) := by decide +kernel
theorem dX12_goes_98 : decode cX12_goes 98 = .ok (.iastore, 1) := by decide +kernel
theorem dX12_goes_99 : decode cX12_goes 99 = .ok (.aload_n 0, 1) := by decide +kernel
theorem dX12_goes_100 : decode cX12_goes 100 = .ok (.getfield 120, 3) := by decide +kernel
theorem dX12_goes_103 : decode cX12_goes 103 = .ok (.iload_n 1, 1) := by decide +kernel
theorem dX12_goes_104 : decode cX12_goes 104 = .ok (.iload 4, 2) := by decide +kernel
theorem dX12_goes_106 : decode cX12_goes 106 = .ok (.bipush 11, 2) := by decide +kernel
theorem dX12_goes_108 : decode cX12_goes 108 = .ok (.if_icmp .ne 8, 3) := by decide +kernel
theorem dX12_goes_111 : decode cX12_goes 111 = .ok (.iload 7, 2) := by decide +kernel
theorem dX12_goes_113 : decode cX12_goes 113 = .ok (.goto 20, 3) := by decide +kernel
theorem dX12_goes_116 : decode cX12_goes 116 = .ok (.iload 7, 2) := by decide +kernel
theorem dX12_goes_118 : decode cX12_goes 118 = .ok (.aload_n 0, 1) := by decide +kernel
theorem dX12_goes_119 : decode cX12_goes 119 = .ok (.iload 4, 2) := by decide +kernel
theorem dX12_goes_121 : decode cX12_goes 121 = .ok (.iload 5, 2) := by decide +kernel
theorem dX12_goes_123 : decode cX12_goes 123 = .ok (.invokevirtual 156, 3) := by decide +kernel
theorem dX12_goes_126 : decode cX12_goes 126 = .ok (.isub, 1) := by decide +kernel
theorem dX12_goes_127 : decode cX12_goes 127 = .ok (.iload 4, 2) := by decide +kernel
theorem dX12_goes_129 : decode cX12_goes 129 = .ok (.invokestatic 160, 3) := by decide +kernel
theorem dX12_goes_132 : decode cX12_goes 132 = .ok (.iadd, 1) := by decide +kernel
theorem dX12_goes_133 : decode cX12_goes 133 = .ok (.iastore, 1) := by decide +kernel
theorem dX12_goes_134 : decode cX12_goes 134 = .ok (.iload 4, 2) := by decide +kernel
theorem dX12_goes_136 : decode cX12_goes 136 = .ok (.tableswitch 413 0 19 #[96, 111, 136, 413, 413, 413, 413, 413, 413, 153, 177, 206, 240, 249, 269, 281, 294, 342, 395, 410], 96) := by decide +kernel
theorem dX12_goes_232 : decode cX12_goes 232 = .ok (.aload_n 0, 1) := by decide +kernel
theorem dX12_goes_233 : decode cX12_goes 233 = .ok (.getfield 123, 3) := by decide +kernel
theorem dX12_goes_236 : decode cX12_goes 236 = .ok (.iload 6, 2) := by decide +kernel
theorem dX12_goes_238 : decode cX12_goes 238 = .ok (.iload 7, 2) := by decide +kernel
theorem dX12_goes_240 : decode cX12_goes 240 = .ok (.iadd, 1) := by decide +kernel
theorem dX12_goes_241 : decode cX12_goes 241 = .ok (.iload 5, 2) := by decide +kernel
theorem dX12_goes_243 : decode cX12_goes 243 = .ok (.iastore, 1) := by decide +kernel
theorem dX12_goes_244 : decode cX12_goes 244 = .ok (.goto 360, 3) := by decide +kernel
theorem dX12_goes_247 : decode cX12_goes 247 = .ok (.aload_n 0, 1) := by decide +kernel
theorem dX12_goes_248 : decode cX12_goes 248 = .ok (.getfield 123, 3) := by decide +kernel
theorem dX12_goes_251 : decode cX12_goes 251 = .ok (.iload 6, 2) := by decide +kernel
theorem dX12_goes_253 : decode cX12_goes 253 = .ok (.iload 7, 2) := by decide +kernel
theorem dX12_goes_255 : decode cX12_goes 255 = .ok (.iadd, 1) := by decide +kernel
theorem dX12_goes_256 : decode cX12_goes 256 = .ok (.aload_n 0, 1) := by decide +kernel
theorem dX12_goes_257 : decode cX12_goes 257 = .ok (.getfield 123, 3) := by decide +kernel
theorem dX12_goes_260 : decode cX12_goes 260 = .ok (.bipush 15, 2) := by decide +kernel
theorem dX12_goes_262 : decode cX12_goes 262 = .ok (.iload_n 1, 1) := by decide +kernel
theorem dX12_goes_263 : decode cX12_goes 263 = .ok (.imul, 1) := by decide +kernel
theorem dX12_goes_264 : decode cX12_goes 264 = .ok (.iload 5, 2) := by decide +kernel
theorem dX12_goes_266 : decode cX12_goes 266 = .ok (.iadd, 1) := by decide +kernel
theorem dX12_goes_267 : decode cX12_goes 267 = .ok (.iaload, 1) := by decide +kernel
theorem dX12_goes_268 : decode cX12_goes 268 = .ok (.iastore, 1) := by decide +kernel
theorem dX12_goes_269 : decode cX12_goes 269 = .ok (.goto 335, 3) := by decide +kernel
theorem dX12_goes_272 : decode cX12_goes 272 = .ok (.aload_n 0, 1) := by decide +kernel
theorem dX12_goes_273 : decode cX12_goes 273 = .ok (.getfield 123, 3) := by decide +kernel
theorem dX12_goes_276 : decode cX12_goes 276 = .ok (.bipush 15, 2) := by decide +kernel
theorem dX12_goes_278 : decode cX12_goes 278 = .ok (.iload_n 1, 1) := by decide +kernel
theorem dX12_goes_279 : decode cX12_goes 279 = .ok (.imul, 1) := by decide +kernel
theorem dX12_goes_280 : decode cX12_goes 280 = .ok (.iload 5, 2) := by decide +kernel
theorem dX12_goes_282 : decode cX12_goes 282 = .ok (.iadd, 1) := by decide +kernel
theorem dX12_goes_283 : decode cX12_goes 283 = .ok (.iload 8, 2) := by decide +kernel
theorem dX12_goes_285 : decode cX12_goes 285 = .ok (.iastore, 1) := by decide +kernel
theorem dX12_goes_286 : decode cX12_goes 286 = .ok (.goto 318, 3) := by decide +kernel
theorem dX12_goes_289 : decode cX12_goes 289 = .ok (.iload 5, 2) := by decide +kernel
theorem dX12_goes_291 : decode cX12_goes 291 = .ok (.iload_n 3, 1) := by decide +kernel
theorem dX12_goes_292 : decode cX12_goes 292 = .ok (.if_icmp .gt 10, 3) := by decide +kernel
theorem dX12_goes_295 : decode cX12_goes 295 = .ok (.aload_n 0, 1) := by decide +kernel
theorem dX12_goes_296 : decode cX12_goes 296 = .ok (.invokevirtual 242, 3) := by decide +kernel
theorem dX12_goes_299 : decode cX12_goes 299 = .ok (.ifCond .eq 305, 3) := by decide +kernel
theorem dX12_goes_302 : decode cX12_goes 302 = .ok (.aload_n 0, 1) := by decide +kernel
theorem dX12_goes_303 : decode cX12_goes 303 = .ok (.getfield 114, 3) := by decide +kernel
theorem dX12_goes_306 : decode cX12_goes 306 = .ok (.iload_n 1, 1) := by decide +kernel
theorem dX12_goes_307 : decode cX12_goes 307 = .ok (.iload 5, 2) := by decide +kernel
theorem dX12_goes_309 : decode cX12_goes 309 = .ok (.iastore, 1) := by decide +kernel
theorem dX12_goes_310 : decode cX12_goes 310 = .ok (.goto 294, 3) := by decide +kernel
theorem dX12_goes_313 : decode cX12_goes 313 = .ok (.iload 8, 2) := by decide +kernel
theorem dX12_goes_315 : decode cX12_goes 315 = .ok (.ifCond .ne 289, 3) := by decide +kernel
theorem dX12_goes_318 : decode cX12_goes 318 = .ok (.iload 5, 2) := by decide +kernel
theorem dX12_goes_320 : decode cX12_goes 320 = .ok (.iload_n 3, 1) := by decide +kernel
theorem dX12_goes_321 : decode cX12_goes 321 = .ok (.if_icmp .gt 10, 3) := by decide +kernel
theorem dX12_goes_324 : decode cX12_goes 324 = .ok (.aload_n 0, 1) := by decide +kernel
theorem dX12_goes_325 : decode cX12_goes 325 = .ok (.invokevirtual 242, 3) := by decide +kernel
theorem dX12_goes_328 : decode cX12_goes 328 = .ok (.ifCond .eq 276, 3) := by decide +kernel
theorem dX12_goes_331 : decode cX12_goes 331 = .ok (.aload_n 0, 1) := by decide +kernel
theorem dX12_goes_332 : decode cX12_goes 332 = .ok (.getfield 114, 3) := by decide +kernel
theorem dX12_goes_335 : decode cX12_goes 335 = .ok (.iload_n 1, 1) := by decide +kernel
theorem dX12_goes_336 : decode cX12_goes 336 = .ok (.iload 5, 2) := by decide +kernel
theorem dX12_goes_338 : decode cX12_goes 338 = .ok (.iastore, 1) := by decide +kernel
theorem dX12_goes_339 : decode cX12_goes 339 = .ok (.goto 265, 3) := by decide +kernel
theorem dX12_goes_342 : decode cX12_goes 342 = .ok (.aload_n 0, 1) := by decide +kernel
theorem dX12_goes_343 : decode cX12_goes 343 = .ok (.getfield 114, 3) := by decide +kernel
theorem dX12_goes_346 : decode cX12_goes 346 = .ok (.iload_n 1, 1) := by decide +kernel
theorem dX12_goes_347 : decode cX12_goes 347 = .ok (.iload_n 3, 1) := by decide +kernel
theorem dX12_goes_348 : decode cX12_goes 348 = .ok (.iastore, 1) := by decide +kernel
theorem dX12_goes_349 : decode cX12_goes 349 = .ok (.aload_n 0, 1) := by decide +kernel
theorem dX12_goes_350 : decode cX12_goes 350 = .ok (.iload 5, 2) := by decide +kernel
theorem dX12_goes_352 : decode cX12_goes 352 = .ok (.aload_n 0, 1) := by decide +kernel
theorem dX12_goes_353 : decode cX12_goes 353 = .ok (.getfield 123, 3) := by decide +kernel
theorem dX12_goes_356 : decode cX12_goes 356 = .ok (.iload 6, 2) := by decide +kernel
theorem dX12_goes_358 : decode cX12_goes 358 = .ok (.iload 7, 2) := by decide +kernel
theorem dX12_goes_360 : decode cX12_goes 360 = .ok (.iadd, 1) := by decide +kernel
theorem dX12_goes_361 : decode cX12_goes 361 = .ok (.aload_n 0, 1) := by decide +kernel
theorem dX12_goes_362 : decode cX12_goes 362 = .ok (.getfield 7, 3) := by decide +kernel
theorem dX12_goes_365 : decode cX12_goes 365 = .ok (.iload 5, 2) := by decide +kernel
theorem dX12_goes_367 : decode cX12_goes 367 = .ok (.iaload, 1) := by decide +kernel
theorem dX12_goes_368 : decode cX12_goes 368 = .ok (.isub, 1) := by decide +kernel
theorem dX12_goes_369 : decode cX12_goes 369 = .ok (.iload_n 3, 1) := by decide +kernel
theorem dX12_goes_370 : decode cX12_goes 370 = .ok (.invokevirtual 262, 3) := by decide +kernel
theorem dX12_goes_373 : decode cX12_goes 373 = .ok (.goto 231, 3) := by decide +kernel
theorem dX12_goes_376 : decode cX12_goes 376 = .ok (.aload_n 0, 1) := by decide +kernel
theorem dX12_goes_377 : decode cX12_goes 377 = .ok (.iload 8, 2) := by decide +kernel
theorem dX12_goes_379 : decode cX12_goes 379 = .ok (.invokevirtual 266, 3) := by decide +kernel
theorem dX12_goes_382 : decode cX12_goes 382 = .ok (.goto 222, 3) := by decide +kernel
theorem dX12_goes_385 : decode cX12_goes 385 = .ok (.aload_n 0, 1) := by decide +kernel
theorem dX12_goes_386 : decode cX12_goes 386 = .ok (.getfield 123, 3) := by decide +kernel
theorem dX12_goes_389 : decode cX12_goes 389 = .ok (.iload 6, 2) := by decide +kernel
theorem dX12_goes_391 : decode cX12_goes 391 = .ok (.iload 7, 2) := by decide +kernel
theorem dX12_goes_393 : decode cX12_goes 393 = .ok (.iadd, 1) := by decide +kernel
theorem dX12_goes_394 : decode cX12_goes 394 = .ok (.aload_n 0, 1) := by decide +kernel
theorem dX12_goes_395 : decode cX12_goes 395 = .ok (.getfield 41, 3) := by decide +kernel
theorem dX12_goes_398 : decode cX12_goes 398 = .ok (.iload 5, 2) := by decide +kernel
theorem dX12_goes_400 : decode cX12_goes 400 = .ok (.iaload, 1) := by decide +kernel
theorem dX12_goes_401 : decode cX12_goes 401 = .ok (.iastore, 1) := by decide +kernel
theorem dX12_goes_402 : decode cX12_goes 402 = .ok (.goto 202, 3) := by decide +kernel
theorem dX12_goes_405 : decode cX12_goes 405 = .ok (.aload_n 0, 1) := by decide +kernel
theorem dX12_goes_406 : decode cX12_goes 406 = .ok (.getfield 41, 3) := by decide +kernel
theorem dX12_goes_409 : decode cX12_goes 409 = .ok (.iload 5, 2) := by decide +kernel
theorem dX12_goes_411 : decode cX12_goes 411 = .ok (.iload 8, 2) := by decide +kernel
theorem dX12_goes_413 : decode cX12_goes 413 = .ok (.iastore, 1) := by decide +kernel
theorem dX12_goes_414 : decode cX12_goes 414 = .ok (.goto 190, 3) := by decide +kernel
theorem dX12_goes_417 : decode cX12_goes 417 = .ok (.aload_n 0, 1) := by decide +kernel
theorem dX12_goes_418 : decode cX12_goes 418 = .ok (.iload 5, 2) := by decide +kernel
theorem dX12_goes_420 : decode cX12_goes 420 = .ok (.iload 8, 2) := by decide +kernel
theorem dX12_goes_422 : decode cX12_goes 422 = .ok (.invokevirtual 269, 3) := by decide +kernel
theorem dX12_goes_425 : decode cX12_goes 425 = .ok (.istore 9, 2) := by decide +kernel
theorem dX12_goes_427 : decode cX12_goes 427 = .ok (.goto 177, 3) := by decide +kernel
theorem dX12_goes_430 : decode cX12_goes 430 = .ok (.aload_n 0, 1) := by decide +kernel
theorem dX12_goes_431 : decode cX12_goes 431 = .ok (.iload 5, 2) := by decide +kernel
theorem dX12_goes_433 : decode cX12_goes 433 = .ok (.iload 8, 2) := by decide +kernel
theorem dX12_goes_435 : decode cX12_goes 435 = .ok (.invokevirtual 272, 3) := by decide +kernel
theorem dX12_goes_438 : decode cX12_goes 438 = .ok (.istore 9, 2) := by decide +kernel
theorem dX12_goes_440 : decode cX12_goes 440 = .ok (.aload_n 0, 1) := by decide +kernel
theorem dX12_goes_441 : decode cX12_goes 441 = .ok (.getfield 123, 3) := by decide +kernel
theorem dX12_goes_444 : decode cX12_goes 444 = .ok (.iload 6, 2) := by decide +kernel
theorem dX12_goes_446 : decode cX12_goes 446 = .ok (.iload 7, 2) := by decide +kernel
theorem dX12_goes_448 : decode cX12_goes 448 = .ok (.iadd, 1) := by decide +kernel
theorem dX12_goes_449 : decode cX12_goes 449 = .ok (.iconst 1, 1) := by decide +kernel
theorem dX12_goes_450 : decode cX12_goes 450 = .ok (.isub, 1) := by decide +kernel
theorem dX12_goes_451 : decode cX12_goes 451 = .ok (.iload 9, 2) := by decide +kernel
theorem dX12_goes_453 : decode cX12_goes 453 = .ok (.ifCond .ne 19, 3) := by decide +kernel
theorem dX12_goes_456 : decode cX12_goes 456 = .ok (.aload_n 0, 1) := by decide +kernel
theorem dX12_goes_457 : decode cX12_goes 457 = .ok (.getfield 47, 3) := by decide +kernel
theorem dX12_goes_460 : decode cX12_goes 460 = .ok (.bipush 20, 2) := by decide +kernel
theorem dX12_goes_462 : decode cX12_goes 462 = .ok (.iload 5, 2) := by decide +kernel
theorem dX12_goes_464 : decode cX12_goes 464 = .ok (.imul, 1) := by decide +kernel
theorem dX12_goes_465 : decode cX12_goes 465 = .ok (.iload 8, 2) := by decide +kernel
theorem dX12_goes_467 : decode cX12_goes 467 = .ok (.iadd, 1) := by decide +kernel
theorem dX12_goes_468 : decode cX12_goes 468 = .ok (.iaload, 1) := by decide +kernel
theorem dX12_goes_469 : decode cX12_goes 469 = .ok (.goto 5, 3) := by decide +kernel
theorem dX12_goes_472 : decode cX12_goes 472 = .ok (.iload 8, 2) := by decide +kernel
theorem dX12_goes_474 : decode cX12_goes 474 = .ok (.iastore, 1) := by decide +kernel
theorem dX12_goes_475 : decode cX12_goes 475 = .ok (.goto 129, 3) := by decide +kernel
theorem dX12_goes_478 : decode cX12_goes 478 = .ok (.aload_n 0, 1) := by decide +kernel
theorem dX12_goes_479 : decode cX12_goes 479 = .ok (.iload 5, 2) := by decide +kernel
theorem dX12_goes_481 : decode cX12_goes 481 = .ok (.aload_n 0, 1) := by decide +kernel
theorem dX12_goes_482 : decode cX12_goes 482 = .ok (.getfield 123, 3) := by decide +kernel
theorem dX12_goes_485 : decode cX12_goes 485 = .ok (.iload 6, 2) := by decide +kernel
theorem dX12_goes_487 : decode cX12_goes 487 = .ok (.iload 7, 2) := by decide +kernel
theorem dX12_goes_489 : decode cX12_goes 489 = .ok (.iadd, 1) := by decide +kernel
theorem dX12_goes_490 : decode cX12_goes 490 = .ok (.iconst 2, 1) := by decide +kernel
theorem dX12_goes_491 : decode cX12_goes 491 = .ok (.isub, 1) := by decide +kernel
theorem dX12_goes_492 : decode cX12_goes 492 = .ok (.iaload, 1) := by decide +kernel
theorem dX12_goes_493 : decode cX12_goes 493 = .ok (.invokevirtual 272, 3) := by decide +kernel
theorem dX12_goes_496 : decode cX12_goes 496 = .ok (.istore 9, 2) := by decide +kernel
theorem dX12_goes_498 : decode cX12_goes 498 = .ok (.iload 9, 2) := by decide +kernel
theorem dX12_goes_500 : decode cX12_goes 500 = .ok (.ifCond .ne 104, 3) := by decide +kernel
theorem dX12_goes_503 : decode cX12_goes 503 = .ok (.aload_n 0, 1) := by decide +kernel
theorem dX12_goes_504 : decode cX12_goes 504 = .ok (.getfield 47, 3) := by decide +kernel
theorem dX12_goes_507 : decode cX12_goes 507 = .ok (.bipush 20, 2) := by decide +kernel
theorem dX12_goes_509 : decode cX12_goes 509 = .ok (.iload 5, 2) := by decide +kernel
theorem dX12_goes_511 : decode cX12_goes 511 = .ok (.imul, 1) := by decide +kernel
theorem dX12_goes_512 : decode cX12_goes 512 = .ok (.aload_n 0, 1) := by decide +kernel
theorem dX12_goes_513 : decode cX12_goes 513 = .ok (.getfield 123, 3) := by decide +kernel
theorem dX12_goes_516 : decode cX12_goes 516 = .ok (.iload 6, 2) := by decide +kernel
theorem dX12_goes_518 : decode cX12_goes 518 = .ok (.iload 7, 2) := by decide +kernel
theorem dX12_goes_520 : decode cX12_goes 520 = .ok (.iadd, 1) := by decide +kernel
theorem dX12_goes_521 : decode cX12_goes 521 = .ok (.iconst 2, 1) := by decide +kernel
theorem dX12_goes_522 : decode cX12_goes 522 = .ok (.isub, 1) := by decide +kernel
theorem dX12_goes_523 : decode cX12_goes 523 = .ok (.iaload, 1) := by decide +kernel
theorem dX12_goes_524 : decode cX12_goes 524 = .ok (.iadd, 1) := by decide +kernel
theorem dX12_goes_525 : decode cX12_goes 525 = .ok (.iload 8, 2) := by decide +kernel
theorem dX12_goes_527 : decode cX12_goes 527 = .ok (.iastore, 1) := by decide +kernel
theorem dX12_goes_528 : decode cX12_goes 528 = .ok (.goto 76, 3) := by decide +kernel
theorem dX12_goes_531 : decode cX12_goes 531 = .ok (.aload_n 0, 1) := by decide +kernel
theorem dX12_goes_532 : decode cX12_goes 532 = .ok (.getfield 123, 3) := by decide +kernel
theorem dX12_goes_535 : decode cX12_goes 535 = .ok (.iload 6, 2) := by decide +kernel
theorem dX12_goes_537 : decode cX12_goes 537 = .ok (.iload 7, 2) := by decide +kernel
theorem dX12_goes_539 : decode cX12_goes 539 = .ok (.iadd, 1) := by decide +kernel
theorem dX12_goes_540 : decode cX12_goes 540 = .ok (.iload 8, 2) := by decide +kernel
theorem dX12_goes_542 : decode cX12_goes 542 = .ok (.iastore, 1) := by decide +kernel
theorem dX12_goes_543 : decode cX12_goes 543 = .ok (.goto 61, 3) := by decide +kernel
theorem dX12_goes_546 : decode cX12_goes 546 = .ok (.goto 58, 3) := by decide +kernel
theorem dX12_goes_549 : decode cX12_goes 549 = .ok (.iload 4, 2) := by decide +kernel
theorem dX12_goes_551 : decode cX12_goes 551 = .ok (.bipush 6, 2) := by decide +kernel
theorem dX12_goes_553 : decode cX12_goes 553 = .ok (.if_icmp .ne 12, 3) := by decide +kernel
theorem dX12_goes_556 : decode cX12_goes 556 = .ok (.iload 8, 2) := by decide +kernel
theorem dX12_goes_558 : decode cX12_goes 558 = .ok (.ifCond .ne 7, 3) := by decide +kernel
theorem dX12_goes_561 : decode cX12_goes 561 = .ok (.iconst 1, 1) := by decide +kernel
theorem dX12_goes_562 : decode cX12_goes 562 = .ok (.goto 4, 3) := by decide +kernel
theorem dX12_goes_565 : decode cX12_goes 565 = .ok (.iconst 0, 1) := by decide +kernel
theorem dX12_goes_566 : decode cX12_goes 566 = .ok (.istore 9, 2) := by decide +kernel
theorem dX12_goes_568 : decode cX12_goes 568 = .ok (.iload 9, 2) := by decide +kernel
theorem dX12_goes_570 : decode cX12_goes 570 = .ok (.ifCond .ne 34, 3) := by decide +kernel
theorem dX12_goes_573 : decode cX12_goes 573 = .ok (.aload_n 0, 1) := by decide +kernel
theorem dX12_goes_574 : decode cX12_goes 574 = .ok (.getfield 123, 3) := by decide +kernel
theorem dX12_goes_577 : decode cX12_goes 577 = .ok (.iload 6, 2) := by decide +kernel
theorem dX12_goes_579 : decode cX12_goes 579 = .ok (.iload 7, 2) := by decide +kernel
theorem dX12_goes_581 : decode cX12_goes 581 = .ok (.iadd, 1) := by decide +kernel
theorem dX12_goes_582 : decode cX12_goes 582 = .ok (.iconst 2, 1) := by decide +kernel
theorem dX12_goes_583 : decode cX12_goes 583 = .ok (.isub, 1) := by decide +kernel
theorem dX12_goes_584 : decode cX12_goes 584 = .ok (.iload 4, 2) := by decide +kernel
theorem dX12_goes_586 : decode cX12_goes 586 = .ok (.aload_n 0, 1) := by decide +kernel
theorem dX12_goes_587 : decode cX12_goes 587 = .ok (.getfield 123, 3) := by decide +kernel
theorem dX12_goes_590 : decode cX12_goes 590 = .ok (.iload 6, 2) := by decide +kernel
theorem dX12_goes_592 : decode cX12_goes 592 = .ok (.iload 7, 2) := by decide +kernel
theorem dX12_goes_594 : decode cX12_goes 594 = .ok (.iadd, 1) := by decide +kernel
theorem dX12_goes_595 : decode cX12_goes 595 = .ok (.iconst 2, 1) := by decide +kernel
theorem dX12_goes_596 : decode cX12_goes 596 = .ok (.isub, 1) := by decide +kernel
theorem dX12_goes_597 : decode cX12_goes 597 = .ok (.iaload, 1) := by decide +kernel
theorem dX12_goes_598 : decode cX12_goes 598 = .ok (.iload 8, 2) := by decide +kernel
theorem dX12_goes_600 : decode cX12_goes 600 = .ok (.invokestatic 195, 3) := by decide +kernel
theorem dX12_goes_603 : decode cX12_goes 603 = .ok (.iastore, 1) := by decide +kernel
theorem dX12_goes_604 : decode cX12_goes 604 = .ok (.iload 9, 2) := by decide +kernel
theorem dX12_goes_606 : decode cX12_goes 606 = .ok (.ifCond .eq 10, 3) := by decide +kernel
theorem dX12_goes_609 : decode cX12_goes 609 = .ok (.aload_n 0, 1) := by decide +kernel
theorem dX12_goes_610 : decode cX12_goes 610 = .ok (.iload 9, 2) := by decide +kernel
theorem dX12_goes_612 : decode cX12_goes 612 = .ok (.iload_n 3, 1) := by decide +kernel
theorem dX12_goes_613 : decode cX12_goes 613 = .ok (.invokevirtual 239, 3) := by decide +kernel
theorem dX12_goes_616 : decode cX12_goes 616 = .ok (.return_, 1) := by decide +kernel
theorem dX12_fails_0 : decode cX12_fails 0 = .ok (.aload_n 0, 1) := by decide +kernel
theorem dX12_fails_1 : decode cX12_fails 1 = .ok (.getfield 111, 3) := by decide +kernel
theorem dX12_fails_4 : decode cX12_fails 4 = .ok (.iload_n 1, 1) := by decide +kernel
theorem dX12_fails_5 : decode cX12_fails 5 = .ok (.iaload, 1) := by decide +kernel
theorem dX12_fails_6 : decode cX12_fails 6 = .ok (.istore 4, 2) := by decide +kernel
theorem dX12_fails_8 : decode cX12_fails 8 = .ok (.aload_n 0, 1) := by decide +kernel
theorem dX12_fails_9 : decode cX12_fails 9 = .ok (.getfield 59, 3) := by decide +kernel
theorem dX12_fails_12 : decode cX12_fails 12 = .ok (.iload 4, 2) := by decide +kernel
theorem dX12_fails_14 : decode cX12_fails 14 = .ok (.dup2, 1) := by decide +kernel
theorem dX12_fails_15 : decode cX12_fails 15 = .ok (.iaload, 1) := by decide +kernel
theorem dX12_fails_16 : decode cX12_fails 16 = .ok (.iconst 1, 1) := by decide +kernel
theorem dX12_fails_17 : decode cX12_fails 17 = .ok (.iadd, 1) := by decide +kernel
theorem dX12_fails_18 : decode cX12_fails 18 = .ok (.iastore, 1) := by decide +kernel
theorem dX12_fails_19 : decode cX12_fails 19 = .ok (.aload_n 0, 1) := by decide +kernel
theorem dX12_fails_20 : decode cX12_fails 20 = .ok (.dup, 1) := by decide +kernel
theorem dX12_fails_21 : decode cX12_fails 21 = .ok (.getfield 275, 3) := by decide +kernel
theorem dX12_fails_24 : decode cX12_fails 24 = .ok (.iconst 1, 1) := by decide +kernel
theorem dX12_fails_25 : decode cX12_fails 25 = .ok (.iadd, 1) := by decide +kernel
theorem dX12_fails_26 : decode cX12_fails 26 = .ok (.putfield 275, 3) := by decide +kernel
theorem dX12_fails_29 : decode cX12_fails 29 = .ok (.aload_n 0, 1) := by decide +kernel
theorem dX12_fails_30 : decode cX12_fails 30 = .ok (.getfield 71, 3) := by decide +kernel
theorem dX12_fails_33 : decode cX12_fails 33 = .ok (.bipush 11, 2) := by decide +kernel
theorem dX12_fails_35 : decode cX12_fails 35 = .ok (.iload 4, 2) := by decide +kernel
theorem dX12_fails_37 : decode cX12_fails 37 = .ok (.imul, 1) := by decide +kernel
theorem dX12_fails_38 : decode cX12_fails 38 = .ok (.iload_n 3, 1) := by decide +kernel
theorem dX12_fails_39 : decode cX12_fails 39 = .ok (.iadd, 1) := by decide +kernel
theorem dX12_fails_40 : decode cX12_fails 40 = .ok (.iconst 1, 1) := by decide +kernel
theorem dX12_fails_41 : decode cX12_fails 41 = .ok (.bastore, 1) := by decide +kernel
theorem dX12_fails_42 : decode cX12_fails 42 = .ok (.aload_n 0, 1) := by decide +kernel
theorem dX12_fails_43 : decode cX12_fails 43 = .ok (.getfield 50, 3) := by decide +kernel
theorem dX12_fails_46 : decode cX12_fails 46 = .ok (.iload 4, 2) := by decide +kernel
theorem dX12_fails_48 : decode cX12_fails 48 = .ok (.baload, 1) := by decide +kernel
theorem dX12_fails_49 : decode cX12_fails 49 = .ok (.ifCond .eq 34, 3) := by decide +kernel
theorem dX12_fails_52 : decode cX12_fails 52 = .ok (.aload_n 0, 1) := by decide +kernel
theorem dX12_fails_53 : decode cX12_fails 53 = .ok (.getfield 117, 3) := by decide +kernel
theorem dX12_fails_56 : decode cX12_fails 56 = .ok (.iload_n 1, 1) := by decide +kernel
theorem dX12_fails_57 : decode cX12_fails 57 = .ok (.iaload, 1) := by decide +kernel
theorem dX12_fails_58 : decode cX12_fails 58 = .ok (.aload_n 0, 1) := by decide +kernel
theorem dX12_fails_59 : decode cX12_fails 59 = .ok (.iload 4, 2) := by decide +kernel
theorem dX12_fails_61 : decode cX12_fails 61 = .ok (.invokevirtual 217, 3) := by decide +kernel
theorem dX12_fails_64 : decode cX12_fails 64 = .ok (.if_icmp .ne 19, 3) := by decide +kernel
theorem dX12_fails_67 : decode cX12_fails 67 = .ok (.aload_n 0, 1) := by decide +kernel
theorem dX12_fails_68 : decode cX12_fails 68 = .ok (.getfield 50, 3) := by decide +kernel
theorem dX12_fails_71 : decode cX12_fails 71 = .ok (.iload 4, 2) := by decide +kernel
theorem dX12_fails_73 : decode cX12_fails 73 = .ok (.iconst 0, 1) := by decide +kernel
theorem dX12_fails_74 : decode cX12_fails 74 = .ok (.bastore, 1) := by decide +kernel
theorem dX12_fails_75 : decode cX12_fails 75 = .ok (.aload_n 0, 1) := by decide +kernel
theorem dX12_fails_76 : decode cX12_fails 76 = .ok (.getfield 53, 3) := by decide +kernel
theorem dX12_fails_79 : decode cX12_fails 79 = .ok (.iload 4, 2) := by decide +kernel
theorem dX12_fails_81 : decode cX12_fails 81 = .ok (.iconst 0, 1) := by decide +kernel
theorem dX12_fails_82 : decode cX12_fails 82 = .ok (.iastore, 1) := by decide +kernel
theorem dX12_fails_83 : decode cX12_fails 83 = .ok (.aload_n 0, 1) := by decide +kernel
theorem dX12_fails_84 : decode cX12_fails 84 = .ok (.getfield 81, 3) := by decide +kernel
theorem dX12_fails_87 : decode cX12_fails 87 = .ok (.iload_n 2, 1) := by decide +kernel
theorem dX12_fails_88 : decode cX12_fails 88 = .ok (.iaload, 1) := by decide +kernel
theorem dX12_fails_89 : decode cX12_fails 89 = .ok (.bipush 18, 2) := by decide +kernel
theorem dX12_fails_91 : decode cX12_fails 91 = .ok (.if_icmp .ne 15, 3) := by decide +kernel
theorem dX12_fails_94 : decode cX12_fails 94 = .ok (.aload_n 0, 1) := by decide +kernel
theorem dX12_fails_95 : decode cX12_fails 95 = .ok (.iload_n 2, 1) := by decide +kernel
theorem dX12_fails_96 : decode cX12_fails 96 = .ok (.invokevirtual 278, 3) := by decide +kernel
theorem dX12_fails_99 : decode cX12_fails 99 = .ok (.ifCond .eq 7, 3) := by decide +kernel
theorem dX12_fails_102 : decode cX12_fails 102 = .ok (.iconst 1, 1) := by decide +kernel
theorem dX12_fails_103 : decode cX12_fails 103 = .ok (.goto 4, 3) := by decide +kernel
theorem dX12_fails_106 : decode cX12_fails 106 = .ok (.iconst 0, 1) := by decide +kernel
theorem dX12_fails_107 : decode cX12_fails 107 = .ok (.istore 5, 2) := by decide +kernel
theorem dX12_fails_109 : decode cX12_fails 109 = .ok (.iload 5, 2) := by decide +kernel
theorem dX12_fails_111 : decode cX12_fails 111 = .ok (.ifCond .eq 14, 3) := by decide +kernel
theorem dX12_fails_114 : decode cX12_fails 114 = .ok (.aload_n 0, 1) := by decide +kernel
theorem dX12_fails_115 : decode cX12_fails 115 = .ok (.getfield 93, 3) := by decide +kernel
theorem dX12_fails_118 : decode cX12_fails 118 = .ok (.iload_n 2, 1) := by decide +kernel
theorem dX12_fails_119 : decode cX12_fails 119 = .ok (.iaload, 1) := by decide +kernel
theorem dX12_fails_120 : decode cX12_fails 120 = .ok (.iconst 1, 1) := by decide +kernel
theorem dX12_fails_121 : decode cX12_fails 121 = .ok (.iadd, 1) := by decide +kernel
theorem dX12_fails_122 : decode cX12_fails 122 = .ok (.goto 4, 3) := by decide +kernel
theorem dX12_fails_125 : decode cX12_fails 125 = .ok (.iconst 0, 1) := by decide +kernel
theorem dX12_fails_126 : decode cX12_fails 126 = .ok (.istore 6, 2) := by decide +kernel
theorem dX12_fails_128 : decode cX12_fails 128 = .ok (.aload_n 0, 1) := by decide +kernel
theorem dX12_fails_129 : decode cX12_fails 129 = .ok (.getfield 117, 3) := by decide +kernel
theorem dX12_fails_132 : decode cX12_fails 132 = .ok (.iload_n 1, 1) := by decide +kernel
theorem dX12_fails_133 : decode cX12_fails 133 = .ok (.iconst (-1), 1) := by decide +kernel
theorem dX12_fails_134 : decode cX12_fails 134 = .ok (.iastore, 1) := by decide +kernel
theorem dX12_fails_135 : decode cX12_fails 135 = .ok (.aload_n 0, 1) := by decide +kernel
theorem dX12_fails_136 : decode cX12_fails 136 = .ok (.getfield 114, 3) := by decide +kernel
theorem dX12_fails_139 : decode cX12_fails 139 = .ok (.iload_n 1, 1) := by decide +kernel
theorem dX12_fails_140 : decode cX12_fails 140 = .ok (.iload 6, 2) := by decide +kernel
theorem dX12_fails_142 : decode cX12_fails 142 = .ok (.iastore, 1) := by decide +kernel
theorem dX12_fails_143 : decode cX12_fails 143 = .ok (.aload_n 0, 1) := by decide +kernel
theorem dX12_fails_144 : decode cX12_fails 144 = .ok (.getfield 120, 3) := by decide +kernel
theorem dX12_fails_147 : decode cX12_fails 147 = .ok (.iload_n 1, 1) := by decide +kernel
theorem dX12_fails_148 : decode cX12_fails 148 = .ok (.aload_n 0, 1) := by decide +kernel
theorem dX12_fails_149 : decode cX12_fails 149 = .ok (.getfield 29, 3) := by decide +kernel
theorem dX12_fails_152 : decode cX12_fails 152 = .ok (.bipush 60, 2) := by decide +kernel
theorem dX12_fails_154 : decode cX12_fails 154 = .ok (.iload 4, 2) := by decide +kernel
theorem dX12_fails_156 : decode cX12_fails 156 = .ok (.imul, 1) := by decide +kernel
theorem dX12_fails_157 : decode cX12_fails 157 = .ok (.iload 6, 2) := by decide +kernel
theorem dX12_fails_159 : decode cX12_fails 159 = .ok (.iadd, 1) := by decide +kernel
theorem dX12_fails_160 : decode cX12_fails 160 = .ok (.iaload, 1) := by decide +kernel
theorem dX12_fails_161 : decode cX12_fails 161 = .ok (.iastore, 1) := by decide +kernel
theorem dX12_fails_162 : decode cX12_fails 162 = .ok (.return_, 1) := by decide +kernel
theorem dX12_isBehindCall_0 : decode cX12_isBehindCall 0 = .ok (.iload_n 1, 1) := by decide +kernel
theorem dX12_isBehindCall_1 : decode cX12_isBehindCall 1 = .ok (.iconst 1, 1) := by decide +kernel
theorem dX12_isBehindCall_2 : decode cX12_isBehindCall 2 = .ok (.isub, 1) := by decide +kernel
theorem dX12_isBehindCall_3 : decode cX12_isBehindCall 3 = .ok (.istore_n 2, 1) := by decide +kernel
theorem dX12_isBehindCall_4 : decode cX12_isBehindCall 4 = .ok (.iload_n 2, 1) := by decide +kernel
theorem dX12_isBehindCall_5 : decode cX12_isBehindCall 5 = .ok (.ifCond .lt 48, 3) := by decide +kernel
theorem dX12_isBehindCall_8 : decode cX12_isBehindCall 8 = .ok (.aload_n 0, 1) := by decide +kernel
theorem dX12_isBehindCall_9 : decode cX12_isBehindCall 9 = .ok (.getfield 81, 3) := by decide +kernel
theorem dX12_isBehindCall_12 : decode cX12_isBehindCall 12 = .ok (.iload_n 2, 1) := by decide +kernel
theorem dX12_isBehindCall_13 : decode cX12_isBehindCall 13 = .ok (.iaload, 1) := by decide +kernel
theorem dX12_isBehindCall_14 : decode cX12_isBehindCall 14 = .ok (.bipush 18, 2) := by decide +kernel
theorem dX12_isBehindCall_16 : decode cX12_isBehindCall 16 = .ok (.if_icmp .ne 37, 3) := by decide +kernel
theorem dX12_isBehindCall_19 : decode cX12_isBehindCall 19 = .ok (.aload_n 0, 1) := by decide +kernel
theorem dX12_isBehindCall_20 : decode cX12_isBehindCall 20 = .ok (.getfield 93, 3) := by decide +kernel
theorem dX12_isBehindCall_23 : decode cX12_isBehindCall 23 = .ok (.iload_n 2, 1) := by decide +kernel
theorem dX12_isBehindCall_24 : decode cX12_isBehindCall 24 = .ok (.iaload, 1) := by decide +kernel
theorem dX12_isBehindCall_25 : decode cX12_isBehindCall 25 = .ok (.aload_n 0, 1) := by decide +kernel
theorem dX12_isBehindCall_26 : decode cX12_isBehindCall 26 = .ok (.getfield 93, 3) := by decide +kernel
theorem dX12_isBehindCall_29 : decode cX12_isBehindCall 29 = .ok (.iload_n 1, 1) := by decide +kernel
theorem dX12_isBehindCall_30 : decode cX12_isBehindCall 30 = .ok (.iaload, 1) := by decide +kernel
theorem dX12_isBehindCall_31 : decode cX12_isBehindCall 31 = .ok (.if_icmp .ne 22, 3) := by decide +kernel
theorem dX12_isBehindCall_34 : decode cX12_isBehindCall 34 = .ok (.iload_n 2, 1) := by decide +kernel
theorem dX12_isBehindCall_35 : decode cX12_isBehindCall 35 = .ok (.sipush 640, 3) := by decide +kernel
theorem dX12_isBehindCall_38 : decode cX12_isBehindCall 38 = .ok (.idiv, 1) := by decide +kernel
theorem dX12_isBehindCall_39 : decode cX12_isBehindCall 39 = .ok (.iload_n 1, 1) := by decide +kernel
theorem dX12_isBehindCall_40 : decode cX12_isBehindCall 40 = .ok (.sipush 640, 3) := by decide +kernel
theorem dX12_isBehindCall_43 : decode cX12_isBehindCall 43 = .ok (.idiv, 1) := by decide +kernel
theorem dX12_isBehindCall_44 : decode cX12_isBehindCall 44 = .ok (.if_icmp .ne 9, 3) := by decide +kernel
theorem dX12_isBehindCall_47 : decode cX12_isBehindCall 47 = .ok (.iinc 2 (-1), 3) := by decide +kernel
theorem dX12_isBehindCall_50 : decode cX12_isBehindCall 50 = .ok (.goto (-46), 3) := by decide +kernel
theorem dX12_isBehindCall_53 : decode cX12_isBehindCall 53 = .ok (.iload_n 2, 1) := by decide +kernel
theorem dX12_isBehindCall_54 : decode cX12_isBehindCall 54 = .ok (.ifCond .lt 46, 3) := by decide +kernel
theorem dX12_isBehindCall_57 : decode cX12_isBehindCall 57 = .ok (.iload_n 2, 1) := by decide +kernel
theorem dX12_isBehindCall_58 : decode cX12_isBehindCall 58 = .ok (.sipush 640, 3) := by decide +kernel
theorem dX12_isBehindCall_61 : decode cX12_isBehindCall 61 = .ok (.idiv, 1) := by decide +kernel
theorem dX12_isBehindCall_62 : decode cX12_isBehindCall 62 = .ok (.iload_n 1, 1) := by decide +kernel
theorem dX12_isBehindCall_63 : decode cX12_isBehindCall 63 = .ok (.sipush 640, 3) := by decide +kernel
theorem dX12_isBehindCall_66 : decode cX12_isBehindCall 66 = .ok (.idiv, 1) := by decide +kernel
theorem dX12_isBehindCall_67 : decode cX12_isBehindCall 67 = .ok (.if_icmp .ne 33, 3) := by decide +kernel
theorem dX12_isBehindCall_70 : decode cX12_isBehindCall 70 = .ok (.aload_n 0, 1) := by decide +kernel
theorem dX12_isBehindCall_71 : decode cX12_isBehindCall 71 = .ok (.getfield 81, 3) := by decide +kernel
theorem dX12_isBehindCall_74 : decode cX12_isBehindCall 74 = .ok (.iload_n 2, 1) := by decide +kernel
theorem dX12_isBehindCall_75 : decode cX12_isBehindCall 75 = .ok (.iaload, 1) := by decide +kernel
theorem dX12_isBehindCall_76 : decode cX12_isBehindCall 76 = .ok (.bipush 10, 2) := by decide +kernel
theorem dX12_isBehindCall_78 : decode cX12_isBehindCall 78 = .ok (.if_icmp .ne 22, 3) := by decide +kernel
theorem dX12_isBehindCall_81 : decode cX12_isBehindCall 81 = .ok (.aload_n 0, 1) := by decide +kernel
theorem dX12_isBehindCall_82 : decode cX12_isBehindCall 82 = .ok (.getfield 93, 3) := by decide +kernel
theorem dX12_isBehindCall_85 : decode cX12_isBehindCall 85 = .ok (.iload_n 2, 1) := by decide +kernel
theorem dX12_isBehindCall_86 : decode cX12_isBehindCall 86 = .ok (.iaload, 1) := by decide +kernel
theorem dX12_isBehindCall_87 : decode cX12_isBehindCall 87 = .ok (.aload_n 0, 1) := by decide +kernel
theorem dX12_isBehindCall_88 : decode cX12_isBehindCall 88 = .ok (.getfield 93, 3) := by decide +kernel
theorem dX12_isBehindCall_91 : decode cX12_isBehindCall 91 = .ok (.iload_n 1, 1) := by decide +kernel
theorem dX12_isBehindCall_92 : decode cX12_isBehindCall 92 = .ok (.iaload, 1) := by decide +kernel
theorem dX12_isBehindCall_93 : decode cX12_isBehindCall 93 = .ok (.if_icmp .ne 7, 3) := by decide +kernel
theorem dX12_isBehindCall_96 : decode cX12_isBehindCall 96 = .ok (.iconst 1, 1) := by decide +kernel
theorem dX12_isBehindCall_97 : decode cX12_isBehindCall 97 = .ok (.goto 4, 3) := by decide +kernel
theorem dX12_isBehindCall_100 : decode cX12_isBehindCall 100 = .ok (.iconst 0, 1) := by decide +kernel
theorem dX12_isBehindCall_101 : decode cX12_isBehindCall 101 = .ok (.ireturn, 1) := by decide +kernel
theorem dX12_goesByPart_0 : decode cX12_goesByPart 0 = .ok (.aload_n 0, 1) := by decide +kernel
theorem dX12_goesByPart_1 : decode cX12_goesByPart 1 = .ok (.getfield 236, 3) := by decide +kernel
theorem dX12_goesByPart_4 : decode cX12_goesByPart 4 = .ok (.iconst 1, 1) := by decide +kernel
theorem dX12_goesByPart_5 : decode cX12_goesByPart 5 = .ok (.isub, 1) := by decide +kernel
theorem dX12_goesByPart_6 : decode cX12_goesByPart 6 = .ok (.istore_n 1, 1) := by decide +kernel
theorem dX12_goesByPart_7 : decode cX12_goesByPart 7 = .ok (.aload_n 0, 1) := by decide +kernel
theorem dX12_goesByPart_8 : decode cX12_goesByPart 8 = .ok (.getfield 114, 3) := by decide +kernel
theorem dX12_goesByPart_11 : decode cX12_goesByPart 11 = .ok (.iload_n 1, 1) := by decide +kernel
theorem dX12_goesByPart_12 : decode cX12_goesByPart 12 = .ok (.iaload, 1) := by decide +kernel
theorem dX12_goesByPart_13 : decode cX12_goesByPart 13 = .ok (.istore_n 2, 1) := by decide +kernel
theorem dX12_goesByPart_14 : decode cX12_goesByPart 14 = .ok (.sipush 640, 3) := by decide +kernel
theorem dX12_goesByPart_17 : decode cX12_goesByPart 17 = .ok (.aload_n 0, 1) := by decide +kernel
theorem dX12_goesByPart_18 : decode cX12_goesByPart 18 = .ok (.getfield 117, 3) := by decide +kernel
theorem dX12_goesByPart_21 : decode cX12_goesByPart 21 = .ok (.iload_n 1, 1) := by decide +kernel
theorem dX12_goesByPart_22 : decode cX12_goesByPart 22 = .ok (.iaload, 1) := by decide +kernel
theorem dX12_goesByPart_23 : decode cX12_goesByPart 23 = .ok (.imul, 1) := by decide +kernel
theorem dX12_goesByPart_24 : decode cX12_goesByPart 24 = .ok (.iload_n 2, 1) := by decide +kernel
theorem dX12_goesByPart_25 : decode cX12_goesByPart 25 = .ok (.iadd, 1) := by decide +kernel
theorem dX12_goesByPart_26 : decode cX12_goesByPart 26 = .ok (.istore_n 3, 1) := by decide +kernel
theorem dX12_goesByPart_27 : decode cX12_goesByPart 27 = .ok (.bipush 15, 2) := by decide +kernel
theorem dX12_goesByPart_29 : decode cX12_goesByPart 29 = .ok (.iload_n 1, 1) := by decide +kernel
theorem dX12_goesByPart_30 : decode cX12_goesByPart 30 = .ok (.imul, 1) := by decide +kernel
theorem dX12_goesByPart_31 : decode cX12_goesByPart 31 = .ok (.istore 4, 2) := by decide +kernel
theorem dX12_goesByPart_33 : decode cX12_goesByPart 33 = .ok (.aload_n 0, 1) := by decide +kernel
theorem dX12_goesByPart_34 : decode cX12_goesByPart 34 = .ok (.getfield 84, 3) := by decide +kernel
theorem dX12_goesByPart_37 : decode cX12_goesByPart 37 = .ok (.iload_n 3, 1) := by decide +kernel
theorem dX12_goesByPart_38 : decode cX12_goesByPart 38 = .ok (.iaload, 1) := by decide +kernel
theorem dX12_goesByPart_39 : decode cX12_goesByPart 39 = .ok (.istore 5, 2) := by decide +kernel
theorem dX12_goesByPart_41 : decode cX12_goesByPart 41 = .ok (.aload_n 0, 1) := by decide +kernel
theorem dX12_goesByPart_42 : decode cX12_goesByPart 42 = .ok (.getfield 87, 3) := by decide +kernel
theorem dX12_goesByPart_45 : decode cX12_goesByPart 45 = .ok (.iload_n 3, 1) := by decide +kernel
theorem dX12_goesByPart_46 : decode cX12_goesByPart 46 = .ok (.iaload, 1) := by decide +kernel
theorem dX12_goesByPart_47 : decode cX12_goesByPart 47 = .ok (.istore 6, 2) := by decide +kernel
theorem dX12_goesByPart_49 : decode cX12_goesByPart 49 = .ok (.aload_n 0, 1) := by decide +kernel
theorem dX12_goesByPart_50 : decode cX12_goesByPart 50 = .ok (.getfield 90, 3) := by decide +kernel
theorem dX12_goesByPart_53 : decode cX12_goesByPart 53 = .ok (.iload_n 3, 1) := by decide +kernel
theorem dX12_goesByPart_54 : decode cX12_goesByPart 54 = .ok (.iaload, 1) := by decide +kernel
theorem dX12_goesByPart_55 : decode cX12_goesByPart 55 = .ok (.istore 7, 2) := by decide +kernel
theorem dX12_goesByPart_57 : decode cX12_goesByPart 57 = .ok (.aload_n 0, 1) := by decide +kernel
theorem dX12_goesByPart_58 : decode cX12_goesByPart 58 = .ok (.getfield 93, 3) := by decide +kernel
theorem dX12_goesByPart_61 : decode cX12_goesByPart 61 = .ok (.iload_n 3, 1) := by decide +kernel
theorem dX12_goesByPart_62 : decode cX12_goesByPart 62 = .ok (.iaload, 1) := by decide +kernel
theorem dX12_goesByPart_63 : decode cX12_goesByPart 63 = .ok (.istore 8, 2) := by decide +kernel
theorem dX12_goesByPart_65 : decode cX12_goesByPart 65 = .ok (.iconst 0, 1) := by decide +kernel
theorem dX12_goesByPart_66 : decode cX12_goesByPart 66 = .ok (.istore 9, 2) := by decide +kernel
theorem dX12_goesByPart_68 : decode cX12_goesByPart 68 = .ok (.aload_n 0, 1) := by decide +kernel
theorem dX12_goesByPart_69 : decode cX12_goesByPart 69 = .ok (.getfield 114, 3) := by decide +kernel
theorem dX12_goesByPart_72 : decode cX12_goesByPart 72 = .ok (.iload_n 1, 1) := by decide +kernel
theorem dX12_goesByPart_73 : decode cX12_goesByPart 73 = .ok (.iload_n 2, 1) := by decide +kernel
theorem dX12_goesByPart_74 : decode cX12_goesByPart 74 = .ok (.iconst 1, 1) := by decide +kernel
theorem dX12_goesByPart_75 : decode cX12_goesByPart 75 = .ok (.iadd, 1) := by decide +kernel
theorem dX12_goesByPart_76 : decode cX12_goesByPart 76 = .ok (.iastore, 1) := by decide +kernel
theorem dX12_goesByPart_77 : decode cX12_goesByPart 77 = .ok (.aload_n 0, 1) := by decide +kernel
theorem dX12_goesByPart_78 : decode cX12_goesByPart 78 = .ok (.getfield 81, 3) := by decide +kernel
theorem dX12_goesByPart_81 : decode cX12_goesByPart 81 = .ok (.iload_n 3, 1) := by decide +kernel
theorem dX12_goesByPart_82 : decode cX12_goesByPart 82 = .ok (.iaload, 1) := by decide +kernel
theorem dX12_goesByPart_83 : decode cX12_goesByPart 83 = .ok (.tableswitch 490 0 18 #[89, 104, 490, 490, 490, 490, 490, 490, 127, 167, 220, 247, 264, 284, 304, 325, 382, 439, 465], 89) := by decide +kernel
theorem dX12_goesByPart_172 : decode cX12_goesByPart 172 = .ok (.aload_n 0, 1) := by decide +kernel
theorem dX12_goesByPart_173 : decode cX12_goesByPart 173 = .ok (.getfield 123, 3) := by decide +kernel
theorem dX12_goesByPart_176 : decode cX12_goesByPart 176 = .ok (.iload 4, 2) := by decide +kernel
theorem dX12_goesByPart_178 : decode cX12_goesByPart 178 = .ok (.iload 5, 2) := by decide +kernel
theorem dX12_goesByPart_180 : decode cX12_goesByPart 180 = .ok (.iadd, 1) := by decide +kernel
theorem dX12_goesByPart_181 : decode cX12_goesByPart 181 = .ok (.iload 6, 2) := by decide +kernel
theorem dX12_goesByPart_183 : decode cX12_goesByPart 183 = .ok (.iastore, 1) := by decide +kernel
theorem dX12_goesByPart_184 : decode cX12_goesByPart 184 = .ok (.goto 465, 3) := by decide +kernel
theorem dX12_goesByPart_187 : decode cX12_goesByPart 187 = .ok (.aload_n 0, 1) := by decide +kernel
theorem dX12_goesByPart_188 : decode cX12_goesByPart 188 = .ok (.getfield 123, 3) := by decide +kernel
theorem dX12_goesByPart_191 : decode cX12_goesByPart 191 = .ok (.iload 4, 2) := by decide +kernel
theorem dX12_goesByPart_193 : decode cX12_goesByPart 193 = .ok (.iload 5, 2) := by decide +kernel
theorem dX12_goesByPart_195 : decode cX12_goesByPart 195 = .ok (.iadd, 1) := by decide +kernel
theorem dX12_goesByPart_196 : decode cX12_goesByPart 196 = .ok (.aload_n 0, 1) := by decide +kernel
theorem dX12_goesByPart_197 : decode cX12_goesByPart 197 = .ok (.getfield 123, 3) := by decide +kernel
theorem dX12_goesByPart_200 : decode cX12_goesByPart 200 = .ok (.iload 4, 2) := by decide +kernel
theorem dX12_goesByPart_202 : decode cX12_goesByPart 202 = .ok (.iload 6, 2) := by decide +kernel
theorem dX12_goesByPart_204 : decode cX12_goesByPart 204 = .ok (.iadd, 1) := by decide +kernel
theorem dX12_goesByPart_205 : decode cX12_goesByPart 205 = .ok (.iaload, 1) := by decide +kernel
theorem dX12_goesByPart_206 : decode cX12_goesByPart 206 = .ok (.iastore, 1) := by decide +kernel
theorem dX12_goesByPart_207 : decode cX12_goesByPart 207 = .ok (.goto 442, 3) := by decide +kernel
theorem dX12_goesByPart_210 : decode cX12_goesByPart 210 = .ok (.iload 5, 2) := by decide +kernel
theorem dX12_goesByPart_212 : decode cX12_goesByPart 212 = .ok (.iload 8, 2) := by decide +kernel
theorem dX12_goesByPart_214 : decode cX12_goesByPart 214 = .ok (.if_icmp .gt 10, 3) := by decide +kernel
theorem dX12_goesByPart_217 : decode cX12_goesByPart 217 = .ok (.aload_n 0, 1) := by decide +kernel
theorem dX12_goesByPart_218 : decode cX12_goesByPart 218 = .ok (.invokevirtual 242, 3) := by decide +kernel
theorem dX12_goesByPart_221 : decode cX12_goesByPart 221 = .ok (.ifCond .eq 428, 3) := by decide +kernel
theorem dX12_goesByPart_224 : decode cX12_goesByPart 224 = .ok (.aload_n 0, 1) := by decide +kernel
theorem dX12_goesByPart_225 : decode cX12_goesByPart 225 = .ok (.getfield 114, 3) := by decide +kernel
theorem dX12_goesByPart_228 : decode cX12_goesByPart 228 = .ok (.iload_n 1, 1) := by decide +kernel
theorem dX12_goesByPart_229 : decode cX12_goesByPart 229 = .ok (.aload_n 0, 1) := by decide +kernel
theorem dX12_goesByPart_230 : decode cX12_goesByPart 230 = .ok (.getfield 77, 3) := by decide +kernel
theorem dX12_goesByPart_233 : decode cX12_goesByPart 233 = .ok (.bipush 60, 2) := by decide +kernel
theorem dX12_goesByPart_235 : decode cX12_goesByPart 235 = .ok (.aload_n 0, 1) := by decide +kernel
theorem dX12_goesByPart_236 : decode cX12_goesByPart 236 = .ok (.getfield 117, 3) := by decide +kernel
theorem dX12_goesByPart_239 : decode cX12_goesByPart 239 = .ok (.iload_n 1, 1) := by decide +kernel
theorem dX12_goesByPart_240 : decode cX12_goesByPart 240 = .ok (.iaload, 1) := by decide +kernel
theorem dX12_goesByPart_241 : decode cX12_goesByPart 241 = .ok (.imul, 1) := by decide +kernel
theorem dX12_goesByPart_242 : decode cX12_goesByPart 242 = .ok (.iload 5, 2) := by decide +kernel
theorem dX12_goesByPart_244 : decode cX12_goesByPart 244 = .ok (.iadd, 1) := by decide +kernel
theorem dX12_goesByPart_245 : decode cX12_goesByPart 245 = .ok (.iaload, 1) := by decide +kernel
theorem dX12_goesByPart_246 : decode cX12_goesByPart 246 = .ok (.iastore, 1) := by decide +kernel
theorem dX12_goesByPart_247 : decode cX12_goesByPart 247 = .ok (.goto 402, 3) := by decide +kernel
theorem dX12_goesByPart_250 : decode cX12_goesByPart 250 = .ok (.aload_n 0, 1) := by decide +kernel
theorem dX12_goesByPart_251 : decode cX12_goesByPart 251 = .ok (.getfield 123, 3) := by decide +kernel
theorem dX12_goesByPart_254 : decode cX12_goesByPart 254 = .ok (.iload 4, 2) := by decide +kernel
theorem dX12_goesByPart_256 : decode cX12_goesByPart 256 = .ok (.iload 6, 2) := by decide +kernel
theorem dX12_goesByPart_258 : decode cX12_goesByPart 258 = .ok (.iadd, 1) := by decide +kernel
theorem dX12_goesByPart_259 : decode cX12_goesByPart 259 = .ok (.iaload, 1) := by decide +kernel
theorem dX12_goesByPart_260 : decode cX12_goesByPart 260 = .ok (.ifCond .ne 389, 3) := by decide +kernel
theorem dX12_goesByPart_263 : decode cX12_goesByPart 263 = .ok (.iload 5, 2) := by decide +kernel
theorem dX12_goesByPart_265 : decode cX12_goesByPart 265 = .ok (.iload 8, 2) := by decide +kernel
theorem dX12_goesByPart_267 : decode cX12_goesByPart 267 = .ok (.if_icmp .gt 10, 3) := by decide +kernel
theorem dX12_goesByPart_270 : decode cX12_goesByPart 270 = .ok (.aload_n 0, 1) := by decide +kernel
theorem dX12_goesByPart_271 : decode cX12_goesByPart 271 = .ok (.invokevirtual 242, 3) := by decide +kernel
theorem dX12_goesByPart_274 : decode cX12_goesByPart 274 = .ok (.ifCond .eq 375, 3) := by decide +kernel
theorem dX12_goesByPart_277 : decode cX12_goesByPart 277 = .ok (.aload_n 0, 1) := by decide +kernel
theorem dX12_goesByPart_278 : decode cX12_goesByPart 278 = .ok (.getfield 114, 3) := by decide +kernel
theorem dX12_goesByPart_281 : decode cX12_goesByPart 281 = .ok (.iload_n 1, 1) := by decide +kernel
theorem dX12_goesByPart_282 : decode cX12_goesByPart 282 = .ok (.aload_n 0, 1) := by decide +kernel
theorem dX12_goesByPart_283 : decode cX12_goesByPart 283 = .ok (.getfield 77, 3) := by decide +kernel
theorem dX12_goesByPart_286 : decode cX12_goesByPart 286 = .ok (.bipush 60, 2) := by decide +kernel
theorem dX12_goesByPart_288 : decode cX12_goesByPart 288 = .ok (.aload_n 0, 1) := by decide +kernel
theorem dX12_goesByPart_289 : decode cX12_goesByPart 289 = .ok (.getfield 117, 3) := by decide +kernel
theorem dX12_goesByPart_292 : decode cX12_goesByPart 292 = .ok (.iload_n 1, 1) := by decide +kernel
theorem dX12_goesByPart_293 : decode cX12_goesByPart 293 = .ok (.iaload, 1) := by decide +kernel
theorem dX12_goesByPart_294 : decode cX12_goesByPart 294 = .ok (.imul, 1) := by decide +kernel
theorem dX12_goesByPart_295 : decode cX12_goesByPart 295 = .ok (.iload 5, 2) := by decide +kernel
theorem dX12_goesByPart_297 : decode cX12_goesByPart 297 = .ok (.iadd, 1) := by decide +kernel
theorem dX12_goesByPart_298 : decode cX12_goesByPart 298 = .ok (.iaload, 1) := by decide +kernel
theorem dX12_goesByPart_299 : decode cX12_goesByPart 299 = .ok (.iastore, 1) := by decide +kernel
theorem dX12_goesByPart_300 : decode cX12_goesByPart 300 = .ok (.goto 349, 3) := by decide +kernel
theorem dX12_goesByPart_303 : decode cX12_goesByPart 303 = .ok (.aload_n 0, 1) := by decide +kernel
theorem dX12_goesByPart_304 : decode cX12_goesByPart 304 = .ok (.getfield 114, 3) := by decide +kernel
theorem dX12_goesByPart_307 : decode cX12_goesByPart 307 = .ok (.iload_n 1, 1) := by decide +kernel
theorem dX12_goesByPart_308 : decode cX12_goesByPart 308 = .ok (.iload_n 2, 1) := by decide +kernel
theorem dX12_goesByPart_309 : decode cX12_goesByPart 309 = .ok (.iastore, 1) := by decide +kernel
theorem dX12_goesByPart_310 : decode cX12_goesByPart 310 = .ok (.aload_n 0, 1) := by decide +kernel
theorem dX12_goesByPart_311 : decode cX12_goesByPart 311 = .ok (.iload 6, 2) := by decide +kernel
theorem dX12_goesByPart_313 : decode cX12_goesByPart 313 = .ok (.aload_n 0, 1) := by decide +kernel
theorem dX12_goesByPart_314 : decode cX12_goesByPart 314 = .ok (.getfield 123, 3) := by decide +kernel
theorem dX12_goesByPart_317 : decode cX12_goesByPart 317 = .ok (.iload 4, 2) := by decide +kernel
theorem dX12_goesByPart_319 : decode cX12_goesByPart 319 = .ok (.iload 5, 2) := by decide +kernel
theorem dX12_goesByPart_321 : decode cX12_goesByPart 321 = .ok (.iadd, 1) := by decide +kernel
theorem dX12_goesByPart_322 : decode cX12_goesByPart 322 = .ok (.iload 8, 2) := by decide +kernel
theorem dX12_goesByPart_324 : decode cX12_goesByPart 324 = .ok (.invokevirtual 262, 3) := by decide +kernel
theorem dX12_goesByPart_327 : decode cX12_goesByPart 327 = .ok (.goto 322, 3) := by decide +kernel
theorem dX12_goesByPart_330 : decode cX12_goesByPart 330 = .ok (.aload_n 0, 1) := by decide +kernel
theorem dX12_goesByPart_331 : decode cX12_goesByPart 331 = .ok (.aload_n 0, 1) := by decide +kernel
theorem dX12_goesByPart_332 : decode cX12_goesByPart 332 = .ok (.getfield 123, 3) := by decide +kernel
theorem dX12_goesByPart_335 : decode cX12_goesByPart 335 = .ok (.iload 4, 2) := by decide +kernel
theorem dX12_goesByPart_337 : decode cX12_goesByPart 337 = .ok (.iload 6, 2) := by decide +kernel
theorem dX12_goesByPart_339 : decode cX12_goesByPart 339 = .ok (.iadd, 1) := by decide +kernel
theorem dX12_goesByPart_340 : decode cX12_goesByPart 340 = .ok (.iaload, 1) := by decide +kernel
theorem dX12_goesByPart_341 : decode cX12_goesByPart 341 = .ok (.invokevirtual 266, 3) := by decide +kernel
theorem dX12_goesByPart_344 : decode cX12_goesByPart 344 = .ok (.goto 305, 3) := by decide +kernel
theorem dX12_goesByPart_347 : decode cX12_goesByPart 347 = .ok (.aload_n 0, 1) := by decide +kernel
theorem dX12_goesByPart_348 : decode cX12_goesByPart 348 = .ok (.getfield 123, 3) := by decide +kernel
theorem dX12_goesByPart_351 : decode cX12_goesByPart 351 = .ok (.iload 4, 2) := by decide +kernel
theorem dX12_goesByPart_353 : decode cX12_goesByPart 353 = .ok (.iload 5, 2) := by decide +kernel
theorem dX12_goesByPart_355 : decode cX12_goesByPart 355 = .ok (.iadd, 1) := by decide +kernel
theorem dX12_goesByPart_356 : decode cX12_goesByPart 356 = .ok (.aload_n 0, 1) := by decide +kernel
theorem dX12_goesByPart_357 : decode cX12_goesByPart 357 = .ok (.getfield 41, 3) := by decide +kernel
theorem dX12_goesByPart_360 : decode cX12_goesByPart 360 = .ok (.iload 6, 2) := by decide +kernel
theorem dX12_goesByPart_362 : decode cX12_goesByPart 362 = .ok (.iaload, 1) := by decide +kernel
theorem dX12_goesByPart_363 : decode cX12_goesByPart 363 = .ok (.iastore, 1) := by decide +kernel
theorem dX12_goesByPart_364 : decode cX12_goesByPart 364 = .ok (.goto 285, 3) := by decide +kernel
theorem dX12_goesByPart_367 : decode cX12_goesByPart 367 = .ok (.aload_n 0, 1) := by decide +kernel
theorem dX12_goesByPart_368 : decode cX12_goesByPart 368 = .ok (.getfield 41, 3) := by decide +kernel
theorem dX12_goesByPart_371 : decode cX12_goesByPart 371 = .ok (.iload 5, 2) := by decide +kernel
theorem dX12_goesByPart_373 : decode cX12_goesByPart 373 = .ok (.aload_n 0, 1) := by decide +kernel
theorem dX12_goesByPart_374 : decode cX12_goesByPart 374 = .ok (.getfield 123, 3) := by decide +kernel
theorem dX12_goesByPart_377 : decode cX12_goesByPart 377 = .ok (.iload 4, 2) := by decide +kernel
theorem dX12_goesByPart_379 : decode cX12_goesByPart 379 = .ok (.iload 6, 2) := by decide +kernel
theorem dX12_goesByPart_381 : decode cX12_goesByPart 381 = .ok (.iadd, 1) := by decide +kernel
theorem dX12_goesByPart_382 : decode cX12_goesByPart 382 = .ok (.iaload, 1) := by decide +kernel
theorem dX12_goesByPart_383 : decode cX12_goesByPart 383 = .ok (.iastore, 1) := by decide +kernel
theorem dX12_goesByPart_384 : decode cX12_goesByPart 384 = .ok (.goto 265, 3) := by decide +kernel
theorem dX12_goesByPart_387 : decode cX12_goesByPart 387 = .ok (.aload_n 0, 1) := by decide +kernel
theorem dX12_goesByPart_388 : decode cX12_goesByPart 388 = .ok (.iload 5, 2) := by decide +kernel
theorem dX12_goesByPart_390 : decode cX12_goesByPart 390 = .ok (.aload_n 0, 1) := by decide +kernel
theorem dX12_goesByPart_391 : decode cX12_goesByPart 391 = .ok (.getfield 123, 3) := by decide +kernel
theorem dX12_goesByPart_394 : decode cX12_goesByPart 394 = .ok (.iload 4, 2) := by decide +kernel
theorem dX12_goesByPart_396 : decode cX12_goesByPart 396 = .ok (.iload 6, 2) := by decide +kernel
theorem dX12_goesByPart_398 : decode cX12_goesByPart 398 = .ok (.iadd, 1) := by decide +kernel
theorem dX12_goesByPart_399 : decode cX12_goesByPart 399 = .ok (.iaload, 1) := by decide +kernel
theorem dX12_goesByPart_400 : decode cX12_goesByPart 400 = .ok (.invokevirtual 269, 3) := by decide +kernel
theorem dX12_goesByPart_403 : decode cX12_goesByPart 403 = .ok (.istore 9, 2) := by decide +kernel
theorem dX12_goesByPart_405 : decode cX12_goesByPart 405 = .ok (.goto 244, 3) := by decide +kernel
theorem dX12_goesByPart_408 : decode cX12_goesByPart 408 = .ok (.aload_n 0, 1) := by decide +kernel
theorem dX12_goesByPart_409 : decode cX12_goesByPart 409 = .ok (.iload 6, 2) := by decide +kernel
theorem dX12_goesByPart_411 : decode cX12_goesByPart 411 = .ok (.aload_n 0, 1) := by decide +kernel
theorem dX12_goesByPart_412 : decode cX12_goesByPart 412 = .ok (.getfield 123, 3) := by decide +kernel
theorem dX12_goesByPart_415 : decode cX12_goesByPart 415 = .ok (.iload 4, 2) := by decide +kernel
theorem dX12_goesByPart_417 : decode cX12_goesByPart 417 = .ok (.iload 7, 2) := by decide +kernel
theorem dX12_goesByPart_419 : decode cX12_goesByPart 419 = .ok (.iadd, 1) := by decide +kernel
theorem dX12_goesByPart_420 : decode cX12_goesByPart 420 = .ok (.iaload, 1) := by decide +kernel
theorem dX12_goesByPart_421 : decode cX12_goesByPart 421 = .ok (.invokevirtual 272, 3) := by decide +kernel
theorem dX12_goesByPart_424 : decode cX12_goesByPart 424 = .ok (.istore 9, 2) := by decide +kernel
theorem dX12_goesByPart_426 : decode cX12_goesByPart 426 = .ok (.iload 9, 2) := by decide +kernel
theorem dX12_goesByPart_428 : decode cX12_goesByPart 428 = .ok (.ifCond .ne 221, 3) := by decide +kernel
theorem dX12_goesByPart_431 : decode cX12_goesByPart 431 = .ok (.aload_n 0, 1) := by decide +kernel
theorem dX12_goesByPart_432 : decode cX12_goesByPart 432 = .ok (.getfield 123, 3) := by decide +kernel
theorem dX12_goesByPart_435 : decode cX12_goesByPart 435 = .ok (.iload 4, 2) := by decide +kernel
theorem dX12_goesByPart_437 : decode cX12_goesByPart 437 = .ok (.iload 5, 2) := by decide +kernel
theorem dX12_goesByPart_439 : decode cX12_goesByPart 439 = .ok (.iadd, 1) := by decide +kernel
theorem dX12_goesByPart_440 : decode cX12_goesByPart 440 = .ok (.aload_n 0, 1) := by decide +kernel
theorem dX12_goesByPart_441 : decode cX12_goesByPart 441 = .ok (.getfield 47, 3) := by decide +kernel
theorem dX12_goesByPart_444 : decode cX12_goesByPart 444 = .ok (.bipush 20, 2) := by decide +kernel
theorem dX12_goesByPart_446 : decode cX12_goesByPart 446 = .ok (.iload 6, 2) := by decide +kernel
theorem dX12_goesByPart_448 : decode cX12_goesByPart 448 = .ok (.imul, 1) := by decide +kernel
theorem dX12_goesByPart_449 : decode cX12_goesByPart 449 = .ok (.aload_n 0, 1) := by decide +kernel
theorem dX12_goesByPart_450 : decode cX12_goesByPart 450 = .ok (.getfield 123, 3) := by decide +kernel
theorem dX12_goesByPart_453 : decode cX12_goesByPart 453 = .ok (.iload 4, 2) := by decide +kernel
theorem dX12_goesByPart_455 : decode cX12_goesByPart 455 = .ok (.iload 7, 2) := by decide +kernel
theorem dX12_goesByPart_457 : decode cX12_goesByPart 457 = .ok (.iadd, 1) := by decide +kernel
theorem dX12_goesByPart_458 : decode cX12_goesByPart 458 = .ok (.iaload, 1) := by decide +kernel
theorem dX12_goesByPart_459 : decode cX12_goesByPart 459 = .ok (.iadd, 1) := by decide +kernel
theorem dX12_goesByPart_460 : decode cX12_goesByPart 460 = .ok (.iaload, 1) := by decide +kernel
theorem dX12_goesByPart_461 : decode cX12_goesByPart 461 = .ok (.iastore, 1) := by decide +kernel
theorem dX12_goesByPart_462 : decode cX12_goesByPart 462 = .ok (.goto 187, 3) := by decide +kernel
theorem dX12_goesByPart_465 : decode cX12_goesByPart 465 = .ok (.aload_n 0, 1) := by decide +kernel
theorem dX12_goesByPart_466 : decode cX12_goesByPart 466 = .ok (.iload 5, 2) := by decide +kernel
theorem dX12_goesByPart_468 : decode cX12_goesByPart 468 = .ok (.aload_n 0, 1) := by decide +kernel
theorem dX12_goesByPart_469 : decode cX12_goesByPart 469 = .ok (.getfield 123, 3) := by decide +kernel
theorem dX12_goesByPart_472 : decode cX12_goesByPart 472 = .ok (.iload 4, 2) := by decide +kernel
theorem dX12_goesByPart_474 : decode cX12_goesByPart 474 = .ok (.iload 6, 2) := by decide +kernel
theorem dX12_goesByPart_476 : decode cX12_goesByPart 476 = .ok (.iadd, 1) := by decide +kernel
theorem dX12_goesByPart_477 : decode cX12_goesByPart 477 = .ok (.iaload, 1) := by decide +kernel
theorem dX12_goesByPart_478 : decode cX12_goesByPart 478 = .ok (.invokevirtual 272, 3) := by decide +kernel
theorem dX12_goesByPart_481 : decode cX12_goesByPart 481 = .ok (.istore 9, 2) := by decide +kernel
theorem dX12_goesByPart_483 : decode cX12_goesByPart 483 = .ok (.iload 9, 2) := by decide +kernel
theorem dX12_goesByPart_485 : decode cX12_goesByPart 485 = .ok (.ifCond .ne 164, 3) := by decide +kernel
theorem dX12_goesByPart_488 : decode cX12_goesByPart 488 = .ok (.aload_n 0, 1) := by decide +kernel
theorem dX12_goesByPart_489 : decode cX12_goesByPart 489 = .ok (.getfield 47, 3) := by decide +kernel
theorem dX12_goesByPart_492 : decode cX12_goesByPart 492 = .ok (.bipush 20, 2) := by decide +kernel
theorem dX12_goesByPart_494 : decode cX12_goesByPart 494 = .ok (.iload 5, 2) := by decide +kernel
theorem dX12_goesByPart_496 : decode cX12_goesByPart 496 = .ok (.imul, 1) := by decide +kernel
theorem dX12_goesByPart_497 : decode cX12_goesByPart 497 = .ok (.aload_n 0, 1) := by decide +kernel
theorem dX12_goesByPart_498 : decode cX12_goesByPart 498 = .ok (.getfield 123, 3) := by decide +kernel
theorem dX12_goesByPart_501 : decode cX12_goesByPart 501 = .ok (.iload 4, 2) := by decide +kernel
theorem dX12_goesByPart_503 : decode cX12_goesByPart 503 = .ok (.iload 6, 2) := by decide +kernel
theorem dX12_goesByPart_505 : decode cX12_goesByPart 505 = .ok (.iadd, 1) := by decide +kernel
theorem dX12_goesByPart_506 : decode cX12_goesByPart 506 = .ok (.iaload, 1) := by decide +kernel
theorem dX12_goesByPart_507 : decode cX12_goesByPart 507 = .ok (.iadd, 1) := by decide +kernel
theorem dX12_goesByPart_508 : decode cX12_goesByPart 508 = .ok (.aload_n 0, 1) := by decide +kernel
theorem dX12_goesByPart_509 : decode cX12_goesByPart 509 = .ok (.getfield 123, 3) := by decide +kernel
theorem dX12_goesByPart_512 : decode cX12_goesByPart 512 = .ok (.iload 4, 2) := by decide +kernel
theorem dX12_goesByPart_514 : decode cX12_goesByPart 514 = .ok (.iload 7, 2) := by decide +kernel
theorem dX12_goesByPart_516 : decode cX12_goesByPart 516 = .ok (.iadd, 1) := by decide +kernel
theorem dX12_goesByPart_517 : decode cX12_goesByPart 517 = .ok (.iaload, 1) := by decide +kernel
theorem dX12_goesByPart_518 : decode cX12_goesByPart 518 = .ok (.iastore, 1) := by decide +kernel
theorem dX12_goesByPart_519 : decode cX12_goesByPart 519 = .ok (.goto 130, 3) := by decide +kernel
theorem dX12_goesByPart_522 : decode cX12_goesByPart 522 = .ok (.aload_n 0, 1) := by decide +kernel
theorem dX12_goesByPart_523 : decode cX12_goesByPart 523 = .ok (.getfield 123, 3) := by decide +kernel
theorem dX12_goesByPart_526 : decode cX12_goesByPart 526 = .ok (.iload 4, 2) := by decide +kernel
theorem dX12_goesByPart_528 : decode cX12_goesByPart 528 = .ok (.iload 5, 2) := by decide +kernel
theorem dX12_goesByPart_530 : decode cX12_goesByPart 530 = .ok (.iadd, 1) := by decide +kernel
theorem dX12_goesByPart_531 : decode cX12_goesByPart 531 = .ok (.iaload, 1) := by decide +kernel
theorem dX12_goesByPart_532 : decode cX12_goesByPart 532 = .ok (.iload 6, 2) := by decide +kernel
theorem dX12_goesByPart_534 : decode cX12_goesByPart 534 = .ok (.if_icmp .eq 115, 3) := by decide +kernel
theorem dX12_goesByPart_537 : decode cX12_goesByPart 537 = .ok (.aload_n 0, 1) := by decide +kernel
theorem dX12_goesByPart_538 : decode cX12_goesByPart 538 = .ok (.iload_n 1, 1) := by decide +kernel
theorem dX12_goesByPart_539 : decode cX12_goesByPart 539 = .ok (.iload_n 3, 1) := by decide +kernel
theorem dX12_goesByPart_540 : decode cX12_goesByPart 540 = .ok (.iload 5, 2) := by decide +kernel
theorem dX12_goesByPart_542 : decode cX12_goesByPart 542 = .ok (.invokevirtual 281, 3) := by decide +kernel
theorem dX12_goesByPart_545 : decode cX12_goesByPart 545 = .ok (.goto 104, 3) := by decide +kernel
theorem dX12_goesByPart_548 : decode cX12_goesByPart 548 = .ok (.aload_n 0, 1) := by decide +kernel
theorem dX12_goesByPart_549 : decode cX12_goesByPart 549 = .ok (.getfield 41, 3) := by decide +kernel
theorem dX12_goesByPart_552 : decode cX12_goesByPart 552 = .ok (.iload 5, 2) := by decide +kernel
theorem dX12_goesByPart_554 : decode cX12_goesByPart 554 = .ok (.iaload, 1) := by decide +kernel
theorem dX12_goesByPart_555 : decode cX12_goesByPart 555 = .ok (.iload 6, 2) := by decide +kernel
theorem dX12_goesByPart_557 : decode cX12_goesByPart 557 = .ok (.if_icmp .eq 92, 3) := by decide +kernel
theorem dX12_goesByPart_560 : decode cX12_goesByPart 560 = .ok (.aload_n 0, 1) := by decide +kernel
theorem dX12_goesByPart_561 : decode cX12_goesByPart 561 = .ok (.iload_n 1, 1) := by decide +kernel
theorem dX12_goesByPart_562 : decode cX12_goesByPart 562 = .ok (.iload_n 3, 1) := by decide +kernel
theorem dX12_goesByPart_563 : decode cX12_goesByPart 563 = .ok (.iconst 3, 1) := by decide +kernel
theorem dX12_goesByPart_564 : decode cX12_goesByPart 564 = .ok (.iload 5, 2) := by decide +kernel
theorem dX12_goesByPart_566 : decode cX12_goesByPart 566 = .ok (.iadd, 1) := by decide +kernel
theorem dX12_goesByPart_567 : decode cX12_goesByPart 567 = .ok (.invokevirtual 281, 3) := by decide +kernel
theorem dX12_goesByPart_570 : decode cX12_goesByPart 570 = .ok (.goto 79, 3) := by decide +kernel
theorem dX12_goesByPart_573 : decode cX12_goesByPart 573 = .ok (.aload_n 0, 1) := by decide +kernel
theorem dX12_goesByPart_574 : decode cX12_goesByPart 574 = .ok (.getfield 81, 3) := by decide +kernel
theorem dX12_goesByPart_577 : decode cX12_goesByPart 577 = .ok (.iload_n 3, 1) := by decide +kernel
theorem dX12_goesByPart_578 : decode cX12_goesByPart 578 = .ok (.iaload, 1) := by decide +kernel
theorem dX12_goesByPart_579 : decode cX12_goesByPart 579 = .ok (.iconst 5, 1) := by decide +kernel
theorem dX12_goesByPart_580 : decode cX12_goesByPart 580 = .ok (.if_icmp .ne 20, 3) := by decide +kernel
theorem dX12_goesByPart_583 : decode cX12_goesByPart 583 = .ok (.aload_n 0, 1) := by decide +kernel
theorem dX12_goesByPart_584 : decode cX12_goesByPart 584 = .ok (.getfield 123, 3) := by decide +kernel
theorem dX12_goesByPart_587 : decode cX12_goesByPart 587 = .ok (.iload 4, 2) := by decide +kernel
theorem dX12_goesByPart_589 : decode cX12_goesByPart 589 = .ok (.iload 7, 2) := by decide +kernel
theorem dX12_goesByPart_591 : decode cX12_goesByPart 591 = .ok (.iadd, 1) := by decide +kernel
theorem dX12_goesByPart_592 : decode cX12_goesByPart 592 = .ok (.iaload, 1) := by decide +kernel
theorem dX12_goesByPart_593 : decode cX12_goesByPart 593 = .ok (.ifCond .ne 7, 3) := by decide +kernel
theorem dX12_goesByPart_596 : decode cX12_goesByPart 596 = .ok (.iconst 1, 1) := by decide +kernel
theorem dX12_goesByPart_597 : decode cX12_goesByPart 597 = .ok (.goto 4, 3) := by decide +kernel
theorem dX12_goesByPart_600 : decode cX12_goesByPart 600 = .ok (.iconst 0, 1) := by decide +kernel
theorem dX12_goesByPart_601 : decode cX12_goesByPart 601 = .ok (.istore 9, 2) := by decide +kernel
theorem dX12_goesByPart_603 : decode cX12_goesByPart 603 = .ok (.iload 9, 2) := by decide +kernel
theorem dX12_goesByPart_605 : decode cX12_goesByPart 605 = .ok (.ifCond .ne 44, 3) := by decide +kernel
theorem dX12_goesByPart_608 : decode cX12_goesByPart 608 = .ok (.aload_n 0, 1) := by decide +kernel
theorem dX12_goesByPart_609 : decode cX12_goesByPart 609 = .ok (.getfield 123, 3) := by decide +kernel
theorem dX12_goesByPart_612 : decode cX12_goesByPart 612 = .ok (.iload 4, 2) := by decide +kernel
theorem dX12_goesByPart_614 : decode cX12_goesByPart 614 = .ok (.iload 5, 2) := by decide +kernel
theorem dX12_goesByPart_616 : decode cX12_goesByPart 616 = .ok (.iadd, 1) := by decide +kernel
theorem dX12_goesByPart_617 : decode cX12_goesByPart 617 = .ok (.aload_n 0, 1) := by decide +kernel
theorem dX12_goesByPart_618 : decode cX12_goesByPart 618 = .ok (.getfield 81, 3) := by decide +kernel
theorem dX12_goesByPart_621 : decode cX12_goesByPart 621 = .ok (.iload_n 3, 1) := by decide +kernel
theorem dX12_goesByPart_622 : decode cX12_goesByPart 622 = .ok (.iaload, 1) := by decide +kernel
theorem dX12_goesByPart_623 : decode cX12_goesByPart 623 = .ok (.iconst 1, 1) := by decide +kernel
theorem dX12_goesByPart_624 : decode cX12_goesByPart 624 = .ok (.iadd, 1) := by decide +kernel
theorem dX12_goesByPart_625 : decode cX12_goesByPart 625 = .ok (.aload_n 0, 1) := by decide +kernel
theorem dX12_goesByPart_626 : decode cX12_goesByPart 626 = .ok (.getfield 123, 3) := by decide +kernel
theorem dX12_goesByPart_629 : decode cX12_goesByPart 629 = .ok (.iload 4, 2) := by decide +kernel
theorem dX12_goesByPart_631 : decode cX12_goesByPart 631 = .ok (.iload 6, 2) := by decide +kernel
theorem dX12_goesByPart_633 : decode cX12_goesByPart 633 = .ok (.iadd, 1) := by decide +kernel
theorem dX12_goesByPart_634 : decode cX12_goesByPart 634 = .ok (.iaload, 1) := by decide +kernel
theorem dX12_goesByPart_635 : decode cX12_goesByPart 635 = .ok (.aload_n 0, 1) := by decide +kernel
theorem dX12_goesByPart_636 : decode cX12_goesByPart 636 = .ok (.getfield 123, 3) := by decide +kernel
theorem dX12_goesByPart_639 : decode cX12_goesByPart 639 = .ok (.iload 4, 2) := by decide +kernel
theorem dX12_goesByPart_641 : decode cX12_goesByPart 641 = .ok (.iload 7, 2) := by decide +kernel
theorem dX12_goesByPart_643 : decode cX12_goesByPart 643 = .ok (.iadd, 1) := by decide +kernel
theorem dX12_goesByPart_644 : decode cX12_goesByPart 644 = .ok (.iaload, 1) := by decide +kernel
theorem dX12_goesByPart_645 : decode cX12_goesByPart 645 = .ok (.invokestatic 195, 3) := by decide +kernel
theorem dX12_goesByPart_648 : decode cX12_goesByPart 648 = .ok (.iastore, 1) := by decide +kernel
theorem dX12_goesByPart_649 : decode cX12_goesByPart 649 = .ok (.iload 9, 2) := by decide +kernel
theorem dX12_goesByPart_651 : decode cX12_goesByPart 651 = .ok (.ifCond .eq 11, 3) := by decide +kernel
theorem dX12_goesByPart_654 : decode cX12_goesByPart 654 = .ok (.aload_n 0, 1) := by decide +kernel
theorem dX12_goesByPart_655 : decode cX12_goesByPart 655 = .ok (.iload 9, 2) := by decide +kernel
theorem dX12_goesByPart_657 : decode cX12_goesByPart 657 = .ok (.iload 8, 2) := by decide +kernel
theorem dX12_goesByPart_659 : decode cX12_goesByPart 659 = .ok (.invokevirtual 239, 3) := by decide +kernel
theorem dX12_goesByPart_662 : decode cX12_goesByPart 662 = .ok (.return_, 1) := by decide +kernel
theorem dX12_run_0 : decode cX12_run 0 = .ok (.aload_n 0, 1) := by decide +kernel
theorem dX12_run_1 : decode cX12_run 1 = .ok (.iload_n 1, 1) := by decide +kernel
theorem dX12_run_2 : decode cX12_run 2 = .ok (.invokevirtual 144, 3) := by decide +kernel
theorem dX12_run_5 : decode cX12_run 5 = .ok (.ifCond .ne 6, 3) := by decide +kernel
theorem dX12_run_8 : decode cX12_run 8 = .ok (.bipush (-2), 2) := by decide +kernel
theorem dX12_run_10 : decode cX12_run 10 = .ok (.ireturn, 1) := by decide +kernel
theorem dX12_run_11 : decode cX12_run 11 = .ok (.iconst 0, 1) := by decide +kernel
theorem dX12_run_12 : decode cX12_run 12 = .ok (.istore 5, 2) := by decide +kernel
theorem dX12_run_14 : decode cX12_run 14 = .ok (.iload 5, 2) := by decide +kernel
theorem dX12_run_16 : decode cX12_run 16 = .ok (.aload_n 0, 1) := by decide +kernel
theorem dX12_run_17 : decode cX12_run 17 = .ok (.getfield 140, 3) := by decide +kernel
theorem dX12_run_20 : decode cX12_run 20 = .ok (.if_icmp .ge 22, 3) := by decide +kernel
theorem dX12_run_23 : decode cX12_run 23 = .ok (.aload_n 0, 1) := by decide +kernel
theorem dX12_run_24 : decode cX12_run 24 = .ok (.getfield 25, 3) := by decide +kernel
theorem dX12_run_27 : decode cX12_run 27 = .ok (.iload 5, 2) := by decide +kernel
theorem dX12_run_29 : decode cX12_run 29 = .ok (.baload, 1) := by decide +kernel
theorem dX12_run_30 : decode cX12_run 30 = .ok (.ifCond .ne 6, 3) := by decide +kernel
theorem dX12_run_33 : decode cX12_run 33 = .ok (.bipush (-3), 2) := by decide +kernel
theorem dX12_run_35 : decode cX12_run 35 = .ok (.ireturn, 1) := by decide +kernel
theorem dX12_run_36 : decode cX12_run 36 = .ok (.iinc 5 1, 3) := by decide +kernel
theorem dX12_run_39 : decode cX12_run 39 = .ok (.goto (-25), 3) := by decide +kernel
theorem dX12_run_42 : decode cX12_run 42 = .ok (.aload_n 0, 1) := by decide +kernel
theorem dX12_run_43 : decode cX12_run 43 = .ok (.getfield 285, 3) := by decide +kernel
theorem dX12_run_46 : decode cX12_run 46 = .ok (.bipush 80, 2) := by decide +kernel
theorem dX12_run_48 : decode cX12_run 48 = .ok (.if_icmp .ne 6, 3) := by decide +kernel
theorem dX12_run_51 : decode cX12_run 51 = .ok (.bipush (-4), 2) := by decide +kernel
theorem dX12_run_53 : decode cX12_run 53 = .ok (.ireturn, 1) := by decide +kernel
theorem dX12_run_54 : decode cX12_run 54 = .ok (.aload_n 0, 1) := by decide +kernel
theorem dX12_run_55 : decode cX12_run 55 = .ok (.dup, 1) := by decide +kernel
theorem dX12_run_56 : decode cX12_run 56 = .ok (.getfield 285, 3) := by decide +kernel
theorem dX12_run_59 : decode cX12_run 59 = .ok (.iconst 1, 1) := by decide +kernel
theorem dX12_run_60 : decode cX12_run 60 = .ok (.iadd, 1) := by decide +kernel
theorem dX12_run_61 : decode cX12_run 61 = .ok (.putfield 285, 3) := by decide +kernel
theorem dX12_run_64 : decode cX12_run 64 = .ok (.aload_n 0, 1) := by decide +kernel
theorem dX12_run_65 : decode cX12_run 65 = .ok (.iconst 0, 1) := by decide +kernel
theorem dX12_run_66 : decode cX12_run 66 = .ok (.putfield 233, 3) := by decide +kernel
theorem dX12_run_69 : decode cX12_run 69 = .ok (.aload_n 0, 1) := by decide +kernel
theorem dX12_run_70 : decode cX12_run 70 = .ok (.iconst 0, 1) := by decide +kernel
theorem dX12_run_71 : decode cX12_run 71 = .ok (.putfield 236, 3) := by decide +kernel
theorem dX12_run_74 : decode cX12_run 74 = .ok (.aload_n 0, 1) := by decide +kernel
theorem dX12_run_75 : decode cX12_run 75 = .ok (.iconst 0, 1) := by decide +kernel
theorem dX12_run_76 : decode cX12_run 76 = .ok (.putfield 230, 3) := by decide +kernel
theorem dX12_run_79 : decode cX12_run 79 = .ok (.aload_n 0, 1) := by decide +kernel
theorem dX12_run_80 : decode cX12_run 80 = .ok (.iconst 0, 1) := by decide +kernel
theorem dX12_run_81 : decode cX12_run 81 = .ok (.putfield 246, 3) := by decide +kernel
theorem dX12_run_84 : decode cX12_run 84 = .ok (.aload_n 0, 1) := by decide +kernel
theorem dX12_run_85 : decode cX12_run 85 = .ok (.iconst 0, 1) := by decide +kernel
theorem dX12_run_86 : decode cX12_run 86 = .ok (.putfield 252, 3) := by decide +kernel
theorem dX12_run_89 : decode cX12_run 89 = .ok (.aload_n 0, 1) := by decide +kernel
theorem dX12_run_90 : decode cX12_run 90 = .ok (.iconst 0, 1) := by decide +kernel
theorem dX12_run_91 : decode cX12_run 91 = .ok (.putfield 275, 3) := by decide +kernel
theorem dX12_run_94 : decode cX12_run 94 = .ok (.aload_n 0, 1) := by decide +kernel
theorem dX12_run_95 : decode cX12_run 95 = .ok (.iconst 0, 1) := by decide +kernel
theorem dX12_run_96 : decode cX12_run 96 = .ok (.putfield 259, 3) := by decide +kernel
theorem dX12_run_99 : decode cX12_run 99 = .ok (.iconst 0, 1) := by decide +kernel
theorem dX12_run_100 : decode cX12_run 100 = .ok (.istore 5, 2) := by decide +kernel
theorem dX12_run_102 : decode cX12_run 102 = .ok (.iload 5, 2) := by decide +kernel
theorem dX12_run_104 : decode cX12_run 104 = .ok (.iconst 4, 1) := by decide +kernel
theorem dX12_run_105 : decode cX12_run 105 = .ok (.if_icmp .ge 17, 3) := by decide +kernel
theorem dX12_run_108 : decode cX12_run 108 = .ok (.aload_n 0, 1) := by decide +kernel
theorem dX12_run_109 : decode cX12_run 109 = .ok (.getfield 126, 3) := by decide +kernel
theorem dX12_run_112 : decode cX12_run 112 = .ok (.iload 5, 2) := by decide +kernel
theorem dX12_run_114 : decode cX12_run 114 = .ok (.iconst 0, 1) := by decide +kernel
theorem dX12_run_115 : decode cX12_run 115 = .ok (.iastore, 1) := by decide +kernel
theorem dX12_run_116 : decode cX12_run 116 = .ok (.iinc 5 1, 3) := by decide +kernel
theorem dX12_run_119 : decode cX12_run 119 = .ok (.goto (-17), 3) := by decide +kernel
theorem dX12_run_122 : decode cX12_run 122 = .ok (.aload_n 0, 1) := by decide +kernel
theorem dX12_run_123 : decode cX12_run 123 = .ok (.getfield 129, 3) := by decide +kernel
theorem dX12_run_126 : decode cX12_run 126 = .ok (.iconst 0, 1) := by decide +kernel
theorem dX12_run_127 : decode cX12_run 127 = .ok (.iload_n 2, 1) := by decide +kernel
theorem dX12_run_128 : decode cX12_run 128 = .ok (.iastore, 1) := by decide +kernel
theorem dX12_run_129 : decode cX12_run 129 = .ok (.aload_n 0, 1) := by decide +kernel
theorem dX12_run_130 : decode cX12_run 130 = .ok (.getfield 129, 3) := by decide +kernel
theorem dX12_run_133 : decode cX12_run 133 = .ok (.iconst 1, 1) := by decide +kernel
theorem dX12_run_134 : decode cX12_run 134 = .ok (.iload_n 3, 1) := by decide +kernel
theorem dX12_run_135 : decode cX12_run 135 = .ok (.iastore, 1) := by decide +kernel
theorem dX12_run_136 : decode cX12_run 136 = .ok (.aload_n 0, 1) := by decide +kernel
theorem dX12_run_137 : decode cX12_run 137 = .ok (.getfield 129, 3) := by decide +kernel
theorem dX12_run_140 : decode cX12_run 140 = .ok (.iconst 2, 1) := by decide +kernel
theorem dX12_run_141 : decode cX12_run 141 = .ok (.iload 4, 2) := by decide +kernel
theorem dX12_run_143 : decode cX12_run 143 = .ok (.iastore, 1) := by decide +kernel
theorem dX12_run_144 : decode cX12_run 144 = .ok (.aload_n 0, 1) := by decide +kernel
theorem dX12_run_145 : decode cX12_run 145 = .ok (.iload_n 1, 1) := by decide +kernel
theorem dX12_run_146 : decode cX12_run 146 = .ok (.aload_n 0, 1) := by decide +kernel
theorem dX12_run_147 : decode cX12_run 147 = .ok (.getfield 129, 3) := by decide +kernel
theorem dX12_run_150 : decode cX12_run 150 = .ok (.iconst 0, 1) := by decide +kernel
theorem dX12_run_151 : decode cX12_run 151 = .ok (.iconst 0, 1) := by decide +kernel
theorem dX12_run_152 : decode cX12_run 152 = .ok (.invokevirtual 262, 3) := by decide +kernel
theorem dX12_run_155 : decode cX12_run 155 = .ok (.aload_n 0, 1) := by decide +kernel
theorem dX12_run_156 : decode cX12_run 156 = .ok (.getfield 233, 3) := by decide +kernel
theorem dX12_run_159 : decode cX12_run 159 = .ok (.ifCond .ne 31, 3) := by decide +kernel
theorem dX12_run_162 : decode cX12_run 162 = .ok (.aload_n 0, 1) := by decide +kernel
theorem dX12_run_163 : decode cX12_run 163 = .ok (.getfield 117, 3) := by decide +kernel
theorem dX12_run_166 : decode cX12_run 166 = .ok (.aload_n 0, 1) := by decide +kernel
theorem dX12_run_167 : decode cX12_run 167 = .ok (.getfield 236, 3) := by decide +kernel
theorem dX12_run_170 : decode cX12_run 170 = .ok (.iconst 1, 1) := by decide +kernel
theorem dX12_run_171 : decode cX12_run 171 = .ok (.isub, 1) := by decide +kernel
theorem dX12_run_172 : decode cX12_run 172 = .ok (.iaload, 1) := by decide +kernel
theorem dX12_run_173 : decode cX12_run 173 = .ok (.ifCond .ge 10, 3) := by decide +kernel
theorem dX12_run_176 : decode cX12_run 176 = .ok (.aload_n 0, 1) := by decide +kernel
theorem dX12_run_177 : decode cX12_run 177 = .ok (.invokevirtual 288, 3) := by decide +kernel
theorem dX12_run_180 : decode cX12_run 180 = .ok (.goto (-25), 3) := by decide +kernel
theorem dX12_run_183 : decode cX12_run 183 = .ok (.aload_n 0, 1) := by decide +kernel
theorem dX12_run_184 : decode cX12_run 184 = .ok (.invokevirtual 291, 3) := by decide +kernel
theorem dX12_run_187 : decode cX12_run 187 = .ok (.goto (-32), 3) := by decide +kernel
theorem dX12_run_190 : decode cX12_run 190 = .ok (.aload_n 0, 1) := by decide +kernel
theorem dX12_run_191 : decode cX12_run 191 = .ok (.getfield 233, 3) := by decide +kernel
theorem dX12_run_194 : decode cX12_run 194 = .ok (.iconst 2, 1) := by decide +kernel
theorem dX12_run_195 : decode cX12_run 195 = .ok (.if_icmp .ne 7, 3) := by decide +kernel
theorem dX12_run_198 : decode cX12_run 198 = .ok (.iconst 0, 1) := by decide +kernel
theorem dX12_run_199 : decode cX12_run 199 = .ok (.goto 7, 3) := by decide +kernel
theorem dX12_run_202 : decode cX12_run 202 = .ok (.aload_n 0, 1) := by decide +kernel
theorem dX12_run_203 : decode cX12_run 203 = .ok (.getfield 233, 3) := by decide +kernel
theorem dX12_run_206 : decode cX12_run 206 = .ok (.ireturn, 1) := by decide +kernel
theorem dX12_answer_0 : decode cX12_answer 0 = .ok (.aload_n 0, 1) := by decide +kernel
theorem dX12_answer_1 : decode cX12_answer 1 = .ok (.getfield 259, 3) := by decide +kernel
theorem dX12_answer_4 : decode cX12_answer 4 = .ok (.ireturn, 1) := by decide +kernel
theorem dX12_trap_0 : decode cX12_trap 0 = .ok (.iload_n 1, 1) := by decide +kernel
theorem dX12_trap_1 : decode cX12_trap 1 = .ok (.i2l, 1) := by decide +kernel
theorem dX12_trap_2 : decode cX12_trap 2 = .ok (.lconst 0, 1) := by decide +kernel
theorem dX12_trap_3 : decode cX12_trap 3 = .ok (.ldc2_w 132, 3) := by decide +kernel
theorem dX12_trap_6 : decode cX12_trap 6 = .ok (.invokestatic 134, 3) := by decide +kernel
theorem dX12_trap_9 : decode cX12_trap 9 = .ok (.ifCond .eq 12, 3) := by decide +kernel
theorem dX12_trap_12 : decode cX12_trap 12 = .ok (.aload_n 0, 1) := by decide +kernel
theorem dX12_trap_13 : decode cX12_trap 13 = .ok (.getfield 126, 3) := by decide +kernel
theorem dX12_trap_16 : decode cX12_trap 16 = .ok (.iload_n 1, 1) := by decide +kernel
theorem dX12_trap_17 : decode cX12_trap 17 = .ok (.iaload, 1) := by decide +kernel
theorem dX12_trap_18 : decode cX12_trap 18 = .ok (.goto 5, 3) := by decide +kernel
theorem dX12_trap_21 : decode cX12_trap 21 = .ok (.bipush (-2), 2) := by decide +kernel
theorem dX12_trap_23 : decode cX12_trap 23 = .ok (.ireturn, 1) := by decide +kernel
theorem dX12_partsOf_0 : decode cX12_partsOf 0 = .ok (.aload_n 0, 1) := by decide +kernel
theorem dX12_partsOf_1 : decode cX12_partsOf 1 = .ok (.getfield 56, 3) := by decide +kernel
theorem dX12_partsOf_4 : decode cX12_partsOf 4 = .ok (.iload_n 1, 1) := by decide +kernel
theorem dX12_partsOf_5 : decode cX12_partsOf 5 = .ok (.iaload, 1) := by decide +kernel
theorem dX12_partsOf_6 : decode cX12_partsOf 6 = .ok (.ifCond .ne 7, 3) := by decide +kernel
theorem dX12_partsOf_9 : decode cX12_partsOf 9 = .ok (.iconst 0, 1) := by decide +kernel
theorem dX12_partsOf_10 : decode cX12_partsOf 10 = .ok (.goto 13, 3) := by decide +kernel
theorem dX12_partsOf_13 : decode cX12_partsOf 13 = .ok (.aload_n 0, 1) := by decide +kernel
theorem dX12_partsOf_14 : decode cX12_partsOf 14 = .ok (.getfield 74, 3) := by decide +kernel
theorem dX12_partsOf_17 : decode cX12_partsOf 17 = .ok (.aload_n 0, 1) := by decide +kernel
theorem dX12_partsOf_18 : decode cX12_partsOf 18 = .ok (.iload_n 1, 1) := by decide +kernel
theorem dX12_partsOf_19 : decode cX12_partsOf 19 = .ok (.invokevirtual 217, 3) := by decide +kernel
theorem dX12_partsOf_22 : decode cX12_partsOf 22 = .ok (.iaload, 1) := by decide +kernel
theorem dX12_partsOf_23 : decode cX12_partsOf 23 = .ok (.ireturn, 1) := by decide +kernel
theorem dX12_of_0 : decode cX12_of 0 = .ok (.aload_n 0, 1) := by decide +kernel
theorem dX12_of_1 : decode cX12_of 1 = .ok (.iload_n 1, 1) := by decide +kernel
theorem dX12_of_2 : decode cX12_of 2 = .ok (.invokevirtual 144, 3) := by decide +kernel
theorem dX12_of_5 : decode cX12_of 5 = .ok (.ifCond .ne 6, 3) := by decide +kernel
theorem dX12_of_8 : decode cX12_of 8 = .ok (.bipush (-2), 2) := by decide +kernel
theorem dX12_of_10 : decode cX12_of 10 = .ok (.ireturn, 1) := by decide +kernel
theorem dX12_of_11 : decode cX12_of 11 = .ok (.iload_n 2, 1) := by decide +kernel
theorem dX12_of_12 : decode cX12_of 12 = .ok (.tableswitch 124 0 7 #[48, 63, 70, 77, 84, 91, 97, 104], 48) := by decide +kernel
theorem dX12_of_60 : decode cX12_of 60 = .ok (.aload_n 0, 1) := by decide +kernel
theorem dX12_of_61 : decode cX12_of 61 = .ok (.getfield 50, 3) := by decide +kernel
theorem dX12_of_64 : decode cX12_of 64 = .ok (.iload_n 1, 1) := by decide +kernel
theorem dX12_of_65 : decode cX12_of 65 = .ok (.baload, 1) := by decide +kernel
theorem dX12_of_66 : decode cX12_of 66 = .ok (.ifCond .eq 7, 3) := by decide +kernel
theorem dX12_of_69 : decode cX12_of 69 = .ok (.iconst 1, 1) := by decide +kernel
theorem dX12_of_70 : decode cX12_of 70 = .ok (.goto 4, 3) := by decide +kernel
theorem dX12_of_73 : decode cX12_of 73 = .ok (.iconst 0, 1) := by decide +kernel
theorem dX12_of_74 : decode cX12_of 74 = .ok (.ireturn, 1) := by decide +kernel
theorem dX12_of_75 : decode cX12_of 75 = .ok (.aload_n 0, 1) := by decide +kernel
theorem dX12_of_76 : decode cX12_of 76 = .ok (.getfield 53, 3) := by decide +kernel
theorem dX12_of_79 : decode cX12_of 79 = .ok (.iload_n 1, 1) := by decide +kernel
theorem dX12_of_80 : decode cX12_of 80 = .ok (.iaload, 1) := by decide +kernel
theorem dX12_of_81 : decode cX12_of 81 = .ok (.ireturn, 1) := by decide +kernel
theorem dX12_of_82 : decode cX12_of 82 = .ok (.aload_n 0, 1) := by decide +kernel
theorem dX12_of_83 : decode cX12_of 83 = .ok (.getfield 56, 3) := by decide +kernel
theorem dX12_of_86 : decode cX12_of 86 = .ok (.iload_n 1, 1) := by decide +kernel
theorem dX12_of_87 : decode cX12_of 87 = .ok (.iaload, 1) := by decide +kernel
theorem dX12_of_88 : decode cX12_of 88 = .ok (.ireturn, 1) := by decide +kernel
theorem dX12_of_89 : decode cX12_of 89 = .ok (.aload_n 0, 1) := by decide +kernel
theorem dX12_of_90 : decode cX12_of 90 = .ok (.getfield 59, 3) := by decide +kernel
theorem dX12_of_93 : decode cX12_of 93 = .ok (.iload_n 1, 1) := by decide +kernel
theorem dX12_of_94 : decode cX12_of 94 = .ok (.iaload, 1) := by decide +kernel
theorem dX12_of_95 : decode cX12_of 95 = .ok (.ireturn, 1) := by decide +kernel
theorem dX12_of_96 : decode cX12_of 96 = .ok (.aload_n 0, 1) := by decide +kernel
theorem dX12_of_97 : decode cX12_of 97 = .ok (.getfield 62, 3) := by decide +kernel
theorem dX12_of_100 : decode cX12_of 100 = .ok (.iload_n 1, 1) := by decide +kernel
theorem dX12_of_101 : decode cX12_of 101 = .ok (.iaload, 1) := by decide +kernel
theorem dX12_of_102 : decode cX12_of 102 = .ok (.ireturn, 1) := by decide +kernel
theorem dX12_of_103 : decode cX12_of 103 = .ok (.aload_n 0, 1) := by decide +kernel
theorem dX12_of_104 : decode cX12_of 104 = .ok (.iload_n 1, 1) := by decide +kernel
theorem dX12_of_105 : decode cX12_of 105 = .ok (.invokevirtual 294, 3) := by decide +kernel
theorem dX12_of_108 : decode cX12_of 108 = .ok (.ireturn, 1) := by decide +kernel
theorem dX12_of_109 : decode cX12_of 109 = .ok (.aload_n 0, 1) := by decide +kernel
theorem dX12_of_110 : decode cX12_of 110 = .ok (.getfield 16, 3) := by decide +kernel
theorem dX12_of_113 : decode cX12_of 113 = .ok (.iload_n 1, 1) := by decide +kernel
theorem dX12_of_114 : decode cX12_of 114 = .ok (.iaload, 1) := by decide +kernel
theorem dX12_of_115 : decode cX12_of 115 = .ok (.ireturn, 1) := by decide +kernel
theorem dX12_of_116 : decode cX12_of 116 = .ok (.aload_n 0, 1) := by decide +kernel
theorem dX12_of_117 : decode cX12_of 117 = .ok (.getfield 25, 3) := by decide +kernel
theorem dX12_of_120 : decode cX12_of 120 = .ok (.iload_n 1, 1) := by decide +kernel
theorem dX12_of_121 : decode cX12_of 121 = .ok (.baload, 1) := by decide +kernel
theorem dX12_of_122 : decode cX12_of 122 = .ok (.ifCond .eq 12, 3) := by decide +kernel
theorem dX12_of_125 : decode cX12_of 125 = .ok (.aload_n 0, 1) := by decide +kernel
theorem dX12_of_126 : decode cX12_of 126 = .ok (.getfield 32, 3) := by decide +kernel
theorem dX12_of_129 : decode cX12_of 129 = .ok (.iload_n 1, 1) := by decide +kernel
theorem dX12_of_130 : decode cX12_of 130 = .ok (.iaload, 1) := by decide +kernel
theorem dX12_of_131 : decode cX12_of 131 = .ok (.goto 4, 3) := by decide +kernel
theorem dX12_of_134 : decode cX12_of 134 = .ok (.iconst (-1), 1) := by decide +kernel
theorem dX12_of_135 : decode cX12_of 135 = .ok (.ireturn, 1) := by decide +kernel
theorem dX12_of_136 : decode cX12_of 136 = .ok (.bipush (-2), 2) := by decide +kernel
theorem dX12_of_138 : decode cX12_of 138 = .ok (.ireturn, 1) := by decide +kernel
theorem dX12_part__0 : decode cX12_part_ 0 = .ok (.aload_n 0, 1) := by decide +kernel
theorem dX12_part__1 : decode cX12_part_ 1 = .ok (.iload_n 1, 1) := by decide +kernel
theorem dX12_part__2 : decode cX12_part_ 2 = .ok (.invokevirtual 144, 3) := by decide +kernel
theorem dX12_part__5 : decode cX12_part_ 5 = .ok (.ifCond .eq 20, 3) := by decide +kernel
theorem dX12_part__8 : decode cX12_part_ 8 = .ok (.iload_n 2, 1) := by decide +kernel
theorem dX12_part__9 : decode cX12_part_ 9 = .ok (.i2l, 1) := by decide +kernel
theorem dX12_part__10 : decode cX12_part_ 10 = .ok (.lconst 0, 1) := by decide +kernel
theorem dX12_part__11 : decode cX12_part_ 11 = .ok (.aload_n 0, 1) := by decide +kernel
theorem dX12_part__12 : decode cX12_part_ 12 = .ok (.iload_n 1, 1) := by decide +kernel
theorem dX12_part__13 : decode cX12_part_ 13 = .ok (.invokevirtual 294, 3) := by decide +kernel
theorem dX12_part__16 : decode cX12_part_ 16 = .ok (.iconst 1, 1) := by decide +kernel
theorem dX12_part__17 : decode cX12_part_ 17 = .ok (.isub, 1) := by decide +kernel
theorem dX12_part__18 : decode cX12_part_ 18 = .ok (.i2l, 1) := by decide +kernel
theorem dX12_part__19 : decode cX12_part_ 19 = .ok (.invokestatic 134, 3) := by decide +kernel
theorem dX12_part__22 : decode cX12_part_ 22 = .ok (.ifCond .ne 6, 3) := by decide +kernel
theorem dX12_part__25 : decode cX12_part_ 25 = .ok (.ldc 177, 2) := by decide +kernel
theorem dX12_part__27 : decode cX12_part_ 27 = .ok (.ireturn, 1) := by decide +kernel
theorem dX12_part__28 : decode cX12_part_ 28 = .ok (.sipush 640, 3) := by decide +kernel
theorem dX12_part__31 : decode cX12_part_ 31 = .ok (.aload_n 0, 1) := by decide +kernel
theorem dX12_part__32 : decode cX12_part_ 32 = .ok (.iload_n 1, 1) := by decide +kernel
theorem dX12_part__33 : decode cX12_part_ 33 = .ok (.invokevirtual 217, 3) := by decide +kernel
theorem dX12_part__36 : decode cX12_part_ 36 = .ok (.imul, 1) := by decide +kernel
theorem dX12_part__37 : decode cX12_part_ 37 = .ok (.iload_n 2, 1) := by decide +kernel
theorem dX12_part__38 : decode cX12_part_ 38 = .ok (.iadd, 1) := by decide +kernel
theorem dX12_part__39 : decode cX12_part_ 39 = .ok (.istore 4, 2) := by decide +kernel
theorem dX12_part__41 : decode cX12_part_ 41 = .ok (.iload_n 3, 1) := by decide +kernel
theorem dX12_part__42 : decode cX12_part_ 42 = .ok (.tableswitch 74 0 4 #[34, 42, 50, 58, 66], 34) := by decide +kernel
theorem dX12_part__76 : decode cX12_part_ 76 = .ok (.aload_n 0, 1) := by decide +kernel
theorem dX12_part__77 : decode cX12_part_ 77 = .ok (.getfield 81, 3) := by decide +kernel
theorem dX12_part__80 : decode cX12_part_ 80 = .ok (.iload 4, 2) := by decide +kernel
theorem dX12_part__82 : decode cX12_part_ 82 = .ok (.iaload, 1) := by decide +kernel
theorem dX12_part__83 : decode cX12_part_ 83 = .ok (.ireturn, 1) := by decide +kernel
theorem dX12_part__84 : decode cX12_part_ 84 = .ok (.aload_n 0, 1) := by decide +kernel
theorem dX12_part__85 : decode cX12_part_ 85 = .ok (.getfield 84, 3) := by decide +kernel
theorem dX12_part__88 : decode cX12_part_ 88 = .ok (.iload 4, 2) := by decide +kernel
theorem dX12_part__90 : decode cX12_part_ 90 = .ok (.iaload, 1) := by decide +kernel
theorem dX12_part__91 : decode cX12_part_ 91 = .ok (.ireturn, 1) := by decide +kernel
theorem dX12_part__92 : decode cX12_part_ 92 = .ok (.aload_n 0, 1) := by decide +kernel
theorem dX12_part__93 : decode cX12_part_ 93 = .ok (.getfield 87, 3) := by decide +kernel
theorem dX12_part__96 : decode cX12_part_ 96 = .ok (.iload 4, 2) := by decide +kernel
theorem dX12_part__98 : decode cX12_part_ 98 = .ok (.iaload, 1) := by decide +kernel
theorem dX12_part__99 : decode cX12_part_ 99 = .ok (.ireturn, 1) := by decide +kernel
theorem dX12_part__100 : decode cX12_part_ 100 = .ok (.aload_n 0, 1) := by decide +kernel
theorem dX12_part__101 : decode cX12_part_ 101 = .ok (.getfield 90, 3) := by decide +kernel
theorem dX12_part__104 : decode cX12_part_ 104 = .ok (.iload 4, 2) := by decide +kernel
theorem dX12_part__106 : decode cX12_part_ 106 = .ok (.iaload, 1) := by decide +kernel
theorem dX12_part__107 : decode cX12_part_ 107 = .ok (.ireturn, 1) := by decide +kernel
theorem dX12_part__108 : decode cX12_part_ 108 = .ok (.aload_n 0, 1) := by decide +kernel
theorem dX12_part__109 : decode cX12_part_ 109 = .ok (.getfield 93, 3) := by decide +kernel
theorem dX12_part__112 : decode cX12_part_ 112 = .ok (.iload 4, 2) := by decide +kernel
theorem dX12_part__114 : decode cX12_part_ 114 = .ok (.iaload, 1) := by decide +kernel
theorem dX12_part__115 : decode cX12_part_ 115 = .ok (.ireturn, 1) := by decide +kernel
theorem dX12_part__116 : decode cX12_part_ 116 = .ok (.ldc 177, 2) := by decide +kernel
theorem dX12_part__118 : decode cX12_part_ 118 = .ok (.ireturn, 1) := by decide +kernel
theorem dX12_varies_0 : decode cX12_varies 0 = .ok (.aload_n 0, 1) := by decide +kernel
theorem dX12_varies_1 : decode cX12_varies 1 = .ok (.iload_n 1, 1) := by decide +kernel
theorem dX12_varies_2 : decode cX12_varies 2 = .ok (.invokevirtual 144, 3) := by decide +kernel
theorem dX12_varies_5 : decode cX12_varies 5 = .ok (.ifCond .eq 29, 3) := by decide +kernel
theorem dX12_varies_8 : decode cX12_varies 8 = .ok (.iload_n 2, 1) := by decide +kernel
theorem dX12_varies_9 : decode cX12_varies 9 = .ok (.i2l, 1) := by decide +kernel
theorem dX12_varies_10 : decode cX12_varies 10 = .ok (.lconst 0, 1) := by decide +kernel
theorem dX12_varies_11 : decode cX12_varies 11 = .ok (.ldc2_w 297, 3) := by decide +kernel
theorem dX12_varies_14 : decode cX12_varies 14 = .ok (.invokestatic 134, 3) := by decide +kernel
theorem dX12_varies_17 : decode cX12_varies 17 = .ok (.ifCond .ne 20, 3) := by decide +kernel
theorem dX12_varies_20 : decode cX12_varies 20 = .ok (.iload_n 2, 1) := by decide +kernel
theorem dX12_varies_21 : decode cX12_varies 21 = .ok (.i2l, 1) := by decide +kernel
theorem dX12_varies_22 : decode cX12_varies 22 = .ok (.ldc2_w 299, 3) := by decide +kernel
theorem dX12_varies_25 : decode cX12_varies 25 = .ok (.ldc2_w 301, 3) := by decide +kernel
theorem dX12_varies_28 : decode cX12_varies 28 = .ok (.invokestatic 134, 3) := by decide +kernel
theorem dX12_varies_31 : decode cX12_varies 31 = .ok (.ifCond .ne 6, 3) := by decide +kernel
theorem dX12_varies_34 : decode cX12_varies 34 = .ok (.bipush (-2), 2) := by decide +kernel
theorem dX12_varies_36 : decode cX12_varies 36 = .ok (.ireturn, 1) := by decide +kernel
theorem dX12_varies_37 : decode cX12_varies 37 = .ok (.aload_n 0, 1) := by decide +kernel
theorem dX12_varies_38 : decode cX12_varies 38 = .ok (.getfield 71, 3) := by decide +kernel
theorem dX12_varies_41 : decode cX12_varies 41 = .ok (.bipush 11, 2) := by decide +kernel
theorem dX12_varies_43 : decode cX12_varies 43 = .ok (.iload_n 1, 1) := by decide +kernel
theorem dX12_varies_44 : decode cX12_varies 44 = .ok (.imul, 1) := by decide +kernel
theorem dX12_varies_45 : decode cX12_varies 45 = .ok (.iload_n 2, 1) := by decide +kernel
theorem dX12_varies_46 : decode cX12_varies 46 = .ok (.iconst 3, 1) := by decide +kernel
theorem dX12_varies_47 : decode cX12_varies 47 = .ok (.if_icmp .ge 7, 3) := by decide +kernel
theorem dX12_varies_50 : decode cX12_varies 50 = .ok (.iload_n 2, 1) := by decide +kernel
theorem dX12_varies_51 : decode cX12_varies 51 = .ok (.goto 7, 3) := by decide +kernel
theorem dX12_varies_54 : decode cX12_varies 54 = .ok (.iload_n 2, 1) := by decide +kernel
theorem dX12_varies_55 : decode cX12_varies 55 = .ok (.bipush 7, 2) := by decide +kernel
theorem dX12_varies_57 : decode cX12_varies 57 = .ok (.isub, 1) := by decide +kernel
theorem dX12_varies_58 : decode cX12_varies 58 = .ok (.iadd, 1) := by decide +kernel
theorem dX12_varies_59 : decode cX12_varies 59 = .ok (.baload, 1) := by decide +kernel
theorem dX12_varies_60 : decode cX12_varies 60 = .ok (.ifCond .eq 7, 3) := by decide +kernel
theorem dX12_varies_63 : decode cX12_varies 63 = .ok (.iconst 1, 1) := by decide +kernel
theorem dX12_varies_64 : decode cX12_varies 64 = .ok (.goto 4, 3) := by decide +kernel
theorem dX12_varies_67 : decode cX12_varies 67 = .ok (.iconst 0, 1) := by decide +kernel
theorem dX12_varies_68 : decode cX12_varies 68 = .ok (.ireturn, 1) := by decide +kernel
theorem dX12_depth_0 : decode cX12_depth 0 = .ok (.aload_n 0, 1) := by decide +kernel
theorem dX12_depth_1 : decode cX12_depth 1 = .ok (.iload_n 1, 1) := by decide +kernel
theorem dX12_depth_2 : decode cX12_depth 2 = .ok (.invokevirtual 144, 3) := by decide +kernel
theorem dX12_depth_5 : decode cX12_depth 5 = .ok (.ifCond .eq 21, 3) := by decide +kernel
theorem dX12_depth_8 : decode cX12_depth 8 = .ok (.iload_n 2, 1) := by decide +kernel
theorem dX12_depth_9 : decode cX12_depth 9 = .ok (.i2l, 1) := by decide +kernel
theorem dX12_depth_10 : decode cX12_depth 10 = .ok (.lconst 0, 1) := by decide +kernel
theorem dX12_depth_11 : decode cX12_depth 11 = .ok (.aload_n 0, 1) := by decide +kernel
theorem dX12_depth_12 : decode cX12_depth 12 = .ok (.getfield 16, 3) := by decide +kernel
theorem dX12_depth_15 : decode cX12_depth 15 = .ok (.iload_n 1, 1) := by decide +kernel
theorem dX12_depth_16 : decode cX12_depth 16 = .ok (.iaload, 1) := by decide +kernel
theorem dX12_depth_17 : decode cX12_depth 17 = .ok (.iconst 1, 1) := by decide +kernel
theorem dX12_depth_18 : decode cX12_depth 18 = .ok (.isub, 1) := by decide +kernel
theorem dX12_depth_19 : decode cX12_depth 19 = .ok (.i2l, 1) := by decide +kernel
theorem dX12_depth_20 : decode cX12_depth 20 = .ok (.invokestatic 134, 3) := by decide +kernel
theorem dX12_depth_23 : decode cX12_depth 23 = .ok (.ifCond .ne 6, 3) := by decide +kernel
theorem dX12_depth_26 : decode cX12_depth 26 = .ok (.bipush (-2), 2) := by decide +kernel
theorem dX12_depth_28 : decode cX12_depth 28 = .ok (.ireturn, 1) := by decide +kernel
theorem dX12_depth_29 : decode cX12_depth 29 = .ok (.aload_n 0, 1) := by decide +kernel
theorem dX12_depth_30 : decode cX12_depth 30 = .ok (.getfield 25, 3) := by decide +kernel
theorem dX12_depth_33 : decode cX12_depth 33 = .ok (.iload_n 1, 1) := by decide +kernel
theorem dX12_depth_34 : decode cX12_depth 34 = .ok (.baload, 1) := by decide +kernel
theorem dX12_depth_35 : decode cX12_depth 35 = .ok (.ifCond .eq 17, 3) := by decide +kernel
theorem dX12_depth_38 : decode cX12_depth 38 = .ok (.aload_n 0, 1) := by decide +kernel
theorem dX12_depth_39 : decode cX12_depth 39 = .ok (.getfield 29, 3) := by decide +kernel
theorem dX12_depth_42 : decode cX12_depth 42 = .ok (.bipush 60, 2) := by decide +kernel
theorem dX12_depth_44 : decode cX12_depth 44 = .ok (.iload_n 1, 1) := by decide +kernel
theorem dX12_depth_45 : decode cX12_depth 45 = .ok (.imul, 1) := by decide +kernel
theorem dX12_depth_46 : decode cX12_depth 46 = .ok (.iload_n 2, 1) := by decide +kernel
theorem dX12_depth_47 : decode cX12_depth 47 = .ok (.iadd, 1) := by decide +kernel
theorem dX12_depth_48 : decode cX12_depth 48 = .ok (.iaload, 1) := by decide +kernel
theorem dX12_depth_49 : decode cX12_depth 49 = .ok (.goto 4, 3) := by decide +kernel
theorem dX12_depth_52 : decode cX12_depth 52 = .ok (.iconst (-1), 1) := by decide +kernel
theorem dX12_depth_53 : decode cX12_depth 53 = .ok (.ireturn, 1) := by decide +kernel
theorem dX12_count_0 : decode cX12_count 0 = .ok (.iload_n 1, 1) := by decide +kernel
theorem dX12_count_1 : decode cX12_count 1 = .ok (.tableswitch 69 0 5 #[39, 44, 49, 54, 59, 64], 39) := by decide +kernel
theorem dX12_count_40 : decode cX12_count 40 = .ok (.aload_n 0, 1) := by decide +kernel
theorem dX12_count_41 : decode cX12_count 41 = .ok (.getfield 140, 3) := by decide +kernel
theorem dX12_count_44 : decode cX12_count 44 = .ok (.ireturn, 1) := by decide +kernel
theorem dX12_count_45 : decode cX12_count 45 = .ok (.aload_n 0, 1) := by decide +kernel
theorem dX12_count_46 : decode cX12_count 46 = .ok (.getfield 285, 3) := by decide +kernel
theorem dX12_count_49 : decode cX12_count 49 = .ok (.ireturn, 1) := by decide +kernel
theorem dX12_count_50 : decode cX12_count 50 = .ok (.aload_n 0, 1) := by decide +kernel
theorem dX12_count_51 : decode cX12_count 51 = .ok (.getfield 230, 3) := by decide +kernel
theorem dX12_count_54 : decode cX12_count 54 = .ok (.ireturn, 1) := by decide +kernel
theorem dX12_count_55 : decode cX12_count 55 = .ok (.aload_n 0, 1) := by decide +kernel
theorem dX12_count_56 : decode cX12_count 56 = .ok (.getfield 246, 3) := by decide +kernel
theorem dX12_count_59 : decode cX12_count 59 = .ok (.ireturn, 1) := by decide +kernel
theorem dX12_count_60 : decode cX12_count 60 = .ok (.aload_n 0, 1) := by decide +kernel
theorem dX12_count_61 : decode cX12_count 61 = .ok (.getfield 252, 3) := by decide +kernel
theorem dX12_count_64 : decode cX12_count 64 = .ok (.ireturn, 1) := by decide +kernel
theorem dX12_count_65 : decode cX12_count 65 = .ok (.aload_n 0, 1) := by decide +kernel
theorem dX12_count_66 : decode cX12_count 66 = .ok (.getfield 275, 3) := by decide +kernel
theorem dX12_count_69 : decode cX12_count 69 = .ok (.ireturn, 1) := by decide +kernel
theorem dX12_count_70 : decode cX12_count 70 = .ok (.bipush (-2), 2) := by decide +kernel
theorem dX12_count_72 : decode cX12_count 72 = .ok (.ireturn, 1) := by decide +kernel
theorem dX12_digest_0 : decode cX12_digest 0 = .ok (.ldc2_w 301, 3) := by decide +kernel
theorem dX12_digest_3 : decode cX12_digest 3 = .ok (.lstore_n 1, 1) := by decide +kernel
theorem dX12_digest_4 : decode cX12_digest 4 = .ok (.iconst 0, 1) := by decide +kernel
theorem dX12_digest_5 : decode cX12_digest 5 = .ok (.istore_n 3, 1) := by decide +kernel
theorem dX12_digest_6 : decode cX12_digest 6 = .ok (.iload_n 3, 1) := by decide +kernel
theorem dX12_digest_7 : decode cX12_digest 7 = .ok (.bipush 8, 2) := by decide +kernel
theorem dX12_digest_9 : decode cX12_digest 9 = .ok (.if_icmp .ge 23, 3) := by decide +kernel
theorem dX12_digest_12 : decode cX12_digest 12 = .ok (.ldc2_w 303, 3) := by decide +kernel
theorem dX12_digest_15 : decode cX12_digest 15 = .ok (.lload_n 1, 1) := by decide +kernel
theorem dX12_digest_16 : decode cX12_digest 16 = .ok (.lmul, 1) := by decide +kernel
theorem dX12_digest_17 : decode cX12_digest 17 = .ok (.aload_n 0, 1) := by decide +kernel
theorem dX12_digest_18 : decode cX12_digest 18 = .ok (.getfield 41, 3) := by decide +kernel
theorem dX12_digest_21 : decode cX12_digest 21 = .ok (.iload_n 3, 1) := by decide +kernel
theorem dX12_digest_22 : decode cX12_digest 22 = .ok (.iaload, 1) := by decide +kernel
theorem dX12_digest_23 : decode cX12_digest 23 = .ok (.i2l, 1) := by decide +kernel
theorem dX12_digest_24 : decode cX12_digest 24 = .ok (.ladd, 1) := by decide +kernel
theorem dX12_digest_25 : decode cX12_digest 25 = .ok (.lstore_n 1, 1) := by decide +kernel
theorem dX12_digest_26 : decode cX12_digest 26 = .ok (.iinc 3 1, 3) := by decide +kernel
theorem dX12_digest_29 : decode cX12_digest 29 = .ok (.goto (-23), 3) := by decide +kernel
theorem dX12_digest_32 : decode cX12_digest 32 = .ok (.iconst 0, 1) := by decide +kernel
theorem dX12_digest_33 : decode cX12_digest 33 = .ok (.istore_n 3, 1) := by decide +kernel
theorem dX12_digest_34 : decode cX12_digest 34 = .ok (.iload_n 3, 1) := by decide +kernel
theorem dX12_digest_35 : decode cX12_digest 35 = .ok (.iconst 4, 1) := by decide +kernel
theorem dX12_digest_36 : decode cX12_digest 36 = .ok (.if_icmp .ge 63, 3) := by decide +kernel
theorem dX12_digest_39 : decode cX12_digest 39 = .ok (.ldc2_w 303, 3) := by decide +kernel
theorem dX12_digest_42 : decode cX12_digest 42 = .ok (.lload_n 1, 1) := by decide +kernel
theorem dX12_digest_43 : decode cX12_digest 43 = .ok (.lmul, 1) := by decide +kernel
theorem dX12_digest_44 : decode cX12_digest 44 = .ok (.aload_n 0, 1) := by decide +kernel
theorem dX12_digest_45 : decode cX12_digest 45 = .ok (.getfield 44, 3) := by decide +kernel
theorem dX12_digest_48 : decode cX12_digest 48 = .ok (.iload_n 3, 1) := by decide +kernel
theorem dX12_digest_49 : decode cX12_digest 49 = .ok (.iaload, 1) := by decide +kernel
theorem dX12_digest_50 : decode cX12_digest 50 = .ok (.i2l, 1) := by decide +kernel
theorem dX12_digest_51 : decode cX12_digest 51 = .ok (.ladd, 1) := by decide +kernel
theorem dX12_digest_52 : decode cX12_digest 52 = .ok (.lstore_n 1, 1) := by decide +kernel
theorem dX12_digest_53 : decode cX12_digest 53 = .ok (.iconst 0, 1) := by decide +kernel
theorem dX12_digest_54 : decode cX12_digest 54 = .ok (.istore 4, 2) := by decide +kernel
theorem dX12_digest_56 : decode cX12_digest 56 = .ok (.iload 4, 2) := by decide +kernel
theorem dX12_digest_58 : decode cX12_digest 58 = .ok (.aload_n 0, 1) := by decide +kernel
theorem dX12_digest_59 : decode cX12_digest 59 = .ok (.getfield 44, 3) := by decide +kernel
theorem dX12_digest_62 : decode cX12_digest 62 = .ok (.iload_n 3, 1) := by decide +kernel
theorem dX12_digest_63 : decode cX12_digest 63 = .ok (.iaload, 1) := by decide +kernel
theorem dX12_digest_64 : decode cX12_digest 64 = .ok (.if_icmp .ge 29, 3) := by decide +kernel
theorem dX12_digest_67 : decode cX12_digest 67 = .ok (.ldc2_w 303, 3) := by decide +kernel
theorem dX12_digest_70 : decode cX12_digest 70 = .ok (.lload_n 1, 1) := by decide +kernel
theorem dX12_digest_71 : decode cX12_digest 71 = .ok (.lmul, 1) := by decide +kernel
theorem dX12_digest_72 : decode cX12_digest 72 = .ok (.aload_n 0, 1) := by decide +kernel
theorem dX12_digest_73 : decode cX12_digest 73 = .ok (.getfield 47, 3) := by decide +kernel
theorem dX12_digest_76 : decode cX12_digest 76 = .ok (.bipush 20, 2) := by decide +kernel
theorem dX12_digest_78 : decode cX12_digest 78 = .ok (.iload_n 3, 1) := by decide +kernel
theorem dX12_digest_79 : decode cX12_digest 79 = .ok (.imul, 1) := by decide +kernel
theorem dX12_digest_80 : decode cX12_digest 80 = .ok (.iload 4, 2) := by decide +kernel
theorem dX12_digest_82 : decode cX12_digest 82 = .ok (.iadd, 1) := by decide +kernel
theorem dX12_digest_83 : decode cX12_digest 83 = .ok (.iaload, 1) := by decide +kernel
theorem dX12_digest_84 : decode cX12_digest 84 = .ok (.i2l, 1) := by decide +kernel
theorem dX12_digest_85 : decode cX12_digest 85 = .ok (.ladd, 1) := by decide +kernel
theorem dX12_digest_86 : decode cX12_digest 86 = .ok (.lstore_n 1, 1) := by decide +kernel
theorem dX12_digest_87 : decode cX12_digest 87 = .ok (.iinc 4 1, 3) := by decide +kernel
theorem dX12_digest_90 : decode cX12_digest 90 = .ok (.goto (-34), 3) := by decide +kernel
theorem dX12_digest_93 : decode cX12_digest 93 = .ok (.iinc 3 1, 3) := by decide +kernel
theorem dX12_digest_96 : decode cX12_digest 96 = .ok (.goto (-62), 3) := by decide +kernel
theorem dX12_digest_99 : decode cX12_digest 99 = .ok (.ldc2_w 303, 3) := by decide +kernel
theorem dX12_digest_102 : decode cX12_digest 102 = .ok (.lload_n 1, 1) := by decide +kernel
theorem dX12_digest_103 : decode cX12_digest 103 = .ok (.lmul, 1) := by decide +kernel
theorem dX12_digest_104 : decode cX12_digest 104 = .ok (.aload_n 0, 1) := by decide +kernel
theorem dX12_digest_105 : decode cX12_digest 105 = .ok (.getfield 259, 3) := by decide +kernel
theorem dX12_digest_108 : decode cX12_digest 108 = .ok (.i2l, 1) := by decide +kernel
theorem dX12_digest_109 : decode cX12_digest 109 = .ok (.ladd, 1) := by decide +kernel
theorem dX12_digest_110 : decode cX12_digest 110 = .ok (.lstore_n 1, 1) := by decide +kernel
theorem dX12_digest_111 : decode cX12_digest 111 = .ok (.iconst 0, 1) := by decide +kernel
theorem dX12_digest_112 : decode cX12_digest 112 = .ok (.istore_n 3, 1) := by decide +kernel
theorem dX12_digest_113 : decode cX12_digest 113 = .ok (.iload_n 3, 1) := by decide +kernel
theorem dX12_digest_114 : decode cX12_digest 114 = .ok (.iconst 4, 1) := by decide +kernel
theorem dX12_digest_115 : decode cX12_digest 115 = .ok (.if_icmp .ge 23, 3) := by decide +kernel
theorem dX12_digest_118 : decode cX12_digest 118 = .ok (.ldc2_w 303, 3) := by decide +kernel
theorem dX12_digest_121 : decode cX12_digest 121 = .ok (.lload_n 1, 1) := by decide +kernel
theorem dX12_digest_122 : decode cX12_digest 122 = .ok (.lmul, 1) := by decide +kernel
theorem dX12_digest_123 : decode cX12_digest 123 = .ok (.aload_n 0, 1) := by decide +kernel
theorem dX12_digest_124 : decode cX12_digest 124 = .ok (.getfield 126, 3) := by decide +kernel
theorem dX12_digest_127 : decode cX12_digest 127 = .ok (.iload_n 3, 1) := by decide +kernel
theorem dX12_digest_128 : decode cX12_digest 128 = .ok (.iaload, 1) := by decide +kernel
theorem dX12_digest_129 : decode cX12_digest 129 = .ok (.i2l, 1) := by decide +kernel
theorem dX12_digest_130 : decode cX12_digest 130 = .ok (.ladd, 1) := by decide +kernel
theorem dX12_digest_131 : decode cX12_digest 131 = .ok (.lstore_n 1, 1) := by decide +kernel
theorem dX12_digest_132 : decode cX12_digest 132 = .ok (.iinc 3 1, 3) := by decide +kernel
theorem dX12_digest_135 : decode cX12_digest 135 = .ok (.goto (-22), 3) := by decide +kernel
theorem dX12_digest_138 : decode cX12_digest 138 = .ok (.iconst 0, 1) := by decide +kernel
theorem dX12_digest_139 : decode cX12_digest 139 = .ok (.istore_n 3, 1) := by decide +kernel
theorem dX12_digest_140 : decode cX12_digest 140 = .ok (.iload_n 3, 1) := by decide +kernel
theorem dX12_digest_141 : decode cX12_digest 141 = .ok (.aload_n 0, 1) := by decide +kernel
theorem dX12_digest_142 : decode cX12_digest 142 = .ok (.getfield 140, 3) := by decide +kernel
theorem dX12_digest_145 : decode cX12_digest 145 = .ok (.if_icmp .ge 91, 3) := by decide +kernel
theorem dX12_digest_148 : decode cX12_digest 148 = .ok (.iconst 0, 1) := by decide +kernel
theorem dX12_digest_149 : decode cX12_digest 149 = .ok (.istore 4, 2) := by decide +kernel
theorem dX12_digest_151 : decode cX12_digest 151 = .ok (.iload 4, 2) := by decide +kernel
theorem dX12_digest_153 : decode cX12_digest 153 = .ok (.bipush 6, 2) := by decide +kernel
theorem dX12_digest_155 : decode cX12_digest 155 = .ok (.if_icmp .ge 24, 3) := by decide +kernel
theorem dX12_digest_158 : decode cX12_digest 158 = .ok (.ldc2_w 303, 3) := by decide +kernel
theorem dX12_digest_161 : decode cX12_digest 161 = .ok (.lload_n 1, 1) := by decide +kernel
theorem dX12_digest_162 : decode cX12_digest 162 = .ok (.lmul, 1) := by decide +kernel
theorem dX12_digest_163 : decode cX12_digest 163 = .ok (.aload_n 0, 1) := by decide +kernel
theorem dX12_digest_164 : decode cX12_digest 164 = .ok (.iload_n 3, 1) := by decide +kernel
theorem dX12_digest_165 : decode cX12_digest 165 = .ok (.iload 4, 2) := by decide +kernel
theorem dX12_digest_167 : decode cX12_digest 167 = .ok (.invokevirtual 305, 3) := by decide +kernel
theorem dX12_digest_170 : decode cX12_digest 170 = .ok (.i2l, 1) := by decide +kernel
theorem dX12_digest_171 : decode cX12_digest 171 = .ok (.ladd, 1) := by decide +kernel
theorem dX12_digest_172 : decode cX12_digest 172 = .ok (.lstore_n 1, 1) := by decide +kernel
theorem dX12_digest_173 : decode cX12_digest 173 = .ok (.iinc 4 1, 3) := by decide +kernel
theorem dX12_digest_176 : decode cX12_digest 176 = .ok (.goto (-25), 3) := by decide +kernel
theorem dX12_digest_179 : decode cX12_digest 179 = .ok (.iconst 0, 1) := by decide +kernel
theorem dX12_digest_180 : decode cX12_digest 180 = .ok (.istore 4, 2) := by decide +kernel
theorem dX12_digest_182 : decode cX12_digest 182 = .ok (.iload 4, 2) := by decide +kernel
theorem dX12_digest_184 : decode cX12_digest 184 = .ok (.aload_n 0, 1) := by decide +kernel
theorem dX12_digest_185 : decode cX12_digest 185 = .ok (.iload_n 3, 1) := by decide +kernel
theorem dX12_digest_186 : decode cX12_digest 186 = .ok (.invokevirtual 294, 3) := by decide +kernel
theorem dX12_digest_189 : decode cX12_digest 189 = .ok (.if_icmp .ge 41, 3) := by decide +kernel
theorem dX12_digest_192 : decode cX12_digest 192 = .ok (.iconst 0, 1) := by decide +kernel
theorem dX12_digest_193 : decode cX12_digest 193 = .ok (.istore 5, 2) := by decide +kernel
theorem dX12_digest_195 : decode cX12_digest 195 = .ok (.iload 5, 2) := by decide +kernel
theorem dX12_digest_197 : decode cX12_digest 197 = .ok (.iconst 5, 1) := by decide +kernel
theorem dX12_digest_198 : decode cX12_digest 198 = .ok (.if_icmp .ge 26, 3) := by decide +kernel
theorem dX12_digest_201 : decode cX12_digest 201 = .ok (.ldc2_w 303, 3) := by decide +kernel
theorem dX12_digest_204 : decode cX12_digest 204 = .ok (.lload_n 1, 1) := by decide +kernel
theorem dX12_digest_205 : decode cX12_digest 205 = .ok (.lmul, 1) := by decide +kernel
theorem dX12_digest_206 : decode cX12_digest 206 = .ok (.aload_n 0, 1) := by decide +kernel
theorem dX12_digest_207 : decode cX12_digest 207 = .ok (.iload_n 3, 1) := by decide +kernel
theorem dX12_digest_208 : decode cX12_digest 208 = .ok (.iload 4, 2) := by decide +kernel
theorem dX12_digest_210 : decode cX12_digest 210 = .ok (.iload 5, 2) := by decide +kernel
theorem dX12_digest_212 : decode cX12_digest 212 = .ok (.invokevirtual 308, 3) := by decide +kernel
theorem dX12_digest_215 : decode cX12_digest 215 = .ok (.i2l, 1) := by decide +kernel
theorem dX12_digest_216 : decode cX12_digest 216 = .ok (.ladd, 1) := by decide +kernel
theorem dX12_digest_217 : decode cX12_digest 217 = .ok (.lstore_n 1, 1) := by decide +kernel
theorem dX12_digest_218 : decode cX12_digest 218 = .ok (.iinc 5 1, 3) := by decide +kernel
theorem dX12_digest_221 : decode cX12_digest 221 = .ok (.goto (-26), 3) := by decide +kernel
theorem dX12_digest_224 : decode cX12_digest 224 = .ok (.iinc 4 1, 3) := by decide +kernel
theorem dX12_digest_227 : decode cX12_digest 227 = .ok (.goto (-45), 3) := by decide +kernel
theorem dX12_digest_230 : decode cX12_digest 230 = .ok (.iinc 3 1, 3) := by decide +kernel
theorem dX12_digest_233 : decode cX12_digest 233 = .ok (.goto (-93), 3) := by decide +kernel
theorem dX12_digest_236 : decode cX12_digest 236 = .ok (.lload_n 1, 1) := by decide +kernel
theorem dX12_digest_237 : decode cX12_digest 237 = .ok (.lreturn, 1) := by decide +kernel
theorem dJ7_rangeCheck_23922_0 : decode cJ7_rangeCheck_23922 0 = .ok (.iload_n 1, 1) := by decide +kernel
theorem dJ7_rangeCheck_23922_1 : decode cJ7_rangeCheck_23922 1 = .ok (.iload_n 2, 1) := by decide +kernel
theorem dJ7_rangeCheck_23922_2 : decode cJ7_rangeCheck_23922 2 = .ok (.if_icmp .le 44, 3) := by decide +kernel
theorem dJ7_rangeCheck_23922_5 : decode cJ7_rangeCheck_23922 5 = .ok (.new 43, 3) := by decide +kernel
theorem dJ7_rangeCheck_23922_8 : decode cJ7_rangeCheck_23922 8 = .ok (.dup, 1) := by decide +kernel
theorem dJ7_rangeCheck_23922_9 : decode cJ7_rangeCheck_23922 9 = .ok (.new 45, 3) := by decide +kernel
theorem dJ7_rangeCheck_23922_12 : decode cJ7_rangeCheck_23922 12 = .ok (.dup, 1) := by decide +kernel
theorem dJ7_rangeCheck_23922_13 : decode cJ7_rangeCheck_23922 13 = .ok (.invokespecial 47, 3) := by decide +kernel
theorem dJ7_rangeCheck_23922_16 : decode cJ7_rangeCheck_23922 16 = .ok (.ldc 48, 2) := by decide +kernel
theorem dJ7_rangeCheck_23922_18 : decode cJ7_rangeCheck_23922 18 = .ok (.invokevirtual 50, 3) := by decide +kernel
theorem dJ7_rangeCheck_23922_21 : decode cJ7_rangeCheck_23922 21 = .ok (.iload_n 1, 1) := by decide +kernel
theorem dJ7_rangeCheck_23922_22 : decode cJ7_rangeCheck_23922 22 = .ok (.invokevirtual 54, 3) := by decide +kernel
theorem dJ7_rangeCheck_23922_25 : decode cJ7_rangeCheck_23922 25 = .ok (.ldc 57, 2) := by decide +kernel
theorem dJ7_rangeCheck_23922_27 : decode cJ7_rangeCheck_23922 27 = .ok (.invokevirtual 50, 3) := by decide +kernel
theorem dJ7_rangeCheck_23922_30 : decode cJ7_rangeCheck_23922 30 = .ok (.iload_n 2, 1) := by decide +kernel
theorem dJ7_rangeCheck_23922_31 : decode cJ7_rangeCheck_23922 31 = .ok (.invokevirtual 54, 3) := by decide +kernel
theorem dJ7_rangeCheck_23922_34 : decode cJ7_rangeCheck_23922 34 = .ok (.ldc 59, 2) := by decide +kernel
theorem dJ7_rangeCheck_23922_36 : decode cJ7_rangeCheck_23922 36 = .ok (.invokevirtual 50, 3) := by decide +kernel
theorem dJ7_rangeCheck_23922_39 : decode cJ7_rangeCheck_23922 39 = .ok (.invokevirtual 61, 3) := by decide +kernel
theorem dJ7_rangeCheck_23922_42 : decode cJ7_rangeCheck_23922 42 = .ok (.invokespecial 65, 3) := by decide +kernel
theorem dJ7_rangeCheck_23922_45 : decode cJ7_rangeCheck_23922 45 = .ok (.athrow, 1) := by decide +kernel
theorem dJ7_rangeCheck_23922_46 : decode cJ7_rangeCheck_23922 46 = .ok (.iload_n 1, 1) := by decide +kernel
theorem dJ7_rangeCheck_23922_47 : decode cJ7_rangeCheck_23922 47 = .ok (.ifCond .ge 12, 3) := by decide +kernel
theorem dJ7_rangeCheck_23922_50 : decode cJ7_rangeCheck_23922 50 = .ok (.new 68, 3) := by decide +kernel
theorem dJ7_rangeCheck_23922_53 : decode cJ7_rangeCheck_23922 53 = .ok (.dup, 1) := by decide +kernel
theorem dJ7_rangeCheck_23922_54 : decode cJ7_rangeCheck_23922 54 = .ok (.iload_n 1, 1) := by decide +kernel
theorem dJ7_rangeCheck_23922_55 : decode cJ7_rangeCheck_23922 55 = .ok (.invokespecial 70, 3) := by decide +kernel
theorem dJ7_rangeCheck_23922_58 : decode cJ7_rangeCheck_23922 58 = .ok (.athrow, 1) := by decide +kernel
theorem dJ7_rangeCheck_23922_59 : decode cJ7_rangeCheck_23922 59 = .ok (.iload_n 2, 1) := by decide +kernel
theorem dJ7_rangeCheck_23922_60 : decode cJ7_rangeCheck_23922 60 = .ok (.iload_n 0, 1) := by decide +kernel
theorem dJ7_rangeCheck_23922_61 : decode cJ7_rangeCheck_23922 61 = .ok (.if_icmp .le 12, 3) := by decide +kernel
theorem dJ7_rangeCheck_23922_64 : decode cJ7_rangeCheck_23922 64 = .ok (.new 68, 3) := by decide +kernel
theorem dJ7_rangeCheck_23922_67 : decode cJ7_rangeCheck_23922 67 = .ok (.dup, 1) := by decide +kernel
theorem dJ7_rangeCheck_23922_68 : decode cJ7_rangeCheck_23922 68 = .ok (.iload_n 2, 1) := by decide +kernel
theorem dJ7_rangeCheck_23922_69 : decode cJ7_rangeCheck_23922 69 = .ok (.invokespecial 70, 3) := by decide +kernel
theorem dJ7_rangeCheck_23922_72 : decode cJ7_rangeCheck_23922 72 = .ok (.athrow, 1) := by decide +kernel
theorem dJ7_rangeCheck_23922_73 : decode cJ7_rangeCheck_23922 73 = .ok (.return_, 1) := by decide +kernel
theorem dJ7_fill_53178_0 : decode cJ7_fill_53178 0 = .ok (.iconst 0, 1) := by decide +kernel
theorem dJ7_fill_53178_1 : decode cJ7_fill_53178 1 = .ok (.istore_n 2, 1) := by decide +kernel
theorem dJ7_fill_53178_2 : decode cJ7_fill_53178 2 = .ok (.aload_n 0, 1) := by decide +kernel
theorem dJ7_fill_53178_3 : decode cJ7_fill_53178 3 = .ok (.arraylength, 1) := by decide +kernel
theorem dJ7_fill_53178_4 : decode cJ7_fill_53178 4 = .ok (.istore_n 3, 1) := by decide +kernel
theorem dJ7_fill_53178_5 : decode cJ7_fill_53178 5 = .ok (.iload_n 2, 1) := by decide +kernel
theorem dJ7_fill_53178_6 : decode cJ7_fill_53178 6 = .ok (.iload_n 3, 1) := by decide +kernel
theorem dJ7_fill_53178_7 : decode cJ7_fill_53178 7 = .ok (.if_icmp .ge 13, 3) := by decide +kernel
theorem dJ7_fill_53178_10 : decode cJ7_fill_53178 10 = .ok (.aload_n 0, 1) := by decide +kernel
theorem dJ7_fill_53178_11 : decode cJ7_fill_53178 11 = .ok (.iload_n 2, 1) := by decide +kernel
theorem dJ7_fill_53178_12 : decode cJ7_fill_53178 12 = .ok (.iload_n 1, 1) := by decide +kernel
theorem dJ7_fill_53178_13 : decode cJ7_fill_53178 13 = .ok (.iastore, 1) := by decide +kernel
theorem dJ7_fill_53178_14 : decode cJ7_fill_53178 14 = .ok (.iinc 2 1, 3) := by decide +kernel
theorem dJ7_fill_53178_17 : decode cJ7_fill_53178 17 = .ok (.goto (-12), 3) := by decide +kernel
theorem dJ7_fill_53178_20 : decode cJ7_fill_53178 20 = .ok (.return_, 1) := by decide +kernel
theorem dJ7_fill_fda19_0 : decode cJ7_fill_fda19 0 = .ok (.aload_n 0, 1) := by decide +kernel
theorem dJ7_fill_fda19_1 : decode cJ7_fill_fda19 1 = .ok (.arraylength, 1) := by decide +kernel
theorem dJ7_fill_fda19_2 : decode cJ7_fill_fda19 2 = .ok (.iload_n 1, 1) := by decide +kernel
theorem dJ7_fill_fda19_3 : decode cJ7_fill_fda19 3 = .ok (.iload_n 2, 1) := by decide +kernel
theorem dJ7_fill_fda19_4 : decode cJ7_fill_fda19 4 = .ok (.invokestatic 13, 3) := by decide +kernel
theorem dJ7_fill_fda19_7 : decode cJ7_fill_fda19 7 = .ok (.iload_n 1, 1) := by decide +kernel
theorem dJ7_fill_fda19_8 : decode cJ7_fill_fda19 8 = .ok (.istore 4, 2) := by decide +kernel
theorem dJ7_fill_fda19_10 : decode cJ7_fill_fda19 10 = .ok (.iload 4, 2) := by decide +kernel
theorem dJ7_fill_fda19_12 : decode cJ7_fill_fda19 12 = .ok (.iload_n 2, 1) := by decide +kernel
theorem dJ7_fill_fda19_13 : decode cJ7_fill_fda19 13 = .ok (.if_icmp .ge 14, 3) := by decide +kernel
theorem dJ7_fill_fda19_16 : decode cJ7_fill_fda19 16 = .ok (.aload_n 0, 1) := by decide +kernel
theorem dJ7_fill_fda19_17 : decode cJ7_fill_fda19 17 = .ok (.iload 4, 2) := by decide +kernel
theorem dJ7_fill_fda19_19 : decode cJ7_fill_fda19 19 = .ok (.iload_n 3, 1) := by decide +kernel
theorem dJ7_fill_fda19_20 : decode cJ7_fill_fda19 20 = .ok (.iastore, 1) := by decide +kernel
theorem dJ7_fill_fda19_21 : decode cJ7_fill_fda19 21 = .ok (.iinc 4 1, 3) := by decide +kernel
theorem dJ7_fill_fda19_24 : decode cJ7_fill_fda19 24 = .ok (.goto (-14), 3) := by decide +kernel
theorem dJ7_fill_fda19_27 : decode cJ7_fill_fda19 27 = .ok (.return_, 1) := by decide +kernel
theorem dL_law_0 : decode cL_law 0 = .ok (.new 7, 3) := by decide +kernel
theorem dL_law_3 : decode cL_law 3 = .ok (.dup, 1) := by decide +kernel
theorem dL_law_4 : decode cL_law 4 = .ok (.invokespecial 9, 3) := by decide +kernel
theorem dL_law_7 : decode cL_law 7 = .ok (.astore_n 1, 1) := by decide +kernel
theorem dL_law_8 : decode cL_law 8 = .ok (.new 10, 3) := by decide +kernel
theorem dL_law_11 : decode cL_law 11 = .ok (.dup, 1) := by decide +kernel
theorem dL_law_12 : decode cL_law 12 = .ok (.invokespecial 12, 3) := by decide +kernel
theorem dL_law_15 : decode cL_law 15 = .ok (.astore_n 2, 1) := by decide +kernel
theorem dL_law_16 : decode cL_law 16 = .ok (.iconst 0, 1) := by decide +kernel
theorem dL_law_17 : decode cL_law 17 = .ok (.istore_n 3, 1) := by decide +kernel
theorem dL_law_18 : decode cL_law 18 = .ok (.iload_n 3, 1) := by decide +kernel
theorem dL_law_19 : decode cL_law 19 = .ok (.aload_n 0, 1) := by decide +kernel
theorem dL_law_20 : decode cL_law 20 = .ok (.arraylength, 1) := by decide +kernel
theorem dL_law_21 : decode cL_law 21 = .ok (.iconst 5, 1) := by decide +kernel
theorem dL_law_22 : decode cL_law 22 = .ok (.isub, 1) := by decide +kernel
theorem dL_law_23 : decode cL_law 23 = .ok (.if_icmp .gt 617, 3) := by decide +kernel
theorem dL_law_26 : decode cL_law 26 = .ok (.aload_n 0, 1) := by decide +kernel
theorem dL_law_27 : decode cL_law 27 = .ok (.iload_n 3, 1) := by decide +kernel
theorem dL_law_28 : decode cL_law 28 = .ok (.iaload, 1) := by decide +kernel
theorem dL_law_29 : decode cL_law 29 = .ok (.bipush 31, 2) := by decide +kernel
theorem dL_law_31 : decode cL_law 31 = .ok (.iand, 1) := by decide +kernel
theorem dL_law_32 : decode cL_law 32 = .ok (.tableswitch 602 0 17 #[88, 121, 164, 187, 200, 233, 256, 279, 302, 335, 388, 401, 424, 457, 500, 533, 566, 589], 88) := by decide +kernel
theorem dL_law_120 : decode cL_law 120 = .ok (.aload_n 1, 1) := by decide +kernel
theorem dL_law_121 : decode cL_law 121 = .ok (.aload_n 0, 1) := by decide +kernel
theorem dL_law_122 : decode cL_law 122 = .ok (.iload_n 3, 1) := by decide +kernel
theorem dL_law_123 : decode cL_law 123 = .ok (.iconst 1, 1) := by decide +kernel
theorem dL_law_124 : decode cL_law 124 = .ok (.iadd, 1) := by decide +kernel
theorem dL_law_125 : decode cL_law 125 = .ok (.iaload, 1) := by decide +kernel
theorem dL_law_126 : decode cL_law 126 = .ok (.aload_n 0, 1) := by decide +kernel
theorem dL_law_127 : decode cL_law 127 = .ok (.iload_n 3, 1) := by decide +kernel
theorem dL_law_128 : decode cL_law 128 = .ok (.iconst 2, 1) := by decide +kernel
theorem dL_law_129 : decode cL_law 129 = .ok (.iadd, 1) := by decide +kernel
theorem dL_law_130 : decode cL_law 130 = .ok (.iaload, 1) := by decide +kernel
theorem dL_law_131 : decode cL_law 131 = .ok (.invokevirtual 13, 3) := by decide +kernel
theorem dL_law_134 : decode cL_law 134 = .ok (.pop, 1) := by decide +kernel
theorem dL_law_135 : decode cL_law 135 = .ok (.aload_n 2, 1) := by decide +kernel
theorem dL_law_136 : decode cL_law 136 = .ok (.aload_n 0, 1) := by decide +kernel
theorem dL_law_137 : decode cL_law 137 = .ok (.iload_n 3, 1) := by decide +kernel
theorem dL_law_138 : decode cL_law 138 = .ok (.iconst 1, 1) := by decide +kernel
theorem dL_law_139 : decode cL_law 139 = .ok (.iadd, 1) := by decide +kernel
theorem dL_law_140 : decode cL_law 140 = .ok (.iaload, 1) := by decide +kernel
theorem dL_law_141 : decode cL_law 141 = .ok (.aload_n 0, 1) := by decide +kernel
theorem dL_law_142 : decode cL_law 142 = .ok (.iload_n 3, 1) := by decide +kernel
theorem dL_law_143 : decode cL_law 143 = .ok (.iconst 2, 1) := by decide +kernel
theorem dL_law_144 : decode cL_law 144 = .ok (.iadd, 1) := by decide +kernel
theorem dL_law_145 : decode cL_law 145 = .ok (.iaload, 1) := by decide +kernel
theorem dL_law_146 : decode cL_law 146 = .ok (.invokevirtual 17, 3) := by decide +kernel
theorem dL_law_149 : decode cL_law 149 = .ok (.pop, 1) := by decide +kernel
theorem dL_law_150 : decode cL_law 150 = .ok (.goto 484, 3) := by decide +kernel
theorem dL_law_153 : decode cL_law 153 = .ok (.aload_n 1, 1) := by decide +kernel
theorem dL_law_154 : decode cL_law 154 = .ok (.aload_n 0, 1) := by decide +kernel
theorem dL_law_155 : decode cL_law 155 = .ok (.iload_n 3, 1) := by decide +kernel
theorem dL_law_156 : decode cL_law 156 = .ok (.iconst 1, 1) := by decide +kernel
theorem dL_law_157 : decode cL_law 157 = .ok (.iadd, 1) := by decide +kernel
theorem dL_law_158 : decode cL_law 158 = .ok (.iaload, 1) := by decide +kernel
theorem dL_law_159 : decode cL_law 159 = .ok (.aload_n 0, 1) := by decide +kernel
theorem dL_law_160 : decode cL_law 160 = .ok (.iload_n 3, 1) := by decide +kernel
theorem dL_law_161 : decode cL_law 161 = .ok (.iconst 2, 1) := by decide +kernel
theorem dL_law_162 : decode cL_law 162 = .ok (.iadd, 1) := by decide +kernel
theorem dL_law_163 : decode cL_law 163 = .ok (.iaload, 1) := by decide +kernel
theorem dL_law_164 : decode cL_law 164 = .ok (.aload_n 0, 1) := by decide +kernel
theorem dL_law_165 : decode cL_law 165 = .ok (.iload_n 3, 1) := by decide +kernel
theorem dL_law_166 : decode cL_law 166 = .ok (.iconst 3, 1) := by decide +kernel
theorem dL_law_167 : decode cL_law 167 = .ok (.iadd, 1) := by decide +kernel
theorem dL_law_168 : decode cL_law 168 = .ok (.iaload, 1) := by decide +kernel
theorem dL_law_169 : decode cL_law 169 = .ok (.invokevirtual 18, 3) := by decide +kernel
theorem dL_law_172 : decode cL_law 172 = .ok (.pop, 1) := by decide +kernel
theorem dL_law_173 : decode cL_law 173 = .ok (.aload_n 2, 1) := by decide +kernel
theorem dL_law_174 : decode cL_law 174 = .ok (.aload_n 0, 1) := by decide +kernel
theorem dL_law_175 : decode cL_law 175 = .ok (.iload_n 3, 1) := by decide +kernel
theorem dL_law_176 : decode cL_law 176 = .ok (.iconst 1, 1) := by decide +kernel
theorem dL_law_177 : decode cL_law 177 = .ok (.iadd, 1) := by decide +kernel
theorem dL_law_178 : decode cL_law 178 = .ok (.iaload, 1) := by decide +kernel
theorem dL_law_179 : decode cL_law 179 = .ok (.aload_n 0, 1) := by decide +kernel
theorem dL_law_180 : decode cL_law 180 = .ok (.iload_n 3, 1) := by decide +kernel
theorem dL_law_181 : decode cL_law 181 = .ok (.iconst 2, 1) := by decide +kernel
theorem dL_law_182 : decode cL_law 182 = .ok (.iadd, 1) := by decide +kernel
theorem dL_law_183 : decode cL_law 183 = .ok (.iaload, 1) := by decide +kernel
theorem dL_law_184 : decode cL_law 184 = .ok (.aload_n 0, 1) := by decide +kernel
theorem dL_law_185 : decode cL_law 185 = .ok (.iload_n 3, 1) := by decide +kernel
theorem dL_law_186 : decode cL_law 186 = .ok (.iconst 3, 1) := by decide +kernel
theorem dL_law_187 : decode cL_law 187 = .ok (.iadd, 1) := by decide +kernel
theorem dL_law_188 : decode cL_law 188 = .ok (.iaload, 1) := by decide +kernel
theorem dL_law_189 : decode cL_law 189 = .ok (.invokevirtual 22, 3) := by decide +kernel
theorem dL_law_192 : decode cL_law 192 = .ok (.pop, 1) := by decide +kernel
theorem dL_law_193 : decode cL_law 193 = .ok (.goto 441, 3) := by decide +kernel
theorem dL_law_196 : decode cL_law 196 = .ok (.aload_n 1, 1) := by decide +kernel
theorem dL_law_197 : decode cL_law 197 = .ok (.aload_n 0, 1) := by decide +kernel
theorem dL_law_198 : decode cL_law 198 = .ok (.iload_n 3, 1) := by decide +kernel
theorem dL_law_199 : decode cL_law 199 = .ok (.iconst 1, 1) := by decide +kernel
theorem dL_law_200 : decode cL_law 200 = .ok (.iadd, 1) := by decide +kernel
theorem dL_law_201 : decode cL_law 201 = .ok (.iaload, 1) := by decide +kernel
theorem dL_law_202 : decode cL_law 202 = .ok (.invokevirtual 23, 3) := by decide +kernel
theorem dL_law_205 : decode cL_law 205 = .ok (.pop, 1) := by decide +kernel
theorem dL_law_206 : decode cL_law 206 = .ok (.aload_n 2, 1) := by decide +kernel
theorem dL_law_207 : decode cL_law 207 = .ok (.aload_n 0, 1) := by decide +kernel
theorem dL_law_208 : decode cL_law 208 = .ok (.iload_n 3, 1) := by decide +kernel
theorem dL_law_209 : decode cL_law 209 = .ok (.iconst 1, 1) := by decide +kernel
theorem dL_law_210 : decode cL_law 210 = .ok (.iadd, 1) := by decide +kernel
theorem dL_law_211 : decode cL_law 211 = .ok (.iaload, 1) := by decide +kernel
theorem dL_law_212 : decode cL_law 212 = .ok (.invokevirtual 27, 3) := by decide +kernel
theorem dL_law_215 : decode cL_law 215 = .ok (.pop, 1) := by decide +kernel
theorem dL_law_216 : decode cL_law 216 = .ok (.goto 418, 3) := by decide +kernel
theorem dL_law_219 : decode cL_law 219 = .ok (.aload_n 1, 1) := by decide +kernel
theorem dL_law_220 : decode cL_law 220 = .ok (.invokevirtual 28, 3) := by decide +kernel
theorem dL_law_223 : decode cL_law 223 = .ok (.pop, 1) := by decide +kernel
theorem dL_law_224 : decode cL_law 224 = .ok (.aload_n 2, 1) := by decide +kernel
theorem dL_law_225 : decode cL_law 225 = .ok (.invokevirtual 32, 3) := by decide +kernel
theorem dL_law_228 : decode cL_law 228 = .ok (.pop, 1) := by decide +kernel
theorem dL_law_229 : decode cL_law 229 = .ok (.goto 405, 3) := by decide +kernel
theorem dL_law_232 : decode cL_law 232 = .ok (.aload_n 1, 1) := by decide +kernel
theorem dL_law_233 : decode cL_law 233 = .ok (.aload_n 0, 1) := by decide +kernel
theorem dL_law_234 : decode cL_law 234 = .ok (.iload_n 3, 1) := by decide +kernel
theorem dL_law_235 : decode cL_law 235 = .ok (.iconst 1, 1) := by decide +kernel
theorem dL_law_236 : decode cL_law 236 = .ok (.iadd, 1) := by decide +kernel
theorem dL_law_237 : decode cL_law 237 = .ok (.iaload, 1) := by decide +kernel
theorem dL_law_238 : decode cL_law 238 = .ok (.aload_n 0, 1) := by decide +kernel
theorem dL_law_239 : decode cL_law 239 = .ok (.iload_n 3, 1) := by decide +kernel
theorem dL_law_240 : decode cL_law 240 = .ok (.iconst 2, 1) := by decide +kernel
theorem dL_law_241 : decode cL_law 241 = .ok (.iadd, 1) := by decide +kernel
theorem dL_law_242 : decode cL_law 242 = .ok (.iaload, 1) := by decide +kernel
theorem dL_law_243 : decode cL_law 243 = .ok (.invokevirtual 33, 3) := by decide +kernel
theorem dL_law_246 : decode cL_law 246 = .ok (.pop, 1) := by decide +kernel
theorem dL_law_247 : decode cL_law 247 = .ok (.aload_n 2, 1) := by decide +kernel
theorem dL_law_248 : decode cL_law 248 = .ok (.aload_n 0, 1) := by decide +kernel
theorem dL_law_249 : decode cL_law 249 = .ok (.iload_n 3, 1) := by decide +kernel
theorem dL_law_250 : decode cL_law 250 = .ok (.iconst 1, 1) := by decide +kernel
theorem dL_law_251 : decode cL_law 251 = .ok (.iadd, 1) := by decide +kernel
theorem dL_law_252 : decode cL_law 252 = .ok (.iaload, 1) := by decide +kernel
theorem dL_law_253 : decode cL_law 253 = .ok (.aload_n 0, 1) := by decide +kernel
theorem dL_law_254 : decode cL_law 254 = .ok (.iload_n 3, 1) := by decide +kernel
theorem dL_law_255 : decode cL_law 255 = .ok (.iconst 2, 1) := by decide +kernel
theorem dL_law_256 : decode cL_law 256 = .ok (.iadd, 1) := by decide +kernel
theorem dL_law_257 : decode cL_law 257 = .ok (.iaload, 1) := by decide +kernel
theorem dL_law_258 : decode cL_law 258 = .ok (.invokevirtual 36, 3) := by decide +kernel
theorem dL_law_261 : decode cL_law 261 = .ok (.pop, 1) := by decide +kernel
theorem dL_law_262 : decode cL_law 262 = .ok (.goto 372, 3) := by decide +kernel
theorem dL_law_265 : decode cL_law 265 = .ok (.aload_n 1, 1) := by decide +kernel
theorem dL_law_266 : decode cL_law 266 = .ok (.aload_n 0, 1) := by decide +kernel
theorem dL_law_267 : decode cL_law 267 = .ok (.iload_n 3, 1) := by decide +kernel
theorem dL_law_268 : decode cL_law 268 = .ok (.iconst 1, 1) := by decide +kernel
theorem dL_law_269 : decode cL_law 269 = .ok (.iadd, 1) := by decide +kernel
theorem dL_law_270 : decode cL_law 270 = .ok (.iaload, 1) := by decide +kernel
theorem dL_law_271 : decode cL_law 271 = .ok (.invokevirtual 37, 3) := by decide +kernel
theorem dL_law_274 : decode cL_law 274 = .ok (.pop, 1) := by decide +kernel
theorem dL_law_275 : decode cL_law 275 = .ok (.aload_n 2, 1) := by decide +kernel
theorem dL_law_276 : decode cL_law 276 = .ok (.aload_n 0, 1) := by decide +kernel
theorem dL_law_277 : decode cL_law 277 = .ok (.iload_n 3, 1) := by decide +kernel
theorem dL_law_278 : decode cL_law 278 = .ok (.iconst 1, 1) := by decide +kernel
theorem dL_law_279 : decode cL_law 279 = .ok (.iadd, 1) := by decide +kernel
theorem dL_law_280 : decode cL_law 280 = .ok (.iaload, 1) := by decide +kernel
theorem dL_law_281 : decode cL_law 281 = .ok (.invokevirtual 40, 3) := by decide +kernel
theorem dL_law_284 : decode cL_law 284 = .ok (.pop, 1) := by decide +kernel
theorem dL_law_285 : decode cL_law 285 = .ok (.goto 349, 3) := by decide +kernel
theorem dL_law_288 : decode cL_law 288 = .ok (.aload_n 1, 1) := by decide +kernel
theorem dL_law_289 : decode cL_law 289 = .ok (.aload_n 0, 1) := by decide +kernel
theorem dL_law_290 : decode cL_law 290 = .ok (.iload_n 3, 1) := by decide +kernel
theorem dL_law_291 : decode cL_law 291 = .ok (.iconst 1, 1) := by decide +kernel
theorem dL_law_292 : decode cL_law 292 = .ok (.iadd, 1) := by decide +kernel
theorem dL_law_293 : decode cL_law 293 = .ok (.iaload, 1) := by decide +kernel
theorem dL_law_294 : decode cL_law 294 = .ok (.invokevirtual 41, 3) := by decide +kernel
theorem dL_law_297 : decode cL_law 297 = .ok (.pop, 1) := by decide +kernel
theorem dL_law_298 : decode cL_law 298 = .ok (.aload_n 2, 1) := by decide +kernel
theorem dL_law_299 : decode cL_law 299 = .ok (.aload_n 0, 1) := by decide +kernel
theorem dL_law_300 : decode cL_law 300 = .ok (.iload_n 3, 1) := by decide +kernel
theorem dL_law_301 : decode cL_law 301 = .ok (.iconst 1, 1) := by decide +kernel
theorem dL_law_302 : decode cL_law 302 = .ok (.iadd, 1) := by decide +kernel
theorem dL_law_303 : decode cL_law 303 = .ok (.iaload, 1) := by decide +kernel
theorem dL_law_304 : decode cL_law 304 = .ok (.invokevirtual 44, 3) := by decide +kernel
theorem dL_law_307 : decode cL_law 307 = .ok (.pop, 1) := by decide +kernel
theorem dL_law_308 : decode cL_law 308 = .ok (.goto 326, 3) := by decide +kernel
theorem dL_law_311 : decode cL_law 311 = .ok (.aload_n 1, 1) := by decide +kernel
theorem dL_law_312 : decode cL_law 312 = .ok (.aload_n 0, 1) := by decide +kernel
theorem dL_law_313 : decode cL_law 313 = .ok (.iload_n 3, 1) := by decide +kernel
theorem dL_law_314 : decode cL_law 314 = .ok (.iconst 1, 1) := by decide +kernel
theorem dL_law_315 : decode cL_law 315 = .ok (.iadd, 1) := by decide +kernel
theorem dL_law_316 : decode cL_law 316 = .ok (.iaload, 1) := by decide +kernel
theorem dL_law_317 : decode cL_law 317 = .ok (.invokevirtual 45, 3) := by decide +kernel
theorem dL_law_320 : decode cL_law 320 = .ok (.pop, 1) := by decide +kernel
theorem dL_law_321 : decode cL_law 321 = .ok (.aload_n 2, 1) := by decide +kernel
theorem dL_law_322 : decode cL_law 322 = .ok (.aload_n 0, 1) := by decide +kernel
theorem dL_law_323 : decode cL_law 323 = .ok (.iload_n 3, 1) := by decide +kernel
theorem dL_law_324 : decode cL_law 324 = .ok (.iconst 1, 1) := by decide +kernel
theorem dL_law_325 : decode cL_law 325 = .ok (.iadd, 1) := by decide +kernel
theorem dL_law_326 : decode cL_law 326 = .ok (.iaload, 1) := by decide +kernel
theorem dL_law_327 : decode cL_law 327 = .ok (.invokevirtual 48, 3) := by decide +kernel
theorem dL_law_330 : decode cL_law 330 = .ok (.pop, 1) := by decide +kernel
theorem dL_law_331 : decode cL_law 331 = .ok (.goto 303, 3) := by decide +kernel
theorem dL_law_334 : decode cL_law 334 = .ok (.aload_n 1, 1) := by decide +kernel
theorem dL_law_335 : decode cL_law 335 = .ok (.aload_n 0, 1) := by decide +kernel
theorem dL_law_336 : decode cL_law 336 = .ok (.iload_n 3, 1) := by decide +kernel
theorem dL_law_337 : decode cL_law 337 = .ok (.iconst 1, 1) := by decide +kernel
theorem dL_law_338 : decode cL_law 338 = .ok (.iadd, 1) := by decide +kernel
theorem dL_law_339 : decode cL_law 339 = .ok (.iaload, 1) := by decide +kernel
theorem dL_law_340 : decode cL_law 340 = .ok (.aload_n 0, 1) := by decide +kernel
theorem dL_law_341 : decode cL_law 341 = .ok (.iload_n 3, 1) := by decide +kernel
theorem dL_law_342 : decode cL_law 342 = .ok (.iconst 2, 1) := by decide +kernel
theorem dL_law_343 : decode cL_law 343 = .ok (.iadd, 1) := by decide +kernel
theorem dL_law_344 : decode cL_law 344 = .ok (.iaload, 1) := by decide +kernel
theorem dL_law_345 : decode cL_law 345 = .ok (.invokevirtual 49, 3) := by decide +kernel
theorem dL_law_348 : decode cL_law 348 = .ok (.pop, 1) := by decide +kernel
theorem dL_law_349 : decode cL_law 349 = .ok (.aload_n 2, 1) := by decide +kernel
theorem dL_law_350 : decode cL_law 350 = .ok (.aload_n 0, 1) := by decide +kernel
theorem dL_law_351 : decode cL_law 351 = .ok (.iload_n 3, 1) := by decide +kernel
theorem dL_law_352 : decode cL_law 352 = .ok (.iconst 1, 1) := by decide +kernel
theorem dL_law_353 : decode cL_law 353 = .ok (.iadd, 1) := by decide +kernel
theorem dL_law_354 : decode cL_law 354 = .ok (.iaload, 1) := by decide +kernel
theorem dL_law_355 : decode cL_law 355 = .ok (.aload_n 0, 1) := by decide +kernel
theorem dL_law_356 : decode cL_law 356 = .ok (.iload_n 3, 1) := by decide +kernel
theorem dL_law_357 : decode cL_law 357 = .ok (.iconst 2, 1) := by decide +kernel
theorem dL_law_358 : decode cL_law 358 = .ok (.iadd, 1) := by decide +kernel
theorem dL_law_359 : decode cL_law 359 = .ok (.iaload, 1) := by decide +kernel
theorem dL_law_360 : decode cL_law 360 = .ok (.invokevirtual 52, 3) := by decide +kernel
theorem dL_law_363 : decode cL_law 363 = .ok (.pop, 1) := by decide +kernel
theorem dL_law_364 : decode cL_law 364 = .ok (.goto 270, 3) := by decide +kernel
theorem dL_law_367 : decode cL_law 367 = .ok (.aload_n 1, 1) := by decide +kernel
theorem dL_law_368 : decode cL_law 368 = .ok (.aload_n 0, 1) := by decide +kernel
theorem dL_law_369 : decode cL_law 369 = .ok (.iload_n 3, 1) := by decide +kernel
theorem dL_law_370 : decode cL_law 370 = .ok (.iconst 1, 1) := by decide +kernel
theorem dL_law_371 : decode cL_law 371 = .ok (.iadd, 1) := by decide +kernel
theorem dL_law_372 : decode cL_law 372 = .ok (.iaload, 1) := by decide +kernel
theorem dL_law_373 : decode cL_law 373 = .ok (.aload_n 0, 1) := by decide +kernel
theorem dL_law_374 : decode cL_law 374 = .ok (.iload_n 3, 1) := by decide +kernel
theorem dL_law_375 : decode cL_law 375 = .ok (.iconst 2, 1) := by decide +kernel
theorem dL_law_376 : decode cL_law 376 = .ok (.iadd, 1) := by decide +kernel
theorem dL_law_377 : decode cL_law 377 = .ok (.iaload, 1) := by decide +kernel
theorem dL_law_378 : decode cL_law 378 = .ok (.aload_n 0, 1) := by decide +kernel
theorem dL_law_379 : decode cL_law 379 = .ok (.iload_n 3, 1) := by decide +kernel
theorem dL_law_380 : decode cL_law 380 = .ok (.iconst 3, 1) := by decide +kernel
theorem dL_law_381 : decode cL_law 381 = .ok (.iadd, 1) := by decide +kernel
theorem dL_law_382 : decode cL_law 382 = .ok (.iaload, 1) := by decide +kernel
theorem dL_law_383 : decode cL_law 383 = .ok (.aload_n 0, 1) := by decide +kernel
theorem dL_law_384 : decode cL_law 384 = .ok (.iload_n 3, 1) := by decide +kernel
theorem dL_law_385 : decode cL_law 385 = .ok (.iconst 4, 1) := by decide +kernel
theorem dL_law_386 : decode cL_law 386 = .ok (.iadd, 1) := by decide +kernel
theorem dL_law_387 : decode cL_law 387 = .ok (.iaload, 1) := by decide +kernel
theorem dL_law_388 : decode cL_law 388 = .ok (.invokevirtual 53, 3) := by decide +kernel
theorem dL_law_391 : decode cL_law 391 = .ok (.pop, 1) := by decide +kernel
theorem dL_law_392 : decode cL_law 392 = .ok (.aload_n 2, 1) := by decide +kernel
theorem dL_law_393 : decode cL_law 393 = .ok (.aload_n 0, 1) := by decide +kernel
theorem dL_law_394 : decode cL_law 394 = .ok (.iload_n 3, 1) := by decide +kernel
theorem dL_law_395 : decode cL_law 395 = .ok (.iconst 1, 1) := by decide +kernel
theorem dL_law_396 : decode cL_law 396 = .ok (.iadd, 1) := by decide +kernel
theorem dL_law_397 : decode cL_law 397 = .ok (.iaload, 1) := by decide +kernel
theorem dL_law_398 : decode cL_law 398 = .ok (.aload_n 0, 1) := by decide +kernel
theorem dL_law_399 : decode cL_law 399 = .ok (.iload_n 3, 1) := by decide +kernel
theorem dL_law_400 : decode cL_law 400 = .ok (.iconst 2, 1) := by decide +kernel
theorem dL_law_401 : decode cL_law 401 = .ok (.iadd, 1) := by decide +kernel
theorem dL_law_402 : decode cL_law 402 = .ok (.iaload, 1) := by decide +kernel
theorem dL_law_403 : decode cL_law 403 = .ok (.aload_n 0, 1) := by decide +kernel
theorem dL_law_404 : decode cL_law 404 = .ok (.iload_n 3, 1) := by decide +kernel
theorem dL_law_405 : decode cL_law 405 = .ok (.iconst 3, 1) := by decide +kernel
theorem dL_law_406 : decode cL_law 406 = .ok (.iadd, 1) := by decide +kernel
theorem dL_law_407 : decode cL_law 407 = .ok (.iaload, 1) := by decide +kernel
theorem dL_law_408 : decode cL_law 408 = .ok (.aload_n 0, 1) := by decide +kernel
theorem dL_law_409 : decode cL_law 409 = .ok (.iload_n 3, 1) := by decide +kernel
theorem dL_law_410 : decode cL_law 410 = .ok (.iconst 4, 1) := by decide +kernel
theorem dL_law_411 : decode cL_law 411 = .ok (.iadd, 1) := by decide +kernel
theorem dL_law_412 : decode cL_law 412 = .ok (.iaload, 1) := by decide +kernel
theorem dL_law_413 : decode cL_law 413 = .ok (.invokevirtual 57, 3) := by decide +kernel
theorem dL_law_416 : decode cL_law 416 = .ok (.pop, 1) := by decide +kernel
theorem dL_law_417 : decode cL_law 417 = .ok (.goto 217, 3) := by decide +kernel
theorem dL_law_420 : decode cL_law 420 = .ok (.aload_n 1, 1) := by decide +kernel
theorem dL_law_421 : decode cL_law 421 = .ok (.invokevirtual 58, 3) := by decide +kernel
theorem dL_law_424 : decode cL_law 424 = .ok (.pop, 1) := by decide +kernel
theorem dL_law_425 : decode cL_law 425 = .ok (.aload_n 2, 1) := by decide +kernel
theorem dL_law_426 : decode cL_law 426 = .ok (.invokevirtual 61, 3) := by decide +kernel
theorem dL_law_429 : decode cL_law 429 = .ok (.pop, 1) := by decide +kernel
theorem dL_law_430 : decode cL_law 430 = .ok (.goto 204, 3) := by decide +kernel
theorem dL_law_433 : decode cL_law 433 = .ok (.aload_n 1, 1) := by decide +kernel
theorem dL_law_434 : decode cL_law 434 = .ok (.aload_n 0, 1) := by decide +kernel
theorem dL_law_435 : decode cL_law 435 = .ok (.iload_n 3, 1) := by decide +kernel
theorem dL_law_436 : decode cL_law 436 = .ok (.iconst 1, 1) := by decide +kernel
theorem dL_law_437 : decode cL_law 437 = .ok (.iadd, 1) := by decide +kernel
theorem dL_law_438 : decode cL_law 438 = .ok (.iaload, 1) := by decide +kernel
theorem dL_law_439 : decode cL_law 439 = .ok (.invokevirtual 62, 3) := by decide +kernel
theorem dL_law_442 : decode cL_law 442 = .ok (.pop, 1) := by decide +kernel
theorem dL_law_443 : decode cL_law 443 = .ok (.aload_n 2, 1) := by decide +kernel
theorem dL_law_444 : decode cL_law 444 = .ok (.aload_n 0, 1) := by decide +kernel
theorem dL_law_445 : decode cL_law 445 = .ok (.iload_n 3, 1) := by decide +kernel
theorem dL_law_446 : decode cL_law 446 = .ok (.iconst 1, 1) := by decide +kernel
theorem dL_law_447 : decode cL_law 447 = .ok (.iadd, 1) := by decide +kernel
theorem dL_law_448 : decode cL_law 448 = .ok (.iaload, 1) := by decide +kernel
theorem dL_law_449 : decode cL_law 449 = .ok (.invokevirtual 65, 3) := by decide +kernel
theorem dL_law_452 : decode cL_law 452 = .ok (.pop, 1) := by decide +kernel
theorem dL_law_453 : decode cL_law 453 = .ok (.goto 181, 3) := by decide +kernel
theorem dL_law_456 : decode cL_law 456 = .ok (.aload_n 1, 1) := by decide +kernel
theorem dL_law_457 : decode cL_law 457 = .ok (.aload_n 0, 1) := by decide +kernel
theorem dL_law_458 : decode cL_law 458 = .ok (.iload_n 3, 1) := by decide +kernel
theorem dL_law_459 : decode cL_law 459 = .ok (.iconst 1, 1) := by decide +kernel
theorem dL_law_460 : decode cL_law 460 = .ok (.iadd, 1) := by decide +kernel
theorem dL_law_461 : decode cL_law 461 = .ok (.iaload, 1) := by decide +kernel
theorem dL_law_462 : decode cL_law 462 = .ok (.aload_n 0, 1) := by decide +kernel
theorem dL_law_463 : decode cL_law 463 = .ok (.iload_n 3, 1) := by decide +kernel
theorem dL_law_464 : decode cL_law 464 = .ok (.iconst 2, 1) := by decide +kernel
theorem dL_law_465 : decode cL_law 465 = .ok (.iadd, 1) := by decide +kernel
theorem dL_law_466 : decode cL_law 466 = .ok (.iaload, 1) := by decide +kernel
theorem dL_law_467 : decode cL_law 467 = .ok (.invokevirtual 66, 3) := by decide +kernel
theorem dL_law_470 : decode cL_law 470 = .ok (.pop, 1) := by decide +kernel
theorem dL_law_471 : decode cL_law 471 = .ok (.aload_n 2, 1) := by decide +kernel
theorem dL_law_472 : decode cL_law 472 = .ok (.aload_n 0, 1) := by decide +kernel
theorem dL_law_473 : decode cL_law 473 = .ok (.iload_n 3, 1) := by decide +kernel
theorem dL_law_474 : decode cL_law 474 = .ok (.iconst 1, 1) := by decide +kernel
theorem dL_law_475 : decode cL_law 475 = .ok (.iadd, 1) := by decide +kernel
theorem dL_law_476 : decode cL_law 476 = .ok (.iaload, 1) := by decide +kernel
theorem dL_law_477 : decode cL_law 477 = .ok (.aload_n 0, 1) := by decide +kernel
theorem dL_law_478 : decode cL_law 478 = .ok (.iload_n 3, 1) := by decide +kernel
theorem dL_law_479 : decode cL_law 479 = .ok (.iconst 2, 1) := by decide +kernel
theorem dL_law_480 : decode cL_law 480 = .ok (.iadd, 1) := by decide +kernel
theorem dL_law_481 : decode cL_law 481 = .ok (.iaload, 1) := by decide +kernel
theorem dL_law_482 : decode cL_law 482 = .ok (.invokevirtual 69, 3) := by decide +kernel
theorem dL_law_485 : decode cL_law 485 = .ok (.pop, 1) := by decide +kernel
theorem dL_law_486 : decode cL_law 486 = .ok (.goto 148, 3) := by decide +kernel
theorem dL_law_489 : decode cL_law 489 = .ok (.aload_n 1, 1) := by decide +kernel
theorem dL_law_490 : decode cL_law 490 = .ok (.aload_n 0, 1) := by decide +kernel
theorem dL_law_491 : decode cL_law 491 = .ok (.iload_n 3, 1) := by decide +kernel
theorem dL_law_492 : decode cL_law 492 = .ok (.iconst 1, 1) := by decide +kernel
theorem dL_law_493 : decode cL_law 493 = .ok (.iadd, 1) := by decide +kernel
theorem dL_law_494 : decode cL_law 494 = .ok (.iaload, 1) := by decide +kernel
theorem dL_law_495 : decode cL_law 495 = .ok (.aload_n 0, 1) := by decide +kernel
theorem dL_law_496 : decode cL_law 496 = .ok (.iload_n 3, 1) := by decide +kernel
theorem dL_law_497 : decode cL_law 497 = .ok (.iconst 2, 1) := by decide +kernel
theorem dL_law_498 : decode cL_law 498 = .ok (.iadd, 1) := by decide +kernel
theorem dL_law_499 : decode cL_law 499 = .ok (.iaload, 1) := by decide +kernel
theorem dL_law_500 : decode cL_law 500 = .ok (.aload_n 0, 1) := by decide +kernel
theorem dL_law_501 : decode cL_law 501 = .ok (.iload_n 3, 1) := by decide +kernel
theorem dL_law_502 : decode cL_law 502 = .ok (.iconst 3, 1) := by decide +kernel
theorem dL_law_503 : decode cL_law 503 = .ok (.iadd, 1) := by decide +kernel
theorem dL_law_504 : decode cL_law 504 = .ok (.iaload, 1) := by decide +kernel
theorem dL_law_505 : decode cL_law 505 = .ok (.invokevirtual 70, 3) := by decide +kernel
theorem dL_law_508 : decode cL_law 508 = .ok (.pop, 1) := by decide +kernel
theorem dL_law_509 : decode cL_law 509 = .ok (.aload_n 2, 1) := by decide +kernel
theorem dL_law_510 : decode cL_law 510 = .ok (.aload_n 0, 1) := by decide +kernel
theorem dL_law_511 : decode cL_law 511 = .ok (.iload_n 3, 1) := by decide +kernel
theorem dL_law_512 : decode cL_law 512 = .ok (.iconst 1, 1) := by decide +kernel
theorem dL_law_513 : decode cL_law 513 = .ok (.iadd, 1) := by decide +kernel
theorem dL_law_514 : decode cL_law 514 = .ok (.iaload, 1) := by decide +kernel
theorem dL_law_515 : decode cL_law 515 = .ok (.aload_n 0, 1) := by decide +kernel
theorem dL_law_516 : decode cL_law 516 = .ok (.iload_n 3, 1) := by decide +kernel
theorem dL_law_517 : decode cL_law 517 = .ok (.iconst 2, 1) := by decide +kernel
theorem dL_law_518 : decode cL_law 518 = .ok (.iadd, 1) := by decide +kernel
theorem dL_law_519 : decode cL_law 519 = .ok (.iaload, 1) := by decide +kernel
theorem dL_law_520 : decode cL_law 520 = .ok (.aload_n 0, 1) := by decide +kernel
theorem dL_law_521 : decode cL_law 521 = .ok (.iload_n 3, 1) := by decide +kernel
theorem dL_law_522 : decode cL_law 522 = .ok (.iconst 3, 1) := by decide +kernel
theorem dL_law_523 : decode cL_law 523 = .ok (.iadd, 1) := by decide +kernel
theorem dL_law_524 : decode cL_law 524 = .ok (.iaload, 1) := by decide +kernel
theorem dL_law_525 : decode cL_law 525 = .ok (.invokevirtual 73, 3) := by decide +kernel
theorem dL_law_528 : decode cL_law 528 = .ok (.pop, 1) := by decide +kernel
theorem dL_law_529 : decode cL_law 529 = .ok (.goto 105, 3) := by decide +kernel
theorem dL_law_532 : decode cL_law 532 = .ok (.aload_n 1, 1) := by decide +kernel
theorem dL_law_533 : decode cL_law 533 = .ok (.aload_n 0, 1) := by decide +kernel
theorem dL_law_534 : decode cL_law 534 = .ok (.iload_n 3, 1) := by decide +kernel
theorem dL_law_535 : decode cL_law 535 = .ok (.iconst 1, 1) := by decide +kernel
theorem dL_law_536 : decode cL_law 536 = .ok (.iadd, 1) := by decide +kernel
theorem dL_law_537 : decode cL_law 537 = .ok (.iaload, 1) := by decide +kernel
theorem dL_law_538 : decode cL_law 538 = .ok (.aload_n 0, 1) := by decide +kernel
theorem dL_law_539 : decode cL_law 539 = .ok (.iload_n 3, 1) := by decide +kernel
theorem dL_law_540 : decode cL_law 540 = .ok (.iconst 2, 1) := by decide +kernel
theorem dL_law_541 : decode cL_law 541 = .ok (.iadd, 1) := by decide +kernel
theorem dL_law_542 : decode cL_law 542 = .ok (.iaload, 1) := by decide +kernel
theorem dL_law_543 : decode cL_law 543 = .ok (.invokevirtual 74, 3) := by decide +kernel
theorem dL_law_546 : decode cL_law 546 = .ok (.aload_n 2, 1) := by decide +kernel
theorem dL_law_547 : decode cL_law 547 = .ok (.aload_n 0, 1) := by decide +kernel
theorem dL_law_548 : decode cL_law 548 = .ok (.iload_n 3, 1) := by decide +kernel
theorem dL_law_549 : decode cL_law 549 = .ok (.iconst 1, 1) := by decide +kernel
theorem dL_law_550 : decode cL_law 550 = .ok (.iadd, 1) := by decide +kernel
theorem dL_law_551 : decode cL_law 551 = .ok (.iaload, 1) := by decide +kernel
theorem dL_law_552 : decode cL_law 552 = .ok (.aload_n 0, 1) := by decide +kernel
theorem dL_law_553 : decode cL_law 553 = .ok (.iload_n 3, 1) := by decide +kernel
theorem dL_law_554 : decode cL_law 554 = .ok (.iconst 2, 1) := by decide +kernel
theorem dL_law_555 : decode cL_law 555 = .ok (.iadd, 1) := by decide +kernel
theorem dL_law_556 : decode cL_law 556 = .ok (.iaload, 1) := by decide +kernel
theorem dL_law_557 : decode cL_law 557 = .ok (.invokevirtual 77, 3) := by decide +kernel
theorem dL_law_560 : decode cL_law 560 = .ok (.if_icmp .eq 74, 3) := by decide +kernel
theorem dL_law_563 : decode cL_law 563 = .ok (.iconst 0, 1) := by decide +kernel
theorem dL_law_564 : decode cL_law 564 = .ok (.ireturn, 1) := by decide +kernel
theorem dL_law_565 : decode cL_law 565 = .ok (.aload_n 1, 1) := by decide +kernel
theorem dL_law_566 : decode cL_law 566 = .ok (.aload_n 0, 1) := by decide +kernel
theorem dL_law_567 : decode cL_law 567 = .ok (.iload_n 3, 1) := by decide +kernel
theorem dL_law_568 : decode cL_law 568 = .ok (.iconst 1, 1) := by decide +kernel
theorem dL_law_569 : decode cL_law 569 = .ok (.iadd, 1) := by decide +kernel
theorem dL_law_570 : decode cL_law 570 = .ok (.iaload, 1) := by decide +kernel
theorem dL_law_571 : decode cL_law 571 = .ok (.aload_n 0, 1) := by decide +kernel
theorem dL_law_572 : decode cL_law 572 = .ok (.iload_n 3, 1) := by decide +kernel
theorem dL_law_573 : decode cL_law 573 = .ok (.iconst 2, 1) := by decide +kernel
theorem dL_law_574 : decode cL_law 574 = .ok (.iadd, 1) := by decide +kernel
theorem dL_law_575 : decode cL_law 575 = .ok (.iaload, 1) := by decide +kernel
theorem dL_law_576 : decode cL_law 576 = .ok (.invokevirtual 78, 3) := by decide +kernel
theorem dL_law_579 : decode cL_law 579 = .ok (.pop, 1) := by decide +kernel
theorem dL_law_580 : decode cL_law 580 = .ok (.aload_n 2, 1) := by decide +kernel
theorem dL_law_581 : decode cL_law 581 = .ok (.aload_n 0, 1) := by decide +kernel
theorem dL_law_582 : decode cL_law 582 = .ok (.iload_n 3, 1) := by decide +kernel
theorem dL_law_583 : decode cL_law 583 = .ok (.iconst 1, 1) := by decide +kernel
theorem dL_law_584 : decode cL_law 584 = .ok (.iadd, 1) := by decide +kernel
theorem dL_law_585 : decode cL_law 585 = .ok (.iaload, 1) := by decide +kernel
theorem dL_law_586 : decode cL_law 586 = .ok (.aload_n 0, 1) := by decide +kernel
theorem dL_law_587 : decode cL_law 587 = .ok (.iload_n 3, 1) := by decide +kernel
theorem dL_law_588 : decode cL_law 588 = .ok (.iconst 2, 1) := by decide +kernel
theorem dL_law_589 : decode cL_law 589 = .ok (.iadd, 1) := by decide +kernel
theorem dL_law_590 : decode cL_law 590 = .ok (.iaload, 1) := by decide +kernel
theorem dL_law_591 : decode cL_law 591 = .ok (.invokevirtual 81, 3) := by decide +kernel
theorem dL_law_594 : decode cL_law 594 = .ok (.pop, 1) := by decide +kernel
theorem dL_law_595 : decode cL_law 595 = .ok (.goto 39, 3) := by decide +kernel
theorem dL_law_598 : decode cL_law 598 = .ok (.aload_n 1, 1) := by decide +kernel
theorem dL_law_599 : decode cL_law 599 = .ok (.aload_n 0, 1) := by decide +kernel
theorem dL_law_600 : decode cL_law 600 = .ok (.iload_n 3, 1) := by decide +kernel
theorem dL_law_601 : decode cL_law 601 = .ok (.iconst 1, 1) := by decide +kernel
theorem dL_law_602 : decode cL_law 602 = .ok (.iadd, 1) := by decide +kernel
theorem dL_law_603 : decode cL_law 603 = .ok (.iaload, 1) := by decide +kernel
theorem dL_law_604 : decode cL_law 604 = .ok (.invokevirtual 82, 3) := by decide +kernel
theorem dL_law_607 : decode cL_law 607 = .ok (.pop, 1) := by decide +kernel
theorem dL_law_608 : decode cL_law 608 = .ok (.aload_n 2, 1) := by decide +kernel
theorem dL_law_609 : decode cL_law 609 = .ok (.aload_n 0, 1) := by decide +kernel
theorem dL_law_610 : decode cL_law 610 = .ok (.iload_n 3, 1) := by decide +kernel
theorem dL_law_611 : decode cL_law 611 = .ok (.iconst 1, 1) := by decide +kernel
theorem dL_law_612 : decode cL_law 612 = .ok (.iadd, 1) := by decide +kernel
theorem dL_law_613 : decode cL_law 613 = .ok (.iaload, 1) := by decide +kernel
theorem dL_law_614 : decode cL_law 614 = .ok (.invokevirtual 85, 3) := by decide +kernel
theorem dL_law_617 : decode cL_law 617 = .ok (.pop, 1) := by decide +kernel
theorem dL_law_618 : decode cL_law 618 = .ok (.goto 16, 3) := by decide +kernel
theorem dL_law_621 : decode cL_law 621 = .ok (.aload_n 1, 1) := by decide +kernel
theorem dL_law_622 : decode cL_law 622 = .ok (.invokevirtual 86, 3) := by decide +kernel
theorem dL_law_625 : decode cL_law 625 = .ok (.pop2, 1) := by decide +kernel
theorem dL_law_626 : decode cL_law 626 = .ok (.aload_n 2, 1) := by decide +kernel
theorem dL_law_627 : decode cL_law 627 = .ok (.invokevirtual 90, 3) := by decide +kernel
theorem dL_law_630 : decode cL_law 630 = .ok (.pop2, 1) := by decide +kernel
theorem dL_law_631 : decode cL_law 631 = .ok (.goto 3, 3) := by decide +kernel
theorem dL_law_634 : decode cL_law 634 = .ok (.iinc 3 5, 3) := by decide +kernel
theorem dL_law_637 : decode cL_law 637 = .ok (.goto (-619), 3) := by decide +kernel
theorem dL_law_640 : decode cL_law 640 = .ok (.iconst 1, 1) := by decide +kernel
theorem dL_law_641 : decode cL_law 641 = .ok (.ireturn, 1) := by decide +kernel
