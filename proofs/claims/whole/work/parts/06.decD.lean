theorem dX0_init_0 : decode cX0_init 0 = .ok (.aload_n 0, 1) := by decide +kernel
theorem dX0_init_1 : decode cX0_init 1 = .ok (.invokespecial 3, 3) := by decide +kernel
theorem dX0_init_4 : decode cX0_init 4 = .ok (.aload_n 0, 1) := by decide +kernel
theorem dX0_init_5 : decode cX0_init 5 = .ok (.iconst (-1), 1) := by decide +kernel
theorem dX0_init_6 : decode cX0_init 6 = .ok (.putfield 9, 3) := by decide +kernel
theorem dX0_init_9 : decode cX0_init 9 = .ok (.aload_n 0, 1) := by decide +kernel
theorem dX0_init_10 : decode cX0_init 10 = .ok (.aload_n 1, 1) := by decide +kernel
theorem dX0_init_11 : decode cX0_init 11 = .ok (.putfield 15, 3) := by decide +kernel
theorem dX0_init_14 : decode cX0_init 14 = .ok (.aload_n 0, 1) := by decide +kernel
theorem dX0_init_15 : decode cX0_init 15 = .ok (.iload_n 2, 1) := by decide +kernel
theorem dX0_init_16 : decode cX0_init 16 = .ok (.putfield 19, 3) := by decide +kernel
theorem dX0_init_19 : decode cX0_init 19 = .ok (.aload_n 0, 1) := by decide +kernel
theorem dX0_init_20 : decode cX0_init 20 = .ok (.aload_n 1, 1) := by decide +kernel
theorem dX0_init_21 : decode cX0_init 21 = .ok (.getfield 22, 3) := by decide +kernel
theorem dX0_init_24 : decode cX0_init 24 = .ok (.putfield 27, 3) := by decide +kernel
theorem dX0_init_27 : decode cX0_init 27 = .ok (.aload_n 0, 1) := by decide +kernel
theorem dX0_init_28 : decode cX0_init 28 = .ok (.aload_n 1, 1) := by decide +kernel
theorem dX0_init_29 : decode cX0_init 29 = .ok (.getfield 28, 3) := by decide +kernel
theorem dX0_init_32 : decode cX0_init 32 = .ok (.putfield 31, 3) := by decide +kernel
theorem dX0_init_35 : decode cX0_init 35 = .ok (.return_, 1) := by decide +kernel
theorem dX0_isGranted_0 : decode cX0_isGranted 0 = .ok (.aload_n 0, 1) := by decide +kernel
theorem dX0_isGranted_1 : decode cX0_isGranted 1 = .ok (.getfield 9, 3) := by decide +kernel
theorem dX0_isGranted_4 : decode cX0_isGranted 4 = .ok (.iconst (-1), 1) := by decide +kernel
theorem dX0_isGranted_5 : decode cX0_isGranted 5 = .ok (.if_icmp .eq 7, 3) := by decide +kernel
theorem dX0_isGranted_8 : decode cX0_isGranted 8 = .ok (.iconst 1, 1) := by decide +kernel
theorem dX0_isGranted_9 : decode cX0_isGranted 9 = .ok (.goto 4, 3) := by decide +kernel
theorem dX0_isGranted_12 : decode cX0_isGranted 12 = .ok (.iconst 0, 1) := by decide +kernel
theorem dX0_isGranted_13 : decode cX0_isGranted 13 = .ok (.ireturn, 1) := by decide +kernel
theorem dX0_farFrom_0 : decode cX0_farFrom 0 = .ok (.aload_n 0, 1) := by decide +kernel
theorem dX0_farFrom_1 : decode cX0_farFrom 1 = .ok (.getfield 15, 3) := by decide +kernel
theorem dX0_farFrom_4 : decode cX0_farFrom 4 = .ok (.getfield 32, 3) := by decide +kernel
theorem dX0_farFrom_7 : decode cX0_farFrom 7 = .ok (.aload_n 1, 1) := by decide +kernel
theorem dX0_farFrom_8 : decode cX0_farFrom 8 = .ok (.getfield 15, 3) := by decide +kernel
theorem dX0_farFrom_11 : decode cX0_farFrom 11 = .ok (.getfield 32, 3) := by decide +kernel
theorem dX0_farFrom_14 : decode cX0_farFrom 14 = .ok (.if_icmp .ne 7, 3) := by decide +kernel
theorem dX0_farFrom_17 : decode cX0_farFrom 17 = .ok (.iconst 0, 1) := by decide +kernel
theorem dX0_farFrom_18 : decode cX0_farFrom 18 = .ok (.goto 6, 3) := by decide +kernel
theorem dX0_farFrom_21 : decode cX0_farFrom 21 = .ok (.sipush 10000, 3) := by decide +kernel
theorem dX0_farFrom_24 : decode cX0_farFrom 24 = .ok (.istore_n 2, 1) := by decide +kernel
theorem dX0_farFrom_25 : decode cX0_farFrom 25 = .ok (.aload_n 0, 1) := by decide +kernel
theorem dX0_farFrom_26 : decode cX0_farFrom 26 = .ok (.getfield 27, 3) := by decide +kernel
theorem dX0_farFrom_29 : decode cX0_farFrom 29 = .ok (.aload_n 1, 1) := by decide +kernel
theorem dX0_farFrom_30 : decode cX0_farFrom 30 = .ok (.getfield 27, 3) := by decide +kernel
theorem dX0_farFrom_33 : decode cX0_farFrom 33 = .ok (.isub, 1) := by decide +kernel
theorem dX0_farFrom_34 : decode cX0_farFrom 34 = .ok (.invokestatic 35, 3) := by decide +kernel
theorem dX0_farFrom_37 : decode cX0_farFrom 37 = .ok (.aload_n 0, 1) := by decide +kernel
theorem dX0_farFrom_38 : decode cX0_farFrom 38 = .ok (.getfield 31, 3) := by decide +kernel
theorem dX0_farFrom_41 : decode cX0_farFrom 41 = .ok (.aload_n 1, 1) := by decide +kernel
theorem dX0_farFrom_42 : decode cX0_farFrom 42 = .ok (.getfield 31, 3) := by decide +kernel
theorem dX0_farFrom_45 : decode cX0_farFrom 45 = .ok (.isub, 1) := by decide +kernel
theorem dX0_farFrom_46 : decode cX0_farFrom 46 = .ok (.invokestatic 35, 3) := by decide +kernel
theorem dX0_farFrom_49 : decode cX0_farFrom 49 = .ok (.bipush 100, 2) := by decide +kernel
theorem dX0_farFrom_51 : decode cX0_farFrom 51 = .ok (.imul, 1) := by decide +kernel
theorem dX0_farFrom_52 : decode cX0_farFrom 52 = .ok (.iadd, 1) := by decide +kernel
theorem dX0_farFrom_53 : decode cX0_farFrom 53 = .ok (.iload_n 2, 1) := by decide +kernel
theorem dX0_farFrom_54 : decode cX0_farFrom 54 = .ok (.iadd, 1) := by decide +kernel
theorem dX0_farFrom_55 : decode cX0_farFrom 55 = .ok (.ireturn, 1) := by decide +kernel
theorem dX1_init_0 : decode cX1_init 0 = .ok (.aload_n 0, 1) := by decide +kernel
theorem dX1_init_1 : decode cX1_init 1 = .ok (.invokespecial 3, 3) := by decide +kernel
theorem dX1_init_4 : decode cX1_init 4 = .ok (.aload_n 0, 1) := by decide +kernel
theorem dX1_init_5 : decode cX1_init 5 = .ok (.iconst 0, 1) := by decide +kernel
theorem dX1_init_6 : decode cX1_init 6 = .ok (.putfield 9, 3) := by decide +kernel
theorem dX1_init_9 : decode cX1_init 9 = .ok (.aload_n 0, 1) := by decide +kernel
theorem dX1_init_10 : decode cX1_init 10 = .ok (.iconst (-1), 1) := by decide +kernel
theorem dX1_init_11 : decode cX1_init 11 = .ok (.putfield 15, 3) := by decide +kernel
theorem dX1_init_14 : decode cX1_init 14 = .ok (.aload_n 0, 1) := by decide +kernel
theorem dX1_init_15 : decode cX1_init 15 = .ok (.iconst 0, 1) := by decide +kernel
theorem dX1_init_16 : decode cX1_init 16 = .ok (.putfield 18, 3) := by decide +kernel
theorem dX1_init_19 : decode cX1_init 19 = .ok (.aload_n 0, 1) := by decide +kernel
theorem dX1_init_20 : decode cX1_init 20 = .ok (.iconst (-1), 1) := by decide +kernel
theorem dX1_init_21 : decode cX1_init 21 = .ok (.putfield 21, 3) := by decide +kernel
theorem dX1_init_24 : decode cX1_init 24 = .ok (.aload_n 0, 1) := by decide +kernel
theorem dX1_init_25 : decode cX1_init 25 = .ok (.iconst (-1), 1) := by decide +kernel
theorem dX1_init_26 : decode cX1_init 26 = .ok (.putfield 24, 3) := by decide +kernel
theorem dX1_init_29 : decode cX1_init 29 = .ok (.return_, 1) := by decide +kernel
theorem dX1_add_0 : decode cX1_add 0 = .ok (.aload_n 0, 1) := by decide +kernel
theorem dX1_add_1 : decode cX1_add 1 = .ok (.dup, 1) := by decide +kernel
theorem dX1_add_2 : decode cX1_add 2 = .ok (.getfield 9, 3) := by decide +kernel
theorem dX1_add_5 : decode cX1_add 5 = .ok (.iload_n 2, 1) := by decide +kernel
theorem dX1_add_6 : decode cX1_add 6 = .ok (.invokestatic 27, 3) := by decide +kernel
theorem dX1_add_9 : decode cX1_add 9 = .ok (.iadd, 1) := by decide +kernel
theorem dX1_add_10 : decode cX1_add 10 = .ok (.putfield 9, 3) := by decide +kernel
theorem dX1_add_13 : decode cX1_add 13 = .ok (.aload_n 0, 1) := by decide +kernel
theorem dX1_add_14 : decode cX1_add 14 = .ok (.iload_n 1, 1) := by decide +kernel
theorem dX1_add_15 : decode cX1_add 15 = .ok (.putfield 15, 3) := by decide +kernel
theorem dX1_add_18 : decode cX1_add 18 = .ok (.aload_n 0, 1) := by decide +kernel
theorem dX1_add_19 : decode cX1_add 19 = .ok (.iload_n 2, 1) := by decide +kernel
theorem dX1_add_20 : decode cX1_add 20 = .ok (.putfield 18, 3) := by decide +kernel
theorem dX1_add_23 : decode cX1_add 23 = .ok (.aload_n 0, 1) := by decide +kernel
theorem dX1_add_24 : decode cX1_add 24 = .ok (.iload_n 3, 1) := by decide +kernel
theorem dX1_add_25 : decode cX1_add 25 = .ok (.putfield 21, 3) := by decide +kernel
theorem dX1_add_28 : decode cX1_add 28 = .ok (.aload_n 0, 1) := by decide +kernel
theorem dX1_add_29 : decode cX1_add 29 = .ok (.iload 4, 2) := by decide +kernel
theorem dX1_add_31 : decode cX1_add 31 = .ok (.putfield 24, 3) := by decide +kernel
theorem dX1_add_34 : decode cX1_add 34 = .ok (.return_, 1) := by decide +kernel
theorem dX1_field_0 : decode cX1_field 0 = .ok (.iload_n 1, 1) := by decide +kernel
theorem dX1_field_1 : decode cX1_field 1 = .ok (.tableswitch 51 0 3 #[31, 36, 41, 46], 31) := by decide +kernel
theorem dX1_field_32 : decode cX1_field 32 = .ok (.aload_n 0, 1) := by decide +kernel
theorem dX1_field_33 : decode cX1_field 33 = .ok (.getfield 9, 3) := by decide +kernel
theorem dX1_field_36 : decode cX1_field 36 = .ok (.ireturn, 1) := by decide +kernel
theorem dX1_field_37 : decode cX1_field 37 = .ok (.aload_n 0, 1) := by decide +kernel
theorem dX1_field_38 : decode cX1_field 38 = .ok (.getfield 15, 3) := by decide +kernel
theorem dX1_field_41 : decode cX1_field 41 = .ok (.ireturn, 1) := by decide +kernel
theorem dX1_field_42 : decode cX1_field 42 = .ok (.aload_n 0, 1) := by decide +kernel
theorem dX1_field_43 : decode cX1_field 43 = .ok (.getfield 18, 3) := by decide +kernel
theorem dX1_field_46 : decode cX1_field 46 = .ok (.ireturn, 1) := by decide +kernel
theorem dX1_field_47 : decode cX1_field 47 = .ok (.aload_n 0, 1) := by decide +kernel
theorem dX1_field_48 : decode cX1_field 48 = .ok (.getfield 21, 3) := by decide +kernel
theorem dX1_field_51 : decode cX1_field 51 = .ok (.ireturn, 1) := by decide +kernel
theorem dX1_field_52 : decode cX1_field 52 = .ok (.aload_n 0, 1) := by decide +kernel
theorem dX1_field_53 : decode cX1_field 53 = .ok (.getfield 24, 3) := by decide +kernel
theorem dX1_field_56 : decode cX1_field 56 = .ok (.ireturn, 1) := by decide +kernel
theorem dX2_init_0 : decode cX2_init 0 = .ok (.aload_n 0, 1) := by decide +kernel
theorem dX2_init_1 : decode cX2_init 1 = .ok (.invokespecial 3, 3) := by decide +kernel
theorem dX2_init_4 : decode cX2_init 4 = .ok (.aload_n 0, 1) := by decide +kernel
theorem dX2_init_5 : decode cX2_init 5 = .ok (.sipush 600, 3) := by decide +kernel
theorem dX2_init_8 : decode cX2_init 8 = .ok (.anewarray 9, 3) := by decide +kernel
theorem dX2_init_11 : decode cX2_init 11 = .ok (.putfield 11, 3) := by decide +kernel
theorem dX2_init_14 : decode cX2_init 14 = .ok (.aload_n 0, 1) := by decide +kernel
theorem dX2_init_15 : decode cX2_init 15 = .ok (.bipush 60, 2) := by decide +kernel
theorem dX2_init_17 : decode cX2_init 17 = .ok (.newarray .int, 2) := by decide +kernel
theorem dX2_init_19 : decode cX2_init 19 = .ok (.putfield 17, 3) := by decide +kernel
theorem dX2_init_22 : decode cX2_init 22 = .ok (.aload_n 0, 1) := by decide +kernel
theorem dX2_init_23 : decode cX2_init 23 = .ok (.bipush 60, 2) := by decide +kernel
theorem dX2_init_25 : decode cX2_init 25 = .ok (.newarray .int, 2) := by decide +kernel
theorem dX2_init_27 : decode cX2_init 27 = .ok (.putfield 20, 3) := by decide +kernel
theorem dX2_init_30 : decode cX2_init 30 = .ok (.aload_n 0, 1) := by decide +kernel
theorem dX2_init_31 : decode cX2_init 31 = .ok (.bipush 60, 2) := by decide +kernel
theorem dX2_init_33 : decode cX2_init 33 = .ok (.newarray .int, 2) := by decide +kernel
theorem dX2_init_35 : decode cX2_init 35 = .ok (.putfield 23, 3) := by decide +kernel
theorem dX2_init_38 : decode cX2_init 38 = .ok (.aload_n 0, 1) := by decide +kernel
theorem dX2_init_39 : decode cX2_init 39 = .ok (.bipush 60, 2) := by decide +kernel
theorem dX2_init_41 : decode cX2_init 41 = .ok (.newarray .int, 2) := by decide +kernel
theorem dX2_init_43 : decode cX2_init 43 = .ok (.putfield 26, 3) := by decide +kernel
theorem dX2_init_46 : decode cX2_init 46 = .ok (.aload_n 0, 1) := by decide +kernel
theorem dX2_init_47 : decode cX2_init 47 = .ok (.iconst 0, 1) := by decide +kernel
theorem dX2_init_48 : decode cX2_init 48 = .ok (.putfield 29, 3) := by decide +kernel
theorem dX2_init_51 : decode cX2_init 51 = .ok (.return_, 1) := by decide +kernel
theorem dX2_open_0 : decode cX2_open 0 = .ok (.iload_n 1, 1) := by decide +kernel
theorem dX2_open_1 : decode cX2_open 1 = .ok (.ifCond .lt 30, 3) := by decide +kernel
theorem dX2_open_4 : decode cX2_open 4 = .ok (.iload_n 1, 1) := by decide +kernel
theorem dX2_open_5 : decode cX2_open 5 = .ok (.aload_n 0, 1) := by decide +kernel
theorem dX2_open_6 : decode cX2_open 6 = .ok (.getfield 11, 3) := by decide +kernel
theorem dX2_open_9 : decode cX2_open 9 = .ok (.arraylength, 1) := by decide +kernel
theorem dX2_open_10 : decode cX2_open 10 = .ok (.if_icmp .ge 21, 3) := by decide +kernel
theorem dX2_open_13 : decode cX2_open 13 = .ok (.bipush 48, 2) := by decide +kernel
theorem dX2_open_15 : decode cX2_open 15 = .ok (.newarray .int, 2) := by decide +kernel
theorem dX2_open_17 : decode cX2_open 17 = .ok (.astore_n 2, 1) := by decide +kernel
theorem dX2_open_18 : decode cX2_open 18 = .ok (.aload_n 2, 1) := by decide +kernel
theorem dX2_open_19 : decode cX2_open 19 = .ok (.ldc 33, 2) := by decide +kernel
theorem dX2_open_21 : decode cX2_open 21 = .ok (.invokestatic 34, 3) := by decide +kernel
theorem dX2_open_24 : decode cX2_open 24 = .ok (.aload_n 0, 1) := by decide +kernel
theorem dX2_open_25 : decode cX2_open 25 = .ok (.getfield 11, 3) := by decide +kernel
theorem dX2_open_28 : decode cX2_open 28 = .ok (.iload_n 1, 1) := by decide +kernel
theorem dX2_open_29 : decode cX2_open 29 = .ok (.aload_n 2, 1) := by decide +kernel
theorem dX2_open_30 : decode cX2_open 30 = .ok (.aastore, 1) := by decide +kernel
theorem dX2_open_31 : decode cX2_open 31 = .ok (.return_, 1) := by decide +kernel
theorem dX2_write_0 : decode cX2_write 0 = .ok (.aload_n 0, 1) := by decide +kernel
theorem dX2_write_1 : decode cX2_write 1 = .ok (.iload_n 1, 1) := by decide +kernel
theorem dX2_write_2 : decode cX2_write 2 = .ok (.iload_n 2, 1) := by decide +kernel
theorem dX2_write_3 : decode cX2_write 3 = .ok (.iconst 0, 1) := by decide +kernel
theorem dX2_write_4 : decode cX2_write 4 = .ok (.iload_n 3, 1) := by decide +kernel
theorem dX2_write_5 : decode cX2_write 5 = .ok (.invokevirtual 40, 3) := by decide +kernel
theorem dX2_write_8 : decode cX2_write 8 = .ok (.aload_n 0, 1) := by decide +kernel
theorem dX2_write_9 : decode cX2_write 9 = .ok (.iload_n 1, 1) := by decide +kernel
theorem dX2_write_10 : decode cX2_write 10 = .ok (.iload_n 2, 1) := by decide +kernel
theorem dX2_write_11 : decode cX2_write 11 = .ok (.iconst 1, 1) := by decide +kernel
theorem dX2_write_12 : decode cX2_write 12 = .ok (.aload 4, 2) := by decide +kernel
theorem dX2_write_14 : decode cX2_write 14 = .ok (.getfield 44, 3) := by decide +kernel
theorem dX2_write_17 : decode cX2_write 17 = .ok (.invokevirtual 40, 3) := by decide +kernel
theorem dX2_write_20 : decode cX2_write 20 = .ok (.aload_n 0, 1) := by decide +kernel
theorem dX2_write_21 : decode cX2_write 21 = .ok (.iload_n 1, 1) := by decide +kernel
theorem dX2_write_22 : decode cX2_write 22 = .ok (.iload_n 2, 1) := by decide +kernel
theorem dX2_write_23 : decode cX2_write 23 = .ok (.iconst 2, 1) := by decide +kernel
theorem dX2_write_24 : decode cX2_write 24 = .ok (.aload 4, 2) := by decide +kernel
theorem dX2_write_26 : decode cX2_write 26 = .ok (.getfield 49, 3) := by decide +kernel
theorem dX2_write_29 : decode cX2_write 29 = .ok (.invokevirtual 40, 3) := by decide +kernel
theorem dX2_write_32 : decode cX2_write 32 = .ok (.aload_n 0, 1) := by decide +kernel
theorem dX2_write_33 : decode cX2_write 33 = .ok (.iload_n 1, 1) := by decide +kernel
theorem dX2_write_34 : decode cX2_write 34 = .ok (.iload_n 2, 1) := by decide +kernel
theorem dX2_write_35 : decode cX2_write 35 = .ok (.iconst 3, 1) := by decide +kernel
theorem dX2_write_36 : decode cX2_write 36 = .ok (.aload 4, 2) := by decide +kernel
theorem dX2_write_38 : decode cX2_write 38 = .ok (.getfield 52, 3) := by decide +kernel
theorem dX2_write_41 : decode cX2_write 41 = .ok (.invokevirtual 40, 3) := by decide +kernel
theorem dX2_write_44 : decode cX2_write 44 = .ok (.return_, 1) := by decide +kernel
theorem dX2_put_0 : decode cX2_put 0 = .ok (.aload_n 0, 1) := by decide +kernel
theorem dX2_put_1 : decode cX2_put 1 = .ok (.iload_n 1, 1) := by decide +kernel
theorem dX2_put_2 : decode cX2_put 2 = .ok (.invokevirtual 55, 3) := by decide +kernel
theorem dX2_put_5 : decode cX2_put 5 = .ok (.astore 5, 2) := by decide +kernel
theorem dX2_put_7 : decode cX2_put 7 = .ok (.iload_n 2, 1) := by decide +kernel
theorem dX2_put_8 : decode cX2_put 8 = .ok (.iconst 4, 1) := by decide +kernel
theorem dX2_put_9 : decode cX2_put 9 = .ok (.imul, 1) := by decide +kernel
theorem dX2_put_10 : decode cX2_put 10 = .ok (.iload_n 3, 1) := by decide +kernel
theorem dX2_put_11 : decode cX2_put 11 = .ok (.iadd, 1) := by decide +kernel
theorem dX2_put_12 : decode cX2_put 12 = .ok (.istore 6, 2) := by decide +kernel
theorem dX2_put_14 : decode cX2_put 14 = .ok (.aload 5, 2) := by decide +kernel
theorem dX2_put_16 : decode cX2_put 16 = .ok (.ifnull 23, 3) := by decide +kernel
theorem dX2_put_19 : decode cX2_put 19 = .ok (.iload 6, 2) := by decide +kernel
theorem dX2_put_21 : decode cX2_put 21 = .ok (.ifCond .lt 18, 3) := by decide +kernel
theorem dX2_put_24 : decode cX2_put 24 = .ok (.iload 6, 2) := by decide +kernel
theorem dX2_put_26 : decode cX2_put 26 = .ok (.aload 5, 2) := by decide +kernel
theorem dX2_put_28 : decode cX2_put 28 = .ok (.arraylength, 1) := by decide +kernel
theorem dX2_put_29 : decode cX2_put 29 = .ok (.if_icmp .ge 10, 3) := by decide +kernel
theorem dX2_put_32 : decode cX2_put 32 = .ok (.aload 5, 2) := by decide +kernel
theorem dX2_put_34 : decode cX2_put 34 = .ok (.iload 6, 2) := by decide +kernel
theorem dX2_put_36 : decode cX2_put 36 = .ok (.iload 4, 2) := by decide +kernel
theorem dX2_put_38 : decode cX2_put 38 = .ok (.iastore, 1) := by decide +kernel
theorem dX2_put_39 : decode cX2_put 39 = .ok (.return_, 1) := by decide +kernel
theorem dX2_rowsOf_0 : decode cX2_rowsOf 0 = .ok (.iload_n 1, 1) := by decide +kernel
theorem dX2_rowsOf_1 : decode cX2_rowsOf 1 = .ok (.ifCond .lt 21, 3) := by decide +kernel
theorem dX2_rowsOf_4 : decode cX2_rowsOf 4 = .ok (.iload_n 1, 1) := by decide +kernel
theorem dX2_rowsOf_5 : decode cX2_rowsOf 5 = .ok (.aload_n 0, 1) := by decide +kernel
theorem dX2_rowsOf_6 : decode cX2_rowsOf 6 = .ok (.getfield 11, 3) := by decide +kernel
theorem dX2_rowsOf_9 : decode cX2_rowsOf 9 = .ok (.arraylength, 1) := by decide +kernel
theorem dX2_rowsOf_10 : decode cX2_rowsOf 10 = .ok (.if_icmp .ge 12, 3) := by decide +kernel
theorem dX2_rowsOf_13 : decode cX2_rowsOf 13 = .ok (.aload_n 0, 1) := by decide +kernel
theorem dX2_rowsOf_14 : decode cX2_rowsOf 14 = .ok (.getfield 11, 3) := by decide +kernel
theorem dX2_rowsOf_17 : decode cX2_rowsOf 17 = .ok (.iload_n 1, 1) := by decide +kernel
theorem dX2_rowsOf_18 : decode cX2_rowsOf 18 = .ok (.aaload, 1) := by decide +kernel
theorem dX2_rowsOf_19 : decode cX2_rowsOf 19 = .ok (.goto 4, 3) := by decide +kernel
theorem dX2_rowsOf_22 : decode cX2_rowsOf 22 = .ok (.aconst_null, 1) := by decide +kernel
theorem dX2_rowsOf_23 : decode cX2_rowsOf 23 = .ok (.areturn, 1) := by decide +kernel
theorem dX2_cell_0 : decode cX2_cell 0 = .ok (.aload_n 0, 1) := by decide +kernel
theorem dX2_cell_1 : decode cX2_cell 1 = .ok (.iload_n 2, 1) := by decide +kernel
theorem dX2_cell_2 : decode cX2_cell 2 = .ok (.invokevirtual 55, 3) := by decide +kernel
theorem dX2_cell_5 : decode cX2_cell 5 = .ok (.astore 4, 2) := by decide +kernel
theorem dX2_cell_7 : decode cX2_cell 7 = .ok (.iload_n 1, 1) := by decide +kernel
theorem dX2_cell_8 : decode cX2_cell 8 = .ok (.iconst 4, 1) := by decide +kernel
theorem dX2_cell_9 : decode cX2_cell 9 = .ok (.imul, 1) := by decide +kernel
theorem dX2_cell_10 : decode cX2_cell 10 = .ok (.iload_n 3, 1) := by decide +kernel
theorem dX2_cell_11 : decode cX2_cell 11 = .ok (.iadd, 1) := by decide +kernel
theorem dX2_cell_12 : decode cX2_cell 12 = .ok (.istore 5, 2) := by decide +kernel
theorem dX2_cell_14 : decode cX2_cell 14 = .ok (.aload 4, 2) := by decide +kernel
theorem dX2_cell_16 : decode cX2_cell 16 = .ok (.ifnull 24, 3) := by decide +kernel
theorem dX2_cell_19 : decode cX2_cell 19 = .ok (.iload 5, 2) := by decide +kernel
theorem dX2_cell_21 : decode cX2_cell 21 = .ok (.ifCond .lt 19, 3) := by decide +kernel
theorem dX2_cell_24 : decode cX2_cell 24 = .ok (.iload 5, 2) := by decide +kernel
theorem dX2_cell_26 : decode cX2_cell 26 = .ok (.aload 4, 2) := by decide +kernel
theorem dX2_cell_28 : decode cX2_cell 28 = .ok (.arraylength, 1) := by decide +kernel
theorem dX2_cell_29 : decode cX2_cell 29 = .ok (.if_icmp .ge 11, 3) := by decide +kernel
theorem dX2_cell_32 : decode cX2_cell 32 = .ok (.aload 4, 2) := by decide +kernel
theorem dX2_cell_34 : decode cX2_cell 34 = .ok (.iload 5, 2) := by decide +kernel
theorem dX2_cell_36 : decode cX2_cell 36 = .ok (.iaload, 1) := by decide +kernel
theorem dX2_cell_37 : decode cX2_cell 37 = .ok (.goto 5, 3) := by decide +kernel
theorem dX2_cell_40 : decode cX2_cell 40 = .ok (.ldc 33, 2) := by decide +kernel
theorem dX2_cell_42 : decode cX2_cell 42 = .ok (.ireturn, 1) := by decide +kernel
theorem dX2_has_0 : decode cX2_has 0 = .ok (.aload_n 0, 1) := by decide +kernel
theorem dX2_has_1 : decode cX2_has 1 = .ok (.iload_n 1, 1) := by decide +kernel
theorem dX2_has_2 : decode cX2_has 2 = .ok (.iload_n 2, 1) := by decide +kernel
theorem dX2_has_3 : decode cX2_has 3 = .ok (.iconst 0, 1) := by decide +kernel
theorem dX2_has_4 : decode cX2_has 4 = .ok (.invokevirtual 59, 3) := by decide +kernel
theorem dX2_has_7 : decode cX2_has 7 = .ok (.ldc 33, 2) := by decide +kernel
theorem dX2_has_9 : decode cX2_has 9 = .ok (.if_icmp .eq 7, 3) := by decide +kernel
theorem dX2_has_12 : decode cX2_has 12 = .ok (.iconst 1, 1) := by decide +kernel
theorem dX2_has_13 : decode cX2_has 13 = .ok (.goto 4, 3) := by decide +kernel
theorem dX2_has_16 : decode cX2_has 16 = .ok (.iconst 0, 1) := by decide +kernel
theorem dX2_has_17 : decode cX2_has 17 = .ok (.ireturn, 1) := by decide +kernel
theorem dX2_tellAnew_0 : decode cX2_tellAnew 0 = .ok (.aload_n 0, 1) := by decide +kernel
theorem dX2_tellAnew_1 : decode cX2_tellAnew 1 = .ok (.iload_n 1, 1) := by decide +kernel
theorem dX2_tellAnew_2 : decode cX2_tellAnew 2 = .ok (.iload_n 2, 1) := by decide +kernel
theorem dX2_tellAnew_3 : decode cX2_tellAnew 3 = .ok (.invokevirtual 63, 3) := by decide +kernel
theorem dX2_tellAnew_6 : decode cX2_tellAnew 6 = .ok (.ifCond .ne 5, 3) := by decide +kernel
theorem dX2_tellAnew_9 : decode cX2_tellAnew 9 = .ok (.iconst (-1), 1) := by decide +kernel
theorem dX2_tellAnew_10 : decode cX2_tellAnew 10 = .ok (.ireturn, 1) := by decide +kernel
theorem dX2_tellAnew_11 : decode cX2_tellAnew 11 = .ok (.aload_n 0, 1) := by decide +kernel
theorem dX2_tellAnew_12 : decode cX2_tellAnew 12 = .ok (.getfield 29, 3) := by decide +kernel
theorem dX2_tellAnew_15 : decode cX2_tellAnew 15 = .ok (.ifCond .lt 12, 3) := by decide +kernel
theorem dX2_tellAnew_18 : decode cX2_tellAnew 18 = .ok (.aload_n 0, 1) := by decide +kernel
theorem dX2_tellAnew_19 : decode cX2_tellAnew 19 = .ok (.getfield 29, 3) := by decide +kernel
theorem dX2_tellAnew_22 : decode cX2_tellAnew 22 = .ok (.bipush 60, 2) := by decide +kernel
theorem dX2_tellAnew_24 : decode cX2_tellAnew 24 = .ok (.if_icmp .lt 6, 3) := by decide +kernel
theorem dX2_tellAnew_27 : decode cX2_tellAnew 27 = .ok (.bipush (-2), 2) := by decide +kernel
theorem dX2_tellAnew_29 : decode cX2_tellAnew 29 = .ok (.ireturn, 1) := by decide +kernel
theorem dX2_tellAnew_30 : decode cX2_tellAnew 30 = .ok (.aload_n 0, 1) := by decide +kernel
theorem dX2_tellAnew_31 : decode cX2_tellAnew 31 = .ok (.getfield 17, 3) := by decide +kernel
theorem dX2_tellAnew_34 : decode cX2_tellAnew 34 = .ok (.aload_n 0, 1) := by decide +kernel
theorem dX2_tellAnew_35 : decode cX2_tellAnew 35 = .ok (.getfield 29, 3) := by decide +kernel
theorem dX2_tellAnew_38 : decode cX2_tellAnew 38 = .ok (.iload_n 1, 1) := by decide +kernel
theorem dX2_tellAnew_39 : decode cX2_tellAnew 39 = .ok (.iastore, 1) := by decide +kernel
theorem dX2_tellAnew_40 : decode cX2_tellAnew 40 = .ok (.aload_n 0, 1) := by decide +kernel
theorem dX2_tellAnew_41 : decode cX2_tellAnew 41 = .ok (.getfield 20, 3) := by decide +kernel
theorem dX2_tellAnew_44 : decode cX2_tellAnew 44 = .ok (.aload_n 0, 1) := by decide +kernel
theorem dX2_tellAnew_45 : decode cX2_tellAnew 45 = .ok (.getfield 29, 3) := by decide +kernel
theorem dX2_tellAnew_48 : decode cX2_tellAnew 48 = .ok (.iload_n 2, 1) := by decide +kernel
theorem dX2_tellAnew_49 : decode cX2_tellAnew 49 = .ok (.iastore, 1) := by decide +kernel
theorem dX2_tellAnew_50 : decode cX2_tellAnew 50 = .ok (.aload_n 0, 1) := by decide +kernel
theorem dX2_tellAnew_51 : decode cX2_tellAnew 51 = .ok (.getfield 23, 3) := by decide +kernel
theorem dX2_tellAnew_54 : decode cX2_tellAnew 54 = .ok (.aload_n 0, 1) := by decide +kernel
theorem dX2_tellAnew_55 : decode cX2_tellAnew 55 = .ok (.getfield 29, 3) := by decide +kernel
theorem dX2_tellAnew_58 : decode cX2_tellAnew 58 = .ok (.iload_n 3, 1) := by decide +kernel
theorem dX2_tellAnew_59 : decode cX2_tellAnew 59 = .ok (.iastore, 1) := by decide +kernel
theorem dX2_tellAnew_60 : decode cX2_tellAnew 60 = .ok (.aload_n 0, 1) := by decide +kernel
theorem dX2_tellAnew_61 : decode cX2_tellAnew 61 = .ok (.getfield 26, 3) := by decide +kernel
theorem dX2_tellAnew_64 : decode cX2_tellAnew 64 = .ok (.aload_n 0, 1) := by decide +kernel
theorem dX2_tellAnew_65 : decode cX2_tellAnew 65 = .ok (.getfield 29, 3) := by decide +kernel
theorem dX2_tellAnew_68 : decode cX2_tellAnew 68 = .ok (.iload 4, 2) := by decide +kernel
theorem dX2_tellAnew_70 : decode cX2_tellAnew 70 = .ok (.iastore, 1) := by decide +kernel
theorem dX2_tellAnew_71 : decode cX2_tellAnew 71 = .ok (.aload_n 0, 1) := by decide +kernel
theorem dX2_tellAnew_72 : decode cX2_tellAnew 72 = .ok (.dup, 1) := by decide +kernel
theorem dX2_tellAnew_73 : decode cX2_tellAnew 73 = .ok (.getfield 29, 3) := by decide +kernel
theorem dX2_tellAnew_76 : decode cX2_tellAnew 76 = .ok (.iconst 1, 1) := by decide +kernel
theorem dX2_tellAnew_77 : decode cX2_tellAnew 77 = .ok (.iadd, 1) := by decide +kernel
theorem dX2_tellAnew_78 : decode cX2_tellAnew 78 = .ok (.putfield 29, 3) := by decide +kernel
theorem dX2_tellAnew_81 : decode cX2_tellAnew 81 = .ok (.iconst 1, 1) := by decide +kernel
theorem dX2_tellAnew_82 : decode cX2_tellAnew 82 = .ok (.ireturn, 1) := by decide +kernel
theorem dX2_usedAsKnown_0 : decode cX2_usedAsKnown 0 = .ok (.aload_n 0, 1) := by decide +kernel
theorem dX2_usedAsKnown_1 : decode cX2_usedAsKnown 1 = .ok (.iload_n 1, 1) := by decide +kernel
theorem dX2_usedAsKnown_2 : decode cX2_usedAsKnown 2 = .ok (.iload_n 2, 1) := by decide +kernel
theorem dX2_usedAsKnown_3 : decode cX2_usedAsKnown 3 = .ok (.iconst 1, 1) := by decide +kernel
theorem dX2_usedAsKnown_4 : decode cX2_usedAsKnown 4 = .ok (.invokevirtual 59, 3) := by decide +kernel
theorem dX2_usedAsKnown_7 : decode cX2_usedAsKnown 7 = .ok (.istore 4, 2) := by decide +kernel
theorem dX2_usedAsKnown_9 : decode cX2_usedAsKnown 9 = .ok (.iconst 0, 1) := by decide +kernel
theorem dX2_usedAsKnown_10 : decode cX2_usedAsKnown 10 = .ok (.istore 5, 2) := by decide +kernel
theorem dX2_usedAsKnown_12 : decode cX2_usedAsKnown 12 = .ok (.iload 5, 2) := by decide +kernel
theorem dX2_usedAsKnown_14 : decode cX2_usedAsKnown 14 = .ok (.aload_n 0, 1) := by decide +kernel
theorem dX2_usedAsKnown_15 : decode cX2_usedAsKnown 15 = .ok (.getfield 29, 3) := by decide +kernel
theorem dX2_usedAsKnown_18 : decode cX2_usedAsKnown 18 = .ok (.if_icmp .ge 58, 3) := by decide +kernel
theorem dX2_usedAsKnown_21 : decode cX2_usedAsKnown 21 = .ok (.iload 5, 2) := by decide +kernel
theorem dX2_usedAsKnown_23 : decode cX2_usedAsKnown 23 = .ok (.bipush 60, 2) := by decide +kernel
theorem dX2_usedAsKnown_25 : decode cX2_usedAsKnown 25 = .ok (.if_icmp .ge 51, 3) := by decide +kernel
theorem dX2_usedAsKnown_28 : decode cX2_usedAsKnown 28 = .ok (.aload_n 0, 1) := by decide +kernel
theorem dX2_usedAsKnown_29 : decode cX2_usedAsKnown 29 = .ok (.getfield 17, 3) := by decide +kernel
theorem dX2_usedAsKnown_32 : decode cX2_usedAsKnown 32 = .ok (.iload 5, 2) := by decide +kernel
theorem dX2_usedAsKnown_34 : decode cX2_usedAsKnown 34 = .ok (.iaload, 1) := by decide +kernel
theorem dX2_usedAsKnown_35 : decode cX2_usedAsKnown 35 = .ok (.iload_n 1, 1) := by decide +kernel
theorem dX2_usedAsKnown_36 : decode cX2_usedAsKnown 36 = .ok (.if_icmp .ne 34, 3) := by decide +kernel
theorem dX2_usedAsKnown_39 : decode cX2_usedAsKnown 39 = .ok (.aload_n 0, 1) := by decide +kernel
theorem dX2_usedAsKnown_40 : decode cX2_usedAsKnown 40 = .ok (.getfield 20, 3) := by decide +kernel
theorem dX2_usedAsKnown_43 : decode cX2_usedAsKnown 43 = .ok (.iload 5, 2) := by decide +kernel
theorem dX2_usedAsKnown_45 : decode cX2_usedAsKnown 45 = .ok (.iaload, 1) := by decide +kernel
theorem dX2_usedAsKnown_46 : decode cX2_usedAsKnown 46 = .ok (.iload_n 2, 1) := by decide +kernel
theorem dX2_usedAsKnown_47 : decode cX2_usedAsKnown 47 = .ok (.if_icmp .ne 23, 3) := by decide +kernel
theorem dX2_usedAsKnown_50 : decode cX2_usedAsKnown 50 = .ok (.aload_n 0, 1) := by decide +kernel
theorem dX2_usedAsKnown_51 : decode cX2_usedAsKnown 51 = .ok (.getfield 26, 3) := by decide +kernel
theorem dX2_usedAsKnown_54 : decode cX2_usedAsKnown 54 = .ok (.iload 5, 2) := by decide +kernel
theorem dX2_usedAsKnown_56 : decode cX2_usedAsKnown 56 = .ok (.iaload, 1) := by decide +kernel
theorem dX2_usedAsKnown_57 : decode cX2_usedAsKnown 57 = .ok (.iload_n 3, 1) := by decide +kernel
theorem dX2_usedAsKnown_58 : decode cX2_usedAsKnown 58 = .ok (.if_icmp .gt 12, 3) := by decide +kernel
theorem dX2_usedAsKnown_61 : decode cX2_usedAsKnown 61 = .ok (.aload_n 0, 1) := by decide +kernel
theorem dX2_usedAsKnown_62 : decode cX2_usedAsKnown 62 = .ok (.getfield 23, 3) := by decide +kernel
theorem dX2_usedAsKnown_65 : decode cX2_usedAsKnown 65 = .ok (.iload 5, 2) := by decide +kernel
theorem dX2_usedAsKnown_67 : decode cX2_usedAsKnown 67 = .ok (.iaload, 1) := by decide +kernel
theorem dX2_usedAsKnown_68 : decode cX2_usedAsKnown 68 = .ok (.istore 4, 2) := by decide +kernel
theorem dX2_usedAsKnown_70 : decode cX2_usedAsKnown 70 = .ok (.iinc 5 1, 3) := by decide +kernel
theorem dX2_usedAsKnown_73 : decode cX2_usedAsKnown 73 = .ok (.goto (-61), 3) := by decide +kernel
theorem dX2_usedAsKnown_76 : decode cX2_usedAsKnown 76 = .ok (.iload 4, 2) := by decide +kernel
theorem dX2_usedAsKnown_78 : decode cX2_usedAsKnown 78 = .ok (.ireturn, 1) := by decide +kernel
theorem dX3_init_0 : decode cX3_init 0 = .ok (.aload_n 0, 1) := by decide +kernel
theorem dX3_init_1 : decode cX3_init 1 = .ok (.invokespecial 1, 3) := by decide +kernel
theorem dX3_init_4 : decode cX3_init 4 = .ok (.aload_n 0, 1) := by decide +kernel
theorem dX3_init_5 : decode cX3_init 5 = .ok (.iconst 0, 1) := by decide +kernel
theorem dX3_init_6 : decode cX3_init 6 = .ok (.putfield 7, 3) := by decide +kernel
theorem dX3_init_9 : decode cX3_init 9 = .ok (.aload_n 0, 1) := by decide +kernel
theorem dX3_init_10 : decode cX3_init 10 = .ok (.iconst 0, 1) := by decide +kernel
theorem dX3_init_11 : decode cX3_init 11 = .ok (.putfield 13, 3) := by decide +kernel
theorem dX3_init_14 : decode cX3_init 14 = .ok (.aload_n 0, 1) := by decide +kernel
theorem dX3_init_15 : decode cX3_init 15 = .ok (.iconst 0, 1) := by decide +kernel
theorem dX3_init_16 : decode cX3_init 16 = .ok (.putfield 16, 3) := by decide +kernel
theorem dX3_init_19 : decode cX3_init 19 = .ok (.aload_n 0, 1) := by decide +kernel
theorem dX3_init_20 : decode cX3_init 20 = .ok (.iconst 0, 1) := by decide +kernel
theorem dX3_init_21 : decode cX3_init 21 = .ok (.putfield 19, 3) := by decide +kernel
theorem dX3_init_24 : decode cX3_init 24 = .ok (.return_, 1) := by decide +kernel
theorem dX3_clear_0 : decode cX3_clear 0 = .ok (.aload_n 0, 1) := by decide +kernel
theorem dX3_clear_1 : decode cX3_clear 1 = .ok (.iconst 0, 1) := by decide +kernel
theorem dX3_clear_2 : decode cX3_clear 2 = .ok (.putfield 7, 3) := by decide +kernel
theorem dX3_clear_5 : decode cX3_clear 5 = .ok (.return_, 1) := by decide +kernel
theorem dX3_consider_0 : decode cX3_consider 0 = .ok (.iload_n 3, 1) := by decide +kernel
theorem dX3_consider_1 : decode cX3_consider 1 = .ok (.iload_n 2, 1) := by decide +kernel
theorem dX3_consider_2 : decode cX3_consider 2 = .ok (.imul, 1) := by decide +kernel
theorem dX3_consider_3 : decode cX3_consider 3 = .ok (.iload_n 3, 1) := by decide +kernel
theorem dX3_consider_4 : decode cX3_consider 4 = .ok (.iload_n 1, 1) := by decide +kernel
theorem dX3_consider_5 : decode cX3_consider 5 = .ok (.imul, 1) := by decide +kernel
theorem dX3_consider_6 : decode cX3_consider 6 = .ok (.iconst 4, 1) := by decide +kernel
theorem dX3_consider_7 : decode cX3_consider 7 = .ok (.idiv, 1) := by decide +kernel
theorem dX3_consider_8 : decode cX3_consider 8 = .ok (.iadd, 1) := by decide +kernel
theorem dX3_consider_9 : decode cX3_consider 9 = .ok (.iconst 2, 1) := by decide +kernel
theorem dX3_consider_10 : decode cX3_consider 10 = .ok (.iload_n 3, 1) := by decide +kernel
theorem dX3_consider_11 : decode cX3_consider 11 = .ok (.iload_n 1, 1) := by decide +kernel
theorem dX3_consider_12 : decode cX3_consider 12 = .ok (.invokestatic 22, 3) := by decide +kernel
theorem dX3_consider_15 : decode cX3_consider 15 = .ok (.imul, 1) := by decide +kernel
theorem dX3_consider_16 : decode cX3_consider 16 = .ok (.isub, 1) := by decide +kernel
theorem dX3_consider_17 : decode cX3_consider 17 = .ok (.istore 4, 2) := by decide +kernel
theorem dX3_consider_19 : decode cX3_consider 19 = .ok (.aload_n 0, 1) := by decide +kernel
theorem dX3_consider_20 : decode cX3_consider 20 = .ok (.getfield 7, 3) := by decide +kernel
theorem dX3_consider_23 : decode cX3_consider 23 = .ok (.ifCond .eq 14, 3) := by decide +kernel
theorem dX3_consider_26 : decode cX3_consider 26 = .ok (.aload_n 0, 1) := by decide +kernel
theorem dX3_consider_27 : decode cX3_consider 27 = .ok (.iload_n 1, 1) := by decide +kernel
theorem dX3_consider_28 : decode cX3_consider 28 = .ok (.iload_n 2, 1) := by decide +kernel
theorem dX3_consider_29 : decode cX3_consider 29 = .ok (.iload 4, 2) := by decide +kernel
theorem dX3_consider_31 : decode cX3_consider 31 = .ok (.invokevirtual 28, 3) := by decide +kernel
theorem dX3_consider_34 : decode cX3_consider 34 = .ok (.ifCond .eq 24, 3) := by decide +kernel
theorem dX3_consider_37 : decode cX3_consider 37 = .ok (.aload_n 0, 1) := by decide +kernel
theorem dX3_consider_38 : decode cX3_consider 38 = .ok (.iload_n 1, 1) := by decide +kernel
theorem dX3_consider_39 : decode cX3_consider 39 = .ok (.putfield 7, 3) := by decide +kernel
theorem dX3_consider_42 : decode cX3_consider 42 = .ok (.aload_n 0, 1) := by decide +kernel
theorem dX3_consider_43 : decode cX3_consider 43 = .ok (.iload_n 2, 1) := by decide +kernel
theorem dX3_consider_44 : decode cX3_consider 44 = .ok (.putfield 13, 3) := by decide +kernel
theorem dX3_consider_47 : decode cX3_consider 47 = .ok (.aload_n 0, 1) := by decide +kernel
theorem dX3_consider_48 : decode cX3_consider 48 = .ok (.iload_n 3, 1) := by decide +kernel
theorem dX3_consider_49 : decode cX3_consider 49 = .ok (.putfield 16, 3) := by decide +kernel
theorem dX3_consider_52 : decode cX3_consider 52 = .ok (.aload_n 0, 1) := by decide +kernel
theorem dX3_consider_53 : decode cX3_consider 53 = .ok (.iload 4, 2) := by decide +kernel
theorem dX3_consider_55 : decode cX3_consider 55 = .ok (.putfield 19, 3) := by decide +kernel
theorem dX3_consider_58 : decode cX3_consider 58 = .ok (.return_, 1) := by decide +kernel
theorem dX3_isBetter_0 : decode cX3_isBetter 0 = .ok (.iload_n 3, 1) := by decide +kernel
theorem dX3_isBetter_1 : decode cX3_isBetter 1 = .ok (.aload_n 0, 1) := by decide +kernel
theorem dX3_isBetter_2 : decode cX3_isBetter 2 = .ok (.getfield 19, 3) := by decide +kernel
theorem dX3_isBetter_5 : decode cX3_isBetter 5 = .ok (.if_icmp .eq 17, 3) := by decide +kernel
theorem dX3_isBetter_8 : decode cX3_isBetter 8 = .ok (.iload_n 3, 1) := by decide +kernel
theorem dX3_isBetter_9 : decode cX3_isBetter 9 = .ok (.aload_n 0, 1) := by decide +kernel
theorem dX3_isBetter_10 : decode cX3_isBetter 10 = .ok (.getfield 19, 3) := by decide +kernel
theorem dX3_isBetter_13 : decode cX3_isBetter 13 = .ok (.if_icmp .le 7, 3) := by decide +kernel
theorem dX3_isBetter_16 : decode cX3_isBetter 16 = .ok (.iconst 1, 1) := by decide +kernel
theorem dX3_isBetter_17 : decode cX3_isBetter 17 = .ok (.goto 4, 3) := by decide +kernel
theorem dX3_isBetter_20 : decode cX3_isBetter 20 = .ok (.iconst 0, 1) := by decide +kernel
theorem dX3_isBetter_21 : decode cX3_isBetter 21 = .ok (.ireturn, 1) := by decide +kernel
theorem dX3_isBetter_22 : decode cX3_isBetter 22 = .ok (.iload_n 1, 1) := by decide +kernel
theorem dX3_isBetter_23 : decode cX3_isBetter 23 = .ok (.aload_n 0, 1) := by decide +kernel
theorem dX3_isBetter_24 : decode cX3_isBetter 24 = .ok (.getfield 7, 3) := by decide +kernel
theorem dX3_isBetter_27 : decode cX3_isBetter 27 = .ok (.if_icmp .lt 19, 3) := by decide +kernel
theorem dX3_isBetter_30 : decode cX3_isBetter 30 = .ok (.iload_n 1, 1) := by decide +kernel
theorem dX3_isBetter_31 : decode cX3_isBetter 31 = .ok (.aload_n 0, 1) := by decide +kernel
theorem dX3_isBetter_32 : decode cX3_isBetter 32 = .ok (.getfield 7, 3) := by decide +kernel
theorem dX3_isBetter_35 : decode cX3_isBetter 35 = .ok (.if_icmp .ne 15, 3) := by decide +kernel
theorem dX3_isBetter_38 : decode cX3_isBetter 38 = .ok (.iload_n 2, 1) := by decide +kernel
theorem dX3_isBetter_39 : decode cX3_isBetter 39 = .ok (.aload_n 0, 1) := by decide +kernel
theorem dX3_isBetter_40 : decode cX3_isBetter 40 = .ok (.getfield 13, 3) := by decide +kernel
theorem dX3_isBetter_43 : decode cX3_isBetter 43 = .ok (.if_icmp .ge 7, 3) := by decide +kernel
theorem dX3_isBetter_46 : decode cX3_isBetter 46 = .ok (.iconst 1, 1) := by decide +kernel
theorem dX3_isBetter_47 : decode cX3_isBetter 47 = .ok (.goto 4, 3) := by decide +kernel
theorem dX3_isBetter_50 : decode cX3_isBetter 50 = .ok (.iconst 0, 1) := by decide +kernel
theorem dX3_isBetter_51 : decode cX3_isBetter 51 = .ok (.ireturn, 1) := by decide +kernel
theorem dX3_field_0 : decode cX3_field 0 = .ok (.iload_n 1, 1) := by decide +kernel
theorem dX3_field_1 : decode cX3_field 1 = .ok (.tableswitch 42 0 2 #[27, 32, 37], 27) := by decide +kernel
theorem dX3_field_28 : decode cX3_field 28 = .ok (.aload_n 0, 1) := by decide +kernel
theorem dX3_field_29 : decode cX3_field 29 = .ok (.getfield 7, 3) := by decide +kernel
theorem dX3_field_32 : decode cX3_field 32 = .ok (.ireturn, 1) := by decide +kernel
theorem dX3_field_33 : decode cX3_field 33 = .ok (.aload_n 0, 1) := by decide +kernel
theorem dX3_field_34 : decode cX3_field 34 = .ok (.getfield 13, 3) := by decide +kernel
theorem dX3_field_37 : decode cX3_field 37 = .ok (.ireturn, 1) := by decide +kernel
theorem dX3_field_38 : decode cX3_field 38 = .ok (.aload_n 0, 1) := by decide +kernel
theorem dX3_field_39 : decode cX3_field 39 = .ok (.getfield 16, 3) := by decide +kernel
theorem dX3_field_42 : decode cX3_field 42 = .ok (.ireturn, 1) := by decide +kernel
theorem dX3_field_43 : decode cX3_field 43 = .ok (.aload_n 0, 1) := by decide +kernel
theorem dX3_field_44 : decode cX3_field 44 = .ok (.getfield 19, 3) := by decide +kernel
theorem dX3_field_47 : decode cX3_field 47 = .ok (.ireturn, 1) := by decide +kernel
theorem dX4_init_0 : decode cX4_init 0 = .ok (.aload_n 0, 1) := by decide +kernel
theorem dX4_init_1 : decode cX4_init 1 = .ok (.invokespecial 3, 3) := by decide +kernel
theorem dX4_init_4 : decode cX4_init 4 = .ok (.aload_n 0, 1) := by decide +kernel
theorem dX4_init_5 : decode cX4_init 5 = .ok (.iconst 1, 1) := by decide +kernel
theorem dX4_init_6 : decode cX4_init 6 = .ok (.newarray .int, 2) := by decide +kernel
theorem dX4_init_8 : decode cX4_init 8 = .ok (.dup, 1) := by decide +kernel
theorem dX4_init_9 : decode cX4_init 9 = .ok (.iconst 0, 1) := by decide +kernel
theorem dX4_init_10 : decode cX4_init 10 = .ok (.iconst (-1), 1) := by decide +kernel
theorem dX4_init_11 : decode cX4_init 11 = .ok (.iastore, 1) := by decide +kernel
theorem dX4_init_12 : decode cX4_init 12 = .ok (.putfield 9, 3) := by decide +kernel
theorem dX4_init_15 : decode cX4_init 15 = .ok (.aload_n 0, 1) := by decide +kernel
theorem dX4_init_16 : decode cX4_init 16 = .ok (.aconst_null, 1) := by decide +kernel
theorem dX4_init_17 : decode cX4_init 17 = .ok (.putfield 15, 3) := by decide +kernel
theorem dX4_init_20 : decode cX4_init 20 = .ok (.aload_n 0, 1) := by decide +kernel
theorem dX4_init_21 : decode cX4_init 21 = .ok (.iconst (-1), 1) := by decide +kernel
theorem dX4_init_22 : decode cX4_init 22 = .ok (.putfield 18, 3) := by decide +kernel
theorem dX4_init_25 : decode cX4_init 25 = .ok (.aload_n 0, 1) := by decide +kernel
theorem dX4_init_26 : decode cX4_init 26 = .ok (.iconst 3, 1) := by decide +kernel
theorem dX4_init_27 : decode cX4_init 27 = .ok (.newarray .int, 2) := by decide +kernel
theorem dX4_init_29 : decode cX4_init 29 = .ok (.dup, 1) := by decide +kernel
theorem dX4_init_30 : decode cX4_init 30 = .ok (.iconst 0, 1) := by decide +kernel
theorem dX4_init_31 : decode cX4_init 31 = .ok (.bipush 64, 2) := by decide +kernel
theorem dX4_init_33 : decode cX4_init 33 = .ok (.iastore, 1) := by decide +kernel
theorem dX4_init_34 : decode cX4_init 34 = .ok (.dup, 1) := by decide +kernel
theorem dX4_init_35 : decode cX4_init 35 = .ok (.iconst 1, 1) := by decide +kernel
theorem dX4_init_36 : decode cX4_init 36 = .ok (.bipush 64, 2) := by decide +kernel
theorem dX4_init_38 : decode cX4_init 38 = .ok (.iastore, 1) := by decide +kernel
theorem dX4_init_39 : decode cX4_init 39 = .ok (.dup, 1) := by decide +kernel
theorem dX4_init_40 : decode cX4_init 40 = .ok (.iconst 2, 1) := by decide +kernel
theorem dX4_init_41 : decode cX4_init 41 = .ok (.bipush 64, 2) := by decide +kernel
theorem dX4_init_43 : decode cX4_init 43 = .ok (.iastore, 1) := by decide +kernel
theorem dX4_init_44 : decode cX4_init 44 = .ok (.putfield 22, 3) := by decide +kernel
theorem dX4_init_47 : decode cX4_init 47 = .ok (.aload_n 0, 1) := by decide +kernel
theorem dX4_init_48 : decode cX4_init 48 = .ok (.iconst 3, 1) := by decide +kernel
theorem dX4_init_49 : decode cX4_init 49 = .ok (.newarray .int, 2) := by decide +kernel
theorem dX4_init_51 : decode cX4_init 51 = .ok (.dup, 1) := by decide +kernel
theorem dX4_init_52 : decode cX4_init 52 = .ok (.iconst 0, 1) := by decide +kernel
theorem dX4_init_53 : decode cX4_init 53 = .ok (.iconst (-1), 1) := by decide +kernel
theorem dX4_init_54 : decode cX4_init 54 = .ok (.iastore, 1) := by decide +kernel
theorem dX4_init_55 : decode cX4_init 55 = .ok (.dup, 1) := by decide +kernel
theorem dX4_init_56 : decode cX4_init 56 = .ok (.iconst 1, 1) := by decide +kernel
theorem dX4_init_57 : decode cX4_init 57 = .ok (.iconst (-1), 1) := by decide +kernel
theorem dX4_init_58 : decode cX4_init 58 = .ok (.iastore, 1) := by decide +kernel
theorem dX4_init_59 : decode cX4_init 59 = .ok (.dup, 1) := by decide +kernel
theorem dX4_init_60 : decode cX4_init 60 = .ok (.iconst 2, 1) := by decide +kernel
theorem dX4_init_61 : decode cX4_init 61 = .ok (.iconst (-1), 1) := by decide +kernel
theorem dX4_init_62 : decode cX4_init 62 = .ok (.iastore, 1) := by decide +kernel
theorem dX4_init_63 : decode cX4_init 63 = .ok (.putfield 25, 3) := by decide +kernel
theorem dX4_init_66 : decode cX4_init 66 = .ok (.aload_n 0, 1) := by decide +kernel
theorem dX4_init_67 : decode cX4_init 67 = .ok (.bipush 10, 2) := by decide +kernel
theorem dX4_init_69 : decode cX4_init 69 = .ok (.putfield 28, 3) := by decide +kernel
theorem dX4_init_72 : decode cX4_init 72 = .ok (.aload_n 0, 1) := by decide +kernel
theorem dX4_init_73 : decode cX4_init 73 = .ok (.bipush 12, 2) := by decide +kernel
theorem dX4_init_75 : decode cX4_init 75 = .ok (.putfield 31, 3) := by decide +kernel
theorem dX4_init_78 : decode cX4_init 78 = .ok (.aload_n 0, 1) := by decide +kernel
theorem dX4_init_79 : decode cX4_init 79 = .ok (.bipush 100, 2) := by decide +kernel
theorem dX4_init_81 : decode cX4_init 81 = .ok (.putfield 34, 3) := by decide +kernel
theorem dX4_init_84 : decode cX4_init 84 = .ok (.aload_n 0, 1) := by decide +kernel
theorem dX4_init_85 : decode cX4_init 85 = .ok (.iconst 0, 1) := by decide +kernel
theorem dX4_init_86 : decode cX4_init 86 = .ok (.putfield 37, 3) := by decide +kernel
theorem dX4_init_89 : decode cX4_init 89 = .ok (.aload_n 0, 1) := by decide +kernel
theorem dX4_init_90 : decode cX4_init 90 = .ok (.iconst 0, 1) := by decide +kernel
theorem dX4_init_91 : decode cX4_init 91 = .ok (.putfield 40, 3) := by decide +kernel
theorem dX4_init_94 : decode cX4_init 94 = .ok (.aload_n 0, 1) := by decide +kernel
theorem dX4_init_95 : decode cX4_init 95 = .ok (.iconst 0, 1) := by decide +kernel
theorem dX4_init_96 : decode cX4_init 96 = .ok (.putfield 43, 3) := by decide +kernel
theorem dX4_init_99 : decode cX4_init 99 = .ok (.aload_n 0, 1) := by decide +kernel
theorem dX4_init_100 : decode cX4_init 100 = .ok (.iconst 0, 1) := by decide +kernel
theorem dX4_init_101 : decode cX4_init 101 = .ok (.putfield 47, 3) := by decide +kernel
theorem dX4_init_104 : decode cX4_init 104 = .ok (.aload_n 0, 1) := by decide +kernel
theorem dX4_init_105 : decode cX4_init 105 = .ok (.iload_n 1, 1) := by decide +kernel
theorem dX4_init_106 : decode cX4_init 106 = .ok (.putfield 50, 3) := by decide +kernel
theorem dX4_init_109 : decode cX4_init 109 = .ok (.return_, 1) := by decide +kernel
theorem dX4_pagesFor_0 : decode cX4_pagesFor 0 = .ok (.iload_n 1, 1) := by decide +kernel
theorem dX4_pagesFor_1 : decode cX4_pagesFor 1 = .ok (.ifCond .lt 21, 3) := by decide +kernel
theorem dX4_pagesFor_4 : decode cX4_pagesFor 4 = .ok (.iload_n 1, 1) := by decide +kernel
theorem dX4_pagesFor_5 : decode cX4_pagesFor 5 = .ok (.aload_n 0, 1) := by decide +kernel
theorem dX4_pagesFor_6 : decode cX4_pagesFor 6 = .ok (.getfield 22, 3) := by decide +kernel
theorem dX4_pagesFor_9 : decode cX4_pagesFor 9 = .ok (.arraylength, 1) := by decide +kernel
theorem dX4_pagesFor_10 : decode cX4_pagesFor 10 = .ok (.if_icmp .ge 12, 3) := by decide +kernel
theorem dX4_pagesFor_13 : decode cX4_pagesFor 13 = .ok (.aload_n 0, 1) := by decide +kernel
theorem dX4_pagesFor_14 : decode cX4_pagesFor 14 = .ok (.getfield 22, 3) := by decide +kernel
theorem dX4_pagesFor_17 : decode cX4_pagesFor 17 = .ok (.iload_n 1, 1) := by decide +kernel
theorem dX4_pagesFor_18 : decode cX4_pagesFor 18 = .ok (.iaload, 1) := by decide +kernel
theorem dX4_pagesFor_19 : decode cX4_pagesFor 19 = .ok (.goto 5, 3) := by decide +kernel
theorem dX4_pagesFor_22 : decode cX4_pagesFor 22 = .ok (.bipush 64, 2) := by decide +kernel
theorem dX4_pagesFor_24 : decode cX4_pagesFor 24 = .ok (.ireturn, 1) := by decide +kernel
theorem dX4_pagesClauseFor_0 : decode cX4_pagesClauseFor 0 = .ok (.iload_n 1, 1) := by decide +kernel
theorem dX4_pagesClauseFor_1 : decode cX4_pagesClauseFor 1 = .ok (.ifCond .lt 21, 3) := by decide +kernel
theorem dX4_pagesClauseFor_4 : decode cX4_pagesClauseFor 4 = .ok (.iload_n 1, 1) := by decide +kernel
theorem dX4_pagesClauseFor_5 : decode cX4_pagesClauseFor 5 = .ok (.aload_n 0, 1) := by decide +kernel
theorem dX4_pagesClauseFor_6 : decode cX4_pagesClauseFor 6 = .ok (.getfield 25, 3) := by decide +kernel
theorem dX4_pagesClauseFor_9 : decode cX4_pagesClauseFor 9 = .ok (.arraylength, 1) := by decide +kernel
theorem dX4_pagesClauseFor_10 : decode cX4_pagesClauseFor 10 = .ok (.if_icmp .ge 12, 3) := by decide +kernel
theorem dX4_pagesClauseFor_13 : decode cX4_pagesClauseFor 13 = .ok (.aload_n 0, 1) := by decide +kernel
theorem dX4_pagesClauseFor_14 : decode cX4_pagesClauseFor 14 = .ok (.getfield 25, 3) := by decide +kernel
theorem dX4_pagesClauseFor_17 : decode cX4_pagesClauseFor 17 = .ok (.iload_n 1, 1) := by decide +kernel
theorem dX4_pagesClauseFor_18 : decode cX4_pagesClauseFor 18 = .ok (.iaload, 1) := by decide +kernel
theorem dX4_pagesClauseFor_19 : decode cX4_pagesClauseFor 19 = .ok (.goto 4, 3) := by decide +kernel
theorem dX4_pagesClauseFor_22 : decode cX4_pagesClauseFor 22 = .ok (.iconst (-1), 1) := by decide +kernel
theorem dX4_pagesClauseFor_23 : decode cX4_pagesClauseFor 23 = .ok (.ireturn, 1) := by decide +kernel
theorem dX4_tellPages_0 : decode cX4_tellPages 0 = .ok (.iload_n 1, 1) := by decide +kernel
theorem dX4_tellPages_1 : decode cX4_tellPages 1 = .ok (.ifCond .lt 35, 3) := by decide +kernel
theorem dX4_tellPages_4 : decode cX4_tellPages 4 = .ok (.iload_n 1, 1) := by decide +kernel
theorem dX4_tellPages_5 : decode cX4_tellPages 5 = .ok (.aload_n 0, 1) := by decide +kernel
theorem dX4_tellPages_6 : decode cX4_tellPages 6 = .ok (.getfield 22, 3) := by decide +kernel
theorem dX4_tellPages_9 : decode cX4_tellPages 9 = .ok (.arraylength, 1) := by decide +kernel
theorem dX4_tellPages_10 : decode cX4_tellPages 10 = .ok (.if_icmp .ge 26, 3) := by decide +kernel
theorem dX4_tellPages_13 : decode cX4_tellPages 13 = .ok (.iload_n 1, 1) := by decide +kernel
theorem dX4_tellPages_14 : decode cX4_tellPages 14 = .ok (.aload_n 0, 1) := by decide +kernel
theorem dX4_tellPages_15 : decode cX4_tellPages 15 = .ok (.getfield 25, 3) := by decide +kernel
theorem dX4_tellPages_18 : decode cX4_tellPages 18 = .ok (.arraylength, 1) := by decide +kernel
theorem dX4_tellPages_19 : decode cX4_tellPages 19 = .ok (.if_icmp .ge 17, 3) := by decide +kernel
theorem dX4_tellPages_22 : decode cX4_tellPages 22 = .ok (.aload_n 0, 1) := by decide +kernel
theorem dX4_tellPages_23 : decode cX4_tellPages 23 = .ok (.getfield 22, 3) := by decide +kernel
theorem dX4_tellPages_26 : decode cX4_tellPages 26 = .ok (.iload_n 1, 1) := by decide +kernel
theorem dX4_tellPages_27 : decode cX4_tellPages 27 = .ok (.iload_n 2, 1) := by decide +kernel
theorem dX4_tellPages_28 : decode cX4_tellPages 28 = .ok (.iastore, 1) := by decide +kernel
theorem dX4_tellPages_29 : decode cX4_tellPages 29 = .ok (.aload_n 0, 1) := by decide +kernel
theorem dX4_tellPages_30 : decode cX4_tellPages 30 = .ok (.getfield 25, 3) := by decide +kernel
theorem dX4_tellPages_33 : decode cX4_tellPages 33 = .ok (.iload_n 1, 1) := by decide +kernel
theorem dX4_tellPages_34 : decode cX4_tellPages 34 = .ok (.iload_n 3, 1) := by decide +kernel
theorem dX4_tellPages_35 : decode cX4_tellPages 35 = .ok (.iastore, 1) := by decide +kernel
theorem dX4_tellPages_36 : decode cX4_tellPages 36 = .ok (.return_, 1) := by decide +kernel
theorem dX5_init_0 : decode cX5_init 0 = .ok (.aload_n 0, 1) := by decide +kernel
theorem dX5_init_1 : decode cX5_init 1 = .ok (.invokespecial 3, 3) := by decide +kernel
theorem dX5_init_4 : decode cX5_init 4 = .ok (.aload_n 0, 1) := by decide +kernel
theorem dX5_init_5 : decode cX5_init 5 = .ok (.iconst 0, 1) := by decide +kernel
theorem dX5_init_6 : decode cX5_init 6 = .ok (.putfield 9, 3) := by decide +kernel
theorem dX5_init_9 : decode cX5_init 9 = .ok (.aload_n 0, 1) := by decide +kernel
theorem dX5_init_10 : decode cX5_init 10 = .ok (.iconst 0, 1) := by decide +kernel
theorem dX5_init_11 : decode cX5_init 11 = .ok (.putfield 15, 3) := by decide +kernel
theorem dX5_init_14 : decode cX5_init 14 = .ok (.aload_n 0, 1) := by decide +kernel
theorem dX5_init_15 : decode cX5_init 15 = .ok (.iconst 0, 1) := by decide +kernel
theorem dX5_init_16 : decode cX5_init 16 = .ok (.putfield 18, 3) := by decide +kernel
theorem dX5_init_19 : decode cX5_init 19 = .ok (.aload_n 0, 1) := by decide +kernel
theorem dX5_init_20 : decode cX5_init 20 = .ok (.iconst 0, 1) := by decide +kernel
theorem dX5_init_21 : decode cX5_init 21 = .ok (.putfield 21, 3) := by decide +kernel
theorem dX5_init_24 : decode cX5_init 24 = .ok (.aload_n 0, 1) := by decide +kernel
theorem dX5_init_25 : decode cX5_init 25 = .ok (.iconst 0, 1) := by decide +kernel
theorem dX5_init_26 : decode cX5_init 26 = .ok (.putfield 24, 3) := by decide +kernel
theorem dX5_init_29 : decode cX5_init 29 = .ok (.aload_n 0, 1) := by decide +kernel
theorem dX5_init_30 : decode cX5_init 30 = .ok (.iconst 0, 1) := by decide +kernel
theorem dX5_init_31 : decode cX5_init 31 = .ok (.putfield 27, 3) := by decide +kernel
theorem dX5_init_34 : decode cX5_init 34 = .ok (.aload_n 0, 1) := by decide +kernel
theorem dX5_init_35 : decode cX5_init 35 = .ok (.iconst 0, 1) := by decide +kernel
theorem dX5_init_36 : decode cX5_init 36 = .ok (.putfield 30, 3) := by decide +kernel
theorem dX5_init_39 : decode cX5_init 39 = .ok (.aload_n 0, 1) := by decide +kernel
theorem dX5_init_40 : decode cX5_init 40 = .ok (.iconst 0, 1) := by decide +kernel
theorem dX5_init_41 : decode cX5_init 41 = .ok (.putfield 33, 3) := by decide +kernel
theorem dX5_init_44 : decode cX5_init 44 = .ok (.aload_n 0, 1) := by decide +kernel
theorem dX5_init_45 : decode cX5_init 45 = .ok (.iconst 5, 1) := by decide +kernel
theorem dX5_init_46 : decode cX5_init 46 = .ok (.newarray .int, 2) := by decide +kernel
theorem dX5_init_48 : decode cX5_init 48 = .ok (.putfield 36, 3) := by decide +kernel
theorem dX5_init_51 : decode cX5_init 51 = .ok (.aload_n 0, 1) := by decide +kernel
theorem dX5_init_52 : decode cX5_init 52 = .ok (.bipush 12, 2) := by decide +kernel
theorem dX5_init_54 : decode cX5_init 54 = .ok (.newarray .int, 2) := by decide +kernel
theorem dX5_init_56 : decode cX5_init 56 = .ok (.putfield 40, 3) := by decide +kernel
theorem dX5_init_59 : decode cX5_init 59 = .ok (.aload_n 0, 1) := by decide +kernel
theorem dX5_init_60 : decode cX5_init 60 = .ok (.new 43, 3) := by decide +kernel
theorem dX5_init_63 : decode cX5_init 63 = .ok (.dup, 1) := by decide +kernel
theorem dX5_init_64 : decode cX5_init 64 = .ok (.invokespecial 45, 3) := by decide +kernel
theorem dX5_init_67 : decode cX5_init 67 = .ok (.putfield 46, 3) := by decide +kernel
theorem dX5_init_70 : decode cX5_init 70 = .ok (.aload_n 0, 1) := by decide +kernel
theorem dX5_init_71 : decode cX5_init 71 = .ok (.new 50, 3) := by decide +kernel
theorem dX5_init_74 : decode cX5_init 74 = .ok (.dup, 1) := by decide +kernel
theorem dX5_init_75 : decode cX5_init 75 = .ok (.invokespecial 52, 3) := by decide +kernel
theorem dX5_init_78 : decode cX5_init 78 = .ok (.putfield 53, 3) := by decide +kernel
theorem dX5_init_81 : decode cX5_init 81 = .ok (.aload_n 0, 1) := by decide +kernel
theorem dX5_init_82 : decode cX5_init 82 = .ok (.iload_n 1, 1) := by decide +kernel
theorem dX5_init_83 : decode cX5_init 83 = .ok (.putfield 57, 3) := by decide +kernel
theorem dX5_init_86 : decode cX5_init 86 = .ok (.aload_n 0, 1) := by decide +kernel
theorem dX5_init_87 : decode cX5_init 87 = .ok (.iload_n 2, 1) := by decide +kernel
theorem dX5_init_88 : decode cX5_init 88 = .ok (.putfield 60, 3) := by decide +kernel
theorem dX5_init_91 : decode cX5_init 91 = .ok (.aload_n 0, 1) := by decide +kernel
theorem dX5_init_92 : decode cX5_init 92 = .ok (.iload_n 3, 1) := by decide +kernel
theorem dX5_init_93 : decode cX5_init 93 = .ok (.putfield 63, 3) := by decide +kernel
theorem dX5_init_96 : decode cX5_init 96 = .ok (.aload_n 0, 1) := by decide +kernel
theorem dX5_init_97 : decode cX5_init 97 = .ok (.iload 4, 2) := by decide +kernel
theorem dX5_init_99 : decode cX5_init 99 = .ok (.putfield 66, 3) := by decide +kernel
theorem dX5_init_102 : decode cX5_init 102 = .ok (.aload_n 0, 1) := by decide +kernel
theorem dX5_init_103 : decode cX5_init 103 = .ok (.iload 5, 2) := by decide +kernel
theorem dX5_init_105 : decode cX5_init 105 = .ok (.putfield 69, 3) := by decide +kernel
theorem dX5_init_108 : decode cX5_init 108 = .ok (.return_, 1) := by decide +kernel
theorem dX5_isAdmitted_0 : decode cX5_isAdmitted 0 = .ok (.aload_n 0, 1) := by decide +kernel
theorem dX5_isAdmitted_1 : decode cX5_isAdmitted 1 = .ok (.getfield 24, 3) := by decide +kernel
theorem dX5_isAdmitted_4 : decode cX5_isAdmitted 4 = .ok (.iconst 1, 1) := by decide +kernel
theorem dX5_isAdmitted_5 : decode cX5_isAdmitted 5 = .ok (.if_icmp .ne 7, 3) := by decide +kernel
theorem dX5_isAdmitted_8 : decode cX5_isAdmitted 8 = .ok (.iconst 1, 1) := by decide +kernel
theorem dX5_isAdmitted_9 : decode cX5_isAdmitted 9 = .ok (.goto 4, 3) := by decide +kernel
theorem dX5_isAdmitted_12 : decode cX5_isAdmitted 12 = .ok (.iconst 0, 1) := by decide +kernel
theorem dX5_isAdmitted_13 : decode cX5_isAdmitted 13 = .ok (.ireturn, 1) := by decide +kernel
theorem dX5_field_0 : decode cX5_field 0 = .ok (.iload_n 1, 1) := by decide +kernel
theorem dX5_field_1 : decode cX5_field 1 = .ok (.tableswitch 105 0 9 #[55, 60, 65, 70, 75, 80, 85, 90, 95, 100], 55) := by decide +kernel
theorem dX5_field_56 : decode cX5_field 56 = .ok (.aload_n 0, 1) := by decide +kernel
theorem dX5_field_57 : decode cX5_field 57 = .ok (.getfield 57, 3) := by decide +kernel
theorem dX5_field_60 : decode cX5_field 60 = .ok (.ireturn, 1) := by decide +kernel
theorem dX5_field_61 : decode cX5_field 61 = .ok (.aload_n 0, 1) := by decide +kernel
theorem dX5_field_62 : decode cX5_field 62 = .ok (.getfield 60, 3) := by decide +kernel
theorem dX5_field_65 : decode cX5_field 65 = .ok (.ireturn, 1) := by decide +kernel
theorem dX5_field_66 : decode cX5_field 66 = .ok (.aload_n 0, 1) := by decide +kernel
theorem dX5_field_67 : decode cX5_field 67 = .ok (.getfield 63, 3) := by decide +kernel
theorem dX5_field_70 : decode cX5_field 70 = .ok (.ireturn, 1) := by decide +kernel
theorem dX5_field_71 : decode cX5_field 71 = .ok (.aload_n 0, 1) := by decide +kernel
theorem dX5_field_72 : decode cX5_field 72 = .ok (.getfield 66, 3) := by decide +kernel
theorem dX5_field_75 : decode cX5_field 75 = .ok (.ireturn, 1) := by decide +kernel
theorem dX5_field_76 : decode cX5_field 76 = .ok (.aload_n 0, 1) := by decide +kernel
theorem dX5_field_77 : decode cX5_field 77 = .ok (.getfield 69, 3) := by decide +kernel
theorem dX5_field_80 : decode cX5_field 80 = .ok (.ireturn, 1) := by decide +kernel
theorem dX5_field_81 : decode cX5_field 81 = .ok (.aload_n 0, 1) := by decide +kernel
theorem dX5_field_82 : decode cX5_field 82 = .ok (.getfield 9, 3) := by decide +kernel
theorem dX5_field_85 : decode cX5_field 85 = .ok (.ireturn, 1) := by decide +kernel
theorem dX5_field_86 : decode cX5_field 86 = .ok (.aload_n 0, 1) := by decide +kernel
theorem dX5_field_87 : decode cX5_field 87 = .ok (.getfield 15, 3) := by decide +kernel
theorem dX5_field_90 : decode cX5_field 90 = .ok (.ireturn, 1) := by decide +kernel
theorem dX5_field_91 : decode cX5_field 91 = .ok (.aload_n 0, 1) := by decide +kernel
theorem dX5_field_92 : decode cX5_field 92 = .ok (.getfield 18, 3) := by decide +kernel
theorem dX5_field_95 : decode cX5_field 95 = .ok (.ireturn, 1) := by decide +kernel
theorem dX5_field_96 : decode cX5_field 96 = .ok (.aload_n 0, 1) := by decide +kernel
theorem dX5_field_97 : decode cX5_field 97 = .ok (.getfield 21, 3) := by decide +kernel
theorem dX5_field_100 : decode cX5_field 100 = .ok (.ireturn, 1) := by decide +kernel
theorem dX5_field_101 : decode cX5_field 101 = .ok (.aload_n 0, 1) := by decide +kernel
theorem dX5_field_102 : decode cX5_field 102 = .ok (.getfield 24, 3) := by decide +kernel
theorem dX5_field_105 : decode cX5_field 105 = .ok (.ireturn, 1) := by decide +kernel
theorem dX5_field_106 : decode cX5_field 106 = .ok (.aload_n 0, 1) := by decide +kernel
theorem dX5_field_107 : decode cX5_field 107 = .ok (.getfield 27, 3) := by decide +kernel
theorem dX5_field_110 : decode cX5_field 110 = .ok (.ireturn, 1) := by decide +kernel
theorem dX5_change_0 : decode cX5_change 0 = .ok (.iload_n 1, 1) := by decide +kernel
theorem dX5_change_1 : decode cX5_change 1 = .ok (.tableswitch 66 0 2 #[27, 40, 53], 27) := by decide +kernel
theorem dX5_change_28 : decode cX5_change 28 = .ok (.aload_n 0, 1) := by decide +kernel
theorem dX5_change_29 : decode cX5_change 29 = .ok (.getfield 63, 3) := by decide +kernel
theorem dX5_change_32 : decode cX5_change 32 = .ok (.istore_n 3, 1) := by decide +kernel
theorem dX5_change_33 : decode cX5_change 33 = .ok (.aload_n 0, 1) := by decide +kernel
theorem dX5_change_34 : decode cX5_change 34 = .ok (.iload_n 2, 1) := by decide +kernel
theorem dX5_change_35 : decode cX5_change 35 = .ok (.putfield 63, 3) := by decide +kernel
theorem dX5_change_38 : decode cX5_change 38 = .ok (.goto 39, 3) := by decide +kernel
theorem dX5_change_41 : decode cX5_change 41 = .ok (.aload_n 0, 1) := by decide +kernel
theorem dX5_change_42 : decode cX5_change 42 = .ok (.getfield 66, 3) := by decide +kernel
theorem dX5_change_45 : decode cX5_change 45 = .ok (.istore_n 3, 1) := by decide +kernel
theorem dX5_change_46 : decode cX5_change 46 = .ok (.aload_n 0, 1) := by decide +kernel
theorem dX5_change_47 : decode cX5_change 47 = .ok (.iload_n 2, 1) := by decide +kernel
theorem dX5_change_48 : decode cX5_change 48 = .ok (.putfield 66, 3) := by decide +kernel
theorem dX5_change_51 : decode cX5_change 51 = .ok (.goto 26, 3) := by decide +kernel
theorem dX5_change_54 : decode cX5_change 54 = .ok (.aload_n 0, 1) := by decide +kernel
theorem dX5_change_55 : decode cX5_change 55 = .ok (.getfield 69, 3) := by decide +kernel
theorem dX5_change_58 : decode cX5_change 58 = .ok (.istore_n 3, 1) := by decide +kernel
theorem dX5_change_59 : decode cX5_change 59 = .ok (.aload_n 0, 1) := by decide +kernel
theorem dX5_change_60 : decode cX5_change 60 = .ok (.iload_n 2, 1) := by decide +kernel
theorem dX5_change_61 : decode cX5_change 61 = .ok (.putfield 69, 3) := by decide +kernel
theorem dX5_change_64 : decode cX5_change 64 = .ok (.goto 13, 3) := by decide +kernel
theorem dX5_change_67 : decode cX5_change 67 = .ok (.aload_n 0, 1) := by decide +kernel
theorem dX5_change_68 : decode cX5_change 68 = .ok (.getfield 9, 3) := by decide +kernel
theorem dX5_change_71 : decode cX5_change 71 = .ok (.istore_n 3, 1) := by decide +kernel
theorem dX5_change_72 : decode cX5_change 72 = .ok (.aload_n 0, 1) := by decide +kernel
theorem dX5_change_73 : decode cX5_change 73 = .ok (.iload_n 2, 1) := by decide +kernel
theorem dX5_change_74 : decode cX5_change 74 = .ok (.putfield 9, 3) := by decide +kernel
theorem dX5_change_77 : decode cX5_change 77 = .ok (.iload_n 3, 1) := by decide +kernel
theorem dX5_change_78 : decode cX5_change 78 = .ok (.ireturn, 1) := by decide +kernel
theorem dX5_takeFrom_0 : decode cX5_takeFrom 0 = .ok (.iload_n 1, 1) := by decide +kernel
theorem dX5_takeFrom_1 : decode cX5_takeFrom 1 = .ok (.ifCond .lt 22, 3) := by decide +kernel
theorem dX5_takeFrom_4 : decode cX5_takeFrom 4 = .ok (.iload_n 1, 1) := by decide +kernel
theorem dX5_takeFrom_5 : decode cX5_takeFrom 5 = .ok (.aload_n 0, 1) := by decide +kernel
theorem dX5_takeFrom_6 : decode cX5_takeFrom 6 = .ok (.getfield 40, 3) := by decide +kernel
theorem dX5_takeFrom_9 : decode cX5_takeFrom 9 = .ok (.arraylength, 1) := by decide +kernel
theorem dX5_takeFrom_10 : decode cX5_takeFrom 10 = .ok (.if_icmp .ge 13, 3) := by decide +kernel
theorem dX5_takeFrom_13 : decode cX5_takeFrom 13 = .ok (.aload_n 0, 1) := by decide +kernel
theorem dX5_takeFrom_14 : decode cX5_takeFrom 14 = .ok (.getfield 40, 3) := by decide +kernel
theorem dX5_takeFrom_17 : decode cX5_takeFrom 17 = .ok (.iload_n 1, 1) := by decide +kernel
theorem dX5_takeFrom_18 : decode cX5_takeFrom 18 = .ok (.dup2, 1) := by decide +kernel
theorem dX5_takeFrom_19 : decode cX5_takeFrom 19 = .ok (.iaload, 1) := by decide +kernel
theorem dX5_takeFrom_20 : decode cX5_takeFrom 20 = .ok (.iload_n 2, 1) := by decide +kernel
theorem dX5_takeFrom_21 : decode cX5_takeFrom 21 = .ok (.iadd, 1) := by decide +kernel
theorem dX5_takeFrom_22 : decode cX5_takeFrom 22 = .ok (.iastore, 1) := by decide +kernel
theorem dX5_takeFrom_23 : decode cX5_takeFrom 23 = .ok (.return_, 1) := by decide +kernel
theorem dX5_tookFrom_0 : decode cX5_tookFrom 0 = .ok (.iload_n 1, 1) := by decide +kernel
theorem dX5_tookFrom_1 : decode cX5_tookFrom 1 = .ok (.ifCond .lt 21, 3) := by decide +kernel
theorem dX5_tookFrom_4 : decode cX5_tookFrom 4 = .ok (.iload_n 1, 1) := by decide +kernel
theorem dX5_tookFrom_5 : decode cX5_tookFrom 5 = .ok (.aload_n 0, 1) := by decide +kernel
theorem dX5_tookFrom_6 : decode cX5_tookFrom 6 = .ok (.getfield 40, 3) := by decide +kernel
theorem dX5_tookFrom_9 : decode cX5_tookFrom 9 = .ok (.arraylength, 1) := by decide +kernel
theorem dX5_tookFrom_10 : decode cX5_tookFrom 10 = .ok (.if_icmp .ge 12, 3) := by decide +kernel
theorem dX5_tookFrom_13 : decode cX5_tookFrom 13 = .ok (.aload_n 0, 1) := by decide +kernel
theorem dX5_tookFrom_14 : decode cX5_tookFrom 14 = .ok (.getfield 40, 3) := by decide +kernel
theorem dX5_tookFrom_17 : decode cX5_tookFrom 17 = .ok (.iload_n 1, 1) := by decide +kernel
theorem dX5_tookFrom_18 : decode cX5_tookFrom 18 = .ok (.iaload, 1) := by decide +kernel
theorem dX5_tookFrom_19 : decode cX5_tookFrom 19 = .ok (.goto 4, 3) := by decide +kernel
theorem dX5_tookFrom_22 : decode cX5_tookFrom 22 = .ok (.iconst 0, 1) := by decide +kernel
theorem dX5_tookFrom_23 : decode cX5_tookFrom 23 = .ok (.ireturn, 1) := by decide +kernel
theorem dX5_forgetSwaps_0 : decode cX5_forgetSwaps 0 = .ok (.aload_n 0, 1) := by decide +kernel
theorem dX5_forgetSwaps_1 : decode cX5_forgetSwaps 1 = .ok (.getfield 40, 3) := by decide +kernel
theorem dX5_forgetSwaps_4 : decode cX5_forgetSwaps 4 = .ok (.iconst 0, 1) := by decide +kernel
theorem dX5_forgetSwaps_5 : decode cX5_forgetSwaps 5 = .ok (.invokestatic 72, 3) := by decide +kernel
theorem dX5_forgetSwaps_8 : decode cX5_forgetSwaps 8 = .ok (.return_, 1) := by decide +kernel
theorem dX5_addSize_0 : decode cX5_addSize 0 = .ok (.aload_n 0, 1) := by decide +kernel
theorem dX5_addSize_1 : decode cX5_addSize 1 = .ok (.aload_n 0, 1) := by decide +kernel
theorem dX5_addSize_2 : decode cX5_addSize 2 = .ok (.getfield 60, 3) := by decide +kernel
theorem dX5_addSize_5 : decode cX5_addSize 5 = .ok (.aload_n 1, 1) := by decide +kernel
theorem dX5_addSize_6 : decode cX5_addSize 6 = .ok (.getfield 60, 3) := by decide +kernel
theorem dX5_addSize_9 : decode cX5_addSize 9 = .ok (.iadd, 1) := by decide +kernel
theorem dX5_addSize_10 : decode cX5_addSize 10 = .ok (.ldc 78, 2) := by decide +kernel
theorem dX5_addSize_12 : decode cX5_addSize 12 = .ok (.invokestatic 79, 3) := by decide +kernel
theorem dX5_addSize_15 : decode cX5_addSize 15 = .ok (.putfield 60, 3) := by decide +kernel
theorem dX5_addSize_18 : decode cX5_addSize 18 = .ok (.aload_n 0, 1) := by decide +kernel
theorem dX5_addSize_19 : decode cX5_addSize 19 = .ok (.aload_n 0, 1) := by decide +kernel
theorem dX5_addSize_20 : decode cX5_addSize 20 = .ok (.getfield 63, 3) := by decide +kernel
theorem dX5_addSize_23 : decode cX5_addSize 23 = .ok (.aload_n 1, 1) := by decide +kernel
theorem dX5_addSize_24 : decode cX5_addSize 24 = .ok (.getfield 63, 3) := by decide +kernel
theorem dX5_addSize_27 : decode cX5_addSize 27 = .ok (.iadd, 1) := by decide +kernel
theorem dX5_addSize_28 : decode cX5_addSize 28 = .ok (.sipush 1000, 3) := by decide +kernel
theorem dX5_addSize_31 : decode cX5_addSize 31 = .ok (.invokestatic 79, 3) := by decide +kernel
theorem dX5_addSize_34 : decode cX5_addSize 34 = .ok (.putfield 63, 3) := by decide +kernel
theorem dX5_addSize_37 : decode cX5_addSize 37 = .ok (.aload_n 0, 1) := by decide +kernel
theorem dX5_addSize_38 : decode cX5_addSize 38 = .ok (.dup, 1) := by decide +kernel
theorem dX5_addSize_39 : decode cX5_addSize 39 = .ok (.getfield 18, 3) := by decide +kernel
theorem dX5_addSize_42 : decode cX5_addSize 42 = .ok (.aload_n 1, 1) := by decide +kernel
theorem dX5_addSize_43 : decode cX5_addSize 43 = .ok (.getfield 18, 3) := by decide +kernel
theorem dX5_addSize_46 : decode cX5_addSize 46 = .ok (.iadd, 1) := by decide +kernel
theorem dX5_addSize_47 : decode cX5_addSize 47 = .ok (.putfield 18, 3) := by decide +kernel
theorem dX5_addSize_50 : decode cX5_addSize 50 = .ok (.return_, 1) := by decide +kernel
theorem dX5_takeOver_0 : decode cX5_takeOver 0 = .ok (.aload_n 0, 1) := by decide +kernel
theorem dX5_takeOver_1 : decode cX5_takeOver 1 = .ok (.aload_n 1, 1) := by decide +kernel
theorem dX5_takeOver_2 : decode cX5_takeOver 2 = .ok (.invokevirtual 85, 3) := by decide +kernel
theorem dX5_takeOver_5 : decode cX5_takeOver 5 = .ok (.aload_n 0, 1) := by decide +kernel
theorem dX5_takeOver_6 : decode cX5_takeOver 6 = .ok (.dup, 1) := by decide +kernel
theorem dX5_takeOver_7 : decode cX5_takeOver 7 = .ok (.getfield 21, 3) := by decide +kernel
theorem dX5_takeOver_10 : decode cX5_takeOver 10 = .ok (.aload_n 1, 1) := by decide +kernel
theorem dX5_takeOver_11 : decode cX5_takeOver 11 = .ok (.getfield 21, 3) := by decide +kernel
theorem dX5_takeOver_14 : decode cX5_takeOver 14 = .ok (.iadd, 1) := by decide +kernel
theorem dX5_takeOver_15 : decode cX5_takeOver 15 = .ok (.putfield 21, 3) := by decide +kernel
theorem dX5_takeOver_18 : decode cX5_takeOver 18 = .ok (.aload_n 0, 1) := by decide +kernel
theorem dX5_takeOver_19 : decode cX5_takeOver 19 = .ok (.dup, 1) := by decide +kernel
theorem dX5_takeOver_20 : decode cX5_takeOver 20 = .ok (.getfield 15, 3) := by decide +kernel
theorem dX5_takeOver_23 : decode cX5_takeOver 23 = .ok (.aload_n 1, 1) := by decide +kernel
theorem dX5_takeOver_24 : decode cX5_takeOver 24 = .ok (.getfield 15, 3) := by decide +kernel
theorem dX5_takeOver_27 : decode cX5_takeOver 27 = .ok (.iadd, 1) := by decide +kernel
theorem dX5_takeOver_28 : decode cX5_takeOver 28 = .ok (.putfield 15, 3) := by decide +kernel
theorem dX5_takeOver_31 : decode cX5_takeOver 31 = .ok (.iconst 0, 1) := by decide +kernel
theorem dX5_takeOver_32 : decode cX5_takeOver 32 = .ok (.istore_n 2, 1) := by decide +kernel
theorem dX5_takeOver_33 : decode cX5_takeOver 33 = .ok (.iload_n 2, 1) := by decide +kernel
theorem dX5_takeOver_34 : decode cX5_takeOver 34 = .ok (.aload_n 0, 1) := by decide +kernel
theorem dX5_takeOver_35 : decode cX5_takeOver 35 = .ok (.getfield 36, 3) := by decide +kernel
theorem dX5_takeOver_38 : decode cX5_takeOver 38 = .ok (.arraylength, 1) := by decide +kernel
theorem dX5_takeOver_39 : decode cX5_takeOver 39 = .ok (.if_icmp .ge 42, 3) := by decide +kernel
theorem dX5_takeOver_42 : decode cX5_takeOver 42 = .ok (.iload_n 2, 1) := by decide +kernel
theorem dX5_takeOver_43 : decode cX5_takeOver 43 = .ok (.aload_n 1, 1) := by decide +kernel
theorem dX5_takeOver_44 : decode cX5_takeOver 44 = .ok (.getfield 36, 3) := by decide +kernel
theorem dX5_takeOver_47 : decode cX5_takeOver 47 = .ok (.arraylength, 1) := by decide +kernel
theorem dX5_takeOver_48 : decode cX5_takeOver 48 = .ok (.if_icmp .ge 33, 3) := by decide +kernel
theorem dX5_takeOver_51 : decode cX5_takeOver 51 = .ok (.aload_n 0, 1) := by decide +kernel
theorem dX5_takeOver_52 : decode cX5_takeOver 52 = .ok (.getfield 36, 3) := by decide +kernel
theorem dX5_takeOver_55 : decode cX5_takeOver 55 = .ok (.iload_n 2, 1) := by decide +kernel
theorem dX5_takeOver_56 : decode cX5_takeOver 56 = .ok (.aload_n 0, 1) := by decide +kernel
theorem dX5_takeOver_57 : decode cX5_takeOver 57 = .ok (.getfield 36, 3) := by decide +kernel
theorem dX5_takeOver_60 : decode cX5_takeOver 60 = .ok (.iload_n 2, 1) := by decide +kernel
theorem dX5_takeOver_61 : decode cX5_takeOver 61 = .ok (.iaload, 1) := by decide +kernel
theorem dX5_takeOver_62 : decode cX5_takeOver 62 = .ok (.aload_n 1, 1) := by decide +kernel
theorem dX5_takeOver_63 : decode cX5_takeOver 63 = .ok (.getfield 36, 3) := by decide +kernel
theorem dX5_takeOver_66 : decode cX5_takeOver 66 = .ok (.iload_n 2, 1) := by decide +kernel
theorem dX5_takeOver_67 : decode cX5_takeOver 67 = .ok (.iaload, 1) := by decide +kernel
theorem dX5_takeOver_68 : decode cX5_takeOver 68 = .ok (.iadd, 1) := by decide +kernel
theorem dX5_takeOver_69 : decode cX5_takeOver 69 = .ok (.bipush 100, 2) := by decide +kernel
theorem dX5_takeOver_71 : decode cX5_takeOver 71 = .ok (.invokestatic 79, 3) := by decide +kernel
theorem dX5_takeOver_74 : decode cX5_takeOver 74 = .ok (.iastore, 1) := by decide +kernel
theorem dX5_takeOver_75 : decode cX5_takeOver 75 = .ok (.iinc 2 1, 3) := by decide +kernel
theorem dX5_takeOver_78 : decode cX5_takeOver 78 = .ok (.goto (-45), 3) := by decide +kernel
theorem dX5_takeOver_81 : decode cX5_takeOver 81 = .ok (.aload_n 1, 1) := by decide +kernel
theorem dX5_takeOver_82 : decode cX5_takeOver 82 = .ok (.invokevirtual 89, 3) := by decide +kernel
theorem dX5_takeOver_85 : decode cX5_takeOver 85 = .ok (.return_, 1) := by decide +kernel
theorem dX5_leave_0 : decode cX5_leave 0 = .ok (.aload_n 0, 1) := by decide +kernel
theorem dX5_leave_1 : decode cX5_leave 1 = .ok (.iconst 2, 1) := by decide +kernel
theorem dX5_leave_2 : decode cX5_leave 2 = .ok (.putfield 24, 3) := by decide +kernel
theorem dX5_leave_5 : decode cX5_leave 5 = .ok (.aload_n 0, 1) := by decide +kernel
theorem dX5_leave_6 : decode cX5_leave 6 = .ok (.iconst 0, 1) := by decide +kernel
theorem dX5_leave_7 : decode cX5_leave 7 = .ok (.putfield 60, 3) := by decide +kernel
theorem dX5_leave_10 : decode cX5_leave 10 = .ok (.aload_n 0, 1) := by decide +kernel
theorem dX5_leave_11 : decode cX5_leave 11 = .ok (.iconst 0, 1) := by decide +kernel
theorem dX5_leave_12 : decode cX5_leave 12 = .ok (.putfield 63, 3) := by decide +kernel
theorem dX5_leave_15 : decode cX5_leave 15 = .ok (.aload_n 0, 1) := by decide +kernel
theorem dX5_leave_16 : decode cX5_leave 16 = .ok (.iconst 0, 1) := by decide +kernel
theorem dX5_leave_17 : decode cX5_leave 17 = .ok (.putfield 18, 3) := by decide +kernel
theorem dX5_leave_20 : decode cX5_leave 20 = .ok (.aload_n 0, 1) := by decide +kernel
theorem dX5_leave_21 : decode cX5_leave 21 = .ok (.iconst 0, 1) := by decide +kernel
theorem dX5_leave_22 : decode cX5_leave 22 = .ok (.putfield 21, 3) := by decide +kernel
theorem dX5_leave_25 : decode cX5_leave 25 = .ok (.aload_n 0, 1) := by decide +kernel
theorem dX5_leave_26 : decode cX5_leave 26 = .ok (.iconst 0, 1) := by decide +kernel
theorem dX5_leave_27 : decode cX5_leave 27 = .ok (.putfield 15, 3) := by decide +kernel
theorem dX5_leave_30 : decode cX5_leave 30 = .ok (.aload_n 0, 1) := by decide +kernel
theorem dX5_leave_31 : decode cX5_leave 31 = .ok (.getfield 36, 3) := by decide +kernel
theorem dX5_leave_34 : decode cX5_leave 34 = .ok (.iconst 0, 1) := by decide +kernel
theorem dX5_leave_35 : decode cX5_leave 35 = .ok (.invokestatic 72, 3) := by decide +kernel
theorem dX5_leave_38 : decode cX5_leave 38 = .ok (.return_, 1) := by decide +kernel
theorem dX6_init_0 : decode cX6_init 0 = .ok (.aload_n 0, 1) := by decide +kernel
theorem dX6_init_1 : decode cX6_init 1 = .ok (.invokespecial 3, 3) := by decide +kernel
theorem dX6_init_4 : decode cX6_init 4 = .ok (.aload_n 0, 1) := by decide +kernel
theorem dX6_init_5 : decode cX6_init 5 = .ok (.bipush 12, 2) := by decide +kernel
theorem dX6_init_7 : decode cX6_init 7 = .ok (.newarray .int, 2) := by decide +kernel
theorem dX6_init_9 : decode cX6_init 9 = .ok (.putfield 9, 3) := by decide +kernel
theorem dX6_init_12 : decode cX6_init 12 = .ok (.aload_n 0, 1) := by decide +kernel
theorem dX6_init_13 : decode cX6_init 13 = .ok (.bipush 12, 2) := by decide +kernel
theorem dX6_init_15 : decode cX6_init 15 = .ok (.newarray .int, 2) := by decide +kernel
theorem dX6_init_17 : decode cX6_init 17 = .ok (.putfield 15, 3) := by decide +kernel
theorem dX6_init_20 : decode cX6_init 20 = .ok (.aload_n 0, 1) := by decide +kernel
theorem dX6_init_21 : decode cX6_init 21 = .ok (.bipush 12, 2) := by decide +kernel
theorem dX6_init_23 : decode cX6_init 23 = .ok (.newarray .long, 2) := by decide +kernel
theorem dX6_init_25 : decode cX6_init 25 = .ok (.putfield 18, 3) := by decide +kernel
theorem dX6_init_28 : decode cX6_init 28 = .ok (.return_, 1) := by decide +kernel
theorem dX6_shareOf_0 : decode cX6_shareOf 0 = .ok (.iload_n 1, 1) := by decide +kernel
theorem dX6_shareOf_1 : decode cX6_shareOf 1 = .ok (.ifCond .lt 21, 3) := by decide +kernel
theorem dX6_shareOf_4 : decode cX6_shareOf 4 = .ok (.iload_n 1, 1) := by decide +kernel
theorem dX6_shareOf_5 : decode cX6_shareOf 5 = .ok (.aload_n 0, 1) := by decide +kernel
theorem dX6_shareOf_6 : decode cX6_shareOf 6 = .ok (.getfield 9, 3) := by decide +kernel
theorem dX6_shareOf_9 : decode cX6_shareOf 9 = .ok (.arraylength, 1) := by decide +kernel
theorem dX6_shareOf_10 : decode cX6_shareOf 10 = .ok (.if_icmp .ge 12, 3) := by decide +kernel
theorem dX6_shareOf_13 : decode cX6_shareOf 13 = .ok (.aload_n 0, 1) := by decide +kernel
theorem dX6_shareOf_14 : decode cX6_shareOf 14 = .ok (.getfield 9, 3) := by decide +kernel
theorem dX6_shareOf_17 : decode cX6_shareOf 17 = .ok (.iload_n 1, 1) := by decide +kernel
theorem dX6_shareOf_18 : decode cX6_shareOf 18 = .ok (.iaload, 1) := by decide +kernel
theorem dX6_shareOf_19 : decode cX6_shareOf 19 = .ok (.goto 4, 3) := by decide +kernel
theorem dX6_shareOf_22 : decode cX6_shareOf 22 = .ok (.iconst 0, 1) := by decide +kernel
theorem dX6_shareOf_23 : decode cX6_shareOf 23 = .ok (.ireturn, 1) := by decide +kernel
theorem dX6_weigh_0 : decode cX6_weigh 0 = .ok (.iload_n 1, 1) := by decide +kernel
theorem dX6_weigh_1 : decode cX6_weigh 1 = .ok (.ifCond .lt 19, 3) := by decide +kernel
theorem dX6_weigh_4 : decode cX6_weigh 4 = .ok (.iload_n 1, 1) := by decide +kernel
theorem dX6_weigh_5 : decode cX6_weigh 5 = .ok (.aload_n 0, 1) := by decide +kernel
theorem dX6_weigh_6 : decode cX6_weigh 6 = .ok (.getfield 15, 3) := by decide +kernel
theorem dX6_weigh_9 : decode cX6_weigh 9 = .ok (.arraylength, 1) := by decide +kernel
theorem dX6_weigh_10 : decode cX6_weigh 10 = .ok (.if_icmp .ge 10, 3) := by decide +kernel
theorem dX6_weigh_13 : decode cX6_weigh 13 = .ok (.aload_n 0, 1) := by decide +kernel
theorem dX6_weigh_14 : decode cX6_weigh 14 = .ok (.getfield 15, 3) := by decide +kernel
theorem dX6_weigh_17 : decode cX6_weigh 17 = .ok (.iload_n 1, 1) := by decide +kernel
theorem dX6_weigh_18 : decode cX6_weigh 18 = .ok (.iload_n 2, 1) := by decide +kernel
theorem dX6_weigh_19 : decode cX6_weigh 19 = .ok (.iastore, 1) := by decide +kernel
theorem dX6_weigh_20 : decode cX6_weigh 20 = .ok (.return_, 1) := by decide +kernel
theorem dX6_byBids_0 : decode cX6_byBids 0 = .ok (.aload_n 0, 1) := by decide +kernel
theorem dX6_byBids_1 : decode cX6_byBids 1 = .ok (.getfield 9, 3) := by decide +kernel
theorem dX6_byBids_4 : decode cX6_byBids 4 = .ok (.iconst 0, 1) := by decide +kernel
theorem dX6_byBids_5 : decode cX6_byBids 5 = .ok (.invokestatic 22, 3) := by decide +kernel
theorem dX6_byBids_8 : decode cX6_byBids 8 = .ok (.iload_n 2, 1) := by decide +kernel
theorem dX6_byBids_9 : decode cX6_byBids 9 = .ok (.istore_n 3, 1) := by decide +kernel
theorem dX6_byBids_10 : decode cX6_byBids 10 = .ok (.iconst (-1), 1) := by decide +kernel
theorem dX6_byBids_11 : decode cX6_byBids 11 = .ok (.istore 4, 2) := by decide +kernel
theorem dX6_byBids_13 : decode cX6_byBids 13 = .ok (.iconst 0, 1) := by decide +kernel
theorem dX6_byBids_14 : decode cX6_byBids 14 = .ok (.istore 5, 2) := by decide +kernel
theorem dX6_byBids_16 : decode cX6_byBids 16 = .ok (.iload 5, 2) := by decide +kernel
theorem dX6_byBids_18 : decode cX6_byBids 18 = .ok (.bipush 12, 2) := by decide +kernel
theorem dX6_byBids_20 : decode cX6_byBids 20 = .ok (.if_icmp .ge 72, 3) := by decide +kernel
theorem dX6_byBids_23 : decode cX6_byBids 23 = .ok (.aload_n 1, 1) := by decide +kernel
theorem dX6_byBids_24 : decode cX6_byBids 24 = .ok (.iload 4, 2) := by decide +kernel
theorem dX6_byBids_26 : decode cX6_byBids 26 = .ok (.invokestatic 28, 3) := by decide +kernel
theorem dX6_byBids_29 : decode cX6_byBids 29 = .ok (.istore 4, 2) := by decide +kernel
theorem dX6_byBids_31 : decode cX6_byBids 31 = .ok (.iload 4, 2) := by decide +kernel
theorem dX6_byBids_33 : decode cX6_byBids 33 = .ok (.ifCond .lt 19, 3) := by decide +kernel
theorem dX6_byBids_36 : decode cX6_byBids 36 = .ok (.iload 4, 2) := by decide +kernel
theorem dX6_byBids_38 : decode cX6_byBids 38 = .ok (.aload_n 1, 1) := by decide +kernel
theorem dX6_byBids_39 : decode cX6_byBids 39 = .ok (.invokevirtual 32, 3) := by decide +kernel
theorem dX6_byBids_42 : decode cX6_byBids 42 = .ok (.if_icmp .ge 10, 3) := by decide +kernel
theorem dX6_byBids_45 : decode cX6_byBids 45 = .ok (.iload 4, 2) := by decide +kernel
theorem dX6_byBids_47 : decode cX6_byBids 47 = .ok (.bipush 12, 2) := by decide +kernel
theorem dX6_byBids_49 : decode cX6_byBids 49 = .ok (.if_icmp .lt 4, 3) := by decide +kernel
theorem dX6_byBids_52 : decode cX6_byBids 52 = .ok (.return_, 1) := by decide +kernel
theorem dX6_byBids_53 : decode cX6_byBids 53 = .ok (.aload_n 0, 1) := by decide +kernel
theorem dX6_byBids_54 : decode cX6_byBids 54 = .ok (.getfield 9, 3) := by decide +kernel
theorem dX6_byBids_57 : decode cX6_byBids 57 = .ok (.iload 4, 2) := by decide +kernel
theorem dX6_byBids_59 : decode cX6_byBids 59 = .ok (.aload_n 1, 1) := by decide +kernel
theorem dX6_byBids_60 : decode cX6_byBids 60 = .ok (.iload 4, 2) := by decide +kernel
theorem dX6_byBids_62 : decode cX6_byBids 62 = .ok (.invokevirtual 38, 3) := by decide +kernel
theorem dX6_byBids_65 : decode cX6_byBids 65 = .ok (.checkcast 42, 3) := by decide +kernel
theorem dX6_byBids_68 : decode cX6_byBids 68 = .ok (.getfield 44, 3) := by decide +kernel
theorem dX6_byBids_71 : decode cX6_byBids 71 = .ok (.iload_n 3, 1) := by decide +kernel
theorem dX6_byBids_72 : decode cX6_byBids 72 = .ok (.invokestatic 48, 3) := by decide +kernel
theorem dX6_byBids_75 : decode cX6_byBids 75 = .ok (.iastore, 1) := by decide +kernel
theorem dX6_byBids_76 : decode cX6_byBids 76 = .ok (.iload_n 3, 1) := by decide +kernel
theorem dX6_byBids_77 : decode cX6_byBids 77 = .ok (.aload_n 0, 1) := by decide +kernel
theorem dX6_byBids_78 : decode cX6_byBids 78 = .ok (.getfield 9, 3) := by decide +kernel
theorem dX6_byBids_81 : decode cX6_byBids 81 = .ok (.iload 4, 2) := by decide +kernel
theorem dX6_byBids_83 : decode cX6_byBids 83 = .ok (.iaload, 1) := by decide +kernel
theorem dX6_byBids_84 : decode cX6_byBids 84 = .ok (.isub, 1) := by decide +kernel
theorem dX6_byBids_85 : decode cX6_byBids 85 = .ok (.istore_n 3, 1) := by decide +kernel
theorem dX6_byBids_86 : decode cX6_byBids 86 = .ok (.iinc 5 1, 3) := by decide +kernel
theorem dX6_byBids_89 : decode cX6_byBids 89 = .ok (.goto (-73), 3) := by decide +kernel
theorem dX6_byBids_92 : decode cX6_byBids 92 = .ok (.return_, 1) := by decide +kernel
theorem dX6_nextBidder_0 : decode cX6_nextBidder 0 = .ok (.iconst (-1), 1) := by decide +kernel
theorem dX6_nextBidder_1 : decode cX6_nextBidder 1 = .ok (.istore_n 2, 1) := by decide +kernel
theorem dX6_nextBidder_2 : decode cX6_nextBidder 2 = .ok (.iconst (-1), 1) := by decide +kernel
theorem dX6_nextBidder_3 : decode cX6_nextBidder 3 = .ok (.istore_n 3, 1) := by decide +kernel
theorem dX6_nextBidder_4 : decode cX6_nextBidder 4 = .ok (.iconst 0, 1) := by decide +kernel
theorem dX6_nextBidder_5 : decode cX6_nextBidder 5 = .ok (.istore 4, 2) := by decide +kernel
theorem dX6_nextBidder_7 : decode cX6_nextBidder 7 = .ok (.iload 4, 2) := by decide +kernel
theorem dX6_nextBidder_9 : decode cX6_nextBidder 9 = .ok (.aload_n 0, 1) := by decide +kernel
theorem dX6_nextBidder_10 : decode cX6_nextBidder 10 = .ok (.invokevirtual 32, 3) := by decide +kernel
theorem dX6_nextBidder_13 : decode cX6_nextBidder 13 = .ok (.if_icmp .ge 76, 3) := by decide +kernel
theorem dX6_nextBidder_16 : decode cX6_nextBidder 16 = .ok (.aload_n 0, 1) := by decide +kernel
theorem dX6_nextBidder_17 : decode cX6_nextBidder 17 = .ok (.iload 4, 2) := by decide +kernel
theorem dX6_nextBidder_19 : decode cX6_nextBidder 19 = .ok (.invokevirtual 38, 3) := by decide +kernel
theorem dX6_nextBidder_22 : decode cX6_nextBidder 22 = .ok (.checkcast 42, 3) := by decide +kernel
theorem dX6_nextBidder_25 : decode cX6_nextBidder 25 = .ok (.astore 5, 2) := by decide +kernel
theorem dX6_nextBidder_27 : decode cX6_nextBidder 27 = .ok (.aload 5, 2) := by decide +kernel
theorem dX6_nextBidder_29 : decode cX6_nextBidder 29 = .ok (.invokevirtual 54, 3) := by decide +kernel
theorem dX6_nextBidder_32 : decode cX6_nextBidder 32 = .ok (.ifCond .eq 15, 3) := by decide +kernel
theorem dX6_nextBidder_35 : decode cX6_nextBidder 35 = .ok (.aload 5, 2) := by decide +kernel
theorem dX6_nextBidder_37 : decode cX6_nextBidder 37 = .ok (.getfield 44, 3) := by decide +kernel
theorem dX6_nextBidder_40 : decode cX6_nextBidder 40 = .ok (.ifCond .le 7, 3) := by decide +kernel
theorem dX6_nextBidder_43 : decode cX6_nextBidder 43 = .ok (.iconst 1, 1) := by decide +kernel
theorem dX6_nextBidder_44 : decode cX6_nextBidder 44 = .ok (.goto 4, 3) := by decide +kernel
theorem dX6_nextBidder_47 : decode cX6_nextBidder 47 = .ok (.iconst 0, 1) := by decide +kernel
theorem dX6_nextBidder_48 : decode cX6_nextBidder 48 = .ok (.istore 6, 2) := by decide +kernel
theorem dX6_nextBidder_50 : decode cX6_nextBidder 50 = .ok (.iload 6, 2) := by decide +kernel
theorem dX6_nextBidder_52 : decode cX6_nextBidder 52 = .ok (.ifCond .eq 31, 3) := by decide +kernel
theorem dX6_nextBidder_55 : decode cX6_nextBidder 55 = .ok (.aload 5, 2) := by decide +kernel
theorem dX6_nextBidder_57 : decode cX6_nextBidder 57 = .ok (.getfield 58, 3) := by decide +kernel
theorem dX6_nextBidder_60 : decode cX6_nextBidder 60 = .ok (.iload_n 3, 1) := by decide +kernel
theorem dX6_nextBidder_61 : decode cX6_nextBidder 61 = .ok (.if_icmp .le 22, 3) := by decide +kernel
theorem dX6_nextBidder_64 : decode cX6_nextBidder 64 = .ok (.aload_n 0, 1) := by decide +kernel
theorem dX6_nextBidder_65 : decode cX6_nextBidder 65 = .ok (.iload 4, 2) := by decide +kernel
theorem dX6_nextBidder_67 : decode cX6_nextBidder 67 = .ok (.iload_n 1, 1) := by decide +kernel
theorem dX6_nextBidder_68 : decode cX6_nextBidder 68 = .ok (.invokestatic 61, 3) := by decide +kernel
theorem dX6_nextBidder_71 : decode cX6_nextBidder 71 = .ok (.ifCond .eq 12, 3) := by decide +kernel
theorem dX6_nextBidder_74 : decode cX6_nextBidder 74 = .ok (.iload 4, 2) := by decide +kernel
theorem dX6_nextBidder_76 : decode cX6_nextBidder 76 = .ok (.istore_n 2, 1) := by decide +kernel
theorem dX6_nextBidder_77 : decode cX6_nextBidder 77 = .ok (.aload 5, 2) := by decide +kernel
theorem dX6_nextBidder_79 : decode cX6_nextBidder 79 = .ok (.getfield 58, 3) := by decide +kernel
theorem dX6_nextBidder_82 : decode cX6_nextBidder 82 = .ok (.istore_n 3, 1) := by decide +kernel
theorem dX6_nextBidder_83 : decode cX6_nextBidder 83 = .ok (.iinc 4 1, 3) := by decide +kernel
theorem dX6_nextBidder_86 : decode cX6_nextBidder 86 = .ok (.goto (-79), 3) := by decide +kernel
theorem dX6_nextBidder_89 : decode cX6_nextBidder 89 = .ok (.iload_n 2, 1) := by decide +kernel
theorem dX6_nextBidder_90 : decode cX6_nextBidder 90 = .ok (.ireturn, 1) := by decide +kernel
theorem dX6_isBehind_0 : decode cX6_isBehind 0 = .ok (.iload_n 2, 1) := by decide +kernel
theorem dX6_isBehind_1 : decode cX6_isBehind 1 = .ok (.ifCond .lt 23, 3) := by decide +kernel
theorem dX6_isBehind_4 : decode cX6_isBehind 4 = .ok (.iload_n 2, 1) := by decide +kernel
theorem dX6_isBehind_5 : decode cX6_isBehind 5 = .ok (.aload_n 0, 1) := by decide +kernel
theorem dX6_isBehind_6 : decode cX6_isBehind 6 = .ok (.invokevirtual 32, 3) := by decide +kernel
theorem dX6_isBehind_9 : decode cX6_isBehind 9 = .ok (.if_icmp .ge 15, 3) := by decide +kernel
theorem dX6_isBehind_12 : decode cX6_isBehind 12 = .ok (.iload_n 1, 1) := by decide +kernel
theorem dX6_isBehind_13 : decode cX6_isBehind 13 = .ok (.ifCond .lt 11, 3) := by decide +kernel
theorem dX6_isBehind_16 : decode cX6_isBehind 16 = .ok (.iload_n 1, 1) := by decide +kernel
theorem dX6_isBehind_17 : decode cX6_isBehind 17 = .ok (.aload_n 0, 1) := by decide +kernel
theorem dX6_isBehind_18 : decode cX6_isBehind 18 = .ok (.invokevirtual 32, 3) := by decide +kernel
theorem dX6_isBehind_21 : decode cX6_isBehind 21 = .ok (.if_icmp .lt 5, 3) := by decide +kernel
theorem dX6_isBehind_24 : decode cX6_isBehind 24 = .ok (.iconst 1, 1) := by decide +kernel
theorem dX6_isBehind_25 : decode cX6_isBehind 25 = .ok (.ireturn, 1) := by decide +kernel
theorem dX6_isBehind_26 : decode cX6_isBehind 26 = .ok (.aload_n 0, 1) := by decide +kernel
theorem dX6_isBehind_27 : decode cX6_isBehind 27 = .ok (.iload_n 1, 1) := by decide +kernel
theorem dX6_isBehind_28 : decode cX6_isBehind 28 = .ok (.invokevirtual 38, 3) := by decide +kernel
theorem dX6_isBehind_31 : decode cX6_isBehind 31 = .ok (.checkcast 42, 3) := by decide +kernel
theorem dX6_isBehind_34 : decode cX6_isBehind 34 = .ok (.getfield 58, 3) := by decide +kernel
theorem dX6_isBehind_37 : decode cX6_isBehind 37 = .ok (.istore_n 3, 1) := by decide +kernel
theorem dX6_isBehind_38 : decode cX6_isBehind 38 = .ok (.aload_n 0, 1) := by decide +kernel
theorem dX6_isBehind_39 : decode cX6_isBehind 39 = .ok (.iload_n 2, 1) := by decide +kernel
theorem dX6_isBehind_40 : decode cX6_isBehind 40 = .ok (.invokevirtual 38, 3) := by decide +kernel
theorem dX6_isBehind_43 : decode cX6_isBehind 43 = .ok (.checkcast 42, 3) := by decide +kernel
theorem dX6_isBehind_46 : decode cX6_isBehind 46 = .ok (.getfield 58, 3) := by decide +kernel
theorem dX6_isBehind_49 : decode cX6_isBehind 49 = .ok (.istore 4, 2) := by decide +kernel
theorem dX6_isBehind_51 : decode cX6_isBehind 51 = .ok (.iload_n 3, 1) := by decide +kernel
theorem dX6_isBehind_52 : decode cX6_isBehind 52 = .ok (.iload 4, 2) := by decide +kernel
theorem dX6_isBehind_54 : decode cX6_isBehind 54 = .ok (.if_icmp .lt 14, 3) := by decide +kernel
theorem dX6_isBehind_57 : decode cX6_isBehind 57 = .ok (.iload_n 3, 1) := by decide +kernel
theorem dX6_isBehind_58 : decode cX6_isBehind 58 = .ok (.iload 4, 2) := by decide +kernel
theorem dX6_isBehind_60 : decode cX6_isBehind 60 = .ok (.if_icmp .ne 12, 3) := by decide +kernel
theorem dX6_isBehind_63 : decode cX6_isBehind 63 = .ok (.iload_n 1, 1) := by decide +kernel
theorem dX6_isBehind_64 : decode cX6_isBehind 64 = .ok (.iload_n 2, 1) := by decide +kernel
theorem dX6_isBehind_65 : decode cX6_isBehind 65 = .ok (.if_icmp .le 7, 3) := by decide +kernel
theorem dX6_isBehind_68 : decode cX6_isBehind 68 = .ok (.iconst 1, 1) := by decide +kernel
theorem dX6_isBehind_69 : decode cX6_isBehind 69 = .ok (.goto 4, 3) := by decide +kernel
theorem dX6_isBehind_72 : decode cX6_isBehind 72 = .ok (.iconst 0, 1) := by decide +kernel
theorem dX6_isBehind_73 : decode cX6_isBehind 73 = .ok (.ireturn, 1) := by decide +kernel
theorem dX6_byWeights_0 : decode cX6_byWeights 0 = .ok (.aload_n 0, 1) := by decide +kernel
theorem dX6_byWeights_1 : decode cX6_byWeights 1 = .ok (.aload_n 1, 1) := by decide +kernel
theorem dX6_byWeights_2 : decode cX6_byWeights 2 = .ok (.iload_n 2, 1) := by decide +kernel
theorem dX6_byWeights_3 : decode cX6_byWeights 3 = .ok (.iload_n 3, 1) := by decide +kernel
theorem dX6_byWeights_4 : decode cX6_byWeights 4 = .ok (.invokevirtual 65, 3) := by decide +kernel
theorem dX6_byWeights_7 : decode cX6_byWeights 7 = .ok (.istore 5, 2) := by decide +kernel
theorem dX6_byWeights_9 : decode cX6_byWeights 9 = .ok (.lconst 0, 1) := by decide +kernel
theorem dX6_byWeights_10 : decode cX6_byWeights 10 = .ok (.lstore 6, 2) := by decide +kernel
theorem dX6_byWeights_12 : decode cX6_byWeights 12 = .ok (.iconst 0, 1) := by decide +kernel
theorem dX6_byWeights_13 : decode cX6_byWeights 13 = .ok (.istore 8, 2) := by decide +kernel
theorem dX6_byWeights_15 : decode cX6_byWeights 15 = .ok (.iload 8, 2) := by decide +kernel
theorem dX6_byWeights_17 : decode cX6_byWeights 17 = .ok (.aload_n 1, 1) := by decide +kernel
theorem dX6_byWeights_18 : decode cX6_byWeights 18 = .ok (.invokevirtual 32, 3) := by decide +kernel
theorem dX6_byWeights_21 : decode cX6_byWeights 21 = .ok (.if_icmp .ge 29, 3) := by decide +kernel
theorem dX6_byWeights_24 : decode cX6_byWeights 24 = .ok (.iload 8, 2) := by decide +kernel
theorem dX6_byWeights_26 : decode cX6_byWeights 26 = .ok (.bipush 12, 2) := by decide +kernel
theorem dX6_byWeights_28 : decode cX6_byWeights 28 = .ok (.if_icmp .ge 22, 3) := by decide +kernel
theorem dX6_byWeights_31 : decode cX6_byWeights 31 = .ok (.lload 6, 2) := by decide +kernel
theorem dX6_byWeights_33 : decode cX6_byWeights 33 = .ok (.aload_n 0, 1) := by decide +kernel
theorem dX6_byWeights_34 : decode cX6_byWeights 34 = .ok (.getfield 15, 3) := by decide +kernel
theorem dX6_byWeights_37 : decode cX6_byWeights 37 = .ok (.iload 8, 2) := by decide +kernel
theorem dX6_byWeights_39 : decode cX6_byWeights 39 = .ok (.iaload, 1) := by decide +kernel
theorem dX6_byWeights_40 : decode cX6_byWeights 40 = .ok (.i2l, 1) := by decide +kernel
theorem dX6_byWeights_41 : decode cX6_byWeights 41 = .ok (.ladd, 1) := by decide +kernel
theorem dX6_byWeights_42 : decode cX6_byWeights 42 = .ok (.lstore 6, 2) := by decide +kernel
theorem dX6_byWeights_44 : decode cX6_byWeights 44 = .ok (.iinc 8 1, 3) := by decide +kernel
theorem dX6_byWeights_47 : decode cX6_byWeights 47 = .ok (.goto (-32), 3) := by decide +kernel
theorem dX6_byWeights_50 : decode cX6_byWeights 50 = .ok (.lload 6, 2) := by decide +kernel
theorem dX6_byWeights_52 : decode cX6_byWeights 52 = .ok (.lconst 0, 1) := by decide +kernel
theorem dX6_byWeights_53 : decode cX6_byWeights 53 = .ok (.lcmp, 1) := by decide +kernel
theorem dX6_byWeights_54 : decode cX6_byWeights 54 = .ok (.ifCond .gt 4, 3) := by decide +kernel
theorem dX6_byWeights_57 : decode cX6_byWeights 57 = .ok (.return_, 1) := by decide +kernel
theorem dX6_byWeights_58 : decode cX6_byWeights 58 = .ok (.iload 5, 2) := by decide +kernel
theorem dX6_byWeights_60 : decode cX6_byWeights 60 = .ok (.istore 8, 2) := by decide +kernel
theorem dX6_byWeights_62 : decode cX6_byWeights 62 = .ok (.iconst 0, 1) := by decide +kernel
theorem dX6_byWeights_63 : decode cX6_byWeights 63 = .ok (.istore 9, 2) := by decide +kernel
theorem dX6_byWeights_65 : decode cX6_byWeights 65 = .ok (.iload 9, 2) := by decide +kernel
theorem dX6_byWeights_67 : decode cX6_byWeights 67 = .ok (.aload_n 1, 1) := by decide +kernel
theorem dX6_byWeights_68 : decode cX6_byWeights 68 = .ok (.invokevirtual 32, 3) := by decide +kernel
theorem dX6_byWeights_71 : decode cX6_byWeights 71 = .ok (.if_icmp .ge 85, 3) := by decide +kernel
theorem dX6_byWeights_74 : decode cX6_byWeights 74 = .ok (.iload 9, 2) := by decide +kernel
theorem dX6_byWeights_76 : decode cX6_byWeights 76 = .ok (.bipush 12, 2) := by decide +kernel
theorem dX6_byWeights_78 : decode cX6_byWeights 78 = .ok (.if_icmp .ge 78, 3) := by decide +kernel
theorem dX6_byWeights_81 : decode cX6_byWeights 81 = .ok (.iload 5, 2) := by decide +kernel
theorem dX6_byWeights_83 : decode cX6_byWeights 83 = .ok (.i2l, 1) := by decide +kernel
theorem dX6_byWeights_84 : decode cX6_byWeights 84 = .ok (.aload_n 0, 1) := by decide +kernel
theorem dX6_byWeights_85 : decode cX6_byWeights 85 = .ok (.getfield 15, 3) := by decide +kernel
theorem dX6_byWeights_88 : decode cX6_byWeights 88 = .ok (.iload 9, 2) := by decide +kernel
theorem dX6_byWeights_90 : decode cX6_byWeights 90 = .ok (.iaload, 1) := by decide +kernel
theorem dX6_byWeights_91 : decode cX6_byWeights 91 = .ok (.i2l, 1) := by decide +kernel
theorem dX6_byWeights_92 : decode cX6_byWeights 92 = .ok (.lmul, 1) := by decide +kernel
theorem dX6_byWeights_93 : decode cX6_byWeights 93 = .ok (.lstore 10, 2) := by decide +kernel
theorem dX6_byWeights_95 : decode cX6_byWeights 95 = .ok (.lload 10, 2) := by decide +kernel
theorem dX6_byWeights_97 : decode cX6_byWeights 97 = .ok (.lload 6, 2) := by decide +kernel
theorem dX6_byWeights_99 : decode cX6_byWeights 99 = .ok (.ldiv, 1) := by decide +kernel
theorem dX6_byWeights_100 : decode cX6_byWeights 100 = .ok (.l2i, 1) := by decide +kernel
theorem dX6_byWeights_101 : decode cX6_byWeights 101 = .ok (.istore 12, 2) := by decide +kernel
theorem dX6_byWeights_103 : decode cX6_byWeights 103 = .ok (.aload_n 0, 1) := by decide +kernel
theorem dX6_byWeights_104 : decode cX6_byWeights 104 = .ok (.getfield 9, 3) := by decide +kernel
theorem dX6_byWeights_107 : decode cX6_byWeights 107 = .ok (.iload 9, 2) := by decide +kernel
theorem dX6_byWeights_109 : decode cX6_byWeights 109 = .ok (.dup2, 1) := by decide +kernel
theorem dX6_byWeights_110 : decode cX6_byWeights 110 = .ok (.iaload, 1) := by decide +kernel
theorem dX6_byWeights_111 : decode cX6_byWeights 111 = .ok (.iload 12, 2) := by decide +kernel
theorem dX6_byWeights_113 : decode cX6_byWeights 113 = .ok (.iadd, 1) := by decide +kernel
theorem dX6_byWeights_114 : decode cX6_byWeights 114 = .ok (.iastore, 1) := by decide +kernel
theorem dX6_byWeights_115 : decode cX6_byWeights 115 = .ok (.iload 8, 2) := by decide +kernel
theorem dX6_byWeights_117 : decode cX6_byWeights 117 = .ok (.iload 12, 2) := by decide +kernel
theorem dX6_byWeights_119 : decode cX6_byWeights 119 = .ok (.isub, 1) := by decide +kernel
theorem dX6_byWeights_120 : decode cX6_byWeights 120 = .ok (.istore 8, 2) := by decide +kernel
theorem dX6_byWeights_122 : decode cX6_byWeights 122 = .ok (.aload_n 0, 1) := by decide +kernel
theorem dX6_byWeights_123 : decode cX6_byWeights 123 = .ok (.getfield 18, 3) := by decide +kernel
theorem dX6_byWeights_126 : decode cX6_byWeights 126 = .ok (.iload 9, 2) := by decide +kernel
theorem dX6_byWeights_128 : decode cX6_byWeights 128 = .ok (.aload_n 0, 1) := by decide +kernel
theorem dX6_byWeights_129 : decode cX6_byWeights 129 = .ok (.getfield 15, 3) := by decide +kernel
theorem dX6_byWeights_132 : decode cX6_byWeights 132 = .ok (.iload 9, 2) := by decide +kernel
theorem dX6_byWeights_134 : decode cX6_byWeights 134 = .ok (.iaload, 1) := by decide +kernel
theorem dX6_byWeights_135 : decode cX6_byWeights 135 = .ok (.ifCond .le 11, 3) := by decide +kernel
theorem dX6_byWeights_138 : decode cX6_byWeights 138 = .ok (.lload 10, 2) := by decide +kernel
theorem dX6_byWeights_140 : decode cX6_byWeights 140 = .ok (.lload 6, 2) := by decide +kernel
theorem dX6_byWeights_142 : decode cX6_byWeights 142 = .ok (.lrem, 1) := by decide +kernel
theorem dX6_byWeights_143 : decode cX6_byWeights 143 = .ok (.goto 6, 3) := by decide +kernel
theorem dX6_byWeights_146 : decode cX6_byWeights 146 = .ok (.ldc2_w 69, 3) := by decide +kernel
theorem dX6_byWeights_149 : decode cX6_byWeights 149 = .ok (.lastore, 1) := by decide +kernel
theorem dX6_byWeights_150 : decode cX6_byWeights 150 = .ok (.iinc 9 1, 3) := by decide +kernel
theorem dX6_byWeights_153 : decode cX6_byWeights 153 = .ok (.goto (-88), 3) := by decide +kernel
theorem dX6_byWeights_156 : decode cX6_byWeights 156 = .ok (.iload 4, 2) := by decide +kernel
theorem dX6_byWeights_158 : decode cX6_byWeights 158 = .ok (.ifCond .ne 10, 3) := by decide +kernel
theorem dX6_byWeights_161 : decode cX6_byWeights 161 = .ok (.aload_n 0, 1) := by decide +kernel
theorem dX6_byWeights_162 : decode cX6_byWeights 162 = .ok (.aload_n 1, 1) := by decide +kernel
theorem dX6_byWeights_163 : decode cX6_byWeights 163 = .ok (.iload 8, 2) := by decide +kernel
theorem dX6_byWeights_165 : decode cX6_byWeights 165 = .ok (.invokevirtual 71, 3) := by decide +kernel
theorem dX6_byWeights_168 : decode cX6_byWeights 168 = .ok (.return_, 1) := by decide +kernel
theorem dX6_giveLeast_0 : decode cX6_giveLeast 0 = .ok (.aload_n 0, 1) := by decide +kernel
theorem dX6_giveLeast_1 : decode cX6_giveLeast 1 = .ok (.getfield 9, 3) := by decide +kernel
theorem dX6_giveLeast_4 : decode cX6_giveLeast 4 = .ok (.iconst 0, 1) := by decide +kernel
theorem dX6_giveLeast_5 : decode cX6_giveLeast 5 = .ok (.invokestatic 22, 3) := by decide +kernel
theorem dX6_giveLeast_8 : decode cX6_giveLeast 8 = .ok (.iload_n 2, 1) := by decide +kernel
theorem dX6_giveLeast_9 : decode cX6_giveLeast 9 = .ok (.istore 4, 2) := by decide +kernel
theorem dX6_giveLeast_11 : decode cX6_giveLeast 11 = .ok (.iconst 0, 1) := by decide +kernel
theorem dX6_giveLeast_12 : decode cX6_giveLeast 12 = .ok (.istore 5, 2) := by decide +kernel
theorem dX6_giveLeast_14 : decode cX6_giveLeast 14 = .ok (.iload 5, 2) := by decide +kernel
theorem dX6_giveLeast_16 : decode cX6_giveLeast 16 = .ok (.aload_n 1, 1) := by decide +kernel
theorem dX6_giveLeast_17 : decode cX6_giveLeast 17 = .ok (.invokevirtual 32, 3) := by decide +kernel
theorem dX6_giveLeast_20 : decode cX6_giveLeast 20 = .ok (.if_icmp .ge 56, 3) := by decide +kernel
theorem dX6_giveLeast_23 : decode cX6_giveLeast 23 = .ok (.iload 5, 2) := by decide +kernel
theorem dX6_giveLeast_25 : decode cX6_giveLeast 25 = .ok (.bipush 12, 2) := by decide +kernel
theorem dX6_giveLeast_27 : decode cX6_giveLeast 27 = .ok (.if_icmp .ge 49, 3) := by decide +kernel
theorem dX6_giveLeast_30 : decode cX6_giveLeast 30 = .ok (.aload_n 1, 1) := by decide +kernel
theorem dX6_giveLeast_31 : decode cX6_giveLeast 31 = .ok (.iload 5, 2) := by decide +kernel
theorem dX6_giveLeast_33 : decode cX6_giveLeast 33 = .ok (.invokevirtual 38, 3) := by decide +kernel
theorem dX6_giveLeast_36 : decode cX6_giveLeast 36 = .ok (.checkcast 42, 3) := by decide +kernel
theorem dX6_giveLeast_39 : decode cX6_giveLeast 39 = .ok (.invokevirtual 54, 3) := by decide +kernel
theorem dX6_giveLeast_42 : decode cX6_giveLeast 42 = .ok (.ifCond .eq 28, 3) := by decide +kernel
theorem dX6_giveLeast_45 : decode cX6_giveLeast 45 = .ok (.aload_n 0, 1) := by decide +kernel
theorem dX6_giveLeast_46 : decode cX6_giveLeast 46 = .ok (.getfield 9, 3) := by decide +kernel
theorem dX6_giveLeast_49 : decode cX6_giveLeast 49 = .ok (.iload 5, 2) := by decide +kernel
theorem dX6_giveLeast_51 : decode cX6_giveLeast 51 = .ok (.iload_n 3, 1) := by decide +kernel
theorem dX6_giveLeast_52 : decode cX6_giveLeast 52 = .ok (.iload 4, 2) := by decide +kernel
theorem dX6_giveLeast_54 : decode cX6_giveLeast 54 = .ok (.invokestatic 48, 3) := by decide +kernel
theorem dX6_giveLeast_57 : decode cX6_giveLeast 57 = .ok (.iastore, 1) := by decide +kernel
theorem dX6_giveLeast_58 : decode cX6_giveLeast 58 = .ok (.iload 4, 2) := by decide +kernel
theorem dX6_giveLeast_60 : decode cX6_giveLeast 60 = .ok (.aload_n 0, 1) := by decide +kernel
theorem dX6_giveLeast_61 : decode cX6_giveLeast 61 = .ok (.getfield 9, 3) := by decide +kernel
theorem dX6_giveLeast_64 : decode cX6_giveLeast 64 = .ok (.iload 5, 2) := by decide +kernel
theorem dX6_giveLeast_66 : decode cX6_giveLeast 66 = .ok (.iaload, 1) := by decide +kernel
theorem dX6_giveLeast_67 : decode cX6_giveLeast 67 = .ok (.isub, 1) := by decide +kernel
theorem dX6_giveLeast_68 : decode cX6_giveLeast 68 = .ok (.istore 4, 2) := by decide +kernel
theorem dX6_giveLeast_70 : decode cX6_giveLeast 70 = .ok (.iinc 5 1, 3) := by decide +kernel
theorem dX6_giveLeast_73 : decode cX6_giveLeast 73 = .ok (.goto (-59), 3) := by decide +kernel
theorem dX6_giveLeast_76 : decode cX6_giveLeast 76 = .ok (.iload 4, 2) := by decide +kernel
theorem dX6_giveLeast_78 : decode cX6_giveLeast 78 = .ok (.ireturn, 1) := by decide +kernel
theorem dX6_giveOver_0 : decode cX6_giveOver 0 = .ok (.iconst 0, 1) := by decide +kernel
theorem dX6_giveOver_1 : decode cX6_giveOver 1 = .ok (.istore_n 3, 1) := by decide +kernel
theorem dX6_giveOver_2 : decode cX6_giveOver 2 = .ok (.iload_n 3, 1) := by decide +kernel
theorem dX6_giveOver_3 : decode cX6_giveOver 3 = .ok (.iload_n 2, 1) := by decide +kernel
theorem dX6_giveOver_4 : decode cX6_giveOver 4 = .ok (.if_icmp .ge 108, 3) := by decide +kernel
theorem dX6_giveOver_7 : decode cX6_giveOver 7 = .ok (.iload_n 3, 1) := by decide +kernel
theorem dX6_giveOver_8 : decode cX6_giveOver 8 = .ok (.bipush 12, 2) := by decide +kernel
theorem dX6_giveOver_10 : decode cX6_giveOver 10 = .ok (.if_icmp .ge 102, 3) := by decide +kernel
theorem dX6_giveOver_13 : decode cX6_giveOver 13 = .ok (.iconst (-1), 1) := by decide +kernel
theorem dX6_giveOver_14 : decode cX6_giveOver 14 = .ok (.istore 4, 2) := by decide +kernel
theorem dX6_giveOver_16 : decode cX6_giveOver 16 = .ok (.ldc2_w 69, 3) := by decide +kernel
theorem dX6_giveOver_19 : decode cX6_giveOver 19 = .ok (.lstore 5, 2) := by decide +kernel
theorem dX6_giveOver_21 : decode cX6_giveOver 21 = .ok (.iconst 0, 1) := by decide +kernel
theorem dX6_giveOver_22 : decode cX6_giveOver 22 = .ok (.istore 7, 2) := by decide +kernel
theorem dX6_giveOver_24 : decode cX6_giveOver 24 = .ok (.iload 7, 2) := by decide +kernel
theorem dX6_giveOver_26 : decode cX6_giveOver 26 = .ok (.aload_n 1, 1) := by decide +kernel
theorem dX6_giveOver_27 : decode cX6_giveOver 27 = .ok (.invokevirtual 32, 3) := by decide +kernel
theorem dX6_giveOver_30 : decode cX6_giveOver 30 = .ok (.if_icmp .ge 42, 3) := by decide +kernel
theorem dX6_giveOver_33 : decode cX6_giveOver 33 = .ok (.iload 7, 2) := by decide +kernel
theorem dX6_giveOver_35 : decode cX6_giveOver 35 = .ok (.bipush 12, 2) := by decide +kernel
theorem dX6_giveOver_37 : decode cX6_giveOver 37 = .ok (.if_icmp .ge 35, 3) := by decide +kernel
theorem dX6_giveOver_40 : decode cX6_giveOver 40 = .ok (.aload_n 0, 1) := by decide +kernel
theorem dX6_giveOver_41 : decode cX6_giveOver 41 = .ok (.getfield 18, 3) := by decide +kernel
theorem dX6_giveOver_44 : decode cX6_giveOver 44 = .ok (.iload 7, 2) := by decide +kernel
theorem dX6_giveOver_46 : decode cX6_giveOver 46 = .ok (.laload, 1) := by decide +kernel
theorem dX6_giveOver_47 : decode cX6_giveOver 47 = .ok (.lload 5, 2) := by decide +kernel
theorem dX6_giveOver_49 : decode cX6_giveOver 49 = .ok (.lcmp, 1) := by decide +kernel
theorem dX6_giveOver_50 : decode cX6_giveOver 50 = .ok (.ifCond .le 16, 3) := by decide +kernel
theorem dX6_giveOver_53 : decode cX6_giveOver 53 = .ok (.iload 7, 2) := by decide +kernel
theorem dX6_giveOver_55 : decode cX6_giveOver 55 = .ok (.istore 4, 2) := by decide +kernel
theorem dX6_giveOver_57 : decode cX6_giveOver 57 = .ok (.aload_n 0, 1) := by decide +kernel
theorem dX6_giveOver_58 : decode cX6_giveOver 58 = .ok (.getfield 18, 3) := by decide +kernel
theorem dX6_giveOver_61 : decode cX6_giveOver 61 = .ok (.iload 7, 2) := by decide +kernel
theorem dX6_giveOver_63 : decode cX6_giveOver 63 = .ok (.laload, 1) := by decide +kernel
theorem dX6_giveOver_64 : decode cX6_giveOver 64 = .ok (.lstore 5, 2) := by decide +kernel
theorem dX6_giveOver_66 : decode cX6_giveOver 66 = .ok (.iinc 7 1, 3) := by decide +kernel
theorem dX6_giveOver_69 : decode cX6_giveOver 69 = .ok (.goto (-45), 3) := by decide +kernel
theorem dX6_giveOver_72 : decode cX6_giveOver 72 = .ok (.iload 4, 2) := by decide +kernel
theorem dX6_giveOver_74 : decode cX6_giveOver 74 = .ok (.ifCond .lt 10, 3) := by decide +kernel
theorem dX6_giveOver_77 : decode cX6_giveOver 77 = .ok (.iload 4, 2) := by decide +kernel
theorem dX6_giveOver_79 : decode cX6_giveOver 79 = .ok (.bipush 12, 2) := by decide +kernel
theorem dX6_giveOver_81 : decode cX6_giveOver 81 = .ok (.if_icmp .lt 4, 3) := by decide +kernel
theorem dX6_giveOver_84 : decode cX6_giveOver 84 = .ok (.return_, 1) := by decide +kernel
theorem dX6_giveOver_85 : decode cX6_giveOver 85 = .ok (.aload_n 0, 1) := by decide +kernel
theorem dX6_giveOver_86 : decode cX6_giveOver 86 = .ok (.getfield 9, 3) := by decide +kernel
theorem dX6_giveOver_89 : decode cX6_giveOver 89 = .ok (.iload 4, 2) := by decide +kernel
theorem dX6_giveOver_91 : decode cX6_giveOver 91 = .ok (.dup2, 1) := by decide +kernel
theorem dX6_giveOver_92 : decode cX6_giveOver 92 = .ok (.iaload, 1) := by decide +kernel
theorem dX6_giveOver_93 : decode cX6_giveOver 93 = .ok (.iconst 1, 1) := by decide +kernel
theorem dX6_giveOver_94 : decode cX6_giveOver 94 = .ok (.iadd, 1) := by decide +kernel
theorem dX6_giveOver_95 : decode cX6_giveOver 95 = .ok (.iastore, 1) := by decide +kernel
theorem dX6_giveOver_96 : decode cX6_giveOver 96 = .ok (.aload_n 0, 1) := by decide +kernel
theorem dX6_giveOver_97 : decode cX6_giveOver 97 = .ok (.getfield 18, 3) := by decide +kernel
theorem dX6_giveOver_100 : decode cX6_giveOver 100 = .ok (.iload 4, 2) := by decide +kernel
theorem dX6_giveOver_102 : decode cX6_giveOver 102 = .ok (.ldc2_w 69, 3) := by decide +kernel
theorem dX6_giveOver_105 : decode cX6_giveOver 105 = .ok (.lastore, 1) := by decide +kernel
theorem dX6_giveOver_106 : decode cX6_giveOver 106 = .ok (.iinc 3 1, 3) := by decide +kernel
theorem dX6_giveOver_109 : decode cX6_giveOver 109 = .ok (.goto (-107), 3) := by decide +kernel
theorem dX6_giveOver_112 : decode cX6_giveOver 112 = .ok (.return_, 1) := by decide +kernel
theorem dX7_init_0 : decode cX7_init 0 = .ok (.aload_n 0, 1) := by decide +kernel
theorem dX7_init_1 : decode cX7_init 1 = .ok (.invokespecial 3, 3) := by decide +kernel
theorem dX7_init_4 : decode cX7_init 4 = .ok (.aload_n 0, 1) := by decide +kernel
theorem dX7_init_5 : decode cX7_init 5 = .ok (.sipush 300, 3) := by decide +kernel
theorem dX7_init_8 : decode cX7_init 8 = .ok (.newarray .int, 2) := by decide +kernel
theorem dX7_init_10 : decode cX7_init 10 = .ok (.putfield 9, 3) := by decide +kernel
theorem dX7_init_13 : decode cX7_init 13 = .ok (.aload_n 0, 1) := by decide +kernel
theorem dX7_init_14 : decode cX7_init 14 = .ok (.iconst 0, 1) := by decide +kernel
theorem dX7_init_15 : decode cX7_init 15 = .ok (.putfield 15, 3) := by decide +kernel
theorem dX7_init_18 : decode cX7_init 18 = .ok (.aload_n 0, 1) := by decide +kernel
theorem dX7_init_19 : decode cX7_init 19 = .ok (.iconst 0, 1) := by decide +kernel
theorem dX7_init_20 : decode cX7_init 20 = .ok (.putfield 19, 3) := by decide +kernel
theorem dX7_init_23 : decode cX7_init 23 = .ok (.aload_n 0, 1) := by decide +kernel
theorem dX7_init_24 : decode cX7_init 24 = .ok (.iconst (-1), 1) := by decide +kernel
theorem dX7_init_25 : decode cX7_init 25 = .ok (.putfield 22, 3) := by decide +kernel
theorem dX7_init_28 : decode cX7_init 28 = .ok (.aload_n 0, 1) := by decide +kernel
theorem dX7_init_29 : decode cX7_init 29 = .ok (.iconst 0, 1) := by decide +kernel
theorem dX7_init_30 : decode cX7_init 30 = .ok (.putfield 25, 3) := by decide +kernel
theorem dX7_init_33 : decode cX7_init 33 = .ok (.aload_n 0, 1) := by decide +kernel
theorem dX7_init_34 : decode cX7_init 34 = .ok (.iconst 0, 1) := by decide +kernel
theorem dX7_init_35 : decode cX7_init 35 = .ok (.putfield 28, 3) := by decide +kernel
theorem dX7_init_38 : decode cX7_init 38 = .ok (.aload_n 0, 1) := by decide +kernel
theorem dX7_init_39 : decode cX7_init 39 = .ok (.iconst 0, 1) := by decide +kernel
theorem dX7_init_40 : decode cX7_init 40 = .ok (.putfield 31, 3) := by decide +kernel
theorem dX7_init_43 : decode cX7_init 43 = .ok (.aload_n 0, 1) := by decide +kernel
theorem dX7_init_44 : decode cX7_init 44 = .ok (.iconst (-1), 1) := by decide +kernel
theorem dX7_init_45 : decode cX7_init 45 = .ok (.putfield 34, 3) := by decide +kernel
theorem dX7_init_48 : decode cX7_init 48 = .ok (.aload_n 0, 1) := by decide +kernel
theorem dX7_init_49 : decode cX7_init 49 = .ok (.sipush 300, 3) := by decide +kernel
theorem dX7_init_52 : decode cX7_init 52 = .ok (.newarray .int, 2) := by decide +kernel
theorem dX7_init_54 : decode cX7_init 54 = .ok (.putfield 37, 3) := by decide +kernel
theorem dX7_init_57 : decode cX7_init 57 = .ok (.aload_n 0, 1) := by decide +kernel
theorem dX7_init_58 : decode cX7_init 58 = .ok (.iconst 0, 1) := by decide +kernel
theorem dX7_init_59 : decode cX7_init 59 = .ok (.putfield 40, 3) := by decide +kernel
theorem dX7_init_62 : decode cX7_init 62 = .ok (.return_, 1) := by decide +kernel
theorem dX7_tapeNumber_0 : decode cX7_tapeNumber 0 = .ok (.bipush 24, 2) := by decide +kernel
theorem dX7_tapeNumber_2 : decode cX7_tapeNumber 2 = .ok (.istore_n 2, 1) := by decide +kernel
theorem dX7_tapeNumber_3 : decode cX7_tapeNumber 3 = .ok (.iload_n 2, 1) := by decide +kernel
theorem dX7_tapeNumber_4 : decode cX7_tapeNumber 4 = .ok (.ifCond .lt 54, 3) := by decide +kernel
theorem dX7_tapeNumber_7 : decode cX7_tapeNumber 7 = .ok (.aload_n 0, 1) := by decide +kernel
theorem dX7_tapeNumber_8 : decode cX7_tapeNumber 8 = .ok (.getfield 15, 3) := by decide +kernel
theorem dX7_tapeNumber_11 : decode cX7_tapeNumber 11 = .ok (.ifCond .lt 47, 3) := by decide +kernel
theorem dX7_tapeNumber_14 : decode cX7_tapeNumber 14 = .ok (.aload_n 0, 1) := by decide +kernel
theorem dX7_tapeNumber_15 : decode cX7_tapeNumber 15 = .ok (.getfield 15, 3) := by decide +kernel
theorem dX7_tapeNumber_18 : decode cX7_tapeNumber 18 = .ok (.aload_n 0, 1) := by decide +kernel
theorem dX7_tapeNumber_19 : decode cX7_tapeNumber 19 = .ok (.getfield 9, 3) := by decide +kernel
theorem dX7_tapeNumber_22 : decode cX7_tapeNumber 22 = .ok (.arraylength, 1) := by decide +kernel
theorem dX7_tapeNumber_23 : decode cX7_tapeNumber 23 = .ok (.if_icmp .ge 35, 3) := by decide +kernel
theorem dX7_tapeNumber_26 : decode cX7_tapeNumber 26 = .ok (.aload_n 0, 1) := by decide +kernel
theorem dX7_tapeNumber_27 : decode cX7_tapeNumber 27 = .ok (.getfield 9, 3) := by decide +kernel
theorem dX7_tapeNumber_30 : decode cX7_tapeNumber 30 = .ok (.aload_n 0, 1) := by decide +kernel
theorem dX7_tapeNumber_31 : decode cX7_tapeNumber 31 = .ok (.getfield 15, 3) := by decide +kernel
theorem dX7_tapeNumber_34 : decode cX7_tapeNumber 34 = .ok (.iload_n 1, 1) := by decide +kernel
theorem dX7_tapeNumber_35 : decode cX7_tapeNumber 35 = .ok (.iload_n 2, 1) := by decide +kernel
theorem dX7_tapeNumber_36 : decode cX7_tapeNumber 36 = .ok (.ishr, 1) := by decide +kernel
theorem dX7_tapeNumber_37 : decode cX7_tapeNumber 37 = .ok (.sipush 255, 3) := by decide +kernel
theorem dX7_tapeNumber_40 : decode cX7_tapeNumber 40 = .ok (.iand, 1) := by decide +kernel
theorem dX7_tapeNumber_41 : decode cX7_tapeNumber 41 = .ok (.iastore, 1) := by decide +kernel
theorem dX7_tapeNumber_42 : decode cX7_tapeNumber 42 = .ok (.aload_n 0, 1) := by decide +kernel
theorem dX7_tapeNumber_43 : decode cX7_tapeNumber 43 = .ok (.dup, 1) := by decide +kernel
theorem dX7_tapeNumber_44 : decode cX7_tapeNumber 44 = .ok (.getfield 15, 3) := by decide +kernel
theorem dX7_tapeNumber_47 : decode cX7_tapeNumber 47 = .ok (.iconst 1, 1) := by decide +kernel
theorem dX7_tapeNumber_48 : decode cX7_tapeNumber 48 = .ok (.iadd, 1) := by decide +kernel
theorem dX7_tapeNumber_49 : decode cX7_tapeNumber 49 = .ok (.putfield 15, 3) := by decide +kernel
theorem dX7_tapeNumber_52 : decode cX7_tapeNumber 52 = .ok (.iinc 2 (-8), 3) := by decide +kernel
theorem dX7_tapeNumber_55 : decode cX7_tapeNumber 55 = .ok (.goto (-52), 3) := by decide +kernel
theorem dX7_tapeNumber_58 : decode cX7_tapeNumber 58 = .ok (.return_, 1) := by decide +kernel
theorem dX7_empty_0 : decode cX7_empty 0 = .ok (.aload_n 0, 1) := by decide +kernel
theorem dX7_empty_1 : decode cX7_empty 1 = .ok (.iconst 0, 1) := by decide +kernel
theorem dX7_empty_2 : decode cX7_empty 2 = .ok (.putfield 15, 3) := by decide +kernel
theorem dX7_empty_5 : decode cX7_empty 5 = .ok (.aload_n 0, 1) := by decide +kernel
theorem dX7_empty_6 : decode cX7_empty 6 = .ok (.iconst 0, 1) := by decide +kernel
theorem dX7_empty_7 : decode cX7_empty 7 = .ok (.putfield 31, 3) := by decide +kernel
theorem dX7_empty_10 : decode cX7_empty 10 = .ok (.aload_n 0, 1) := by decide +kernel
theorem dX7_empty_11 : decode cX7_empty 11 = .ok (.iconst (-1), 1) := by decide +kernel
theorem dX7_empty_12 : decode cX7_empty 12 = .ok (.putfield 34, 3) := by decide +kernel
theorem dX7_empty_15 : decode cX7_empty 15 = .ok (.return_, 1) := by decide +kernel
theorem dX7_read_0 : decode cX7_read 0 = .ok (.aload_n 0, 1) := by decide +kernel
theorem dX7_read_1 : decode cX7_read 1 = .ok (.iload_n 2, 1) := by decide +kernel
theorem dX7_read_2 : decode cX7_read 2 = .ok (.putfield 19, 3) := by decide +kernel
theorem dX7_read_5 : decode cX7_read 5 = .ok (.aload_n 0, 1) := by decide +kernel
theorem dX7_read_6 : decode cX7_read 6 = .ok (.iconst 0, 1) := by decide +kernel
theorem dX7_read_7 : decode cX7_read 7 = .ok (.putfield 28, 3) := by decide +kernel
theorem dX7_read_10 : decode cX7_read 10 = .ok (.aload_n 0, 1) := by decide +kernel
theorem dX7_read_11 : decode cX7_read 11 = .ok (.iconst 0, 1) := by decide +kernel
theorem dX7_read_12 : decode cX7_read 12 = .ok (.putfield 40, 3) := by decide +kernel
theorem dX7_read_15 : decode cX7_read 15 = .ok (.new 43, 3) := by decide +kernel
theorem dX7_read_18 : decode cX7_read 18 = .ok (.dup, 1) := by decide +kernel
theorem dX7_read_19 : decode cX7_read 19 = .ok (.iload_n 1, 1) := by decide +kernel
theorem dX7_read_20 : decode cX7_read 20 = .ok (.invokespecial 45, 3) := by decide +kernel
theorem dX7_read_23 : decode cX7_read 23 = .ok (.astore_n 3, 1) := by decide +kernel
theorem dX7_read_24 : decode cX7_read 24 = .ok (.aload_n 0, 1) := by decide +kernel
theorem dX7_read_25 : decode cX7_read 25 = .ok (.invokevirtual 48, 3) := by decide +kernel
theorem dX7_read_28 : decode cX7_read 28 = .ok (.iconst 0, 1) := by decide +kernel
theorem dX7_read_29 : decode cX7_read 29 = .ok (.istore 4, 2) := by decide +kernel
theorem dX7_read_31 : decode cX7_read 31 = .ok (.iload 4, 2) := by decide +kernel
theorem dX7_read_33 : decode cX7_read 33 = .ok (.bipush 12, 2) := by decide +kernel
theorem dX7_read_35 : decode cX7_read 35 = .ok (.if_icmp .gt 37, 3) := by decide +kernel
theorem dX7_read_38 : decode cX7_read 38 = .ok (.aload_n 0, 1) := by decide +kernel
theorem dX7_read_39 : decode cX7_read 39 = .ok (.getfield 22, 3) := by decide +kernel
theorem dX7_read_42 : decode cX7_read 42 = .ok (.iconst (-1), 1) := by decide +kernel
theorem dX7_read_43 : decode cX7_read 43 = .ok (.if_icmp .eq 29, 3) := by decide +kernel
theorem dX7_read_46 : decode cX7_read 46 = .ok (.aload_n 0, 1) := by decide +kernel
theorem dX7_read_47 : decode cX7_read 47 = .ok (.getfield 31, 3) := by decide +kernel
theorem dX7_read_50 : decode cX7_read 50 = .ok (.ifCond .ne 22, 3) := by decide +kernel
theorem dX7_read_53 : decode cX7_read 53 = .ok (.aload_n 0, 1) := by decide +kernel
theorem dX7_read_54 : decode cX7_read 54 = .ok (.aload_n 3, 1) := by decide +kernel
theorem dX7_read_55 : decode cX7_read 55 = .ok (.iload 4, 2) := by decide +kernel
theorem dX7_read_57 : decode cX7_read 57 = .ok (.invokevirtual 51, 3) := by decide +kernel
theorem dX7_read_60 : decode cX7_read 60 = .ok (.aload_n 0, 1) := by decide +kernel
theorem dX7_read_61 : decode cX7_read 61 = .ok (.bipush 59, 2) := by decide +kernel
theorem dX7_read_63 : decode cX7_read 63 = .ok (.invokevirtual 55, 3) := by decide +kernel
theorem dX7_read_66 : decode cX7_read 66 = .ok (.iinc 4 1, 3) := by decide +kernel
theorem dX7_read_69 : decode cX7_read 69 = .ok (.goto (-38), 3) := by decide +kernel
theorem dX7_read_72 : decode cX7_read 72 = .ok (.aload_n 0, 1) := by decide +kernel
theorem dX7_read_73 : decode cX7_read 73 = .ok (.getfield 31, 3) := by decide +kernel
theorem dX7_read_76 : decode cX7_read 76 = .ok (.ifCond .ne 7, 3) := by decide +kernel
theorem dX7_read_79 : decode cX7_read 79 = .ok (.aload_n 3, 1) := by decide +kernel
theorem dX7_read_80 : decode cX7_read 80 = .ok (.goto 4, 3) := by decide +kernel
theorem dX7_read_83 : decode cX7_read 83 = .ok (.aconst_null, 1) := by decide +kernel
theorem dX7_read_84 : decode cX7_read 84 = .ok (.areturn, 1) := by decide +kernel
theorem dX7_fail_0 : decode cX7_fail 0 = .ok (.aload_n 0, 1) := by decide +kernel
theorem dX7_fail_1 : decode cX7_fail 1 = .ok (.getfield 31, 3) := by decide +kernel
theorem dX7_fail_4 : decode cX7_fail 4 = .ok (.ifCond .ne 22, 3) := by decide +kernel
theorem dX7_fail_7 : decode cX7_fail 7 = .ok (.aload_n 0, 1) := by decide +kernel
theorem dX7_fail_8 : decode cX7_fail 8 = .ok (.iload_n 1, 1) := by decide +kernel
theorem dX7_fail_9 : decode cX7_fail 9 = .ok (.putfield 31, 3) := by decide +kernel
theorem dX7_fail_12 : decode cX7_fail 12 = .ok (.aload_n 0, 1) := by decide +kernel
theorem dX7_fail_13 : decode cX7_fail 13 = .ok (.aload_n 0, 1) := by decide +kernel
theorem dX7_fail_14 : decode cX7_fail 14 = .ok (.getfield 25, 3) := by decide +kernel
theorem dX7_fail_17 : decode cX7_fail 17 = .ok (.putfield 34, 3) := by decide +kernel
theorem dX7_fail_20 : decode cX7_fail 20 = .ok (.aload_n 0, 1) := by decide +kernel
theorem dX7_fail_21 : decode cX7_fail 21 = .ok (.bipush (-2), 2) := by decide +kernel
theorem dX7_fail_23 : decode cX7_fail 23 = .ok (.putfield 22, 3) := by decide +kernel
theorem dX7_fail_26 : decode cX7_fail 26 = .ok (.return_, 1) := by decide +kernel
theorem dX7_byteAt_0 : decode cX7_byteAt 0 = .ok (.iload_n 1, 1) := by decide +kernel
theorem dX7_byteAt_1 : decode cX7_byteAt 1 = .ok (.ifCond .lt 29, 3) := by decide +kernel
theorem dX7_byteAt_4 : decode cX7_byteAt 4 = .ok (.iload_n 1, 1) := by decide +kernel
theorem dX7_byteAt_5 : decode cX7_byteAt 5 = .ok (.aload_n 0, 1) := by decide +kernel
theorem dX7_byteAt_6 : decode cX7_byteAt 6 = .ok (.getfield 19, 3) := by decide +kernel
theorem dX7_byteAt_9 : decode cX7_byteAt 9 = .ok (.if_icmp .ge 21, 3) := by decide +kernel
theorem dX7_byteAt_12 : decode cX7_byteAt 12 = .ok (.iload_n 1, 1) := by decide +kernel
theorem dX7_byteAt_13 : decode cX7_byteAt 13 = .ok (.aload_n 0, 1) := by decide +kernel
theorem dX7_byteAt_14 : decode cX7_byteAt 14 = .ok (.getfield 9, 3) := by decide +kernel
theorem dX7_byteAt_17 : decode cX7_byteAt 17 = .ok (.arraylength, 1) := by decide +kernel
theorem dX7_byteAt_18 : decode cX7_byteAt 18 = .ok (.if_icmp .ge 12, 3) := by decide +kernel
theorem dX7_byteAt_21 : decode cX7_byteAt 21 = .ok (.aload_n 0, 1) := by decide +kernel
theorem dX7_byteAt_22 : decode cX7_byteAt 22 = .ok (.getfield 9, 3) := by decide +kernel
theorem dX7_byteAt_25 : decode cX7_byteAt 25 = .ok (.iload_n 1, 1) := by decide +kernel
theorem dX7_byteAt_26 : decode cX7_byteAt 26 = .ok (.iaload, 1) := by decide +kernel
theorem dX7_byteAt_27 : decode cX7_byteAt 27 = .ok (.goto 4, 3) := by decide +kernel
theorem dX7_byteAt_30 : decode cX7_byteAt 30 = .ok (.iconst (-1), 1) := by decide +kernel
theorem dX7_byteAt_31 : decode cX7_byteAt 31 = .ok (.ireturn, 1) := by decide +kernel
theorem dX7_isLetter_0 : decode cX7_isLetter 0 = .ok (.iload_n 0, 1) := by decide +kernel
theorem dX7_isLetter_1 : decode cX7_isLetter 1 = .ok (.bipush 97, 2) := by decide +kernel
theorem dX7_isLetter_3 : decode cX7_isLetter 3 = .ok (.if_icmp .lt 13, 3) := by decide +kernel
theorem dX7_isLetter_6 : decode cX7_isLetter 6 = .ok (.iload_n 0, 1) := by decide +kernel
theorem dX7_isLetter_7 : decode cX7_isLetter 7 = .ok (.bipush 122, 2) := by decide +kernel
theorem dX7_isLetter_9 : decode cX7_isLetter 9 = .ok (.if_icmp .gt 7, 3) := by decide +kernel
theorem dX7_isLetter_12 : decode cX7_isLetter 12 = .ok (.iconst 1, 1) := by decide +kernel
theorem dX7_isLetter_13 : decode cX7_isLetter 13 = .ok (.goto 4, 3) := by decide +kernel
theorem dX7_isLetter_16 : decode cX7_isLetter 16 = .ok (.iconst 0, 1) := by decide +kernel
theorem dX7_isLetter_17 : decode cX7_isLetter 17 = .ok (.ireturn, 1) := by decide +kernel
theorem dX7_isDigit_0 : decode cX7_isDigit 0 = .ok (.iload_n 0, 1) := by decide +kernel
theorem dX7_isDigit_1 : decode cX7_isDigit 1 = .ok (.bipush 48, 2) := by decide +kernel
theorem dX7_isDigit_3 : decode cX7_isDigit 3 = .ok (.if_icmp .lt 13, 3) := by decide +kernel
theorem dX7_isDigit_6 : decode cX7_isDigit 6 = .ok (.iload_n 0, 1) := by decide +kernel
theorem dX7_isDigit_7 : decode cX7_isDigit 7 = .ok (.bipush 57, 2) := by decide +kernel
theorem dX7_isDigit_9 : decode cX7_isDigit 9 = .ok (.if_icmp .gt 7, 3) := by decide +kernel
theorem dX7_isDigit_12 : decode cX7_isDigit 12 = .ok (.iconst 1, 1) := by decide +kernel
theorem dX7_isDigit_13 : decode cX7_isDigit 13 = .ok (.goto 4, 3) := by decide +kernel
theorem dX7_isDigit_16 : decode cX7_isDigit 16 = .ok (.iconst 0, 1) := by decide +kernel
theorem dX7_isDigit_17 : decode cX7_isDigit 17 = .ok (.ireturn, 1) := by decide +kernel
theorem dX7_next_0 : decode cX7_next 0 = .ok (.aload_n 0, 1) := by decide +kernel
theorem dX7_next_1 : decode cX7_next 1 = .ok (.getfield 31, 3) := by decide +kernel
theorem dX7_next_4 : decode cX7_next 4 = .ok (.ifCond .eq 4, 3) := by decide +kernel
theorem dX7_next_7 : decode cX7_next 7 = .ok (.return_, 1) := by decide +kernel
theorem dX7_next_8 : decode cX7_next 8 = .ok (.aload_n 0, 1) := by decide +kernel
theorem dX7_next_9 : decode cX7_next 9 = .ok (.aload_n 0, 1) := by decide +kernel
theorem dX7_next_10 : decode cX7_next 10 = .ok (.getfield 28, 3) := by decide +kernel
theorem dX7_next_13 : decode cX7_next 13 = .ok (.putfield 25, 3) := by decide +kernel
theorem dX7_next_16 : decode cX7_next 16 = .ok (.aload_n 0, 1) := by decide +kernel
theorem dX7_next_17 : decode cX7_next 17 = .ok (.getfield 25, 3) := by decide +kernel
theorem dX7_next_20 : decode cX7_next 20 = .ok (.aload_n 0, 1) := by decide +kernel
theorem dX7_next_21 : decode cX7_next 21 = .ok (.getfield 19, 3) := by decide +kernel
theorem dX7_next_24 : decode cX7_next 24 = .ok (.if_icmp .ge 29, 3) := by decide +kernel
theorem dX7_next_27 : decode cX7_next 27 = .ok (.aload_n 0, 1) := by decide +kernel
theorem dX7_next_28 : decode cX7_next 28 = .ok (.aload_n 0, 1) := by decide +kernel
theorem dX7_next_29 : decode cX7_next 29 = .ok (.getfield 25, 3) := by decide +kernel
theorem dX7_next_32 : decode cX7_next 32 = .ok (.invokevirtual 58, 3) := by decide +kernel
theorem dX7_next_35 : decode cX7_next 35 = .ok (.bipush 32, 2) := by decide +kernel
theorem dX7_next_37 : decode cX7_next 37 = .ok (.if_icmp .ne 16, 3) := by decide +kernel
theorem dX7_next_40 : decode cX7_next 40 = .ok (.aload_n 0, 1) := by decide +kernel
theorem dX7_next_41 : decode cX7_next 41 = .ok (.dup, 1) := by decide +kernel
theorem dX7_next_42 : decode cX7_next 42 = .ok (.getfield 25, 3) := by decide +kernel
theorem dX7_next_45 : decode cX7_next 45 = .ok (.iconst 1, 1) := by decide +kernel
theorem dX7_next_46 : decode cX7_next 46 = .ok (.iadd, 1) := by decide +kernel
theorem dX7_next_47 : decode cX7_next 47 = .ok (.putfield 25, 3) := by decide +kernel
theorem dX7_next_50 : decode cX7_next 50 = .ok (.goto (-34), 3) := by decide +kernel
theorem dX7_next_53 : decode cX7_next 53 = .ok (.aload_n 0, 1) := by decide +kernel
theorem dX7_next_54 : decode cX7_next 54 = .ok (.aload_n 0, 1) := by decide +kernel
theorem dX7_next_55 : decode cX7_next 55 = .ok (.aload_n 0, 1) := by decide +kernel
theorem dX7_next_56 : decode cX7_next 56 = .ok (.getfield 25, 3) := by decide +kernel
theorem dX7_next_59 : decode cX7_next 59 = .ok (.invokevirtual 58, 3) := by decide +kernel
theorem dX7_next_62 : decode cX7_next 62 = .ok (.putfield 22, 3) := by decide +kernel
theorem dX7_next_65 : decode cX7_next 65 = .ok (.aload_n 0, 1) := by decide +kernel
theorem dX7_next_66 : decode cX7_next 66 = .ok (.aload_n 0, 1) := by decide +kernel
theorem dX7_next_67 : decode cX7_next 67 = .ok (.getfield 25, 3) := by decide +kernel
theorem dX7_next_70 : decode cX7_next 70 = .ok (.iconst 1, 1) := by decide +kernel
theorem dX7_next_71 : decode cX7_next 71 = .ok (.iadd, 1) := by decide +kernel
theorem dX7_next_72 : decode cX7_next 72 = .ok (.aload_n 0, 1) := by decide +kernel
theorem dX7_next_73 : decode cX7_next 73 = .ok (.getfield 19, 3) := by decide +kernel
theorem dX7_next_76 : decode cX7_next 76 = .ok (.invokestatic 62, 3) := by decide +kernel
theorem dX7_next_79 : decode cX7_next 79 = .ok (.putfield 28, 3) := by decide +kernel
theorem dX7_next_82 : decode cX7_next 82 = .ok (.aload_n 0, 1) := by decide +kernel
theorem dX7_next_83 : decode cX7_next 83 = .ok (.getfield 22, 3) := by decide +kernel
theorem dX7_next_86 : decode cX7_next 86 = .ok (.invokestatic 68, 3) := by decide +kernel
theorem dX7_next_89 : decode cX7_next 89 = .ok (.ifCond .eq 47, 3) := by decide +kernel
theorem dX7_next_92 : decode cX7_next 92 = .ok (.aload_n 0, 1) := by decide +kernel
theorem dX7_next_93 : decode cX7_next 93 = .ok (.bipush 97, 2) := by decide +kernel
theorem dX7_next_95 : decode cX7_next 95 = .ok (.putfield 22, 3) := by decide +kernel
theorem dX7_next_98 : decode cX7_next 98 = .ok (.aload_n 0, 1) := by decide +kernel
theorem dX7_next_99 : decode cX7_next 99 = .ok (.getfield 28, 3) := by decide +kernel
theorem dX7_next_102 : decode cX7_next 102 = .ok (.aload_n 0, 1) := by decide +kernel
theorem dX7_next_103 : decode cX7_next 103 = .ok (.getfield 19, 3) := by decide +kernel
theorem dX7_next_106 : decode cX7_next 106 = .ok (.if_icmp .ge 84, 3) := by decide +kernel
theorem dX7_next_109 : decode cX7_next 109 = .ok (.aload_n 0, 1) := by decide +kernel
theorem dX7_next_110 : decode cX7_next 110 = .ok (.aload_n 0, 1) := by decide +kernel
theorem dX7_next_111 : decode cX7_next 111 = .ok (.getfield 28, 3) := by decide +kernel
theorem dX7_next_114 : decode cX7_next 114 = .ok (.invokevirtual 58, 3) := by decide +kernel
theorem dX7_next_117 : decode cX7_next 117 = .ok (.invokestatic 68, 3) := by decide +kernel
theorem dX7_next_120 : decode cX7_next 120 = .ok (.ifCond .eq 70, 3) := by decide +kernel
theorem dX7_next_123 : decode cX7_next 123 = .ok (.aload_n 0, 1) := by decide +kernel
theorem dX7_next_124 : decode cX7_next 124 = .ok (.dup, 1) := by decide +kernel
theorem dX7_next_125 : decode cX7_next 125 = .ok (.getfield 28, 3) := by decide +kernel
theorem dX7_next_128 : decode cX7_next 128 = .ok (.iconst 1, 1) := by decide +kernel
theorem dX7_next_129 : decode cX7_next 129 = .ok (.iadd, 1) := by decide +kernel
theorem dX7_next_130 : decode cX7_next 130 = .ok (.putfield 28, 3) := by decide +kernel
theorem dX7_next_133 : decode cX7_next 133 = .ok (.goto (-35), 3) := by decide +kernel
theorem dX7_next_136 : decode cX7_next 136 = .ok (.aload_n 0, 1) := by decide +kernel
theorem dX7_next_137 : decode cX7_next 137 = .ok (.getfield 22, 3) := by decide +kernel
theorem dX7_next_140 : decode cX7_next 140 = .ok (.invokestatic 72, 3) := by decide +kernel
theorem dX7_next_143 : decode cX7_next 143 = .ok (.ifCond .eq 47, 3) := by decide +kernel
theorem dX7_next_146 : decode cX7_next 146 = .ok (.aload_n 0, 1) := by decide +kernel
theorem dX7_next_147 : decode cX7_next 147 = .ok (.bipush 48, 2) := by decide +kernel
theorem dX7_next_149 : decode cX7_next 149 = .ok (.putfield 22, 3) := by decide +kernel
theorem dX7_next_152 : decode cX7_next 152 = .ok (.aload_n 0, 1) := by decide +kernel
theorem dX7_next_153 : decode cX7_next 153 = .ok (.getfield 28, 3) := by decide +kernel
theorem dX7_next_156 : decode cX7_next 156 = .ok (.aload_n 0, 1) := by decide +kernel
theorem dX7_next_157 : decode cX7_next 157 = .ok (.getfield 19, 3) := by decide +kernel
theorem dX7_next_160 : decode cX7_next 160 = .ok (.if_icmp .ge 30, 3) := by decide +kernel
theorem dX7_next_163 : decode cX7_next 163 = .ok (.aload_n 0, 1) := by decide +kernel
theorem dX7_next_164 : decode cX7_next 164 = .ok (.aload_n 0, 1) := by decide +kernel
theorem dX7_next_165 : decode cX7_next 165 = .ok (.getfield 28, 3) := by decide +kernel
theorem dX7_next_168 : decode cX7_next 168 = .ok (.invokevirtual 58, 3) := by decide +kernel
theorem dX7_next_171 : decode cX7_next 171 = .ok (.invokestatic 72, 3) := by decide +kernel
theorem dX7_next_174 : decode cX7_next 174 = .ok (.ifCond .eq 16, 3) := by decide +kernel
theorem dX7_next_177 : decode cX7_next 177 = .ok (.aload_n 0, 1) := by decide +kernel
theorem dX7_next_178 : decode cX7_next 178 = .ok (.dup, 1) := by decide +kernel
theorem dX7_next_179 : decode cX7_next 179 = .ok (.getfield 28, 3) := by decide +kernel
theorem dX7_next_182 : decode cX7_next 182 = .ok (.iconst 1, 1) := by decide +kernel
theorem dX7_next_183 : decode cX7_next 183 = .ok (.iadd, 1) := by decide +kernel
theorem dX7_next_184 : decode cX7_next 184 = .ok (.putfield 28, 3) := by decide +kernel
theorem dX7_next_187 : decode cX7_next 187 = .ok (.goto (-35), 3) := by decide +kernel
theorem dX7_next_190 : decode cX7_next 190 = .ok (.return_, 1) := by decide +kernel
theorem dX7_take_0 : decode cX7_take 0 = .ok (.aload_n 0, 1) := by decide +kernel
theorem dX7_take_1 : decode cX7_take 1 = .ok (.getfield 22, 3) := by decide +kernel
theorem dX7_take_4 : decode cX7_take 4 = .ok (.iload_n 1, 1) := by decide +kernel
theorem dX7_take_5 : decode cX7_take 5 = .ok (.if_icmp .ne 10, 3) := by decide +kernel
theorem dX7_take_8 : decode cX7_take 8 = .ok (.aload_n 0, 1) := by decide +kernel
theorem dX7_take_9 : decode cX7_take 9 = .ok (.invokevirtual 48, 3) := by decide +kernel
theorem dX7_take_12 : decode cX7_take 12 = .ok (.goto 8, 3) := by decide +kernel
theorem dX7_take_15 : decode cX7_take 15 = .ok (.aload_n 0, 1) := by decide +kernel
theorem dX7_take_16 : decode cX7_take 16 = .ok (.iconst 1, 1) := by decide +kernel
theorem dX7_take_17 : decode cX7_take 17 = .ok (.invokevirtual 75, 3) := by decide +kernel
theorem dX7_take_20 : decode cX7_take 20 = .ok (.return_, 1) := by decide +kernel
theorem dX7_wordAmong_0 : decode cX7_wordAmong 0 = .ok (.aload_n 0, 1) := by decide +kernel
theorem dX7_wordAmong_1 : decode cX7_wordAmong 1 = .ok (.getfield 22, 3) := by decide +kernel
theorem dX7_wordAmong_4 : decode cX7_wordAmong 4 = .ok (.bipush 97, 2) := by decide +kernel
theorem dX7_wordAmong_6 : decode cX7_wordAmong 6 = .ok (.if_icmp .eq 5, 3) := by decide +kernel
theorem dX7_wordAmong_9 : decode cX7_wordAmong 9 = .ok (.iconst (-1), 1) := by decide +kernel
theorem dX7_wordAmong_10 : decode cX7_wordAmong 10 = .ok (.ireturn, 1) := by decide +kernel
theorem dX7_wordAmong_11 : decode cX7_wordAmong 11 = .ok (.iconst 0, 1) := by decide +kernel
theorem dX7_wordAmong_12 : decode cX7_wordAmong 12 = .ok (.istore_n 2, 1) := by decide +kernel
theorem dX7_wordAmong_13 : decode cX7_wordAmong 13 = .ok (.iconst 0, 1) := by decide +kernel
theorem dX7_wordAmong_14 : decode cX7_wordAmong 14 = .ok (.istore_n 3, 1) := by decide +kernel
theorem dX7_wordAmong_15 : decode cX7_wordAmong 15 = .ok (.iconst 0, 1) := by decide +kernel
theorem dX7_wordAmong_16 : decode cX7_wordAmong 16 = .ok (.istore 4, 2) := by decide +kernel
theorem dX7_wordAmong_18 : decode cX7_wordAmong 18 = .ok (.iload 4, 2) := by decide +kernel
theorem dX7_wordAmong_20 : decode cX7_wordAmong 20 = .ok (.aload_n 1, 1) := by decide +kernel
theorem dX7_wordAmong_21 : decode cX7_wordAmong 21 = .ok (.invokevirtual 78, 3) := by decide +kernel
theorem dX7_wordAmong_24 : decode cX7_wordAmong 24 = .ok (.if_icmp .gt 50, 3) := by decide +kernel
theorem dX7_wordAmong_27 : decode cX7_wordAmong 27 = .ok (.iload 4, 2) := by decide +kernel
theorem dX7_wordAmong_29 : decode cX7_wordAmong 29 = .ok (.aload_n 1, 1) := by decide +kernel
theorem dX7_wordAmong_30 : decode cX7_wordAmong 30 = .ok (.invokevirtual 78, 3) := by decide +kernel
theorem dX7_wordAmong_33 : decode cX7_wordAmong 33 = .ok (.if_icmp .eq 14, 3) := by decide +kernel
theorem dX7_wordAmong_36 : decode cX7_wordAmong 36 = .ok (.aload_n 1, 1) := by decide +kernel
theorem dX7_wordAmong_37 : decode cX7_wordAmong 37 = .ok (.iload 4, 2) := by decide +kernel
theorem dX7_wordAmong_39 : decode cX7_wordAmong 39 = .ok (.invokevirtual 84, 3) := by decide +kernel
theorem dX7_wordAmong_42 : decode cX7_wordAmong 42 = .ok (.bipush 32, 2) := by decide +kernel
theorem dX7_wordAmong_44 : decode cX7_wordAmong 44 = .ok (.if_icmp .ne 24, 3) := by decide +kernel
theorem dX7_wordAmong_47 : decode cX7_wordAmong 47 = .ok (.aload_n 0, 1) := by decide +kernel
theorem dX7_wordAmong_48 : decode cX7_wordAmong 48 = .ok (.aload_n 1, 1) := by decide +kernel
theorem dX7_wordAmong_49 : decode cX7_wordAmong 49 = .ok (.iload_n 3, 1) := by decide +kernel
theorem dX7_wordAmong_50 : decode cX7_wordAmong 50 = .ok (.iload 4, 2) := by decide +kernel
theorem dX7_wordAmong_52 : decode cX7_wordAmong 52 = .ok (.invokevirtual 88, 3) := by decide +kernel
theorem dX7_wordAmong_55 : decode cX7_wordAmong 55 = .ok (.ifCond .eq 5, 3) := by decide +kernel
theorem dX7_wordAmong_58 : decode cX7_wordAmong 58 = .ok (.iload_n 2, 1) := by decide +kernel
theorem dX7_wordAmong_59 : decode cX7_wordAmong 59 = .ok (.ireturn, 1) := by decide +kernel
theorem dX7_wordAmong_60 : decode cX7_wordAmong 60 = .ok (.iinc 2 1, 3) := by decide +kernel
theorem dX7_wordAmong_63 : decode cX7_wordAmong 63 = .ok (.iload 4, 2) := by decide +kernel
theorem dX7_wordAmong_65 : decode cX7_wordAmong 65 = .ok (.iconst 1, 1) := by decide +kernel
theorem dX7_wordAmong_66 : decode cX7_wordAmong 66 = .ok (.iadd, 1) := by decide +kernel
theorem dX7_wordAmong_67 : decode cX7_wordAmong 67 = .ok (.istore_n 3, 1) := by decide +kernel
theorem dX7_wordAmong_68 : decode cX7_wordAmong 68 = .ok (.iinc 4 1, 3) := by decide +kernel
theorem dX7_wordAmong_71 : decode cX7_wordAmong 71 = .ok (.goto (-53), 3) := by decide +kernel
theorem dX7_wordAmong_74 : decode cX7_wordAmong 74 = .ok (.iconst (-1), 1) := by decide +kernel
theorem dX7_wordAmong_75 : decode cX7_wordAmong 75 = .ok (.ireturn, 1) := by decide +kernel
theorem dX7_isWord_0 : decode cX7_isWord 0 = .ok (.iload_n 2, 1) := by decide +kernel
theorem dX7_isWord_1 : decode cX7_isWord 1 = .ok (.ifCond .lt 26, 3) := by decide +kernel
theorem dX7_isWord_4 : decode cX7_isWord 4 = .ok (.iload_n 3, 1) := by decide +kernel
theorem dX7_isWord_5 : decode cX7_isWord 5 = .ok (.aload_n 1, 1) := by decide +kernel
theorem dX7_isWord_6 : decode cX7_isWord 6 = .ok (.invokevirtual 78, 3) := by decide +kernel
theorem dX7_isWord_9 : decode cX7_isWord 9 = .ok (.if_icmp .gt 18, 3) := by decide +kernel
theorem dX7_isWord_12 : decode cX7_isWord 12 = .ok (.iload_n 3, 1) := by decide +kernel
theorem dX7_isWord_13 : decode cX7_isWord 13 = .ok (.iload_n 2, 1) := by decide +kernel
theorem dX7_isWord_14 : decode cX7_isWord 14 = .ok (.isub, 1) := by decide +kernel
theorem dX7_isWord_15 : decode cX7_isWord 15 = .ok (.aload_n 0, 1) := by decide +kernel
theorem dX7_isWord_16 : decode cX7_isWord 16 = .ok (.getfield 28, 3) := by decide +kernel
theorem dX7_isWord_19 : decode cX7_isWord 19 = .ok (.aload_n 0, 1) := by decide +kernel
theorem dX7_isWord_20 : decode cX7_isWord 20 = .ok (.getfield 25, 3) := by decide +kernel
theorem dX7_isWord_23 : decode cX7_isWord 23 = .ok (.isub, 1) := by decide +kernel
theorem dX7_isWord_24 : decode cX7_isWord 24 = .ok (.if_icmp .eq 5, 3) := by decide +kernel
theorem dX7_isWord_27 : decode cX7_isWord 27 = .ok (.iconst 0, 1) := by decide +kernel
theorem dX7_isWord_28 : decode cX7_isWord 28 = .ok (.ireturn, 1) := by decide +kernel
theorem dX7_isWord_29 : decode cX7_isWord 29 = .ok (.iload_n 2, 1) := by decide +kernel
theorem dX7_isWord_30 : decode cX7_isWord 30 = .ok (.istore 4, 2) := by decide +kernel
theorem dX7_isWord_32 : decode cX7_isWord 32 = .ok (.iload 4, 2) := by decide +kernel
theorem dX7_isWord_34 : decode cX7_isWord 34 = .ok (.iload_n 3, 1) := by decide +kernel
theorem dX7_isWord_35 : decode cX7_isWord 35 = .ok (.if_icmp .ge 33, 3) := by decide +kernel
theorem dX7_isWord_38 : decode cX7_isWord 38 = .ok (.aload_n 1, 1) := by decide +kernel
theorem dX7_isWord_39 : decode cX7_isWord 39 = .ok (.iload 4, 2) := by decide +kernel
theorem dX7_isWord_41 : decode cX7_isWord 41 = .ok (.invokevirtual 84, 3) := by decide +kernel
theorem dX7_isWord_44 : decode cX7_isWord 44 = .ok (.aload_n 0, 1) := by decide +kernel
theorem dX7_isWord_45 : decode cX7_isWord 45 = .ok (.aload_n 0, 1) := by decide +kernel
theorem dX7_isWord_46 : decode cX7_isWord 46 = .ok (.getfield 25, 3) := by decide +kernel
theorem dX7_isWord_49 : decode cX7_isWord 49 = .ok (.iload 4, 2) := by decide +kernel
theorem dX7_isWord_51 : decode cX7_isWord 51 = .ok (.iadd, 1) := by decide +kernel
theorem dX7_isWord_52 : decode cX7_isWord 52 = .ok (.iload_n 2, 1) := by decide +kernel
theorem dX7_isWord_53 : decode cX7_isWord 53 = .ok (.isub, 1) := by decide +kernel
theorem dX7_isWord_54 : decode cX7_isWord 54 = .ok (.invokevirtual 58, 3) := by decide +kernel
theorem dX7_isWord_57 : decode cX7_isWord 57 = .ok (.if_icmp .eq 5, 3) := by decide +kernel
theorem dX7_isWord_60 : decode cX7_isWord 60 = .ok (.iconst 0, 1) := by decide +kernel
theorem dX7_isWord_61 : decode cX7_isWord 61 = .ok (.ireturn, 1) := by decide +kernel
theorem dX7_isWord_62 : decode cX7_isWord 62 = .ok (.iinc 4 1, 3) := by decide +kernel
theorem dX7_isWord_65 : decode cX7_isWord 65 = .ok (.goto (-33), 3) := by decide +kernel
theorem dX7_isWord_68 : decode cX7_isWord 68 = .ok (.iconst 1, 1) := by decide +kernel
theorem dX7_isWord_69 : decode cX7_isWord 69 = .ok (.ireturn, 1) := by decide +kernel
theorem dX7_takeWord_0 : decode cX7_takeWord 0 = .ok (.aload_n 0, 1) := by decide +kernel
theorem dX7_takeWord_1 : decode cX7_takeWord 1 = .ok (.aload_n 1, 1) := by decide +kernel
theorem dX7_takeWord_2 : decode cX7_takeWord 2 = .ok (.invokevirtual 92, 3) := by decide +kernel
theorem dX7_takeWord_5 : decode cX7_takeWord 5 = .ok (.istore_n 2, 1) := by decide +kernel
theorem dX7_takeWord_6 : decode cX7_takeWord 6 = .ok (.iload_n 2, 1) := by decide +kernel
theorem dX7_takeWord_7 : decode cX7_takeWord 7 = .ok (.iconst (-1), 1) := by decide +kernel
theorem dX7_takeWord_8 : decode cX7_takeWord 8 = .ok (.if_icmp .ne 11, 3) := by decide +kernel
theorem dX7_takeWord_11 : decode cX7_takeWord 11 = .ok (.aload_n 0, 1) := by decide +kernel
theorem dX7_takeWord_12 : decode cX7_takeWord 12 = .ok (.iconst 1, 1) := by decide +kernel
theorem dX7_takeWord_13 : decode cX7_takeWord 13 = .ok (.invokevirtual 75, 3) := by decide +kernel
theorem dX7_takeWord_16 : decode cX7_takeWord 16 = .ok (.goto 7, 3) := by decide +kernel
theorem dX7_takeWord_19 : decode cX7_takeWord 19 = .ok (.aload_n 0, 1) := by decide +kernel
theorem dX7_takeWord_20 : decode cX7_takeWord 20 = .ok (.invokevirtual 48, 3) := by decide +kernel
theorem dX7_takeWord_23 : decode cX7_takeWord 23 = .ok (.iload_n 2, 1) := by decide +kernel
theorem dX7_takeWord_24 : decode cX7_takeWord 24 = .ok (.ireturn, 1) := by decide +kernel
theorem dX7_takeNumber_0 : decode cX7_takeNumber 0 = .ok (.aload_n 0, 1) := by decide +kernel
theorem dX7_takeNumber_1 : decode cX7_takeNumber 1 = .ok (.getfield 22, 3) := by decide +kernel
theorem dX7_takeNumber_4 : decode cX7_takeNumber 4 = .ok (.bipush 48, 2) := by decide +kernel
theorem dX7_takeNumber_6 : decode cX7_takeNumber 6 = .ok (.if_icmp .eq 10, 3) := by decide +kernel
theorem dX7_takeNumber_9 : decode cX7_takeNumber 9 = .ok (.aload_n 0, 1) := by decide +kernel
theorem dX7_takeNumber_10 : decode cX7_takeNumber 10 = .ok (.iconst 1, 1) := by decide +kernel
theorem dX7_takeNumber_11 : decode cX7_takeNumber 11 = .ok (.invokevirtual 75, 3) := by decide +kernel
theorem dX7_takeNumber_14 : decode cX7_takeNumber 14 = .ok (.iload_n 1, 1) := by decide +kernel
theorem dX7_takeNumber_15 : decode cX7_takeNumber 15 = .ok (.ireturn, 1) := by decide +kernel
theorem dX7_takeNumber_16 : decode cX7_takeNumber 16 = .ok (.iconst 0, 1) := by decide +kernel
theorem dX7_takeNumber_17 : decode cX7_takeNumber 17 = .ok (.istore_n 3, 1) := by decide +kernel
theorem dX7_takeNumber_18 : decode cX7_takeNumber 18 = .ok (.aload_n 0, 1) := by decide +kernel
theorem dX7_takeNumber_19 : decode cX7_takeNumber 19 = .ok (.getfield 25, 3) := by decide +kernel
theorem dX7_takeNumber_22 : decode cX7_takeNumber 22 = .ok (.istore 4, 2) := by decide +kernel
theorem dX7_takeNumber_24 : decode cX7_takeNumber 24 = .ok (.iload 4, 2) := by decide +kernel
theorem dX7_takeNumber_26 : decode cX7_takeNumber 26 = .ok (.aload_n 0, 1) := by decide +kernel
theorem dX7_takeNumber_27 : decode cX7_takeNumber 27 = .ok (.getfield 28, 3) := by decide +kernel
theorem dX7_takeNumber_30 : decode cX7_takeNumber 30 = .ok (.if_icmp .ge 30, 3) := by decide +kernel
theorem dX7_takeNumber_33 : decode cX7_takeNumber 33 = .ok (.iload_n 3, 1) := by decide +kernel
theorem dX7_takeNumber_34 : decode cX7_takeNumber 34 = .ok (.bipush 10, 2) := by decide +kernel
theorem dX7_takeNumber_36 : decode cX7_takeNumber 36 = .ok (.imul, 1) := by decide +kernel
theorem dX7_takeNumber_37 : decode cX7_takeNumber 37 = .ok (.aload_n 0, 1) := by decide +kernel
theorem dX7_takeNumber_38 : decode cX7_takeNumber 38 = .ok (.iload 4, 2) := by decide +kernel
theorem dX7_takeNumber_40 : decode cX7_takeNumber 40 = .ok (.invokevirtual 58, 3) := by decide +kernel
theorem dX7_takeNumber_43 : decode cX7_takeNumber 43 = .ok (.iadd, 1) := by decide +kernel
theorem dX7_takeNumber_44 : decode cX7_takeNumber 44 = .ok (.bipush 48, 2) := by decide +kernel
theorem dX7_takeNumber_46 : decode cX7_takeNumber 46 = .ok (.isub, 1) := by decide +kernel
theorem dX7_takeNumber_47 : decode cX7_takeNumber 47 = .ok (.sipush 10000, 3) := by decide +kernel
theorem dX7_takeNumber_50 : decode cX7_takeNumber 50 = .ok (.invokestatic 62, 3) := by decide +kernel
theorem dX7_takeNumber_53 : decode cX7_takeNumber 53 = .ok (.istore_n 3, 1) := by decide +kernel
theorem dX7_takeNumber_54 : decode cX7_takeNumber 54 = .ok (.iinc 4 1, 3) := by decide +kernel
theorem dX7_takeNumber_57 : decode cX7_takeNumber 57 = .ok (.goto (-33), 3) := by decide +kernel
theorem dX7_takeNumber_60 : decode cX7_takeNumber 60 = .ok (.iload_n 3, 1) := by decide +kernel
theorem dX7_takeNumber_61 : decode cX7_takeNumber 61 = .ok (.iload_n 1, 1) := by decide +kernel
theorem dX7_takeNumber_62 : decode cX7_takeNumber 62 = .ok (.iload_n 2, 1) := by decide +kernel
theorem dX7_takeNumber_63 : decode cX7_takeNumber 63 = .ok (.invokestatic 96, 3) := by decide +kernel
theorem dX7_takeNumber_66 : decode cX7_takeNumber 66 = .ok (.ifCond .ne 8, 3) := by decide +kernel
theorem dX7_takeNumber_69 : decode cX7_takeNumber 69 = .ok (.aload_n 0, 1) := by decide +kernel
theorem dX7_takeNumber_70 : decode cX7_takeNumber 70 = .ok (.iconst 2, 1) := by decide +kernel
theorem dX7_takeNumber_71 : decode cX7_takeNumber 71 = .ok (.invokevirtual 75, 3) := by decide +kernel
theorem dX7_takeNumber_74 : decode cX7_takeNumber 74 = .ok (.aload_n 0, 1) := by decide +kernel
theorem dX7_takeNumber_75 : decode cX7_takeNumber 75 = .ok (.invokevirtual 48, 3) := by decide +kernel
theorem dX7_takeNumber_78 : decode cX7_takeNumber 78 = .ok (.iload_n 3, 1) := by decide +kernel
theorem dX7_takeNumber_79 : decode cX7_takeNumber 79 = .ok (.ireturn, 1) := by decide +kernel
theorem dX7_readClause_0 : decode cX7_readClause 0 = .ok (.aload_n 0, 1) := by decide +kernel
theorem dX7_readClause_1 : decode cX7_readClause 1 = .ok (.ldc 100, 2) := by decide +kernel
theorem dX7_readClause_3 : decode cX7_readClause 3 = .ok (.invokevirtual 92, 3) := by decide +kernel
theorem dX7_readClause_6 : decode cX7_readClause 6 = .ok (.istore_n 3, 1) := by decide +kernel
theorem dX7_readClause_7 : decode cX7_readClause 7 = .ok (.iload_n 3, 1) := by decide +kernel
theorem dX7_readClause_8 : decode cX7_readClause 8 = .ok (.iconst (-1), 1) := by decide +kernel
theorem dX7_readClause_9 : decode cX7_readClause 9 = .ok (.if_icmp .ne 9, 3) := by decide +kernel
theorem dX7_readClause_12 : decode cX7_readClause 12 = .ok (.aload_n 0, 1) := by decide +kernel
theorem dX7_readClause_13 : decode cX7_readClause 13 = .ok (.iconst 1, 1) := by decide +kernel
theorem dX7_readClause_14 : decode cX7_readClause 14 = .ok (.invokevirtual 75, 3) := by decide +kernel
theorem dX7_readClause_17 : decode cX7_readClause 17 = .ok (.return_, 1) := by decide +kernel
theorem dX7_readClause_18 : decode cX7_readClause 18 = .ok (.iload_n 2, 1) := by decide +kernel
theorem dX7_readClause_19 : decode cX7_readClause 19 = .ok (.bipush 12, 2) := by decide +kernel
theorem dX7_readClause_21 : decode cX7_readClause 21 = .ok (.if_icmp .lt 9, 3) := by decide +kernel
theorem dX7_readClause_24 : decode cX7_readClause 24 = .ok (.aload_n 0, 1) := by decide +kernel
theorem dX7_readClause_25 : decode cX7_readClause 25 = .ok (.iconst 3, 1) := by decide +kernel
theorem dX7_readClause_26 : decode cX7_readClause 26 = .ok (.invokevirtual 75, 3) := by decide +kernel
theorem dX7_readClause_29 : decode cX7_readClause 29 = .ok (.return_, 1) := by decide +kernel
theorem dX7_readClause_30 : decode cX7_readClause 30 = .ok (.aload_n 0, 1) := by decide +kernel
theorem dX7_readClause_31 : decode cX7_readClause 31 = .ok (.invokevirtual 48, 3) := by decide +kernel
theorem dX7_readClause_34 : decode cX7_readClause 34 = .ok (.iload_n 3, 1) := by decide +kernel
theorem dX7_readClause_35 : decode cX7_readClause 35 = .ok (.tableswitch 190 0 8 #[49, 65, 74, 95, 110, 125, 139, 153, 168], 49) := by decide +kernel
theorem dX7_readClause_84 : decode cX7_readClause 84 = .ok (.aload_n 0, 1) := by decide +kernel
theorem dX7_readClause_85 : decode cX7_readClause 85 = .ok (.iconst 0, 1) := by decide +kernel
theorem dX7_readClause_86 : decode cX7_readClause 86 = .ok (.invokevirtual 102, 3) := by decide +kernel
theorem dX7_readClause_89 : decode cX7_readClause 89 = .ok (.aload_n 1, 1) := by decide +kernel
theorem dX7_readClause_90 : decode cX7_readClause 90 = .ok (.aload_n 0, 1) := by decide +kernel
theorem dX7_readClause_91 : decode cX7_readClause 91 = .ok (.invokevirtual 105, 3) := by decide +kernel
theorem dX7_readClause_94 : decode cX7_readClause 94 = .ok (.putfield 109, 3) := by decide +kernel
theorem dX7_readClause_97 : decode cX7_readClause 97 = .ok (.goto 138, 3) := by decide +kernel
theorem dX7_readClause_100 : decode cX7_readClause 100 = .ok (.aload_n 0, 1) := by decide +kernel
theorem dX7_readClause_101 : decode cX7_readClause 101 = .ok (.aload_n 1, 1) := by decide +kernel
theorem dX7_readClause_102 : decode cX7_readClause 102 = .ok (.iload_n 2, 1) := by decide +kernel
theorem dX7_readClause_103 : decode cX7_readClause 103 = .ok (.invokevirtual 112, 3) := by decide +kernel
theorem dX7_readClause_106 : decode cX7_readClause 106 = .ok (.goto 129, 3) := by decide +kernel
theorem dX7_readClause_109 : decode cX7_readClause 109 = .ok (.aload_n 0, 1) := by decide +kernel
theorem dX7_readClause_110 : decode cX7_readClause 110 = .ok (.iconst 0, 1) := by decide +kernel
theorem dX7_readClause_111 : decode cX7_readClause 111 = .ok (.invokevirtual 102, 3) := by decide +kernel
theorem dX7_readClause_114 : decode cX7_readClause 114 = .ok (.aload_n 1, 1) := by decide +kernel
theorem dX7_readClause_115 : decode cX7_readClause 115 = .ok (.aload_n 0, 1) := by decide +kernel
theorem dX7_readClause_116 : decode cX7_readClause 116 = .ok (.invokevirtual 105, 3) := by decide +kernel
theorem dX7_readClause_119 : decode cX7_readClause 119 = .ok (.putfield 115, 3) := by decide +kernel
theorem dX7_readClause_122 : decode cX7_readClause 122 = .ok (.aload_n 1, 1) := by decide +kernel
theorem dX7_readClause_123 : decode cX7_readClause 123 = .ok (.iload_n 2, 1) := by decide +kernel
theorem dX7_readClause_124 : decode cX7_readClause 124 = .ok (.putfield 118, 3) := by decide +kernel
theorem dX7_readClause_127 : decode cX7_readClause 127 = .ok (.goto 108, 3) := by decide +kernel
theorem dX7_readClause_130 : decode cX7_readClause 130 = .ok (.aload_n 1, 1) := by decide +kernel
theorem dX7_readClause_131 : decode cX7_readClause 131 = .ok (.aload_n 0, 1) := by decide +kernel
theorem dX7_readClause_132 : decode cX7_readClause 132 = .ok (.iconst 0, 1) := by decide +kernel
theorem dX7_readClause_133 : decode cX7_readClause 133 = .ok (.sipush 9999, 3) := by decide +kernel
theorem dX7_readClause_136 : decode cX7_readClause 136 = .ok (.invokevirtual 121, 3) := by decide +kernel
theorem dX7_readClause_139 : decode cX7_readClause 139 = .ok (.putfield 124, 3) := by decide +kernel
theorem dX7_readClause_142 : decode cX7_readClause 142 = .ok (.goto 93, 3) := by decide +kernel
theorem dX7_readClause_145 : decode cX7_readClause 145 = .ok (.aload_n 1, 1) := by decide +kernel
theorem dX7_readClause_146 : decode cX7_readClause 146 = .ok (.aload_n 0, 1) := by decide +kernel
theorem dX7_readClause_147 : decode cX7_readClause 147 = .ok (.iconst 0, 1) := by decide +kernel
theorem dX7_readClause_148 : decode cX7_readClause 148 = .ok (.sipush 9999, 3) := by decide +kernel
theorem dX7_readClause_151 : decode cX7_readClause 151 = .ok (.invokevirtual 121, 3) := by decide +kernel
theorem dX7_readClause_154 : decode cX7_readClause 154 = .ok (.putfield 127, 3) := by decide +kernel
theorem dX7_readClause_157 : decode cX7_readClause 157 = .ok (.goto 78, 3) := by decide +kernel
theorem dX7_readClause_160 : decode cX7_readClause 160 = .ok (.aload_n 1, 1) := by decide +kernel
theorem dX7_readClause_161 : decode cX7_readClause 161 = .ok (.aload_n 0, 1) := by decide +kernel
theorem dX7_readClause_162 : decode cX7_readClause 162 = .ok (.iconst 0, 1) := by decide +kernel
theorem dX7_readClause_163 : decode cX7_readClause 163 = .ok (.bipush 100, 2) := by decide +kernel
theorem dX7_readClause_165 : decode cX7_readClause 165 = .ok (.invokevirtual 121, 3) := by decide +kernel
theorem dX7_readClause_168 : decode cX7_readClause 168 = .ok (.putfield 130, 3) := by decide +kernel
theorem dX7_readClause_171 : decode cX7_readClause 171 = .ok (.goto 64, 3) := by decide +kernel
theorem dX7_readClause_174 : decode cX7_readClause 174 = .ok (.aload_n 1, 1) := by decide +kernel
theorem dX7_readClause_175 : decode cX7_readClause 175 = .ok (.aload_n 0, 1) := by decide +kernel
theorem dX7_readClause_176 : decode cX7_readClause 176 = .ok (.iconst 0, 1) := by decide +kernel
theorem dX7_readClause_177 : decode cX7_readClause 177 = .ok (.bipush 100, 2) := by decide +kernel
theorem dX7_readClause_179 : decode cX7_readClause 179 = .ok (.invokevirtual 121, 3) := by decide +kernel
theorem dX7_readClause_182 : decode cX7_readClause 182 = .ok (.putfield 133, 3) := by decide +kernel
theorem dX7_readClause_185 : decode cX7_readClause 185 = .ok (.goto 50, 3) := by decide +kernel
theorem dX7_readClause_188 : decode cX7_readClause 188 = .ok (.aload_n 1, 1) := by decide +kernel
theorem dX7_readClause_189 : decode cX7_readClause 189 = .ok (.aload_n 0, 1) := by decide +kernel
theorem dX7_readClause_190 : decode cX7_readClause 190 = .ok (.iconst 0, 1) := by decide +kernel
theorem dX7_readClause_191 : decode cX7_readClause 191 = .ok (.sipush 9999, 3) := by decide +kernel
theorem dX7_readClause_194 : decode cX7_readClause 194 = .ok (.invokevirtual 121, 3) := by decide +kernel
theorem dX7_readClause_197 : decode cX7_readClause 197 = .ok (.putfield 136, 3) := by decide +kernel
theorem dX7_readClause_200 : decode cX7_readClause 200 = .ok (.goto 35, 3) := by decide +kernel
theorem dX7_readClause_203 : decode cX7_readClause 203 = .ok (.aload_n 1, 1) := by decide +kernel
theorem dX7_readClause_204 : decode cX7_readClause 204 = .ok (.aload_n 0, 1) := by decide +kernel
theorem dX7_readClause_205 : decode cX7_readClause 205 = .ok (.ldc 139, 2) := by decide +kernel
theorem dX7_readClause_207 : decode cX7_readClause 207 = .ok (.invokevirtual 141, 3) := by decide +kernel
theorem dX7_readClause_210 : decode cX7_readClause 210 = .ok (.iconst 1, 1) := by decide +kernel
theorem dX7_readClause_211 : decode cX7_readClause 211 = .ok (.if_icmp .ne 7, 3) := by decide +kernel
theorem dX7_readClause_214 : decode cX7_readClause 214 = .ok (.iconst 1, 1) := by decide +kernel
theorem dX7_readClause_215 : decode cX7_readClause 215 = .ok (.goto 4, 3) := by decide +kernel
theorem dX7_readClause_218 : decode cX7_readClause 218 = .ok (.iconst 0, 1) := by decide +kernel
theorem dX7_readClause_219 : decode cX7_readClause 219 = .ok (.putfield 144, 3) := by decide +kernel
theorem dX7_readClause_222 : decode cX7_readClause 222 = .ok (.goto 13, 3) := by decide +kernel
theorem dX7_readClause_225 : decode cX7_readClause 225 = .ok (.aload_n 1, 1) := by decide +kernel
theorem dX7_readClause_226 : decode cX7_readClause 226 = .ok (.aload_n 0, 1) := by decide +kernel
theorem dX7_readClause_227 : decode cX7_readClause 227 = .ok (.ldc 148, 2) := by decide +kernel
theorem dX7_readClause_229 : decode cX7_readClause 229 = .ok (.invokevirtual 141, 3) := by decide +kernel
theorem dX7_readClause_232 : decode cX7_readClause 232 = .ok (.putfield 150, 3) := by decide +kernel
theorem dX7_readClause_235 : decode cX7_readClause 235 = .ok (.return_, 1) := by decide +kernel
theorem dX7_readPages_0 : decode cX7_readPages 0 = .ok (.aload_n 0, 1) := by decide +kernel
theorem dX7_readPages_1 : decode cX7_readPages 1 = .ok (.ldc 153, 2) := by decide +kernel
theorem dX7_readPages_3 : decode cX7_readPages 3 = .ok (.invokevirtual 141, 3) := by decide +kernel
theorem dX7_readPages_6 : decode cX7_readPages 6 = .ok (.istore_n 3, 1) := by decide +kernel
theorem dX7_readPages_7 : decode cX7_readPages 7 = .ok (.aload_n 0, 1) := by decide +kernel
theorem dX7_readPages_8 : decode cX7_readPages 8 = .ok (.iconst 2, 1) := by decide +kernel
theorem dX7_readPages_9 : decode cX7_readPages 9 = .ok (.bipush 64, 2) := by decide +kernel
theorem dX7_readPages_11 : decode cX7_readPages 11 = .ok (.invokevirtual 121, 3) := by decide +kernel
theorem dX7_readPages_14 : decode cX7_readPages 14 = .ok (.istore 4, 2) := by decide +kernel
theorem dX7_readPages_16 : decode cX7_readPages 16 = .ok (.aload_n 1, 1) := by decide +kernel
theorem dX7_readPages_17 : decode cX7_readPages 17 = .ok (.iload_n 3, 1) := by decide +kernel
theorem dX7_readPages_18 : decode cX7_readPages 18 = .ok (.iload 4, 2) := by decide +kernel
theorem dX7_readPages_20 : decode cX7_readPages 20 = .ok (.iload_n 2, 1) := by decide +kernel
theorem dX7_readPages_21 : decode cX7_readPages 21 = .ok (.invokevirtual 155, 3) := by decide +kernel
theorem dX7_readPages_24 : decode cX7_readPages 24 = .ok (.return_, 1) := by decide +kernel
theorem dX7_formula_0 : decode cX7_formula 0 = .ok (.aload_n 0, 1) := by decide +kernel
theorem dX7_formula_1 : decode cX7_formula 1 = .ok (.getfield 40, 3) := by decide +kernel
theorem dX7_formula_4 : decode cX7_formula 4 = .ok (.iconst 0, 1) := by decide +kernel
theorem dX7_formula_5 : decode cX7_formula 5 = .ok (.aload_n 0, 1) := by decide +kernel
theorem dX7_formula_6 : decode cX7_formula 6 = .ok (.getfield 37, 3) := by decide +kernel
theorem dX7_formula_9 : decode cX7_formula 9 = .ok (.arraylength, 1) := by decide +kernel
theorem dX7_formula_10 : decode cX7_formula 10 = .ok (.invokestatic 96, 3) := by decide +kernel
theorem dX7_formula_13 : decode cX7_formula 13 = .ok (.ifCond .eq 10, 3) := by decide +kernel
theorem dX7_formula_16 : decode cX7_formula 16 = .ok (.aload_n 0, 1) := by decide +kernel
theorem dX7_formula_17 : decode cX7_formula 17 = .ok (.getfield 40, 3) := by decide +kernel
theorem dX7_formula_20 : decode cX7_formula 20 = .ok (.goto 4, 3) := by decide +kernel
theorem dX7_formula_23 : decode cX7_formula 23 = .ok (.iconst 0, 1) := by decide +kernel
theorem dX7_formula_24 : decode cX7_formula 24 = .ok (.istore_n 1, 1) := by decide +kernel
theorem dX7_formula_25 : decode cX7_formula 25 = .ok (.aload_n 0, 1) := by decide +kernel
theorem dX7_formula_26 : decode cX7_formula 26 = .ok (.iconst 0, 1) := by decide +kernel
theorem dX7_formula_27 : decode cX7_formula 27 = .ok (.putfield 40, 3) := by decide +kernel
theorem dX7_formula_30 : decode cX7_formula 30 = .ok (.aload_n 0, 1) := by decide +kernel
theorem dX7_formula_31 : decode cX7_formula 31 = .ok (.getfield 37, 3) := by decide +kernel
theorem dX7_formula_34 : decode cX7_formula 34 = .ok (.iload_n 1, 1) := by decide +kernel
theorem dX7_formula_35 : decode cX7_formula 35 = .ok (.invokestatic 159, 3) := by decide +kernel
theorem dX7_formula_38 : decode cX7_formula 38 = .ok (.areturn, 1) := by decide +kernel
theorem dX7_emit_0 : decode cX7_emit 0 = .ok (.aload_n 0, 1) := by decide +kernel
theorem dX7_emit_1 : decode cX7_emit 1 = .ok (.getfield 40, 3) := by decide +kernel
theorem dX7_emit_4 : decode cX7_emit 4 = .ok (.ifCond .lt 35, 3) := by decide +kernel
theorem dX7_emit_7 : decode cX7_emit 7 = .ok (.aload_n 0, 1) := by decide +kernel
theorem dX7_emit_8 : decode cX7_emit 8 = .ok (.getfield 40, 3) := by decide +kernel
theorem dX7_emit_11 : decode cX7_emit 11 = .ok (.aload_n 0, 1) := by decide +kernel
theorem dX7_emit_12 : decode cX7_emit 12 = .ok (.getfield 37, 3) := by decide +kernel
theorem dX7_emit_15 : decode cX7_emit 15 = .ok (.arraylength, 1) := by decide +kernel
theorem dX7_emit_16 : decode cX7_emit 16 = .ok (.if_icmp .ge 23, 3) := by decide +kernel
theorem dX7_emit_19 : decode cX7_emit 19 = .ok (.aload_n 0, 1) := by decide +kernel
theorem dX7_emit_20 : decode cX7_emit 20 = .ok (.getfield 37, 3) := by decide +kernel
theorem dX7_emit_23 : decode cX7_emit 23 = .ok (.aload_n 0, 1) := by decide +kernel
theorem dX7_emit_24 : decode cX7_emit 24 = .ok (.getfield 40, 3) := by decide +kernel
theorem dX7_emit_27 : decode cX7_emit 27 = .ok (.iload_n 1, 1) := by decide +kernel
theorem dX7_emit_28 : decode cX7_emit 28 = .ok (.iastore, 1) := by decide +kernel
theorem dX7_emit_29 : decode cX7_emit 29 = .ok (.aload_n 0, 1) := by decide +kernel
theorem dX7_emit_30 : decode cX7_emit 30 = .ok (.dup, 1) := by decide +kernel
theorem dX7_emit_31 : decode cX7_emit 31 = .ok (.getfield 40, 3) := by decide +kernel
theorem dX7_emit_34 : decode cX7_emit 34 = .ok (.iconst 1, 1) := by decide +kernel
theorem dX7_emit_35 : decode cX7_emit 35 = .ok (.iadd, 1) := by decide +kernel
theorem dX7_emit_36 : decode cX7_emit 36 = .ok (.putfield 40, 3) := by decide +kernel
theorem dX7_emit_39 : decode cX7_emit 39 = .ok (.return_, 1) := by decide +kernel
theorem dX7_readSum_0 : decode cX7_readSum 0 = .ok (.aload_n 0, 1) := by decide +kernel
theorem dX7_readSum_1 : decode cX7_readSum 1 = .ok (.iload_n 1, 1) := by decide +kernel
theorem dX7_readSum_2 : decode cX7_readSum 2 = .ok (.invokevirtual 165, 3) := by decide +kernel
theorem dX7_readSum_5 : decode cX7_readSum 5 = .ok (.iconst 0, 1) := by decide +kernel
theorem dX7_readSum_6 : decode cX7_readSum 6 = .ok (.istore_n 2, 1) := by decide +kernel
theorem dX7_readSum_7 : decode cX7_readSum 7 = .ok (.iload_n 2, 1) := by decide +kernel
theorem dX7_readSum_8 : decode cX7_readSum 8 = .ok (.aload_n 0, 1) := by decide +kernel
theorem dX7_readSum_9 : decode cX7_readSum 9 = .ok (.getfield 19, 3) := by decide +kernel
theorem dX7_readSum_12 : decode cX7_readSum 12 = .ok (.if_icmp .ge 58, 3) := by decide +kernel
theorem dX7_readSum_15 : decode cX7_readSum 15 = .ok (.aload_n 0, 1) := by decide +kernel
theorem dX7_readSum_16 : decode cX7_readSum 16 = .ok (.getfield 22, 3) := by decide +kernel
theorem dX7_readSum_19 : decode cX7_readSum 19 = .ok (.bipush 43, 2) := by decide +kernel
theorem dX7_readSum_21 : decode cX7_readSum 21 = .ok (.if_icmp .eq 12, 3) := by decide +kernel
theorem dX7_readSum_24 : decode cX7_readSum 24 = .ok (.aload_n 0, 1) := by decide +kernel
theorem dX7_readSum_25 : decode cX7_readSum 25 = .ok (.getfield 22, 3) := by decide +kernel
theorem dX7_readSum_28 : decode cX7_readSum 28 = .ok (.bipush 45, 2) := by decide +kernel
theorem dX7_readSum_30 : decode cX7_readSum 30 = .ok (.if_icmp .ne 40, 3) := by decide +kernel
theorem dX7_readSum_33 : decode cX7_readSum 33 = .ok (.aload_n 0, 1) := by decide +kernel
theorem dX7_readSum_34 : decode cX7_readSum 34 = .ok (.getfield 22, 3) := by decide +kernel
theorem dX7_readSum_37 : decode cX7_readSum 37 = .ok (.bipush 43, 2) := by decide +kernel
theorem dX7_readSum_39 : decode cX7_readSum 39 = .ok (.if_icmp .ne 8, 3) := by decide +kernel
theorem dX7_readSum_42 : decode cX7_readSum 42 = .ok (.bipush (-9), 2) := by decide +kernel
theorem dX7_readSum_44 : decode cX7_readSum 44 = .ok (.goto 5, 3) := by decide +kernel
theorem dX7_readSum_47 : decode cX7_readSum 47 = .ok (.bipush (-10), 2) := by decide +kernel
theorem dX7_readSum_49 : decode cX7_readSum 49 = .ok (.istore_n 3, 1) := by decide +kernel
theorem dX7_readSum_50 : decode cX7_readSum 50 = .ok (.aload_n 0, 1) := by decide +kernel
theorem dX7_readSum_51 : decode cX7_readSum 51 = .ok (.invokevirtual 48, 3) := by decide +kernel
theorem dX7_readSum_54 : decode cX7_readSum 54 = .ok (.aload_n 0, 1) := by decide +kernel
theorem dX7_readSum_55 : decode cX7_readSum 55 = .ok (.iload_n 1, 1) := by decide +kernel
theorem dX7_readSum_56 : decode cX7_readSum 56 = .ok (.invokevirtual 165, 3) := by decide +kernel
theorem dX7_readSum_59 : decode cX7_readSum 59 = .ok (.aload_n 0, 1) := by decide +kernel
theorem dX7_readSum_60 : decode cX7_readSum 60 = .ok (.iload_n 3, 1) := by decide +kernel
theorem dX7_readSum_61 : decode cX7_readSum 61 = .ok (.invokevirtual 168, 3) := by decide +kernel
theorem dX7_readSum_64 : decode cX7_readSum 64 = .ok (.iinc 2 1, 3) := by decide +kernel
theorem dX7_readSum_67 : decode cX7_readSum 67 = .ok (.goto (-60), 3) := by decide +kernel
theorem dX7_readSum_70 : decode cX7_readSum 70 = .ok (.return_, 1) := by decide +kernel
theorem dX7_readProduct_0 : decode cX7_readProduct 0 = .ok (.aload_n 0, 1) := by decide +kernel
theorem dX7_readProduct_1 : decode cX7_readProduct 1 = .ok (.iload_n 1, 1) := by decide +kernel
theorem dX7_readProduct_2 : decode cX7_readProduct 2 = .ok (.invokevirtual 171, 3) := by decide +kernel
theorem dX7_readProduct_5 : decode cX7_readProduct 5 = .ok (.iconst 0, 1) := by decide +kernel
theorem dX7_readProduct_6 : decode cX7_readProduct 6 = .ok (.istore_n 2, 1) := by decide +kernel
theorem dX7_readProduct_7 : decode cX7_readProduct 7 = .ok (.iload_n 2, 1) := by decide +kernel
theorem dX7_readProduct_8 : decode cX7_readProduct 8 = .ok (.aload_n 0, 1) := by decide +kernel
theorem dX7_readProduct_9 : decode cX7_readProduct 9 = .ok (.getfield 19, 3) := by decide +kernel
theorem dX7_readProduct_12 : decode cX7_readProduct 12 = .ok (.if_icmp .ge 58, 3) := by decide +kernel
theorem dX7_readProduct_15 : decode cX7_readProduct 15 = .ok (.aload_n 0, 1) := by decide +kernel
theorem dX7_readProduct_16 : decode cX7_readProduct 16 = .ok (.getfield 22, 3) := by decide +kernel
theorem dX7_readProduct_19 : decode cX7_readProduct 19 = .ok (.bipush 42, 2) := by decide +kernel
theorem dX7_readProduct_21 : decode cX7_readProduct 21 = .ok (.if_icmp .eq 12, 3) := by decide +kernel
theorem dX7_readProduct_24 : decode cX7_readProduct 24 = .ok (.aload_n 0, 1) := by decide +kernel
theorem dX7_readProduct_25 : decode cX7_readProduct 25 = .ok (.getfield 22, 3) := by decide +kernel
theorem dX7_readProduct_28 : decode cX7_readProduct 28 = .ok (.bipush 47, 2) := by decide +kernel
theorem dX7_readProduct_30 : decode cX7_readProduct 30 = .ok (.if_icmp .ne 40, 3) := by decide +kernel
theorem dX7_readProduct_33 : decode cX7_readProduct 33 = .ok (.aload_n 0, 1) := by decide +kernel
theorem dX7_readProduct_34 : decode cX7_readProduct 34 = .ok (.getfield 22, 3) := by decide +kernel
theorem dX7_readProduct_37 : decode cX7_readProduct 37 = .ok (.bipush 42, 2) := by decide +kernel
theorem dX7_readProduct_39 : decode cX7_readProduct 39 = .ok (.if_icmp .ne 8, 3) := by decide +kernel
theorem dX7_readProduct_42 : decode cX7_readProduct 42 = .ok (.bipush (-11), 2) := by decide +kernel
theorem dX7_readProduct_44 : decode cX7_readProduct 44 = .ok (.goto 5, 3) := by decide +kernel
theorem dX7_readProduct_47 : decode cX7_readProduct 47 = .ok (.bipush (-12), 2) := by decide +kernel
theorem dX7_readProduct_49 : decode cX7_readProduct 49 = .ok (.istore_n 3, 1) := by decide +kernel
theorem dX7_readProduct_50 : decode cX7_readProduct 50 = .ok (.aload_n 0, 1) := by decide +kernel
theorem dX7_readProduct_51 : decode cX7_readProduct 51 = .ok (.invokevirtual 48, 3) := by decide +kernel
theorem dX7_readProduct_54 : decode cX7_readProduct 54 = .ok (.aload_n 0, 1) := by decide +kernel
theorem dX7_readProduct_55 : decode cX7_readProduct 55 = .ok (.iload_n 1, 1) := by decide +kernel
theorem dX7_readProduct_56 : decode cX7_readProduct 56 = .ok (.invokevirtual 171, 3) := by decide +kernel
theorem dX7_readProduct_59 : decode cX7_readProduct 59 = .ok (.aload_n 0, 1) := by decide +kernel
theorem dX7_readProduct_60 : decode cX7_readProduct 60 = .ok (.iload_n 3, 1) := by decide +kernel
theorem dX7_readProduct_61 : decode cX7_readProduct 61 = .ok (.invokevirtual 168, 3) := by decide +kernel
theorem dX7_readProduct_64 : decode cX7_readProduct 64 = .ok (.iinc 2 1, 3) := by decide +kernel
theorem dX7_readProduct_67 : decode cX7_readProduct 67 = .ok (.goto (-60), 3) := by decide +kernel
theorem dX7_readProduct_70 : decode cX7_readProduct 70 = .ok (.return_, 1) := by decide +kernel
theorem dX7_readUnit_0 : decode cX7_readUnit 0 = .ok (.aload_n 0, 1) := by decide +kernel
theorem dX7_readUnit_1 : decode cX7_readUnit 1 = .ok (.getfield 22, 3) := by decide +kernel
theorem dX7_readUnit_4 : decode cX7_readUnit 4 = .ok (.bipush 48, 2) := by decide +kernel
theorem dX7_readUnit_6 : decode cX7_readUnit 6 = .ok (.if_icmp .ne 18, 3) := by decide +kernel
theorem dX7_readUnit_9 : decode cX7_readUnit 9 = .ok (.aload_n 0, 1) := by decide +kernel
theorem dX7_readUnit_10 : decode cX7_readUnit 10 = .ok (.aload_n 0, 1) := by decide +kernel
theorem dX7_readUnit_11 : decode cX7_readUnit 11 = .ok (.iconst 0, 1) := by decide +kernel
theorem dX7_readUnit_12 : decode cX7_readUnit 12 = .ok (.sipush 9999, 3) := by decide +kernel
theorem dX7_readUnit_15 : decode cX7_readUnit 15 = .ok (.invokevirtual 121, 3) := by decide +kernel
theorem dX7_readUnit_18 : decode cX7_readUnit 18 = .ok (.invokevirtual 168, 3) := by decide +kernel
theorem dX7_readUnit_21 : decode cX7_readUnit 21 = .ok (.goto 25, 3) := by decide +kernel
theorem dX7_readUnit_24 : decode cX7_readUnit 24 = .ok (.aload_n 0, 1) := by decide +kernel
theorem dX7_readUnit_25 : decode cX7_readUnit 25 = .ok (.getfield 22, 3) := by decide +kernel
theorem dX7_readUnit_28 : decode cX7_readUnit 28 = .ok (.bipush 40, 2) := by decide +kernel
theorem dX7_readUnit_30 : decode cX7_readUnit 30 = .ok (.if_icmp .ne 11, 3) := by decide +kernel
theorem dX7_readUnit_33 : decode cX7_readUnit 33 = .ok (.aload_n 0, 1) := by decide +kernel
theorem dX7_readUnit_34 : decode cX7_readUnit 34 = .ok (.iload_n 1, 1) := by decide +kernel
theorem dX7_readUnit_35 : decode cX7_readUnit 35 = .ok (.invokevirtual 174, 3) := by decide +kernel
theorem dX7_readUnit_38 : decode cX7_readUnit 38 = .ok (.goto 8, 3) := by decide +kernel
theorem dX7_readUnit_41 : decode cX7_readUnit 41 = .ok (.aload_n 0, 1) := by decide +kernel
theorem dX7_readUnit_42 : decode cX7_readUnit 42 = .ok (.iload_n 1, 1) := by decide +kernel
theorem dX7_readUnit_43 : decode cX7_readUnit 43 = .ok (.invokevirtual 177, 3) := by decide +kernel
theorem dX7_readUnit_46 : decode cX7_readUnit 46 = .ok (.return_, 1) := by decide +kernel
theorem dX7_readNamed_0 : decode cX7_readNamed 0 = .ok (.aload_n 0, 1) := by decide +kernel
theorem dX7_readNamed_1 : decode cX7_readNamed 1 = .ok (.ldc 180, 2) := by decide +kernel
theorem dX7_readNamed_3 : decode cX7_readNamed 3 = .ok (.invokevirtual 92, 3) := by decide +kernel
theorem dX7_readNamed_6 : decode cX7_readNamed 6 = .ok (.istore_n 2, 1) := by decide +kernel
theorem dX7_readNamed_7 : decode cX7_readNamed 7 = .ok (.iload_n 2, 1) := by decide +kernel
theorem dX7_readNamed_8 : decode cX7_readNamed 8 = .ok (.iconst (-1), 1) := by decide +kernel
theorem dX7_readNamed_9 : decode cX7_readNamed 9 = .ok (.if_icmp .ne 9, 3) := by decide +kernel
theorem dX7_readNamed_12 : decode cX7_readNamed 12 = .ok (.aload_n 0, 1) := by decide +kernel
theorem dX7_readNamed_13 : decode cX7_readNamed 13 = .ok (.iconst 1, 1) := by decide +kernel
theorem dX7_readNamed_14 : decode cX7_readNamed 14 = .ok (.invokevirtual 75, 3) := by decide +kernel
theorem dX7_readNamed_17 : decode cX7_readNamed 17 = .ok (.return_, 1) := by decide +kernel
theorem dX7_readNamed_18 : decode cX7_readNamed 18 = .ok (.aload_n 0, 1) := by decide +kernel
theorem dX7_readNamed_19 : decode cX7_readNamed 19 = .ok (.invokevirtual 48, 3) := by decide +kernel
theorem dX7_readNamed_22 : decode cX7_readNamed 22 = .ok (.iload_n 2, 1) := by decide +kernel
theorem dX7_readNamed_23 : decode cX7_readNamed 23 = .ok (.tableswitch 61 8 10 #[25, 39, 53], 25) := by decide +kernel
theorem dX7_readNamed_48 : decode cX7_readNamed 48 = .ok (.aload_n 0, 1) := by decide +kernel
theorem dX7_readNamed_49 : decode cX7_readNamed 49 = .ok (.iload_n 1, 1) := by decide +kernel
theorem dX7_readNamed_50 : decode cX7_readNamed 50 = .ok (.invokevirtual 182, 3) := by decide +kernel
theorem dX7_readNamed_53 : decode cX7_readNamed 53 = .ok (.aload_n 0, 1) := by decide +kernel
theorem dX7_readNamed_54 : decode cX7_readNamed 54 = .ok (.bipush (-13), 2) := by decide +kernel
theorem dX7_readNamed_56 : decode cX7_readNamed 56 = .ok (.invokevirtual 168, 3) := by decide +kernel
theorem dX7_readNamed_59 : decode cX7_readNamed 59 = .ok (.goto 32, 3) := by decide +kernel
theorem dX7_readNamed_62 : decode cX7_readNamed 62 = .ok (.aload_n 0, 1) := by decide +kernel
theorem dX7_readNamed_63 : decode cX7_readNamed 63 = .ok (.iload_n 1, 1) := by decide +kernel
theorem dX7_readNamed_64 : decode cX7_readNamed 64 = .ok (.invokevirtual 182, 3) := by decide +kernel
theorem dX7_readNamed_67 : decode cX7_readNamed 67 = .ok (.aload_n 0, 1) := by decide +kernel
theorem dX7_readNamed_68 : decode cX7_readNamed 68 = .ok (.bipush (-14), 2) := by decide +kernel
theorem dX7_readNamed_70 : decode cX7_readNamed 70 = .ok (.invokevirtual 168, 3) := by decide +kernel
theorem dX7_readNamed_73 : decode cX7_readNamed 73 = .ok (.goto 18, 3) := by decide +kernel
theorem dX7_readNamed_76 : decode cX7_readNamed 76 = .ok (.aload_n 0, 1) := by decide +kernel
theorem dX7_readNamed_77 : decode cX7_readNamed 77 = .ok (.iload_n 1, 1) := by decide +kernel
theorem dX7_readNamed_78 : decode cX7_readNamed 78 = .ok (.invokevirtual 185, 3) := by decide +kernel
theorem dX7_readNamed_81 : decode cX7_readNamed 81 = .ok (.goto 10, 3) := by decide +kernel
theorem dX7_readNamed_84 : decode cX7_readNamed 84 = .ok (.aload_n 0, 1) := by decide +kernel
theorem dX7_readNamed_85 : decode cX7_readNamed 85 = .ok (.iconst (-1), 1) := by decide +kernel
theorem dX7_readNamed_86 : decode cX7_readNamed 86 = .ok (.iload_n 2, 1) := by decide +kernel
theorem dX7_readNamed_87 : decode cX7_readNamed 87 = .ok (.isub, 1) := by decide +kernel
theorem dX7_readNamed_88 : decode cX7_readNamed 88 = .ok (.invokevirtual 168, 3) := by decide +kernel
theorem dX7_readNamed_91 : decode cX7_readNamed 91 = .ok (.return_, 1) := by decide +kernel
theorem dX7_openBracket_0 : decode cX7_openBracket 0 = .ok (.aload_n 0, 1) := by decide +kernel
theorem dX7_openBracket_1 : decode cX7_openBracket 1 = .ok (.getfield 22, 3) := by decide +kernel
theorem dX7_openBracket_4 : decode cX7_openBracket 4 = .ok (.bipush 40, 2) := by decide +kernel
theorem dX7_openBracket_6 : decode cX7_openBracket 6 = .ok (.if_icmp .eq 11, 3) := by decide +kernel
theorem dX7_openBracket_9 : decode cX7_openBracket 9 = .ok (.aload_n 0, 1) := by decide +kernel
theorem dX7_openBracket_10 : decode cX7_openBracket 10 = .ok (.iconst 1, 1) := by decide +kernel
theorem dX7_openBracket_11 : decode cX7_openBracket 11 = .ok (.invokevirtual 75, 3) := by decide +kernel
theorem dX7_openBracket_14 : decode cX7_openBracket 14 = .ok (.goto 14, 3) := by decide +kernel
theorem dX7_openBracket_17 : decode cX7_openBracket 17 = .ok (.iload_n 1, 1) := by decide +kernel
theorem dX7_openBracket_18 : decode cX7_openBracket 18 = .ok (.bipush 8, 2) := by decide +kernel
theorem dX7_openBracket_20 : decode cX7_openBracket 20 = .ok (.if_icmp .lt 8, 3) := by decide +kernel
theorem dX7_openBracket_23 : decode cX7_openBracket 23 = .ok (.aload_n 0, 1) := by decide +kernel
theorem dX7_openBracket_24 : decode cX7_openBracket 24 = .ok (.iconst 3, 1) := by decide +kernel
theorem dX7_openBracket_25 : decode cX7_openBracket 25 = .ok (.invokevirtual 75, 3) := by decide +kernel
theorem dX7_openBracket_28 : decode cX7_openBracket 28 = .ok (.aload_n 0, 1) := by decide +kernel
theorem dX7_openBracket_29 : decode cX7_openBracket 29 = .ok (.invokevirtual 48, 3) := by decide +kernel
theorem dX7_openBracket_32 : decode cX7_openBracket 32 = .ok (.aload_n 0, 1) := by decide +kernel
theorem dX7_openBracket_33 : decode cX7_openBracket 33 = .ok (.getfield 31, 3) := by decide +kernel
theorem dX7_openBracket_36 : decode cX7_openBracket 36 = .ok (.ifCond .ne 7, 3) := by decide +kernel
theorem dX7_openBracket_39 : decode cX7_openBracket 39 = .ok (.iconst 1, 1) := by decide +kernel
theorem dX7_openBracket_40 : decode cX7_openBracket 40 = .ok (.goto 4, 3) := by decide +kernel
theorem dX7_openBracket_43 : decode cX7_openBracket 43 = .ok (.iconst 0, 1) := by decide +kernel
theorem dX7_openBracket_44 : decode cX7_openBracket 44 = .ok (.ireturn, 1) := by decide +kernel
theorem dX7_readInBrackets_0 : decode cX7_readInBrackets 0 = .ok (.aload_n 0, 1) := by decide +kernel
theorem dX7_readInBrackets_1 : decode cX7_readInBrackets 1 = .ok (.iload_n 1, 1) := by decide +kernel
theorem dX7_readInBrackets_2 : decode cX7_readInBrackets 2 = .ok (.invokevirtual 188, 3) := by decide +kernel
theorem dX7_readInBrackets_5 : decode cX7_readInBrackets 5 = .ok (.ifCond .eq 16, 3) := by decide +kernel
theorem dX7_readInBrackets_8 : decode cX7_readInBrackets 8 = .ok (.aload_n 0, 1) := by decide +kernel
theorem dX7_readInBrackets_9 : decode cX7_readInBrackets 9 = .ok (.iload_n 1, 1) := by decide +kernel
theorem dX7_readInBrackets_10 : decode cX7_readInBrackets 10 = .ok (.iconst 1, 1) := by decide +kernel
theorem dX7_readInBrackets_11 : decode cX7_readInBrackets 11 = .ok (.iadd, 1) := by decide +kernel
theorem dX7_readInBrackets_12 : decode cX7_readInBrackets 12 = .ok (.invokevirtual 102, 3) := by decide +kernel
theorem dX7_readInBrackets_15 : decode cX7_readInBrackets 15 = .ok (.aload_n 0, 1) := by decide +kernel
theorem dX7_readInBrackets_16 : decode cX7_readInBrackets 16 = .ok (.bipush 41, 2) := by decide +kernel
theorem dX7_readInBrackets_18 : decode cX7_readInBrackets 18 = .ok (.invokevirtual 55, 3) := by decide +kernel
theorem dX7_readInBrackets_21 : decode cX7_readInBrackets 21 = .ok (.return_, 1) := by decide +kernel
theorem dX7_readTwo_0 : decode cX7_readTwo 0 = .ok (.aload_n 0, 1) := by decide +kernel
theorem dX7_readTwo_1 : decode cX7_readTwo 1 = .ok (.iload_n 1, 1) := by decide +kernel
theorem dX7_readTwo_2 : decode cX7_readTwo 2 = .ok (.invokevirtual 188, 3) := by decide +kernel
theorem dX7_readTwo_5 : decode cX7_readTwo 5 = .ok (.ifCond .eq 29, 3) := by decide +kernel
theorem dX7_readTwo_8 : decode cX7_readTwo 8 = .ok (.aload_n 0, 1) := by decide +kernel
theorem dX7_readTwo_9 : decode cX7_readTwo 9 = .ok (.iload_n 1, 1) := by decide +kernel
theorem dX7_readTwo_10 : decode cX7_readTwo 10 = .ok (.iconst 1, 1) := by decide +kernel
theorem dX7_readTwo_11 : decode cX7_readTwo 11 = .ok (.iadd, 1) := by decide +kernel
theorem dX7_readTwo_12 : decode cX7_readTwo 12 = .ok (.invokevirtual 102, 3) := by decide +kernel
theorem dX7_readTwo_15 : decode cX7_readTwo 15 = .ok (.aload_n 0, 1) := by decide +kernel
theorem dX7_readTwo_16 : decode cX7_readTwo 16 = .ok (.bipush 44, 2) := by decide +kernel
theorem dX7_readTwo_18 : decode cX7_readTwo 18 = .ok (.invokevirtual 55, 3) := by decide +kernel
theorem dX7_readTwo_21 : decode cX7_readTwo 21 = .ok (.aload_n 0, 1) := by decide +kernel
theorem dX7_readTwo_22 : decode cX7_readTwo 22 = .ok (.iload_n 1, 1) := by decide +kernel
theorem dX7_readTwo_23 : decode cX7_readTwo 23 = .ok (.iconst 1, 1) := by decide +kernel
theorem dX7_readTwo_24 : decode cX7_readTwo 24 = .ok (.iadd, 1) := by decide +kernel
theorem dX7_readTwo_25 : decode cX7_readTwo 25 = .ok (.invokevirtual 102, 3) := by decide +kernel
theorem dX7_readTwo_28 : decode cX7_readTwo 28 = .ok (.aload_n 0, 1) := by decide +kernel
theorem dX7_readTwo_29 : decode cX7_readTwo 29 = .ok (.bipush 41, 2) := by decide +kernel
theorem dX7_readTwo_31 : decode cX7_readTwo 31 = .ok (.invokevirtual 55, 3) := by decide +kernel
theorem dX7_readTwo_34 : decode cX7_readTwo 34 = .ok (.return_, 1) := by decide +kernel
theorem dX7_readIf_0 : decode cX7_readIf 0 = .ok (.aload_n 0, 1) := by decide +kernel
theorem dX7_readIf_1 : decode cX7_readIf 1 = .ok (.iload_n 1, 1) := by decide +kernel
theorem dX7_readIf_2 : decode cX7_readIf 2 = .ok (.invokevirtual 188, 3) := by decide +kernel
theorem dX7_readIf_5 : decode cX7_readIf 5 = .ok (.ifCond .eq 59, 3) := by decide +kernel
theorem dX7_readIf_8 : decode cX7_readIf 8 = .ok (.aload_n 0, 1) := by decide +kernel
theorem dX7_readIf_9 : decode cX7_readIf 9 = .ok (.iload_n 1, 1) := by decide +kernel
theorem dX7_readIf_10 : decode cX7_readIf 10 = .ok (.iconst 1, 1) := by decide +kernel
theorem dX7_readIf_11 : decode cX7_readIf 11 = .ok (.iadd, 1) := by decide +kernel
theorem dX7_readIf_12 : decode cX7_readIf 12 = .ok (.invokevirtual 102, 3) := by decide +kernel
theorem dX7_readIf_15 : decode cX7_readIf 15 = .ok (.aload_n 0, 1) := by decide +kernel
theorem dX7_readIf_16 : decode cX7_readIf 16 = .ok (.invokevirtual 191, 3) := by decide +kernel
theorem dX7_readIf_19 : decode cX7_readIf 19 = .ok (.istore_n 2, 1) := by decide +kernel
theorem dX7_readIf_20 : decode cX7_readIf 20 = .ok (.aload_n 0, 1) := by decide +kernel
theorem dX7_readIf_21 : decode cX7_readIf 21 = .ok (.iload_n 1, 1) := by decide +kernel
theorem dX7_readIf_22 : decode cX7_readIf 22 = .ok (.iconst 1, 1) := by decide +kernel
theorem dX7_readIf_23 : decode cX7_readIf 23 = .ok (.iadd, 1) := by decide +kernel
theorem dX7_readIf_24 : decode cX7_readIf 24 = .ok (.invokevirtual 102, 3) := by decide +kernel
theorem dX7_readIf_27 : decode cX7_readIf 27 = .ok (.aload_n 0, 1) := by decide +kernel
theorem dX7_readIf_28 : decode cX7_readIf 28 = .ok (.bipush 44, 2) := by decide +kernel
theorem dX7_readIf_30 : decode cX7_readIf 30 = .ok (.invokevirtual 55, 3) := by decide +kernel
theorem dX7_readIf_33 : decode cX7_readIf 33 = .ok (.aload_n 0, 1) := by decide +kernel
theorem dX7_readIf_34 : decode cX7_readIf 34 = .ok (.iload_n 1, 1) := by decide +kernel
theorem dX7_readIf_35 : decode cX7_readIf 35 = .ok (.iconst 1, 1) := by decide +kernel
theorem dX7_readIf_36 : decode cX7_readIf 36 = .ok (.iadd, 1) := by decide +kernel
theorem dX7_readIf_37 : decode cX7_readIf 37 = .ok (.invokevirtual 102, 3) := by decide +kernel
theorem dX7_readIf_40 : decode cX7_readIf 40 = .ok (.aload_n 0, 1) := by decide +kernel
theorem dX7_readIf_41 : decode cX7_readIf 41 = .ok (.bipush 44, 2) := by decide +kernel
theorem dX7_readIf_43 : decode cX7_readIf 43 = .ok (.invokevirtual 55, 3) := by decide +kernel
theorem dX7_readIf_46 : decode cX7_readIf 46 = .ok (.aload_n 0, 1) := by decide +kernel
theorem dX7_readIf_47 : decode cX7_readIf 47 = .ok (.iload_n 1, 1) := by decide +kernel
theorem dX7_readIf_48 : decode cX7_readIf 48 = .ok (.iconst 1, 1) := by decide +kernel
theorem dX7_readIf_49 : decode cX7_readIf 49 = .ok (.iadd, 1) := by decide +kernel
theorem dX7_readIf_50 : decode cX7_readIf 50 = .ok (.invokevirtual 102, 3) := by decide +kernel
theorem dX7_readIf_53 : decode cX7_readIf 53 = .ok (.aload_n 0, 1) := by decide +kernel
theorem dX7_readIf_54 : decode cX7_readIf 54 = .ok (.bipush 41, 2) := by decide +kernel
theorem dX7_readIf_56 : decode cX7_readIf 56 = .ok (.invokevirtual 55, 3) := by decide +kernel
theorem dX7_readIf_59 : decode cX7_readIf 59 = .ok (.aload_n 0, 1) := by decide +kernel
theorem dX7_readIf_60 : decode cX7_readIf 60 = .ok (.iload_n 2, 1) := by decide +kernel
theorem dX7_readIf_61 : decode cX7_readIf 61 = .ok (.invokevirtual 168, 3) := by decide +kernel
theorem dX7_readIf_64 : decode cX7_readIf 64 = .ok (.return_, 1) := by decide +kernel
theorem dX7_takeRelation_0 : decode cX7_takeRelation 0 = .ok (.bipush (-17), 2) := by decide +kernel
theorem dX7_takeRelation_2 : decode cX7_takeRelation 2 = .ok (.istore_n 1, 1) := by decide +kernel
theorem dX7_takeRelation_3 : decode cX7_takeRelation 3 = .ok (.aload_n 0, 1) := by decide +kernel
theorem dX7_takeRelation_4 : decode cX7_takeRelation 4 = .ok (.getfield 22, 3) := by decide +kernel
theorem dX7_takeRelation_7 : decode cX7_takeRelation 7 = .ok (.bipush 60, 2) := by decide +kernel
theorem dX7_takeRelation_9 : decode cX7_takeRelation 9 = .ok (.if_icmp .ne 9, 3) := by decide +kernel
theorem dX7_takeRelation_12 : decode cX7_takeRelation 12 = .ok (.bipush (-15), 2) := by decide +kernel
theorem dX7_takeRelation_14 : decode cX7_takeRelation 14 = .ok (.istore_n 1, 1) := by decide +kernel
theorem dX7_takeRelation_15 : decode cX7_takeRelation 15 = .ok (.goto 32, 3) := by decide +kernel
theorem dX7_takeRelation_18 : decode cX7_takeRelation 18 = .ok (.aload_n 0, 1) := by decide +kernel
theorem dX7_takeRelation_19 : decode cX7_takeRelation 19 = .ok (.getfield 22, 3) := by decide +kernel
theorem dX7_takeRelation_22 : decode cX7_takeRelation 22 = .ok (.bipush 62, 2) := by decide +kernel
theorem dX7_takeRelation_24 : decode cX7_takeRelation 24 = .ok (.if_icmp .ne 9, 3) := by decide +kernel
theorem dX7_takeRelation_27 : decode cX7_takeRelation 27 = .ok (.bipush (-16), 2) := by decide +kernel
theorem dX7_takeRelation_29 : decode cX7_takeRelation 29 = .ok (.istore_n 1, 1) := by decide +kernel
theorem dX7_takeRelation_30 : decode cX7_takeRelation 30 = .ok (.goto 17, 3) := by decide +kernel
theorem dX7_takeRelation_33 : decode cX7_takeRelation 33 = .ok (.aload_n 0, 1) := by decide +kernel
theorem dX7_takeRelation_34 : decode cX7_takeRelation 34 = .ok (.getfield 22, 3) := by decide +kernel
theorem dX7_takeRelation_37 : decode cX7_takeRelation 37 = .ok (.bipush 61, 2) := by decide +kernel
theorem dX7_takeRelation_39 : decode cX7_takeRelation 39 = .ok (.if_icmp .eq 8, 3) := by decide +kernel
theorem dX7_takeRelation_42 : decode cX7_takeRelation 42 = .ok (.aload_n 0, 1) := by decide +kernel
theorem dX7_takeRelation_43 : decode cX7_takeRelation 43 = .ok (.iconst 1, 1) := by decide +kernel
theorem dX7_takeRelation_44 : decode cX7_takeRelation 44 = .ok (.invokevirtual 75, 3) := by decide +kernel
theorem dX7_takeRelation_47 : decode cX7_takeRelation 47 = .ok (.aload_n 0, 1) := by decide +kernel
theorem dX7_takeRelation_48 : decode cX7_takeRelation 48 = .ok (.invokevirtual 48, 3) := by decide +kernel
theorem dX7_takeRelation_51 : decode cX7_takeRelation 51 = .ok (.iload_n 1, 1) := by decide +kernel
theorem dX7_takeRelation_52 : decode cX7_takeRelation 52 = .ok (.ireturn, 1) := by decide +kernel
theorem dX8_init_0 : decode cX8_init 0 = .ok (.aload_n 0, 1) := by decide +kernel
theorem dX8_init_1 : decode cX8_init 1 = .ok (.invokespecial 3, 3) := by decide +kernel
theorem dX8_init_4 : decode cX8_init 4 = .ok (.aload_n 0, 1) := by decide +kernel
theorem dX8_init_5 : decode cX8_init 5 = .ok (.iconst (-1), 1) := by decide +kernel
theorem dX8_init_6 : decode cX8_init 6 = .ok (.putfield 9, 3) := by decide +kernel
theorem dX8_init_9 : decode cX8_init 9 = .ok (.aload_n 0, 1) := by decide +kernel
theorem dX8_init_10 : decode cX8_init 10 = .ok (.iload_n 1, 1) := by decide +kernel
theorem dX8_init_11 : decode cX8_init 11 = .ok (.putfield 15, 3) := by decide +kernel
theorem dX8_init_14 : decode cX8_init 14 = .ok (.return_, 1) := by decide +kernel
theorem dX9_init_0 : decode cX9_init 0 = .ok (.aload_n 0, 1) := by decide +kernel
theorem dX9_init_1 : decode cX9_init 1 = .ok (.invokespecial 3, 3) := by decide +kernel
theorem dX9_init_4 : decode cX9_init 4 = .ok (.aload_n 0, 1) := by decide +kernel
theorem dX9_init_5 : decode cX9_init 5 = .ok (.bipush 8, 2) := by decide +kernel
theorem dX9_init_7 : decode cX9_init 7 = .ok (.newarray .int, 2) := by decide +kernel
theorem dX9_init_9 : decode cX9_init 9 = .ok (.putfield 11, 3) := by decide +kernel
theorem dX9_init_12 : decode cX9_init 12 = .ok (.aload_n 0, 1) := by decide +kernel
theorem dX9_init_13 : decode cX9_init 13 = .ok (.bipush 8, 2) := by decide +kernel
theorem dX9_init_15 : decode cX9_init 15 = .ok (.newarray .int, 2) := by decide +kernel
theorem dX9_init_17 : decode cX9_init 17 = .ok (.putfield 15, 3) := by decide +kernel
theorem dX9_init_20 : decode cX9_init 20 = .ok (.aload_n 0, 1) := by decide +kernel
theorem dX9_init_21 : decode cX9_init 21 = .ok (.iconst 0, 1) := by decide +kernel
theorem dX9_init_22 : decode cX9_init 22 = .ok (.putfield 18, 3) := by decide +kernel
theorem dX9_init_25 : decode cX9_init 25 = .ok (.return_, 1) := by decide +kernel
theorem dX9_add_0 : decode cX9_add 0 = .ok (.aload_n 0, 1) := by decide +kernel
theorem dX9_add_1 : decode cX9_add 1 = .ok (.getfield 18, 3) := by decide +kernel
theorem dX9_add_4 : decode cX9_add 4 = .ok (.ifCond .lt 12, 3) := by decide +kernel
theorem dX9_add_7 : decode cX9_add 7 = .ok (.aload_n 0, 1) := by decide +kernel
theorem dX9_add_8 : decode cX9_add 8 = .ok (.getfield 18, 3) := by decide +kernel
theorem dX9_add_11 : decode cX9_add 11 = .ok (.bipush 8, 2) := by decide +kernel
theorem dX9_add_13 : decode cX9_add 13 = .ok (.if_icmp .lt 5, 3) := by decide +kernel
theorem dX9_add_16 : decode cX9_add 16 = .ok (.iconst (-1), 1) := by decide +kernel
theorem dX9_add_17 : decode cX9_add 17 = .ok (.ireturn, 1) := by decide +kernel
theorem dX9_add_18 : decode cX9_add 18 = .ok (.aload_n 0, 1) := by decide +kernel
theorem dX9_add_19 : decode cX9_add 19 = .ok (.getfield 11, 3) := by decide +kernel
theorem dX9_add_22 : decode cX9_add 22 = .ok (.aload_n 0, 1) := by decide +kernel
theorem dX9_add_23 : decode cX9_add 23 = .ok (.getfield 18, 3) := by decide +kernel
theorem dX9_add_26 : decode cX9_add 26 = .ok (.iload_n 1, 1) := by decide +kernel
theorem dX9_add_27 : decode cX9_add 27 = .ok (.iastore, 1) := by decide +kernel
theorem dX9_add_28 : decode cX9_add 28 = .ok (.aload_n 0, 1) := by decide +kernel
theorem dX9_add_29 : decode cX9_add 29 = .ok (.getfield 15, 3) := by decide +kernel
theorem dX9_add_32 : decode cX9_add 32 = .ok (.aload_n 0, 1) := by decide +kernel
theorem dX9_add_33 : decode cX9_add 33 = .ok (.getfield 18, 3) := by decide +kernel
theorem dX9_add_36 : decode cX9_add 36 = .ok (.iload_n 2, 1) := by decide +kernel
theorem dX9_add_37 : decode cX9_add 37 = .ok (.iastore, 1) := by decide +kernel
theorem dX9_add_38 : decode cX9_add 38 = .ok (.aload_n 0, 1) := by decide +kernel
theorem dX9_add_39 : decode cX9_add 39 = .ok (.dup, 1) := by decide +kernel
theorem dX9_add_40 : decode cX9_add 40 = .ok (.getfield 18, 3) := by decide +kernel
theorem dX9_add_43 : decode cX9_add 43 = .ok (.iconst 1, 1) := by decide +kernel
theorem dX9_add_44 : decode cX9_add 44 = .ok (.iadd, 1) := by decide +kernel
theorem dX9_add_45 : decode cX9_add 45 = .ok (.putfield 18, 3) := by decide +kernel
theorem dX9_add_48 : decode cX9_add 48 = .ok (.aload_n 0, 1) := by decide +kernel
theorem dX9_add_49 : decode cX9_add 49 = .ok (.getfield 18, 3) := by decide +kernel
theorem dX9_add_52 : decode cX9_add 52 = .ok (.ireturn, 1) := by decide +kernel
theorem dX9_field_0 : decode cX9_field 0 = .ok (.aload_n 0, 1) := by decide +kernel
theorem dX9_field_1 : decode cX9_field 1 = .ok (.getfield 18, 3) := by decide +kernel
theorem dX9_field_4 : decode cX9_field 4 = .ok (.ifCond .ne 5, 3) := by decide +kernel
theorem dX9_field_7 : decode cX9_field 7 = .ok (.iconst (-1), 1) := by decide +kernel
theorem dX9_field_8 : decode cX9_field 8 = .ok (.ireturn, 1) := by decide +kernel
theorem dX9_field_9 : decode cX9_field 9 = .ok (.aload_n 0, 1) := by decide +kernel
theorem dX9_field_10 : decode cX9_field 10 = .ok (.invokevirtual 22, 3) := by decide +kernel
theorem dX9_field_13 : decode cX9_field 13 = .ok (.istore_n 2, 1) := by decide +kernel
theorem dX9_field_14 : decode cX9_field 14 = .ok (.iload_n 1, 1) := by decide +kernel
theorem dX9_field_15 : decode cX9_field 15 = .ok (.tableswitch 39 0 2 #[25, 27, 33], 25) := by decide +kernel
theorem dX9_field_40 : decode cX9_field 40 = .ok (.iload_n 2, 1) := by decide +kernel
theorem dX9_field_41 : decode cX9_field 41 = .ok (.ireturn, 1) := by decide +kernel
theorem dX9_field_42 : decode cX9_field 42 = .ok (.aload_n 0, 1) := by decide +kernel
theorem dX9_field_43 : decode cX9_field 43 = .ok (.iload_n 2, 1) := by decide +kernel
theorem dX9_field_44 : decode cX9_field 44 = .ok (.invokevirtual 26, 3) := by decide +kernel
theorem dX9_field_47 : decode cX9_field 47 = .ok (.ireturn, 1) := by decide +kernel
theorem dX9_field_48 : decode cX9_field 48 = .ok (.aload_n 0, 1) := by decide +kernel
theorem dX9_field_49 : decode cX9_field 49 = .ok (.iload_n 2, 1) := by decide +kernel
theorem dX9_field_50 : decode cX9_field 50 = .ok (.invokevirtual 30, 3) := by decide +kernel
theorem dX9_field_53 : decode cX9_field 53 = .ok (.ireturn, 1) := by decide +kernel
theorem dX9_field_54 : decode cX9_field 54 = .ok (.aload_n 0, 1) := by decide +kernel
theorem dX9_field_55 : decode cX9_field 55 = .ok (.iload_n 2, 1) := by decide +kernel
theorem dX9_field_56 : decode cX9_field 56 = .ok (.invokevirtual 33, 3) := by decide +kernel
theorem dX9_field_59 : decode cX9_field 59 = .ok (.ireturn, 1) := by decide +kernel
theorem dX9_bears_0 : decode cX9_bears 0 = .ok (.iload_n 1, 1) := by decide +kernel
theorem dX9_bears_1 : decode cX9_bears 1 = .ok (.ifCond .lt 33, 3) := by decide +kernel
theorem dX9_bears_4 : decode cX9_bears 4 = .ok (.iload_n 1, 1) := by decide +kernel
theorem dX9_bears_5 : decode cX9_bears 5 = .ok (.bipush 8, 2) := by decide +kernel
theorem dX9_bears_7 : decode cX9_bears 7 = .ok (.if_icmp .ge 27, 3) := by decide +kernel
theorem dX9_bears_10 : decode cX9_bears 10 = .ok (.aload_n 0, 1) := by decide +kernel
theorem dX9_bears_11 : decode cX9_bears 11 = .ok (.getfield 11, 3) := by decide +kernel
theorem dX9_bears_14 : decode cX9_bears 14 = .ok (.iload_n 1, 1) := by decide +kernel
theorem dX9_bears_15 : decode cX9_bears 15 = .ok (.iaload, 1) := by decide +kernel
theorem dX9_bears_16 : decode cX9_bears 16 = .ok (.iload_n 2, 1) := by decide +kernel
theorem dX9_bears_17 : decode cX9_bears 17 = .ok (.if_icmp .gt 17, 3) := by decide +kernel
theorem dX9_bears_20 : decode cX9_bears 20 = .ok (.iload_n 2, 1) := by decide +kernel
theorem dX9_bears_21 : decode cX9_bears 21 = .ok (.aload_n 0, 1) := by decide +kernel
theorem dX9_bears_22 : decode cX9_bears 22 = .ok (.getfield 15, 3) := by decide +kernel
theorem dX9_bears_25 : decode cX9_bears 25 = .ok (.iload_n 1, 1) := by decide +kernel
theorem dX9_bears_26 : decode cX9_bears 26 = .ok (.iaload, 1) := by decide +kernel
theorem dX9_bears_27 : decode cX9_bears 27 = .ok (.if_icmp .gt 7, 3) := by decide +kernel
theorem dX9_bears_30 : decode cX9_bears 30 = .ok (.iconst 1, 1) := by decide +kernel
theorem dX9_bears_31 : decode cX9_bears 31 = .ok (.goto 4, 3) := by decide +kernel
theorem dX9_bears_34 : decode cX9_bears 34 = .ok (.iconst 0, 1) := by decide +kernel
theorem dX9_bears_35 : decode cX9_bears 35 = .ok (.ireturn, 1) := by decide +kernel
theorem dX9_bearers_0 : decode cX9_bearers 0 = .ok (.iconst 0, 1) := by decide +kernel
theorem dX9_bearers_1 : decode cX9_bearers 1 = .ok (.istore_n 2, 1) := by decide +kernel
theorem dX9_bearers_2 : decode cX9_bearers 2 = .ok (.iconst 0, 1) := by decide +kernel
theorem dX9_bearers_3 : decode cX9_bearers 3 = .ok (.istore_n 3, 1) := by decide +kernel
theorem dX9_bearers_4 : decode cX9_bearers 4 = .ok (.iload_n 3, 1) := by decide +kernel
theorem dX9_bearers_5 : decode cX9_bearers 5 = .ok (.aload_n 0, 1) := by decide +kernel
theorem dX9_bearers_6 : decode cX9_bearers 6 = .ok (.getfield 18, 3) := by decide +kernel
theorem dX9_bearers_9 : decode cX9_bearers 9 = .ok (.if_icmp .ge 21, 3) := by decide +kernel
theorem dX9_bearers_12 : decode cX9_bearers 12 = .ok (.aload_n 0, 1) := by decide +kernel
theorem dX9_bearers_13 : decode cX9_bearers 13 = .ok (.iload_n 3, 1) := by decide +kernel
theorem dX9_bearers_14 : decode cX9_bearers 14 = .ok (.iload_n 1, 1) := by decide +kernel
theorem dX9_bearers_15 : decode cX9_bearers 15 = .ok (.invokevirtual 36, 3) := by decide +kernel
theorem dX9_bearers_18 : decode cX9_bearers 18 = .ok (.ifCond .eq 6, 3) := by decide +kernel
theorem dX9_bearers_21 : decode cX9_bearers 21 = .ok (.iinc 2 1, 3) := by decide +kernel
theorem dX9_bearers_24 : decode cX9_bearers 24 = .ok (.iinc 3 1, 3) := by decide +kernel
theorem dX9_bearers_27 : decode cX9_bearers 27 = .ok (.goto (-23), 3) := by decide +kernel
theorem dX9_bearers_30 : decode cX9_bearers 30 = .ok (.iload_n 2, 1) := by decide +kernel
theorem dX9_bearers_31 : decode cX9_bearers 31 = .ok (.ireturn, 1) := by decide +kernel
theorem dX9_mostBorne_0 : decode cX9_mostBorne 0 = .ok (.iconst 0, 1) := by decide +kernel
theorem dX9_mostBorne_1 : decode cX9_mostBorne 1 = .ok (.istore_n 1, 1) := by decide +kernel
theorem dX9_mostBorne_2 : decode cX9_mostBorne 2 = .ok (.iconst 0, 1) := by decide +kernel
theorem dX9_mostBorne_3 : decode cX9_mostBorne 3 = .ok (.istore_n 2, 1) := by decide +kernel
theorem dX9_mostBorne_4 : decode cX9_mostBorne 4 = .ok (.iconst 0, 1) := by decide +kernel
theorem dX9_mostBorne_5 : decode cX9_mostBorne 5 = .ok (.istore_n 3, 1) := by decide +kernel
theorem dX9_mostBorne_6 : decode cX9_mostBorne 6 = .ok (.iload_n 3, 1) := by decide +kernel
theorem dX9_mostBorne_7 : decode cX9_mostBorne 7 = .ok (.aload_n 0, 1) := by decide +kernel
theorem dX9_mostBorne_8 : decode cX9_mostBorne 8 = .ok (.getfield 18, 3) := by decide +kernel
theorem dX9_mostBorne_11 : decode cX9_mostBorne 11 = .ok (.if_icmp .ge 59, 3) := by decide +kernel
theorem dX9_mostBorne_14 : decode cX9_mostBorne 14 = .ok (.iload_n 3, 1) := by decide +kernel
theorem dX9_mostBorne_15 : decode cX9_mostBorne 15 = .ok (.bipush 8, 2) := by decide +kernel
theorem dX9_mostBorne_17 : decode cX9_mostBorne 17 = .ok (.if_icmp .ge 53, 3) := by decide +kernel
theorem dX9_mostBorne_20 : decode cX9_mostBorne 20 = .ok (.aload_n 0, 1) := by decide +kernel
theorem dX9_mostBorne_21 : decode cX9_mostBorne 21 = .ok (.aload_n 0, 1) := by decide +kernel
theorem dX9_mostBorne_22 : decode cX9_mostBorne 22 = .ok (.getfield 11, 3) := by decide +kernel
theorem dX9_mostBorne_25 : decode cX9_mostBorne 25 = .ok (.iload_n 3, 1) := by decide +kernel
theorem dX9_mostBorne_26 : decode cX9_mostBorne 26 = .ok (.iaload, 1) := by decide +kernel
theorem dX9_mostBorne_27 : decode cX9_mostBorne 27 = .ok (.invokevirtual 30, 3) := by decide +kernel
theorem dX9_mostBorne_30 : decode cX9_mostBorne 30 = .ok (.istore 4, 2) := by decide +kernel
theorem dX9_mostBorne_32 : decode cX9_mostBorne 32 = .ok (.iload 4, 2) := by decide +kernel
theorem dX9_mostBorne_34 : decode cX9_mostBorne 34 = .ok (.iload_n 2, 1) := by decide +kernel
theorem dX9_mostBorne_35 : decode cX9_mostBorne 35 = .ok (.if_icmp .gt 19, 3) := by decide +kernel
theorem dX9_mostBorne_38 : decode cX9_mostBorne 38 = .ok (.iload 4, 2) := by decide +kernel
theorem dX9_mostBorne_40 : decode cX9_mostBorne 40 = .ok (.iload_n 2, 1) := by decide +kernel
theorem dX9_mostBorne_41 : decode cX9_mostBorne 41 = .ok (.if_icmp .ne 23, 3) := by decide +kernel
theorem dX9_mostBorne_44 : decode cX9_mostBorne 44 = .ok (.aload_n 0, 1) := by decide +kernel
theorem dX9_mostBorne_45 : decode cX9_mostBorne 45 = .ok (.getfield 11, 3) := by decide +kernel
theorem dX9_mostBorne_48 : decode cX9_mostBorne 48 = .ok (.iload_n 3, 1) := by decide +kernel
theorem dX9_mostBorne_49 : decode cX9_mostBorne 49 = .ok (.iaload, 1) := by decide +kernel
theorem dX9_mostBorne_50 : decode cX9_mostBorne 50 = .ok (.iload_n 1, 1) := by decide +kernel
theorem dX9_mostBorne_51 : decode cX9_mostBorne 51 = .ok (.if_icmp .ge 13, 3) := by decide +kernel
theorem dX9_mostBorne_54 : decode cX9_mostBorne 54 = .ok (.aload_n 0, 1) := by decide +kernel
theorem dX9_mostBorne_55 : decode cX9_mostBorne 55 = .ok (.getfield 11, 3) := by decide +kernel
theorem dX9_mostBorne_58 : decode cX9_mostBorne 58 = .ok (.iload_n 3, 1) := by decide +kernel
theorem dX9_mostBorne_59 : decode cX9_mostBorne 59 = .ok (.iaload, 1) := by decide +kernel
theorem dX9_mostBorne_60 : decode cX9_mostBorne 60 = .ok (.istore_n 1, 1) := by decide +kernel
theorem dX9_mostBorne_61 : decode cX9_mostBorne 61 = .ok (.iload 4, 2) := by decide +kernel
theorem dX9_mostBorne_63 : decode cX9_mostBorne 63 = .ok (.istore_n 2, 1) := by decide +kernel
theorem dX9_mostBorne_64 : decode cX9_mostBorne 64 = .ok (.iinc 3 1, 3) := by decide +kernel
theorem dX9_mostBorne_67 : decode cX9_mostBorne 67 = .ok (.goto (-61), 3) := by decide +kernel
theorem dX9_mostBorne_70 : decode cX9_mostBorne 70 = .ok (.iload_n 1, 1) := by decide +kernel
theorem dX9_mostBorne_71 : decode cX9_mostBorne 71 = .ok (.ireturn, 1) := by decide +kernel
theorem dX9_lastAlike_0 : decode cX9_lastAlike 0 = .ok (.ldc 40, 2) := by decide +kernel
theorem dX9_lastAlike_2 : decode cX9_lastAlike 2 = .ok (.istore_n 2, 1) := by decide +kernel
theorem dX9_lastAlike_3 : decode cX9_lastAlike 3 = .ok (.iconst 0, 1) := by decide +kernel
theorem dX9_lastAlike_4 : decode cX9_lastAlike 4 = .ok (.istore_n 3, 1) := by decide +kernel
theorem dX9_lastAlike_5 : decode cX9_lastAlike 5 = .ok (.iload_n 3, 1) := by decide +kernel
theorem dX9_lastAlike_6 : decode cX9_lastAlike 6 = .ok (.aload_n 0, 1) := by decide +kernel
theorem dX9_lastAlike_7 : decode cX9_lastAlike 7 = .ok (.getfield 18, 3) := by decide +kernel
theorem dX9_lastAlike_10 : decode cX9_lastAlike 10 = .ok (.if_icmp .ge 35, 3) := by decide +kernel
theorem dX9_lastAlike_13 : decode cX9_lastAlike 13 = .ok (.iload_n 3, 1) := by decide +kernel
theorem dX9_lastAlike_14 : decode cX9_lastAlike 14 = .ok (.bipush 8, 2) := by decide +kernel
theorem dX9_lastAlike_16 : decode cX9_lastAlike 16 = .ok (.if_icmp .ge 29, 3) := by decide +kernel
theorem dX9_lastAlike_19 : decode cX9_lastAlike 19 = .ok (.aload_n 0, 1) := by decide +kernel
theorem dX9_lastAlike_20 : decode cX9_lastAlike 20 = .ok (.iload_n 3, 1) := by decide +kernel
theorem dX9_lastAlike_21 : decode cX9_lastAlike 21 = .ok (.iload_n 1, 1) := by decide +kernel
theorem dX9_lastAlike_22 : decode cX9_lastAlike 22 = .ok (.invokevirtual 36, 3) := by decide +kernel
theorem dX9_lastAlike_25 : decode cX9_lastAlike 25 = .ok (.ifCond .eq 14, 3) := by decide +kernel
theorem dX9_lastAlike_28 : decode cX9_lastAlike 28 = .ok (.iload_n 2, 1) := by decide +kernel
theorem dX9_lastAlike_29 : decode cX9_lastAlike 29 = .ok (.aload_n 0, 1) := by decide +kernel
theorem dX9_lastAlike_30 : decode cX9_lastAlike 30 = .ok (.getfield 15, 3) := by decide +kernel
theorem dX9_lastAlike_33 : decode cX9_lastAlike 33 = .ok (.iload_n 3, 1) := by decide +kernel
theorem dX9_lastAlike_34 : decode cX9_lastAlike 34 = .ok (.iaload, 1) := by decide +kernel
theorem dX9_lastAlike_35 : decode cX9_lastAlike 35 = .ok (.invokestatic 41, 3) := by decide +kernel
theorem dX9_lastAlike_38 : decode cX9_lastAlike 38 = .ok (.istore_n 2, 1) := by decide +kernel
theorem dX9_lastAlike_39 : decode cX9_lastAlike 39 = .ok (.iinc 3 1, 3) := by decide +kernel
theorem dX9_lastAlike_42 : decode cX9_lastAlike 42 = .ok (.goto (-37), 3) := by decide +kernel
theorem dX9_lastAlike_45 : decode cX9_lastAlike 45 = .ok (.iload_n 2, 1) := by decide +kernel
theorem dX9_lastAlike_46 : decode cX9_lastAlike 46 = .ok (.ireturn, 1) := by decide +kernel
theorem dX9_rejected_0 : decode cX9_rejected 0 = .ok (.iconst 0, 1) := by decide +kernel
theorem dX9_rejected_1 : decode cX9_rejected 1 = .ok (.istore_n 2, 1) := by decide +kernel
theorem dX9_rejected_2 : decode cX9_rejected 2 = .ok (.iconst 0, 1) := by decide +kernel
theorem dX9_rejected_3 : decode cX9_rejected 3 = .ok (.istore_n 3, 1) := by decide +kernel
theorem dX9_rejected_4 : decode cX9_rejected 4 = .ok (.iload_n 3, 1) := by decide +kernel
theorem dX9_rejected_5 : decode cX9_rejected 5 = .ok (.aload_n 0, 1) := by decide +kernel
theorem dX9_rejected_6 : decode cX9_rejected 6 = .ok (.getfield 18, 3) := by decide +kernel
theorem dX9_rejected_9 : decode cX9_rejected 9 = .ok (.if_icmp .ge 30, 3) := by decide +kernel
theorem dX9_rejected_12 : decode cX9_rejected 12 = .ok (.iload_n 3, 1) := by decide +kernel
theorem dX9_rejected_13 : decode cX9_rejected 13 = .ok (.bipush 8, 2) := by decide +kernel
theorem dX9_rejected_15 : decode cX9_rejected 15 = .ok (.if_icmp .ge 24, 3) := by decide +kernel
theorem dX9_rejected_18 : decode cX9_rejected 18 = .ok (.aload_n 0, 1) := by decide +kernel
theorem dX9_rejected_19 : decode cX9_rejected 19 = .ok (.iload_n 3, 1) := by decide +kernel
theorem dX9_rejected_20 : decode cX9_rejected 20 = .ok (.iload_n 1, 1) := by decide +kernel
theorem dX9_rejected_21 : decode cX9_rejected 21 = .ok (.invokevirtual 36, 3) := by decide +kernel
theorem dX9_rejected_24 : decode cX9_rejected 24 = .ok (.ifCond .ne 9, 3) := by decide +kernel
theorem dX9_rejected_27 : decode cX9_rejected 27 = .ok (.iload_n 2, 1) := by decide +kernel
theorem dX9_rejected_28 : decode cX9_rejected 28 = .ok (.iconst 1, 1) := by decide +kernel
theorem dX9_rejected_29 : decode cX9_rejected 29 = .ok (.iload_n 3, 1) := by decide +kernel
theorem dX9_rejected_30 : decode cX9_rejected 30 = .ok (.ishl, 1) := by decide +kernel
theorem dX9_rejected_31 : decode cX9_rejected 31 = .ok (.ior, 1) := by decide +kernel
theorem dX9_rejected_32 : decode cX9_rejected 32 = .ok (.istore_n 2, 1) := by decide +kernel
theorem dX9_rejected_33 : decode cX9_rejected 33 = .ok (.iinc 3 1, 3) := by decide +kernel
theorem dX9_rejected_36 : decode cX9_rejected 36 = .ok (.goto (-32), 3) := by decide +kernel
theorem dX9_rejected_39 : decode cX9_rejected 39 = .ok (.iload_n 2, 1) := by decide +kernel
theorem dX9_rejected_40 : decode cX9_rejected 40 = .ok (.ireturn, 1) := by decide +kernel
theorem dX10_init_0 : decode cX10_init 0 = .ok (.aload_n 0, 1) := by decide +kernel
theorem dX10_init_1 : decode cX10_init 1 = .ok (.invokespecial 3, 3) := by decide +kernel
theorem dX10_init_4 : decode cX10_init 4 = .ok (.aload_n 0, 1) := by decide +kernel
theorem dX10_init_5 : decode cX10_init 5 = .ok (.bipush 64, 2) := by decide +kernel
theorem dX10_init_7 : decode cX10_init 7 = .ok (.newarray .int, 2) := by decide +kernel
theorem dX10_init_9 : decode cX10_init 9 = .ok (.putfield 9, 3) := by decide +kernel
theorem dX10_init_12 : decode cX10_init 12 = .ok (.return_, 1) := by decide +kernel
theorem dX10_of_0 : decode cX10_of 0 = .ok (.iconst 0, 1) := by decide +kernel
theorem dX10_of_1 : decode cX10_of 1 = .ok (.istore 5, 2) := by decide +kernel
theorem dX10_of_3 : decode cX10_of 3 = .ok (.iconst 0, 1) := by decide +kernel
theorem dX10_of_4 : decode cX10_of 4 = .ok (.istore 6, 2) := by decide +kernel
theorem dX10_of_6 : decode cX10_of 6 = .ok (.iload 6, 2) := by decide +kernel
theorem dX10_of_8 : decode cX10_of 8 = .ok (.aload_n 1, 1) := by decide +kernel
theorem dX10_of_9 : decode cX10_of 9 = .ok (.arraylength, 1) := by decide +kernel
theorem dX10_of_10 : decode cX10_of 10 = .ok (.if_icmp .ge 180, 3) := by decide +kernel
theorem dX10_of_13 : decode cX10_of 13 = .ok (.aload_n 1, 1) := by decide +kernel
theorem dX10_of_14 : decode cX10_of 14 = .ok (.iload 6, 2) := by decide +kernel
theorem dX10_of_16 : decode cX10_of 16 = .ok (.iaload, 1) := by decide +kernel
theorem dX10_of_17 : decode cX10_of 17 = .ok (.istore 7, 2) := by decide +kernel
theorem dX10_of_19 : decode cX10_of 19 = .ok (.iload 7, 2) := by decide +kernel
theorem dX10_of_21 : decode cX10_of 21 = .ok (.bipush (-8), 2) := by decide +kernel
theorem dX10_of_23 : decode cX10_of 23 = .ok (.if_icmp .lt 45, 3) := by decide +kernel
theorem dX10_of_26 : decode cX10_of 26 = .ok (.iload 5, 2) := by decide +kernel
theorem dX10_of_28 : decode cX10_of 28 = .ok (.aload_n 0, 1) := by decide +kernel
theorem dX10_of_29 : decode cX10_of 29 = .ok (.getfield 9, 3) := by decide +kernel
theorem dX10_of_32 : decode cX10_of 32 = .ok (.arraylength, 1) := by decide +kernel
theorem dX10_of_33 : decode cX10_of 33 = .ok (.if_icmp .ge 151, 3) := by decide +kernel
theorem dX10_of_36 : decode cX10_of 36 = .ok (.aload_n 0, 1) := by decide +kernel
theorem dX10_of_37 : decode cX10_of 37 = .ok (.getfield 9, 3) := by decide +kernel
theorem dX10_of_40 : decode cX10_of 40 = .ok (.iload 5, 2) := by decide +kernel
theorem dX10_of_42 : decode cX10_of 42 = .ok (.iload 7, 2) := by decide +kernel
theorem dX10_of_44 : decode cX10_of 44 = .ok (.ifCond .lt 8, 3) := by decide +kernel
theorem dX10_of_47 : decode cX10_of 47 = .ok (.iload 7, 2) := by decide +kernel
theorem dX10_of_49 : decode cX10_of 49 = .ok (.goto 12, 3) := by decide +kernel
theorem dX10_of_52 : decode cX10_of 52 = .ok (.iload 7, 2) := by decide +kernel
theorem dX10_of_54 : decode cX10_of 54 = .ok (.aload_n 2, 1) := by decide +kernel
theorem dX10_of_55 : decode cX10_of 55 = .ok (.iload_n 3, 1) := by decide +kernel
theorem dX10_of_56 : decode cX10_of 56 = .ok (.iload 4, 2) := by decide +kernel
theorem dX10_of_58 : decode cX10_of 58 = .ok (.invokestatic 15, 3) := by decide +kernel
theorem dX10_of_61 : decode cX10_of 61 = .ok (.iastore, 1) := by decide +kernel
theorem dX10_of_62 : decode cX10_of 62 = .ok (.iinc 5 1, 3) := by decide +kernel
theorem dX10_of_65 : decode cX10_of 65 = .ok (.goto 119, 3) := by decide +kernel
theorem dX10_of_68 : decode cX10_of 68 = .ok (.iload 7, 2) := by decide +kernel
theorem dX10_of_70 : decode cX10_of 70 = .ok (.bipush (-14), 2) := by decide +kernel
theorem dX10_of_72 : decode cX10_of 72 = .ok (.if_icmp .lt 45, 3) := by decide +kernel
theorem dX10_of_75 : decode cX10_of 75 = .ok (.iload 5, 2) := by decide +kernel
theorem dX10_of_77 : decode cX10_of 77 = .ok (.iconst 2, 1) := by decide +kernel
theorem dX10_of_78 : decode cX10_of 78 = .ok (.if_icmp .lt 106, 3) := by decide +kernel
theorem dX10_of_81 : decode cX10_of 81 = .ok (.iinc 5 (-1), 3) := by decide +kernel
theorem dX10_of_84 : decode cX10_of 84 = .ok (.aload_n 0, 1) := by decide +kernel
theorem dX10_of_85 : decode cX10_of 85 = .ok (.getfield 9, 3) := by decide +kernel
theorem dX10_of_88 : decode cX10_of 88 = .ok (.iload 5, 2) := by decide +kernel
theorem dX10_of_90 : decode cX10_of 90 = .ok (.iconst 1, 1) := by decide +kernel
theorem dX10_of_91 : decode cX10_of 91 = .ok (.isub, 1) := by decide +kernel
theorem dX10_of_92 : decode cX10_of 92 = .ok (.iload 7, 2) := by decide +kernel
theorem dX10_of_94 : decode cX10_of 94 = .ok (.aload_n 0, 1) := by decide +kernel
theorem dX10_of_95 : decode cX10_of 95 = .ok (.getfield 9, 3) := by decide +kernel
theorem dX10_of_98 : decode cX10_of 98 = .ok (.iload 5, 2) := by decide +kernel
theorem dX10_of_100 : decode cX10_of 100 = .ok (.iconst 1, 1) := by decide +kernel
theorem dX10_of_101 : decode cX10_of 101 = .ok (.isub, 1) := by decide +kernel
theorem dX10_of_102 : decode cX10_of 102 = .ok (.iaload, 1) := by decide +kernel
theorem dX10_of_103 : decode cX10_of 103 = .ok (.aload_n 0, 1) := by decide +kernel
theorem dX10_of_104 : decode cX10_of 104 = .ok (.getfield 9, 3) := by decide +kernel
theorem dX10_of_107 : decode cX10_of 107 = .ok (.iload 5, 2) := by decide +kernel
theorem dX10_of_109 : decode cX10_of 109 = .ok (.iaload, 1) := by decide +kernel
theorem dX10_of_110 : decode cX10_of 110 = .ok (.invokestatic 19, 3) := by decide +kernel
theorem dX10_of_113 : decode cX10_of 113 = .ok (.iastore, 1) := by decide +kernel
theorem dX10_of_114 : decode cX10_of 114 = .ok (.goto 70, 3) := by decide +kernel
theorem dX10_of_117 : decode cX10_of 117 = .ok (.iload 5, 2) := by decide +kernel
theorem dX10_of_119 : decode cX10_of 119 = .ok (.iconst 4, 1) := by decide +kernel
theorem dX10_of_120 : decode cX10_of 120 = .ok (.if_icmp .lt 64, 3) := by decide +kernel
theorem dX10_of_123 : decode cX10_of 123 = .ok (.iinc 5 (-3), 3) := by decide +kernel
theorem dX10_of_126 : decode cX10_of 126 = .ok (.iload 7, 2) := by decide +kernel
theorem dX10_of_128 : decode cX10_of 128 = .ok (.aload_n 0, 1) := by decide +kernel
theorem dX10_of_129 : decode cX10_of 129 = .ok (.getfield 9, 3) := by decide +kernel
theorem dX10_of_132 : decode cX10_of 132 = .ok (.iload 5, 2) := by decide +kernel
theorem dX10_of_134 : decode cX10_of 134 = .ok (.iconst 1, 1) := by decide +kernel
theorem dX10_of_135 : decode cX10_of 135 = .ok (.isub, 1) := by decide +kernel
theorem dX10_of_136 : decode cX10_of 136 = .ok (.iaload, 1) := by decide +kernel
theorem dX10_of_137 : decode cX10_of 137 = .ok (.aload_n 0, 1) := by decide +kernel
theorem dX10_of_138 : decode cX10_of 138 = .ok (.getfield 9, 3) := by decide +kernel
theorem dX10_of_141 : decode cX10_of 141 = .ok (.iload 5, 2) := by decide +kernel
theorem dX10_of_143 : decode cX10_of 143 = .ok (.iaload, 1) := by decide +kernel
theorem dX10_of_144 : decode cX10_of 144 = .ok (.invokestatic 23, 3) := by decide +kernel
theorem dX10_of_147 : decode cX10_of 147 = .ok (.istore 8, 2) := by decide +kernel
theorem dX10_of_149 : decode cX10_of 149 = .ok (.aload_n 0, 1) := by decide +kernel
theorem dX10_of_150 : decode cX10_of 150 = .ok (.getfield 9, 3) := by decide +kernel
theorem dX10_of_153 : decode cX10_of 153 = .ok (.iload 5, 2) := by decide +kernel
theorem dX10_of_155 : decode cX10_of 155 = .ok (.iconst 1, 1) := by decide +kernel
theorem dX10_of_156 : decode cX10_of 156 = .ok (.isub, 1) := by decide +kernel
theorem dX10_of_157 : decode cX10_of 157 = .ok (.iload 8, 2) := by decide +kernel
theorem dX10_of_159 : decode cX10_of 159 = .ok (.ifCond .eq 15, 3) := by decide +kernel
theorem dX10_of_162 : decode cX10_of 162 = .ok (.aload_n 0, 1) := by decide +kernel
theorem dX10_of_163 : decode cX10_of 163 = .ok (.getfield 9, 3) := by decide +kernel
theorem dX10_of_166 : decode cX10_of 166 = .ok (.iload 5, 2) := by decide +kernel
theorem dX10_of_168 : decode cX10_of 168 = .ok (.iconst 1, 1) := by decide +kernel
theorem dX10_of_169 : decode cX10_of 169 = .ok (.iadd, 1) := by decide +kernel
theorem dX10_of_170 : decode cX10_of 170 = .ok (.iaload, 1) := by decide +kernel
theorem dX10_of_171 : decode cX10_of 171 = .ok (.goto 12, 3) := by decide +kernel
theorem dX10_of_174 : decode cX10_of 174 = .ok (.aload_n 0, 1) := by decide +kernel
theorem dX10_of_175 : decode cX10_of 175 = .ok (.getfield 9, 3) := by decide +kernel
theorem dX10_of_178 : decode cX10_of 178 = .ok (.iload 5, 2) := by decide +kernel
theorem dX10_of_180 : decode cX10_of 180 = .ok (.iconst 2, 1) := by decide +kernel
theorem dX10_of_181 : decode cX10_of 181 = .ok (.iadd, 1) := by decide +kernel
theorem dX10_of_182 : decode cX10_of 182 = .ok (.iaload, 1) := by decide +kernel
theorem dX10_of_183 : decode cX10_of 183 = .ok (.iastore, 1) := by decide +kernel
theorem dX10_of_184 : decode cX10_of 184 = .ok (.iinc 6 1, 3) := by decide +kernel
theorem dX10_of_187 : decode cX10_of 187 = .ok (.goto (-181), 3) := by decide +kernel
theorem dX10_of_190 : decode cX10_of 190 = .ok (.iload 5, 2) := by decide +kernel
theorem dX10_of_192 : decode cX10_of 192 = .ok (.ifCond .le 15, 3) := by decide +kernel
theorem dX10_of_195 : decode cX10_of 195 = .ok (.aload_n 0, 1) := by decide +kernel
theorem dX10_of_196 : decode cX10_of 196 = .ok (.getfield 9, 3) := by decide +kernel
theorem dX10_of_199 : decode cX10_of 199 = .ok (.iload 5, 2) := by decide +kernel
theorem dX10_of_201 : decode cX10_of 201 = .ok (.iconst 1, 1) := by decide +kernel
theorem dX10_of_202 : decode cX10_of 202 = .ok (.isub, 1) := by decide +kernel
theorem dX10_of_203 : decode cX10_of 203 = .ok (.iaload, 1) := by decide +kernel
theorem dX10_of_204 : decode cX10_of 204 = .ok (.goto 4, 3) := by decide +kernel
theorem dX10_of_207 : decode cX10_of 207 = .ok (.iconst 0, 1) := by decide +kernel
theorem dX10_of_208 : decode cX10_of 208 = .ok (.ireturn, 1) := by decide +kernel
theorem dX10_named_0 : decode cX10_named 0 = .ok (.iload_n 0, 1) := by decide +kernel
theorem dX10_named_1 : decode cX10_named 1 = .ok (.tableswitch 72 (-7) (-1) #[67, 65, 60, 55, 53, 48, 43], 43) := by decide +kernel
theorem dX10_named_44 : decode cX10_named 44 = .ok (.aload_n 1, 1) := by decide +kernel
theorem dX10_named_45 : decode cX10_named 45 = .ok (.getfield 27, 3) := by decide +kernel
theorem dX10_named_48 : decode cX10_named 48 = .ok (.ireturn, 1) := by decide +kernel
theorem dX10_named_49 : decode cX10_named 49 = .ok (.aload_n 1, 1) := by decide +kernel
theorem dX10_named_50 : decode cX10_named 50 = .ok (.getfield 33, 3) := by decide +kernel
theorem dX10_named_53 : decode cX10_named 53 = .ok (.ireturn, 1) := by decide +kernel
theorem dX10_named_54 : decode cX10_named 54 = .ok (.iload_n 2, 1) := by decide +kernel
theorem dX10_named_55 : decode cX10_named 55 = .ok (.ireturn, 1) := by decide +kernel
theorem dX10_named_56 : decode cX10_named 56 = .ok (.aload_n 1, 1) := by decide +kernel
theorem dX10_named_57 : decode cX10_named 57 = .ok (.getfield 36, 3) := by decide +kernel
theorem dX10_named_60 : decode cX10_named 60 = .ok (.ireturn, 1) := by decide +kernel
theorem dX10_named_61 : decode cX10_named 61 = .ok (.aload_n 1, 1) := by decide +kernel
theorem dX10_named_62 : decode cX10_named 62 = .ok (.getfield 39, 3) := by decide +kernel
theorem dX10_named_65 : decode cX10_named 65 = .ok (.ireturn, 1) := by decide +kernel
theorem dX10_named_66 : decode cX10_named 66 = .ok (.iload_n 3, 1) := by decide +kernel
theorem dX10_named_67 : decode cX10_named 67 = .ok (.ireturn, 1) := by decide +kernel
theorem dX10_named_68 : decode cX10_named 68 = .ok (.aload_n 1, 1) := by decide +kernel
theorem dX10_named_69 : decode cX10_named 69 = .ok (.getfield 42, 3) := by decide +kernel
theorem dX10_named_72 : decode cX10_named 72 = .ok (.ireturn, 1) := by decide +kernel
theorem dX10_named_73 : decode cX10_named 73 = .ok (.aload_n 1, 1) := by decide +kernel
theorem dX10_named_74 : decode cX10_named 74 = .ok (.getfield 45, 3) := by decide +kernel
theorem dX10_named_77 : decode cX10_named 77 = .ok (.ireturn, 1) := by decide +kernel
theorem dX10_joined_0 : decode cX10_joined 0 = .ok (.iload_n 0, 1) := by decide +kernel
theorem dX10_joined_1 : decode cX10_joined 1 = .ok (.tableswitch 65 (-13) (-9) #[59, 47, 43, 39, 35], 35) := by decide +kernel
theorem dX10_joined_36 : decode cX10_joined 36 = .ok (.iload_n 1, 1) := by decide +kernel
theorem dX10_joined_37 : decode cX10_joined 37 = .ok (.iload_n 2, 1) := by decide +kernel
theorem dX10_joined_38 : decode cX10_joined 38 = .ok (.iadd, 1) := by decide +kernel
theorem dX10_joined_39 : decode cX10_joined 39 = .ok (.ireturn, 1) := by decide +kernel
theorem dX10_joined_40 : decode cX10_joined 40 = .ok (.iload_n 1, 1) := by decide +kernel
theorem dX10_joined_41 : decode cX10_joined 41 = .ok (.iload_n 2, 1) := by decide +kernel
theorem dX10_joined_42 : decode cX10_joined 42 = .ok (.isub, 1) := by decide +kernel
theorem dX10_joined_43 : decode cX10_joined 43 = .ok (.ireturn, 1) := by decide +kernel
theorem dX10_joined_44 : decode cX10_joined 44 = .ok (.iload_n 1, 1) := by decide +kernel
theorem dX10_joined_45 : decode cX10_joined 45 = .ok (.iload_n 2, 1) := by decide +kernel
theorem dX10_joined_46 : decode cX10_joined 46 = .ok (.imul, 1) := by decide +kernel
theorem dX10_joined_47 : decode cX10_joined 47 = .ok (.ireturn, 1) := by decide +kernel
theorem dX10_joined_48 : decode cX10_joined 48 = .ok (.iload_n 2, 1) := by decide +kernel
theorem dX10_joined_49 : decode cX10_joined 49 = .ok (.ifCond .ne 7, 3) := by decide +kernel
theorem dX10_joined_52 : decode cX10_joined 52 = .ok (.iconst 0, 1) := by decide +kernel
theorem dX10_joined_53 : decode cX10_joined 53 = .ok (.goto 6, 3) := by decide +kernel
theorem dX10_joined_56 : decode cX10_joined 56 = .ok (.iload_n 1, 1) := by decide +kernel
theorem dX10_joined_57 : decode cX10_joined 57 = .ok (.iload_n 2, 1) := by decide +kernel
theorem dX10_joined_58 : decode cX10_joined 58 = .ok (.idiv, 1) := by decide +kernel
theorem dX10_joined_59 : decode cX10_joined 59 = .ok (.ireturn, 1) := by decide +kernel
theorem dX10_joined_60 : decode cX10_joined 60 = .ok (.iload_n 1, 1) := by decide +kernel
theorem dX10_joined_61 : decode cX10_joined 61 = .ok (.iload_n 2, 1) := by decide +kernel
theorem dX10_joined_62 : decode cX10_joined 62 = .ok (.invokestatic 48, 3) := by decide +kernel
theorem dX10_joined_65 : decode cX10_joined 65 = .ok (.ireturn, 1) := by decide +kernel
theorem dX10_joined_66 : decode cX10_joined 66 = .ok (.iload_n 1, 1) := by decide +kernel
theorem dX10_joined_67 : decode cX10_joined 67 = .ok (.iload_n 2, 1) := by decide +kernel
theorem dX10_joined_68 : decode cX10_joined 68 = .ok (.invokestatic 54, 3) := by decide +kernel
theorem dX10_joined_71 : decode cX10_joined 71 = .ok (.ireturn, 1) := by decide +kernel
theorem dX10_compared_0 : decode cX10_compared 0 = .ok (.iload_n 0, 1) := by decide +kernel
theorem dX10_compared_1 : decode cX10_compared 1 = .ok (.lookupswitch 49 #[(-16, 38), (-15, 27)], 27) := by decide +kernel
theorem dX10_compared_28 : decode cX10_compared 28 = .ok (.iload_n 1, 1) := by decide +kernel
theorem dX10_compared_29 : decode cX10_compared 29 = .ok (.iload_n 2, 1) := by decide +kernel
theorem dX10_compared_30 : decode cX10_compared 30 = .ok (.if_icmp .ge 7, 3) := by decide +kernel
theorem dX10_compared_33 : decode cX10_compared 33 = .ok (.iconst 1, 1) := by decide +kernel
theorem dX10_compared_34 : decode cX10_compared 34 = .ok (.goto 4, 3) := by decide +kernel
theorem dX10_compared_37 : decode cX10_compared 37 = .ok (.iconst 0, 1) := by decide +kernel
theorem dX10_compared_38 : decode cX10_compared 38 = .ok (.ireturn, 1) := by decide +kernel
theorem dX10_compared_39 : decode cX10_compared 39 = .ok (.iload_n 1, 1) := by decide +kernel
theorem dX10_compared_40 : decode cX10_compared 40 = .ok (.iload_n 2, 1) := by decide +kernel
theorem dX10_compared_41 : decode cX10_compared 41 = .ok (.if_icmp .le 7, 3) := by decide +kernel
theorem dX10_compared_44 : decode cX10_compared 44 = .ok (.iconst 1, 1) := by decide +kernel
theorem dX10_compared_45 : decode cX10_compared 45 = .ok (.goto 4, 3) := by decide +kernel
theorem dX10_compared_48 : decode cX10_compared 48 = .ok (.iconst 0, 1) := by decide +kernel
theorem dX10_compared_49 : decode cX10_compared 49 = .ok (.ireturn, 1) := by decide +kernel
theorem dX10_compared_50 : decode cX10_compared 50 = .ok (.iload_n 1, 1) := by decide +kernel
theorem dX10_compared_51 : decode cX10_compared 51 = .ok (.iload_n 2, 1) := by decide +kernel
theorem dX10_compared_52 : decode cX10_compared 52 = .ok (.if_icmp .ne 7, 3) := by decide +kernel
theorem dX10_compared_55 : decode cX10_compared 55 = .ok (.iconst 1, 1) := by decide +kernel
theorem dX10_compared_56 : decode cX10_compared 56 = .ok (.goto 4, 3) := by decide +kernel
theorem dX10_compared_59 : decode cX10_compared 59 = .ok (.iconst 0, 1) := by decide +kernel
theorem dX10_compared_60 : decode cX10_compared 60 = .ok (.ireturn, 1) := by decide +kernel
theorem dJ6_bitCount_0f7a4_0 : decode cJ6_bitCount_0f7a4 0 = .ok (.iload_n 0, 1) := by decide +kernel
theorem dJ6_bitCount_0f7a4_1 : decode cJ6_bitCount_0f7a4 1 = .ok (.iload_n 0, 1) := by decide +kernel
theorem dJ6_bitCount_0f7a4_2 : decode cJ6_bitCount_0f7a4 2 = .ok (.iconst 1, 1) := by decide +kernel
theorem dJ6_bitCount_0f7a4_3 : decode cJ6_bitCount_0f7a4 3 = .ok (.iushr, 1) := by decide +kernel
theorem dJ6_bitCount_0f7a4_4 : decode cJ6_bitCount_0f7a4 4 = .ok (.ldc_w 265, 3) := by decide +kernel
theorem dJ6_bitCount_0f7a4_7 : decode cJ6_bitCount_0f7a4 7 = .ok (.iand, 1) := by decide +kernel
theorem dJ6_bitCount_0f7a4_8 : decode cJ6_bitCount_0f7a4 8 = .ok (.isub, 1) := by decide +kernel
theorem dJ6_bitCount_0f7a4_9 : decode cJ6_bitCount_0f7a4 9 = .ok (.istore_n 0, 1) := by decide +kernel
theorem dJ6_bitCount_0f7a4_10 : decode cJ6_bitCount_0f7a4 10 = .ok (.iload_n 0, 1) := by decide +kernel
theorem dJ6_bitCount_0f7a4_11 : decode cJ6_bitCount_0f7a4 11 = .ok (.ldc_w 266, 3) := by decide +kernel
theorem dJ6_bitCount_0f7a4_14 : decode cJ6_bitCount_0f7a4 14 = .ok (.iand, 1) := by decide +kernel
theorem dJ6_bitCount_0f7a4_15 : decode cJ6_bitCount_0f7a4 15 = .ok (.iload_n 0, 1) := by decide +kernel
theorem dJ6_bitCount_0f7a4_16 : decode cJ6_bitCount_0f7a4 16 = .ok (.iconst 2, 1) := by decide +kernel
theorem dJ6_bitCount_0f7a4_17 : decode cJ6_bitCount_0f7a4 17 = .ok (.iushr, 1) := by decide +kernel
theorem dJ6_bitCount_0f7a4_18 : decode cJ6_bitCount_0f7a4 18 = .ok (.ldc_w 266, 3) := by decide +kernel
theorem dJ6_bitCount_0f7a4_21 : decode cJ6_bitCount_0f7a4 21 = .ok (.iand, 1) := by decide +kernel
theorem dJ6_bitCount_0f7a4_22 : decode cJ6_bitCount_0f7a4 22 = .ok (.iadd, 1) := by decide +kernel
theorem dJ6_bitCount_0f7a4_23 : decode cJ6_bitCount_0f7a4 23 = .ok (.istore_n 0, 1) := by decide +kernel
theorem dJ6_bitCount_0f7a4_24 : decode cJ6_bitCount_0f7a4 24 = .ok (.iload_n 0, 1) := by decide +kernel
theorem dJ6_bitCount_0f7a4_25 : decode cJ6_bitCount_0f7a4 25 = .ok (.iload_n 0, 1) := by decide +kernel
theorem dJ6_bitCount_0f7a4_26 : decode cJ6_bitCount_0f7a4 26 = .ok (.iconst 4, 1) := by decide +kernel
theorem dJ6_bitCount_0f7a4_27 : decode cJ6_bitCount_0f7a4 27 = .ok (.iushr, 1) := by decide +kernel
theorem dJ6_bitCount_0f7a4_28 : decode cJ6_bitCount_0f7a4 28 = .ok (.iadd, 1) := by decide +kernel
theorem dJ6_bitCount_0f7a4_29 : decode cJ6_bitCount_0f7a4 29 = .ok (.ldc_w 267, 3) := by decide +kernel
theorem dJ6_bitCount_0f7a4_32 : decode cJ6_bitCount_0f7a4 32 = .ok (.iand, 1) := by decide +kernel
theorem dJ6_bitCount_0f7a4_33 : decode cJ6_bitCount_0f7a4 33 = .ok (.istore_n 0, 1) := by decide +kernel
theorem dJ6_bitCount_0f7a4_34 : decode cJ6_bitCount_0f7a4 34 = .ok (.iload_n 0, 1) := by decide +kernel
theorem dJ6_bitCount_0f7a4_35 : decode cJ6_bitCount_0f7a4 35 = .ok (.iload_n 0, 1) := by decide +kernel
theorem dJ6_bitCount_0f7a4_36 : decode cJ6_bitCount_0f7a4 36 = .ok (.bipush 8, 2) := by decide +kernel
theorem dJ6_bitCount_0f7a4_38 : decode cJ6_bitCount_0f7a4 38 = .ok (.iushr, 1) := by decide +kernel
theorem dJ6_bitCount_0f7a4_39 : decode cJ6_bitCount_0f7a4 39 = .ok (.iadd, 1) := by decide +kernel
theorem dJ6_bitCount_0f7a4_40 : decode cJ6_bitCount_0f7a4 40 = .ok (.istore_n 0, 1) := by decide +kernel
theorem dJ6_bitCount_0f7a4_41 : decode cJ6_bitCount_0f7a4 41 = .ok (.iload_n 0, 1) := by decide +kernel
theorem dJ6_bitCount_0f7a4_42 : decode cJ6_bitCount_0f7a4 42 = .ok (.iload_n 0, 1) := by decide +kernel
theorem dJ6_bitCount_0f7a4_43 : decode cJ6_bitCount_0f7a4 43 = .ok (.bipush 16, 2) := by decide +kernel
theorem dJ6_bitCount_0f7a4_45 : decode cJ6_bitCount_0f7a4 45 = .ok (.iushr, 1) := by decide +kernel
theorem dJ6_bitCount_0f7a4_46 : decode cJ6_bitCount_0f7a4 46 = .ok (.iadd, 1) := by decide +kernel
theorem dJ6_bitCount_0f7a4_47 : decode cJ6_bitCount_0f7a4 47 = .ok (.istore_n 0, 1) := by decide +kernel
theorem dJ6_bitCount_0f7a4_48 : decode cJ6_bitCount_0f7a4 48 = .ok (.iload_n 0, 1) := by decide +kernel
theorem dJ6_bitCount_0f7a4_49 : decode cJ6_bitCount_0f7a4 49 = .ok (.bipush 63, 2) := by decide +kernel
theorem dJ6_bitCount_0f7a4_51 : decode cJ6_bitCount_0f7a4 51 = .ok (.iand, 1) := by decide +kernel
theorem dJ6_bitCount_0f7a4_52 : decode cJ6_bitCount_0f7a4 52 = .ok (.ireturn, 1) := by decide +kernel
theorem dJ9_abs_0f7a4_0 : decode cJ9_abs_0f7a4 0 = .ok (.iload_n 0, 1) := by decide +kernel
theorem dJ9_abs_0f7a4_1 : decode cJ9_abs_0f7a4 1 = .ok (.ifCond .ge 8, 3) := by decide +kernel
theorem dJ9_abs_0f7a4_4 : decode cJ9_abs_0f7a4 4 = .ok (.iload_n 0, 1) := by decide +kernel
theorem dJ9_abs_0f7a4_5 : decode cJ9_abs_0f7a4 5 = .ok (.ineg, 1) := by decide +kernel
theorem dJ9_abs_0f7a4_6 : decode cJ9_abs_0f7a4 6 = .ok (.goto 4, 3) := by decide +kernel
theorem dJ9_abs_0f7a4_9 : decode cJ9_abs_0f7a4 9 = .ok (.iload_n 0, 1) := by decide +kernel
theorem dJ9_abs_0f7a4_10 : decode cJ9_abs_0f7a4 10 = .ok (.ireturn, 1) := by decide +kernel
theorem dJ9_max_7cf53_0 : decode cJ9_max_7cf53 0 = .ok (.iload_n 0, 1) := by decide +kernel
theorem dJ9_max_7cf53_1 : decode cJ9_max_7cf53 1 = .ok (.iload_n 1, 1) := by decide +kernel
theorem dJ9_max_7cf53_2 : decode cJ9_max_7cf53 2 = .ok (.if_icmp .lt 7, 3) := by decide +kernel
theorem dJ9_max_7cf53_5 : decode cJ9_max_7cf53 5 = .ok (.iload_n 0, 1) := by decide +kernel
theorem dJ9_max_7cf53_6 : decode cJ9_max_7cf53 6 = .ok (.goto 4, 3) := by decide +kernel
theorem dJ9_max_7cf53_9 : decode cJ9_max_7cf53 9 = .ok (.iload_n 1, 1) := by decide +kernel
theorem dJ9_max_7cf53_10 : decode cJ9_max_7cf53 10 = .ok (.ireturn, 1) := by decide +kernel
theorem dJ9_min_7cf53_0 : decode cJ9_min_7cf53 0 = .ok (.iload_n 0, 1) := by decide +kernel
theorem dJ9_min_7cf53_1 : decode cJ9_min_7cf53 1 = .ok (.iload_n 1, 1) := by decide +kernel
theorem dJ9_min_7cf53_2 : decode cJ9_min_7cf53 2 = .ok (.if_icmp .gt 7, 3) := by decide +kernel
theorem dJ9_min_7cf53_5 : decode cJ9_min_7cf53 5 = .ok (.iload_n 0, 1) := by decide +kernel
theorem dJ9_min_7cf53_6 : decode cJ9_min_7cf53 6 = .ok (.goto 4, 3) := by decide +kernel
theorem dJ9_min_7cf53_9 : decode cJ9_min_7cf53 9 = .ok (.iload_n 1, 1) := by decide +kernel
theorem dJ9_min_7cf53_10 : decode cJ9_min_7cf53 10 = .ok (.ireturn, 1) := by decide +kernel
theorem dJ0_length_8abf5_0 : decode cJ0_length_8abf5 0 = .ok (.aload_n 0, 1) := by decide +kernel
theorem dJ0_length_8abf5_1 : decode cJ0_length_8abf5 1 = .ok (.getfield 9, 3) := by decide +kernel
theorem dJ0_length_8abf5_4 : decode cJ0_length_8abf5 4 = .ok (.arraylength, 1) := by decide +kernel
theorem dJ0_length_8abf5_5 : decode cJ0_length_8abf5 5 = .ok (.aload_n 0, 1) := by decide +kernel
theorem dJ0_length_8abf5_6 : decode cJ0_length_8abf5 6 = .ok (.invokevirtual 335, 3) := by decide +kernel
theorem dJ0_length_8abf5_9 : decode cJ0_length_8abf5 9 = .ok (.ishr, 1) := by decide +kernel
theorem dJ0_length_8abf5_10 : decode cJ0_length_8abf5 10 = .ok (.ireturn, 1) := by decide +kernel
theorem dJ0_charAt_5068e_0 : decode cJ0_charAt_5068e 0 = .ok (.aload_n 0, 1) := by decide +kernel
theorem dJ0_charAt_5068e_1 : decode cJ0_charAt_5068e 1 = .ok (.invokevirtual 492, 3) := by decide +kernel
theorem dJ0_charAt_5068e_4 : decode cJ0_charAt_5068e 4 = .ok (.ifCond .eq 12, 3) := by decide +kernel
theorem dJ0_charAt_5068e_7 : decode cJ0_charAt_5068e 7 = .ok (.aload_n 0, 1) := by decide +kernel
theorem dJ0_charAt_5068e_8 : decode cJ0_charAt_5068e 8 = .ok (.getfield 9, 3) := by decide +kernel
theorem dJ0_charAt_5068e_11 : decode cJ0_charAt_5068e 11 = .ok (.iload_n 1, 1) := by decide +kernel
theorem dJ0_charAt_5068e_12 : decode cJ0_charAt_5068e 12 = .ok (.invokestatic 495, 3) := by decide +kernel
theorem dJ0_charAt_5068e_15 : decode cJ0_charAt_5068e 15 = .ok (.ireturn, 1) := by decide +kernel
theorem dJ0_charAt_5068e_16 : decode cJ0_charAt_5068e 16 = .ok (.aload_n 0, 1) := by decide +kernel
theorem dJ0_charAt_5068e_17 : decode cJ0_charAt_5068e 17 = .ok (.getfield 9, 3) := by decide +kernel
theorem dJ0_charAt_5068e_20 : decode cJ0_charAt_5068e 20 = .ok (.iload_n 1, 1) := by decide +kernel
theorem dJ0_charAt_5068e_21 : decode cJ0_charAt_5068e 21 = .ok (.invokestatic 498, 3) := by decide +kernel
theorem dJ0_charAt_5068e_24 : decode cJ0_charAt_5068e 24 = .ok (.ireturn, 1) := by decide +kernel
theorem dJ0_coder_7d493_0 : decode cJ0_coder_7d493 0 = .ok (.getstatic 38, 3) := by decide +kernel
theorem dJ0_coder_7d493_3 : decode cJ0_coder_7d493 3 = .ok (.ifCond .eq 10, 3) := by decide +kernel
theorem dJ0_coder_7d493_6 : decode cJ0_coder_7d493 6 = .ok (.aload_n 0, 1) := by decide +kernel
theorem dJ0_coder_7d493_7 : decode cJ0_coder_7d493 7 = .ok (.getfield 15, 3) := by decide +kernel
theorem dJ0_coder_7d493_10 : decode cJ0_coder_7d493 10 = .ok (.goto 4, 3) := by decide +kernel
theorem dJ0_coder_7d493_13 : decode cJ0_coder_7d493 13 = .ok (.iconst 1, 1) := by decide +kernel
theorem dJ0_coder_7d493_14 : decode cJ0_coder_7d493 14 = .ok (.ireturn, 1) := by decide +kernel
theorem dJ0_isLatin1_aae02_0 : decode cJ0_isLatin1_aae02 0 = .ok (.getstatic 38, 3) := by decide +kernel
theorem dJ0_isLatin1_aae02_3 : decode cJ0_isLatin1_aae02 3 = .ok (.ifCond .eq 14, 3) := by decide +kernel
theorem dJ0_isLatin1_aae02_6 : decode cJ0_isLatin1_aae02 6 = .ok (.aload_n 0, 1) := by decide +kernel
theorem dJ0_isLatin1_aae02_7 : decode cJ0_isLatin1_aae02 7 = .ok (.getfield 15, 3) := by decide +kernel
theorem dJ0_isLatin1_aae02_10 : decode cJ0_isLatin1_aae02 10 = .ok (.ifCond .ne 7, 3) := by decide +kernel
theorem dJ0_isLatin1_aae02_13 : decode cJ0_isLatin1_aae02 13 = .ok (.iconst 1, 1) := by decide +kernel
theorem dJ0_isLatin1_aae02_14 : decode cJ0_isLatin1_aae02 14 = .ok (.goto 4, 3) := by decide +kernel
theorem dJ0_isLatin1_aae02_17 : decode cJ0_isLatin1_aae02 17 = .ok (.iconst 0, 1) := by decide +kernel
theorem dJ0_isLatin1_aae02_18 : decode cJ0_isLatin1_aae02 18 = .ok (.ireturn, 1) := by decide +kernel
theorem dJ0_checkIndex_df160_0 : decode cJ0_checkIndex_df160 0 = .ok (.iload_n 0, 1) := by decide +kernel
theorem dJ0_checkIndex_df160_1 : decode cJ0_checkIndex_df160 1 = .ok (.iload_n 1, 1) := by decide +kernel
theorem dJ0_checkIndex_df160_2 : decode cJ0_checkIndex_df160 2 = .ok (.getstatic 1053, 3) := by decide +kernel
theorem dJ0_checkIndex_df160_5 : decode cJ0_checkIndex_df160 5 = .ok (.invokestatic 1059, 3) := by decide +kernel
theorem dJ0_checkIndex_df160_8 : decode cJ0_checkIndex_df160 8 = .ok (.pop, 1) := by decide +kernel
theorem dJ0_checkIndex_df160_9 : decode cJ0_checkIndex_df160 9 = .ok (.return_, 1) := by decide +kernel
theorem dJ1_charAt_3b067_0 : decode cJ1_charAt_3b067 0 = .ok (.iload_n 1, 1) := by decide +kernel
theorem dJ1_charAt_3b067_1 : decode cJ1_charAt_3b067 1 = .ok (.aload_n 0, 1) := by decide +kernel
theorem dJ1_charAt_3b067_2 : decode cJ1_charAt_3b067 2 = .ok (.arraylength, 1) := by decide +kernel
theorem dJ1_charAt_3b067_3 : decode cJ1_charAt_3b067 3 = .ok (.invokestatic 9, 3) := by decide +kernel
theorem dJ1_charAt_3b067_6 : decode cJ1_charAt_3b067 6 = .ok (.aload_n 0, 1) := by decide +kernel
theorem dJ1_charAt_3b067_7 : decode cJ1_charAt_3b067 7 = .ok (.iload_n 1, 1) := by decide +kernel
theorem dJ1_charAt_3b067_8 : decode cJ1_charAt_3b067 8 = .ok (.baload, 1) := by decide +kernel
theorem dJ1_charAt_3b067_9 : decode cJ1_charAt_3b067 9 = .ok (.sipush 255, 3) := by decide +kernel
theorem dJ1_charAt_3b067_12 : decode cJ1_charAt_3b067 12 = .ok (.iand, 1) := by decide +kernel
theorem dJ1_charAt_3b067_13 : decode cJ1_charAt_3b067 13 = .ok (.i2c, 1) := by decide +kernel
theorem dJ1_charAt_3b067_14 : decode cJ1_charAt_3b067 14 = .ok (.ireturn, 1) := by decide +kernel
theorem dJ2_getChar_3b067_0 : decode cJ2_getChar_3b067 0 = .ok (.getstatic 44, 3) := by decide +kernel
theorem dJ2_getChar_3b067_3 : decode cJ2_getChar_3b067 3 = .ok (.ifCond .ne 25, 3) := by decide +kernel
theorem dJ2_getChar_3b067_6 : decode cJ2_getChar_3b067 6 = .ok (.iload_n 1, 1) := by decide +kernel
theorem dJ2_getChar_3b067_7 : decode cJ2_getChar_3b067 7 = .ok (.ifCond .lt 11, 3) := by decide +kernel
theorem dJ2_getChar_3b067_10 : decode cJ2_getChar_3b067 10 = .ok (.iload_n 1, 1) := by decide +kernel
theorem dJ2_getChar_3b067_11 : decode cJ2_getChar_3b067 11 = .ok (.aload_n 0, 1) := by decide +kernel
theorem dJ2_getChar_3b067_12 : decode cJ2_getChar_3b067 12 = .ok (.invokestatic 48, 3) := by decide +kernel
theorem dJ2_getChar_3b067_15 : decode cJ2_getChar_3b067 15 = .ok (.if_icmp .lt 13, 3) := by decide +kernel
theorem dJ2_getChar_3b067_18 : decode cJ2_getChar_3b067 18 = .ok (.new 52, 3) := by decide +kernel
theorem dJ2_getChar_3b067_21 : decode cJ2_getChar_3b067 21 = .ok (.dup, 1) := by decide +kernel
theorem dJ2_getChar_3b067_22 : decode cJ2_getChar_3b067 22 = .ok (.ldc 54, 2) := by decide +kernel
theorem dJ2_getChar_3b067_24 : decode cJ2_getChar_3b067 24 = .ok (.invokespecial 56, 3) := by decide +kernel
theorem dJ2_getChar_3b067_27 : decode cJ2_getChar_3b067 27 = .ok (.athrow, 1) := by decide +kernel
theorem dJ2_getChar_3b067_28 : decode cJ2_getChar_3b067 28 = .ok (.iload_n 1, 1) := by decide +kernel
theorem dJ2_getChar_3b067_29 : decode cJ2_getChar_3b067 29 = .ok (.iconst 1, 1) := by decide +kernel
theorem dJ2_getChar_3b067_30 : decode cJ2_getChar_3b067 30 = .ok (.ishl, 1) := by decide +kernel
theorem dJ2_getChar_3b067_31 : decode cJ2_getChar_3b067 31 = .ok (.istore_n 1, 1) := by decide +kernel
theorem dJ2_getChar_3b067_32 : decode cJ2_getChar_3b067 32 = .ok (.aload_n 0, 1) := by decide +kernel
theorem dJ2_getChar_3b067_33 : decode cJ2_getChar_3b067 33 = .ok (.iload_n 1, 1) := by decide +kernel
theorem dJ2_getChar_3b067_34 : decode cJ2_getChar_3b067 34 = .ok (.iinc 1 1, 3) := by decide +kernel
theorem dJ2_getChar_3b067_37 : decode cJ2_getChar_3b067 37 = .ok (.baload, 1) := by decide +kernel
theorem dJ2_getChar_3b067_38 : decode cJ2_getChar_3b067 38 = .ok (.sipush 255, 3) := by decide +kernel
theorem dJ2_getChar_3b067_41 : decode cJ2_getChar_3b067 41 = .ok (.iand, 1) := by decide +kernel
theorem dJ2_getChar_3b067_42 : decode cJ2_getChar_3b067 42 = .ok (.getstatic 59, 3) := by decide +kernel
theorem dJ2_getChar_3b067_45 : decode cJ2_getChar_3b067 45 = .ok (.ishl, 1) := by decide +kernel
theorem dJ2_getChar_3b067_46 : decode cJ2_getChar_3b067 46 = .ok (.aload_n 0, 1) := by decide +kernel
theorem dJ2_getChar_3b067_47 : decode cJ2_getChar_3b067 47 = .ok (.iload_n 1, 1) := by decide +kernel
theorem dJ2_getChar_3b067_48 : decode cJ2_getChar_3b067 48 = .ok (.baload, 1) := by decide +kernel
theorem dJ2_getChar_3b067_49 : decode cJ2_getChar_3b067 49 = .ok (.sipush 255, 3) := by decide +kernel
theorem dJ2_getChar_3b067_52 : decode cJ2_getChar_3b067 52 = .ok (.iand, 1) := by decide +kernel
theorem dJ2_getChar_3b067_53 : decode cJ2_getChar_3b067 53 = .ok (.getstatic 63, 3) := by decide +kernel
theorem dJ2_getChar_3b067_56 : decode cJ2_getChar_3b067 56 = .ok (.ishl, 1) := by decide +kernel
theorem dJ2_getChar_3b067_57 : decode cJ2_getChar_3b067 57 = .ok (.ior, 1) := by decide +kernel
theorem dJ2_getChar_3b067_58 : decode cJ2_getChar_3b067 58 = .ok (.i2c, 1) := by decide +kernel
theorem dJ2_getChar_3b067_59 : decode cJ2_getChar_3b067 59 = .ok (.ireturn, 1) := by decide +kernel
theorem dJ2_length_9d52b_0 : decode cJ2_length_9d52b 0 = .ok (.aload_n 0, 1) := by decide +kernel
theorem dJ2_length_9d52b_1 : decode cJ2_length_9d52b 1 = .ok (.arraylength, 1) := by decide +kernel
theorem dJ2_length_9d52b_2 : decode cJ2_length_9d52b 2 = .ok (.iconst 1, 1) := by decide +kernel
theorem dJ2_length_9d52b_3 : decode cJ2_length_9d52b 3 = .ok (.ishr, 1) := by decide +kernel
theorem dJ2_length_9d52b_4 : decode cJ2_length_9d52b 4 = .ok (.ireturn, 1) := by decide +kernel
theorem dJ2_charAt_3b067_0 : decode cJ2_charAt_3b067 0 = .ok (.iload_n 1, 1) := by decide +kernel
theorem dJ2_charAt_3b067_1 : decode cJ2_charAt_3b067 1 = .ok (.aload_n 0, 1) := by decide +kernel
theorem dJ2_charAt_3b067_2 : decode cJ2_charAt_3b067 2 = .ok (.invokestatic 67, 3) := by decide +kernel
theorem dJ2_charAt_3b067_5 : decode cJ2_charAt_3b067 5 = .ok (.aload_n 0, 1) := by decide +kernel
theorem dJ2_charAt_3b067_6 : decode cJ2_charAt_3b067 6 = .ok (.iload_n 1, 1) := by decide +kernel
theorem dJ2_charAt_3b067_7 : decode cJ2_charAt_3b067 7 = .ok (.invokestatic 71, 3) := by decide +kernel
theorem dJ2_charAt_3b067_10 : decode cJ2_charAt_3b067 10 = .ok (.ireturn, 1) := by decide +kernel
theorem dJ2_checkIndex_2214a_0 : decode cJ2_checkIndex_2214a 0 = .ok (.iload_n 0, 1) := by decide +kernel
theorem dJ2_checkIndex_2214a_1 : decode cJ2_checkIndex_2214a 1 = .ok (.aload_n 1, 1) := by decide +kernel
theorem dJ2_checkIndex_2214a_2 : decode cJ2_checkIndex_2214a 2 = .ok (.invokestatic 48, 3) := by decide +kernel
theorem dJ2_checkIndex_2214a_5 : decode cJ2_checkIndex_2214a 5 = .ok (.invokestatic 414, 3) := by decide +kernel
theorem dJ2_checkIndex_2214a_8 : decode cJ2_checkIndex_2214a 8 = .ok (.return_, 1) := by decide +kernel
theorem dJxa1e45_init_da8c8_0 : decode cJxa1e45_init_da8c8 0 = .ok (.aload_n 0, 1) := by decide +kernel
theorem dJxa1e45_init_da8c8_1 : decode cJxa1e45_init_da8c8 1 = .ok (.invokespecial 1, 3) := by decide +kernel
theorem dJxa1e45_init_da8c8_4 : decode cJxa1e45_init_da8c8 4 = .ok (.return_, 1) := by decide +kernel
theorem dJxc12de_init_da8c8_0 : decode cJxc12de_init_da8c8 0 = .ok (.aload_n 0, 1) := by decide +kernel
theorem dJxc12de_init_da8c8_1 : decode cJxc12de_init_da8c8 1 = .ok (.invokespecial 1, 3) := by decide +kernel
theorem dJxc12de_init_da8c8_4 : decode cJxc12de_init_da8c8 4 = .ok (.aload_n 0, 1) := by decide +kernel
theorem dJxc12de_init_da8c8_5 : decode cJxc12de_init_da8c8 5 = .ok (.iconst 0, 1) := by decide +kernel
theorem dJxc12de_init_da8c8_6 : decode cJxc12de_init_da8c8 6 = .ok (.putfield 7, 3) := by decide +kernel
theorem dJxc12de_init_da8c8_9 : decode cJxc12de_init_da8c8 9 = .ok (.return_, 1) := by decide +kernel
theorem dJx4a65c_init_da8c8_0 : decode cJx4a65c_init_da8c8 0 = .ok (.aload_n 0, 1) := by decide +kernel
theorem dJx4a65c_init_da8c8_1 : decode cJx4a65c_init_da8c8 1 = .ok (.invokespecial 1, 3) := by decide +kernel
theorem dJx4a65c_init_da8c8_4 : decode cJx4a65c_init_da8c8 4 = .ok (.aload_n 0, 1) := by decide +kernel
theorem dJx4a65c_init_da8c8_5 : decode cJx4a65c_init_da8c8 5 = .ok (.getstatic 39, 3) := by decide +kernel
theorem dJx4a65c_init_da8c8_8 : decode cJx4a65c_init_da8c8 8 = .ok (.putfield 9, 3) := by decide +kernel
theorem dJx4a65c_init_da8c8_11 : decode cJx4a65c_init_da8c8 11 = .ok (.return_, 1) := by decide +kernel
theorem dJx4a65c_grow_92f84_0 : decode cJx4a65c_grow_92f84 0 = .ok (.aload_n 0, 1) := by decide +kernel
theorem dJx4a65c_grow_92f84_1 : decode cJx4a65c_grow_92f84 1 = .ok (.getfield 9, 3) := by decide +kernel
theorem dJx4a65c_grow_92f84_4 : decode cJx4a65c_grow_92f84 4 = .ok (.arraylength, 1) := by decide +kernel
theorem dJx4a65c_grow_92f84_5 : decode cJx4a65c_grow_92f84 5 = .ok (.istore_n 2, 1) := by decide +kernel
theorem dJx4a65c_grow_92f84_6 : decode cJx4a65c_grow_92f84 6 = .ok (.iload_n 2, 1) := by decide +kernel
theorem dJx4a65c_grow_92f84_7 : decode cJx4a65c_grow_92f84 7 = .ok (.ifCond .gt 13, 3) := by decide +kernel
theorem dJx4a65c_grow_92f84_10 : decode cJx4a65c_grow_92f84 10 = .ok (.aload_n 0, 1) := by decide +kernel
theorem dJx4a65c_grow_92f84_11 : decode cJx4a65c_grow_92f84 11 = .ok (.getfield 9, 3) := by decide +kernel
theorem dJx4a65c_grow_92f84_14 : decode cJx4a65c_grow_92f84 14 = .ok (.getstatic 39, 3) := by decide +kernel
theorem dJx4a65c_grow_92f84_17 : decode cJx4a65c_grow_92f84 17 = .ok (.if_acmp .eq 28, 3) := by decide +kernel
theorem dJx4a65c_grow_92f84_20 : decode cJx4a65c_grow_92f84 20 = .ok (.iload_n 2, 1) := by decide +kernel
theorem dJx4a65c_grow_92f84_21 : decode cJx4a65c_grow_92f84 21 = .ok (.iload_n 1, 1) := by decide +kernel
theorem dJx4a65c_grow_92f84_22 : decode cJx4a65c_grow_92f84 22 = .ok (.iload_n 2, 1) := by decide +kernel
theorem dJx4a65c_grow_92f84_23 : decode cJx4a65c_grow_92f84 23 = .ok (.isub, 1) := by decide +kernel
theorem dJx4a65c_grow_92f84_24 : decode cJx4a65c_grow_92f84 24 = .ok (.iload_n 2, 1) := by decide +kernel
theorem dJx4a65c_grow_92f84_25 : decode cJx4a65c_grow_92f84 25 = .ok (.iconst 1, 1) := by decide +kernel
theorem dJx4a65c_grow_92f84_26 : decode cJx4a65c_grow_92f84 26 = .ok (.ishr, 1) := by decide +kernel
theorem dJx4a65c_grow_92f84_27 : decode cJx4a65c_grow_92f84 27 = .ok (.invokestatic 73, 3) := by decide +kernel
theorem dJx4a65c_grow_92f84_30 : decode cJx4a65c_grow_92f84 30 = .ok (.istore_n 3, 1) := by decide +kernel
theorem dJx4a65c_grow_92f84_31 : decode cJx4a65c_grow_92f84 31 = .ok (.aload_n 0, 1) := by decide +kernel
theorem dJx4a65c_grow_92f84_32 : decode cJx4a65c_grow_92f84 32 = .ok (.aload_n 0, 1) := by decide +kernel
theorem dJx4a65c_grow_92f84_33 : decode cJx4a65c_grow_92f84 33 = .ok (.getfield 9, 3) := by decide +kernel
theorem dJx4a65c_grow_92f84_36 : decode cJx4a65c_grow_92f84 36 = .ok (.iload_n 3, 1) := by decide +kernel
theorem dJx4a65c_grow_92f84_37 : decode cJx4a65c_grow_92f84 37 = .ok (.invokestatic 66, 3) := by decide +kernel
theorem dJx4a65c_grow_92f84_40 : decode cJx4a65c_grow_92f84 40 = .ok (.dup_x1, 1) := by decide +kernel
theorem dJx4a65c_grow_92f84_41 : decode cJx4a65c_grow_92f84 41 = .ok (.putfield 9, 3) := by decide +kernel
theorem dJx4a65c_grow_92f84_44 : decode cJx4a65c_grow_92f84 44 = .ok (.areturn, 1) := by decide +kernel
theorem dJx4a65c_grow_92f84_45 : decode cJx4a65c_grow_92f84 45 = .ok (.aload_n 0, 1) := by decide +kernel
theorem dJx4a65c_grow_92f84_46 : decode cJx4a65c_grow_92f84 46 = .ok (.bipush 10, 2) := by decide +kernel
theorem dJx4a65c_grow_92f84_48 : decode cJx4a65c_grow_92f84 48 = .ok (.iload_n 1, 1) := by decide +kernel
theorem dJx4a65c_grow_92f84_49 : decode cJx4a65c_grow_92f84 49 = .ok (.invokestatic 79, 3) := by decide +kernel
theorem dJx4a65c_grow_92f84_52 : decode cJx4a65c_grow_92f84 52 = .ok (.anewarray 7, 3) := by decide +kernel
theorem dJx4a65c_grow_92f84_55 : decode cJx4a65c_grow_92f84 55 = .ok (.dup_x1, 1) := by decide +kernel
theorem dJx4a65c_grow_92f84_56 : decode cJx4a65c_grow_92f84 56 = .ok (.putfield 9, 3) := by decide +kernel
theorem dJx4a65c_grow_92f84_59 : decode cJx4a65c_grow_92f84 59 = .ok (.areturn, 1) := by decide +kernel
theorem dJx4a65c_grow_d5877_0 : decode cJx4a65c_grow_d5877 0 = .ok (.aload_n 0, 1) := by decide +kernel
theorem dJx4a65c_grow_d5877_1 : decode cJx4a65c_grow_d5877 1 = .ok (.aload_n 0, 1) := by decide +kernel
theorem dJx4a65c_grow_d5877_2 : decode cJx4a65c_grow_d5877 2 = .ok (.getfield 48, 3) := by decide +kernel
theorem dJx4a65c_grow_d5877_5 : decode cJx4a65c_grow_d5877 5 = .ok (.iconst 1, 1) := by decide +kernel
theorem dJx4a65c_grow_d5877_6 : decode cJx4a65c_grow_d5877 6 = .ok (.iadd, 1) := by decide +kernel
theorem dJx4a65c_grow_d5877_7 : decode cJx4a65c_grow_d5877 7 = .ok (.invokevirtual 69, 3) := by decide +kernel
theorem dJx4a65c_grow_d5877_10 : decode cJx4a65c_grow_d5877 10 = .ok (.areturn, 1) := by decide +kernel
theorem dJx4a65c_size_8abf5_0 : decode cJx4a65c_size_8abf5 0 = .ok (.aload_n 0, 1) := by decide +kernel
theorem dJx4a65c_size_8abf5_1 : decode cJx4a65c_size_8abf5 1 = .ok (.getfield 48, 3) := by decide +kernel
theorem dJx4a65c_size_8abf5_4 : decode cJx4a65c_size_8abf5 4 = .ok (.ireturn, 1) := by decide +kernel
theorem dJx4a65c_elementData_915e3_0 : decode cJx4a65c_elementData_915e3 0 = .ok (.aload_n 0, 1) := by decide +kernel
theorem dJx4a65c_elementData_915e3_1 : decode cJx4a65c_elementData_915e3 1 = .ok (.getfield 9, 3) := by decide +kernel
theorem dJx4a65c_elementData_915e3_4 : decode cJx4a65c_elementData_915e3 4 = .ok (.iload_n 1, 1) := by decide +kernel
theorem dJx4a65c_elementData_915e3_5 : decode cJx4a65c_elementData_915e3 5 = .ok (.aaload, 1) := by decide +kernel
theorem dJx4a65c_elementData_915e3_6 : decode cJx4a65c_elementData_915e3 6 = .ok (.areturn, 1) := by decide +kernel
theorem dJx4a65c_get_915e3_0 : decode cJx4a65c_get_915e3 0 = .ok (.iload_n 1, 1) := by decide +kernel
theorem dJx4a65c_get_915e3_1 : decode cJx4a65c_get_915e3 1 = .ok (.aload_n 0, 1) := by decide +kernel
theorem dJx4a65c_get_915e3_2 : decode cJx4a65c_get_915e3 2 = .ok (.getfield 48, 3) := by decide +kernel
theorem dJx4a65c_get_915e3_5 : decode cJx4a65c_get_915e3 5 = .ok (.invokestatic 118, 3) := by decide +kernel
theorem dJx4a65c_get_915e3_8 : decode cJx4a65c_get_915e3 8 = .ok (.pop, 1) := by decide +kernel
theorem dJx4a65c_get_915e3_9 : decode cJx4a65c_get_915e3 9 = .ok (.aload_n 0, 1) := by decide +kernel
theorem dJx4a65c_get_915e3_10 : decode cJx4a65c_get_915e3 10 = .ok (.iload_n 1, 1) := by decide +kernel
theorem dJx4a65c_get_915e3_11 : decode cJx4a65c_get_915e3 11 = .ok (.invokevirtual 123, 3) := by decide +kernel
theorem dJx4a65c_get_915e3_14 : decode cJx4a65c_get_915e3 14 = .ok (.areturn, 1) := by decide +kernel
theorem dJx4a65c_add_72be8_0 : decode cJx4a65c_add_72be8 0 = .ok (.iload_n 3, 1) := by decide +kernel
theorem dJx4a65c_add_72be8_1 : decode cJx4a65c_add_72be8 1 = .ok (.aload_n 2, 1) := by decide +kernel
theorem dJx4a65c_add_72be8_2 : decode cJx4a65c_add_72be8 2 = .ok (.arraylength, 1) := by decide +kernel
theorem dJx4a65c_add_72be8_3 : decode cJx4a65c_add_72be8 3 = .ok (.if_icmp .ne 8, 3) := by decide +kernel
theorem dJx4a65c_add_72be8_6 : decode cJx4a65c_add_72be8 6 = .ok (.aload_n 0, 1) := by decide +kernel
theorem dJx4a65c_add_72be8_7 : decode cJx4a65c_add_72be8 7 = .ok (.invokevirtual 129, 3) := by decide +kernel
theorem dJx4a65c_add_72be8_10 : decode cJx4a65c_add_72be8 10 = .ok (.astore_n 2, 1) := by decide +kernel
theorem dJx4a65c_add_72be8_11 : decode cJx4a65c_add_72be8 11 = .ok (.aload_n 2, 1) := by decide +kernel
theorem dJx4a65c_add_72be8_12 : decode cJx4a65c_add_72be8 12 = .ok (.iload_n 3, 1) := by decide +kernel
theorem dJx4a65c_add_72be8_13 : decode cJx4a65c_add_72be8 13 = .ok (.aload_n 1, 1) := by decide +kernel
theorem dJx4a65c_add_72be8_14 : decode cJx4a65c_add_72be8 14 = .ok (.aastore, 1) := by decide +kernel
theorem dJx4a65c_add_72be8_15 : decode cJx4a65c_add_72be8 15 = .ok (.aload_n 0, 1) := by decide +kernel
theorem dJx4a65c_add_72be8_16 : decode cJx4a65c_add_72be8 16 = .ok (.iload_n 3, 1) := by decide +kernel
theorem dJx4a65c_add_72be8_17 : decode cJx4a65c_add_72be8 17 = .ok (.iconst 1, 1) := by decide +kernel
theorem dJx4a65c_add_72be8_18 : decode cJx4a65c_add_72be8 18 = .ok (.iadd, 1) := by decide +kernel
theorem dJx4a65c_add_72be8_19 : decode cJx4a65c_add_72be8 19 = .ok (.putfield 48, 3) := by decide +kernel
theorem dJx4a65c_add_72be8_22 : decode cJx4a65c_add_72be8 22 = .ok (.return_, 1) := by decide +kernel
theorem dJx4a65c_add_9ea2d_0 : decode cJx4a65c_add_9ea2d 0 = .ok (.aload_n 0, 1) := by decide +kernel
theorem dJx4a65c_add_9ea2d_1 : decode cJx4a65c_add_9ea2d 1 = .ok (.dup, 1) := by decide +kernel
theorem dJx4a65c_add_9ea2d_2 : decode cJx4a65c_add_9ea2d 2 = .ok (.getfield 63, 3) := by decide +kernel
theorem dJx4a65c_add_9ea2d_5 : decode cJx4a65c_add_9ea2d 5 = .ok (.iconst 1, 1) := by decide +kernel
theorem dJx4a65c_add_9ea2d_6 : decode cJx4a65c_add_9ea2d 6 = .ok (.iadd, 1) := by decide +kernel
theorem dJx4a65c_add_9ea2d_7 : decode cJx4a65c_add_9ea2d 7 = .ok (.putfield 63, 3) := by decide +kernel
theorem dJx4a65c_add_9ea2d_10 : decode cJx4a65c_add_9ea2d 10 = .ok (.aload_n 0, 1) := by decide +kernel
theorem dJx4a65c_add_9ea2d_11 : decode cJx4a65c_add_9ea2d 11 = .ok (.aload_n 1, 1) := by decide +kernel
theorem dJx4a65c_add_9ea2d_12 : decode cJx4a65c_add_9ea2d 12 = .ok (.aload_n 0, 1) := by decide +kernel
theorem dJx4a65c_add_9ea2d_13 : decode cJx4a65c_add_9ea2d 13 = .ok (.getfield 9, 3) := by decide +kernel
theorem dJx4a65c_add_9ea2d_16 : decode cJx4a65c_add_9ea2d 16 = .ok (.aload_n 0, 1) := by decide +kernel
theorem dJx4a65c_add_9ea2d_17 : decode cJx4a65c_add_9ea2d 17 = .ok (.getfield 48, 3) := by decide +kernel
theorem dJx4a65c_add_9ea2d_20 : decode cJx4a65c_add_9ea2d 20 = .ok (.invokevirtual 131, 3) := by decide +kernel
theorem dJx4a65c_add_9ea2d_23 : decode cJx4a65c_add_9ea2d 23 = .ok (.iconst 1, 1) := by decide +kernel
theorem dJx4a65c_add_9ea2d_24 : decode cJx4a65c_add_9ea2d 24 = .ok (.ireturn, 1) := by decide +kernel
theorem dJ7_fill_53178_0 : decode cJ7_fill_53178 0 = .ok (.iconst 0, 1) := by decide +kernel
theorem dJ7_fill_53178_1 : decode cJ7_fill_53178 1 = .ok (.istore_n 2, 1) := by decide +kernel
theorem dJ7_fill_53178_2 : decode cJ7_fill_53178 2 = .ok (.aload_n 0, 1) := by decide +kernel
theorem dJ7_fill_53178_3 : decode cJ7_fill_53178 3 = .ok (.arraylength, 1) := by decide +kernel
theorem dJ7_fill_53178_4 : decode cJ7_fill_53178 4 = .ok (.istore_n 3, 1) := by decide +kernel
theorem dJ7_fill_53178_5 : decode cJ7_fill_53178 5 = .ok (.iload_n 2, 1) := by decide +kernel
theorem dJ7_fill_53178_6 : decode cJ7_fill_53178 6 = .ok (.iload_n 3, 1) := by decide +kernel
theorem dJ7_fill_53178_7 : decode cJ7_fill_53178 7 = .ok (.if_icmp .ge 13, 3) := by decide +kernel
theorem dJ7_fill_53178_10 : decode cJ7_fill_53178 10 = .ok (.aload_n 0, 1) := by decide +kernel
theorem dJ7_fill_53178_11 : decode cJ7_fill_53178 11 = .ok (.iload_n 2, 1) := by decide +kernel
theorem dJ7_fill_53178_12 : decode cJ7_fill_53178 12 = .ok (.iload_n 1, 1) := by decide +kernel
theorem dJ7_fill_53178_13 : decode cJ7_fill_53178 13 = .ok (.iastore, 1) := by decide +kernel
theorem dJ7_fill_53178_14 : decode cJ7_fill_53178 14 = .ok (.iinc 2 1, 3) := by decide +kernel
theorem dJ7_fill_53178_17 : decode cJ7_fill_53178 17 = .ok (.goto (-12), 3) := by decide +kernel
theorem dJ7_fill_53178_20 : decode cJ7_fill_53178 20 = .ok (.return_, 1) := by decide +kernel
theorem dJ7_copyOf_1904c_0 : decode cJ7_copyOf_1904c 0 = .ok (.aload_n 0, 1) := by decide +kernel
theorem dJ7_copyOf_1904c_1 : decode cJ7_copyOf_1904c 1 = .ok (.iload_n 1, 1) := by decide +kernel
theorem dJ7_copyOf_1904c_2 : decode cJ7_copyOf_1904c 2 = .ok (.aload_n 0, 1) := by decide +kernel
theorem dJ7_copyOf_1904c_3 : decode cJ7_copyOf_1904c 3 = .ok (.invokevirtual 86, 3) := by decide +kernel
theorem dJ7_copyOf_1904c_6 : decode cJ7_copyOf_1904c 6 = .ok (.invokestatic 300, 3) := by decide +kernel
theorem dJ7_copyOf_1904c_9 : decode cJ7_copyOf_1904c 9 = .ok (.areturn, 1) := by decide +kernel
theorem dJ7_copyOf_6403c_0 : decode cJ7_copyOf_6403c 0 = .ok (.aload_n 2, 1) := by decide +kernel
theorem dJ7_copyOf_6403c_1 : decode cJ7_copyOf_6403c 1 = .ok (.ldc 110, 2) := by decide +kernel
theorem dJ7_copyOf_6403c_3 : decode cJ7_copyOf_6403c 3 = .ok (.if_acmp .ne 10, 3) := by decide +kernel
theorem dJ7_copyOf_6403c_6 : decode cJ7_copyOf_6403c 6 = .ok (.iload_n 1, 1) := by decide +kernel
theorem dJ7_copyOf_6403c_7 : decode cJ7_copyOf_6403c 7 = .ok (.anewarray 2, 3) := by decide +kernel
theorem dJ7_copyOf_6403c_10 : decode cJ7_copyOf_6403c 10 = .ok (.goto 14, 3) := by decide +kernel
theorem dJ7_copyOf_6403c_13 : decode cJ7_copyOf_6403c 13 = .ok (.aload_n 2, 1) := by decide +kernel
theorem dJ7_copyOf_6403c_14 : decode cJ7_copyOf_6403c 14 = .ok (.invokevirtual 90, 3) := by decide +kernel
theorem dJ7_copyOf_6403c_17 : decode cJ7_copyOf_6403c 17 = .ok (.iload_n 1, 1) := by decide +kernel
theorem dJ7_copyOf_6403c_18 : decode cJ7_copyOf_6403c 18 = .ok (.invokestatic 95, 3) := by decide +kernel
theorem dJ7_copyOf_6403c_21 : decode cJ7_copyOf_6403c 21 = .ok (.checkcast 110, 3) := by decide +kernel
theorem dJ7_copyOf_6403c_24 : decode cJ7_copyOf_6403c 24 = .ok (.astore_n 3, 1) := by decide +kernel
theorem dJ7_copyOf_6403c_25 : decode cJ7_copyOf_6403c 25 = .ok (.aload_n 0, 1) := by decide +kernel
theorem dJ7_copyOf_6403c_26 : decode cJ7_copyOf_6403c 26 = .ok (.iconst 0, 1) := by decide +kernel
theorem dJ7_copyOf_6403c_27 : decode cJ7_copyOf_6403c 27 = .ok (.aload_n 3, 1) := by decide +kernel
theorem dJ7_copyOf_6403c_28 : decode cJ7_copyOf_6403c 28 = .ok (.iconst 0, 1) := by decide +kernel
theorem dJ7_copyOf_6403c_29 : decode cJ7_copyOf_6403c 29 = .ok (.aload_n 0, 1) := by decide +kernel
theorem dJ7_copyOf_6403c_30 : decode cJ7_copyOf_6403c 30 = .ok (.arraylength, 1) := by decide +kernel
theorem dJ7_copyOf_6403c_31 : decode cJ7_copyOf_6403c 31 = .ok (.iload_n 1, 1) := by decide +kernel
theorem dJ7_copyOf_6403c_32 : decode cJ7_copyOf_6403c 32 = .ok (.invokestatic 304, 3) := by decide +kernel
theorem dJ7_copyOf_6403c_35 : decode cJ7_copyOf_6403c 35 = .ok (.invokestatic 150, 3) := by decide +kernel
theorem dJ7_copyOf_6403c_38 : decode cJ7_copyOf_6403c 38 = .ok (.aload_n 3, 1) := by decide +kernel
theorem dJ7_copyOf_6403c_39 : decode cJ7_copyOf_6403c 39 = .ok (.areturn, 1) := by decide +kernel
theorem dJ7_copyOf_59c91_0 : decode cJ7_copyOf_59c91 0 = .ok (.iload_n 1, 1) := by decide +kernel
theorem dJ7_copyOf_59c91_1 : decode cJ7_copyOf_59c91 1 = .ok (.aload_n 0, 1) := by decide +kernel
theorem dJ7_copyOf_59c91_2 : decode cJ7_copyOf_59c91 2 = .ok (.arraylength, 1) := by decide +kernel
theorem dJ7_copyOf_59c91_3 : decode cJ7_copyOf_59c91 3 = .ok (.if_icmp .ne 11, 3) := by decide +kernel
theorem dJ7_copyOf_59c91_6 : decode cJ7_copyOf_59c91 6 = .ok (.aload_n 0, 1) := by decide +kernel
theorem dJ7_copyOf_59c91_7 : decode cJ7_copyOf_59c91 7 = .ok (.invokevirtual 316, 3) := by decide +kernel
theorem dJ7_copyOf_59c91_10 : decode cJ7_copyOf_59c91 10 = .ok (.checkcast 317, 3) := by decide +kernel
theorem dJ7_copyOf_59c91_13 : decode cJ7_copyOf_59c91 13 = .ok (.areturn, 1) := by decide +kernel
theorem dJ7_copyOf_59c91_14 : decode cJ7_copyOf_59c91 14 = .ok (.iload_n 1, 1) := by decide +kernel
theorem dJ7_copyOf_59c91_15 : decode cJ7_copyOf_59c91 15 = .ok (.newarray .int, 2) := by decide +kernel
theorem dJ7_copyOf_59c91_17 : decode cJ7_copyOf_59c91 17 = .ok (.astore_n 2, 1) := by decide +kernel
theorem dJ7_copyOf_59c91_18 : decode cJ7_copyOf_59c91 18 = .ok (.aload_n 0, 1) := by decide +kernel
theorem dJ7_copyOf_59c91_19 : decode cJ7_copyOf_59c91 19 = .ok (.iconst 0, 1) := by decide +kernel
theorem dJ7_copyOf_59c91_20 : decode cJ7_copyOf_59c91 20 = .ok (.aload_n 2, 1) := by decide +kernel
theorem dJ7_copyOf_59c91_21 : decode cJ7_copyOf_59c91 21 = .ok (.iconst 0, 1) := by decide +kernel
theorem dJ7_copyOf_59c91_22 : decode cJ7_copyOf_59c91 22 = .ok (.aload_n 0, 1) := by decide +kernel
theorem dJ7_copyOf_59c91_23 : decode cJ7_copyOf_59c91 23 = .ok (.arraylength, 1) := by decide +kernel
theorem dJ7_copyOf_59c91_24 : decode cJ7_copyOf_59c91 24 = .ok (.iload_n 1, 1) := by decide +kernel
theorem dJ7_copyOf_59c91_25 : decode cJ7_copyOf_59c91 25 = .ok (.invokestatic 304, 3) := by decide +kernel
theorem dJ7_copyOf_59c91_28 : decode cJ7_copyOf_59c91 28 = .ok (.invokestatic 150, 3) := by decide +kernel
theorem dJ7_copyOf_59c91_31 : decode cJ7_copyOf_59c91 31 = .ok (.aload_n 2, 1) := by decide +kernel
theorem dJ7_copyOf_59c91_32 : decode cJ7_copyOf_59c91 32 = .ok (.areturn, 1) := by decide +kernel
theorem dJ15_checkIndex_7cf53_0 : decode cJ15_checkIndex_7cf53 0 = .ok (.iload_n 0, 1) := by decide +kernel
theorem dJ15_checkIndex_7cf53_1 : decode cJ15_checkIndex_7cf53 1 = .ok (.iload_n 1, 1) := by decide +kernel
theorem dJ15_checkIndex_7cf53_2 : decode cJ15_checkIndex_7cf53 2 = .ok (.aconst_null, 1) := by decide +kernel
theorem dJ15_checkIndex_7cf53_3 : decode cJ15_checkIndex_7cf53 3 = .ok (.invokestatic 105, 3) := by decide +kernel
theorem dJ15_checkIndex_7cf53_6 : decode cJ15_checkIndex_7cf53 6 = .ok (.ireturn, 1) := by decide +kernel
theorem dJ8_newLength_cabcc_0 : decode cJ8_newLength_cabcc 0 = .ok (.iload_n 0, 1) := by decide +kernel
theorem dJ8_newLength_cabcc_1 : decode cJ8_newLength_cabcc 1 = .ok (.iload_n 1, 1) := by decide +kernel
theorem dJ8_newLength_cabcc_2 : decode cJ8_newLength_cabcc 2 = .ok (.iload_n 2, 1) := by decide +kernel
theorem dJ8_newLength_cabcc_3 : decode cJ8_newLength_cabcc 3 = .ok (.invokestatic 194, 3) := by decide +kernel
theorem dJ8_newLength_cabcc_6 : decode cJ8_newLength_cabcc 6 = .ok (.iadd, 1) := by decide +kernel
theorem dJ8_newLength_cabcc_7 : decode cJ8_newLength_cabcc 7 = .ok (.istore_n 3, 1) := by decide +kernel
theorem dJ8_newLength_cabcc_8 : decode cJ8_newLength_cabcc 8 = .ok (.iconst 0, 1) := by decide +kernel
theorem dJ8_newLength_cabcc_9 : decode cJ8_newLength_cabcc 9 = .ok (.iload_n 3, 1) := by decide +kernel
theorem dJ8_newLength_cabcc_10 : decode cJ8_newLength_cabcc 10 = .ok (.if_icmp .ge 11, 3) := by decide +kernel
theorem dJ8_newLength_cabcc_13 : decode cJ8_newLength_cabcc 13 = .ok (.iload_n 3, 1) := by decide +kernel
theorem dJ8_newLength_cabcc_14 : decode cJ8_newLength_cabcc 14 = .ok (.ldc 200, 2) := by decide +kernel
theorem dJ8_newLength_cabcc_16 : decode cJ8_newLength_cabcc 16 = .ok (.if_icmp .gt 5, 3) := by decide +kernel
theorem dJ8_newLength_cabcc_19 : decode cJ8_newLength_cabcc 19 = .ok (.iload_n 3, 1) := by decide +kernel
theorem dJ8_newLength_cabcc_20 : decode cJ8_newLength_cabcc 20 = .ok (.ireturn, 1) := by decide +kernel
theorem dJ8_newLength_cabcc_21 : decode cJ8_newLength_cabcc 21 = .ok (.iload_n 0, 1) := by decide +kernel
theorem dJ8_newLength_cabcc_22 : decode cJ8_newLength_cabcc 22 = .ok (.iload_n 1, 1) := by decide +kernel
theorem dJ8_newLength_cabcc_23 : decode cJ8_newLength_cabcc 23 = .ok (.invokestatic 201, 3) := by decide +kernel
theorem dJ8_newLength_cabcc_26 : decode cJ8_newLength_cabcc 26 = .ok (.ireturn, 1) := by decide +kernel
theorem dJ8_hugeLength_7cf53_0 : decode cJ8_hugeLength_7cf53 0 = .ok (.iload_n 0, 1) := by decide +kernel
theorem dJ8_hugeLength_7cf53_1 : decode cJ8_hugeLength_7cf53 1 = .ok (.iload_n 1, 1) := by decide +kernel
theorem dJ8_hugeLength_7cf53_2 : decode cJ8_hugeLength_7cf53 2 = .ok (.iadd, 1) := by decide +kernel
theorem dJ8_hugeLength_7cf53_3 : decode cJ8_hugeLength_7cf53 3 = .ok (.istore_n 2, 1) := by decide +kernel
theorem dJ8_hugeLength_7cf53_4 : decode cJ8_hugeLength_7cf53 4 = .ok (.iload_n 2, 1) := by decide +kernel
theorem dJ8_hugeLength_7cf53_5 : decode cJ8_hugeLength_7cf53 5 = .ok (.ifCond .ge 44, 3) := by decide +kernel
theorem dJ8_hugeLength_7cf53_8 : decode cJ8_hugeLength_7cf53 8 = .ok (.new 204, 3) := by decide +kernel
theorem dJ8_hugeLength_7cf53_11 : decode cJ8_hugeLength_7cf53 11 = .ok (.dup, 1) := by decide +kernel
theorem dJ8_hugeLength_7cf53_12 : decode cJ8_hugeLength_7cf53 12 = .ok (.new 89, 3) := by decide +kernel
theorem dJ8_hugeLength_7cf53_15 : decode cJ8_hugeLength_7cf53 15 = .ok (.dup, 1) := by decide +kernel
theorem dJ8_hugeLength_7cf53_16 : decode cJ8_hugeLength_7cf53 16 = .ok (.invokespecial 91, 3) := by decide +kernel
theorem dJ8_hugeLength_7cf53_19 : decode cJ8_hugeLength_7cf53 19 = .ok (.ldc 206, 2) := by decide +kernel
theorem dJ8_hugeLength_7cf53_21 : decode cJ8_hugeLength_7cf53 21 = .ok (.invokevirtual 94, 3) := by decide +kernel
theorem dJ8_hugeLength_7cf53_24 : decode cJ8_hugeLength_7cf53 24 = .ok (.iload_n 0, 1) := by decide +kernel
theorem dJ8_hugeLength_7cf53_25 : decode cJ8_hugeLength_7cf53 25 = .ok (.invokevirtual 98, 3) := by decide +kernel
theorem dJ8_hugeLength_7cf53_28 : decode cJ8_hugeLength_7cf53 28 = .ok (.ldc 208, 2) := by decide +kernel
theorem dJ8_hugeLength_7cf53_30 : decode cJ8_hugeLength_7cf53 30 = .ok (.invokevirtual 94, 3) := by decide +kernel
theorem dJ8_hugeLength_7cf53_33 : decode cJ8_hugeLength_7cf53 33 = .ok (.iload_n 1, 1) := by decide +kernel
theorem dJ8_hugeLength_7cf53_34 : decode cJ8_hugeLength_7cf53 34 = .ok (.invokevirtual 98, 3) := by decide +kernel
theorem dJ8_hugeLength_7cf53_37 : decode cJ8_hugeLength_7cf53 37 = .ok (.ldc 210, 2) := by decide +kernel
theorem dJ8_hugeLength_7cf53_39 : decode cJ8_hugeLength_7cf53 39 = .ok (.invokevirtual 94, 3) := by decide +kernel
theorem dJ8_hugeLength_7cf53_42 : decode cJ8_hugeLength_7cf53 42 = .ok (.invokevirtual 101, 3) := by decide +kernel
theorem dJ8_hugeLength_7cf53_45 : decode cJ8_hugeLength_7cf53 45 = .ok (.invokespecial 212, 3) := by decide +kernel
theorem dJ8_hugeLength_7cf53_48 : decode cJ8_hugeLength_7cf53 48 = .ok (.athrow, 1) := by decide +kernel
theorem dJ8_hugeLength_7cf53_49 : decode cJ8_hugeLength_7cf53 49 = .ok (.iload_n 2, 1) := by decide +kernel
theorem dJ8_hugeLength_7cf53_50 : decode cJ8_hugeLength_7cf53 50 = .ok (.ldc 200, 2) := by decide +kernel
theorem dJ8_hugeLength_7cf53_52 : decode cJ8_hugeLength_7cf53 52 = .ok (.if_icmp .gt 6, 3) := by decide +kernel
theorem dJ8_hugeLength_7cf53_55 : decode cJ8_hugeLength_7cf53 55 = .ok (.ldc 200, 2) := by decide +kernel
theorem dJ8_hugeLength_7cf53_57 : decode cJ8_hugeLength_7cf53 57 = .ok (.ireturn, 1) := by decide +kernel
theorem dJ8_hugeLength_7cf53_58 : decode cJ8_hugeLength_7cf53 58 = .ok (.iload_n 2, 1) := by decide +kernel
theorem dJ8_hugeLength_7cf53_59 : decode cJ8_hugeLength_7cf53 59 = .ok (.ireturn, 1) := by decide +kernel
theorem dJ3_checkIndex_8e157_0 : decode cJ3_checkIndex_8e157 0 = .ok (.iload_n 0, 1) := by decide +kernel
theorem dJ3_checkIndex_8e157_1 : decode cJ3_checkIndex_8e157 1 = .ok (.ifCond .lt 8, 3) := by decide +kernel
theorem dJ3_checkIndex_8e157_4 : decode cJ3_checkIndex_8e157 4 = .ok (.iload_n 0, 1) := by decide +kernel
theorem dJ3_checkIndex_8e157_5 : decode cJ3_checkIndex_8e157 5 = .ok (.iload_n 1, 1) := by decide +kernel
theorem dJ3_checkIndex_8e157_6 : decode cJ3_checkIndex_8e157 6 = .ok (.if_icmp .lt 10, 3) := by decide +kernel
theorem dJ3_checkIndex_8e157_9 : decode cJ3_checkIndex_8e157 9 = .ok (.aload_n 2, 1) := by decide +kernel
theorem dJ3_checkIndex_8e157_10 : decode cJ3_checkIndex_8e157 10 = .ok (.iload_n 0, 1) := by decide +kernel
theorem dJ3_checkIndex_8e157_11 : decode cJ3_checkIndex_8e157 11 = .ok (.iload_n 1, 1) := by decide +kernel
theorem dJ3_checkIndex_8e157_12 : decode cJ3_checkIndex_8e157 12 = .ok (.invokestatic 95, 3) := by decide +kernel
theorem dJ3_checkIndex_8e157_15 : decode cJ3_checkIndex_8e157 15 = .ok (.athrow, 1) := by decide +kernel
theorem dJ3_checkIndex_8e157_16 : decode cJ3_checkIndex_8e157 16 = .ok (.iload_n 0, 1) := by decide +kernel
theorem dJ3_checkIndex_8e157_17 : decode cJ3_checkIndex_8e157 17 = .ok (.ireturn, 1) := by decide +kernel
