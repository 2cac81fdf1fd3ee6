theorem dM_init_0 : decode cM_init 0 = .ok (.aload_n 0, 1) := by decide +kernel
theorem dM_init_1 : decode cM_init 1 = .ok (.invokespecial 1, 3) := by decide +kernel
theorem dM_init_4 : decode cM_init 4 = .ok (.aload_n 0, 1) := by decide +kernel
theorem dM_init_5 : decode cM_init 5 = .ok (.iconst 4, 1) := by decide +kernel
theorem dM_init_6 : decode cM_init 6 = .ok (.newarray .int, 2) := by decide +kernel
theorem dM_init_8 : decode cM_init 8 = .ok (.putfield 7, 3) := by decide +kernel
theorem dM_init_11 : decode cM_init 11 = .ok (.aload_n 0, 1) := by decide +kernel
theorem dM_init_12 : decode cM_init 12 = .ok (.iconst 4, 1) := by decide +kernel
theorem dM_init_13 : decode cM_init 13 = .ok (.newarray .int, 2) := by decide +kernel
theorem dM_init_15 : decode cM_init 15 = .ok (.putfield 13, 3) := by decide +kernel
theorem dM_init_18 : decode cM_init 18 = .ok (.aload_n 0, 1) := by decide +kernel
theorem dM_init_19 : decode cM_init 19 = .ok (.sipush 4096, 3) := by decide +kernel
theorem dM_init_22 : decode cM_init 22 = .ok (.newarray .int, 2) := by decide +kernel
theorem dM_init_24 : decode cM_init 24 = .ok (.putfield 16, 3) := by decide +kernel
theorem dM_init_27 : decode cM_init 27 = .ok (.aload_n 0, 1) := by decide +kernel
theorem dM_init_28 : decode cM_init 28 = .ok (.sipush 1024, 3) := by decide +kernel
theorem dM_init_31 : decode cM_init 31 = .ok (.newarray .int, 2) := by decide +kernel
theorem dM_init_33 : decode cM_init 33 = .ok (.putfield 19, 3) := by decide +kernel
theorem dM_init_36 : decode cM_init 36 = .ok (.iconst 0, 1) := by decide +kernel
theorem dM_init_37 : decode cM_init 37 = .ok (.istore_n 1, 1) := by decide +kernel
theorem dM_init_38 : decode cM_init 38 = .ok (.iload_n 1, 1) := by decide +kernel
theorem dM_init_39 : decode cM_init 39 = .ok (.iconst 4, 1) := by decide +kernel
theorem dM_init_40 : decode cM_init 40 = .ok (.if_icmp .ge 23, 3) := by decide +kernel
theorem dM_init_43 : decode cM_init 43 = .ok (.aload_n 0, 1) := by decide +kernel
theorem dM_init_44 : decode cM_init 44 = .ok (.getfield 7, 3) := by decide +kernel
theorem dM_init_47 : decode cM_init 47 = .ok (.iload_n 1, 1) := by decide +kernel
theorem dM_init_48 : decode cM_init 48 = .ok (.iconst 1, 1) := by decide +kernel
theorem dM_init_49 : decode cM_init 49 = .ok (.iastore, 1) := by decide +kernel
theorem dM_init_50 : decode cM_init 50 = .ok (.aload_n 0, 1) := by decide +kernel
theorem dM_init_51 : decode cM_init 51 = .ok (.getfield 13, 3) := by decide +kernel
theorem dM_init_54 : decode cM_init 54 = .ok (.iload_n 1, 1) := by decide +kernel
theorem dM_init_55 : decode cM_init 55 = .ok (.iconst 1, 1) := by decide +kernel
theorem dM_init_56 : decode cM_init 56 = .ok (.iastore, 1) := by decide +kernel
theorem dM_init_57 : decode cM_init 57 = .ok (.iinc 1 1, 3) := by decide +kernel
theorem dM_init_60 : decode cM_init 60 = .ok (.goto (-22), 3) := by decide +kernel
theorem dM_init_63 : decode cM_init 63 = .ok (.return_, 1) := by decide +kernel
theorem dM_thrown_0 : decode cM_thrown 0 = .ok (.aload_n 0, 1) := by decide +kernel
theorem dM_thrown_1 : decode cM_thrown 1 = .ok (.getfield 22, 3) := by decide +kernel
theorem dM_thrown_4 : decode cM_thrown 4 = .ok (.ireturn, 1) := by decide +kernel
theorem dM_size_0 : decode cM_size 0 = .ok (.aload_n 0, 1) := by decide +kernel
theorem dM_size_1 : decode cM_size 1 = .ok (.iload_n 1, 1) := by decide +kernel
theorem dM_size_2 : decode cM_size 2 = .ok (.invokestatic 30, 3) := by decide +kernel
theorem dM_size_5 : decode cM_size 5 = .ok (.iload_n 2, 1) := by decide +kernel
theorem dM_size_6 : decode cM_size 6 = .ok (.iconst 1, 1) := by decide +kernel
theorem dM_size_7 : decode cM_size 7 = .ok (.bipush 32, 2) := by decide +kernel
theorem dM_size_9 : decode cM_size 9 = .ok (.invokestatic 26, 3) := by decide +kernel
theorem dM_size_12 : decode cM_size 12 = .ok (.ifCond .eq 17, 3) := by decide +kernel
theorem dM_size_15 : decode cM_size 15 = .ok (.iload_n 3, 1) := by decide +kernel
theorem dM_size_16 : decode cM_size 16 = .ok (.iconst 1, 1) := by decide +kernel
theorem dM_size_17 : decode cM_size 17 = .ok (.bipush 32, 2) := by decide +kernel
theorem dM_size_19 : decode cM_size 19 = .ok (.invokestatic 26, 3) := by decide +kernel
theorem dM_size_22 : decode cM_size 22 = .ok (.ifCond .eq 7, 3) := by decide +kernel
theorem dM_size_25 : decode cM_size 25 = .ok (.iconst 1, 1) := by decide +kernel
theorem dM_size_26 : decode cM_size 26 = .ok (.goto 4, 3) := by decide +kernel
theorem dM_size_29 : decode cM_size 29 = .ok (.iconst 0, 1) := by decide +kernel
theorem dM_size_30 : decode cM_size 30 = .ok (.invokevirtual 40, 3) := by decide +kernel
theorem dM_size_33 : decode cM_size 33 = .ok (.ifCond .ne 4, 3) := by decide +kernel
theorem dM_size_36 : decode cM_size 36 = .ok (.return_, 1) := by decide +kernel
theorem dM_size_37 : decode cM_size 37 = .ok (.aload_n 0, 1) := by decide +kernel
theorem dM_size_38 : decode cM_size 38 = .ok (.getfield 7, 3) := by decide +kernel
theorem dM_size_41 : decode cM_size 41 = .ok (.iload_n 1, 1) := by decide +kernel
theorem dM_size_42 : decode cM_size 42 = .ok (.iload_n 2, 1) := by decide +kernel
theorem dM_size_43 : decode cM_size 43 = .ok (.iastore, 1) := by decide +kernel
theorem dM_size_44 : decode cM_size 44 = .ok (.aload_n 0, 1) := by decide +kernel
theorem dM_size_45 : decode cM_size 45 = .ok (.getfield 13, 3) := by decide +kernel
theorem dM_size_48 : decode cM_size 48 = .ok (.iload_n 1, 1) := by decide +kernel
theorem dM_size_49 : decode cM_size 49 = .ok (.iload_n 3, 1) := by decide +kernel
theorem dM_size_50 : decode cM_size 50 = .ok (.iastore, 1) := by decide +kernel
theorem dM_size_51 : decode cM_size 51 = .ok (.iconst 0, 1) := by decide +kernel
theorem dM_size_52 : decode cM_size 52 = .ok (.istore 4, 2) := by decide +kernel
theorem dM_size_54 : decode cM_size 54 = .ok (.iload 4, 2) := by decide +kernel
theorem dM_size_56 : decode cM_size 56 = .ok (.sipush 1024, 3) := by decide +kernel
theorem dM_size_59 : decode cM_size 59 = .ok (.if_icmp .ge 23, 3) := by decide +kernel
theorem dM_size_62 : decode cM_size 62 = .ok (.aload_n 0, 1) := by decide +kernel
theorem dM_size_63 : decode cM_size 63 = .ok (.getfield 16, 3) := by decide +kernel
theorem dM_size_66 : decode cM_size 66 = .ok (.sipush 1024, 3) := by decide +kernel
theorem dM_size_69 : decode cM_size 69 = .ok (.iload_n 1, 1) := by decide +kernel
theorem dM_size_70 : decode cM_size 70 = .ok (.imul, 1) := by decide +kernel
theorem dM_size_71 : decode cM_size 71 = .ok (.iload 4, 2) := by decide +kernel
theorem dM_size_73 : decode cM_size 73 = .ok (.iadd, 1) := by decide +kernel
theorem dM_size_74 : decode cM_size 74 = .ok (.iconst 0, 1) := by decide +kernel
theorem dM_size_75 : decode cM_size 75 = .ok (.iastore, 1) := by decide +kernel
theorem dM_size_76 : decode cM_size 76 = .ok (.iinc 4 1, 3) := by decide +kernel
theorem dM_size_79 : decode cM_size 79 = .ok (.goto (-25), 3) := by decide +kernel
theorem dM_size_82 : decode cM_size 82 = .ok (.return_, 1) := by decide +kernel
theorem dM_isPlane_0 : decode cM_isPlane 0 = .ok (.iload_n 0, 1) := by decide +kernel
theorem dM_isPlane_1 : decode cM_isPlane 1 = .ok (.iconst 0, 1) := by decide +kernel
theorem dM_isPlane_2 : decode cM_isPlane 2 = .ok (.iconst 3, 1) := by decide +kernel
theorem dM_isPlane_3 : decode cM_isPlane 3 = .ok (.invokestatic 26, 3) := by decide +kernel
theorem dM_isPlane_6 : decode cM_isPlane 6 = .ok (.ireturn, 1) := by decide +kernel
theorem dM_in_0 : decode cM_in 0 = .ok (.iload_n 0, 1) := by decide +kernel
theorem dM_in_1 : decode cM_in 1 = .ok (.iload_n 1, 1) := by decide +kernel
theorem dM_in_2 : decode cM_in 2 = .ok (.if_icmp .lt 12, 3) := by decide +kernel
theorem dM_in_5 : decode cM_in 5 = .ok (.iload_n 0, 1) := by decide +kernel
theorem dM_in_6 : decode cM_in 6 = .ok (.iload_n 2, 1) := by decide +kernel
theorem dM_in_7 : decode cM_in 7 = .ok (.if_icmp .gt 7, 3) := by decide +kernel
theorem dM_in_10 : decode cM_in 10 = .ok (.iconst 1, 1) := by decide +kernel
theorem dM_in_11 : decode cM_in 11 = .ok (.goto 4, 3) := by decide +kernel
theorem dM_in_14 : decode cM_in 14 = .ok (.iconst 0, 1) := by decide +kernel
theorem dM_in_15 : decode cM_in 15 = .ok (.ireturn, 1) := by decide +kernel
theorem dM_goes_0 : decode cM_goes 0 = .ok (.aload_n 0, 1) := by decide +kernel
theorem dM_goes_1 : decode cM_goes 1 = .ok (.iload_n 1, 1) := by decide +kernel
theorem dM_goes_2 : decode cM_goes 2 = .ok (.ifCond .ne 7, 3) := by decide +kernel
theorem dM_goes_5 : decode cM_goes 5 = .ok (.iconst 1, 1) := by decide +kernel
theorem dM_goes_6 : decode cM_goes 6 = .ok (.goto 12, 3) := by decide +kernel
theorem dM_goes_9 : decode cM_goes 9 = .ok (.iload_n 2, 1) := by decide +kernel
theorem dM_goes_10 : decode cM_goes 10 = .ok (.ifCond .ne 7, 3) := by decide +kernel
theorem dM_goes_13 : decode cM_goes 13 = .ok (.iconst 2, 1) := by decide +kernel
theorem dM_goes_14 : decode cM_goes 14 = .ok (.goto 4, 3) := by decide +kernel
theorem dM_goes_17 : decode cM_goes 17 = .ok (.iconst 0, 1) := by decide +kernel
theorem dM_goes_18 : decode cM_goes 18 = .ok (.putfield 22, 3) := by decide +kernel
theorem dM_goes_21 : decode cM_goes 21 = .ok (.aload_n 0, 1) := by decide +kernel
theorem dM_goes_22 : decode cM_goes 22 = .ok (.getfield 22, 3) := by decide +kernel
theorem dM_goes_25 : decode cM_goes 25 = .ok (.ifCond .ne 7, 3) := by decide +kernel
theorem dM_goes_28 : decode cM_goes 28 = .ok (.iconst 1, 1) := by decide +kernel
theorem dM_goes_29 : decode cM_goes 29 = .ok (.goto 4, 3) := by decide +kernel
theorem dM_goes_32 : decode cM_goes 32 = .ok (.iconst 0, 1) := by decide +kernel
theorem dM_goes_33 : decode cM_goes 33 = .ok (.ireturn, 1) := by decide +kernel
theorem dM_put_0 : decode cM_put 0 = .ok (.aload_n 0, 1) := by decide +kernel
theorem dM_put_1 : decode cM_put 1 = .ok (.aload_n 0, 1) := by decide +kernel
theorem dM_put_2 : decode cM_put 2 = .ok (.iload_n 1, 1) := by decide +kernel
theorem dM_put_3 : decode cM_put 3 = .ok (.iload_n 2, 1) := by decide +kernel
theorem dM_put_4 : decode cM_put 4 = .ok (.iload_n 3, 1) := by decide +kernel
theorem dM_put_5 : decode cM_put 5 = .ok (.invokevirtual 44, 3) := by decide +kernel
theorem dM_put_8 : decode cM_put 8 = .ok (.iload 4, 2) := by decide +kernel
theorem dM_put_10 : decode cM_put 10 = .ok (.iconst 0, 1) := by decide +kernel
theorem dM_put_11 : decode cM_put 11 = .ok (.sipush 255, 3) := by decide +kernel
theorem dM_put_14 : decode cM_put 14 = .ok (.invokestatic 26, 3) := by decide +kernel
theorem dM_put_17 : decode cM_put 17 = .ok (.invokevirtual 40, 3) := by decide +kernel
theorem dM_put_20 : decode cM_put 20 = .ok (.ifCond .eq 16, 3) := by decide +kernel
theorem dM_put_23 : decode cM_put 23 = .ok (.aload_n 0, 1) := by decide +kernel
theorem dM_put_24 : decode cM_put 24 = .ok (.getfield 16, 3) := by decide +kernel
theorem dM_put_27 : decode cM_put 27 = .ok (.iload_n 1, 1) := by decide +kernel
theorem dM_put_28 : decode cM_put 28 = .ok (.iload_n 2, 1) := by decide +kernel
theorem dM_put_29 : decode cM_put 29 = .ok (.iload_n 3, 1) := by decide +kernel
theorem dM_put_30 : decode cM_put 30 = .ok (.invokestatic 47, 3) := by decide +kernel
theorem dM_put_33 : decode cM_put 33 = .ok (.iload 4, 2) := by decide +kernel
theorem dM_put_35 : decode cM_put 35 = .ok (.iastore, 1) := by decide +kernel
theorem dM_put_36 : decode cM_put 36 = .ok (.return_, 1) := by decide +kernel
theorem dM_isSample_0 : decode cM_isSample 0 = .ok (.iload_n 1, 1) := by decide +kernel
theorem dM_isSample_1 : decode cM_isSample 1 = .ok (.invokestatic 30, 3) := by decide +kernel
theorem dM_isSample_4 : decode cM_isSample 4 = .ok (.ifCond .eq 39, 3) := by decide +kernel
theorem dM_isSample_7 : decode cM_isSample 7 = .ok (.iload_n 2, 1) := by decide +kernel
theorem dM_isSample_8 : decode cM_isSample 8 = .ok (.iconst 0, 1) := by decide +kernel
theorem dM_isSample_9 : decode cM_isSample 9 = .ok (.aload_n 0, 1) := by decide +kernel
theorem dM_isSample_10 : decode cM_isSample 10 = .ok (.getfield 7, 3) := by decide +kernel
theorem dM_isSample_13 : decode cM_isSample 13 = .ok (.iload_n 1, 1) := by decide +kernel
theorem dM_isSample_14 : decode cM_isSample 14 = .ok (.iaload, 1) := by decide +kernel
theorem dM_isSample_15 : decode cM_isSample 15 = .ok (.iconst 1, 1) := by decide +kernel
theorem dM_isSample_16 : decode cM_isSample 16 = .ok (.isub, 1) := by decide +kernel
theorem dM_isSample_17 : decode cM_isSample 17 = .ok (.invokestatic 26, 3) := by decide +kernel
theorem dM_isSample_20 : decode cM_isSample 20 = .ok (.ifCond .eq 23, 3) := by decide +kernel
theorem dM_isSample_23 : decode cM_isSample 23 = .ok (.iload_n 3, 1) := by decide +kernel
theorem dM_isSample_24 : decode cM_isSample 24 = .ok (.iconst 0, 1) := by decide +kernel
theorem dM_isSample_25 : decode cM_isSample 25 = .ok (.aload_n 0, 1) := by decide +kernel
theorem dM_isSample_26 : decode cM_isSample 26 = .ok (.getfield 13, 3) := by decide +kernel
theorem dM_isSample_29 : decode cM_isSample 29 = .ok (.iload_n 1, 1) := by decide +kernel
theorem dM_isSample_30 : decode cM_isSample 30 = .ok (.iaload, 1) := by decide +kernel
theorem dM_isSample_31 : decode cM_isSample 31 = .ok (.iconst 1, 1) := by decide +kernel
theorem dM_isSample_32 : decode cM_isSample 32 = .ok (.isub, 1) := by decide +kernel
theorem dM_isSample_33 : decode cM_isSample 33 = .ok (.invokestatic 26, 3) := by decide +kernel
theorem dM_isSample_36 : decode cM_isSample 36 = .ok (.ifCond .eq 7, 3) := by decide +kernel
theorem dM_isSample_39 : decode cM_isSample 39 = .ok (.iconst 1, 1) := by decide +kernel
theorem dM_isSample_40 : decode cM_isSample 40 = .ok (.goto 4, 3) := by decide +kernel
theorem dM_isSample_43 : decode cM_isSample 43 = .ok (.iconst 0, 1) := by decide +kernel
theorem dM_isSample_44 : decode cM_isSample 44 = .ok (.ireturn, 1) := by decide +kernel
theorem dM_cell_0 : decode cM_cell 0 = .ok (.sipush 1024, 3) := by decide +kernel
theorem dM_cell_3 : decode cM_cell 3 = .ok (.iload_n 0, 1) := by decide +kernel
theorem dM_cell_4 : decode cM_cell 4 = .ok (.imul, 1) := by decide +kernel
theorem dM_cell_5 : decode cM_cell 5 = .ok (.bipush 32, 2) := by decide +kernel
theorem dM_cell_7 : decode cM_cell 7 = .ok (.iload_n 2, 1) := by decide +kernel
theorem dM_cell_8 : decode cM_cell 8 = .ok (.imul, 1) := by decide +kernel
theorem dM_cell_9 : decode cM_cell 9 = .ok (.iadd, 1) := by decide +kernel
theorem dM_cell_10 : decode cM_cell 10 = .ok (.iload_n 1, 1) := by decide +kernel
theorem dM_cell_11 : decode cM_cell 11 = .ok (.iadd, 1) := by decide +kernel
theorem dM_cell_12 : decode cM_cell 12 = .ok (.ireturn, 1) := by decide +kernel
theorem dM_row_0 : decode cM_row 0 = .ok (.aload_n 0, 1) := by decide +kernel
theorem dM_row_1 : decode cM_row 1 = .ok (.aload_n 0, 1) := by decide +kernel
theorem dM_row_2 : decode cM_row 2 = .ok (.iload_n 1, 1) := by decide +kernel
theorem dM_row_3 : decode cM_row 3 = .ok (.iload_n 2, 1) := by decide +kernel
theorem dM_row_4 : decode cM_row 4 = .ok (.iload_n 3, 1) := by decide +kernel
theorem dM_row_5 : decode cM_row 5 = .ok (.invokevirtual 44, 3) := by decide +kernel
theorem dM_row_8 : decode cM_row 8 = .ok (.iconst 1, 1) := by decide +kernel
theorem dM_row_9 : decode cM_row 9 = .ok (.invokevirtual 40, 3) := by decide +kernel
theorem dM_row_12 : decode cM_row 12 = .ok (.ifCond .ne 4, 3) := by decide +kernel
theorem dM_row_15 : decode cM_row 15 = .ok (.return_, 1) := by decide +kernel
theorem dM_row_16 : decode cM_row 16 = .ok (.iconst 0, 1) := by decide +kernel
theorem dM_row_17 : decode cM_row 17 = .ok (.istore 6, 2) := by decide +kernel
theorem dM_row_19 : decode cM_row 19 = .ok (.iload 6, 2) := by decide +kernel
theorem dM_row_21 : decode cM_row 21 = .ok (.bipush 8, 2) := by decide +kernel
theorem dM_row_23 : decode cM_row 23 = .ok (.if_icmp .ge 52, 3) := by decide +kernel
theorem dM_row_26 : decode cM_row 26 = .ok (.iload_n 2, 1) := by decide +kernel
theorem dM_row_27 : decode cM_row 27 = .ok (.iload 6, 2) := by decide +kernel
theorem dM_row_29 : decode cM_row 29 = .ok (.iadd, 1) := by decide +kernel
theorem dM_row_30 : decode cM_row 30 = .ok (.aload_n 0, 1) := by decide +kernel
theorem dM_row_31 : decode cM_row 31 = .ok (.getfield 7, 3) := by decide +kernel
theorem dM_row_34 : decode cM_row 34 = .ok (.iload_n 1, 1) := by decide +kernel
theorem dM_row_35 : decode cM_row 35 = .ok (.iaload, 1) := by decide +kernel
theorem dM_row_36 : decode cM_row 36 = .ok (.if_icmp .ge 39, 3) := by decide +kernel
theorem dM_row_39 : decode cM_row 39 = .ok (.aload_n 0, 1) := by decide +kernel
theorem dM_row_40 : decode cM_row 40 = .ok (.getfield 16, 3) := by decide +kernel
theorem dM_row_43 : decode cM_row 43 = .ok (.iload_n 1, 1) := by decide +kernel
theorem dM_row_44 : decode cM_row 44 = .ok (.iload_n 2, 1) := by decide +kernel
theorem dM_row_45 : decode cM_row 45 = .ok (.iload 6, 2) := by decide +kernel
theorem dM_row_47 : decode cM_row 47 = .ok (.iadd, 1) := by decide +kernel
theorem dM_row_48 : decode cM_row 48 = .ok (.iload_n 3, 1) := by decide +kernel
theorem dM_row_49 : decode cM_row 49 = .ok (.invokestatic 47, 3) := by decide +kernel
theorem dM_row_52 : decode cM_row 52 = .ok (.lload 4, 2) := by decide +kernel
theorem dM_row_54 : decode cM_row 54 = .ok (.bipush 56, 2) := by decide +kernel
theorem dM_row_56 : decode cM_row 56 = .ok (.bipush 8, 2) := by decide +kernel
theorem dM_row_58 : decode cM_row 58 = .ok (.iload 6, 2) := by decide +kernel
theorem dM_row_60 : decode cM_row 60 = .ok (.imul, 1) := by decide +kernel
theorem dM_row_61 : decode cM_row 61 = .ok (.isub, 1) := by decide +kernel
theorem dM_row_62 : decode cM_row 62 = .ok (.lshr, 1) := by decide +kernel
theorem dM_row_63 : decode cM_row 63 = .ok (.ldc2_w 51, 3) := by decide +kernel
theorem dM_row_66 : decode cM_row 66 = .ok (.land, 1) := by decide +kernel
theorem dM_row_67 : decode cM_row 67 = .ok (.l2i, 1) := by decide +kernel
theorem dM_row_68 : decode cM_row 68 = .ok (.iastore, 1) := by decide +kernel
theorem dM_row_69 : decode cM_row 69 = .ok (.iinc 6 1, 3) := by decide +kernel
theorem dM_row_72 : decode cM_row 72 = .ok (.goto (-53), 3) := by decide +kernel
theorem dM_row_75 : decode cM_row 75 = .ok (.return_, 1) := by decide +kernel
theorem dM_grow_0 : decode cM_grow 0 = .ok (.aload_n 0, 1) := by decide +kernel
theorem dM_grow_1 : decode cM_grow 1 = .ok (.iload_n 1, 1) := by decide +kernel
theorem dM_grow_2 : decode cM_grow 2 = .ok (.invokestatic 30, 3) := by decide +kernel
theorem dM_grow_5 : decode cM_grow 5 = .ok (.iconst 1, 1) := by decide +kernel
theorem dM_grow_6 : decode cM_grow 6 = .ok (.invokevirtual 40, 3) := by decide +kernel
theorem dM_grow_9 : decode cM_grow 9 = .ok (.ifCond .eq 12, 3) := by decide +kernel
theorem dM_grow_12 : decode cM_grow 12 = .ok (.iload_n 2, 1) := by decide +kernel
theorem dM_grow_13 : decode cM_grow 13 = .ok (.iconst 0, 1) := by decide +kernel
theorem dM_grow_14 : decode cM_grow 14 = .ok (.iconst 5, 1) := by decide +kernel
theorem dM_grow_15 : decode cM_grow 15 = .ok (.invokestatic 26, 3) := by decide +kernel
theorem dM_grow_18 : decode cM_grow 18 = .ok (.ifCond .ne 5, 3) := by decide +kernel
theorem dM_grow_21 : decode cM_grow 21 = .ok (.iconst 0, 1) := by decide +kernel
theorem dM_grow_22 : decode cM_grow 22 = .ok (.ireturn, 1) := by decide +kernel
theorem dM_grow_23 : decode cM_grow 23 = .ok (.iload_n 2, 1) := by decide +kernel
theorem dM_grow_24 : decode cM_grow 24 = .ok (.iconst 2, 1) := by decide +kernel
theorem dM_grow_25 : decode cM_grow 25 = .ok (.if_icmp .lt 8, 3) := by decide +kernel
theorem dM_grow_28 : decode cM_grow 28 = .ok (.iload_n 2, 1) := by decide +kernel
theorem dM_grow_29 : decode cM_grow 29 = .ok (.iconst 3, 1) := by decide +kernel
theorem dM_grow_30 : decode cM_grow 30 = .ok (.if_icmp .le 7, 3) := by decide +kernel
theorem dM_grow_33 : decode cM_grow 33 = .ok (.iconst 1, 1) := by decide +kernel
theorem dM_grow_34 : decode cM_grow 34 = .ok (.goto 4, 3) := by decide +kernel
theorem dM_grow_37 : decode cM_grow 37 = .ok (.iconst 0, 1) := by decide +kernel
theorem dM_grow_38 : decode cM_grow 38 = .ok (.istore_n 3, 1) := by decide +kernel
theorem dM_grow_39 : decode cM_grow 39 = .ok (.iload_n 2, 1) := by decide +kernel
theorem dM_grow_40 : decode cM_grow 40 = .ok (.iconst 1, 1) := by decide +kernel
theorem dM_grow_41 : decode cM_grow 41 = .ok (.if_icmp .le 7, 3) := by decide +kernel
theorem dM_grow_44 : decode cM_grow 44 = .ok (.iconst 1, 1) := by decide +kernel
theorem dM_grow_45 : decode cM_grow 45 = .ok (.goto 4, 3) := by decide +kernel
theorem dM_grow_48 : decode cM_grow 48 = .ok (.iconst 0, 1) := by decide +kernel
theorem dM_grow_49 : decode cM_grow 49 = .ok (.istore 4, 2) := by decide +kernel
theorem dM_grow_51 : decode cM_grow 51 = .ok (.iload_n 3, 1) := by decide +kernel
theorem dM_grow_52 : decode cM_grow 52 = .ok (.ifCond .eq 16, 3) := by decide +kernel
theorem dM_grow_55 : decode cM_grow 55 = .ok (.iconst 2, 1) := by decide +kernel
theorem dM_grow_56 : decode cM_grow 56 = .ok (.aload_n 0, 1) := by decide +kernel
theorem dM_grow_57 : decode cM_grow 57 = .ok (.getfield 7, 3) := by decide +kernel
theorem dM_grow_60 : decode cM_grow 60 = .ok (.iload_n 1, 1) := by decide +kernel
theorem dM_grow_61 : decode cM_grow 61 = .ok (.iaload, 1) := by decide +kernel
theorem dM_grow_62 : decode cM_grow 62 = .ok (.imul, 1) := by decide +kernel
theorem dM_grow_63 : decode cM_grow 63 = .ok (.bipush 32, 2) := by decide +kernel
theorem dM_grow_65 : decode cM_grow 65 = .ok (.if_icmp .gt 21, 3) := by decide +kernel
theorem dM_grow_68 : decode cM_grow 68 = .ok (.iload 4, 2) := by decide +kernel
theorem dM_grow_70 : decode cM_grow 70 = .ok (.ifCond .eq 18, 3) := by decide +kernel
theorem dM_grow_73 : decode cM_grow 73 = .ok (.iconst 2, 1) := by decide +kernel
theorem dM_grow_74 : decode cM_grow 74 = .ok (.aload_n 0, 1) := by decide +kernel
theorem dM_grow_75 : decode cM_grow 75 = .ok (.getfield 13, 3) := by decide +kernel
theorem dM_grow_78 : decode cM_grow 78 = .ok (.iload_n 1, 1) := by decide +kernel
theorem dM_grow_79 : decode cM_grow 79 = .ok (.iaload, 1) := by decide +kernel
theorem dM_grow_80 : decode cM_grow 80 = .ok (.imul, 1) := by decide +kernel
theorem dM_grow_81 : decode cM_grow 81 = .ok (.bipush 32, 2) := by decide +kernel
theorem dM_grow_83 : decode cM_grow 83 = .ok (.if_icmp .le 5, 3) := by decide +kernel
theorem dM_grow_86 : decode cM_grow 86 = .ok (.iconst 0, 1) := by decide +kernel
theorem dM_grow_87 : decode cM_grow 87 = .ok (.ireturn, 1) := by decide +kernel
theorem dM_grow_88 : decode cM_grow 88 = .ok (.iload_n 3, 1) := by decide +kernel
theorem dM_grow_89 : decode cM_grow 89 = .ok (.ifCond .eq 20, 3) := by decide +kernel
theorem dM_grow_92 : decode cM_grow 92 = .ok (.aload_n 0, 1) := by decide +kernel
theorem dM_grow_93 : decode cM_grow 93 = .ok (.iload_n 1, 1) := by decide +kernel
theorem dM_grow_94 : decode cM_grow 94 = .ok (.iload_n 2, 1) := by decide +kernel
theorem dM_grow_95 : decode cM_grow 95 = .ok (.iconst 2, 1) := by decide +kernel
theorem dM_grow_96 : decode cM_grow 96 = .ok (.irem, 1) := by decide +kernel
theorem dM_grow_97 : decode cM_grow 97 = .ok (.iconst 1, 1) := by decide +kernel
theorem dM_grow_98 : decode cM_grow 98 = .ok (.if_icmp .ne 7, 3) := by decide +kernel
theorem dM_grow_101 : decode cM_grow 101 = .ok (.iconst 1, 1) := by decide +kernel
theorem dM_grow_102 : decode cM_grow 102 = .ok (.goto 4, 3) := by decide +kernel
theorem dM_grow_105 : decode cM_grow 105 = .ok (.iconst 0, 1) := by decide +kernel
theorem dM_grow_106 : decode cM_grow 106 = .ok (.invokevirtual 61, 3) := by decide +kernel
theorem dM_grow_109 : decode cM_grow 109 = .ok (.iload 4, 2) := by decide +kernel
theorem dM_grow_111 : decode cM_grow 111 = .ok (.ifCond .eq 20, 3) := by decide +kernel
theorem dM_grow_114 : decode cM_grow 114 = .ok (.aload_n 0, 1) := by decide +kernel
theorem dM_grow_115 : decode cM_grow 115 = .ok (.iload_n 1, 1) := by decide +kernel
theorem dM_grow_116 : decode cM_grow 116 = .ok (.iload_n 2, 1) := by decide +kernel
theorem dM_grow_117 : decode cM_grow 117 = .ok (.iconst 2, 1) := by decide +kernel
theorem dM_grow_118 : decode cM_grow 118 = .ok (.irem, 1) := by decide +kernel
theorem dM_grow_119 : decode cM_grow 119 = .ok (.iconst 1, 1) := by decide +kernel
theorem dM_grow_120 : decode cM_grow 120 = .ok (.if_icmp .ne 7, 3) := by decide +kernel
theorem dM_grow_123 : decode cM_grow 123 = .ok (.iconst 1, 1) := by decide +kernel
theorem dM_grow_124 : decode cM_grow 124 = .ok (.goto 4, 3) := by decide +kernel
theorem dM_grow_127 : decode cM_grow 127 = .ok (.iconst 0, 1) := by decide +kernel
theorem dM_grow_128 : decode cM_grow 128 = .ok (.invokevirtual 65, 3) := by decide +kernel
theorem dM_grow_131 : decode cM_grow 131 = .ok (.iconst 1, 1) := by decide +kernel
theorem dM_grow_132 : decode cM_grow 132 = .ok (.ireturn, 1) := by decide +kernel
theorem dM_across_0 : decode cM_across 0 = .ok (.aload_n 0, 1) := by decide +kernel
theorem dM_across_1 : decode cM_across 1 = .ok (.iload_n 1, 1) := by decide +kernel
theorem dM_across_2 : decode cM_across 2 = .ok (.invokevirtual 53, 3) := by decide +kernel
theorem dM_across_5 : decode cM_across 5 = .ok (.aload_n 0, 1) := by decide +kernel
theorem dM_across_6 : decode cM_across 6 = .ok (.getfield 7, 3) := by decide +kernel
theorem dM_across_9 : decode cM_across 9 = .ok (.iload_n 1, 1) := by decide +kernel
theorem dM_across_10 : decode cM_across 10 = .ok (.iconst 2, 1) := by decide +kernel
theorem dM_across_11 : decode cM_across 11 = .ok (.aload_n 0, 1) := by decide +kernel
theorem dM_across_12 : decode cM_across 12 = .ok (.getfield 34, 3) := by decide +kernel
theorem dM_across_15 : decode cM_across 15 = .ok (.imul, 1) := by decide +kernel
theorem dM_across_16 : decode cM_across 16 = .ok (.iastore, 1) := by decide +kernel
theorem dM_across_17 : decode cM_across 17 = .ok (.iconst 0, 1) := by decide +kernel
theorem dM_across_18 : decode cM_across 18 = .ok (.istore_n 3, 1) := by decide +kernel
theorem dM_across_19 : decode cM_across 19 = .ok (.iload_n 3, 1) := by decide +kernel
theorem dM_across_20 : decode cM_across 20 = .ok (.aload_n 0, 1) := by decide +kernel
theorem dM_across_21 : decode cM_across 21 = .ok (.getfield 37, 3) := by decide +kernel
theorem dM_across_24 : decode cM_across 24 = .ok (.if_icmp .ge 120, 3) := by decide +kernel
theorem dM_across_27 : decode cM_across 27 = .ok (.iconst 0, 1) := by decide +kernel
theorem dM_across_28 : decode cM_across 28 = .ok (.istore 4, 2) := by decide +kernel
theorem dM_across_30 : decode cM_across 30 = .ok (.iload 4, 2) := by decide +kernel
theorem dM_across_32 : decode cM_across 32 = .ok (.aload_n 0, 1) := by decide +kernel
theorem dM_across_33 : decode cM_across 33 = .ok (.getfield 34, 3) := by decide +kernel
theorem dM_across_36 : decode cM_across 36 = .ok (.if_icmp .ge 102, 3) := by decide +kernel
theorem dM_across_39 : decode cM_across 39 = .ok (.aload_n 0, 1) := by decide +kernel
theorem dM_across_40 : decode cM_across 40 = .ok (.iload 4, 2) := by decide +kernel
theorem dM_across_42 : decode cM_across 42 = .ok (.iload_n 3, 1) := by decide +kernel
theorem dM_across_43 : decode cM_across 43 = .ok (.invokevirtual 57, 3) := by decide +kernel
theorem dM_across_46 : decode cM_across 46 = .ok (.istore 5, 2) := by decide +kernel
theorem dM_across_48 : decode cM_across 48 = .ok (.aload_n 0, 1) := by decide +kernel
theorem dM_across_49 : decode cM_across 49 = .ok (.getfield 16, 3) := by decide +kernel
theorem dM_across_52 : decode cM_across 52 = .ok (.iload_n 1, 1) := by decide +kernel
theorem dM_across_53 : decode cM_across 53 = .ok (.iconst 2, 1) := by decide +kernel
theorem dM_across_54 : decode cM_across 54 = .ok (.iload 4, 2) := by decide +kernel
theorem dM_across_56 : decode cM_across 56 = .ok (.imul, 1) := by decide +kernel
theorem dM_across_57 : decode cM_across 57 = .ok (.iload_n 3, 1) := by decide +kernel
theorem dM_across_58 : decode cM_across 58 = .ok (.invokestatic 47, 3) := by decide +kernel
theorem dM_across_61 : decode cM_across 61 = .ok (.iload_n 2, 1) := by decide +kernel
theorem dM_across_62 : decode cM_across 62 = .ok (.ifCond .eq 24, 3) := by decide +kernel
theorem dM_across_65 : decode cM_across 65 = .ok (.iconst 3, 1) := by decide +kernel
theorem dM_across_66 : decode cM_across 66 = .ok (.iload 5, 2) := by decide +kernel
theorem dM_across_68 : decode cM_across 68 = .ok (.imul, 1) := by decide +kernel
theorem dM_across_69 : decode cM_across 69 = .ok (.aload_n 0, 1) := by decide +kernel
theorem dM_across_70 : decode cM_across 70 = .ok (.iload 4, 2) := by decide +kernel
theorem dM_across_72 : decode cM_across 72 = .ok (.iconst 1, 1) := by decide +kernel
theorem dM_across_73 : decode cM_across 73 = .ok (.isub, 1) := by decide +kernel
theorem dM_across_74 : decode cM_across 74 = .ok (.iload_n 3, 1) := by decide +kernel
theorem dM_across_75 : decode cM_across 75 = .ok (.invokevirtual 57, 3) := by decide +kernel
theorem dM_across_78 : decode cM_across 78 = .ok (.iadd, 1) := by decide +kernel
theorem dM_across_79 : decode cM_across 79 = .ok (.iconst 1, 1) := by decide +kernel
theorem dM_across_80 : decode cM_across 80 = .ok (.iadd, 1) := by decide +kernel
theorem dM_across_81 : decode cM_across 81 = .ok (.iconst 2, 1) := by decide +kernel
theorem dM_across_82 : decode cM_across 82 = .ok (.ishr, 1) := by decide +kernel
theorem dM_across_83 : decode cM_across 83 = .ok (.goto 5, 3) := by decide +kernel
theorem dM_across_86 : decode cM_across 86 = .ok (.iload 5, 2) := by decide +kernel
theorem dM_across_88 : decode cM_across 88 = .ok (.iastore, 1) := by decide +kernel
theorem dM_across_89 : decode cM_across 89 = .ok (.aload_n 0, 1) := by decide +kernel
theorem dM_across_90 : decode cM_across 90 = .ok (.getfield 16, 3) := by decide +kernel
theorem dM_across_93 : decode cM_across 93 = .ok (.iload_n 1, 1) := by decide +kernel
theorem dM_across_94 : decode cM_across 94 = .ok (.iconst 2, 1) := by decide +kernel
theorem dM_across_95 : decode cM_across 95 = .ok (.iload 4, 2) := by decide +kernel
theorem dM_across_97 : decode cM_across 97 = .ok (.imul, 1) := by decide +kernel
theorem dM_across_98 : decode cM_across 98 = .ok (.iconst 1, 1) := by decide +kernel
theorem dM_across_99 : decode cM_across 99 = .ok (.iadd, 1) := by decide +kernel
theorem dM_across_100 : decode cM_across 100 = .ok (.iload_n 3, 1) := by decide +kernel
theorem dM_across_101 : decode cM_across 101 = .ok (.invokestatic 47, 3) := by decide +kernel
theorem dM_across_104 : decode cM_across 104 = .ok (.iload_n 2, 1) := by decide +kernel
theorem dM_across_105 : decode cM_across 105 = .ok (.ifCond .eq 24, 3) := by decide +kernel
theorem dM_across_108 : decode cM_across 108 = .ok (.iconst 3, 1) := by decide +kernel
theorem dM_across_109 : decode cM_across 109 = .ok (.iload 5, 2) := by decide +kernel
theorem dM_across_111 : decode cM_across 111 = .ok (.imul, 1) := by decide +kernel
theorem dM_across_112 : decode cM_across 112 = .ok (.aload_n 0, 1) := by decide +kernel
theorem dM_across_113 : decode cM_across 113 = .ok (.iload 4, 2) := by decide +kernel
theorem dM_across_115 : decode cM_across 115 = .ok (.iconst 1, 1) := by decide +kernel
theorem dM_across_116 : decode cM_across 116 = .ok (.iadd, 1) := by decide +kernel
theorem dM_across_117 : decode cM_across 117 = .ok (.iload_n 3, 1) := by decide +kernel
theorem dM_across_118 : decode cM_across 118 = .ok (.invokevirtual 57, 3) := by decide +kernel
theorem dM_across_121 : decode cM_across 121 = .ok (.iadd, 1) := by decide +kernel
theorem dM_across_122 : decode cM_across 122 = .ok (.iconst 2, 1) := by decide +kernel
theorem dM_across_123 : decode cM_across 123 = .ok (.iadd, 1) := by decide +kernel
theorem dM_across_124 : decode cM_across 124 = .ok (.iconst 2, 1) := by decide +kernel
theorem dM_across_125 : decode cM_across 125 = .ok (.ishr, 1) := by decide +kernel
theorem dM_across_126 : decode cM_across 126 = .ok (.goto 5, 3) := by decide +kernel
theorem dM_across_129 : decode cM_across 129 = .ok (.iload 5, 2) := by decide +kernel
theorem dM_across_131 : decode cM_across 131 = .ok (.iastore, 1) := by decide +kernel
theorem dM_across_132 : decode cM_across 132 = .ok (.iinc 4 1, 3) := by decide +kernel
theorem dM_across_135 : decode cM_across 135 = .ok (.goto (-105), 3) := by decide +kernel
theorem dM_across_138 : decode cM_across 138 = .ok (.iinc 3 1, 3) := by decide +kernel
theorem dM_across_141 : decode cM_across 141 = .ok (.goto (-122), 3) := by decide +kernel
theorem dM_across_144 : decode cM_across 144 = .ok (.return_, 1) := by decide +kernel
theorem dM_keep_0 : decode cM_keep 0 = .ok (.aload_n 0, 1) := by decide +kernel
theorem dM_keep_1 : decode cM_keep 1 = .ok (.aload_n 0, 1) := by decide +kernel
theorem dM_keep_2 : decode cM_keep 2 = .ok (.getfield 7, 3) := by decide +kernel
theorem dM_keep_5 : decode cM_keep 5 = .ok (.iload_n 1, 1) := by decide +kernel
theorem dM_keep_6 : decode cM_keep 6 = .ok (.iaload, 1) := by decide +kernel
theorem dM_keep_7 : decode cM_keep 7 = .ok (.putfield 34, 3) := by decide +kernel
theorem dM_keep_10 : decode cM_keep 10 = .ok (.aload_n 0, 1) := by decide +kernel
theorem dM_keep_11 : decode cM_keep 11 = .ok (.aload_n 0, 1) := by decide +kernel
theorem dM_keep_12 : decode cM_keep 12 = .ok (.getfield 13, 3) := by decide +kernel
theorem dM_keep_15 : decode cM_keep 15 = .ok (.iload_n 1, 1) := by decide +kernel
theorem dM_keep_16 : decode cM_keep 16 = .ok (.iaload, 1) := by decide +kernel
theorem dM_keep_17 : decode cM_keep 17 = .ok (.putfield 37, 3) := by decide +kernel
theorem dM_keep_20 : decode cM_keep 20 = .ok (.iconst 0, 1) := by decide +kernel
theorem dM_keep_21 : decode cM_keep 21 = .ok (.istore_n 2, 1) := by decide +kernel
theorem dM_keep_22 : decode cM_keep 22 = .ok (.iload_n 2, 1) := by decide +kernel
theorem dM_keep_23 : decode cM_keep 23 = .ok (.sipush 1024, 3) := by decide +kernel
theorem dM_keep_26 : decode cM_keep 26 = .ok (.if_icmp .ge 27, 3) := by decide +kernel
theorem dM_keep_29 : decode cM_keep 29 = .ok (.aload_n 0, 1) := by decide +kernel
theorem dM_keep_30 : decode cM_keep 30 = .ok (.getfield 19, 3) := by decide +kernel
theorem dM_keep_33 : decode cM_keep 33 = .ok (.iload_n 2, 1) := by decide +kernel
theorem dM_keep_34 : decode cM_keep 34 = .ok (.aload_n 0, 1) := by decide +kernel
theorem dM_keep_35 : decode cM_keep 35 = .ok (.getfield 16, 3) := by decide +kernel
theorem dM_keep_38 : decode cM_keep 38 = .ok (.sipush 1024, 3) := by decide +kernel
theorem dM_keep_41 : decode cM_keep 41 = .ok (.iload_n 1, 1) := by decide +kernel
theorem dM_keep_42 : decode cM_keep 42 = .ok (.imul, 1) := by decide +kernel
theorem dM_keep_43 : decode cM_keep 43 = .ok (.iload_n 2, 1) := by decide +kernel
theorem dM_keep_44 : decode cM_keep 44 = .ok (.iadd, 1) := by decide +kernel
theorem dM_keep_45 : decode cM_keep 45 = .ok (.iaload, 1) := by decide +kernel
theorem dM_keep_46 : decode cM_keep 46 = .ok (.iastore, 1) := by decide +kernel
theorem dM_keep_47 : decode cM_keep 47 = .ok (.iinc 2 1, 3) := by decide +kernel
theorem dM_keep_50 : decode cM_keep 50 = .ok (.goto (-28), 3) := by decide +kernel
theorem dM_keep_53 : decode cM_keep 53 = .ok (.return_, 1) := by decide +kernel
theorem dM_was_0 : decode cM_was 0 = .ok (.iload_n 1, 1) := by decide +kernel
theorem dM_was_1 : decode cM_was 1 = .ok (.ifCond .ge 7, 3) := by decide +kernel
theorem dM_was_4 : decode cM_was 4 = .ok (.iconst 0, 1) := by decide +kernel
theorem dM_was_5 : decode cM_was 5 = .ok (.goto 21, 3) := by decide +kernel
theorem dM_was_8 : decode cM_was 8 = .ok (.iload_n 1, 1) := by decide +kernel
theorem dM_was_9 : decode cM_was 9 = .ok (.aload_n 0, 1) := by decide +kernel
theorem dM_was_10 : decode cM_was 10 = .ok (.getfield 34, 3) := by decide +kernel
theorem dM_was_13 : decode cM_was 13 = .ok (.if_icmp .lt 12, 3) := by decide +kernel
theorem dM_was_16 : decode cM_was 16 = .ok (.aload_n 0, 1) := by decide +kernel
theorem dM_was_17 : decode cM_was 17 = .ok (.getfield 34, 3) := by decide +kernel
theorem dM_was_20 : decode cM_was 20 = .ok (.iconst 1, 1) := by decide +kernel
theorem dM_was_21 : decode cM_was 21 = .ok (.isub, 1) := by decide +kernel
theorem dM_was_22 : decode cM_was 22 = .ok (.goto 4, 3) := by decide +kernel
theorem dM_was_25 : decode cM_was 25 = .ok (.iload_n 1, 1) := by decide +kernel
theorem dM_was_26 : decode cM_was 26 = .ok (.istore_n 3, 1) := by decide +kernel
theorem dM_was_27 : decode cM_was 27 = .ok (.iload_n 2, 1) := by decide +kernel
theorem dM_was_28 : decode cM_was 28 = .ok (.ifCond .ge 7, 3) := by decide +kernel
theorem dM_was_31 : decode cM_was 31 = .ok (.iconst 0, 1) := by decide +kernel
theorem dM_was_32 : decode cM_was 32 = .ok (.goto 21, 3) := by decide +kernel
theorem dM_was_35 : decode cM_was 35 = .ok (.iload_n 2, 1) := by decide +kernel
theorem dM_was_36 : decode cM_was 36 = .ok (.aload_n 0, 1) := by decide +kernel
theorem dM_was_37 : decode cM_was 37 = .ok (.getfield 37, 3) := by decide +kernel
theorem dM_was_40 : decode cM_was 40 = .ok (.if_icmp .lt 12, 3) := by decide +kernel
theorem dM_was_43 : decode cM_was 43 = .ok (.aload_n 0, 1) := by decide +kernel
theorem dM_was_44 : decode cM_was 44 = .ok (.getfield 37, 3) := by decide +kernel
theorem dM_was_47 : decode cM_was 47 = .ok (.iconst 1, 1) := by decide +kernel
theorem dM_was_48 : decode cM_was 48 = .ok (.isub, 1) := by decide +kernel
theorem dM_was_49 : decode cM_was 49 = .ok (.goto 4, 3) := by decide +kernel
theorem dM_was_52 : decode cM_was 52 = .ok (.iload_n 2, 1) := by decide +kernel
theorem dM_was_53 : decode cM_was 53 = .ok (.istore 4, 2) := by decide +kernel
theorem dM_was_55 : decode cM_was 55 = .ok (.aload_n 0, 1) := by decide +kernel
theorem dM_was_56 : decode cM_was 56 = .ok (.getfield 19, 3) := by decide +kernel
theorem dM_was_59 : decode cM_was 59 = .ok (.bipush 32, 2) := by decide +kernel
theorem dM_was_61 : decode cM_was 61 = .ok (.iload 4, 2) := by decide +kernel
theorem dM_was_63 : decode cM_was 63 = .ok (.imul, 1) := by decide +kernel
theorem dM_was_64 : decode cM_was 64 = .ok (.iload_n 3, 1) := by decide +kernel
theorem dM_was_65 : decode cM_was 65 = .ok (.iadd, 1) := by decide +kernel
theorem dM_was_66 : decode cM_was 66 = .ok (.iaload, 1) := by decide +kernel
theorem dM_was_67 : decode cM_was 67 = .ok (.ireturn, 1) := by decide +kernel
theorem dM_down_0 : decode cM_down 0 = .ok (.aload_n 0, 1) := by decide +kernel
theorem dM_down_1 : decode cM_down 1 = .ok (.iload_n 1, 1) := by decide +kernel
theorem dM_down_2 : decode cM_down 2 = .ok (.invokevirtual 53, 3) := by decide +kernel
theorem dM_down_5 : decode cM_down 5 = .ok (.aload_n 0, 1) := by decide +kernel
theorem dM_down_6 : decode cM_down 6 = .ok (.getfield 13, 3) := by decide +kernel
theorem dM_down_9 : decode cM_down 9 = .ok (.iload_n 1, 1) := by decide +kernel
theorem dM_down_10 : decode cM_down 10 = .ok (.iconst 2, 1) := by decide +kernel
theorem dM_down_11 : decode cM_down 11 = .ok (.aload_n 0, 1) := by decide +kernel
theorem dM_down_12 : decode cM_down 12 = .ok (.getfield 37, 3) := by decide +kernel
theorem dM_down_15 : decode cM_down 15 = .ok (.imul, 1) := by decide +kernel
theorem dM_down_16 : decode cM_down 16 = .ok (.iastore, 1) := by decide +kernel
theorem dM_down_17 : decode cM_down 17 = .ok (.iconst 0, 1) := by decide +kernel
theorem dM_down_18 : decode cM_down 18 = .ok (.istore_n 3, 1) := by decide +kernel
theorem dM_down_19 : decode cM_down 19 = .ok (.iload_n 3, 1) := by decide +kernel
theorem dM_down_20 : decode cM_down 20 = .ok (.aload_n 0, 1) := by decide +kernel
theorem dM_down_21 : decode cM_down 21 = .ok (.getfield 37, 3) := by decide +kernel
theorem dM_down_24 : decode cM_down 24 = .ok (.if_icmp .ge 120, 3) := by decide +kernel
theorem dM_down_27 : decode cM_down 27 = .ok (.iconst 0, 1) := by decide +kernel
theorem dM_down_28 : decode cM_down 28 = .ok (.istore 4, 2) := by decide +kernel
theorem dM_down_30 : decode cM_down 30 = .ok (.iload 4, 2) := by decide +kernel
theorem dM_down_32 : decode cM_down 32 = .ok (.aload_n 0, 1) := by decide +kernel
theorem dM_down_33 : decode cM_down 33 = .ok (.getfield 34, 3) := by decide +kernel
theorem dM_down_36 : decode cM_down 36 = .ok (.if_icmp .ge 102, 3) := by decide +kernel
theorem dM_down_39 : decode cM_down 39 = .ok (.aload_n 0, 1) := by decide +kernel
theorem dM_down_40 : decode cM_down 40 = .ok (.iload 4, 2) := by decide +kernel
theorem dM_down_42 : decode cM_down 42 = .ok (.iload_n 3, 1) := by decide +kernel
theorem dM_down_43 : decode cM_down 43 = .ok (.invokevirtual 57, 3) := by decide +kernel
theorem dM_down_46 : decode cM_down 46 = .ok (.istore 5, 2) := by decide +kernel
theorem dM_down_48 : decode cM_down 48 = .ok (.aload_n 0, 1) := by decide +kernel
theorem dM_down_49 : decode cM_down 49 = .ok (.getfield 16, 3) := by decide +kernel
theorem dM_down_52 : decode cM_down 52 = .ok (.iload_n 1, 1) := by decide +kernel
theorem dM_down_53 : decode cM_down 53 = .ok (.iload 4, 2) := by decide +kernel
theorem dM_down_55 : decode cM_down 55 = .ok (.iconst 2, 1) := by decide +kernel
theorem dM_down_56 : decode cM_down 56 = .ok (.iload_n 3, 1) := by decide +kernel
theorem dM_down_57 : decode cM_down 57 = .ok (.imul, 1) := by decide +kernel
theorem dM_down_58 : decode cM_down 58 = .ok (.invokestatic 47, 3) := by decide +kernel
theorem dM_down_61 : decode cM_down 61 = .ok (.iload_n 2, 1) := by decide +kernel
theorem dM_down_62 : decode cM_down 62 = .ok (.ifCond .eq 24, 3) := by decide +kernel
theorem dM_down_65 : decode cM_down 65 = .ok (.iconst 3, 1) := by decide +kernel
theorem dM_down_66 : decode cM_down 66 = .ok (.iload 5, 2) := by decide +kernel
theorem dM_down_68 : decode cM_down 68 = .ok (.imul, 1) := by decide +kernel
theorem dM_down_69 : decode cM_down 69 = .ok (.aload_n 0, 1) := by decide +kernel
theorem dM_down_70 : decode cM_down 70 = .ok (.iload 4, 2) := by decide +kernel
theorem dM_down_72 : decode cM_down 72 = .ok (.iload_n 3, 1) := by decide +kernel
theorem dM_down_73 : decode cM_down 73 = .ok (.iconst 1, 1) := by decide +kernel
theorem dM_down_74 : decode cM_down 74 = .ok (.isub, 1) := by decide +kernel
theorem dM_down_75 : decode cM_down 75 = .ok (.invokevirtual 57, 3) := by decide +kernel
theorem dM_down_78 : decode cM_down 78 = .ok (.iadd, 1) := by decide +kernel
theorem dM_down_79 : decode cM_down 79 = .ok (.iconst 1, 1) := by decide +kernel
theorem dM_down_80 : decode cM_down 80 = .ok (.iadd, 1) := by decide +kernel
theorem dM_down_81 : decode cM_down 81 = .ok (.iconst 2, 1) := by decide +kernel
theorem dM_down_82 : decode cM_down 82 = .ok (.ishr, 1) := by decide +kernel
theorem dM_down_83 : decode cM_down 83 = .ok (.goto 5, 3) := by decide +kernel
theorem dM_down_86 : decode cM_down 86 = .ok (.iload 5, 2) := by decide +kernel
theorem dM_down_88 : decode cM_down 88 = .ok (.iastore, 1) := by decide +kernel
theorem dM_down_89 : decode cM_down 89 = .ok (.aload_n 0, 1) := by decide +kernel
theorem dM_down_90 : decode cM_down 90 = .ok (.getfield 16, 3) := by decide +kernel
theorem dM_down_93 : decode cM_down 93 = .ok (.iload_n 1, 1) := by decide +kernel
theorem dM_down_94 : decode cM_down 94 = .ok (.iload 4, 2) := by decide +kernel
theorem dM_down_96 : decode cM_down 96 = .ok (.iconst 2, 1) := by decide +kernel
theorem dM_down_97 : decode cM_down 97 = .ok (.iload_n 3, 1) := by decide +kernel
theorem dM_down_98 : decode cM_down 98 = .ok (.imul, 1) := by decide +kernel
theorem dM_down_99 : decode cM_down 99 = .ok (.iconst 1, 1) := by decide +kernel
theorem dM_down_100 : decode cM_down 100 = .ok (.iadd, 1) := by decide +kernel
theorem dM_down_101 : decode cM_down 101 = .ok (.invokestatic 47, 3) := by decide +kernel
theorem dM_down_104 : decode cM_down 104 = .ok (.iload_n 2, 1) := by decide +kernel
theorem dM_down_105 : decode cM_down 105 = .ok (.ifCond .eq 24, 3) := by decide +kernel
theorem dM_down_108 : decode cM_down 108 = .ok (.iconst 3, 1) := by decide +kernel
theorem dM_down_109 : decode cM_down 109 = .ok (.iload 5, 2) := by decide +kernel
theorem dM_down_111 : decode cM_down 111 = .ok (.imul, 1) := by decide +kernel
theorem dM_down_112 : decode cM_down 112 = .ok (.aload_n 0, 1) := by decide +kernel
theorem dM_down_113 : decode cM_down 113 = .ok (.iload 4, 2) := by decide +kernel
theorem dM_down_115 : decode cM_down 115 = .ok (.iload_n 3, 1) := by decide +kernel
theorem dM_down_116 : decode cM_down 116 = .ok (.iconst 1, 1) := by decide +kernel
theorem dM_down_117 : decode cM_down 117 = .ok (.iadd, 1) := by decide +kernel
theorem dM_down_118 : decode cM_down 118 = .ok (.invokevirtual 57, 3) := by decide +kernel
theorem dM_down_121 : decode cM_down 121 = .ok (.iadd, 1) := by decide +kernel
theorem dM_down_122 : decode cM_down 122 = .ok (.iconst 2, 1) := by decide +kernel
theorem dM_down_123 : decode cM_down 123 = .ok (.iadd, 1) := by decide +kernel
theorem dM_down_124 : decode cM_down 124 = .ok (.iconst 2, 1) := by decide +kernel
theorem dM_down_125 : decode cM_down 125 = .ok (.ishr, 1) := by decide +kernel
theorem dM_down_126 : decode cM_down 126 = .ok (.goto 5, 3) := by decide +kernel
theorem dM_down_129 : decode cM_down 129 = .ok (.iload 5, 2) := by decide +kernel
theorem dM_down_131 : decode cM_down 131 = .ok (.iastore, 1) := by decide +kernel
theorem dM_down_132 : decode cM_down 132 = .ok (.iinc 4 1, 3) := by decide +kernel
theorem dM_down_135 : decode cM_down 135 = .ok (.goto (-105), 3) := by decide +kernel
theorem dM_down_138 : decode cM_down 138 = .ok (.iinc 3 1, 3) := by decide +kernel
theorem dM_down_141 : decode cM_down 141 = .ok (.goto (-122), 3) := by decide +kernel
theorem dM_down_144 : decode cM_down 144 = .ok (.return_, 1) := by decide +kernel
theorem dM_shrink_0 : decode cM_shrink 0 = .ok (.aload_n 0, 1) := by decide +kernel
theorem dM_shrink_1 : decode cM_shrink 1 = .ok (.iload_n 1, 1) := by decide +kernel
theorem dM_shrink_2 : decode cM_shrink 2 = .ok (.invokestatic 30, 3) := by decide +kernel
theorem dM_shrink_5 : decode cM_shrink 5 = .ok (.iconst 1, 1) := by decide +kernel
theorem dM_shrink_6 : decode cM_shrink 6 = .ok (.invokevirtual 40, 3) := by decide +kernel
theorem dM_shrink_9 : decode cM_shrink 9 = .ok (.ifCond .eq 12, 3) := by decide +kernel
theorem dM_shrink_12 : decode cM_shrink 12 = .ok (.iload_n 2, 1) := by decide +kernel
theorem dM_shrink_13 : decode cM_shrink 13 = .ok (.iconst 0, 1) := by decide +kernel
theorem dM_shrink_14 : decode cM_shrink 14 = .ok (.iconst 2, 1) := by decide +kernel
theorem dM_shrink_15 : decode cM_shrink 15 = .ok (.invokestatic 26, 3) := by decide +kernel
theorem dM_shrink_18 : decode cM_shrink 18 = .ok (.ifCond .ne 5, 3) := by decide +kernel
theorem dM_shrink_21 : decode cM_shrink 21 = .ok (.iconst 0, 1) := by decide +kernel
theorem dM_shrink_22 : decode cM_shrink 22 = .ok (.ireturn, 1) := by decide +kernel
theorem dM_shrink_23 : decode cM_shrink 23 = .ok (.aload_n 0, 1) := by decide +kernel
theorem dM_shrink_24 : decode cM_shrink 24 = .ok (.iload_n 1, 1) := by decide +kernel
theorem dM_shrink_25 : decode cM_shrink 25 = .ok (.invokevirtual 53, 3) := by decide +kernel
theorem dM_shrink_28 : decode cM_shrink 28 = .ok (.aload_n 0, 1) := by decide +kernel
theorem dM_shrink_29 : decode cM_shrink 29 = .ok (.getfield 7, 3) := by decide +kernel
theorem dM_shrink_32 : decode cM_shrink 32 = .ok (.iload_n 1, 1) := by decide +kernel
theorem dM_shrink_33 : decode cM_shrink 33 = .ok (.iload_n 2, 1) := by decide +kernel
theorem dM_shrink_34 : decode cM_shrink 34 = .ok (.iconst 1, 1) := by decide +kernel
theorem dM_shrink_35 : decode cM_shrink 35 = .ok (.if_icmp .ne 10, 3) := by decide +kernel
theorem dM_shrink_38 : decode cM_shrink 38 = .ok (.aload_n 0, 1) := by decide +kernel
theorem dM_shrink_39 : decode cM_shrink 39 = .ok (.getfield 34, 3) := by decide +kernel
theorem dM_shrink_42 : decode cM_shrink 42 = .ok (.goto 11, 3) := by decide +kernel
theorem dM_shrink_45 : decode cM_shrink 45 = .ok (.aload_n 0, 1) := by decide +kernel
theorem dM_shrink_46 : decode cM_shrink 46 = .ok (.getfield 34, 3) := by decide +kernel
theorem dM_shrink_49 : decode cM_shrink 49 = .ok (.iconst 1, 1) := by decide +kernel
theorem dM_shrink_50 : decode cM_shrink 50 = .ok (.iadd, 1) := by decide +kernel
theorem dM_shrink_51 : decode cM_shrink 51 = .ok (.iconst 2, 1) := by decide +kernel
theorem dM_shrink_52 : decode cM_shrink 52 = .ok (.idiv, 1) := by decide +kernel
theorem dM_shrink_53 : decode cM_shrink 53 = .ok (.iastore, 1) := by decide +kernel
theorem dM_shrink_54 : decode cM_shrink 54 = .ok (.aload_n 0, 1) := by decide +kernel
theorem dM_shrink_55 : decode cM_shrink 55 = .ok (.getfield 13, 3) := by decide +kernel
theorem dM_shrink_58 : decode cM_shrink 58 = .ok (.iload_n 1, 1) := by decide +kernel
theorem dM_shrink_59 : decode cM_shrink 59 = .ok (.iload_n 2, 1) := by decide +kernel
theorem dM_shrink_60 : decode cM_shrink 60 = .ok (.ifCond .ne 10, 3) := by decide +kernel
theorem dM_shrink_63 : decode cM_shrink 63 = .ok (.aload_n 0, 1) := by decide +kernel
theorem dM_shrink_64 : decode cM_shrink 64 = .ok (.getfield 37, 3) := by decide +kernel
theorem dM_shrink_67 : decode cM_shrink 67 = .ok (.goto 11, 3) := by decide +kernel
theorem dM_shrink_70 : decode cM_shrink 70 = .ok (.aload_n 0, 1) := by decide +kernel
theorem dM_shrink_71 : decode cM_shrink 71 = .ok (.getfield 37, 3) := by decide +kernel
theorem dM_shrink_74 : decode cM_shrink 74 = .ok (.iconst 1, 1) := by decide +kernel
theorem dM_shrink_75 : decode cM_shrink 75 = .ok (.iadd, 1) := by decide +kernel
theorem dM_shrink_76 : decode cM_shrink 76 = .ok (.iconst 2, 1) := by decide +kernel
theorem dM_shrink_77 : decode cM_shrink 77 = .ok (.idiv, 1) := by decide +kernel
theorem dM_shrink_78 : decode cM_shrink 78 = .ok (.iastore, 1) := by decide +kernel
theorem dM_shrink_79 : decode cM_shrink 79 = .ok (.iconst 0, 1) := by decide +kernel
theorem dM_shrink_80 : decode cM_shrink 80 = .ok (.istore_n 3, 1) := by decide +kernel
theorem dM_shrink_81 : decode cM_shrink 81 = .ok (.iload_n 3, 1) := by decide +kernel
theorem dM_shrink_82 : decode cM_shrink 82 = .ok (.aload_n 0, 1) := by decide +kernel
theorem dM_shrink_83 : decode cM_shrink 83 = .ok (.getfield 13, 3) := by decide +kernel
theorem dM_shrink_86 : decode cM_shrink 86 = .ok (.iload_n 1, 1) := by decide +kernel
theorem dM_shrink_87 : decode cM_shrink 87 = .ok (.iaload, 1) := by decide +kernel
theorem dM_shrink_88 : decode cM_shrink 88 = .ok (.if_icmp .ge 186, 3) := by decide +kernel
theorem dM_shrink_91 : decode cM_shrink 91 = .ok (.iconst 0, 1) := by decide +kernel
theorem dM_shrink_92 : decode cM_shrink 92 = .ok (.istore 4, 2) := by decide +kernel
theorem dM_shrink_94 : decode cM_shrink 94 = .ok (.iload 4, 2) := by decide +kernel
theorem dM_shrink_96 : decode cM_shrink 96 = .ok (.aload_n 0, 1) := by decide +kernel
theorem dM_shrink_97 : decode cM_shrink 97 = .ok (.getfield 7, 3) := by decide +kernel
theorem dM_shrink_100 : decode cM_shrink 100 = .ok (.iload_n 1, 1) := by decide +kernel
theorem dM_shrink_101 : decode cM_shrink 101 = .ok (.iaload, 1) := by decide +kernel
theorem dM_shrink_102 : decode cM_shrink 102 = .ok (.if_icmp .ge 166, 3) := by decide +kernel
theorem dM_shrink_105 : decode cM_shrink 105 = .ok (.iconst 0, 1) := by decide +kernel
theorem dM_shrink_106 : decode cM_shrink 106 = .ok (.istore 5, 2) := by decide +kernel
theorem dM_shrink_108 : decode cM_shrink 108 = .ok (.iload_n 2, 1) := by decide +kernel
theorem dM_shrink_109 : decode cM_shrink 109 = .ok (.ifCond .ne 36, 3) := by decide +kernel
theorem dM_shrink_112 : decode cM_shrink 112 = .ok (.aload_n 0, 1) := by decide +kernel
theorem dM_shrink_113 : decode cM_shrink 113 = .ok (.iconst 2, 1) := by decide +kernel
theorem dM_shrink_114 : decode cM_shrink 114 = .ok (.iload 4, 2) := by decide +kernel
theorem dM_shrink_116 : decode cM_shrink 116 = .ok (.imul, 1) := by decide +kernel
theorem dM_shrink_117 : decode cM_shrink 117 = .ok (.iload_n 3, 1) := by decide +kernel
theorem dM_shrink_118 : decode cM_shrink 118 = .ok (.invokevirtual 57, 3) := by decide +kernel
theorem dM_shrink_121 : decode cM_shrink 121 = .ok (.aload_n 0, 1) := by decide +kernel
theorem dM_shrink_122 : decode cM_shrink 122 = .ok (.iconst 2, 1) := by decide +kernel
theorem dM_shrink_123 : decode cM_shrink 123 = .ok (.iload 4, 2) := by decide +kernel
theorem dM_shrink_125 : decode cM_shrink 125 = .ok (.imul, 1) := by decide +kernel
theorem dM_shrink_126 : decode cM_shrink 126 = .ok (.iconst 1, 1) := by decide +kernel
theorem dM_shrink_127 : decode cM_shrink 127 = .ok (.iadd, 1) := by decide +kernel
theorem dM_shrink_128 : decode cM_shrink 128 = .ok (.iload_n 3, 1) := by decide +kernel
theorem dM_shrink_129 : decode cM_shrink 129 = .ok (.invokevirtual 57, 3) := by decide +kernel
theorem dM_shrink_132 : decode cM_shrink 132 = .ok (.iadd, 1) := by decide +kernel
theorem dM_shrink_133 : decode cM_shrink 133 = .ok (.iload 4, 2) := by decide +kernel
theorem dM_shrink_135 : decode cM_shrink 135 = .ok (.iconst 2, 1) := by decide +kernel
theorem dM_shrink_136 : decode cM_shrink 136 = .ok (.irem, 1) := by decide +kernel
theorem dM_shrink_137 : decode cM_shrink 137 = .ok (.iadd, 1) := by decide +kernel
theorem dM_shrink_138 : decode cM_shrink 138 = .ok (.iconst 1, 1) := by decide +kernel
theorem dM_shrink_139 : decode cM_shrink 139 = .ok (.ishr, 1) := by decide +kernel
theorem dM_shrink_140 : decode cM_shrink 140 = .ok (.istore 5, 2) := by decide +kernel
theorem dM_shrink_142 : decode cM_shrink 142 = .ok (.goto 106, 3) := by decide +kernel
theorem dM_shrink_145 : decode cM_shrink 145 = .ok (.iload_n 2, 1) := by decide +kernel
theorem dM_shrink_146 : decode cM_shrink 146 = .ok (.iconst 1, 1) := by decide +kernel
theorem dM_shrink_147 : decode cM_shrink 147 = .ok (.if_icmp .ne 35, 3) := by decide +kernel
theorem dM_shrink_150 : decode cM_shrink 150 = .ok (.aload_n 0, 1) := by decide +kernel
theorem dM_shrink_151 : decode cM_shrink 151 = .ok (.iload 4, 2) := by decide +kernel
theorem dM_shrink_153 : decode cM_shrink 153 = .ok (.iconst 2, 1) := by decide +kernel
theorem dM_shrink_154 : decode cM_shrink 154 = .ok (.iload_n 3, 1) := by decide +kernel
theorem dM_shrink_155 : decode cM_shrink 155 = .ok (.imul, 1) := by decide +kernel
theorem dM_shrink_156 : decode cM_shrink 156 = .ok (.invokevirtual 57, 3) := by decide +kernel
theorem dM_shrink_159 : decode cM_shrink 159 = .ok (.aload_n 0, 1) := by decide +kernel
theorem dM_shrink_160 : decode cM_shrink 160 = .ok (.iload 4, 2) := by decide +kernel
theorem dM_shrink_162 : decode cM_shrink 162 = .ok (.iconst 2, 1) := by decide +kernel
theorem dM_shrink_163 : decode cM_shrink 163 = .ok (.iload_n 3, 1) := by decide +kernel
theorem dM_shrink_164 : decode cM_shrink 164 = .ok (.imul, 1) := by decide +kernel
theorem dM_shrink_165 : decode cM_shrink 165 = .ok (.iconst 1, 1) := by decide +kernel
theorem dM_shrink_166 : decode cM_shrink 166 = .ok (.iadd, 1) := by decide +kernel
theorem dM_shrink_167 : decode cM_shrink 167 = .ok (.invokevirtual 57, 3) := by decide +kernel
theorem dM_shrink_170 : decode cM_shrink 170 = .ok (.iadd, 1) := by decide +kernel
theorem dM_shrink_171 : decode cM_shrink 171 = .ok (.iload_n 3, 1) := by decide +kernel
theorem dM_shrink_172 : decode cM_shrink 172 = .ok (.iconst 2, 1) := by decide +kernel
theorem dM_shrink_173 : decode cM_shrink 173 = .ok (.irem, 1) := by decide +kernel
theorem dM_shrink_174 : decode cM_shrink 174 = .ok (.iadd, 1) := by decide +kernel
theorem dM_shrink_175 : decode cM_shrink 175 = .ok (.iconst 1, 1) := by decide +kernel
theorem dM_shrink_176 : decode cM_shrink 176 = .ok (.ishr, 1) := by decide +kernel
theorem dM_shrink_177 : decode cM_shrink 177 = .ok (.istore 5, 2) := by decide +kernel
theorem dM_shrink_179 : decode cM_shrink 179 = .ok (.goto 69, 3) := by decide +kernel
theorem dM_shrink_182 : decode cM_shrink 182 = .ok (.aload_n 0, 1) := by decide +kernel
theorem dM_shrink_183 : decode cM_shrink 183 = .ok (.iconst 2, 1) := by decide +kernel
theorem dM_shrink_184 : decode cM_shrink 184 = .ok (.iload 4, 2) := by decide +kernel
theorem dM_shrink_186 : decode cM_shrink 186 = .ok (.imul, 1) := by decide +kernel
theorem dM_shrink_187 : decode cM_shrink 187 = .ok (.iconst 2, 1) := by decide +kernel
theorem dM_shrink_188 : decode cM_shrink 188 = .ok (.iload_n 3, 1) := by decide +kernel
theorem dM_shrink_189 : decode cM_shrink 189 = .ok (.imul, 1) := by decide +kernel
theorem dM_shrink_190 : decode cM_shrink 190 = .ok (.invokevirtual 57, 3) := by decide +kernel
theorem dM_shrink_193 : decode cM_shrink 193 = .ok (.aload_n 0, 1) := by decide +kernel
theorem dM_shrink_194 : decode cM_shrink 194 = .ok (.iconst 2, 1) := by decide +kernel
theorem dM_shrink_195 : decode cM_shrink 195 = .ok (.iload 4, 2) := by decide +kernel
theorem dM_shrink_197 : decode cM_shrink 197 = .ok (.imul, 1) := by decide +kernel
theorem dM_shrink_198 : decode cM_shrink 198 = .ok (.iconst 1, 1) := by decide +kernel
theorem dM_shrink_199 : decode cM_shrink 199 = .ok (.iadd, 1) := by decide +kernel
theorem dM_shrink_200 : decode cM_shrink 200 = .ok (.iconst 2, 1) := by decide +kernel
theorem dM_shrink_201 : decode cM_shrink 201 = .ok (.iload_n 3, 1) := by decide +kernel
theorem dM_shrink_202 : decode cM_shrink 202 = .ok (.imul, 1) := by decide +kernel
theorem dM_shrink_203 : decode cM_shrink 203 = .ok (.invokevirtual 57, 3) := by decide +kernel
theorem dM_shrink_206 : decode cM_shrink 206 = .ok (.iadd, 1) := by decide +kernel
theorem dM_shrink_207 : decode cM_shrink 207 = .ok (.aload_n 0, 1) := by decide +kernel
theorem dM_shrink_208 : decode cM_shrink 208 = .ok (.iconst 2, 1) := by decide +kernel
theorem dM_shrink_209 : decode cM_shrink 209 = .ok (.iload 4, 2) := by decide +kernel
theorem dM_shrink_211 : decode cM_shrink 211 = .ok (.imul, 1) := by decide +kernel
theorem dM_shrink_212 : decode cM_shrink 212 = .ok (.iconst 2, 1) := by decide +kernel
theorem dM_shrink_213 : decode cM_shrink 213 = .ok (.iload_n 3, 1) := by decide +kernel
theorem dM_shrink_214 : decode cM_shrink 214 = .ok (.imul, 1) := by decide +kernel
theorem dM_shrink_215 : decode cM_shrink 215 = .ok (.iconst 1, 1) := by decide +kernel
theorem dM_shrink_216 : decode cM_shrink 216 = .ok (.iadd, 1) := by decide +kernel
theorem dM_shrink_217 : decode cM_shrink 217 = .ok (.invokevirtual 57, 3) := by decide +kernel
theorem dM_shrink_220 : decode cM_shrink 220 = .ok (.iadd, 1) := by decide +kernel
theorem dM_shrink_221 : decode cM_shrink 221 = .ok (.aload_n 0, 1) := by decide +kernel
theorem dM_shrink_222 : decode cM_shrink 222 = .ok (.iconst 2, 1) := by decide +kernel
theorem dM_shrink_223 : decode cM_shrink 223 = .ok (.iload 4, 2) := by decide +kernel
theorem dM_shrink_225 : decode cM_shrink 225 = .ok (.imul, 1) := by decide +kernel
theorem dM_shrink_226 : decode cM_shrink 226 = .ok (.iconst 1, 1) := by decide +kernel
theorem dM_shrink_227 : decode cM_shrink 227 = .ok (.iadd, 1) := by decide +kernel
theorem dM_shrink_228 : decode cM_shrink 228 = .ok (.iconst 2, 1) := by decide +kernel
theorem dM_shrink_229 : decode cM_shrink 229 = .ok (.iload_n 3, 1) := by decide +kernel
theorem dM_shrink_230 : decode cM_shrink 230 = .ok (.imul, 1) := by decide +kernel
theorem dM_shrink_231 : decode cM_shrink 231 = .ok (.iconst 1, 1) := by decide +kernel
theorem dM_shrink_232 : decode cM_shrink 232 = .ok (.iadd, 1) := by decide +kernel
theorem dM_shrink_233 : decode cM_shrink 233 = .ok (.invokevirtual 57, 3) := by decide +kernel
theorem dM_shrink_236 : decode cM_shrink 236 = .ok (.iadd, 1) := by decide +kernel
theorem dM_shrink_237 : decode cM_shrink 237 = .ok (.iconst 1, 1) := by decide +kernel
theorem dM_shrink_238 : decode cM_shrink 238 = .ok (.iadd, 1) := by decide +kernel
theorem dM_shrink_239 : decode cM_shrink 239 = .ok (.iload 4, 2) := by decide +kernel
theorem dM_shrink_241 : decode cM_shrink 241 = .ok (.iconst 2, 1) := by decide +kernel
theorem dM_shrink_242 : decode cM_shrink 242 = .ok (.irem, 1) := by decide +kernel
theorem dM_shrink_243 : decode cM_shrink 243 = .ok (.iadd, 1) := by decide +kernel
theorem dM_shrink_244 : decode cM_shrink 244 = .ok (.iconst 2, 1) := by decide +kernel
theorem dM_shrink_245 : decode cM_shrink 245 = .ok (.ishr, 1) := by decide +kernel
theorem dM_shrink_246 : decode cM_shrink 246 = .ok (.istore 5, 2) := by decide +kernel
theorem dM_shrink_248 : decode cM_shrink 248 = .ok (.aload_n 0, 1) := by decide +kernel
theorem dM_shrink_249 : decode cM_shrink 249 = .ok (.getfield 16, 3) := by decide +kernel
theorem dM_shrink_252 : decode cM_shrink 252 = .ok (.iload_n 1, 1) := by decide +kernel
theorem dM_shrink_253 : decode cM_shrink 253 = .ok (.iload 4, 2) := by decide +kernel
theorem dM_shrink_255 : decode cM_shrink 255 = .ok (.iload_n 3, 1) := by decide +kernel
theorem dM_shrink_256 : decode cM_shrink 256 = .ok (.invokestatic 47, 3) := by decide +kernel
theorem dM_shrink_259 : decode cM_shrink 259 = .ok (.iload 5, 2) := by decide +kernel
theorem dM_shrink_261 : decode cM_shrink 261 = .ok (.iastore, 1) := by decide +kernel
theorem dM_shrink_262 : decode cM_shrink 262 = .ok (.iinc 4 1, 3) := by decide +kernel
theorem dM_shrink_265 : decode cM_shrink 265 = .ok (.goto (-171), 3) := by decide +kernel
theorem dM_shrink_268 : decode cM_shrink 268 = .ok (.iinc 3 1, 3) := by decide +kernel
theorem dM_shrink_271 : decode cM_shrink 271 = .ok (.goto (-190), 3) := by decide +kernel
theorem dM_shrink_274 : decode cM_shrink 274 = .ok (.iconst 1, 1) := by decide +kernel
theorem dM_shrink_275 : decode cM_shrink 275 = .ok (.ireturn, 1) := by decide +kernel
theorem dM_mix_0 : decode cM_mix 0 = .ok (.aload_n 0, 1) := by decide +kernel
theorem dM_mix_1 : decode cM_mix 1 = .ok (.iconst 0, 1) := by decide +kernel
theorem dM_mix_2 : decode cM_mix 2 = .ok (.putfield 22, 3) := by decide +kernel
theorem dM_mix_5 : decode cM_mix 5 = .ok (.iload_n 1, 1) := by decide +kernel
theorem dM_mix_6 : decode cM_mix 6 = .ok (.iconst 0, 1) := by decide +kernel
theorem dM_mix_7 : decode cM_mix 7 = .ok (.bipush 6, 2) := by decide +kernel
theorem dM_mix_9 : decode cM_mix 9 = .ok (.invokestatic 26, 3) := by decide +kernel
theorem dM_mix_12 : decode cM_mix 12 = .ok (.ifCond .eq 35, 3) := by decide +kernel
theorem dM_mix_15 : decode cM_mix 15 = .ok (.aload_n 0, 1) := by decide +kernel
theorem dM_mix_16 : decode cM_mix 16 = .ok (.iconst 0, 1) := by decide +kernel
theorem dM_mix_17 : decode cM_mix 17 = .ok (.iconst 1, 1) := by decide +kernel
theorem dM_mix_18 : decode cM_mix 18 = .ok (.invokevirtual 85, 3) := by decide +kernel
theorem dM_mix_21 : decode cM_mix 21 = .ok (.ifCond .eq 26, 3) := by decide +kernel
theorem dM_mix_24 : decode cM_mix 24 = .ok (.aload_n 0, 1) := by decide +kernel
theorem dM_mix_25 : decode cM_mix 25 = .ok (.iconst 0, 1) := by decide +kernel
theorem dM_mix_26 : decode cM_mix 26 = .ok (.iconst 2, 1) := by decide +kernel
theorem dM_mix_27 : decode cM_mix 27 = .ok (.invokevirtual 85, 3) := by decide +kernel
theorem dM_mix_30 : decode cM_mix 30 = .ok (.ifCond .eq 17, 3) := by decide +kernel
theorem dM_mix_33 : decode cM_mix 33 = .ok (.iload_n 1, 1) := by decide +kernel
theorem dM_mix_34 : decode cM_mix 34 = .ok (.iconst 3, 1) := by decide +kernel
theorem dM_mix_35 : decode cM_mix 35 = .ok (.if_icmp .ne 14, 3) := by decide +kernel
theorem dM_mix_38 : decode cM_mix 38 = .ok (.aload_n 0, 1) := by decide +kernel
theorem dM_mix_39 : decode cM_mix 39 = .ok (.iconst 0, 1) := by decide +kernel
theorem dM_mix_40 : decode cM_mix 40 = .ok (.iconst 3, 1) := by decide +kernel
theorem dM_mix_41 : decode cM_mix 41 = .ok (.invokevirtual 85, 3) := by decide +kernel
theorem dM_mix_44 : decode cM_mix 44 = .ok (.ifCond .ne 5, 3) := by decide +kernel
theorem dM_mix_47 : decode cM_mix 47 = .ok (.iconst 0, 1) := by decide +kernel
theorem dM_mix_48 : decode cM_mix 48 = .ok (.ireturn, 1) := by decide +kernel
theorem dM_mix_49 : decode cM_mix 49 = .ok (.iload_n 1, 1) := by decide +kernel
theorem dM_mix_50 : decode cM_mix 50 = .ok (.iconst 5, 1) := by decide +kernel
theorem dM_mix_51 : decode cM_mix 51 = .ok (.if_icmp .ne 16, 3) := by decide +kernel
theorem dM_mix_54 : decode cM_mix 54 = .ok (.aload_n 0, 1) := by decide +kernel
theorem dM_mix_55 : decode cM_mix 55 = .ok (.iconst 0, 1) := by decide +kernel
theorem dM_mix_56 : decode cM_mix 56 = .ok (.invokevirtual 89, 3) := by decide +kernel
theorem dM_mix_59 : decode cM_mix 59 = .ok (.aload_n 0, 1) := by decide +kernel
theorem dM_mix_60 : decode cM_mix 60 = .ok (.iconst 2, 1) := by decide +kernel
theorem dM_mix_61 : decode cM_mix 61 = .ok (.invokevirtual 89, 3) := by decide +kernel
theorem dM_mix_64 : decode cM_mix 64 = .ok (.goto 27, 3) := by decide +kernel
theorem dM_mix_67 : decode cM_mix 67 = .ok (.iload_n 1, 1) := by decide +kernel
theorem dM_mix_68 : decode cM_mix 68 = .ok (.bipush 6, 2) := by decide +kernel
theorem dM_mix_70 : decode cM_mix 70 = .ok (.if_icmp .ne 16, 3) := by decide +kernel
theorem dM_mix_73 : decode cM_mix 73 = .ok (.aload_n 0, 1) := by decide +kernel
theorem dM_mix_74 : decode cM_mix 74 = .ok (.iconst 2, 1) := by decide +kernel
theorem dM_mix_75 : decode cM_mix 75 = .ok (.invokevirtual 89, 3) := by decide +kernel
theorem dM_mix_78 : decode cM_mix 78 = .ok (.aload_n 0, 1) := by decide +kernel
theorem dM_mix_79 : decode cM_mix 79 = .ok (.iconst 1, 1) := by decide +kernel
theorem dM_mix_80 : decode cM_mix 80 = .ok (.invokevirtual 89, 3) := by decide +kernel
theorem dM_mix_83 : decode cM_mix 83 = .ok (.goto 8, 3) := by decide +kernel
theorem dM_mix_86 : decode cM_mix 86 = .ok (.aload_n 0, 1) := by decide +kernel
theorem dM_mix_87 : decode cM_mix 87 = .ok (.iload_n 1, 1) := by decide +kernel
theorem dM_mix_88 : decode cM_mix 88 = .ok (.invokevirtual 89, 3) := by decide +kernel
theorem dM_mix_91 : decode cM_mix 91 = .ok (.iconst 1, 1) := by decide +kernel
theorem dM_mix_92 : decode cM_mix 92 = .ok (.ireturn, 1) := by decide +kernel
theorem dM_isSame_0 : decode cM_isSame 0 = .ok (.aload_n 0, 1) := by decide +kernel
theorem dM_isSame_1 : decode cM_isSame 1 = .ok (.getfield 7, 3) := by decide +kernel
theorem dM_isSame_4 : decode cM_isSame 4 = .ok (.iload_n 1, 1) := by decide +kernel
theorem dM_isSame_5 : decode cM_isSame 5 = .ok (.iaload, 1) := by decide +kernel
theorem dM_isSame_6 : decode cM_isSame 6 = .ok (.aload_n 0, 1) := by decide +kernel
theorem dM_isSame_7 : decode cM_isSame 7 = .ok (.getfield 7, 3) := by decide +kernel
theorem dM_isSame_10 : decode cM_isSame 10 = .ok (.iload_n 2, 1) := by decide +kernel
theorem dM_isSame_11 : decode cM_isSame 11 = .ok (.iaload, 1) := by decide +kernel
theorem dM_isSame_12 : decode cM_isSame 12 = .ok (.if_icmp .ne 22, 3) := by decide +kernel
theorem dM_isSame_15 : decode cM_isSame 15 = .ok (.aload_n 0, 1) := by decide +kernel
theorem dM_isSame_16 : decode cM_isSame 16 = .ok (.getfield 13, 3) := by decide +kernel
theorem dM_isSame_19 : decode cM_isSame 19 = .ok (.iload_n 1, 1) := by decide +kernel
theorem dM_isSame_20 : decode cM_isSame 20 = .ok (.iaload, 1) := by decide +kernel
theorem dM_isSame_21 : decode cM_isSame 21 = .ok (.aload_n 0, 1) := by decide +kernel
theorem dM_isSame_22 : decode cM_isSame 22 = .ok (.getfield 13, 3) := by decide +kernel
theorem dM_isSame_25 : decode cM_isSame 25 = .ok (.iload_n 2, 1) := by decide +kernel
theorem dM_isSame_26 : decode cM_isSame 26 = .ok (.iaload, 1) := by decide +kernel
theorem dM_isSame_27 : decode cM_isSame 27 = .ok (.if_icmp .ne 7, 3) := by decide +kernel
theorem dM_isSame_30 : decode cM_isSame 30 = .ok (.iconst 1, 1) := by decide +kernel
theorem dM_isSame_31 : decode cM_isSame 31 = .ok (.goto 4, 3) := by decide +kernel
theorem dM_isSame_34 : decode cM_isSame 34 = .ok (.iconst 0, 1) := by decide +kernel
theorem dM_isSame_35 : decode cM_isSame 35 = .ok (.ireturn, 1) := by decide +kernel
theorem dM_mixAll_0 : decode cM_mixAll 0 = .ok (.iconst 0, 1) := by decide +kernel
theorem dM_mixAll_1 : decode cM_mixAll 1 = .ok (.istore_n 2, 1) := by decide +kernel
theorem dM_mixAll_2 : decode cM_mixAll 2 = .ok (.iload_n 2, 1) := by decide +kernel
theorem dM_mixAll_3 : decode cM_mixAll 3 = .ok (.aload_n 0, 1) := by decide +kernel
theorem dM_mixAll_4 : decode cM_mixAll 4 = .ok (.getfield 13, 3) := by decide +kernel
theorem dM_mixAll_7 : decode cM_mixAll 7 = .ok (.iconst 0, 1) := by decide +kernel
theorem dM_mixAll_8 : decode cM_mixAll 8 = .ok (.iaload, 1) := by decide +kernel
theorem dM_mixAll_9 : decode cM_mixAll 9 = .ok (.if_icmp .ge 126, 3) := by decide +kernel
theorem dM_mixAll_12 : decode cM_mixAll 12 = .ok (.iconst 0, 1) := by decide +kernel
theorem dM_mixAll_13 : decode cM_mixAll 13 = .ok (.istore_n 3, 1) := by decide +kernel
theorem dM_mixAll_14 : decode cM_mixAll 14 = .ok (.iload_n 3, 1) := by decide +kernel
theorem dM_mixAll_15 : decode cM_mixAll 15 = .ok (.aload_n 0, 1) := by decide +kernel
theorem dM_mixAll_16 : decode cM_mixAll 16 = .ok (.getfield 7, 3) := by decide +kernel
theorem dM_mixAll_19 : decode cM_mixAll 19 = .ok (.iconst 0, 1) := by decide +kernel
theorem dM_mixAll_20 : decode cM_mixAll 20 = .ok (.iaload, 1) := by decide +kernel
theorem dM_mixAll_21 : decode cM_mixAll 21 = .ok (.if_icmp .ge 108, 3) := by decide +kernel
theorem dM_mixAll_24 : decode cM_mixAll 24 = .ok (.bipush 32, 2) := by decide +kernel
theorem dM_mixAll_26 : decode cM_mixAll 26 = .ok (.iload_n 2, 1) := by decide +kernel
theorem dM_mixAll_27 : decode cM_mixAll 27 = .ok (.imul, 1) := by decide +kernel
theorem dM_mixAll_28 : decode cM_mixAll 28 = .ok (.iload_n 3, 1) := by decide +kernel
theorem dM_mixAll_29 : decode cM_mixAll 29 = .ok (.iadd, 1) := by decide +kernel
theorem dM_mixAll_30 : decode cM_mixAll 30 = .ok (.istore 4, 2) := by decide +kernel
theorem dM_mixAll_32 : decode cM_mixAll 32 = .ok (.aload_n 0, 1) := by decide +kernel
theorem dM_mixAll_33 : decode cM_mixAll 33 = .ok (.getfield 16, 3) := by decide +kernel
theorem dM_mixAll_36 : decode cM_mixAll 36 = .ok (.iload 4, 2) := by decide +kernel
theorem dM_mixAll_38 : decode cM_mixAll 38 = .ok (.iaload, 1) := by decide +kernel
theorem dM_mixAll_39 : decode cM_mixAll 39 = .ok (.istore 5, 2) := by decide +kernel
theorem dM_mixAll_41 : decode cM_mixAll 41 = .ok (.aload_n 0, 1) := by decide +kernel
theorem dM_mixAll_42 : decode cM_mixAll 42 = .ok (.getfield 16, 3) := by decide +kernel
theorem dM_mixAll_45 : decode cM_mixAll 45 = .ok (.sipush 1024, 3) := by decide +kernel
theorem dM_mixAll_48 : decode cM_mixAll 48 = .ok (.iload 4, 2) := by decide +kernel
theorem dM_mixAll_50 : decode cM_mixAll 50 = .ok (.iadd, 1) := by decide +kernel
theorem dM_mixAll_51 : decode cM_mixAll 51 = .ok (.iaload, 1) := by decide +kernel
theorem dM_mixAll_52 : decode cM_mixAll 52 = .ok (.istore 6, 2) := by decide +kernel
theorem dM_mixAll_54 : decode cM_mixAll 54 = .ok (.aload_n 0, 1) := by decide +kernel
theorem dM_mixAll_55 : decode cM_mixAll 55 = .ok (.getfield 16, 3) := by decide +kernel
theorem dM_mixAll_58 : decode cM_mixAll 58 = .ok (.sipush 2048, 3) := by decide +kernel
theorem dM_mixAll_61 : decode cM_mixAll 61 = .ok (.iload 4, 2) := by decide +kernel
theorem dM_mixAll_63 : decode cM_mixAll 63 = .ok (.iadd, 1) := by decide +kernel
theorem dM_mixAll_64 : decode cM_mixAll 64 = .ok (.iaload, 1) := by decide +kernel
theorem dM_mixAll_65 : decode cM_mixAll 65 = .ok (.istore 7, 2) := by decide +kernel
theorem dM_mixAll_67 : decode cM_mixAll 67 = .ok (.aload_n 0, 1) := by decide +kernel
theorem dM_mixAll_68 : decode cM_mixAll 68 = .ok (.getfield 16, 3) := by decide +kernel
theorem dM_mixAll_71 : decode cM_mixAll 71 = .ok (.sipush 3072, 3) := by decide +kernel
theorem dM_mixAll_74 : decode cM_mixAll 74 = .ok (.iload 4, 2) := by decide +kernel
theorem dM_mixAll_76 : decode cM_mixAll 76 = .ok (.iadd, 1) := by decide +kernel
theorem dM_mixAll_77 : decode cM_mixAll 77 = .ok (.iaload, 1) := by decide +kernel
theorem dM_mixAll_78 : decode cM_mixAll 78 = .ok (.istore 8, 2) := by decide +kernel
theorem dM_mixAll_80 : decode cM_mixAll 80 = .ok (.iconst 0, 1) := by decide +kernel
theorem dM_mixAll_81 : decode cM_mixAll 81 = .ok (.istore 9, 2) := by decide +kernel
theorem dM_mixAll_83 : decode cM_mixAll 83 = .ok (.iload 9, 2) := by decide +kernel
theorem dM_mixAll_85 : decode cM_mixAll 85 = .ok (.iconst 3, 1) := by decide +kernel
theorem dM_mixAll_86 : decode cM_mixAll 86 = .ok (.if_icmp .ge 37, 3) := by decide +kernel
theorem dM_mixAll_89 : decode cM_mixAll 89 = .ok (.aload_n 0, 1) := by decide +kernel
theorem dM_mixAll_90 : decode cM_mixAll 90 = .ok (.getfield 16, 3) := by decide +kernel
theorem dM_mixAll_93 : decode cM_mixAll 93 = .ok (.sipush 1024, 3) := by decide +kernel
theorem dM_mixAll_96 : decode cM_mixAll 96 = .ok (.iload 9, 2) := by decide +kernel
theorem dM_mixAll_98 : decode cM_mixAll 98 = .ok (.imul, 1) := by decide +kernel
theorem dM_mixAll_99 : decode cM_mixAll 99 = .ok (.iload 4, 2) := by decide +kernel
theorem dM_mixAll_101 : decode cM_mixAll 101 = .ok (.iadd, 1) := by decide +kernel
theorem dM_mixAll_102 : decode cM_mixAll 102 = .ok (.iload_n 1, 1) := by decide +kernel
theorem dM_mixAll_103 : decode cM_mixAll 103 = .ok (.iload 9, 2) := by decide +kernel
theorem dM_mixAll_105 : decode cM_mixAll 105 = .ok (.iload 5, 2) := by decide +kernel
theorem dM_mixAll_107 : decode cM_mixAll 107 = .ok (.iload 6, 2) := by decide +kernel
theorem dM_mixAll_109 : decode cM_mixAll 109 = .ok (.iload 7, 2) := by decide +kernel
theorem dM_mixAll_111 : decode cM_mixAll 111 = .ok (.iload 8, 2) := by decide +kernel
theorem dM_mixAll_113 : decode cM_mixAll 113 = .ok (.invokestatic 81, 3) := by decide +kernel
theorem dM_mixAll_116 : decode cM_mixAll 116 = .ok (.iastore, 1) := by decide +kernel
theorem dM_mixAll_117 : decode cM_mixAll 117 = .ok (.iinc 9 1, 3) := by decide +kernel
theorem dM_mixAll_120 : decode cM_mixAll 120 = .ok (.goto (-37), 3) := by decide +kernel
theorem dM_mixAll_123 : decode cM_mixAll 123 = .ok (.iinc 3 1, 3) := by decide +kernel
theorem dM_mixAll_126 : decode cM_mixAll 126 = .ok (.goto (-112), 3) := by decide +kernel
theorem dM_mixAll_129 : decode cM_mixAll 129 = .ok (.iinc 2 1, 3) := by decide +kernel
theorem dM_mixAll_132 : decode cM_mixAll 132 = .ok (.goto (-130), 3) := by decide +kernel
theorem dM_mixAll_135 : decode cM_mixAll 135 = .ok (.return_, 1) := by decide +kernel
theorem dM_mixed_0 : decode cM_mixed 0 = .ok (.iload_n 1, 1) := by decide +kernel
theorem dM_mixed_1 : decode cM_mixed 1 = .ok (.ifCond .ne 7, 3) := by decide +kernel
theorem dM_mixed_4 : decode cM_mixed 4 = .ok (.iload_n 2, 1) := by decide +kernel
theorem dM_mixed_5 : decode cM_mixed 5 = .ok (.goto 14, 3) := by decide +kernel
theorem dM_mixed_8 : decode cM_mixed 8 = .ok (.iload_n 1, 1) := by decide +kernel
theorem dM_mixed_9 : decode cM_mixed 9 = .ok (.iconst 1, 1) := by decide +kernel
theorem dM_mixed_10 : decode cM_mixed 10 = .ok (.if_icmp .ne 7, 3) := by decide +kernel
theorem dM_mixed_13 : decode cM_mixed 13 = .ok (.iload_n 3, 1) := by decide +kernel
theorem dM_mixed_14 : decode cM_mixed 14 = .ok (.goto 5, 3) := by decide +kernel
theorem dM_mixed_17 : decode cM_mixed 17 = .ok (.iload 4, 2) := by decide +kernel
theorem dM_mixed_19 : decode cM_mixed 19 = .ok (.istore 6, 2) := by decide +kernel
theorem dM_mixed_21 : decode cM_mixed 21 = .ok (.iload_n 0, 1) := by decide +kernel
theorem dM_mixed_22 : decode cM_mixed 22 = .ok (.tableswitch 190 0 3 #[30, 97, 166, 173], 30) := by decide +kernel
theorem dM_mixed_52 : decode cM_mixed 52 = .ok (.iload_n 1, 1) := by decide +kernel
theorem dM_mixed_53 : decode cM_mixed 53 = .ok (.ifCond .ne 15, 3) := by decide +kernel
theorem dM_mixed_56 : decode cM_mixed 56 = .ok (.ldc 70, 2) := by decide +kernel
theorem dM_mixed_58 : decode cM_mixed 58 = .ok (.iload 4, 2) := by decide +kernel
theorem dM_mixed_60 : decode cM_mixed 60 = .ok (.sipush 128, 3) := by decide +kernel
theorem dM_mixed_63 : decode cM_mixed 63 = .ok (.isub, 1) := by decide +kernel
theorem dM_mixed_64 : decode cM_mixed 64 = .ok (.imul, 1) := by decide +kernel
theorem dM_mixed_65 : decode cM_mixed 65 = .ok (.goto 38, 3) := by decide +kernel
theorem dM_mixed_68 : decode cM_mixed 68 = .ok (.iload_n 1, 1) := by decide +kernel
theorem dM_mixed_69 : decode cM_mixed 69 = .ok (.iconst 1, 1) := by decide +kernel
theorem dM_mixed_70 : decode cM_mixed 70 = .ok (.if_icmp .ne 25, 3) := by decide +kernel
theorem dM_mixed_73 : decode cM_mixed 73 = .ok (.sipush (-22554), 3) := by decide +kernel
theorem dM_mixed_76 : decode cM_mixed 76 = .ok (.iload_n 3, 1) := by decide +kernel
theorem dM_mixed_77 : decode cM_mixed 77 = .ok (.sipush 128, 3) := by decide +kernel
theorem dM_mixed_80 : decode cM_mixed 80 = .ok (.isub, 1) := by decide +kernel
theorem dM_mixed_81 : decode cM_mixed 81 = .ok (.imul, 1) := by decide +kernel
theorem dM_mixed_82 : decode cM_mixed 82 = .ok (.ldc 71, 2) := by decide +kernel
theorem dM_mixed_84 : decode cM_mixed 84 = .ok (.iload 4, 2) := by decide +kernel
theorem dM_mixed_86 : decode cM_mixed 86 = .ok (.sipush 128, 3) := by decide +kernel
theorem dM_mixed_89 : decode cM_mixed 89 = .ok (.isub, 1) := by decide +kernel
theorem dM_mixed_90 : decode cM_mixed 90 = .ok (.imul, 1) := by decide +kernel
theorem dM_mixed_91 : decode cM_mixed 91 = .ok (.isub, 1) := by decide +kernel
theorem dM_mixed_92 : decode cM_mixed 92 = .ok (.goto 11, 3) := by decide +kernel
theorem dM_mixed_95 : decode cM_mixed 95 = .ok (.ldc 72, 2) := by decide +kernel
theorem dM_mixed_97 : decode cM_mixed 97 = .ok (.iload_n 3, 1) := by decide +kernel
theorem dM_mixed_98 : decode cM_mixed 98 = .ok (.sipush 128, 3) := by decide +kernel
theorem dM_mixed_101 : decode cM_mixed 101 = .ok (.isub, 1) := by decide +kernel
theorem dM_mixed_102 : decode cM_mixed 102 = .ok (.imul, 1) := by decide +kernel
theorem dM_mixed_103 : decode cM_mixed 103 = .ok (.istore 7, 2) := by decide +kernel
theorem dM_mixed_105 : decode cM_mixed 105 = .ok (.iload_n 2, 1) := by decide +kernel
theorem dM_mixed_106 : decode cM_mixed 106 = .ok (.iload 7, 2) := by decide +kernel
theorem dM_mixed_108 : decode cM_mixed 108 = .ok (.ldc 69, 2) := by decide +kernel
theorem dM_mixed_110 : decode cM_mixed 110 = .ok (.iadd, 1) := by decide +kernel
theorem dM_mixed_111 : decode cM_mixed 111 = .ok (.bipush 16, 2) := by decide +kernel
theorem dM_mixed_113 : decode cM_mixed 113 = .ok (.ishr, 1) := by decide +kernel
theorem dM_mixed_114 : decode cM_mixed 114 = .ok (.iadd, 1) := by decide +kernel
theorem dM_mixed_115 : decode cM_mixed 115 = .ok (.invokestatic 73, 3) := by decide +kernel
theorem dM_mixed_118 : decode cM_mixed 118 = .ok (.ireturn, 1) := by decide +kernel
theorem dM_mixed_119 : decode cM_mixed 119 = .ok (.iload_n 1, 1) := by decide +kernel
theorem dM_mixed_120 : decode cM_mixed 120 = .ok (.ifCond .ne 13, 3) := by decide +kernel
theorem dM_mixed_123 : decode cM_mixed 123 = .ok (.iload_n 2, 1) := by decide +kernel
theorem dM_mixed_124 : decode cM_mixed 124 = .ok (.iload_n 3, 1) := by decide +kernel
theorem dM_mixed_125 : decode cM_mixed 125 = .ok (.iload 4, 2) := by decide +kernel
theorem dM_mixed_127 : decode cM_mixed 127 = .ok (.invokestatic 77, 3) := by decide +kernel
theorem dM_mixed_130 : decode cM_mixed 130 = .ok (.goto 57, 3) := by decide +kernel
theorem dM_mixed_133 : decode cM_mixed 133 = .ok (.iload_n 1, 1) := by decide +kernel
theorem dM_mixed_134 : decode cM_mixed 134 = .ok (.iconst 1, 1) := by decide +kernel
theorem dM_mixed_135 : decode cM_mixed 135 = .ok (.if_icmp .ne 29, 3) := by decide +kernel
theorem dM_mixed_138 : decode cM_mixed 138 = .ok (.sipush (-11059), 3) := by decide +kernel
theorem dM_mixed_141 : decode cM_mixed 141 = .ok (.iload_n 2, 1) := by decide +kernel
theorem dM_mixed_142 : decode cM_mixed 142 = .ok (.imul, 1) := by decide +kernel
theorem dM_mixed_143 : decode cM_mixed 143 = .ok (.sipush 21709, 3) := by decide +kernel
theorem dM_mixed_146 : decode cM_mixed 146 = .ok (.iload_n 3, 1) := by decide +kernel
theorem dM_mixed_147 : decode cM_mixed 147 = .ok (.imul, 1) := by decide +kernel
theorem dM_mixed_148 : decode cM_mixed 148 = .ok (.isub, 1) := by decide +kernel
theorem dM_mixed_149 : decode cM_mixed 149 = .ok (.ldc 69, 2) := by decide +kernel
theorem dM_mixed_151 : decode cM_mixed 151 = .ok (.iload 4, 2) := by decide +kernel
theorem dM_mixed_153 : decode cM_mixed 153 = .ok (.imul, 1) := by decide +kernel
theorem dM_mixed_154 : decode cM_mixed 154 = .ok (.iadd, 1) := by decide +kernel
theorem dM_mixed_155 : decode cM_mixed 155 = .ok (.ldc 80, 2) := by decide +kernel
theorem dM_mixed_157 : decode cM_mixed 157 = .ok (.iadd, 1) := by decide +kernel
theorem dM_mixed_158 : decode cM_mixed 158 = .ok (.bipush 16, 2) := by decide +kernel
theorem dM_mixed_160 : decode cM_mixed 160 = .ok (.ishr, 1) := by decide +kernel
theorem dM_mixed_161 : decode cM_mixed 161 = .ok (.goto 26, 3) := by decide +kernel
theorem dM_mixed_164 : decode cM_mixed 164 = .ok (.ldc 69, 2) := by decide +kernel
theorem dM_mixed_166 : decode cM_mixed 166 = .ok (.iload_n 2, 1) := by decide +kernel
theorem dM_mixed_167 : decode cM_mixed 167 = .ok (.imul, 1) := by decide +kernel
theorem dM_mixed_168 : decode cM_mixed 168 = .ok (.sipush 27439, 3) := by decide +kernel
theorem dM_mixed_171 : decode cM_mixed 171 = .ok (.iload_n 3, 1) := by decide +kernel
theorem dM_mixed_172 : decode cM_mixed 172 = .ok (.imul, 1) := by decide +kernel
theorem dM_mixed_173 : decode cM_mixed 173 = .ok (.isub, 1) := by decide +kernel
theorem dM_mixed_174 : decode cM_mixed 174 = .ok (.sipush 5329, 3) := by decide +kernel
theorem dM_mixed_177 : decode cM_mixed 177 = .ok (.iload 4, 2) := by decide +kernel
theorem dM_mixed_179 : decode cM_mixed 179 = .ok (.imul, 1) := by decide +kernel
theorem dM_mixed_180 : decode cM_mixed 180 = .ok (.isub, 1) := by decide +kernel
theorem dM_mixed_181 : decode cM_mixed 181 = .ok (.ldc 80, 2) := by decide +kernel
theorem dM_mixed_183 : decode cM_mixed 183 = .ok (.iadd, 1) := by decide +kernel
theorem dM_mixed_184 : decode cM_mixed 184 = .ok (.bipush 16, 2) := by decide +kernel
theorem dM_mixed_186 : decode cM_mixed 186 = .ok (.ishr, 1) := by decide +kernel
theorem dM_mixed_187 : decode cM_mixed 187 = .ok (.ireturn, 1) := by decide +kernel
theorem dM_mixed_188 : decode cM_mixed 188 = .ok (.sipush 255, 3) := by decide +kernel
theorem dM_mixed_191 : decode cM_mixed 191 = .ok (.iload 6, 2) := by decide +kernel
theorem dM_mixed_193 : decode cM_mixed 193 = .ok (.isub, 1) := by decide +kernel
theorem dM_mixed_194 : decode cM_mixed 194 = .ok (.ireturn, 1) := by decide +kernel
theorem dM_mixed_195 : decode cM_mixed 195 = .ok (.iload 6, 2) := by decide +kernel
theorem dM_mixed_197 : decode cM_mixed 197 = .ok (.sipush 255, 3) := by decide +kernel
theorem dM_mixed_200 : decode cM_mixed 200 = .ok (.iload 5, 2) := by decide +kernel
theorem dM_mixed_202 : decode cM_mixed 202 = .ok (.isub, 1) := by decide +kernel
theorem dM_mixed_203 : decode cM_mixed 203 = .ok (.imul, 1) := by decide +kernel
theorem dM_mixed_204 : decode cM_mixed 204 = .ok (.bipush 127, 2) := by decide +kernel
theorem dM_mixed_206 : decode cM_mixed 206 = .ok (.iadd, 1) := by decide +kernel
theorem dM_mixed_207 : decode cM_mixed 207 = .ok (.sipush 255, 3) := by decide +kernel
theorem dM_mixed_210 : decode cM_mixed 210 = .ok (.idiv, 1) := by decide +kernel
theorem dM_mixed_211 : decode cM_mixed 211 = .ok (.ireturn, 1) := by decide +kernel
theorem dM_mixed_212 : decode cM_mixed 212 = .ok (.iload_n 2, 1) := by decide +kernel
theorem dM_mixed_213 : decode cM_mixed 213 = .ok (.iload_n 3, 1) := by decide +kernel
theorem dM_mixed_214 : decode cM_mixed 214 = .ok (.iload 4, 2) := by decide +kernel
theorem dM_mixed_216 : decode cM_mixed 216 = .ok (.invokestatic 77, 3) := by decide +kernel
theorem dM_mixed_219 : decode cM_mixed 219 = .ok (.ireturn, 1) := by decide +kernel
theorem dM_limit_0 : decode cM_limit 0 = .ok (.iload_n 0, 1) := by decide +kernel
theorem dM_limit_1 : decode cM_limit 1 = .ok (.ifCond .ge 7, 3) := by decide +kernel
theorem dM_limit_4 : decode cM_limit 4 = .ok (.iconst 0, 1) := by decide +kernel
theorem dM_limit_5 : decode cM_limit 5 = .ok (.goto 17, 3) := by decide +kernel
theorem dM_limit_8 : decode cM_limit 8 = .ok (.iload_n 0, 1) := by decide +kernel
theorem dM_limit_9 : decode cM_limit 9 = .ok (.sipush 255, 3) := by decide +kernel
theorem dM_limit_12 : decode cM_limit 12 = .ok (.if_icmp .le 9, 3) := by decide +kernel
theorem dM_limit_15 : decode cM_limit 15 = .ok (.sipush 255, 3) := by decide +kernel
theorem dM_limit_18 : decode cM_limit 18 = .ok (.goto 4, 3) := by decide +kernel
theorem dM_limit_21 : decode cM_limit 21 = .ok (.iload_n 0, 1) := by decide +kernel
theorem dM_limit_22 : decode cM_limit 22 = .ok (.ireturn, 1) := by decide +kernel
theorem dM_grey_0 : decode cM_grey 0 = .ok (.sipush 19595, 3) := by decide +kernel
theorem dM_grey_3 : decode cM_grey 3 = .ok (.iload_n 0, 1) := by decide +kernel
theorem dM_grey_4 : decode cM_grey 4 = .ok (.imul, 1) := by decide +kernel
theorem dM_grey_5 : decode cM_grey 5 = .ok (.ldc 68, 2) := by decide +kernel
theorem dM_grey_7 : decode cM_grey 7 = .ok (.iload_n 1, 1) := by decide +kernel
theorem dM_grey_8 : decode cM_grey 8 = .ok (.imul, 1) := by decide +kernel
theorem dM_grey_9 : decode cM_grey 9 = .ok (.iadd, 1) := by decide +kernel
theorem dM_grey_10 : decode cM_grey 10 = .ok (.sipush 7471, 3) := by decide +kernel
theorem dM_grey_13 : decode cM_grey 13 = .ok (.iload_n 2, 1) := by decide +kernel
theorem dM_grey_14 : decode cM_grey 14 = .ok (.imul, 1) := by decide +kernel
theorem dM_grey_15 : decode cM_grey 15 = .ok (.iadd, 1) := by decide +kernel
theorem dM_grey_16 : decode cM_grey 16 = .ok (.ldc 69, 2) := by decide +kernel
theorem dM_grey_18 : decode cM_grey 18 = .ok (.iadd, 1) := by decide +kernel
theorem dM_grey_19 : decode cM_grey 19 = .ok (.bipush 16, 2) := by decide +kernel
theorem dM_grey_21 : decode cM_grey 21 = .ok (.ishr, 1) := by decide +kernel
theorem dM_grey_22 : decode cM_grey 22 = .ok (.ireturn, 1) := by decide +kernel
theorem dM_copy_0 : decode cM_copy 0 = .ok (.aload_n 0, 1) := by decide +kernel
theorem dM_copy_1 : decode cM_copy 1 = .ok (.iload_n 1, 1) := by decide +kernel
theorem dM_copy_2 : decode cM_copy 2 = .ok (.invokestatic 30, 3) := by decide +kernel
theorem dM_copy_5 : decode cM_copy 5 = .ok (.ifCond .eq 14, 3) := by decide +kernel
theorem dM_copy_8 : decode cM_copy 8 = .ok (.iload_n 2, 1) := by decide +kernel
theorem dM_copy_9 : decode cM_copy 9 = .ok (.invokestatic 30, 3) := by decide +kernel
theorem dM_copy_12 : decode cM_copy 12 = .ok (.ifCond .eq 7, 3) := by decide +kernel
theorem dM_copy_15 : decode cM_copy 15 = .ok (.iconst 1, 1) := by decide +kernel
theorem dM_copy_16 : decode cM_copy 16 = .ok (.goto 4, 3) := by decide +kernel
theorem dM_copy_19 : decode cM_copy 19 = .ok (.iconst 0, 1) := by decide +kernel
theorem dM_copy_20 : decode cM_copy 20 = .ok (.iconst 1, 1) := by decide +kernel
theorem dM_copy_21 : decode cM_copy 21 = .ok (.invokevirtual 40, 3) := by decide +kernel
theorem dM_copy_24 : decode cM_copy 24 = .ok (.ifCond .ne 4, 3) := by decide +kernel
theorem dM_copy_27 : decode cM_copy 27 = .ok (.return_, 1) := by decide +kernel
theorem dM_copy_28 : decode cM_copy 28 = .ok (.aload_n 0, 1) := by decide +kernel
theorem dM_copy_29 : decode cM_copy 29 = .ok (.getfield 7, 3) := by decide +kernel
theorem dM_copy_32 : decode cM_copy 32 = .ok (.iload_n 2, 1) := by decide +kernel
theorem dM_copy_33 : decode cM_copy 33 = .ok (.aload_n 0, 1) := by decide +kernel
theorem dM_copy_34 : decode cM_copy 34 = .ok (.getfield 7, 3) := by decide +kernel
theorem dM_copy_37 : decode cM_copy 37 = .ok (.iload_n 1, 1) := by decide +kernel
theorem dM_copy_38 : decode cM_copy 38 = .ok (.iaload, 1) := by decide +kernel
theorem dM_copy_39 : decode cM_copy 39 = .ok (.iastore, 1) := by decide +kernel
theorem dM_copy_40 : decode cM_copy 40 = .ok (.aload_n 0, 1) := by decide +kernel
theorem dM_copy_41 : decode cM_copy 41 = .ok (.getfield 13, 3) := by decide +kernel
theorem dM_copy_44 : decode cM_copy 44 = .ok (.iload_n 2, 1) := by decide +kernel
theorem dM_copy_45 : decode cM_copy 45 = .ok (.aload_n 0, 1) := by decide +kernel
theorem dM_copy_46 : decode cM_copy 46 = .ok (.getfield 13, 3) := by decide +kernel
theorem dM_copy_49 : decode cM_copy 49 = .ok (.iload_n 1, 1) := by decide +kernel
theorem dM_copy_50 : decode cM_copy 50 = .ok (.iaload, 1) := by decide +kernel
theorem dM_copy_51 : decode cM_copy 51 = .ok (.iastore, 1) := by decide +kernel
theorem dM_copy_52 : decode cM_copy 52 = .ok (.iconst 0, 1) := by decide +kernel
theorem dM_copy_53 : decode cM_copy 53 = .ok (.istore_n 3, 1) := by decide +kernel
theorem dM_copy_54 : decode cM_copy 54 = .ok (.iload_n 3, 1) := by decide +kernel
theorem dM_copy_55 : decode cM_copy 55 = .ok (.sipush 1024, 3) := by decide +kernel
theorem dM_copy_58 : decode cM_copy 58 = .ok (.if_icmp .ge 33, 3) := by decide +kernel
theorem dM_copy_61 : decode cM_copy 61 = .ok (.aload_n 0, 1) := by decide +kernel
theorem dM_copy_62 : decode cM_copy 62 = .ok (.getfield 16, 3) := by decide +kernel
theorem dM_copy_65 : decode cM_copy 65 = .ok (.sipush 1024, 3) := by decide +kernel
theorem dM_copy_68 : decode cM_copy 68 = .ok (.iload_n 2, 1) := by decide +kernel
theorem dM_copy_69 : decode cM_copy 69 = .ok (.imul, 1) := by decide +kernel
theorem dM_copy_70 : decode cM_copy 70 = .ok (.iload_n 3, 1) := by decide +kernel
theorem dM_copy_71 : decode cM_copy 71 = .ok (.iadd, 1) := by decide +kernel
theorem dM_copy_72 : decode cM_copy 72 = .ok (.aload_n 0, 1) := by decide +kernel
theorem dM_copy_73 : decode cM_copy 73 = .ok (.getfield 16, 3) := by decide +kernel
theorem dM_copy_76 : decode cM_copy 76 = .ok (.sipush 1024, 3) := by decide +kernel
theorem dM_copy_79 : decode cM_copy 79 = .ok (.iload_n 1, 1) := by decide +kernel
theorem dM_copy_80 : decode cM_copy 80 = .ok (.imul, 1) := by decide +kernel
theorem dM_copy_81 : decode cM_copy 81 = .ok (.iload_n 3, 1) := by decide +kernel
theorem dM_copy_82 : decode cM_copy 82 = .ok (.iadd, 1) := by decide +kernel
theorem dM_copy_83 : decode cM_copy 83 = .ok (.iaload, 1) := by decide +kernel
theorem dM_copy_84 : decode cM_copy 84 = .ok (.iastore, 1) := by decide +kernel
theorem dM_copy_85 : decode cM_copy 85 = .ok (.iinc 3 1, 3) := by decide +kernel
theorem dM_copy_88 : decode cM_copy 88 = .ok (.goto (-34), 3) := by decide +kernel
theorem dM_copy_91 : decode cM_copy 91 = .ok (.return_, 1) := by decide +kernel
theorem dM_extend_0 : decode cM_extend 0 = .ok (.aload_n 0, 1) := by decide +kernel
theorem dM_extend_1 : decode cM_extend 1 = .ok (.iload_n 1, 1) := by decide +kernel
theorem dM_extend_2 : decode cM_extend 2 = .ok (.invokestatic 30, 3) := by decide +kernel
theorem dM_extend_5 : decode cM_extend 5 = .ok (.iconst 1, 1) := by decide +kernel
theorem dM_extend_6 : decode cM_extend 6 = .ok (.invokevirtual 40, 3) := by decide +kernel
theorem dM_extend_9 : decode cM_extend 9 = .ok (.ifCond .eq 33, 3) := by decide +kernel
theorem dM_extend_12 : decode cM_extend 12 = .ok (.iload_n 2, 1) := by decide +kernel
theorem dM_extend_13 : decode cM_extend 13 = .ok (.aload_n 0, 1) := by decide +kernel
theorem dM_extend_14 : decode cM_extend 14 = .ok (.getfield 7, 3) := by decide +kernel
theorem dM_extend_17 : decode cM_extend 17 = .ok (.iload_n 1, 1) := by decide +kernel
theorem dM_extend_18 : decode cM_extend 18 = .ok (.iaload, 1) := by decide +kernel
theorem dM_extend_19 : decode cM_extend 19 = .ok (.bipush 32, 2) := by decide +kernel
theorem dM_extend_21 : decode cM_extend 21 = .ok (.invokestatic 26, 3) := by decide +kernel
theorem dM_extend_24 : decode cM_extend 24 = .ok (.ifCond .eq 18, 3) := by decide +kernel
theorem dM_extend_27 : decode cM_extend 27 = .ok (.iload_n 3, 1) := by decide +kernel
theorem dM_extend_28 : decode cM_extend 28 = .ok (.aload_n 0, 1) := by decide +kernel
theorem dM_extend_29 : decode cM_extend 29 = .ok (.getfield 13, 3) := by decide +kernel
theorem dM_extend_32 : decode cM_extend 32 = .ok (.iload_n 1, 1) := by decide +kernel
theorem dM_extend_33 : decode cM_extend 33 = .ok (.iaload, 1) := by decide +kernel
theorem dM_extend_34 : decode cM_extend 34 = .ok (.bipush 32, 2) := by decide +kernel
theorem dM_extend_36 : decode cM_extend 36 = .ok (.invokestatic 26, 3) := by decide +kernel
theorem dM_extend_39 : decode cM_extend 39 = .ok (.ifCond .ne 5, 3) := by decide +kernel
theorem dM_extend_42 : decode cM_extend 42 = .ok (.iconst 0, 1) := by decide +kernel
theorem dM_extend_43 : decode cM_extend 43 = .ok (.ireturn, 1) := by decide +kernel
theorem dM_extend_44 : decode cM_extend 44 = .ok (.aload_n 0, 1) := by decide +kernel
theorem dM_extend_45 : decode cM_extend 45 = .ok (.iload_n 1, 1) := by decide +kernel
theorem dM_extend_46 : decode cM_extend 46 = .ok (.invokevirtual 53, 3) := by decide +kernel
theorem dM_extend_49 : decode cM_extend 49 = .ok (.aload_n 0, 1) := by decide +kernel
theorem dM_extend_50 : decode cM_extend 50 = .ok (.getfield 7, 3) := by decide +kernel
theorem dM_extend_53 : decode cM_extend 53 = .ok (.iload_n 1, 1) := by decide +kernel
theorem dM_extend_54 : decode cM_extend 54 = .ok (.iload_n 2, 1) := by decide +kernel
theorem dM_extend_55 : decode cM_extend 55 = .ok (.iastore, 1) := by decide +kernel
theorem dM_extend_56 : decode cM_extend 56 = .ok (.aload_n 0, 1) := by decide +kernel
theorem dM_extend_57 : decode cM_extend 57 = .ok (.getfield 13, 3) := by decide +kernel
theorem dM_extend_60 : decode cM_extend 60 = .ok (.iload_n 1, 1) := by decide +kernel
theorem dM_extend_61 : decode cM_extend 61 = .ok (.iload_n 3, 1) := by decide +kernel
theorem dM_extend_62 : decode cM_extend 62 = .ok (.iastore, 1) := by decide +kernel
theorem dM_extend_63 : decode cM_extend 63 = .ok (.iconst 0, 1) := by decide +kernel
theorem dM_extend_64 : decode cM_extend 64 = .ok (.istore 4, 2) := by decide +kernel
theorem dM_extend_66 : decode cM_extend 66 = .ok (.iload 4, 2) := by decide +kernel
theorem dM_extend_68 : decode cM_extend 68 = .ok (.iload_n 3, 1) := by decide +kernel
theorem dM_extend_69 : decode cM_extend 69 = .ok (.if_icmp .ge 45, 3) := by decide +kernel
theorem dM_extend_72 : decode cM_extend 72 = .ok (.iconst 0, 1) := by decide +kernel
theorem dM_extend_73 : decode cM_extend 73 = .ok (.istore 5, 2) := by decide +kernel
theorem dM_extend_75 : decode cM_extend 75 = .ok (.iload 5, 2) := by decide +kernel
theorem dM_extend_77 : decode cM_extend 77 = .ok (.iload_n 2, 1) := by decide +kernel
theorem dM_extend_78 : decode cM_extend 78 = .ok (.if_icmp .ge 30, 3) := by decide +kernel
theorem dM_extend_81 : decode cM_extend 81 = .ok (.aload_n 0, 1) := by decide +kernel
theorem dM_extend_82 : decode cM_extend 82 = .ok (.getfield 16, 3) := by decide +kernel
theorem dM_extend_85 : decode cM_extend 85 = .ok (.iload_n 1, 1) := by decide +kernel
theorem dM_extend_86 : decode cM_extend 86 = .ok (.iload 5, 2) := by decide +kernel
theorem dM_extend_88 : decode cM_extend 88 = .ok (.iload 4, 2) := by decide +kernel
theorem dM_extend_90 : decode cM_extend 90 = .ok (.invokestatic 47, 3) := by decide +kernel
theorem dM_extend_93 : decode cM_extend 93 = .ok (.aload_n 0, 1) := by decide +kernel
theorem dM_extend_94 : decode cM_extend 94 = .ok (.iload 5, 2) := by decide +kernel
theorem dM_extend_96 : decode cM_extend 96 = .ok (.iload 4, 2) := by decide +kernel
theorem dM_extend_98 : decode cM_extend 98 = .ok (.invokevirtual 57, 3) := by decide +kernel
theorem dM_extend_101 : decode cM_extend 101 = .ok (.iastore, 1) := by decide +kernel
theorem dM_extend_102 : decode cM_extend 102 = .ok (.iinc 5 1, 3) := by decide +kernel
theorem dM_extend_105 : decode cM_extend 105 = .ok (.goto (-30), 3) := by decide +kernel
theorem dM_extend_108 : decode cM_extend 108 = .ok (.iinc 4 1, 3) := by decide +kernel
theorem dM_extend_111 : decode cM_extend 111 = .ok (.goto (-45), 3) := by decide +kernel
theorem dM_extend_114 : decode cM_extend 114 = .ok (.iconst 1, 1) := by decide +kernel
theorem dM_extend_115 : decode cM_extend 115 = .ok (.ireturn, 1) := by decide +kernel
theorem dM_cut_0 : decode cM_cut 0 = .ok (.aload_n 0, 1) := by decide +kernel
theorem dM_cut_1 : decode cM_cut 1 = .ok (.iload_n 1, 1) := by decide +kernel
theorem dM_cut_2 : decode cM_cut 2 = .ok (.invokestatic 30, 3) := by decide +kernel
theorem dM_cut_5 : decode cM_cut 5 = .ok (.iconst 1, 1) := by decide +kernel
theorem dM_cut_6 : decode cM_cut 6 = .ok (.invokevirtual 40, 3) := by decide +kernel
theorem dM_cut_9 : decode cM_cut 9 = .ok (.ifCond .eq 31, 3) := by decide +kernel
theorem dM_cut_12 : decode cM_cut 12 = .ok (.iload_n 2, 1) := by decide +kernel
theorem dM_cut_13 : decode cM_cut 13 = .ok (.iconst 1, 1) := by decide +kernel
theorem dM_cut_14 : decode cM_cut 14 = .ok (.aload_n 0, 1) := by decide +kernel
theorem dM_cut_15 : decode cM_cut 15 = .ok (.getfield 7, 3) := by decide +kernel
theorem dM_cut_18 : decode cM_cut 18 = .ok (.iload_n 1, 1) := by decide +kernel
theorem dM_cut_19 : decode cM_cut 19 = .ok (.iaload, 1) := by decide +kernel
theorem dM_cut_20 : decode cM_cut 20 = .ok (.invokestatic 26, 3) := by decide +kernel
theorem dM_cut_23 : decode cM_cut 23 = .ok (.ifCond .eq 17, 3) := by decide +kernel
theorem dM_cut_26 : decode cM_cut 26 = .ok (.iload_n 3, 1) := by decide +kernel
theorem dM_cut_27 : decode cM_cut 27 = .ok (.iconst 1, 1) := by decide +kernel
theorem dM_cut_28 : decode cM_cut 28 = .ok (.aload_n 0, 1) := by decide +kernel
theorem dM_cut_29 : decode cM_cut 29 = .ok (.getfield 13, 3) := by decide +kernel
theorem dM_cut_32 : decode cM_cut 32 = .ok (.iload_n 1, 1) := by decide +kernel
theorem dM_cut_33 : decode cM_cut 33 = .ok (.iaload, 1) := by decide +kernel
theorem dM_cut_34 : decode cM_cut 34 = .ok (.invokestatic 26, 3) := by decide +kernel
theorem dM_cut_37 : decode cM_cut 37 = .ok (.ifCond .ne 5, 3) := by decide +kernel
theorem dM_cut_40 : decode cM_cut 40 = .ok (.iconst 0, 1) := by decide +kernel
theorem dM_cut_41 : decode cM_cut 41 = .ok (.ireturn, 1) := by decide +kernel
theorem dM_cut_42 : decode cM_cut 42 = .ok (.aload_n 0, 1) := by decide +kernel
theorem dM_cut_43 : decode cM_cut 43 = .ok (.getfield 7, 3) := by decide +kernel
theorem dM_cut_46 : decode cM_cut 46 = .ok (.iload_n 1, 1) := by decide +kernel
theorem dM_cut_47 : decode cM_cut 47 = .ok (.iload_n 2, 1) := by decide +kernel
theorem dM_cut_48 : decode cM_cut 48 = .ok (.iastore, 1) := by decide +kernel
theorem dM_cut_49 : decode cM_cut 49 = .ok (.aload_n 0, 1) := by decide +kernel
theorem dM_cut_50 : decode cM_cut 50 = .ok (.getfield 13, 3) := by decide +kernel
theorem dM_cut_53 : decode cM_cut 53 = .ok (.iload_n 1, 1) := by decide +kernel
theorem dM_cut_54 : decode cM_cut 54 = .ok (.iload_n 3, 1) := by decide +kernel
theorem dM_cut_55 : decode cM_cut 55 = .ok (.iastore, 1) := by decide +kernel
theorem dM_cut_56 : decode cM_cut 56 = .ok (.iconst 1, 1) := by decide +kernel
theorem dM_cut_57 : decode cM_cut 57 = .ok (.ireturn, 1) := by decide +kernel
theorem dM_at_0 : decode cM_at 0 = .ok (.aload_n 0, 1) := by decide +kernel
theorem dM_at_1 : decode cM_at 1 = .ok (.aload_n 0, 1) := by decide +kernel
theorem dM_at_2 : decode cM_at 2 = .ok (.iload_n 1, 1) := by decide +kernel
theorem dM_at_3 : decode cM_at 3 = .ok (.iload_n 2, 1) := by decide +kernel
theorem dM_at_4 : decode cM_at 4 = .ok (.iload_n 3, 1) := by decide +kernel
theorem dM_at_5 : decode cM_at 5 = .ok (.invokevirtual 44, 3) := by decide +kernel
theorem dM_at_8 : decode cM_at 8 = .ok (.iconst 1, 1) := by decide +kernel
theorem dM_at_9 : decode cM_at 9 = .ok (.invokevirtual 40, 3) := by decide +kernel
theorem dM_at_12 : decode cM_at 12 = .ok (.ifCond .eq 17, 3) := by decide +kernel
theorem dM_at_15 : decode cM_at 15 = .ok (.aload_n 0, 1) := by decide +kernel
theorem dM_at_16 : decode cM_at 16 = .ok (.getfield 16, 3) := by decide +kernel
theorem dM_at_19 : decode cM_at 19 = .ok (.iload_n 1, 1) := by decide +kernel
theorem dM_at_20 : decode cM_at 20 = .ok (.iload_n 2, 1) := by decide +kernel
theorem dM_at_21 : decode cM_at 21 = .ok (.iload_n 3, 1) := by decide +kernel
theorem dM_at_22 : decode cM_at 22 = .ok (.invokestatic 47, 3) := by decide +kernel
theorem dM_at_25 : decode cM_at 25 = .ok (.iaload, 1) := by decide +kernel
theorem dM_at_26 : decode cM_at 26 = .ok (.goto 4, 3) := by decide +kernel
theorem dM_at_29 : decode cM_at 29 = .ok (.iconst 0, 1) := by decide +kernel
theorem dM_at_30 : decode cM_at 30 = .ok (.ireturn, 1) := by decide +kernel
theorem dM_eight_0 : decode cM_eight 0 = .ok (.aload_n 0, 1) := by decide +kernel
theorem dM_eight_1 : decode cM_eight 1 = .ok (.iload_n 1, 1) := by decide +kernel
theorem dM_eight_2 : decode cM_eight 2 = .ok (.invokestatic 30, 3) := by decide +kernel
theorem dM_eight_5 : decode cM_eight 5 = .ok (.iconst 1, 1) := by decide +kernel
theorem dM_eight_6 : decode cM_eight 6 = .ok (.invokevirtual 40, 3) := by decide +kernel
theorem dM_eight_9 : decode cM_eight 9 = .ok (.ifCond .ne 5, 3) := by decide +kernel
theorem dM_eight_12 : decode cM_eight 12 = .ok (.lconst 0, 1) := by decide +kernel
theorem dM_eight_13 : decode cM_eight 13 = .ok (.lreturn, 1) := by decide +kernel
theorem dM_eight_14 : decode cM_eight 14 = .ok (.lconst 0, 1) := by decide +kernel
theorem dM_eight_15 : decode cM_eight 15 = .ok (.lstore 4, 2) := by decide +kernel
theorem dM_eight_17 : decode cM_eight 17 = .ok (.iconst 0, 1) := by decide +kernel
theorem dM_eight_18 : decode cM_eight 18 = .ok (.istore 6, 2) := by decide +kernel
theorem dM_eight_20 : decode cM_eight 20 = .ok (.iload 6, 2) := by decide +kernel
theorem dM_eight_22 : decode cM_eight 22 = .ok (.bipush 8, 2) := by decide +kernel
theorem dM_eight_24 : decode cM_eight 24 = .ok (.if_icmp .ge 53, 3) := by decide +kernel
theorem dM_eight_27 : decode cM_eight 27 = .ok (.aload_n 0, 1) := by decide +kernel
theorem dM_eight_28 : decode cM_eight 28 = .ok (.iload_n 1, 1) := by decide +kernel
theorem dM_eight_29 : decode cM_eight 29 = .ok (.iload_n 2, 1) := by decide +kernel
theorem dM_eight_30 : decode cM_eight 30 = .ok (.iload 6, 2) := by decide +kernel
theorem dM_eight_32 : decode cM_eight 32 = .ok (.iadd, 1) := by decide +kernel
theorem dM_eight_33 : decode cM_eight 33 = .ok (.iload_n 3, 1) := by decide +kernel
theorem dM_eight_34 : decode cM_eight 34 = .ok (.invokevirtual 44, 3) := by decide +kernel
theorem dM_eight_37 : decode cM_eight 37 = .ok (.istore 7, 2) := by decide +kernel
theorem dM_eight_39 : decode cM_eight 39 = .ok (.lload 4, 2) := by decide +kernel
theorem dM_eight_41 : decode cM_eight 41 = .ok (.bipush 8, 2) := by decide +kernel
theorem dM_eight_43 : decode cM_eight 43 = .ok (.lshl, 1) := by decide +kernel
theorem dM_eight_44 : decode cM_eight 44 = .ok (.iload 7, 2) := by decide +kernel
theorem dM_eight_46 : decode cM_eight 46 = .ok (.ifCond .eq 20, 3) := by decide +kernel
theorem dM_eight_49 : decode cM_eight 49 = .ok (.aload_n 0, 1) := by decide +kernel
theorem dM_eight_50 : decode cM_eight 50 = .ok (.getfield 16, 3) := by decide +kernel
theorem dM_eight_53 : decode cM_eight 53 = .ok (.iload_n 1, 1) := by decide +kernel
theorem dM_eight_54 : decode cM_eight 54 = .ok (.iload_n 2, 1) := by decide +kernel
theorem dM_eight_55 : decode cM_eight 55 = .ok (.iload 6, 2) := by decide +kernel
theorem dM_eight_57 : decode cM_eight 57 = .ok (.iadd, 1) := by decide +kernel
theorem dM_eight_58 : decode cM_eight 58 = .ok (.iload_n 3, 1) := by decide +kernel
theorem dM_eight_59 : decode cM_eight 59 = .ok (.invokestatic 47, 3) := by decide +kernel
theorem dM_eight_62 : decode cM_eight 62 = .ok (.iaload, 1) := by decide +kernel
theorem dM_eight_63 : decode cM_eight 63 = .ok (.goto 4, 3) := by decide +kernel
theorem dM_eight_66 : decode cM_eight 66 = .ok (.iconst 0, 1) := by decide +kernel
theorem dM_eight_67 : decode cM_eight 67 = .ok (.i2l, 1) := by decide +kernel
theorem dM_eight_68 : decode cM_eight 68 = .ok (.lor, 1) := by decide +kernel
theorem dM_eight_69 : decode cM_eight 69 = .ok (.lstore 4, 2) := by decide +kernel
theorem dM_eight_71 : decode cM_eight 71 = .ok (.iinc 6 1, 3) := by decide +kernel
theorem dM_eight_74 : decode cM_eight 74 = .ok (.goto (-54), 3) := by decide +kernel
theorem dM_eight_77 : decode cM_eight 77 = .ok (.lload 4, 2) := by decide +kernel
theorem dM_eight_79 : decode cM_eight 79 = .ok (.lreturn, 1) := by decide +kernel
theorem dM_apart_0 : decode cM_apart 0 = .ok (.aload_n 0, 1) := by decide +kernel
theorem dM_apart_1 : decode cM_apart 1 = .ok (.iload_n 1, 1) := by decide +kernel
theorem dM_apart_2 : decode cM_apart 2 = .ok (.invokestatic 30, 3) := by decide +kernel
theorem dM_apart_5 : decode cM_apart 5 = .ok (.ifCond .eq 14, 3) := by decide +kernel
theorem dM_apart_8 : decode cM_apart 8 = .ok (.iload_n 2, 1) := by decide +kernel
theorem dM_apart_9 : decode cM_apart 9 = .ok (.invokestatic 30, 3) := by decide +kernel
theorem dM_apart_12 : decode cM_apart 12 = .ok (.ifCond .eq 7, 3) := by decide +kernel
theorem dM_apart_15 : decode cM_apart 15 = .ok (.iconst 1, 1) := by decide +kernel
theorem dM_apart_16 : decode cM_apart 16 = .ok (.goto 4, 3) := by decide +kernel
theorem dM_apart_19 : decode cM_apart 19 = .ok (.iconst 0, 1) := by decide +kernel
theorem dM_apart_20 : decode cM_apart 20 = .ok (.iconst 1, 1) := by decide +kernel
theorem dM_apart_21 : decode cM_apart 21 = .ok (.invokevirtual 40, 3) := by decide +kernel
theorem dM_apart_24 : decode cM_apart 24 = .ok (.ifCond .ne 5, 3) := by decide +kernel
theorem dM_apart_27 : decode cM_apart 27 = .ok (.iconst 0, 1) := by decide +kernel
theorem dM_apart_28 : decode cM_apart 28 = .ok (.ireturn, 1) := by decide +kernel
theorem dM_apart_29 : decode cM_apart 29 = .ok (.aload_n 0, 1) := by decide +kernel
theorem dM_apart_30 : decode cM_apart 30 = .ok (.iload_n 1, 1) := by decide +kernel
theorem dM_apart_31 : decode cM_apart 31 = .ok (.iload_n 2, 1) := by decide +kernel
theorem dM_apart_32 : decode cM_apart 32 = .ok (.invokevirtual 85, 3) := by decide +kernel
theorem dM_apart_35 : decode cM_apart 35 = .ok (.ifCond .ne 5, 3) := by decide +kernel
theorem dM_apart_38 : decode cM_apart 38 = .ok (.iconst (-1), 1) := by decide +kernel
theorem dM_apart_39 : decode cM_apart 39 = .ok (.ireturn, 1) := by decide +kernel
theorem dM_apart_40 : decode cM_apart 40 = .ok (.iconst 0, 1) := by decide +kernel
theorem dM_apart_41 : decode cM_apart 41 = .ok (.istore_n 3, 1) := by decide +kernel
theorem dM_apart_42 : decode cM_apart 42 = .ok (.iconst 0, 1) := by decide +kernel
theorem dM_apart_43 : decode cM_apart 43 = .ok (.istore 4, 2) := by decide +kernel
theorem dM_apart_45 : decode cM_apart 45 = .ok (.iload 4, 2) := by decide +kernel
theorem dM_apart_47 : decode cM_apart 47 = .ok (.aload_n 0, 1) := by decide +kernel
theorem dM_apart_48 : decode cM_apart 48 = .ok (.getfield 13, 3) := by decide +kernel
theorem dM_apart_51 : decode cM_apart 51 = .ok (.iload_n 1, 1) := by decide +kernel
theorem dM_apart_52 : decode cM_apart 52 = .ok (.iaload, 1) := by decide +kernel
theorem dM_apart_53 : decode cM_apart 53 = .ok (.if_icmp .ge 86, 3) := by decide +kernel
theorem dM_apart_56 : decode cM_apart 56 = .ok (.iconst 0, 1) := by decide +kernel
theorem dM_apart_57 : decode cM_apart 57 = .ok (.istore 5, 2) := by decide +kernel
theorem dM_apart_59 : decode cM_apart 59 = .ok (.iload 5, 2) := by decide +kernel
theorem dM_apart_61 : decode cM_apart 61 = .ok (.aload_n 0, 1) := by decide +kernel
theorem dM_apart_62 : decode cM_apart 62 = .ok (.getfield 7, 3) := by decide +kernel
theorem dM_apart_65 : decode cM_apart 65 = .ok (.iload_n 1, 1) := by decide +kernel
theorem dM_apart_66 : decode cM_apart 66 = .ok (.iaload, 1) := by decide +kernel
theorem dM_apart_67 : decode cM_apart 67 = .ok (.if_icmp .ge 66, 3) := by decide +kernel
theorem dM_apart_70 : decode cM_apart 70 = .ok (.aload_n 0, 1) := by decide +kernel
theorem dM_apart_71 : decode cM_apart 71 = .ok (.getfield 16, 3) := by decide +kernel
theorem dM_apart_74 : decode cM_apart 74 = .ok (.iload_n 1, 1) := by decide +kernel
theorem dM_apart_75 : decode cM_apart 75 = .ok (.iload 5, 2) := by decide +kernel
theorem dM_apart_77 : decode cM_apart 77 = .ok (.iload 4, 2) := by decide +kernel
theorem dM_apart_79 : decode cM_apart 79 = .ok (.invokestatic 47, 3) := by decide +kernel
theorem dM_apart_82 : decode cM_apart 82 = .ok (.iaload, 1) := by decide +kernel
theorem dM_apart_83 : decode cM_apart 83 = .ok (.aload_n 0, 1) := by decide +kernel
theorem dM_apart_84 : decode cM_apart 84 = .ok (.getfield 16, 3) := by decide +kernel
theorem dM_apart_87 : decode cM_apart 87 = .ok (.iload_n 2, 1) := by decide +kernel
theorem dM_apart_88 : decode cM_apart 88 = .ok (.iload 5, 2) := by decide +kernel
theorem dM_apart_90 : decode cM_apart 90 = .ok (.iload 4, 2) := by decide +kernel
theorem dM_apart_92 : decode cM_apart 92 = .ok (.invokestatic 47, 3) := by decide +kernel
theorem dM_apart_95 : decode cM_apart 95 = .ok (.iaload, 1) := by decide +kernel
theorem dM_apart_96 : decode cM_apart 96 = .ok (.isub, 1) := by decide +kernel
theorem dM_apart_97 : decode cM_apart 97 = .ok (.istore 6, 2) := by decide +kernel
theorem dM_apart_99 : decode cM_apart 99 = .ok (.iload 6, 2) := by decide +kernel
theorem dM_apart_101 : decode cM_apart 101 = .ok (.ifCond .ge 9, 3) := by decide +kernel
theorem dM_apart_104 : decode cM_apart 104 = .ok (.iload 6, 2) := by decide +kernel
theorem dM_apart_106 : decode cM_apart 106 = .ok (.ineg, 1) := by decide +kernel
theorem dM_apart_107 : decode cM_apart 107 = .ok (.goto 5, 3) := by decide +kernel
theorem dM_apart_110 : decode cM_apart 110 = .ok (.iload 6, 2) := by decide +kernel
theorem dM_apart_112 : decode cM_apart 112 = .ok (.istore 6, 2) := by decide +kernel
theorem dM_apart_114 : decode cM_apart 114 = .ok (.iload 6, 2) := by decide +kernel
theorem dM_apart_116 : decode cM_apart 116 = .ok (.iload_n 3, 1) := by decide +kernel
theorem dM_apart_117 : decode cM_apart 117 = .ok (.if_icmp .le 8, 3) := by decide +kernel
theorem dM_apart_120 : decode cM_apart 120 = .ok (.iload 6, 2) := by decide +kernel
theorem dM_apart_122 : decode cM_apart 122 = .ok (.goto 4, 3) := by decide +kernel
theorem dM_apart_125 : decode cM_apart 125 = .ok (.iload_n 3, 1) := by decide +kernel
theorem dM_apart_126 : decode cM_apart 126 = .ok (.istore_n 3, 1) := by decide +kernel
theorem dM_apart_127 : decode cM_apart 127 = .ok (.iinc 5 1, 3) := by decide +kernel
theorem dM_apart_130 : decode cM_apart 130 = .ok (.goto (-71), 3) := by decide +kernel
theorem dM_apart_133 : decode cM_apart 133 = .ok (.iinc 4 1, 3) := by decide +kernel
theorem dM_apart_136 : decode cM_apart 136 = .ok (.goto (-91), 3) := by decide +kernel
theorem dM_apart_139 : decode cM_apart 139 = .ok (.iload_n 3, 1) := by decide +kernel
theorem dM_apart_140 : decode cM_apart 140 = .ok (.ireturn, 1) := by decide +kernel
theorem dM_look_0 : decode cM_look 0 = .ok (.aload_n 0, 1) := by decide +kernel
theorem dM_look_1 : decode cM_look 1 = .ok (.iload_n 1, 1) := by decide +kernel
theorem dM_look_2 : decode cM_look 2 = .ok (.invokestatic 30, 3) := by decide +kernel
theorem dM_look_5 : decode cM_look 5 = .ok (.iconst 1, 1) := by decide +kernel
theorem dM_look_6 : decode cM_look 6 = .ok (.invokevirtual 40, 3) := by decide +kernel
theorem dM_look_9 : decode cM_look 9 = .ok (.ifCond .ne 5, 3) := by decide +kernel
theorem dM_look_12 : decode cM_look 12 = .ok (.iconst 0, 1) := by decide +kernel
theorem dM_look_13 : decode cM_look 13 = .ok (.ireturn, 1) := by decide +kernel
theorem dM_look_14 : decode cM_look 14 = .ok (.iconst 0, 1) := by decide +kernel
theorem dM_look_15 : decode cM_look 15 = .ok (.istore_n 3, 1) := by decide +kernel
theorem dM_look_16 : decode cM_look 16 = .ok (.sipush 255, 3) := by decide +kernel
theorem dM_look_19 : decode cM_look 19 = .ok (.istore 4, 2) := by decide +kernel
theorem dM_look_21 : decode cM_look 21 = .ok (.iconst 0, 1) := by decide +kernel
theorem dM_look_22 : decode cM_look 22 = .ok (.istore 5, 2) := by decide +kernel
theorem dM_look_24 : decode cM_look 24 = .ok (.iconst 0, 1) := by decide +kernel
theorem dM_look_25 : decode cM_look 25 = .ok (.istore 6, 2) := by decide +kernel
theorem dM_look_27 : decode cM_look 27 = .ok (.iload 6, 2) := by decide +kernel
theorem dM_look_29 : decode cM_look 29 = .ok (.aload_n 0, 1) := by decide +kernel
theorem dM_look_30 : decode cM_look 30 = .ok (.getfield 13, 3) := by decide +kernel
theorem dM_look_33 : decode cM_look 33 = .ok (.iload_n 1, 1) := by decide +kernel
theorem dM_look_34 : decode cM_look 34 = .ok (.iaload, 1) := by decide +kernel
theorem dM_look_35 : decode cM_look 35 = .ok (.if_icmp .ge 81, 3) := by decide +kernel
theorem dM_look_38 : decode cM_look 38 = .ok (.iconst 0, 1) := by decide +kernel
theorem dM_look_39 : decode cM_look 39 = .ok (.istore 7, 2) := by decide +kernel
theorem dM_look_41 : decode cM_look 41 = .ok (.iload 7, 2) := by decide +kernel
theorem dM_look_43 : decode cM_look 43 = .ok (.aload_n 0, 1) := by decide +kernel
theorem dM_look_44 : decode cM_look 44 = .ok (.getfield 7, 3) := by decide +kernel
theorem dM_look_47 : decode cM_look 47 = .ok (.iload_n 1, 1) := by decide +kernel
theorem dM_look_48 : decode cM_look 48 = .ok (.iaload, 1) := by decide +kernel
theorem dM_look_49 : decode cM_look 49 = .ok (.if_icmp .ge 61, 3) := by decide +kernel
theorem dM_look_52 : decode cM_look 52 = .ok (.aload_n 0, 1) := by decide +kernel
theorem dM_look_53 : decode cM_look 53 = .ok (.getfield 16, 3) := by decide +kernel
theorem dM_look_56 : decode cM_look 56 = .ok (.iload_n 1, 1) := by decide +kernel
theorem dM_look_57 : decode cM_look 57 = .ok (.iload 7, 2) := by decide +kernel
theorem dM_look_59 : decode cM_look 59 = .ok (.iload 6, 2) := by decide +kernel
theorem dM_look_61 : decode cM_look 61 = .ok (.invokestatic 47, 3) := by decide +kernel
theorem dM_look_64 : decode cM_look 64 = .ok (.iaload, 1) := by decide +kernel
theorem dM_look_65 : decode cM_look 65 = .ok (.istore 8, 2) := by decide +kernel
theorem dM_look_67 : decode cM_look 67 = .ok (.iload_n 3, 1) := by decide +kernel
theorem dM_look_68 : decode cM_look 68 = .ok (.iload 8, 2) := by decide +kernel
theorem dM_look_70 : decode cM_look 70 = .ok (.iadd, 1) := by decide +kernel
theorem dM_look_71 : decode cM_look 71 = .ok (.istore_n 3, 1) := by decide +kernel
theorem dM_look_72 : decode cM_look 72 = .ok (.iload 8, 2) := by decide +kernel
theorem dM_look_74 : decode cM_look 74 = .ok (.iload 4, 2) := by decide +kernel
theorem dM_look_76 : decode cM_look 76 = .ok (.if_icmp .ge 8, 3) := by decide +kernel
theorem dM_look_79 : decode cM_look 79 = .ok (.iload 8, 2) := by decide +kernel
theorem dM_look_81 : decode cM_look 81 = .ok (.goto 5, 3) := by decide +kernel
theorem dM_look_84 : decode cM_look 84 = .ok (.iload 4, 2) := by decide +kernel
theorem dM_look_86 : decode cM_look 86 = .ok (.istore 4, 2) := by decide +kernel
theorem dM_look_88 : decode cM_look 88 = .ok (.iload 8, 2) := by decide +kernel
theorem dM_look_90 : decode cM_look 90 = .ok (.iload 5, 2) := by decide +kernel
theorem dM_look_92 : decode cM_look 92 = .ok (.if_icmp .le 8, 3) := by decide +kernel
theorem dM_look_95 : decode cM_look 95 = .ok (.iload 8, 2) := by decide +kernel
theorem dM_look_97 : decode cM_look 97 = .ok (.goto 5, 3) := by decide +kernel
theorem dM_look_100 : decode cM_look 100 = .ok (.iload 5, 2) := by decide +kernel
theorem dM_look_102 : decode cM_look 102 = .ok (.istore 5, 2) := by decide +kernel
theorem dM_look_104 : decode cM_look 104 = .ok (.iinc 7 1, 3) := by decide +kernel
theorem dM_look_107 : decode cM_look 107 = .ok (.goto (-66), 3) := by decide +kernel
theorem dM_look_110 : decode cM_look 110 = .ok (.iinc 6 1, 3) := by decide +kernel
theorem dM_look_113 : decode cM_look 113 = .ok (.goto (-86), 3) := by decide +kernel
theorem dM_look_116 : decode cM_look 116 = .ok (.iload_n 2, 1) := by decide +kernel
theorem dM_look_117 : decode cM_look 117 = .ok (.tableswitch 57 0 4 #[35, 42, 49, 51, 54], 35) := by decide +kernel
theorem dM_look_152 : decode cM_look 152 = .ok (.aload_n 0, 1) := by decide +kernel
theorem dM_look_153 : decode cM_look 153 = .ok (.getfield 7, 3) := by decide +kernel
theorem dM_look_156 : decode cM_look 156 = .ok (.iload_n 1, 1) := by decide +kernel
theorem dM_look_157 : decode cM_look 157 = .ok (.iaload, 1) := by decide +kernel
theorem dM_look_158 : decode cM_look 158 = .ok (.ireturn, 1) := by decide +kernel
theorem dM_look_159 : decode cM_look 159 = .ok (.aload_n 0, 1) := by decide +kernel
theorem dM_look_160 : decode cM_look 160 = .ok (.getfield 13, 3) := by decide +kernel
theorem dM_look_163 : decode cM_look 163 = .ok (.iload_n 1, 1) := by decide +kernel
theorem dM_look_164 : decode cM_look 164 = .ok (.iaload, 1) := by decide +kernel
theorem dM_look_165 : decode cM_look 165 = .ok (.ireturn, 1) := by decide +kernel
theorem dM_look_166 : decode cM_look 166 = .ok (.iload_n 3, 1) := by decide +kernel
theorem dM_look_167 : decode cM_look 167 = .ok (.ireturn, 1) := by decide +kernel
theorem dM_look_168 : decode cM_look 168 = .ok (.iload 4, 2) := by decide +kernel
theorem dM_look_170 : decode cM_look 170 = .ok (.ireturn, 1) := by decide +kernel
theorem dM_look_171 : decode cM_look 171 = .ok (.iload 5, 2) := by decide +kernel
theorem dM_look_173 : decode cM_look 173 = .ok (.ireturn, 1) := by decide +kernel
theorem dM_look_174 : decode cM_look 174 = .ok (.iconst (-1), 1) := by decide +kernel
theorem dM_look_175 : decode cM_look 175 = .ok (.ireturn, 1) := by decide +kernel
