theorem dL_size_0 : decode cL_size 0 = .ok (.aload_n 0, 1) := by decide +kernel
theorem dL_size_1 : decode cL_size 1 = .ok (.iload_n 1, 1) := by decide +kernel
theorem dL_size_2 : decode cL_size 2 = .ok (.iload_n 2, 1) := by decide +kernel
theorem dL_size_3 : decode cL_size 3 = .ok (.iload_n 3, 1) := by decide +kernel
theorem dL_size_4 : decode cL_size 4 = .ok (.invokevirtual 7, 3) := by decide +kernel
theorem dL_size_7 : decode cL_size 7 = .ok (.goto 11, 3) := by decide +kernel
theorem dL_size_10 : decode cL_size 10 = .ok (.astore 4, 2) := by decide +kernel
theorem dL_size_12 : decode cL_size 12 = .ok (.iconst 1, 1) := by decide +kernel
theorem dL_size_13 : decode cL_size 13 = .ok (.ireturn, 1) := by decide +kernel
theorem dL_size_14 : decode cL_size 14 = .ok (.astore 4, 2) := by decide +kernel
theorem dL_size_16 : decode cL_size 16 = .ok (.iconst 2, 1) := by decide +kernel
theorem dL_size_17 : decode cL_size 17 = .ok (.ireturn, 1) := by decide +kernel
theorem dL_size_18 : decode cL_size 18 = .ok (.iconst 0, 1) := by decide +kernel
theorem dL_size_19 : decode cL_size 19 = .ok (.ireturn, 1) := by decide +kernel
theorem dL_put_0 : decode cL_put 0 = .ok (.aload_n 0, 1) := by decide +kernel
theorem dL_put_1 : decode cL_put 1 = .ok (.iload_n 1, 1) := by decide +kernel
theorem dL_put_2 : decode cL_put 2 = .ok (.iload_n 2, 1) := by decide +kernel
theorem dL_put_3 : decode cL_put 3 = .ok (.iload_n 3, 1) := by decide +kernel
theorem dL_put_4 : decode cL_put 4 = .ok (.iload 4, 2) := by decide +kernel
theorem dL_put_6 : decode cL_put 6 = .ok (.invokevirtual 17, 3) := by decide +kernel
theorem dL_put_9 : decode cL_put 9 = .ok (.goto 11, 3) := by decide +kernel
theorem dL_put_12 : decode cL_put 12 = .ok (.astore 5, 2) := by decide +kernel
theorem dL_put_14 : decode cL_put 14 = .ok (.iconst 1, 1) := by decide +kernel
theorem dL_put_15 : decode cL_put 15 = .ok (.ireturn, 1) := by decide +kernel
theorem dL_put_16 : decode cL_put 16 = .ok (.astore 5, 2) := by decide +kernel
theorem dL_put_18 : decode cL_put 18 = .ok (.iconst 2, 1) := by decide +kernel
theorem dL_put_19 : decode cL_put 19 = .ok (.ireturn, 1) := by decide +kernel
theorem dL_put_20 : decode cL_put 20 = .ok (.iconst 0, 1) := by decide +kernel
theorem dL_put_21 : decode cL_put 21 = .ok (.ireturn, 1) := by decide +kernel
theorem dL_row_0 : decode cL_row 0 = .ok (.aload_n 0, 1) := by decide +kernel
theorem dL_row_1 : decode cL_row 1 = .ok (.iload_n 1, 1) := by decide +kernel
theorem dL_row_2 : decode cL_row 2 = .ok (.iload_n 2, 1) := by decide +kernel
theorem dL_row_3 : decode cL_row 3 = .ok (.iload_n 3, 1) := by decide +kernel
theorem dL_row_4 : decode cL_row 4 = .ok (.lload 4, 2) := by decide +kernel
theorem dL_row_6 : decode cL_row 6 = .ok (.invokevirtual 21, 3) := by decide +kernel
theorem dL_row_9 : decode cL_row 9 = .ok (.goto 7, 3) := by decide +kernel
theorem dL_row_12 : decode cL_row 12 = .ok (.astore 6, 2) := by decide +kernel
theorem dL_row_14 : decode cL_row 14 = .ok (.iconst 1, 1) := by decide +kernel
theorem dL_row_15 : decode cL_row 15 = .ok (.ireturn, 1) := by decide +kernel
theorem dL_row_16 : decode cL_row 16 = .ok (.iconst 0, 1) := by decide +kernel
theorem dL_row_17 : decode cL_row 17 = .ok (.ireturn, 1) := by decide +kernel
theorem dL_grow_0 : decode cL_grow 0 = .ok (.aload_n 3, 1) := by decide +kernel
theorem dL_grow_1 : decode cL_grow 1 = .ok (.iconst 0, 1) := by decide +kernel
theorem dL_grow_2 : decode cL_grow 2 = .ok (.aload_n 0, 1) := by decide +kernel
theorem dL_grow_3 : decode cL_grow 3 = .ok (.iload_n 1, 1) := by decide +kernel
theorem dL_grow_4 : decode cL_grow 4 = .ok (.iload_n 2, 1) := by decide +kernel
theorem dL_grow_5 : decode cL_grow 5 = .ok (.invokevirtual 25, 3) := by decide +kernel
theorem dL_grow_8 : decode cL_grow 8 = .ok (.ifCond .eq 7, 3) := by decide +kernel
theorem dL_grow_11 : decode cL_grow 11 = .ok (.lconst 1, 1) := by decide +kernel
theorem dL_grow_12 : decode cL_grow 12 = .ok (.goto 4, 3) := by decide +kernel
theorem dL_grow_15 : decode cL_grow 15 = .ok (.lconst 0, 1) := by decide +kernel
theorem dL_grow_16 : decode cL_grow 16 = .ok (.lastore, 1) := by decide +kernel
theorem dL_grow_17 : decode cL_grow 17 = .ok (.goto 7, 3) := by decide +kernel
theorem dL_grow_20 : decode cL_grow 20 = .ok (.astore 4, 2) := by decide +kernel
theorem dL_grow_22 : decode cL_grow 22 = .ok (.iconst 1, 1) := by decide +kernel
theorem dL_grow_23 : decode cL_grow 23 = .ok (.ireturn, 1) := by decide +kernel
theorem dL_grow_24 : decode cL_grow 24 = .ok (.iconst 0, 1) := by decide +kernel
theorem dL_grow_25 : decode cL_grow 25 = .ok (.ireturn, 1) := by decide +kernel
theorem dL_shrink_0 : decode cL_shrink 0 = .ok (.aload_n 3, 1) := by decide +kernel
theorem dL_shrink_1 : decode cL_shrink 1 = .ok (.iconst 0, 1) := by decide +kernel
theorem dL_shrink_2 : decode cL_shrink 2 = .ok (.aload_n 0, 1) := by decide +kernel
theorem dL_shrink_3 : decode cL_shrink 3 = .ok (.iload_n 1, 1) := by decide +kernel
theorem dL_shrink_4 : decode cL_shrink 4 = .ok (.iload_n 2, 1) := by decide +kernel
theorem dL_shrink_5 : decode cL_shrink 5 = .ok (.invokevirtual 29, 3) := by decide +kernel
theorem dL_shrink_8 : decode cL_shrink 8 = .ok (.ifCond .eq 7, 3) := by decide +kernel
theorem dL_shrink_11 : decode cL_shrink 11 = .ok (.lconst 1, 1) := by decide +kernel
theorem dL_shrink_12 : decode cL_shrink 12 = .ok (.goto 4, 3) := by decide +kernel
theorem dL_shrink_15 : decode cL_shrink 15 = .ok (.lconst 0, 1) := by decide +kernel
theorem dL_shrink_16 : decode cL_shrink 16 = .ok (.lastore, 1) := by decide +kernel
theorem dL_shrink_17 : decode cL_shrink 17 = .ok (.goto 7, 3) := by decide +kernel
theorem dL_shrink_20 : decode cL_shrink 20 = .ok (.astore 4, 2) := by decide +kernel
theorem dL_shrink_22 : decode cL_shrink 22 = .ok (.iconst 1, 1) := by decide +kernel
theorem dL_shrink_23 : decode cL_shrink 23 = .ok (.ireturn, 1) := by decide +kernel
theorem dL_shrink_24 : decode cL_shrink 24 = .ok (.iconst 0, 1) := by decide +kernel
theorem dL_shrink_25 : decode cL_shrink 25 = .ok (.ireturn, 1) := by decide +kernel
theorem dL_copy_0 : decode cL_copy 0 = .ok (.aload_n 0, 1) := by decide +kernel
theorem dL_copy_1 : decode cL_copy 1 = .ok (.iload_n 1, 1) := by decide +kernel
theorem dL_copy_2 : decode cL_copy 2 = .ok (.iload_n 2, 1) := by decide +kernel
theorem dL_copy_3 : decode cL_copy 3 = .ok (.invokevirtual 32, 3) := by decide +kernel
theorem dL_copy_6 : decode cL_copy 6 = .ok (.goto 6, 3) := by decide +kernel
theorem dL_copy_9 : decode cL_copy 9 = .ok (.astore_n 3, 1) := by decide +kernel
theorem dL_copy_10 : decode cL_copy 10 = .ok (.iconst 1, 1) := by decide +kernel
theorem dL_copy_11 : decode cL_copy 11 = .ok (.ireturn, 1) := by decide +kernel
theorem dL_copy_12 : decode cL_copy 12 = .ok (.iconst 0, 1) := by decide +kernel
theorem dL_copy_13 : decode cL_copy 13 = .ok (.ireturn, 1) := by decide +kernel
theorem dL_extend_0 : decode cL_extend 0 = .ok (.aload 4, 2) := by decide +kernel
theorem dL_extend_2 : decode cL_extend 2 = .ok (.iconst 0, 1) := by decide +kernel
theorem dL_extend_3 : decode cL_extend 3 = .ok (.aload_n 0, 1) := by decide +kernel
theorem dL_extend_4 : decode cL_extend 4 = .ok (.iload_n 1, 1) := by decide +kernel
theorem dL_extend_5 : decode cL_extend 5 = .ok (.iload_n 2, 1) := by decide +kernel
theorem dL_extend_6 : decode cL_extend 6 = .ok (.iload_n 3, 1) := by decide +kernel
theorem dL_extend_7 : decode cL_extend 7 = .ok (.invokevirtual 36, 3) := by decide +kernel
theorem dL_extend_10 : decode cL_extend 10 = .ok (.ifCond .eq 7, 3) := by decide +kernel
theorem dL_extend_13 : decode cL_extend 13 = .ok (.lconst 1, 1) := by decide +kernel
theorem dL_extend_14 : decode cL_extend 14 = .ok (.goto 4, 3) := by decide +kernel
theorem dL_extend_17 : decode cL_extend 17 = .ok (.lconst 0, 1) := by decide +kernel
theorem dL_extend_18 : decode cL_extend 18 = .ok (.lastore, 1) := by decide +kernel
theorem dL_extend_19 : decode cL_extend 19 = .ok (.goto 7, 3) := by decide +kernel
theorem dL_extend_22 : decode cL_extend 22 = .ok (.astore 5, 2) := by decide +kernel
theorem dL_extend_24 : decode cL_extend 24 = .ok (.iconst 1, 1) := by decide +kernel
theorem dL_extend_25 : decode cL_extend 25 = .ok (.ireturn, 1) := by decide +kernel
theorem dL_extend_26 : decode cL_extend 26 = .ok (.iconst 0, 1) := by decide +kernel
theorem dL_extend_27 : decode cL_extend 27 = .ok (.ireturn, 1) := by decide +kernel
theorem dL_cut_0 : decode cL_cut 0 = .ok (.aload 4, 2) := by decide +kernel
theorem dL_cut_2 : decode cL_cut 2 = .ok (.iconst 0, 1) := by decide +kernel
theorem dL_cut_3 : decode cL_cut 3 = .ok (.aload_n 0, 1) := by decide +kernel
theorem dL_cut_4 : decode cL_cut 4 = .ok (.iload_n 1, 1) := by decide +kernel
theorem dL_cut_5 : decode cL_cut 5 = .ok (.iload_n 2, 1) := by decide +kernel
theorem dL_cut_6 : decode cL_cut 6 = .ok (.iload_n 3, 1) := by decide +kernel
theorem dL_cut_7 : decode cL_cut 7 = .ok (.invokevirtual 40, 3) := by decide +kernel
theorem dL_cut_10 : decode cL_cut 10 = .ok (.ifCond .eq 7, 3) := by decide +kernel
theorem dL_cut_13 : decode cL_cut 13 = .ok (.lconst 1, 1) := by decide +kernel
theorem dL_cut_14 : decode cL_cut 14 = .ok (.goto 4, 3) := by decide +kernel
theorem dL_cut_17 : decode cL_cut 17 = .ok (.lconst 0, 1) := by decide +kernel
theorem dL_cut_18 : decode cL_cut 18 = .ok (.lastore, 1) := by decide +kernel
theorem dL_cut_19 : decode cL_cut 19 = .ok (.goto 7, 3) := by decide +kernel
theorem dL_cut_22 : decode cL_cut 22 = .ok (.astore 5, 2) := by decide +kernel
theorem dL_cut_24 : decode cL_cut 24 = .ok (.iconst 1, 1) := by decide +kernel
theorem dL_cut_25 : decode cL_cut 25 = .ok (.ireturn, 1) := by decide +kernel
theorem dL_cut_26 : decode cL_cut 26 = .ok (.iconst 0, 1) := by decide +kernel
theorem dL_cut_27 : decode cL_cut 27 = .ok (.ireturn, 1) := by decide +kernel
theorem dL_at_0 : decode cL_at 0 = .ok (.aload 4, 2) := by decide +kernel
theorem dL_at_2 : decode cL_at 2 = .ok (.iconst 0, 1) := by decide +kernel
theorem dL_at_3 : decode cL_at 3 = .ok (.aload_n 0, 1) := by decide +kernel
theorem dL_at_4 : decode cL_at 4 = .ok (.iload_n 1, 1) := by decide +kernel
theorem dL_at_5 : decode cL_at 5 = .ok (.iload_n 2, 1) := by decide +kernel
theorem dL_at_6 : decode cL_at 6 = .ok (.iload_n 3, 1) := by decide +kernel
theorem dL_at_7 : decode cL_at 7 = .ok (.invokevirtual 43, 3) := by decide +kernel
theorem dL_at_10 : decode cL_at 10 = .ok (.i2l, 1) := by decide +kernel
theorem dL_at_11 : decode cL_at 11 = .ok (.lastore, 1) := by decide +kernel
theorem dL_at_12 : decode cL_at 12 = .ok (.goto 7, 3) := by decide +kernel
theorem dL_at_15 : decode cL_at 15 = .ok (.astore 5, 2) := by decide +kernel
theorem dL_at_17 : decode cL_at 17 = .ok (.iconst 1, 1) := by decide +kernel
theorem dL_at_18 : decode cL_at 18 = .ok (.ireturn, 1) := by decide +kernel
theorem dL_at_19 : decode cL_at 19 = .ok (.iconst 0, 1) := by decide +kernel
theorem dL_at_20 : decode cL_at 20 = .ok (.ireturn, 1) := by decide +kernel
theorem dL_eight_0 : decode cL_eight 0 = .ok (.aload 4, 2) := by decide +kernel
theorem dL_eight_2 : decode cL_eight 2 = .ok (.iconst 0, 1) := by decide +kernel
theorem dL_eight_3 : decode cL_eight 3 = .ok (.aload_n 0, 1) := by decide +kernel
theorem dL_eight_4 : decode cL_eight 4 = .ok (.iload_n 1, 1) := by decide +kernel
theorem dL_eight_5 : decode cL_eight 5 = .ok (.iload_n 2, 1) := by decide +kernel
theorem dL_eight_6 : decode cL_eight 6 = .ok (.iload_n 3, 1) := by decide +kernel
theorem dL_eight_7 : decode cL_eight 7 = .ok (.invokevirtual 47, 3) := by decide +kernel
theorem dL_eight_10 : decode cL_eight 10 = .ok (.lastore, 1) := by decide +kernel
theorem dL_eight_11 : decode cL_eight 11 = .ok (.goto 7, 3) := by decide +kernel
theorem dL_eight_14 : decode cL_eight 14 = .ok (.astore 5, 2) := by decide +kernel
theorem dL_eight_16 : decode cL_eight 16 = .ok (.iconst 1, 1) := by decide +kernel
theorem dL_eight_17 : decode cL_eight 17 = .ok (.ireturn, 1) := by decide +kernel
theorem dL_eight_18 : decode cL_eight 18 = .ok (.iconst 0, 1) := by decide +kernel
theorem dL_eight_19 : decode cL_eight 19 = .ok (.ireturn, 1) := by decide +kernel
theorem dL_apart_0 : decode cL_apart 0 = .ok (.aload_n 3, 1) := by decide +kernel
theorem dL_apart_1 : decode cL_apart 1 = .ok (.iconst 0, 1) := by decide +kernel
theorem dL_apart_2 : decode cL_apart 2 = .ok (.aload_n 0, 1) := by decide +kernel
theorem dL_apart_3 : decode cL_apart 3 = .ok (.iload_n 1, 1) := by decide +kernel
theorem dL_apart_4 : decode cL_apart 4 = .ok (.iload_n 2, 1) := by decide +kernel
theorem dL_apart_5 : decode cL_apart 5 = .ok (.invokevirtual 51, 3) := by decide +kernel
theorem dL_apart_8 : decode cL_apart 8 = .ok (.i2l, 1) := by decide +kernel
theorem dL_apart_9 : decode cL_apart 9 = .ok (.lastore, 1) := by decide +kernel
theorem dL_apart_10 : decode cL_apart 10 = .ok (.goto 7, 3) := by decide +kernel
theorem dL_apart_13 : decode cL_apart 13 = .ok (.astore 4, 2) := by decide +kernel
theorem dL_apart_15 : decode cL_apart 15 = .ok (.iconst 1, 1) := by decide +kernel
theorem dL_apart_16 : decode cL_apart 16 = .ok (.ireturn, 1) := by decide +kernel
theorem dL_apart_17 : decode cL_apart 17 = .ok (.iconst 0, 1) := by decide +kernel
theorem dL_apart_18 : decode cL_apart 18 = .ok (.ireturn, 1) := by decide +kernel
theorem dL_look_0 : decode cL_look 0 = .ok (.aload_n 3, 1) := by decide +kernel
theorem dL_look_1 : decode cL_look 1 = .ok (.iconst 0, 1) := by decide +kernel
theorem dL_look_2 : decode cL_look 2 = .ok (.aload_n 0, 1) := by decide +kernel
theorem dL_look_3 : decode cL_look 3 = .ok (.iload_n 1, 1) := by decide +kernel
theorem dL_look_4 : decode cL_look 4 = .ok (.iload_n 2, 1) := by decide +kernel
theorem dL_look_5 : decode cL_look 5 = .ok (.invokevirtual 55, 3) := by decide +kernel
theorem dL_look_8 : decode cL_look 8 = .ok (.i2l, 1) := by decide +kernel
theorem dL_look_9 : decode cL_look 9 = .ok (.lastore, 1) := by decide +kernel
theorem dL_look_10 : decode cL_look 10 = .ok (.goto 7, 3) := by decide +kernel
theorem dL_look_13 : decode cL_look 13 = .ok (.astore 4, 2) := by decide +kernel
theorem dL_look_15 : decode cL_look 15 = .ok (.iconst 1, 1) := by decide +kernel
theorem dL_look_16 : decode cL_look 16 = .ok (.ireturn, 1) := by decide +kernel
theorem dL_look_17 : decode cL_look 17 = .ok (.iconst 0, 1) := by decide +kernel
theorem dL_look_18 : decode cL_look 18 = .ok (.ireturn, 1) := by decide +kernel
