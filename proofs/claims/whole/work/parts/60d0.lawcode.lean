theorem dL_element_0 : decode cL_element 0 = .ok (.aload 5, 2) := by decide +kernel
theorem dL_element_2 : decode cL_element 2 = .ok (.iconst 0, 1) := by decide +kernel
theorem dL_element_3 : decode cL_element 3 = .ok (.aload_n 0, 1) := by decide +kernel
theorem dL_element_4 : decode cL_element 4 = .ok (.iload_n 1, 1) := by decide +kernel
theorem dL_element_5 : decode cL_element 5 = .ok (.iload_n 2, 1) := by decide +kernel
theorem dL_element_6 : decode cL_element 6 = .ok (.iload_n 3, 1) := by decide +kernel
theorem dL_element_7 : decode cL_element 7 = .ok (.iload 4, 2) := by decide +kernel
theorem dL_element_9 : decode cL_element 9 = .ok (.invokevirtual 7, 3) := by decide +kernel
theorem dL_element_12 : decode cL_element 12 = .ok (.i2l, 1) := by decide +kernel
theorem dL_element_13 : decode cL_element 13 = .ok (.lastore, 1) := by decide +kernel
theorem dL_element_14 : decode cL_element 14 = .ok (.goto 15, 3) := by decide +kernel
theorem dL_element_17 : decode cL_element 17 = .ok (.astore 6, 2) := by decide +kernel
theorem dL_element_19 : decode cL_element 19 = .ok (.iconst 1, 1) := by decide +kernel
theorem dL_element_20 : decode cL_element 20 = .ok (.ireturn, 1) := by decide +kernel
theorem dL_element_21 : decode cL_element 21 = .ok (.astore 6, 2) := by decide +kernel
theorem dL_element_23 : decode cL_element 23 = .ok (.iconst 2, 1) := by decide +kernel
theorem dL_element_24 : decode cL_element 24 = .ok (.ireturn, 1) := by decide +kernel
theorem dL_element_25 : decode cL_element 25 = .ok (.astore 6, 2) := by decide +kernel
theorem dL_element_27 : decode cL_element 27 = .ok (.iconst 3, 1) := by decide +kernel
theorem dL_element_28 : decode cL_element 28 = .ok (.ireturn, 1) := by decide +kernel
theorem dL_element_29 : decode cL_element 29 = .ok (.iconst 0, 1) := by decide +kernel
theorem dL_element_30 : decode cL_element 30 = .ok (.ireturn, 1) := by decide +kernel
theorem dL_write_0 : decode cL_write 0 = .ok (.aload 5, 2) := by decide +kernel
theorem dL_write_2 : decode cL_write 2 = .ok (.iconst 0, 1) := by decide +kernel
theorem dL_write_3 : decode cL_write 3 = .ok (.aload_n 0, 1) := by decide +kernel
theorem dL_write_4 : decode cL_write 4 = .ok (.iload_n 1, 1) := by decide +kernel
theorem dL_write_5 : decode cL_write 5 = .ok (.iload_n 2, 1) := by decide +kernel
theorem dL_write_6 : decode cL_write 6 = .ok (.lload_n 3, 1) := by decide +kernel
theorem dL_write_7 : decode cL_write 7 = .ok (.invokevirtual 19, 3) := by decide +kernel
theorem dL_write_10 : decode cL_write 10 = .ok (.i2l, 1) := by decide +kernel
theorem dL_write_11 : decode cL_write 11 = .ok (.lastore, 1) := by decide +kernel
theorem dL_write_12 : decode cL_write 12 = .ok (.goto 15, 3) := by decide +kernel
theorem dL_write_15 : decode cL_write 15 = .ok (.astore 6, 2) := by decide +kernel
theorem dL_write_17 : decode cL_write 17 = .ok (.iconst 1, 1) := by decide +kernel
theorem dL_write_18 : decode cL_write 18 = .ok (.ireturn, 1) := by decide +kernel
theorem dL_write_19 : decode cL_write 19 = .ok (.astore 6, 2) := by decide +kernel
theorem dL_write_21 : decode cL_write 21 = .ok (.iconst 2, 1) := by decide +kernel
theorem dL_write_22 : decode cL_write 22 = .ok (.ireturn, 1) := by decide +kernel
theorem dL_write_23 : decode cL_write 23 = .ok (.astore 6, 2) := by decide +kernel
theorem dL_write_25 : decode cL_write 25 = .ok (.iconst 3, 1) := by decide +kernel
theorem dL_write_26 : decode cL_write 26 = .ok (.ireturn, 1) := by decide +kernel
theorem dL_write_27 : decode cL_write 27 = .ok (.iconst 0, 1) := by decide +kernel
theorem dL_write_28 : decode cL_write 28 = .ok (.ireturn, 1) := by decide +kernel
theorem dL_count_0 : decode cL_count 0 = .ok (.aload 5, 2) := by decide +kernel
theorem dL_count_2 : decode cL_count 2 = .ok (.iconst 0, 1) := by decide +kernel
theorem dL_count_3 : decode cL_count 3 = .ok (.aload_n 0, 1) := by decide +kernel
theorem dL_count_4 : decode cL_count 4 = .ok (.iload_n 1, 1) := by decide +kernel
theorem dL_count_5 : decode cL_count 5 = .ok (.iload_n 2, 1) := by decide +kernel
theorem dL_count_6 : decode cL_count 6 = .ok (.lload_n 3, 1) := by decide +kernel
theorem dL_count_7 : decode cL_count 7 = .ok (.invokevirtual 23, 3) := by decide +kernel
theorem dL_count_10 : decode cL_count 10 = .ok (.i2l, 1) := by decide +kernel
theorem dL_count_11 : decode cL_count 11 = .ok (.lastore, 1) := by decide +kernel
theorem dL_count_12 : decode cL_count 12 = .ok (.goto 15, 3) := by decide +kernel
theorem dL_count_15 : decode cL_count 15 = .ok (.astore 6, 2) := by decide +kernel
theorem dL_count_17 : decode cL_count 17 = .ok (.iconst 1, 1) := by decide +kernel
theorem dL_count_18 : decode cL_count 18 = .ok (.ireturn, 1) := by decide +kernel
theorem dL_count_19 : decode cL_count 19 = .ok (.astore 6, 2) := by decide +kernel
theorem dL_count_21 : decode cL_count 21 = .ok (.iconst 2, 1) := by decide +kernel
theorem dL_count_22 : decode cL_count 22 = .ok (.ireturn, 1) := by decide +kernel
theorem dL_count_23 : decode cL_count 23 = .ok (.astore 6, 2) := by decide +kernel
theorem dL_count_25 : decode cL_count 25 = .ok (.iconst 3, 1) := by decide +kernel
theorem dL_count_26 : decode cL_count 26 = .ok (.ireturn, 1) := by decide +kernel
theorem dL_count_27 : decode cL_count 27 = .ok (.iconst 0, 1) := by decide +kernel
theorem dL_count_28 : decode cL_count 28 = .ok (.ireturn, 1) := by decide +kernel
theorem dL_flag_0 : decode cL_flag 0 = .ok (.aload 5, 2) := by decide +kernel
theorem dL_flag_2 : decode cL_flag 2 = .ok (.iconst 0, 1) := by decide +kernel
theorem dL_flag_3 : decode cL_flag 3 = .ok (.aload_n 0, 1) := by decide +kernel
theorem dL_flag_4 : decode cL_flag 4 = .ok (.iload_n 1, 1) := by decide +kernel
theorem dL_flag_5 : decode cL_flag 5 = .ok (.iload_n 2, 1) := by decide +kernel
theorem dL_flag_6 : decode cL_flag 6 = .ok (.iload_n 3, 1) := by decide +kernel
theorem dL_flag_7 : decode cL_flag 7 = .ok (.iload 4, 2) := by decide +kernel
theorem dL_flag_9 : decode cL_flag 9 = .ok (.invokevirtual 26, 3) := by decide +kernel
theorem dL_flag_12 : decode cL_flag 12 = .ok (.i2l, 1) := by decide +kernel
theorem dL_flag_13 : decode cL_flag 13 = .ok (.lastore, 1) := by decide +kernel
theorem dL_flag_14 : decode cL_flag 14 = .ok (.goto 15, 3) := by decide +kernel
theorem dL_flag_17 : decode cL_flag 17 = .ok (.astore 6, 2) := by decide +kernel
theorem dL_flag_19 : decode cL_flag 19 = .ok (.iconst 1, 1) := by decide +kernel
theorem dL_flag_20 : decode cL_flag 20 = .ok (.ireturn, 1) := by decide +kernel
theorem dL_flag_21 : decode cL_flag 21 = .ok (.astore 6, 2) := by decide +kernel
theorem dL_flag_23 : decode cL_flag 23 = .ok (.iconst 2, 1) := by decide +kernel
theorem dL_flag_24 : decode cL_flag 24 = .ok (.ireturn, 1) := by decide +kernel
theorem dL_flag_25 : decode cL_flag 25 = .ok (.astore 6, 2) := by decide +kernel
theorem dL_flag_27 : decode cL_flag 27 = .ok (.iconst 3, 1) := by decide +kernel
theorem dL_flag_28 : decode cL_flag 28 = .ok (.ireturn, 1) := by decide +kernel
theorem dL_flag_29 : decode cL_flag 29 = .ok (.iconst 0, 1) := by decide +kernel
theorem dL_flag_30 : decode cL_flag 30 = .ok (.ireturn, 1) := by decide +kernel
theorem dL_clear_0 : decode cL_clear 0 = .ok (.aload_n 3, 1) := by decide +kernel
theorem dL_clear_1 : decode cL_clear 1 = .ok (.iconst 0, 1) := by decide +kernel
theorem dL_clear_2 : decode cL_clear 2 = .ok (.aload_n 0, 1) := by decide +kernel
theorem dL_clear_3 : decode cL_clear 3 = .ok (.iload_n 1, 1) := by decide +kernel
theorem dL_clear_4 : decode cL_clear 4 = .ok (.iload_n 2, 1) := by decide +kernel
theorem dL_clear_5 : decode cL_clear 5 = .ok (.invokevirtual 29, 3) := by decide +kernel
theorem dL_clear_8 : decode cL_clear 8 = .ok (.i2l, 1) := by decide +kernel
theorem dL_clear_9 : decode cL_clear 9 = .ok (.lastore, 1) := by decide +kernel
theorem dL_clear_10 : decode cL_clear 10 = .ok (.goto 11, 3) := by decide +kernel
theorem dL_clear_13 : decode cL_clear 13 = .ok (.astore 4, 2) := by decide +kernel
theorem dL_clear_15 : decode cL_clear 15 = .ok (.iconst 1, 1) := by decide +kernel
theorem dL_clear_16 : decode cL_clear 16 = .ok (.ireturn, 1) := by decide +kernel
theorem dL_clear_17 : decode cL_clear 17 = .ok (.astore 4, 2) := by decide +kernel
theorem dL_clear_19 : decode cL_clear 19 = .ok (.iconst 2, 1) := by decide +kernel
theorem dL_clear_20 : decode cL_clear 20 = .ok (.ireturn, 1) := by decide +kernel
theorem dL_clear_21 : decode cL_clear 21 = .ok (.iconst 0, 1) := by decide +kernel
theorem dL_clear_22 : decode cL_clear 22 = .ok (.ireturn, 1) := by decide +kernel
theorem dL_twice_0 : decode cL_twice 0 = .ok (.aload 4, 2) := by decide +kernel
theorem dL_twice_2 : decode cL_twice 2 = .ok (.iconst 0, 1) := by decide +kernel
theorem dL_twice_3 : decode cL_twice 3 = .ok (.aload_n 0, 1) := by decide +kernel
theorem dL_twice_4 : decode cL_twice 4 = .ok (.iload_n 1, 1) := by decide +kernel
theorem dL_twice_5 : decode cL_twice 5 = .ok (.iload_n 2, 1) := by decide +kernel
theorem dL_twice_6 : decode cL_twice 6 = .ok (.iload_n 3, 1) := by decide +kernel
theorem dL_twice_7 : decode cL_twice 7 = .ok (.invokevirtual 33, 3) := by decide +kernel
theorem dL_twice_10 : decode cL_twice 10 = .ok (.i2l, 1) := by decide +kernel
theorem dL_twice_11 : decode cL_twice 11 = .ok (.lastore, 1) := by decide +kernel
theorem dL_twice_12 : decode cL_twice 12 = .ok (.goto 11, 3) := by decide +kernel
theorem dL_twice_15 : decode cL_twice 15 = .ok (.astore 5, 2) := by decide +kernel
theorem dL_twice_17 : decode cL_twice 17 = .ok (.iconst 1, 1) := by decide +kernel
theorem dL_twice_18 : decode cL_twice 18 = .ok (.ireturn, 1) := by decide +kernel
theorem dL_twice_19 : decode cL_twice 19 = .ok (.astore 5, 2) := by decide +kernel
theorem dL_twice_21 : decode cL_twice 21 = .ok (.iconst 2, 1) := by decide +kernel
theorem dL_twice_22 : decode cL_twice 22 = .ok (.ireturn, 1) := by decide +kernel
theorem dL_twice_23 : decode cL_twice 23 = .ok (.iconst 0, 1) := by decide +kernel
theorem dL_twice_24 : decode cL_twice 24 = .ok (.ireturn, 1) := by decide +kernel
theorem dL_timed_0 : decode cL_timed 0 = .ok (.aload 5, 2) := by decide +kernel
theorem dL_timed_2 : decode cL_timed 2 = .ok (.iconst 0, 1) := by decide +kernel
theorem dL_timed_3 : decode cL_timed 3 = .ok (.aload_n 0, 1) := by decide +kernel
theorem dL_timed_4 : decode cL_timed 4 = .ok (.iload_n 1, 1) := by decide +kernel
theorem dL_timed_5 : decode cL_timed 5 = .ok (.iload_n 2, 1) := by decide +kernel
theorem dL_timed_6 : decode cL_timed 6 = .ok (.iload_n 3, 1) := by decide +kernel
theorem dL_timed_7 : decode cL_timed 7 = .ok (.iload 4, 2) := by decide +kernel
theorem dL_timed_9 : decode cL_timed 9 = .ok (.invokevirtual 37, 3) := by decide +kernel
theorem dL_timed_12 : decode cL_timed 12 = .ok (.i2l, 1) := by decide +kernel
theorem dL_timed_13 : decode cL_timed 13 = .ok (.lastore, 1) := by decide +kernel
theorem dL_timed_14 : decode cL_timed 14 = .ok (.goto 15, 3) := by decide +kernel
theorem dL_timed_17 : decode cL_timed 17 = .ok (.astore 6, 2) := by decide +kernel
theorem dL_timed_19 : decode cL_timed 19 = .ok (.iconst 1, 1) := by decide +kernel
theorem dL_timed_20 : decode cL_timed 20 = .ok (.ireturn, 1) := by decide +kernel
theorem dL_timed_21 : decode cL_timed 21 = .ok (.astore 6, 2) := by decide +kernel
theorem dL_timed_23 : decode cL_timed 23 = .ok (.iconst 2, 1) := by decide +kernel
theorem dL_timed_24 : decode cL_timed 24 = .ok (.ireturn, 1) := by decide +kernel
theorem dL_timed_25 : decode cL_timed 25 = .ok (.astore 6, 2) := by decide +kernel
theorem dL_timed_27 : decode cL_timed 27 = .ok (.iconst 3, 1) := by decide +kernel
theorem dL_timed_28 : decode cL_timed 28 = .ok (.ireturn, 1) := by decide +kernel
theorem dL_timed_29 : decode cL_timed 29 = .ok (.iconst 0, 1) := by decide +kernel
theorem dL_timed_30 : decode cL_timed 30 = .ok (.ireturn, 1) := by decide +kernel
theorem dL_join_0 : decode cL_join 0 = .ok (.aload_n 3, 1) := by decide +kernel
theorem dL_join_1 : decode cL_join 1 = .ok (.iconst 0, 1) := by decide +kernel
theorem dL_join_2 : decode cL_join 2 = .ok (.aload_n 0, 1) := by decide +kernel
theorem dL_join_3 : decode cL_join 3 = .ok (.iload_n 1, 1) := by decide +kernel
theorem dL_join_4 : decode cL_join 4 = .ok (.iload_n 2, 1) := by decide +kernel
theorem dL_join_5 : decode cL_join 5 = .ok (.invokevirtual 42, 3) := by decide +kernel
theorem dL_join_8 : decode cL_join 8 = .ok (.i2l, 1) := by decide +kernel
theorem dL_join_9 : decode cL_join 9 = .ok (.lastore, 1) := by decide +kernel
theorem dL_join_10 : decode cL_join 10 = .ok (.goto 7, 3) := by decide +kernel
theorem dL_join_13 : decode cL_join 13 = .ok (.astore 4, 2) := by decide +kernel
theorem dL_join_15 : decode cL_join 15 = .ok (.iconst 1, 1) := by decide +kernel
theorem dL_join_16 : decode cL_join 16 = .ok (.ireturn, 1) := by decide +kernel
theorem dL_join_17 : decode cL_join 17 = .ok (.iconst 0, 1) := by decide +kernel
theorem dL_join_18 : decode cL_join 18 = .ok (.ireturn, 1) := by decide +kernel
theorem dL_merge_0 : decode cL_merge 0 = .ok (.aload_n 3, 1) := by decide +kernel
theorem dL_merge_1 : decode cL_merge 1 = .ok (.iconst 0, 1) := by decide +kernel
theorem dL_merge_2 : decode cL_merge 2 = .ok (.aload_n 0, 1) := by decide +kernel
theorem dL_merge_3 : decode cL_merge 3 = .ok (.iload_n 1, 1) := by decide +kernel
theorem dL_merge_4 : decode cL_merge 4 = .ok (.iload_n 2, 1) := by decide +kernel
theorem dL_merge_5 : decode cL_merge 5 = .ok (.invokevirtual 45, 3) := by decide +kernel
theorem dL_merge_8 : decode cL_merge 8 = .ok (.i2l, 1) := by decide +kernel
theorem dL_merge_9 : decode cL_merge 9 = .ok (.lastore, 1) := by decide +kernel
theorem dL_merge_10 : decode cL_merge 10 = .ok (.goto 7, 3) := by decide +kernel
theorem dL_merge_13 : decode cL_merge 13 = .ok (.astore 4, 2) := by decide +kernel
theorem dL_merge_15 : decode cL_merge 15 = .ok (.iconst 1, 1) := by decide +kernel
theorem dL_merge_16 : decode cL_merge 16 = .ok (.ireturn, 1) := by decide +kernel
theorem dL_merge_17 : decode cL_merge 17 = .ok (.iconst 0, 1) := by decide +kernel
theorem dL_merge_18 : decode cL_merge 18 = .ok (.ireturn, 1) := by decide +kernel
theorem dL_group_0 : decode cL_group 0 = .ok (.aload_n 3, 1) := by decide +kernel
theorem dL_group_1 : decode cL_group 1 = .ok (.iconst 0, 1) := by decide +kernel
theorem dL_group_2 : decode cL_group 2 = .ok (.aload_n 0, 1) := by decide +kernel
theorem dL_group_3 : decode cL_group 3 = .ok (.iload_n 1, 1) := by decide +kernel
theorem dL_group_4 : decode cL_group 4 = .ok (.iload_n 2, 1) := by decide +kernel
theorem dL_group_5 : decode cL_group 5 = .ok (.invokevirtual 48, 3) := by decide +kernel
theorem dL_group_8 : decode cL_group 8 = .ok (.i2l, 1) := by decide +kernel
theorem dL_group_9 : decode cL_group 9 = .ok (.lastore, 1) := by decide +kernel
theorem dL_group_10 : decode cL_group 10 = .ok (.goto 11, 3) := by decide +kernel
theorem dL_group_13 : decode cL_group 13 = .ok (.astore 4, 2) := by decide +kernel
theorem dL_group_15 : decode cL_group 15 = .ok (.iconst 1, 1) := by decide +kernel
theorem dL_group_16 : decode cL_group 16 = .ok (.ireturn, 1) := by decide +kernel
theorem dL_group_17 : decode cL_group 17 = .ok (.astore 4, 2) := by decide +kernel
theorem dL_group_19 : decode cL_group 19 = .ok (.iconst 2, 1) := by decide +kernel
theorem dL_group_20 : decode cL_group 20 = .ok (.ireturn, 1) := by decide +kernel
theorem dL_group_21 : decode cL_group 21 = .ok (.iconst 0, 1) := by decide +kernel
theorem dL_group_22 : decode cL_group 22 = .ok (.ireturn, 1) := by decide +kernel
theorem dL_whole_0 : decode cL_whole 0 = .ok (.aload_n 2, 1) := by decide +kernel
theorem dL_whole_1 : decode cL_whole 1 = .ok (.iconst 0, 1) := by decide +kernel
theorem dL_whole_2 : decode cL_whole 2 = .ok (.aload_n 0, 1) := by decide +kernel
theorem dL_whole_3 : decode cL_whole 3 = .ok (.iload_n 1, 1) := by decide +kernel
theorem dL_whole_4 : decode cL_whole 4 = .ok (.invokevirtual 51, 3) := by decide +kernel
theorem dL_whole_7 : decode cL_whole 7 = .ok (.i2l, 1) := by decide +kernel
theorem dL_whole_8 : decode cL_whole 8 = .ok (.lastore, 1) := by decide +kernel
theorem dL_whole_9 : decode cL_whole 9 = .ok (.goto 9, 3) := by decide +kernel
theorem dL_whole_12 : decode cL_whole 12 = .ok (.astore_n 3, 1) := by decide +kernel
theorem dL_whole_13 : decode cL_whole 13 = .ok (.iconst 1, 1) := by decide +kernel
theorem dL_whole_14 : decode cL_whole 14 = .ok (.ireturn, 1) := by decide +kernel
theorem dL_whole_15 : decode cL_whole 15 = .ok (.astore_n 3, 1) := by decide +kernel
theorem dL_whole_16 : decode cL_whole 16 = .ok (.iconst 2, 1) := by decide +kernel
theorem dL_whole_17 : decode cL_whole 17 = .ok (.ireturn, 1) := by decide +kernel
theorem dL_whole_18 : decode cL_whole 18 = .ok (.iconst 0, 1) := by decide +kernel
theorem dL_whole_19 : decode cL_whole 19 = .ok (.ireturn, 1) := by decide +kernel
theorem dL_has_0 : decode cL_has 0 = .ok (.aload 4, 2) := by decide +kernel
theorem dL_has_2 : decode cL_has 2 = .ok (.iconst 0, 1) := by decide +kernel
theorem dL_has_3 : decode cL_has 3 = .ok (.aload_n 0, 1) := by decide +kernel
theorem dL_has_4 : decode cL_has 4 = .ok (.iload_n 1, 1) := by decide +kernel
theorem dL_has_5 : decode cL_has 5 = .ok (.iload_n 2, 1) := by decide +kernel
theorem dL_has_6 : decode cL_has 6 = .ok (.iload_n 3, 1) := by decide +kernel
theorem dL_has_7 : decode cL_has 7 = .ok (.invokevirtual 55, 3) := by decide +kernel
theorem dL_has_10 : decode cL_has 10 = .ok (.i2l, 1) := by decide +kernel
theorem dL_has_11 : decode cL_has 11 = .ok (.lastore, 1) := by decide +kernel
theorem dL_has_12 : decode cL_has 12 = .ok (.goto 7, 3) := by decide +kernel
theorem dL_has_15 : decode cL_has 15 = .ok (.astore 5, 2) := by decide +kernel
theorem dL_has_17 : decode cL_has 17 = .ok (.iconst 1, 1) := by decide +kernel
theorem dL_has_18 : decode cL_has 18 = .ok (.ireturn, 1) := by decide +kernel
theorem dL_has_19 : decode cL_has 19 = .ok (.iconst 0, 1) := by decide +kernel
theorem dL_has_20 : decode cL_has 20 = .ok (.ireturn, 1) := by decide +kernel
theorem dL_values_0 : decode cL_values 0 = .ok (.aload_n 3, 1) := by decide +kernel
theorem dL_values_1 : decode cL_values 1 = .ok (.iconst 0, 1) := by decide +kernel
theorem dL_values_2 : decode cL_values 2 = .ok (.aload_n 0, 1) := by decide +kernel
theorem dL_values_3 : decode cL_values 3 = .ok (.iload_n 1, 1) := by decide +kernel
theorem dL_values_4 : decode cL_values 4 = .ok (.iload_n 2, 1) := by decide +kernel
theorem dL_values_5 : decode cL_values 5 = .ok (.invokevirtual 59, 3) := by decide +kernel
theorem dL_values_8 : decode cL_values 8 = .ok (.i2l, 1) := by decide +kernel
theorem dL_values_9 : decode cL_values 9 = .ok (.lastore, 1) := by decide +kernel
theorem dL_values_10 : decode cL_values 10 = .ok (.goto 7, 3) := by decide +kernel
theorem dL_values_13 : decode cL_values 13 = .ok (.astore 4, 2) := by decide +kernel
theorem dL_values_15 : decode cL_values 15 = .ok (.iconst 1, 1) := by decide +kernel
theorem dL_values_16 : decode cL_values 16 = .ok (.ireturn, 1) := by decide +kernel
theorem dL_values_17 : decode cL_values 17 = .ok (.iconst 0, 1) := by decide +kernel
theorem dL_values_18 : decode cL_values 18 = .ok (.ireturn, 1) := by decide +kernel
theorem dL_value_0 : decode cL_value 0 = .ok (.aload 4, 2) := by decide +kernel
theorem dL_value_2 : decode cL_value 2 = .ok (.iconst 0, 1) := by decide +kernel
theorem dL_value_3 : decode cL_value 3 = .ok (.aload_n 0, 1) := by decide +kernel
theorem dL_value_4 : decode cL_value 4 = .ok (.iload_n 1, 1) := by decide +kernel
theorem dL_value_5 : decode cL_value 5 = .ok (.iload_n 2, 1) := by decide +kernel
theorem dL_value_6 : decode cL_value 6 = .ok (.iload_n 3, 1) := by decide +kernel
theorem dL_value_7 : decode cL_value 7 = .ok (.invokevirtual 62, 3) := by decide +kernel
theorem dL_value_10 : decode cL_value 10 = .ok (.lastore, 1) := by decide +kernel
theorem dL_value_11 : decode cL_value 11 = .ok (.goto 7, 3) := by decide +kernel
theorem dL_value_14 : decode cL_value 14 = .ok (.astore 5, 2) := by decide +kernel
theorem dL_value_16 : decode cL_value 16 = .ok (.iconst 1, 1) := by decide +kernel
theorem dL_value_17 : decode cL_value 17 = .ok (.ireturn, 1) := by decide +kernel
theorem dL_value_18 : decode cL_value 18 = .ok (.iconst 0, 1) := by decide +kernel
theorem dL_value_19 : decode cL_value 19 = .ok (.ireturn, 1) := by decide +kernel
theorem dL_sum_0 : decode cL_sum 0 = .ok (.aload_n 3, 1) := by decide +kernel
theorem dL_sum_1 : decode cL_sum 1 = .ok (.iconst 0, 1) := by decide +kernel
theorem dL_sum_2 : decode cL_sum 2 = .ok (.aload_n 0, 1) := by decide +kernel
theorem dL_sum_3 : decode cL_sum 3 = .ok (.iload_n 1, 1) := by decide +kernel
theorem dL_sum_4 : decode cL_sum 4 = .ok (.iload_n 2, 1) := by decide +kernel
theorem dL_sum_5 : decode cL_sum 5 = .ok (.invokevirtual 66, 3) := by decide +kernel
theorem dL_sum_8 : decode cL_sum 8 = .ok (.lastore, 1) := by decide +kernel
theorem dL_sum_9 : decode cL_sum 9 = .ok (.goto 7, 3) := by decide +kernel
theorem dL_sum_12 : decode cL_sum 12 = .ok (.astore 4, 2) := by decide +kernel
theorem dL_sum_14 : decode cL_sum 14 = .ok (.iconst 1, 1) := by decide +kernel
theorem dL_sum_15 : decode cL_sum 15 = .ok (.ireturn, 1) := by decide +kernel
theorem dL_sum_16 : decode cL_sum 16 = .ok (.iconst 0, 1) := by decide +kernel
theorem dL_sum_17 : decode cL_sum 17 = .ok (.ireturn, 1) := by decide +kernel
theorem dL_keys_0 : decode cL_keys 0 = .ok (.aload_n 2, 1) := by decide +kernel
theorem dL_keys_1 : decode cL_keys 1 = .ok (.iconst 0, 1) := by decide +kernel
theorem dL_keys_2 : decode cL_keys 2 = .ok (.aload_n 0, 1) := by decide +kernel
theorem dL_keys_3 : decode cL_keys 3 = .ok (.iload_n 1, 1) := by decide +kernel
theorem dL_keys_4 : decode cL_keys 4 = .ok (.invokevirtual 70, 3) := by decide +kernel
theorem dL_keys_7 : decode cL_keys 7 = .ok (.i2l, 1) := by decide +kernel
theorem dL_keys_8 : decode cL_keys 8 = .ok (.lastore, 1) := by decide +kernel
theorem dL_keys_9 : decode cL_keys 9 = .ok (.goto 6, 3) := by decide +kernel
theorem dL_keys_12 : decode cL_keys 12 = .ok (.astore_n 3, 1) := by decide +kernel
theorem dL_keys_13 : decode cL_keys 13 = .ok (.iconst 1, 1) := by decide +kernel
theorem dL_keys_14 : decode cL_keys 14 = .ok (.ireturn, 1) := by decide +kernel
theorem dL_keys_15 : decode cL_keys 15 = .ok (.iconst 0, 1) := by decide +kernel
theorem dL_keys_16 : decode cL_keys 16 = .ok (.ireturn, 1) := by decide +kernel
theorem dL_inTwice_0 : decode cL_inTwice 0 = .ok (.aload_n 3, 1) := by decide +kernel
theorem dL_inTwice_1 : decode cL_inTwice 1 = .ok (.iconst 0, 1) := by decide +kernel
theorem dL_inTwice_2 : decode cL_inTwice 2 = .ok (.aload_n 0, 1) := by decide +kernel
theorem dL_inTwice_3 : decode cL_inTwice 3 = .ok (.iload_n 1, 1) := by decide +kernel
theorem dL_inTwice_4 : decode cL_inTwice 4 = .ok (.iload_n 2, 1) := by decide +kernel
theorem dL_inTwice_5 : decode cL_inTwice 5 = .ok (.invokevirtual 73, 3) := by decide +kernel
theorem dL_inTwice_8 : decode cL_inTwice 8 = .ok (.i2l, 1) := by decide +kernel
theorem dL_inTwice_9 : decode cL_inTwice 9 = .ok (.lastore, 1) := by decide +kernel
theorem dL_inTwice_10 : decode cL_inTwice 10 = .ok (.goto 7, 3) := by decide +kernel
theorem dL_inTwice_13 : decode cL_inTwice 13 = .ok (.astore 4, 2) := by decide +kernel
theorem dL_inTwice_15 : decode cL_inTwice 15 = .ok (.iconst 1, 1) := by decide +kernel
theorem dL_inTwice_16 : decode cL_inTwice 16 = .ok (.ireturn, 1) := by decide +kernel
theorem dL_inTwice_17 : decode cL_inTwice 17 = .ok (.iconst 0, 1) := by decide +kernel
theorem dL_inTwice_18 : decode cL_inTwice 18 = .ok (.ireturn, 1) := by decide +kernel
theorem dL_inTimed_0 : decode cL_inTimed 0 = .ok (.aload 4, 2) := by decide +kernel
theorem dL_inTimed_2 : decode cL_inTimed 2 = .ok (.iconst 0, 1) := by decide +kernel
theorem dL_inTimed_3 : decode cL_inTimed 3 = .ok (.aload_n 0, 1) := by decide +kernel
theorem dL_inTimed_4 : decode cL_inTimed 4 = .ok (.iload_n 1, 1) := by decide +kernel
theorem dL_inTimed_5 : decode cL_inTimed 5 = .ok (.iload_n 2, 1) := by decide +kernel
theorem dL_inTimed_6 : decode cL_inTimed 6 = .ok (.iload_n 3, 1) := by decide +kernel
theorem dL_inTimed_7 : decode cL_inTimed 7 = .ok (.invokevirtual 76, 3) := by decide +kernel
theorem dL_inTimed_10 : decode cL_inTimed 10 = .ok (.i2l, 1) := by decide +kernel
theorem dL_inTimed_11 : decode cL_inTimed 11 = .ok (.lastore, 1) := by decide +kernel
theorem dL_inTimed_12 : decode cL_inTimed 12 = .ok (.goto 7, 3) := by decide +kernel
theorem dL_inTimed_15 : decode cL_inTimed 15 = .ok (.astore 5, 2) := by decide +kernel
theorem dL_inTimed_17 : decode cL_inTimed 17 = .ok (.iconst 1, 1) := by decide +kernel
theorem dL_inTimed_18 : decode cL_inTimed 18 = .ok (.ireturn, 1) := by decide +kernel
theorem dL_inTimed_19 : decode cL_inTimed 19 = .ok (.iconst 0, 1) := by decide +kernel
theorem dL_inTimed_20 : decode cL_inTimed 20 = .ok (.ireturn, 1) := by decide +kernel
theorem dL_seen_0 : decode cL_seen 0 = .ok (.aload 4, 2) := by decide +kernel
theorem dL_seen_2 : decode cL_seen 2 = .ok (.iconst 0, 1) := by decide +kernel
theorem dL_seen_3 : decode cL_seen 3 = .ok (.aload_n 0, 1) := by decide +kernel
theorem dL_seen_4 : decode cL_seen 4 = .ok (.iload_n 1, 1) := by decide +kernel
theorem dL_seen_5 : decode cL_seen 5 = .ok (.iload_n 2, 1) := by decide +kernel
theorem dL_seen_6 : decode cL_seen 6 = .ok (.iload_n 3, 1) := by decide +kernel
theorem dL_seen_7 : decode cL_seen 7 = .ok (.invokevirtual 79, 3) := by decide +kernel
theorem dL_seen_10 : decode cL_seen 10 = .ok (.i2l, 1) := by decide +kernel
theorem dL_seen_11 : decode cL_seen 11 = .ok (.lastore, 1) := by decide +kernel
theorem dL_seen_12 : decode cL_seen 12 = .ok (.goto 7, 3) := by decide +kernel
theorem dL_seen_15 : decode cL_seen 15 = .ok (.astore 5, 2) := by decide +kernel
theorem dL_seen_17 : decode cL_seen 17 = .ok (.iconst 1, 1) := by decide +kernel
theorem dL_seen_18 : decode cL_seen 18 = .ok (.ireturn, 1) := by decide +kernel
theorem dL_seen_19 : decode cL_seen 19 = .ok (.iconst 0, 1) := by decide +kernel
theorem dL_seen_20 : decode cL_seen 20 = .ok (.ireturn, 1) := by decide +kernel
theorem dL_size_0 : decode cL_size 0 = .ok (.aload_n 3, 1) := by decide +kernel
theorem dL_size_1 : decode cL_size 1 = .ok (.iconst 0, 1) := by decide +kernel
theorem dL_size_2 : decode cL_size 2 = .ok (.aload_n 0, 1) := by decide +kernel
theorem dL_size_3 : decode cL_size 3 = .ok (.iload_n 1, 1) := by decide +kernel
theorem dL_size_4 : decode cL_size 4 = .ok (.iload_n 2, 1) := by decide +kernel
theorem dL_size_5 : decode cL_size 5 = .ok (.invokevirtual 82, 3) := by decide +kernel
theorem dL_size_8 : decode cL_size 8 = .ok (.i2l, 1) := by decide +kernel
theorem dL_size_9 : decode cL_size 9 = .ok (.lastore, 1) := by decide +kernel
theorem dL_size_10 : decode cL_size 10 = .ok (.goto 7, 3) := by decide +kernel
theorem dL_size_13 : decode cL_size 13 = .ok (.astore 4, 2) := by decide +kernel
theorem dL_size_15 : decode cL_size 15 = .ok (.iconst 1, 1) := by decide +kernel
theorem dL_size_16 : decode cL_size 16 = .ok (.ireturn, 1) := by decide +kernel
theorem dL_size_17 : decode cL_size 17 = .ok (.iconst 0, 1) := by decide +kernel
theorem dL_size_18 : decode cL_size 18 = .ok (.ireturn, 1) := by decide +kernel
theorem dL_same_0 : decode cL_same 0 = .ok (.aload_n 3, 1) := by decide +kernel
theorem dL_same_1 : decode cL_same 1 = .ok (.iconst 0, 1) := by decide +kernel
theorem dL_same_2 : decode cL_same 2 = .ok (.aload_n 0, 1) := by decide +kernel
theorem dL_same_3 : decode cL_same 3 = .ok (.iload_n 1, 1) := by decide +kernel
theorem dL_same_4 : decode cL_same 4 = .ok (.iload_n 2, 1) := by decide +kernel
theorem dL_same_5 : decode cL_same 5 = .ok (.invokevirtual 85, 3) := by decide +kernel
theorem dL_same_8 : decode cL_same 8 = .ok (.i2l, 1) := by decide +kernel
theorem dL_same_9 : decode cL_same 9 = .ok (.lastore, 1) := by decide +kernel
theorem dL_same_10 : decode cL_same 10 = .ok (.goto 7, 3) := by decide +kernel
theorem dL_same_13 : decode cL_same 13 = .ok (.astore 4, 2) := by decide +kernel
theorem dL_same_15 : decode cL_same 15 = .ok (.iconst 1, 1) := by decide +kernel
theorem dL_same_16 : decode cL_same 16 = .ok (.ireturn, 1) := by decide +kernel
theorem dL_same_17 : decode cL_same 17 = .ok (.iconst 0, 1) := by decide +kernel
theorem dL_same_18 : decode cL_same 18 = .ok (.ireturn, 1) := by decide +kernel
theorem dL_below_0 : decode cL_below 0 = .ok (.aload_n 3, 1) := by decide +kernel
theorem dL_below_1 : decode cL_below 1 = .ok (.iconst 0, 1) := by decide +kernel
theorem dL_below_2 : decode cL_below 2 = .ok (.aload_n 0, 1) := by decide +kernel
theorem dL_below_3 : decode cL_below 3 = .ok (.iload_n 1, 1) := by decide +kernel
theorem dL_below_4 : decode cL_below 4 = .ok (.iload_n 2, 1) := by decide +kernel
theorem dL_below_5 : decode cL_below 5 = .ok (.invokevirtual 88, 3) := by decide +kernel
theorem dL_below_8 : decode cL_below 8 = .ok (.i2l, 1) := by decide +kernel
theorem dL_below_9 : decode cL_below 9 = .ok (.lastore, 1) := by decide +kernel
theorem dL_below_10 : decode cL_below 10 = .ok (.goto 7, 3) := by decide +kernel
theorem dL_below_13 : decode cL_below 13 = .ok (.astore 4, 2) := by decide +kernel
theorem dL_below_15 : decode cL_below 15 = .ok (.iconst 1, 1) := by decide +kernel
theorem dL_below_16 : decode cL_below 16 = .ok (.ireturn, 1) := by decide +kernel
theorem dL_below_17 : decode cL_below 17 = .ok (.iconst 0, 1) := by decide +kernel
theorem dL_below_18 : decode cL_below 18 = .ok (.ireturn, 1) := by decide +kernel
theorem dL_law_0 : decode cL_law 0 = .ok (.new 8, 3) := by decide +kernel
theorem dL_law_3 : decode cL_law 3 = .ok (.dup, 1) := by decide +kernel
theorem dL_law_4 : decode cL_law 4 = .ok (.invokespecial 91, 3) := by decide +kernel
theorem dL_law_7 : decode cL_law 7 = .ok (.astore_n 1, 1) := by decide +kernel
theorem dL_law_8 : decode cL_law 8 = .ok (.new 92, 3) := by decide +kernel
theorem dL_law_11 : decode cL_law 11 = .ok (.dup, 1) := by decide +kernel
theorem dL_law_12 : decode cL_law 12 = .ok (.invokespecial 94, 3) := by decide +kernel
theorem dL_law_15 : decode cL_law 15 = .ok (.astore_n 2, 1) := by decide +kernel
theorem dL_law_16 : decode cL_law 16 = .ok (.iconst 1, 1) := by decide +kernel
theorem dL_law_17 : decode cL_law 17 = .ok (.newarray .long, 2) := by decide +kernel
theorem dL_law_19 : decode cL_law 19 = .ok (.astore_n 3, 1) := by decide +kernel
theorem dL_law_20 : decode cL_law 20 = .ok (.iconst 0, 1) := by decide +kernel
theorem dL_law_21 : decode cL_law 21 = .ok (.istore 4, 2) := by decide +kernel
theorem dL_law_23 : decode cL_law 23 = .ok (.iload 4, 2) := by decide +kernel
theorem dL_law_25 : decode cL_law 25 = .ok (.aload_n 0, 1) := by decide +kernel
theorem dL_law_26 : decode cL_law 26 = .ok (.arraylength, 1) := by decide +kernel
theorem dL_law_27 : decode cL_law 27 = .ok (.iconst 5, 1) := by decide +kernel
theorem dL_law_28 : decode cL_law 28 = .ok (.isub, 1) := by decide +kernel
theorem dL_law_29 : decode cL_law 29 = .ok (.if_icmp .gt 1888, 3) := by decide +kernel
theorem dL_law_32 : decode cL_law 32 = .ok (.aload_n 0, 1) := by decide +kernel
theorem dL_law_33 : decode cL_law 33 = .ok (.iload 4, 2) := by decide +kernel
theorem dL_law_35 : decode cL_law 35 = .ok (.iaload, 1) := by decide +kernel
theorem dL_law_36 : decode cL_law 36 = .ok (.bipush 31, 2) := by decide +kernel
theorem dL_law_38 : decode cL_law 38 = .ok (.iand, 1) := by decide +kernel
theorem dL_law_39 : decode cL_law 39 = .ok (.tableswitch 1872 0 22 #[105, 213, 325, 437, 545, 613, 709, 817, 885, 953, 1021, 1077, 1090, 1170, 1238, 1317, 1384, 1440, 1508, 1588, 1668, 1736, 1804], 105) := by decide +kernel
theorem dL_law_144 : decode cL_law 144 = .ok (.aload_n 1, 1) := by decide +kernel
theorem dL_law_145 : decode cL_law 145 = .ok (.aload_n 0, 1) := by decide +kernel
theorem dL_law_146 : decode cL_law 146 = .ok (.iload 4, 2) := by decide +kernel
theorem dL_law_148 : decode cL_law 148 = .ok (.iconst 1, 1) := by decide +kernel
theorem dL_law_149 : decode cL_law 149 = .ok (.iadd, 1) := by decide +kernel
theorem dL_law_150 : decode cL_law 150 = .ok (.iaload, 1) := by decide +kernel
theorem dL_law_151 : decode cL_law 151 = .ok (.aload_n 0, 1) := by decide +kernel
theorem dL_law_152 : decode cL_law 152 = .ok (.iload 4, 2) := by decide +kernel
theorem dL_law_154 : decode cL_law 154 = .ok (.iconst 2, 1) := by decide +kernel
theorem dL_law_155 : decode cL_law 155 = .ok (.iadd, 1) := by decide +kernel
theorem dL_law_156 : decode cL_law 156 = .ok (.iaload, 1) := by decide +kernel
theorem dL_law_157 : decode cL_law 157 = .ok (.aload_n 0, 1) := by decide +kernel
theorem dL_law_158 : decode cL_law 158 = .ok (.iload 4, 2) := by decide +kernel
theorem dL_law_160 : decode cL_law 160 = .ok (.iconst 3, 1) := by decide +kernel
theorem dL_law_161 : decode cL_law 161 = .ok (.iadd, 1) := by decide +kernel
theorem dL_law_162 : decode cL_law 162 = .ok (.iaload, 1) := by decide +kernel
theorem dL_law_163 : decode cL_law 163 = .ok (.aload_n 0, 1) := by decide +kernel
theorem dL_law_164 : decode cL_law 164 = .ok (.iload 4, 2) := by decide +kernel
theorem dL_law_166 : decode cL_law 166 = .ok (.iconst 4, 1) := by decide +kernel
theorem dL_law_167 : decode cL_law 167 = .ok (.iadd, 1) := by decide +kernel
theorem dL_law_168 : decode cL_law 168 = .ok (.iaload, 1) := by decide +kernel
theorem dL_law_169 : decode cL_law 169 = .ok (.ifCond .eq 7, 3) := by decide +kernel
theorem dL_law_172 : decode cL_law 172 = .ok (.iconst 1, 1) := by decide +kernel
theorem dL_law_173 : decode cL_law 173 = .ok (.goto 4, 3) := by decide +kernel
theorem dL_law_176 : decode cL_law 176 = .ok (.iconst 0, 1) := by decide +kernel
theorem dL_law_177 : decode cL_law 177 = .ok (.aload_n 3, 1) := by decide +kernel
theorem dL_law_178 : decode cL_law 178 = .ok (.invokestatic 95, 3) := by decide +kernel
theorem dL_law_181 : decode cL_law 181 = .ok (.istore 5, 2) := by decide +kernel
theorem dL_law_183 : decode cL_law 183 = .ok (.aload_n 2, 1) := by decide +kernel
theorem dL_law_184 : decode cL_law 184 = .ok (.aload_n 0, 1) := by decide +kernel
theorem dL_law_185 : decode cL_law 185 = .ok (.iload 4, 2) := by decide +kernel
theorem dL_law_187 : decode cL_law 187 = .ok (.iconst 1, 1) := by decide +kernel
theorem dL_law_188 : decode cL_law 188 = .ok (.iadd, 1) := by decide +kernel
theorem dL_law_189 : decode cL_law 189 = .ok (.iaload, 1) := by decide +kernel
theorem dL_law_190 : decode cL_law 190 = .ok (.aload_n 0, 1) := by decide +kernel
theorem dL_law_191 : decode cL_law 191 = .ok (.iload 4, 2) := by decide +kernel
theorem dL_law_193 : decode cL_law 193 = .ok (.iconst 2, 1) := by decide +kernel
theorem dL_law_194 : decode cL_law 194 = .ok (.iadd, 1) := by decide +kernel
theorem dL_law_195 : decode cL_law 195 = .ok (.iaload, 1) := by decide +kernel
theorem dL_law_196 : decode cL_law 196 = .ok (.aload_n 0, 1) := by decide +kernel
theorem dL_law_197 : decode cL_law 197 = .ok (.iload 4, 2) := by decide +kernel
theorem dL_law_199 : decode cL_law 199 = .ok (.iconst 3, 1) := by decide +kernel
theorem dL_law_200 : decode cL_law 200 = .ok (.iadd, 1) := by decide +kernel
theorem dL_law_201 : decode cL_law 201 = .ok (.iaload, 1) := by decide +kernel
theorem dL_law_202 : decode cL_law 202 = .ok (.aload_n 0, 1) := by decide +kernel
theorem dL_law_203 : decode cL_law 203 = .ok (.iload 4, 2) := by decide +kernel
theorem dL_law_205 : decode cL_law 205 = .ok (.iconst 4, 1) := by decide +kernel
theorem dL_law_206 : decode cL_law 206 = .ok (.iadd, 1) := by decide +kernel
theorem dL_law_207 : decode cL_law 207 = .ok (.iaload, 1) := by decide +kernel
theorem dL_law_208 : decode cL_law 208 = .ok (.ifCond .eq 7, 3) := by decide +kernel
theorem dL_law_211 : decode cL_law 211 = .ok (.iconst 1, 1) := by decide +kernel
theorem dL_law_212 : decode cL_law 212 = .ok (.goto 4, 3) := by decide +kernel
theorem dL_law_215 : decode cL_law 215 = .ok (.iconst 0, 1) := by decide +kernel
theorem dL_law_216 : decode cL_law 216 = .ok (.invokevirtual 100, 3) := by decide +kernel
theorem dL_law_219 : decode cL_law 219 = .ok (.istore 6, 2) := by decide +kernel
theorem dL_law_221 : decode cL_law 221 = .ok (.aload_n 2, 1) := by decide +kernel
theorem dL_law_222 : decode cL_law 222 = .ok (.invokevirtual 101, 3) := by decide +kernel
theorem dL_law_225 : decode cL_law 225 = .ok (.iload 5, 2) := by decide +kernel
theorem dL_law_227 : decode cL_law 227 = .ok (.if_icmp .eq 5, 3) := by decide +kernel
theorem dL_law_230 : decode cL_law 230 = .ok (.iconst 0, 1) := by decide +kernel
theorem dL_law_231 : decode cL_law 231 = .ok (.ireturn, 1) := by decide +kernel
theorem dL_law_232 : decode cL_law 232 = .ok (.iload 5, 2) := by decide +kernel
theorem dL_law_234 : decode cL_law 234 = .ok (.ifCond .ne 15, 3) := by decide +kernel
theorem dL_law_237 : decode cL_law 237 = .ok (.aload_n 3, 1) := by decide +kernel
theorem dL_law_238 : decode cL_law 238 = .ok (.iconst 0, 1) := by decide +kernel
theorem dL_law_239 : decode cL_law 239 = .ok (.laload, 1) := by decide +kernel
theorem dL_law_240 : decode cL_law 240 = .ok (.iload 6, 2) := by decide +kernel
theorem dL_law_242 : decode cL_law 242 = .ok (.i2l, 1) := by decide +kernel
theorem dL_law_243 : decode cL_law 243 = .ok (.lcmp, 1) := by decide +kernel
theorem dL_law_244 : decode cL_law 244 = .ok (.ifCond .eq 5, 3) := by decide +kernel
theorem dL_law_247 : decode cL_law 247 = .ok (.iconst 0, 1) := by decide +kernel
theorem dL_law_248 : decode cL_law 248 = .ok (.ireturn, 1) := by decide +kernel
theorem dL_law_249 : decode cL_law 249 = .ok (.goto 1662, 3) := by decide +kernel
theorem dL_law_252 : decode cL_law 252 = .ok (.aload_n 1, 1) := by decide +kernel
theorem dL_law_253 : decode cL_law 253 = .ok (.aload_n 0, 1) := by decide +kernel
theorem dL_law_254 : decode cL_law 254 = .ok (.iload 4, 2) := by decide +kernel
theorem dL_law_256 : decode cL_law 256 = .ok (.iconst 1, 1) := by decide +kernel
theorem dL_law_257 : decode cL_law 257 = .ok (.iadd, 1) := by decide +kernel
theorem dL_law_258 : decode cL_law 258 = .ok (.iaload, 1) := by decide +kernel
theorem dL_law_259 : decode cL_law 259 = .ok (.aload_n 0, 1) := by decide +kernel
theorem dL_law_260 : decode cL_law 260 = .ok (.iload 4, 2) := by decide +kernel
theorem dL_law_262 : decode cL_law 262 = .ok (.iconst 2, 1) := by decide +kernel
theorem dL_law_263 : decode cL_law 263 = .ok (.iadd, 1) := by decide +kernel
theorem dL_law_264 : decode cL_law 264 = .ok (.iaload, 1) := by decide +kernel
theorem dL_law_265 : decode cL_law 265 = .ok (.aload_n 0, 1) := by decide +kernel
theorem dL_law_266 : decode cL_law 266 = .ok (.iload 4, 2) := by decide +kernel
theorem dL_law_268 : decode cL_law 268 = .ok (.iconst 3, 1) := by decide +kernel
theorem dL_law_269 : decode cL_law 269 = .ok (.iadd, 1) := by decide +kernel
theorem dL_law_270 : decode cL_law 270 = .ok (.iaload, 1) := by decide +kernel
theorem dL_law_271 : decode cL_law 271 = .ok (.i2l, 1) := by decide +kernel
theorem dL_law_272 : decode cL_law 272 = .ok (.bipush 32, 2) := by decide +kernel
theorem dL_law_274 : decode cL_law 274 = .ok (.lshl, 1) := by decide +kernel
theorem dL_law_275 : decode cL_law 275 = .ok (.aload_n 0, 1) := by decide +kernel
theorem dL_law_276 : decode cL_law 276 = .ok (.iload 4, 2) := by decide +kernel
theorem dL_law_278 : decode cL_law 278 = .ok (.iconst 4, 1) := by decide +kernel
theorem dL_law_279 : decode cL_law 279 = .ok (.iadd, 1) := by decide +kernel
theorem dL_law_280 : decode cL_law 280 = .ok (.iaload, 1) := by decide +kernel
theorem dL_law_281 : decode cL_law 281 = .ok (.i2l, 1) := by decide +kernel
theorem dL_law_282 : decode cL_law 282 = .ok (.ldc2_w 105, 3) := by decide +kernel
theorem dL_law_285 : decode cL_law 285 = .ok (.land, 1) := by decide +kernel
theorem dL_law_286 : decode cL_law 286 = .ok (.lor, 1) := by decide +kernel
theorem dL_law_287 : decode cL_law 287 = .ok (.aload_n 3, 1) := by decide +kernel
theorem dL_law_288 : decode cL_law 288 = .ok (.invokestatic 107, 3) := by decide +kernel
theorem dL_law_291 : decode cL_law 291 = .ok (.istore 5, 2) := by decide +kernel
theorem dL_law_293 : decode cL_law 293 = .ok (.aload_n 2, 1) := by decide +kernel
theorem dL_law_294 : decode cL_law 294 = .ok (.aload_n 0, 1) := by decide +kernel
theorem dL_law_295 : decode cL_law 295 = .ok (.iload 4, 2) := by decide +kernel
theorem dL_law_297 : decode cL_law 297 = .ok (.iconst 1, 1) := by decide +kernel
theorem dL_law_298 : decode cL_law 298 = .ok (.iadd, 1) := by decide +kernel
theorem dL_law_299 : decode cL_law 299 = .ok (.iaload, 1) := by decide +kernel
theorem dL_law_300 : decode cL_law 300 = .ok (.aload_n 0, 1) := by decide +kernel
theorem dL_law_301 : decode cL_law 301 = .ok (.iload 4, 2) := by decide +kernel
theorem dL_law_303 : decode cL_law 303 = .ok (.iconst 2, 1) := by decide +kernel
theorem dL_law_304 : decode cL_law 304 = .ok (.iadd, 1) := by decide +kernel
theorem dL_law_305 : decode cL_law 305 = .ok (.iaload, 1) := by decide +kernel
theorem dL_law_306 : decode cL_law 306 = .ok (.aload_n 0, 1) := by decide +kernel
theorem dL_law_307 : decode cL_law 307 = .ok (.iload 4, 2) := by decide +kernel
theorem dL_law_309 : decode cL_law 309 = .ok (.iconst 3, 1) := by decide +kernel
theorem dL_law_310 : decode cL_law 310 = .ok (.iadd, 1) := by decide +kernel
theorem dL_law_311 : decode cL_law 311 = .ok (.iaload, 1) := by decide +kernel
theorem dL_law_312 : decode cL_law 312 = .ok (.i2l, 1) := by decide +kernel
theorem dL_law_313 : decode cL_law 313 = .ok (.bipush 32, 2) := by decide +kernel
theorem dL_law_315 : decode cL_law 315 = .ok (.lshl, 1) := by decide +kernel
theorem dL_law_316 : decode cL_law 316 = .ok (.aload_n 0, 1) := by decide +kernel
theorem dL_law_317 : decode cL_law 317 = .ok (.iload 4, 2) := by decide +kernel
theorem dL_law_319 : decode cL_law 319 = .ok (.iconst 4, 1) := by decide +kernel
theorem dL_law_320 : decode cL_law 320 = .ok (.iadd, 1) := by decide +kernel
theorem dL_law_321 : decode cL_law 321 = .ok (.iaload, 1) := by decide +kernel
theorem dL_law_322 : decode cL_law 322 = .ok (.i2l, 1) := by decide +kernel
theorem dL_law_323 : decode cL_law 323 = .ok (.ldc2_w 105, 3) := by decide +kernel
theorem dL_law_326 : decode cL_law 326 = .ok (.land, 1) := by decide +kernel
theorem dL_law_327 : decode cL_law 327 = .ok (.lor, 1) := by decide +kernel
theorem dL_law_328 : decode cL_law 328 = .ok (.invokevirtual 110, 3) := by decide +kernel
theorem dL_law_331 : decode cL_law 331 = .ok (.istore 6, 2) := by decide +kernel
theorem dL_law_333 : decode cL_law 333 = .ok (.aload_n 2, 1) := by decide +kernel
theorem dL_law_334 : decode cL_law 334 = .ok (.invokevirtual 101, 3) := by decide +kernel
theorem dL_law_337 : decode cL_law 337 = .ok (.iload 5, 2) := by decide +kernel
theorem dL_law_339 : decode cL_law 339 = .ok (.if_icmp .eq 5, 3) := by decide +kernel
theorem dL_law_342 : decode cL_law 342 = .ok (.iconst 0, 1) := by decide +kernel
theorem dL_law_343 : decode cL_law 343 = .ok (.ireturn, 1) := by decide +kernel
theorem dL_law_344 : decode cL_law 344 = .ok (.iload 5, 2) := by decide +kernel
theorem dL_law_346 : decode cL_law 346 = .ok (.ifCond .ne 15, 3) := by decide +kernel
theorem dL_law_349 : decode cL_law 349 = .ok (.aload_n 3, 1) := by decide +kernel
theorem dL_law_350 : decode cL_law 350 = .ok (.iconst 0, 1) := by decide +kernel
theorem dL_law_351 : decode cL_law 351 = .ok (.laload, 1) := by decide +kernel
theorem dL_law_352 : decode cL_law 352 = .ok (.iload 6, 2) := by decide +kernel
theorem dL_law_354 : decode cL_law 354 = .ok (.i2l, 1) := by decide +kernel
theorem dL_law_355 : decode cL_law 355 = .ok (.lcmp, 1) := by decide +kernel
theorem dL_law_356 : decode cL_law 356 = .ok (.ifCond .eq 5, 3) := by decide +kernel
theorem dL_law_359 : decode cL_law 359 = .ok (.iconst 0, 1) := by decide +kernel
theorem dL_law_360 : decode cL_law 360 = .ok (.ireturn, 1) := by decide +kernel
theorem dL_law_361 : decode cL_law 361 = .ok (.goto 1550, 3) := by decide +kernel
theorem dL_law_364 : decode cL_law 364 = .ok (.aload_n 1, 1) := by decide +kernel
theorem dL_law_365 : decode cL_law 365 = .ok (.aload_n 0, 1) := by decide +kernel
theorem dL_law_366 : decode cL_law 366 = .ok (.iload 4, 2) := by decide +kernel
theorem dL_law_368 : decode cL_law 368 = .ok (.iconst 1, 1) := by decide +kernel
theorem dL_law_369 : decode cL_law 369 = .ok (.iadd, 1) := by decide +kernel
theorem dL_law_370 : decode cL_law 370 = .ok (.iaload, 1) := by decide +kernel
theorem dL_law_371 : decode cL_law 371 = .ok (.aload_n 0, 1) := by decide +kernel
theorem dL_law_372 : decode cL_law 372 = .ok (.iload 4, 2) := by decide +kernel
theorem dL_law_374 : decode cL_law 374 = .ok (.iconst 2, 1) := by decide +kernel
theorem dL_law_375 : decode cL_law 375 = .ok (.iadd, 1) := by decide +kernel
theorem dL_law_376 : decode cL_law 376 = .ok (.iaload, 1) := by decide +kernel
theorem dL_law_377 : decode cL_law 377 = .ok (.aload_n 0, 1) := by decide +kernel
theorem dL_law_378 : decode cL_law 378 = .ok (.iload 4, 2) := by decide +kernel
theorem dL_law_380 : decode cL_law 380 = .ok (.iconst 3, 1) := by decide +kernel
theorem dL_law_381 : decode cL_law 381 = .ok (.iadd, 1) := by decide +kernel
theorem dL_law_382 : decode cL_law 382 = .ok (.iaload, 1) := by decide +kernel
theorem dL_law_383 : decode cL_law 383 = .ok (.i2l, 1) := by decide +kernel
theorem dL_law_384 : decode cL_law 384 = .ok (.bipush 32, 2) := by decide +kernel
theorem dL_law_386 : decode cL_law 386 = .ok (.lshl, 1) := by decide +kernel
theorem dL_law_387 : decode cL_law 387 = .ok (.aload_n 0, 1) := by decide +kernel
theorem dL_law_388 : decode cL_law 388 = .ok (.iload 4, 2) := by decide +kernel
theorem dL_law_390 : decode cL_law 390 = .ok (.iconst 4, 1) := by decide +kernel
theorem dL_law_391 : decode cL_law 391 = .ok (.iadd, 1) := by decide +kernel
theorem dL_law_392 : decode cL_law 392 = .ok (.iaload, 1) := by decide +kernel
theorem dL_law_393 : decode cL_law 393 = .ok (.i2l, 1) := by decide +kernel
theorem dL_law_394 : decode cL_law 394 = .ok (.ldc2_w 105, 3) := by decide +kernel
theorem dL_law_397 : decode cL_law 397 = .ok (.land, 1) := by decide +kernel
theorem dL_law_398 : decode cL_law 398 = .ok (.lor, 1) := by decide +kernel
theorem dL_law_399 : decode cL_law 399 = .ok (.aload_n 3, 1) := by decide +kernel
theorem dL_law_400 : decode cL_law 400 = .ok (.invokestatic 111, 3) := by decide +kernel
theorem dL_law_403 : decode cL_law 403 = .ok (.istore 5, 2) := by decide +kernel
theorem dL_law_405 : decode cL_law 405 = .ok (.aload_n 2, 1) := by decide +kernel
theorem dL_law_406 : decode cL_law 406 = .ok (.aload_n 0, 1) := by decide +kernel
theorem dL_law_407 : decode cL_law 407 = .ok (.iload 4, 2) := by decide +kernel
theorem dL_law_409 : decode cL_law 409 = .ok (.iconst 1, 1) := by decide +kernel
theorem dL_law_410 : decode cL_law 410 = .ok (.iadd, 1) := by decide +kernel
theorem dL_law_411 : decode cL_law 411 = .ok (.iaload, 1) := by decide +kernel
theorem dL_law_412 : decode cL_law 412 = .ok (.aload_n 0, 1) := by decide +kernel
theorem dL_law_413 : decode cL_law 413 = .ok (.iload 4, 2) := by decide +kernel
theorem dL_law_415 : decode cL_law 415 = .ok (.iconst 2, 1) := by decide +kernel
theorem dL_law_416 : decode cL_law 416 = .ok (.iadd, 1) := by decide +kernel
theorem dL_law_417 : decode cL_law 417 = .ok (.iaload, 1) := by decide +kernel
theorem dL_law_418 : decode cL_law 418 = .ok (.aload_n 0, 1) := by decide +kernel
theorem dL_law_419 : decode cL_law 419 = .ok (.iload 4, 2) := by decide +kernel
theorem dL_law_421 : decode cL_law 421 = .ok (.iconst 3, 1) := by decide +kernel
theorem dL_law_422 : decode cL_law 422 = .ok (.iadd, 1) := by decide +kernel
theorem dL_law_423 : decode cL_law 423 = .ok (.iaload, 1) := by decide +kernel
theorem dL_law_424 : decode cL_law 424 = .ok (.i2l, 1) := by decide +kernel
theorem dL_law_425 : decode cL_law 425 = .ok (.bipush 32, 2) := by decide +kernel
theorem dL_law_427 : decode cL_law 427 = .ok (.lshl, 1) := by decide +kernel
theorem dL_law_428 : decode cL_law 428 = .ok (.aload_n 0, 1) := by decide +kernel
theorem dL_law_429 : decode cL_law 429 = .ok (.iload 4, 2) := by decide +kernel
theorem dL_law_431 : decode cL_law 431 = .ok (.iconst 4, 1) := by decide +kernel
theorem dL_law_432 : decode cL_law 432 = .ok (.iadd, 1) := by decide +kernel
theorem dL_law_433 : decode cL_law 433 = .ok (.iaload, 1) := by decide +kernel
theorem dL_law_434 : decode cL_law 434 = .ok (.i2l, 1) := by decide +kernel
theorem dL_law_435 : decode cL_law 435 = .ok (.ldc2_w 105, 3) := by decide +kernel
theorem dL_law_438 : decode cL_law 438 = .ok (.land, 1) := by decide +kernel
theorem dL_law_439 : decode cL_law 439 = .ok (.lor, 1) := by decide +kernel
theorem dL_law_440 : decode cL_law 440 = .ok (.invokevirtual 113, 3) := by decide +kernel
theorem dL_law_443 : decode cL_law 443 = .ok (.istore 6, 2) := by decide +kernel
theorem dL_law_445 : decode cL_law 445 = .ok (.aload_n 2, 1) := by decide +kernel
theorem dL_law_446 : decode cL_law 446 = .ok (.invokevirtual 101, 3) := by decide +kernel
theorem dL_law_449 : decode cL_law 449 = .ok (.iload 5, 2) := by decide +kernel
theorem dL_law_451 : decode cL_law 451 = .ok (.if_icmp .eq 5, 3) := by decide +kernel
theorem dL_law_454 : decode cL_law 454 = .ok (.iconst 0, 1) := by decide +kernel
theorem dL_law_455 : decode cL_law 455 = .ok (.ireturn, 1) := by decide +kernel
theorem dL_law_456 : decode cL_law 456 = .ok (.iload 5, 2) := by decide +kernel
theorem dL_law_458 : decode cL_law 458 = .ok (.ifCond .ne 15, 3) := by decide +kernel
theorem dL_law_461 : decode cL_law 461 = .ok (.aload_n 3, 1) := by decide +kernel
theorem dL_law_462 : decode cL_law 462 = .ok (.iconst 0, 1) := by decide +kernel
theorem dL_law_463 : decode cL_law 463 = .ok (.laload, 1) := by decide +kernel
theorem dL_law_464 : decode cL_law 464 = .ok (.iload 6, 2) := by decide +kernel
theorem dL_law_466 : decode cL_law 466 = .ok (.i2l, 1) := by decide +kernel
theorem dL_law_467 : decode cL_law 467 = .ok (.lcmp, 1) := by decide +kernel
theorem dL_law_468 : decode cL_law 468 = .ok (.ifCond .eq 5, 3) := by decide +kernel
theorem dL_law_471 : decode cL_law 471 = .ok (.iconst 0, 1) := by decide +kernel
theorem dL_law_472 : decode cL_law 472 = .ok (.ireturn, 1) := by decide +kernel
theorem dL_law_473 : decode cL_law 473 = .ok (.goto 1438, 3) := by decide +kernel
theorem dL_law_476 : decode cL_law 476 = .ok (.aload_n 1, 1) := by decide +kernel
theorem dL_law_477 : decode cL_law 477 = .ok (.aload_n 0, 1) := by decide +kernel
theorem dL_law_478 : decode cL_law 478 = .ok (.iload 4, 2) := by decide +kernel
theorem dL_law_480 : decode cL_law 480 = .ok (.iconst 1, 1) := by decide +kernel
theorem dL_law_481 : decode cL_law 481 = .ok (.iadd, 1) := by decide +kernel
theorem dL_law_482 : decode cL_law 482 = .ok (.iaload, 1) := by decide +kernel
theorem dL_law_483 : decode cL_law 483 = .ok (.aload_n 0, 1) := by decide +kernel
theorem dL_law_484 : decode cL_law 484 = .ok (.iload 4, 2) := by decide +kernel
theorem dL_law_486 : decode cL_law 486 = .ok (.iconst 2, 1) := by decide +kernel
theorem dL_law_487 : decode cL_law 487 = .ok (.iadd, 1) := by decide +kernel
theorem dL_law_488 : decode cL_law 488 = .ok (.iaload, 1) := by decide +kernel
theorem dL_law_489 : decode cL_law 489 = .ok (.aload_n 0, 1) := by decide +kernel
theorem dL_law_490 : decode cL_law 490 = .ok (.iload 4, 2) := by decide +kernel
theorem dL_law_492 : decode cL_law 492 = .ok (.iconst 3, 1) := by decide +kernel
theorem dL_law_493 : decode cL_law 493 = .ok (.iadd, 1) := by decide +kernel
theorem dL_law_494 : decode cL_law 494 = .ok (.iaload, 1) := by decide +kernel
theorem dL_law_495 : decode cL_law 495 = .ok (.aload_n 0, 1) := by decide +kernel
theorem dL_law_496 : decode cL_law 496 = .ok (.iload 4, 2) := by decide +kernel
theorem dL_law_498 : decode cL_law 498 = .ok (.iconst 4, 1) := by decide +kernel
theorem dL_law_499 : decode cL_law 499 = .ok (.iadd, 1) := by decide +kernel
theorem dL_law_500 : decode cL_law 500 = .ok (.iaload, 1) := by decide +kernel
theorem dL_law_501 : decode cL_law 501 = .ok (.ifCond .eq 7, 3) := by decide +kernel
theorem dL_law_504 : decode cL_law 504 = .ok (.iconst 1, 1) := by decide +kernel
theorem dL_law_505 : decode cL_law 505 = .ok (.goto 4, 3) := by decide +kernel
theorem dL_law_508 : decode cL_law 508 = .ok (.iconst 0, 1) := by decide +kernel
theorem dL_law_509 : decode cL_law 509 = .ok (.aload_n 3, 1) := by decide +kernel
theorem dL_law_510 : decode cL_law 510 = .ok (.invokestatic 114, 3) := by decide +kernel
theorem dL_law_513 : decode cL_law 513 = .ok (.istore 5, 2) := by decide +kernel
theorem dL_law_515 : decode cL_law 515 = .ok (.aload_n 2, 1) := by decide +kernel
theorem dL_law_516 : decode cL_law 516 = .ok (.aload_n 0, 1) := by decide +kernel
theorem dL_law_517 : decode cL_law 517 = .ok (.iload 4, 2) := by decide +kernel
theorem dL_law_519 : decode cL_law 519 = .ok (.iconst 1, 1) := by decide +kernel
theorem dL_law_520 : decode cL_law 520 = .ok (.iadd, 1) := by decide +kernel
theorem dL_law_521 : decode cL_law 521 = .ok (.iaload, 1) := by decide +kernel
theorem dL_law_522 : decode cL_law 522 = .ok (.aload_n 0, 1) := by decide +kernel
theorem dL_law_523 : decode cL_law 523 = .ok (.iload 4, 2) := by decide +kernel
theorem dL_law_525 : decode cL_law 525 = .ok (.iconst 2, 1) := by decide +kernel
theorem dL_law_526 : decode cL_law 526 = .ok (.iadd, 1) := by decide +kernel
theorem dL_law_527 : decode cL_law 527 = .ok (.iaload, 1) := by decide +kernel
theorem dL_law_528 : decode cL_law 528 = .ok (.aload_n 0, 1) := by decide +kernel
theorem dL_law_529 : decode cL_law 529 = .ok (.iload 4, 2) := by decide +kernel
theorem dL_law_531 : decode cL_law 531 = .ok (.iconst 3, 1) := by decide +kernel
theorem dL_law_532 : decode cL_law 532 = .ok (.iadd, 1) := by decide +kernel
theorem dL_law_533 : decode cL_law 533 = .ok (.iaload, 1) := by decide +kernel
theorem dL_law_534 : decode cL_law 534 = .ok (.aload_n 0, 1) := by decide +kernel
theorem dL_law_535 : decode cL_law 535 = .ok (.iload 4, 2) := by decide +kernel
theorem dL_law_537 : decode cL_law 537 = .ok (.iconst 4, 1) := by decide +kernel
theorem dL_law_538 : decode cL_law 538 = .ok (.iadd, 1) := by decide +kernel
theorem dL_law_539 : decode cL_law 539 = .ok (.iaload, 1) := by decide +kernel
theorem dL_law_540 : decode cL_law 540 = .ok (.ifCond .eq 7, 3) := by decide +kernel
theorem dL_law_543 : decode cL_law 543 = .ok (.iconst 1, 1) := by decide +kernel
theorem dL_law_544 : decode cL_law 544 = .ok (.goto 4, 3) := by decide +kernel
theorem dL_law_547 : decode cL_law 547 = .ok (.iconst 0, 1) := by decide +kernel
theorem dL_law_548 : decode cL_law 548 = .ok (.invokevirtual 116, 3) := by decide +kernel
theorem dL_law_551 : decode cL_law 551 = .ok (.istore 6, 2) := by decide +kernel
theorem dL_law_553 : decode cL_law 553 = .ok (.aload_n 2, 1) := by decide +kernel
theorem dL_law_554 : decode cL_law 554 = .ok (.invokevirtual 101, 3) := by decide +kernel
theorem dL_law_557 : decode cL_law 557 = .ok (.iload 5, 2) := by decide +kernel
theorem dL_law_559 : decode cL_law 559 = .ok (.if_icmp .eq 5, 3) := by decide +kernel
theorem dL_law_562 : decode cL_law 562 = .ok (.iconst 0, 1) := by decide +kernel
theorem dL_law_563 : decode cL_law 563 = .ok (.ireturn, 1) := by decide +kernel
theorem dL_law_564 : decode cL_law 564 = .ok (.iload 5, 2) := by decide +kernel
theorem dL_law_566 : decode cL_law 566 = .ok (.ifCond .ne 15, 3) := by decide +kernel
theorem dL_law_569 : decode cL_law 569 = .ok (.aload_n 3, 1) := by decide +kernel
theorem dL_law_570 : decode cL_law 570 = .ok (.iconst 0, 1) := by decide +kernel
theorem dL_law_571 : decode cL_law 571 = .ok (.laload, 1) := by decide +kernel
theorem dL_law_572 : decode cL_law 572 = .ok (.iload 6, 2) := by decide +kernel
theorem dL_law_574 : decode cL_law 574 = .ok (.i2l, 1) := by decide +kernel
theorem dL_law_575 : decode cL_law 575 = .ok (.lcmp, 1) := by decide +kernel
theorem dL_law_576 : decode cL_law 576 = .ok (.ifCond .eq 5, 3) := by decide +kernel
theorem dL_law_579 : decode cL_law 579 = .ok (.iconst 0, 1) := by decide +kernel
theorem dL_law_580 : decode cL_law 580 = .ok (.ireturn, 1) := by decide +kernel
theorem dL_law_581 : decode cL_law 581 = .ok (.goto 1330, 3) := by decide +kernel
theorem dL_law_584 : decode cL_law 584 = .ok (.aload_n 1, 1) := by decide +kernel
theorem dL_law_585 : decode cL_law 585 = .ok (.aload_n 0, 1) := by decide +kernel
theorem dL_law_586 : decode cL_law 586 = .ok (.iload 4, 2) := by decide +kernel
theorem dL_law_588 : decode cL_law 588 = .ok (.iconst 1, 1) := by decide +kernel
theorem dL_law_589 : decode cL_law 589 = .ok (.iadd, 1) := by decide +kernel
theorem dL_law_590 : decode cL_law 590 = .ok (.iaload, 1) := by decide +kernel
theorem dL_law_591 : decode cL_law 591 = .ok (.aload_n 0, 1) := by decide +kernel
theorem dL_law_592 : decode cL_law 592 = .ok (.iload 4, 2) := by decide +kernel
theorem dL_law_594 : decode cL_law 594 = .ok (.iconst 2, 1) := by decide +kernel
theorem dL_law_595 : decode cL_law 595 = .ok (.iadd, 1) := by decide +kernel
theorem dL_law_596 : decode cL_law 596 = .ok (.iaload, 1) := by decide +kernel
theorem dL_law_597 : decode cL_law 597 = .ok (.aload_n 3, 1) := by decide +kernel
