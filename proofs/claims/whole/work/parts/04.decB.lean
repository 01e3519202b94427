theorem dX7_init_0 : decode cX7_init 0 = .ok (.aload_n 0, 1) := by decide +kernel
theorem dX7_init_1 : decode cX7_init 1 = .ok (.invokespecial 1, 3) := by decide +kernel
theorem dX7_init_4 : decode cX7_init 4 = .ok (.aload_n 0, 1) := by decide +kernel
theorem dX7_init_5 : decode cX7_init 5 = .ok (.new 7, 3) := by decide +kernel
theorem dX7_init_8 : decode cX7_init 8 = .ok (.dup, 1) := by decide +kernel
theorem dX7_init_9 : decode cX7_init 9 = .ok (.invokespecial 9, 3) := by decide +kernel
theorem dX7_init_12 : decode cX7_init 12 = .ok (.putfield 10, 3) := by decide +kernel
theorem dX7_init_15 : decode cX7_init 15 = .ok (.aload_n 0, 1) := by decide +kernel
theorem dX7_init_16 : decode cX7_init 16 = .ok (.new 16, 3) := by decide +kernel
theorem dX7_init_19 : decode cX7_init 19 = .ok (.dup, 1) := by decide +kernel
theorem dX7_init_20 : decode cX7_init 20 = .ok (.invokespecial 18, 3) := by decide +kernel
theorem dX7_init_23 : decode cX7_init 23 = .ok (.putfield 19, 3) := by decide +kernel
theorem dX7_init_26 : decode cX7_init 26 = .ok (.aload_n 0, 1) := by decide +kernel
theorem dX7_init_27 : decode cX7_init 27 = .ok (.new 23, 3) := by decide +kernel
theorem dX7_init_30 : decode cX7_init 30 = .ok (.dup, 1) := by decide +kernel
theorem dX7_init_31 : decode cX7_init 31 = .ok (.invokespecial 25, 3) := by decide +kernel
theorem dX7_init_34 : decode cX7_init 34 = .ok (.putfield 26, 3) := by decide +kernel
theorem dX7_init_37 : decode cX7_init 37 = .ok (.aload_n 0, 1) := by decide +kernel
theorem dX7_init_38 : decode cX7_init 38 = .ok (.iconst (-1), 1) := by decide +kernel
theorem dX7_init_39 : decode cX7_init 39 = .ok (.putfield 30, 3) := by decide +kernel
theorem dX7_init_42 : decode cX7_init 42 = .ok (.return_, 1) := by decide +kernel
theorem dX7_lengthens_0 : decode cX7_lengthens 0 = .ok (.aload_n 0, 1) := by decide +kernel
theorem dX7_lengthens_1 : decode cX7_lengthens 1 = .ok (.getfield 19, 3) := by decide +kernel
theorem dX7_lengthens_4 : decode cX7_lengthens 4 = .ok (.aload_n 0, 1) := by decide +kernel
theorem dX7_lengthens_5 : decode cX7_lengthens 5 = .ok (.getfield 10, 3) := by decide +kernel
theorem dX7_lengthens_8 : decode cX7_lengthens 8 = .ok (.getfield 34, 3) := by decide +kernel
theorem dX7_lengthens_11 : decode cX7_lengthens 11 = .ok (.invokevirtual 38, 3) := by decide +kernel
theorem dX7_lengthens_14 : decode cX7_lengthens 14 = .ok (.aload_n 0, 1) := by decide +kernel
theorem dX7_lengthens_15 : decode cX7_lengthens 15 = .ok (.aload_n 0, 1) := by decide +kernel
theorem dX7_lengthens_16 : decode cX7_lengthens 16 = .ok (.getfield 10, 3) := by decide +kernel
theorem dX7_lengthens_19 : decode cX7_lengthens 19 = .ok (.iload_n 1, 1) := by decide +kernel
theorem dX7_lengthens_20 : decode cX7_lengthens 20 = .ok (.invokevirtual 42, 3) := by decide +kernel
theorem dX7_lengthens_23 : decode cX7_lengthens 23 = .ok (.invokevirtual 46, 3) := by decide +kernel
theorem dX7_lengthens_26 : decode cX7_lengthens 26 = .ok (.ireturn, 1) := by decide +kernel
theorem dX7_lays_0 : decode cX7_lays 0 = .ok (.aload_n 0, 1) := by decide +kernel
theorem dX7_lays_1 : decode cX7_lays 1 = .ok (.getfield 19, 3) := by decide +kernel
theorem dX7_lays_4 : decode cX7_lays 4 = .ok (.aload_n 0, 1) := by decide +kernel
theorem dX7_lays_5 : decode cX7_lays 5 = .ok (.getfield 10, 3) := by decide +kernel
theorem dX7_lays_8 : decode cX7_lays 8 = .ok (.getfield 34, 3) := by decide +kernel
theorem dX7_lays_11 : decode cX7_lays 11 = .ok (.invokevirtual 38, 3) := by decide +kernel
theorem dX7_lays_14 : decode cX7_lays 14 = .ok (.aload_n 0, 1) := by decide +kernel
theorem dX7_lays_15 : decode cX7_lays 15 = .ok (.aload_n 0, 1) := by decide +kernel
theorem dX7_lays_16 : decode cX7_lays 16 = .ok (.getfield 10, 3) := by decide +kernel
theorem dX7_lays_19 : decode cX7_lays 19 = .ok (.getfield 49, 3) := by decide +kernel
theorem dX7_lays_22 : decode cX7_lays 22 = .ok (.iload_n 1, 1) := by decide +kernel
theorem dX7_lays_23 : decode cX7_lays 23 = .ok (.iload_n 2, 1) := by decide +kernel
theorem dX7_lays_24 : decode cX7_lays 24 = .ok (.iload_n 3, 1) := by decide +kernel
theorem dX7_lays_25 : decode cX7_lays 25 = .ok (.iload 4, 2) := by decide +kernel
theorem dX7_lays_27 : decode cX7_lays 27 = .ok (.invokevirtual 53, 3) := by decide +kernel
theorem dX7_lays_30 : decode cX7_lays 30 = .ok (.invokevirtual 46, 3) := by decide +kernel
theorem dX7_lays_33 : decode cX7_lays 33 = .ok (.ireturn, 1) := by decide +kernel
theorem dX7_beacon_0 : decode cX7_beacon 0 = .ok (.aload_n 0, 1) := by decide +kernel
theorem dX7_beacon_1 : decode cX7_beacon 1 = .ok (.getfield 19, 3) := by decide +kernel
theorem dX7_beacon_4 : decode cX7_beacon 4 = .ok (.aload_n 0, 1) := by decide +kernel
theorem dX7_beacon_5 : decode cX7_beacon 5 = .ok (.getfield 10, 3) := by decide +kernel
theorem dX7_beacon_8 : decode cX7_beacon 8 = .ok (.getfield 34, 3) := by decide +kernel
theorem dX7_beacon_11 : decode cX7_beacon 11 = .ok (.invokevirtual 38, 3) := by decide +kernel
theorem dX7_beacon_14 : decode cX7_beacon 14 = .ok (.aload_n 0, 1) := by decide +kernel
theorem dX7_beacon_15 : decode cX7_beacon 15 = .ok (.aload_n 0, 1) := by decide +kernel
theorem dX7_beacon_16 : decode cX7_beacon 16 = .ok (.getfield 10, 3) := by decide +kernel
theorem dX7_beacon_19 : decode cX7_beacon 19 = .ok (.getfield 49, 3) := by decide +kernel
theorem dX7_beacon_22 : decode cX7_beacon 22 = .ok (.iload_n 1, 1) := by decide +kernel
theorem dX7_beacon_23 : decode cX7_beacon 23 = .ok (.iload_n 2, 1) := by decide +kernel
theorem dX7_beacon_24 : decode cX7_beacon 24 = .ok (.invokevirtual 59, 3) := by decide +kernel
theorem dX7_beacon_27 : decode cX7_beacon 27 = .ok (.invokevirtual 63, 3) := by decide +kernel
theorem dX7_beacon_30 : decode cX7_beacon 30 = .ok (.ireturn, 1) := by decide +kernel
theorem dX7_sets_0 : decode cX7_sets 0 = .ok (.aload_n 0, 1) := by decide +kernel
theorem dX7_sets_1 : decode cX7_sets 1 = .ok (.getfield 19, 3) := by decide +kernel
theorem dX7_sets_4 : decode cX7_sets 4 = .ok (.aload_n 0, 1) := by decide +kernel
theorem dX7_sets_5 : decode cX7_sets 5 = .ok (.getfield 10, 3) := by decide +kernel
theorem dX7_sets_8 : decode cX7_sets 8 = .ok (.getfield 34, 3) := by decide +kernel
theorem dX7_sets_11 : decode cX7_sets 11 = .ok (.invokevirtual 38, 3) := by decide +kernel
theorem dX7_sets_14 : decode cX7_sets 14 = .ok (.aload_n 0, 1) := by decide +kernel
theorem dX7_sets_15 : decode cX7_sets 15 = .ok (.aload_n 0, 1) := by decide +kernel
theorem dX7_sets_16 : decode cX7_sets 16 = .ok (.getfield 10, 3) := by decide +kernel
theorem dX7_sets_19 : decode cX7_sets 19 = .ok (.getfield 49, 3) := by decide +kernel
theorem dX7_sets_22 : decode cX7_sets 22 = .ok (.iload_n 1, 1) := by decide +kernel
theorem dX7_sets_23 : decode cX7_sets 23 = .ok (.iload_n 2, 1) := by decide +kernel
theorem dX7_sets_24 : decode cX7_sets 24 = .ok (.invokevirtual 66, 3) := by decide +kernel
theorem dX7_sets_27 : decode cX7_sets 27 = .ok (.invokevirtual 46, 3) := by decide +kernel
theorem dX7_sets_30 : decode cX7_sets 30 = .ok (.ireturn, 1) := by decide +kernel
theorem dX7_cell_0 : decode cX7_cell 0 = .ok (.aload_n 0, 1) := by decide +kernel
theorem dX7_cell_1 : decode cX7_cell 1 = .ok (.aload_n 0, 1) := by decide +kernel
theorem dX7_cell_2 : decode cX7_cell 2 = .ok (.getfield 10, 3) := by decide +kernel
theorem dX7_cell_5 : decode cX7_cell 5 = .ok (.iload_n 1, 1) := by decide +kernel
theorem dX7_cell_6 : decode cX7_cell 6 = .ok (.iload_n 2, 1) := by decide +kernel
theorem dX7_cell_7 : decode cX7_cell 7 = .ok (.invokevirtual 69, 3) := by decide +kernel
theorem dX7_cell_10 : decode cX7_cell 10 = .ok (.invokevirtual 72, 3) := by decide +kernel
theorem dX7_cell_13 : decode cX7_cell 13 = .ok (.ireturn, 1) := by decide +kernel
theorem dX7_lawful_0 : decode cX7_lawful 0 = .ok (.aload_n 0, 1) := by decide +kernel
theorem dX7_lawful_1 : decode cX7_lawful 1 = .ok (.aload_n 0, 1) := by decide +kernel
theorem dX7_lawful_2 : decode cX7_lawful 2 = .ok (.getfield 10, 3) := by decide +kernel
theorem dX7_lawful_5 : decode cX7_lawful 5 = .ok (.getfield 49, 3) := by decide +kernel
theorem dX7_lawful_8 : decode cX7_lawful 8 = .ok (.iload_n 1, 1) := by decide +kernel
theorem dX7_lawful_9 : decode cX7_lawful 9 = .ok (.invokevirtual 75, 3) := by decide +kernel
theorem dX7_lawful_12 : decode cX7_lawful 12 = .ok (.ifCond .eq 18, 3) := by decide +kernel
theorem dX7_lawful_15 : decode cX7_lawful 15 = .ok (.aload_n 0, 1) := by decide +kernel
theorem dX7_lawful_16 : decode cX7_lawful 16 = .ok (.getfield 10, 3) := by decide +kernel
theorem dX7_lawful_19 : decode cX7_lawful 19 = .ok (.getfield 79, 3) := by decide +kernel
theorem dX7_lawful_22 : decode cX7_lawful 22 = .ok (.getfield 83, 3) := by decide +kernel
theorem dX7_lawful_25 : decode cX7_lawful 25 = .ok (.iload_n 1, 1) := by decide +kernel
theorem dX7_lawful_26 : decode cX7_lawful 26 = .ok (.iaload, 1) := by decide +kernel
theorem dX7_lawful_27 : decode cX7_lawful 27 = .ok (.goto 5, 3) := by decide +kernel
theorem dX7_lawful_30 : decode cX7_lawful 30 = .ok (.bipush (-2), 2) := by decide +kernel
theorem dX7_lawful_32 : decode cX7_lawful 32 = .ok (.invokevirtual 72, 3) := by decide +kernel
theorem dX7_lawful_35 : decode cX7_lawful 35 = .ok (.ireturn, 1) := by decide +kernel
theorem dX7_permitted_0 : decode cX7_permitted 0 = .ok (.aload_n 0, 1) := by decide +kernel
theorem dX7_permitted_1 : decode cX7_permitted 1 = .ok (.aload_n 0, 1) := by decide +kernel
theorem dX7_permitted_2 : decode cX7_permitted 2 = .ok (.getfield 10, 3) := by decide +kernel
theorem dX7_permitted_5 : decode cX7_permitted 5 = .ok (.getfield 49, 3) := by decide +kernel
theorem dX7_permitted_8 : decode cX7_permitted 8 = .ok (.iload_n 1, 1) := by decide +kernel
theorem dX7_permitted_9 : decode cX7_permitted 9 = .ok (.invokevirtual 75, 3) := by decide +kernel
theorem dX7_permitted_12 : decode cX7_permitted 12 = .ok (.ifCond .eq 21, 3) := by decide +kernel
theorem dX7_permitted_15 : decode cX7_permitted 15 = .ok (.aload_n 0, 1) := by decide +kernel
theorem dX7_permitted_16 : decode cX7_permitted 16 = .ok (.getfield 10, 3) := by decide +kernel
theorem dX7_permitted_19 : decode cX7_permitted 19 = .ok (.getfield 79, 3) := by decide +kernel
theorem dX7_permitted_22 : decode cX7_permitted 22 = .ok (.getfield 83, 3) := by decide +kernel
theorem dX7_permitted_25 : decode cX7_permitted 25 = .ok (.iload_n 1, 1) := by decide +kernel
theorem dX7_permitted_26 : decode cX7_permitted 26 = .ok (.iaload, 1) := by decide +kernel
theorem dX7_permitted_27 : decode cX7_permitted 27 = .ok (.invokestatic 89, 3) := by decide +kernel
theorem dX7_permitted_30 : decode cX7_permitted 30 = .ok (.goto 5, 3) := by decide +kernel
theorem dX7_permitted_33 : decode cX7_permitted 33 = .ok (.bipush (-2), 2) := by decide +kernel
theorem dX7_permitted_35 : decode cX7_permitted 35 = .ok (.invokevirtual 72, 3) := by decide +kernel
theorem dX7_permitted_38 : decode cX7_permitted 38 = .ok (.ireturn, 1) := by decide +kernel
theorem dX7_bound_0 : decode cX7_bound 0 = .ok (.aload_n 0, 1) := by decide +kernel
theorem dX7_bound_1 : decode cX7_bound 1 = .ok (.aload_n 0, 1) := by decide +kernel
theorem dX7_bound_2 : decode cX7_bound 2 = .ok (.getfield 10, 3) := by decide +kernel
theorem dX7_bound_5 : decode cX7_bound 5 = .ok (.getfield 49, 3) := by decide +kernel
theorem dX7_bound_8 : decode cX7_bound 8 = .ok (.iload_n 1, 1) := by decide +kernel
theorem dX7_bound_9 : decode cX7_bound 9 = .ok (.invokevirtual 75, 3) := by decide +kernel
theorem dX7_bound_12 : decode cX7_bound 12 = .ok (.ifCond .eq 24, 3) := by decide +kernel
theorem dX7_bound_15 : decode cX7_bound 15 = .ok (.aload_n 0, 1) := by decide +kernel
theorem dX7_bound_16 : decode cX7_bound 16 = .ok (.getfield 10, 3) := by decide +kernel
theorem dX7_bound_19 : decode cX7_bound 19 = .ok (.getfield 79, 3) := by decide +kernel
theorem dX7_bound_22 : decode cX7_bound 22 = .ok (.aload_n 0, 1) := by decide +kernel
theorem dX7_bound_23 : decode cX7_bound 23 = .ok (.getfield 10, 3) := by decide +kernel
theorem dX7_bound_26 : decode cX7_bound 26 = .ok (.getfield 49, 3) := by decide +kernel
theorem dX7_bound_29 : decode cX7_bound 29 = .ok (.iload_n 1, 1) := by decide +kernel
theorem dX7_bound_30 : decode cX7_bound 30 = .ok (.invokevirtual 92, 3) := by decide +kernel
theorem dX7_bound_33 : decode cX7_bound 33 = .ok (.goto 5, 3) := by decide +kernel
theorem dX7_bound_36 : decode cX7_bound 36 = .ok (.bipush (-2), 2) := by decide +kernel
theorem dX7_bound_38 : decode cX7_bound 38 = .ok (.invokevirtual 72, 3) := by decide +kernel
theorem dX7_bound_41 : decode cX7_bound 41 = .ok (.ireturn, 1) := by decide +kernel
theorem dX7_stands_0 : decode cX7_stands 0 = .ok (.aload_n 0, 1) := by decide +kernel
theorem dX7_stands_1 : decode cX7_stands 1 = .ok (.getfield 10, 3) := by decide +kernel
theorem dX7_stands_4 : decode cX7_stands 4 = .ok (.getfield 49, 3) := by decide +kernel
theorem dX7_stands_7 : decode cX7_stands 7 = .ok (.iload_n 1, 1) := by decide +kernel
theorem dX7_stands_8 : decode cX7_stands 8 = .ok (.invokevirtual 75, 3) := by decide +kernel
theorem dX7_stands_11 : decode cX7_stands 11 = .ok (.ifCond .eq 17, 3) := by decide +kernel
theorem dX7_stands_14 : decode cX7_stands 14 = .ok (.iload_n 2, 1) := by decide +kernel
theorem dX7_stands_15 : decode cX7_stands 15 = .ok (.iconst 0, 1) := by decide +kernel
theorem dX7_stands_16 : decode cX7_stands 16 = .ok (.bipush 99, 2) := by decide +kernel
theorem dX7_stands_18 : decode cX7_stands 18 = .ok (.invokestatic 96, 3) := by decide +kernel
theorem dX7_stands_21 : decode cX7_stands 21 = .ok (.ifCond .eq 7, 3) := by decide +kernel
theorem dX7_stands_24 : decode cX7_stands 24 = .ok (.iconst 1, 1) := by decide +kernel
theorem dX7_stands_25 : decode cX7_stands 25 = .ok (.goto 4, 3) := by decide +kernel
theorem dX7_stands_28 : decode cX7_stands 28 = .ok (.iconst 0, 1) := by decide +kernel
theorem dX7_stands_29 : decode cX7_stands 29 = .ok (.istore_n 3, 1) := by decide +kernel
theorem dX7_stands_30 : decode cX7_stands 30 = .ok (.aload_n 0, 1) := by decide +kernel
theorem dX7_stands_31 : decode cX7_stands 31 = .ok (.iload_n 3, 1) := by decide +kernel
theorem dX7_stands_32 : decode cX7_stands 32 = .ok (.ifCond .eq 18, 3) := by decide +kernel
theorem dX7_stands_35 : decode cX7_stands 35 = .ok (.aload_n 0, 1) := by decide +kernel
theorem dX7_stands_36 : decode cX7_stands 36 = .ok (.getfield 10, 3) := by decide +kernel
theorem dX7_stands_39 : decode cX7_stands 39 = .ok (.getfield 49, 3) := by decide +kernel
theorem dX7_stands_42 : decode cX7_stands 42 = .ok (.iload_n 1, 1) := by decide +kernel
theorem dX7_stands_43 : decode cX7_stands 43 = .ok (.iload_n 2, 1) := by decide +kernel
theorem dX7_stands_44 : decode cX7_stands 44 = .ok (.invokevirtual 100, 3) := by decide +kernel
theorem dX7_stands_47 : decode cX7_stands 47 = .ok (.goto 5, 3) := by decide +kernel
theorem dX7_stands_50 : decode cX7_stands 50 = .ok (.bipush (-2), 2) := by decide +kernel
theorem dX7_stands_52 : decode cX7_stands 52 = .ok (.invokevirtual 72, 3) := by decide +kernel
theorem dX7_stands_55 : decode cX7_stands 55 = .ok (.ireturn, 1) := by decide +kernel
theorem dX7_speed_0 : decode cX7_speed 0 = .ok (.aload_n 0, 1) := by decide +kernel
theorem dX7_speed_1 : decode cX7_speed 1 = .ok (.getfield 10, 3) := by decide +kernel
theorem dX7_speed_4 : decode cX7_speed 4 = .ok (.getfield 49, 3) := by decide +kernel
theorem dX7_speed_7 : decode cX7_speed 7 = .ok (.iload_n 1, 1) := by decide +kernel
theorem dX7_speed_8 : decode cX7_speed 8 = .ok (.invokevirtual 75, 3) := by decide +kernel
theorem dX7_speed_11 : decode cX7_speed 11 = .ok (.ifCond .eq 18, 3) := by decide +kernel
theorem dX7_speed_14 : decode cX7_speed 14 = .ok (.iload_n 2, 1) := by decide +kernel
theorem dX7_speed_15 : decode cX7_speed 15 = .ok (.iconst 0, 1) := by decide +kernel
theorem dX7_speed_16 : decode cX7_speed 16 = .ok (.sipush 200, 3) := by decide +kernel
theorem dX7_speed_19 : decode cX7_speed 19 = .ok (.invokestatic 96, 3) := by decide +kernel
theorem dX7_speed_22 : decode cX7_speed 22 = .ok (.ifCond .eq 7, 3) := by decide +kernel
theorem dX7_speed_25 : decode cX7_speed 25 = .ok (.iconst 1, 1) := by decide +kernel
theorem dX7_speed_26 : decode cX7_speed 26 = .ok (.goto 4, 3) := by decide +kernel
theorem dX7_speed_29 : decode cX7_speed 29 = .ok (.iconst 0, 1) := by decide +kernel
theorem dX7_speed_30 : decode cX7_speed 30 = .ok (.istore_n 3, 1) := by decide +kernel
theorem dX7_speed_31 : decode cX7_speed 31 = .ok (.aload_n 0, 1) := by decide +kernel
theorem dX7_speed_32 : decode cX7_speed 32 = .ok (.iload_n 3, 1) := by decide +kernel
theorem dX7_speed_33 : decode cX7_speed 33 = .ok (.ifCond .eq 18, 3) := by decide +kernel
theorem dX7_speed_36 : decode cX7_speed 36 = .ok (.aload_n 0, 1) := by decide +kernel
theorem dX7_speed_37 : decode cX7_speed 37 = .ok (.getfield 10, 3) := by decide +kernel
theorem dX7_speed_40 : decode cX7_speed 40 = .ok (.getfield 49, 3) := by decide +kernel
theorem dX7_speed_43 : decode cX7_speed 43 = .ok (.iload_n 1, 1) := by decide +kernel
theorem dX7_speed_44 : decode cX7_speed 44 = .ok (.iload_n 2, 1) := by decide +kernel
theorem dX7_speed_45 : decode cX7_speed 45 = .ok (.invokevirtual 103, 3) := by decide +kernel
theorem dX7_speed_48 : decode cX7_speed 48 = .ok (.goto 5, 3) := by decide +kernel
theorem dX7_speed_51 : decode cX7_speed 51 = .ok (.bipush (-2), 2) := by decide +kernel
theorem dX7_speed_53 : decode cX7_speed 53 = .ok (.invokevirtual 72, 3) := by decide +kernel
theorem dX7_speed_56 : decode cX7_speed 56 = .ok (.ireturn, 1) := by decide +kernel
theorem dX7_many_0 : decode cX7_many 0 = .ok (.aload_n 0, 1) := by decide +kernel
theorem dX7_many_1 : decode cX7_many 1 = .ok (.iload_n 1, 1) := by decide +kernel
theorem dX7_many_2 : decode cX7_many 2 = .ok (.iconst 0, 1) := by decide +kernel
theorem dX7_many_3 : decode cX7_many 3 = .ok (.bipush 99, 2) := by decide +kernel
theorem dX7_many_5 : decode cX7_many 5 = .ok (.invokestatic 96, 3) := by decide +kernel
theorem dX7_many_8 : decode cX7_many 8 = .ok (.ifCond .eq 14, 3) := by decide +kernel
theorem dX7_many_11 : decode cX7_many 11 = .ok (.aload_n 0, 1) := by decide +kernel
theorem dX7_many_12 : decode cX7_many 12 = .ok (.getfield 10, 3) := by decide +kernel
theorem dX7_many_15 : decode cX7_many 15 = .ok (.iload_n 1, 1) := by decide +kernel
theorem dX7_many_16 : decode cX7_many 16 = .ok (.invokevirtual 106, 3) := by decide +kernel
theorem dX7_many_19 : decode cX7_many 19 = .ok (.goto 5, 3) := by decide +kernel
theorem dX7_many_22 : decode cX7_many 22 = .ok (.bipush (-2), 2) := by decide +kernel
theorem dX7_many_24 : decode cX7_many 24 = .ok (.invokevirtual 72, 3) := by decide +kernel
theorem dX7_many_27 : decode cX7_many 27 = .ok (.ireturn, 1) := by decide +kernel
theorem dX7_places_0 : decode cX7_places 0 = .ok (.aload_n 0, 1) := by decide +kernel
theorem dX7_places_1 : decode cX7_places 1 = .ok (.getfield 19, 3) := by decide +kernel
theorem dX7_places_4 : decode cX7_places 4 = .ok (.aload_n 0, 1) := by decide +kernel
theorem dX7_places_5 : decode cX7_places 5 = .ok (.getfield 10, 3) := by decide +kernel
theorem dX7_places_8 : decode cX7_places 8 = .ok (.getfield 34, 3) := by decide +kernel
theorem dX7_places_11 : decode cX7_places 11 = .ok (.invokevirtual 38, 3) := by decide +kernel
theorem dX7_places_14 : decode cX7_places 14 = .ok (.aload_n 0, 1) := by decide +kernel
theorem dX7_places_15 : decode cX7_places 15 = .ok (.aload_n 0, 1) := by decide +kernel
theorem dX7_places_16 : decode cX7_places 16 = .ok (.getfield 10, 3) := by decide +kernel
theorem dX7_places_19 : decode cX7_places 19 = .ok (.iload_n 1, 1) := by decide +kernel
theorem dX7_places_20 : decode cX7_places 20 = .ok (.iload_n 2, 1) := by decide +kernel
theorem dX7_places_21 : decode cX7_places 21 = .ok (.invokevirtual 109, 3) := by decide +kernel
theorem dX7_places_24 : decode cX7_places 24 = .ok (.invokevirtual 63, 3) := by decide +kernel
theorem dX7_places_27 : decode cX7_places 27 = .ok (.ireturn, 1) := by decide +kernel
theorem dX7_steps_0 : decode cX7_steps 0 = .ok (.aload_n 0, 1) := by decide +kernel
theorem dX7_steps_1 : decode cX7_steps 1 = .ok (.getfield 19, 3) := by decide +kernel
theorem dX7_steps_4 : decode cX7_steps 4 = .ok (.aload_n 0, 1) := by decide +kernel
theorem dX7_steps_5 : decode cX7_steps 5 = .ok (.getfield 10, 3) := by decide +kernel
theorem dX7_steps_8 : decode cX7_steps 8 = .ok (.getfield 34, 3) := by decide +kernel
theorem dX7_steps_11 : decode cX7_steps 11 = .ok (.invokevirtual 38, 3) := by decide +kernel
theorem dX7_steps_14 : decode cX7_steps 14 = .ok (.aload_n 0, 1) := by decide +kernel
theorem dX7_steps_15 : decode cX7_steps 15 = .ok (.aload_n 0, 1) := by decide +kernel
theorem dX7_steps_16 : decode cX7_steps 16 = .ok (.getfield 10, 3) := by decide +kernel
theorem dX7_steps_19 : decode cX7_steps 19 = .ok (.iload_n 1, 1) := by decide +kernel
theorem dX7_steps_20 : decode cX7_steps 20 = .ok (.invokevirtual 112, 3) := by decide +kernel
theorem dX7_steps_23 : decode cX7_steps 23 = .ok (.invokevirtual 63, 3) := by decide +kernel
theorem dX7_steps_26 : decode cX7_steps 26 = .ok (.ireturn, 1) := by decide +kernel
theorem dX7_drives_0 : decode cX7_drives 0 = .ok (.aload_n 0, 1) := by decide +kernel
theorem dX7_drives_1 : decode cX7_drives 1 = .ok (.getfield 19, 3) := by decide +kernel
theorem dX7_drives_4 : decode cX7_drives 4 = .ok (.aload_n 0, 1) := by decide +kernel
theorem dX7_drives_5 : decode cX7_drives 5 = .ok (.getfield 10, 3) := by decide +kernel
theorem dX7_drives_8 : decode cX7_drives 8 = .ok (.getfield 34, 3) := by decide +kernel
theorem dX7_drives_11 : decode cX7_drives 11 = .ok (.invokevirtual 38, 3) := by decide +kernel
theorem dX7_drives_14 : decode cX7_drives 14 = .ok (.aload_n 0, 1) := by decide +kernel
theorem dX7_drives_15 : decode cX7_drives 15 = .ok (.aload_n 0, 1) := by decide +kernel
theorem dX7_drives_16 : decode cX7_drives 16 = .ok (.getfield 10, 3) := by decide +kernel
theorem dX7_drives_19 : decode cX7_drives 19 = .ok (.iload_n 1, 1) := by decide +kernel
theorem dX7_drives_20 : decode cX7_drives 20 = .ok (.invokevirtual 115, 3) := by decide +kernel
theorem dX7_drives_23 : decode cX7_drives 23 = .ok (.invokevirtual 63, 3) := by decide +kernel
theorem dX7_drives_26 : decode cX7_drives 26 = .ok (.ireturn, 1) := by decide +kernel
theorem dX7_frees_0 : decode cX7_frees 0 = .ok (.aload_n 0, 1) := by decide +kernel
theorem dX7_frees_1 : decode cX7_frees 1 = .ok (.getfield 19, 3) := by decide +kernel
theorem dX7_frees_4 : decode cX7_frees 4 = .ok (.aload_n 0, 1) := by decide +kernel
theorem dX7_frees_5 : decode cX7_frees 5 = .ok (.getfield 10, 3) := by decide +kernel
theorem dX7_frees_8 : decode cX7_frees 8 = .ok (.getfield 34, 3) := by decide +kernel
theorem dX7_frees_11 : decode cX7_frees 11 = .ok (.invokevirtual 38, 3) := by decide +kernel
theorem dX7_frees_14 : decode cX7_frees 14 = .ok (.aload_n 0, 1) := by decide +kernel
theorem dX7_frees_15 : decode cX7_frees 15 = .ok (.aload_n 0, 1) := by decide +kernel
theorem dX7_frees_16 : decode cX7_frees 16 = .ok (.getfield 10, 3) := by decide +kernel
theorem dX7_frees_19 : decode cX7_frees 19 = .ok (.invokevirtual 118, 3) := by decide +kernel
theorem dX7_frees_22 : decode cX7_frees 22 = .ok (.invokevirtual 63, 3) := by decide +kernel
theorem dX7_frees_25 : decode cX7_frees 25 = .ok (.ireturn, 1) := by decide +kernel
theorem dX7_train_0 : decode cX7_train 0 = .ok (.aload_n 0, 1) := by decide +kernel
theorem dX7_train_1 : decode cX7_train 1 = .ok (.aload_n 0, 1) := by decide +kernel
theorem dX7_train_2 : decode cX7_train 2 = .ok (.getfield 10, 3) := by decide +kernel
theorem dX7_train_5 : decode cX7_train 5 = .ok (.iload_n 1, 1) := by decide +kernel
theorem dX7_train_6 : decode cX7_train 6 = .ok (.invokevirtual 122, 3) := by decide +kernel
theorem dX7_train_9 : decode cX7_train 9 = .ok (.invokevirtual 72, 3) := by decide +kernel
theorem dX7_train_12 : decode cX7_train 12 = .ok (.ireturn, 1) := by decide +kernel
theorem dX7_type_0 : decode cX7_type 0 = .ok (.aload_n 0, 1) := by decide +kernel
theorem dX7_type_1 : decode cX7_type 1 = .ok (.aload_n 0, 1) := by decide +kernel
theorem dX7_type_2 : decode cX7_type 2 = .ok (.getfield 26, 3) := by decide +kernel
theorem dX7_type_5 : decode cX7_type 5 = .ok (.iload_n 1, 1) := by decide +kernel
theorem dX7_type_6 : decode cX7_type 6 = .ok (.invokevirtual 125, 3) := by decide +kernel
theorem dX7_type_9 : decode cX7_type 9 = .ok (.invokevirtual 72, 3) := by decide +kernel
theorem dX7_type_12 : decode cX7_type 12 = .ok (.ireturn, 1) := by decide +kernel
theorem dX7_clear_0 : decode cX7_clear 0 = .ok (.aload_n 0, 1) := by decide +kernel
theorem dX7_clear_1 : decode cX7_clear 1 = .ok (.getfield 26, 3) := by decide +kernel
theorem dX7_clear_4 : decode cX7_clear 4 = .ok (.invokevirtual 128, 3) := by decide +kernel
theorem dX7_clear_7 : decode cX7_clear 7 = .ok (.ireturn, 1) := by decide +kernel
theorem dX7_does_0 : decode cX7_does 0 = .ok (.aload_n 0, 1) := by decide +kernel
theorem dX7_does_1 : decode cX7_does 1 = .ok (.getfield 26, 3) := by decide +kernel
theorem dX7_does_4 : decode cX7_does 4 = .ok (.invokevirtual 131, 3) := by decide +kernel
theorem dX7_does_7 : decode cX7_does 7 = .ok (.ifCond .ne 29, 3) := by decide +kernel
theorem dX7_does_10 : decode cX7_does 10 = .ok (.aload_n 0, 1) := by decide +kernel
theorem dX7_does_11 : decode cX7_does 11 = .ok (.aload_n 0, 1) := by decide +kernel
theorem dX7_does_12 : decode cX7_does 12 = .ok (.getfield 26, 3) := by decide +kernel
theorem dX7_does_15 : decode cX7_does 15 = .ok (.getfield 135, 3) := by decide +kernel
theorem dX7_does_18 : decode cX7_does 18 = .ok (.aload_n 0, 1) := by decide +kernel
theorem dX7_does_19 : decode cX7_does 19 = .ok (.getfield 26, 3) := by decide +kernel
theorem dX7_does_22 : decode cX7_does 22 = .ok (.getfield 138, 3) := by decide +kernel
theorem dX7_does_25 : decode cX7_does 25 = .ok (.invokevirtual 141, 3) := by decide +kernel
theorem dX7_does_28 : decode cX7_does 28 = .ok (.bipush (-10), 2) := by decide +kernel
theorem dX7_does_30 : decode cX7_does 30 = .ok (.aload_n 0, 1) := by decide +kernel
theorem dX7_does_31 : decode cX7_does 31 = .ok (.getfield 30, 3) := by decide +kernel
theorem dX7_does_34 : decode cX7_does 34 = .ok (.isub, 1) := by decide +kernel
theorem dX7_does_35 : decode cX7_does 35 = .ok (.ireturn, 1) := by decide +kernel
theorem dX7_does_36 : decode cX7_does 36 = .ok (.aload_n 0, 1) := by decide +kernel
theorem dX7_does_37 : decode cX7_does 37 = .ok (.getfield 19, 3) := by decide +kernel
theorem dX7_does_40 : decode cX7_does 40 = .ok (.aload_n 0, 1) := by decide +kernel
theorem dX7_does_41 : decode cX7_does 41 = .ok (.getfield 10, 3) := by decide +kernel
theorem dX7_does_44 : decode cX7_does 44 = .ok (.getfield 34, 3) := by decide +kernel
theorem dX7_does_47 : decode cX7_does 47 = .ok (.invokevirtual 38, 3) := by decide +kernel
theorem dX7_does_50 : decode cX7_does 50 = .ok (.iconst 0, 1) := by decide +kernel
theorem dX7_does_51 : decode cX7_does 51 = .ok (.istore_n 1, 1) := by decide +kernel
theorem dX7_does_52 : decode cX7_does 52 = .ok (.iload_n 1, 1) := by decide +kernel
theorem dX7_does_53 : decode cX7_does 53 = .ok (.aload_n 0, 1) := by decide +kernel
theorem dX7_does_54 : decode cX7_does 54 = .ok (.getfield 26, 3) := by decide +kernel
theorem dX7_does_57 : decode cX7_does 57 = .ok (.getfield 145, 3) := by decide +kernel
theorem dX7_does_60 : decode cX7_does 60 = .ok (.if_icmp .ge 48, 3) := by decide +kernel
theorem dX7_does_63 : decode cX7_does 63 = .ok (.aload_n 0, 1) := by decide +kernel
theorem dX7_does_64 : decode cX7_does 64 = .ok (.iload_n 1, 1) := by decide +kernel
theorem dX7_does_65 : decode cX7_does 65 = .ok (.invokevirtual 148, 3) := by decide +kernel
theorem dX7_does_68 : decode cX7_does 68 = .ok (.bipush (-2), 2) := by decide +kernel
theorem dX7_does_70 : decode cX7_does 70 = .ok (.if_icmp .ne 32, 3) := by decide +kernel
theorem dX7_does_73 : decode cX7_does 73 = .ok (.aload_n 0, 1) := by decide +kernel
theorem dX7_does_74 : decode cX7_does 74 = .ok (.getfield 10, 3) := by decide +kernel
theorem dX7_does_77 : decode cX7_does 77 = .ok (.getfield 34, 3) := by decide +kernel
theorem dX7_does_80 : decode cX7_does 80 = .ok (.aload_n 0, 1) := by decide +kernel
theorem dX7_does_81 : decode cX7_does 81 = .ok (.getfield 19, 3) := by decide +kernel
theorem dX7_does_84 : decode cX7_does 84 = .ok (.invokevirtual 151, 3) := by decide +kernel
theorem dX7_does_87 : decode cX7_does 87 = .ok (.invokevirtual 155, 3) := by decide +kernel
theorem dX7_does_90 : decode cX7_does 90 = .ok (.aload_n 0, 1) := by decide +kernel
theorem dX7_does_91 : decode cX7_does 91 = .ok (.iconst 3, 1) := by decide +kernel
theorem dX7_does_92 : decode cX7_does 92 = .ok (.iload_n 1, 1) := by decide +kernel
theorem dX7_does_93 : decode cX7_does 93 = .ok (.invokevirtual 141, 3) := by decide +kernel
theorem dX7_does_96 : decode cX7_does 96 = .ok (.sipush (-1000), 3) := by decide +kernel
theorem dX7_does_99 : decode cX7_does 99 = .ok (.iload_n 1, 1) := by decide +kernel
theorem dX7_does_100 : decode cX7_does 100 = .ok (.isub, 1) := by decide +kernel
theorem dX7_does_101 : decode cX7_does 101 = .ok (.ireturn, 1) := by decide +kernel
theorem dX7_does_102 : decode cX7_does 102 = .ok (.iinc 1 1, 3) := by decide +kernel
theorem dX7_does_105 : decode cX7_does 105 = .ok (.goto (-53), 3) := by decide +kernel
theorem dX7_does_108 : decode cX7_does 108 = .ok (.aload_n 0, 1) := by decide +kernel
theorem dX7_does_109 : decode cX7_does 109 = .ok (.getfield 10, 3) := by decide +kernel
theorem dX7_does_112 : decode cX7_does 112 = .ok (.invokevirtual 160, 3) := by decide +kernel
theorem dX7_does_115 : decode cX7_does 115 = .ok (.aload_n 0, 1) := by decide +kernel
theorem dX7_does_116 : decode cX7_does 116 = .ok (.getfield 19, 3) := by decide +kernel
theorem dX7_does_119 : decode cX7_does 119 = .ok (.invokevirtual 163, 3) := by decide +kernel
theorem dX7_does_122 : decode cX7_does 122 = .ok (.aload_n 0, 1) := by decide +kernel
theorem dX7_does_123 : decode cX7_does 123 = .ok (.getfield 26, 3) := by decide +kernel
theorem dX7_does_126 : decode cX7_does 126 = .ok (.getfield 145, 3) := by decide +kernel
theorem dX7_does_129 : decode cX7_does 129 = .ok (.ireturn, 1) := by decide +kernel
theorem dX7_why_0 : decode cX7_why 0 = .ok (.aload_n 0, 1) := by decide +kernel
theorem dX7_why_1 : decode cX7_why 1 = .ok (.iload_n 1, 1) := by decide +kernel
theorem dX7_why_2 : decode cX7_why 2 = .ok (.ifCond .ne 10, 3) := by decide +kernel
theorem dX7_why_5 : decode cX7_why 5 = .ok (.aload_n 0, 1) := by decide +kernel
theorem dX7_why_6 : decode cX7_why 6 = .ok (.getfield 166, 3) := by decide +kernel
theorem dX7_why_9 : decode cX7_why 9 = .ok (.goto 17, 3) := by decide +kernel
theorem dX7_why_12 : decode cX7_why 12 = .ok (.iload_n 1, 1) := by decide +kernel
theorem dX7_why_13 : decode cX7_why 13 = .ok (.iconst 1, 1) := by decide +kernel
theorem dX7_why_14 : decode cX7_why 14 = .ok (.if_icmp .ne 10, 3) := by decide +kernel
theorem dX7_why_17 : decode cX7_why 17 = .ok (.aload_n 0, 1) := by decide +kernel
theorem dX7_why_18 : decode cX7_why 18 = .ok (.getfield 30, 3) := by decide +kernel
theorem dX7_why_21 : decode cX7_why 21 = .ok (.goto 5, 3) := by decide +kernel
theorem dX7_why_24 : decode cX7_why 24 = .ok (.bipush (-2), 2) := by decide +kernel
theorem dX7_why_26 : decode cX7_why 26 = .ok (.invokevirtual 72, 3) := by decide +kernel
theorem dX7_why_29 : decode cX7_why 29 = .ok (.ireturn, 1) := by decide +kernel
theorem dX7_back_0 : decode cX7_back 0 = .ok (.aload_n 0, 1) := by decide +kernel
theorem dX7_back_1 : decode cX7_back 1 = .ok (.getfield 19, 3) := by decide +kernel
theorem dX7_back_4 : decode cX7_back 4 = .ok (.getfield 167, 3) := by decide +kernel
theorem dX7_back_7 : decode cX7_back 7 = .ok (.ifCond .ne 10, 3) := by decide +kernel
theorem dX7_back_10 : decode cX7_back 10 = .ok (.aload_n 0, 1) := by decide +kernel
theorem dX7_back_11 : decode cX7_back 11 = .ok (.bipush (-3), 2) := by decide +kernel
theorem dX7_back_13 : decode cX7_back 13 = .ok (.invokevirtual 72, 3) := by decide +kernel
theorem dX7_back_16 : decode cX7_back 16 = .ok (.ireturn, 1) := by decide +kernel
theorem dX7_back_17 : decode cX7_back 17 = .ok (.aload_n 0, 1) := by decide +kernel
theorem dX7_back_18 : decode cX7_back 18 = .ok (.getfield 10, 3) := by decide +kernel
theorem dX7_back_21 : decode cX7_back 21 = .ok (.getfield 34, 3) := by decide +kernel
theorem dX7_back_24 : decode cX7_back 24 = .ok (.aload_n 0, 1) := by decide +kernel
theorem dX7_back_25 : decode cX7_back 25 = .ok (.getfield 19, 3) := by decide +kernel
theorem dX7_back_28 : decode cX7_back 28 = .ok (.invokevirtual 170, 3) := by decide +kernel
theorem dX7_back_31 : decode cX7_back 31 = .ok (.invokevirtual 155, 3) := by decide +kernel
theorem dX7_back_34 : decode cX7_back 34 = .ok (.aload_n 0, 1) := by decide +kernel
theorem dX7_back_35 : decode cX7_back 35 = .ok (.getfield 10, 3) := by decide +kernel
theorem dX7_back_38 : decode cX7_back 38 = .ok (.invokevirtual 160, 3) := by decide +kernel
theorem dX7_back_41 : decode cX7_back 41 = .ok (.aload_n 0, 1) := by decide +kernel
theorem dX7_back_42 : decode cX7_back 42 = .ok (.getfield 19, 3) := by decide +kernel
theorem dX7_back_45 : decode cX7_back 45 = .ok (.getfield 167, 3) := by decide +kernel
theorem dX7_back_48 : decode cX7_back 48 = .ok (.ireturn, 1) := by decide +kernel
theorem dX7_told_0 : decode cX7_told 0 = .ok (.aload_n 0, 1) := by decide +kernel
theorem dX7_told_1 : decode cX7_told 1 = .ok (.aload_n 0, 1) := by decide +kernel
theorem dX7_told_2 : decode cX7_told 2 = .ok (.iload_n 1, 1) := by decide +kernel
theorem dX7_told_3 : decode cX7_told 3 = .ok (.invokevirtual 173, 3) := by decide +kernel
theorem dX7_told_6 : decode cX7_told 6 = .ok (.invokevirtual 72, 3) := by decide +kernel
theorem dX7_told_9 : decode cX7_told 9 = .ok (.ireturn, 1) := by decide +kernel
theorem dX7_digest_0 : decode cX7_digest 0 = .ok (.ldc2_w 176, 3) := by decide +kernel
theorem dX7_digest_3 : decode cX7_digest 3 = .ok (.lstore_n 1, 1) := by decide +kernel
theorem dX7_digest_4 : decode cX7_digest 4 = .ok (.iconst 0, 1) := by decide +kernel
theorem dX7_digest_5 : decode cX7_digest 5 = .ok (.istore_n 3, 1) := by decide +kernel
theorem dX7_digest_6 : decode cX7_digest 6 = .ok (.iload_n 3, 1) := by decide +kernel
theorem dX7_digest_7 : decode cX7_digest 7 = .ok (.bipush 13, 2) := by decide +kernel
theorem dX7_digest_9 : decode cX7_digest 9 = .ok (.if_icmp .ge 22, 3) := by decide +kernel
theorem dX7_digest_12 : decode cX7_digest 12 = .ok (.ldc2_w 178, 3) := by decide +kernel
theorem dX7_digest_15 : decode cX7_digest 15 = .ok (.lload_n 1, 1) := by decide +kernel
theorem dX7_digest_16 : decode cX7_digest 16 = .ok (.lmul, 1) := by decide +kernel
theorem dX7_digest_17 : decode cX7_digest 17 = .ok (.aload_n 0, 1) := by decide +kernel
theorem dX7_digest_18 : decode cX7_digest 18 = .ok (.iload_n 3, 1) := by decide +kernel
theorem dX7_digest_19 : decode cX7_digest 19 = .ok (.invokevirtual 173, 3) := by decide +kernel
theorem dX7_digest_22 : decode cX7_digest 22 = .ok (.i2l, 1) := by decide +kernel
theorem dX7_digest_23 : decode cX7_digest 23 = .ok (.ladd, 1) := by decide +kernel
theorem dX7_digest_24 : decode cX7_digest 24 = .ok (.lstore_n 1, 1) := by decide +kernel
theorem dX7_digest_25 : decode cX7_digest 25 = .ok (.iinc 3 1, 3) := by decide +kernel
theorem dX7_digest_28 : decode cX7_digest 28 = .ok (.goto (-22), 3) := by decide +kernel
theorem dX7_digest_31 : decode cX7_digest 31 = .ok (.ldc2_w 178, 3) := by decide +kernel
theorem dX7_digest_34 : decode cX7_digest 34 = .ok (.lload_n 1, 1) := by decide +kernel
theorem dX7_digest_35 : decode cX7_digest 35 = .ok (.lmul, 1) := by decide +kernel
theorem dX7_digest_36 : decode cX7_digest 36 = .ok (.aload_n 0, 1) := by decide +kernel
theorem dX7_digest_37 : decode cX7_digest 37 = .ok (.getfield 166, 3) := by decide +kernel
theorem dX7_digest_40 : decode cX7_digest 40 = .ok (.i2l, 1) := by decide +kernel
theorem dX7_digest_41 : decode cX7_digest 41 = .ok (.ladd, 1) := by decide +kernel
theorem dX7_digest_42 : decode cX7_digest 42 = .ok (.lstore_n 1, 1) := by decide +kernel
theorem dX7_digest_43 : decode cX7_digest 43 = .ok (.ldc2_w 178, 3) := by decide +kernel
theorem dX7_digest_46 : decode cX7_digest 46 = .ok (.lload_n 1, 1) := by decide +kernel
theorem dX7_digest_47 : decode cX7_digest 47 = .ok (.lmul, 1) := by decide +kernel
theorem dX7_digest_48 : decode cX7_digest 48 = .ok (.aload_n 0, 1) := by decide +kernel
theorem dX7_digest_49 : decode cX7_digest 49 = .ok (.getfield 30, 3) := by decide +kernel
theorem dX7_digest_52 : decode cX7_digest 52 = .ok (.i2l, 1) := by decide +kernel
theorem dX7_digest_53 : decode cX7_digest 53 = .ok (.ladd, 1) := by decide +kernel
theorem dX7_digest_54 : decode cX7_digest 54 = .ok (.lstore_n 1, 1) := by decide +kernel
theorem dX7_digest_55 : decode cX7_digest 55 = .ok (.iconst 0, 1) := by decide +kernel
theorem dX7_digest_56 : decode cX7_digest 56 = .ok (.istore_n 3, 1) := by decide +kernel
theorem dX7_digest_57 : decode cX7_digest 57 = .ok (.iload_n 3, 1) := by decide +kernel
theorem dX7_digest_58 : decode cX7_digest 58 = .ok (.aload_n 0, 1) := by decide +kernel
theorem dX7_digest_59 : decode cX7_digest 59 = .ok (.getfield 10, 3) := by decide +kernel
theorem dX7_digest_62 : decode cX7_digest 62 = .ok (.getfield 49, 3) := by decide +kernel
theorem dX7_digest_65 : decode cX7_digest 65 = .ok (.getfield 180, 3) := by decide +kernel
theorem dX7_digest_68 : decode cX7_digest 68 = .ok (.if_icmp .ge 62, 3) := by decide +kernel
theorem dX7_digest_71 : decode cX7_digest 71 = .ok (.iconst 0, 1) := by decide +kernel
theorem dX7_digest_72 : decode cX7_digest 72 = .ok (.istore 4, 2) := by decide +kernel
theorem dX7_digest_74 : decode cX7_digest 74 = .ok (.iload 4, 2) := by decide +kernel
theorem dX7_digest_76 : decode cX7_digest 76 = .ok (.iconst 2, 1) := by decide +kernel
theorem dX7_digest_77 : decode cX7_digest 77 = .ok (.if_icmp .gt 27, 3) := by decide +kernel
theorem dX7_digest_80 : decode cX7_digest 80 = .ok (.ldc2_w 178, 3) := by decide +kernel
theorem dX7_digest_83 : decode cX7_digest 83 = .ok (.lload_n 1, 1) := by decide +kernel
theorem dX7_digest_84 : decode cX7_digest 84 = .ok (.lmul, 1) := by decide +kernel
theorem dX7_digest_85 : decode cX7_digest 85 = .ok (.aload_n 0, 1) := by decide +kernel
theorem dX7_digest_86 : decode cX7_digest 86 = .ok (.getfield 10, 3) := by decide +kernel
theorem dX7_digest_89 : decode cX7_digest 89 = .ok (.iload_n 3, 1) := by decide +kernel
theorem dX7_digest_90 : decode cX7_digest 90 = .ok (.iload 4, 2) := by decide +kernel
theorem dX7_digest_92 : decode cX7_digest 92 = .ok (.invokevirtual 69, 3) := by decide +kernel
theorem dX7_digest_95 : decode cX7_digest 95 = .ok (.i2l, 1) := by decide +kernel
theorem dX7_digest_96 : decode cX7_digest 96 = .ok (.ladd, 1) := by decide +kernel
theorem dX7_digest_97 : decode cX7_digest 97 = .ok (.lstore_n 1, 1) := by decide +kernel
theorem dX7_digest_98 : decode cX7_digest 98 = .ok (.iinc 4 1, 3) := by decide +kernel
theorem dX7_digest_101 : decode cX7_digest 101 = .ok (.goto (-27), 3) := by decide +kernel
theorem dX7_digest_104 : decode cX7_digest 104 = .ok (.ldc2_w 178, 3) := by decide +kernel
theorem dX7_digest_107 : decode cX7_digest 107 = .ok (.lload_n 1, 1) := by decide +kernel
theorem dX7_digest_108 : decode cX7_digest 108 = .ok (.lmul, 1) := by decide +kernel
theorem dX7_digest_109 : decode cX7_digest 109 = .ok (.aload_n 0, 1) := by decide +kernel
theorem dX7_digest_110 : decode cX7_digest 110 = .ok (.getfield 10, 3) := by decide +kernel
theorem dX7_digest_113 : decode cX7_digest 113 = .ok (.getfield 79, 3) := by decide +kernel
theorem dX7_digest_116 : decode cX7_digest 116 = .ok (.getfield 83, 3) := by decide +kernel
theorem dX7_digest_119 : decode cX7_digest 119 = .ok (.iload_n 3, 1) := by decide +kernel
theorem dX7_digest_120 : decode cX7_digest 120 = .ok (.iaload, 1) := by decide +kernel
theorem dX7_digest_121 : decode cX7_digest 121 = .ok (.i2l, 1) := by decide +kernel
theorem dX7_digest_122 : decode cX7_digest 122 = .ok (.ladd, 1) := by decide +kernel
theorem dX7_digest_123 : decode cX7_digest 123 = .ok (.lstore_n 1, 1) := by decide +kernel
theorem dX7_digest_124 : decode cX7_digest 124 = .ok (.iinc 3 1, 3) := by decide +kernel
theorem dX7_digest_127 : decode cX7_digest 127 = .ok (.goto (-70), 3) := by decide +kernel
theorem dX7_digest_130 : decode cX7_digest 130 = .ok (.iconst 0, 1) := by decide +kernel
theorem dX7_digest_131 : decode cX7_digest 131 = .ok (.istore_n 3, 1) := by decide +kernel
theorem dX7_digest_132 : decode cX7_digest 132 = .ok (.iload_n 3, 1) := by decide +kernel
theorem dX7_digest_133 : decode cX7_digest 133 = .ok (.bipush 13, 2) := by decide +kernel
theorem dX7_digest_135 : decode cX7_digest 135 = .ok (.if_icmp .ge 25, 3) := by decide +kernel
theorem dX7_digest_138 : decode cX7_digest 138 = .ok (.ldc2_w 178, 3) := by decide +kernel
theorem dX7_digest_141 : decode cX7_digest 141 = .ok (.lload_n 1, 1) := by decide +kernel
theorem dX7_digest_142 : decode cX7_digest 142 = .ok (.lmul, 1) := by decide +kernel
theorem dX7_digest_143 : decode cX7_digest 143 = .ok (.aload_n 0, 1) := by decide +kernel
theorem dX7_digest_144 : decode cX7_digest 144 = .ok (.getfield 10, 3) := by decide +kernel
theorem dX7_digest_147 : decode cX7_digest 147 = .ok (.iload_n 3, 1) := by decide +kernel
theorem dX7_digest_148 : decode cX7_digest 148 = .ok (.invokevirtual 122, 3) := by decide +kernel
theorem dX7_digest_151 : decode cX7_digest 151 = .ok (.i2l, 1) := by decide +kernel
theorem dX7_digest_152 : decode cX7_digest 152 = .ok (.ladd, 1) := by decide +kernel
theorem dX7_digest_153 : decode cX7_digest 153 = .ok (.lstore_n 1, 1) := by decide +kernel
theorem dX7_digest_154 : decode cX7_digest 154 = .ok (.iinc 3 1, 3) := by decide +kernel
theorem dX7_digest_157 : decode cX7_digest 157 = .ok (.goto (-25), 3) := by decide +kernel
theorem dX7_digest_160 : decode cX7_digest 160 = .ok (.lload_n 1, 1) := by decide +kernel
theorem dX7_digest_161 : decode cX7_digest 161 = .ok (.lreturn, 1) := by decide +kernel
theorem dX7_counted_0 : decode cX7_counted 0 = .ok (.iload_n 1, 1) := by decide +kernel
theorem dX7_counted_1 : decode cX7_counted 1 = .ok (.bipush (-2), 2) := by decide +kernel
theorem dX7_counted_3 : decode cX7_counted 3 = .ok (.if_icmp .ne 16, 3) := by decide +kernel
theorem dX7_counted_6 : decode cX7_counted 6 = .ok (.aload_n 0, 1) := by decide +kernel
theorem dX7_counted_7 : decode cX7_counted 7 = .ok (.dup, 1) := by decide +kernel
theorem dX7_counted_8 : decode cX7_counted 8 = .ok (.getfield 183, 3) := by decide +kernel
theorem dX7_counted_11 : decode cX7_counted 11 = .ok (.iconst 1, 1) := by decide +kernel
theorem dX7_counted_12 : decode cX7_counted 12 = .ok (.iadd, 1) := by decide +kernel
theorem dX7_counted_13 : decode cX7_counted 13 = .ok (.putfield 183, 3) := by decide +kernel
theorem dX7_counted_16 : decode cX7_counted 16 = .ok (.goto 38, 3) := by decide +kernel
theorem dX7_counted_19 : decode cX7_counted 19 = .ok (.iload_n 1, 1) := by decide +kernel
theorem dX7_counted_20 : decode cX7_counted 20 = .ok (.bipush (-3), 2) := by decide +kernel
theorem dX7_counted_22 : decode cX7_counted 22 = .ok (.if_icmp .ne 16, 3) := by decide +kernel
theorem dX7_counted_25 : decode cX7_counted 25 = .ok (.aload_n 0, 1) := by decide +kernel
theorem dX7_counted_26 : decode cX7_counted 26 = .ok (.dup, 1) := by decide +kernel
theorem dX7_counted_27 : decode cX7_counted 27 = .ok (.getfield 186, 3) := by decide +kernel
theorem dX7_counted_30 : decode cX7_counted 30 = .ok (.iconst 1, 1) := by decide +kernel
theorem dX7_counted_31 : decode cX7_counted 31 = .ok (.iadd, 1) := by decide +kernel
theorem dX7_counted_32 : decode cX7_counted 32 = .ok (.putfield 186, 3) := by decide +kernel
theorem dX7_counted_35 : decode cX7_counted 35 = .ok (.goto 19, 3) := by decide +kernel
theorem dX7_counted_38 : decode cX7_counted 38 = .ok (.iload_n 1, 1) := by decide +kernel
theorem dX7_counted_39 : decode cX7_counted 39 = .ok (.bipush (-4), 2) := by decide +kernel
theorem dX7_counted_41 : decode cX7_counted 41 = .ok (.if_icmp .ne 13, 3) := by decide +kernel
theorem dX7_counted_44 : decode cX7_counted 44 = .ok (.aload_n 0, 1) := by decide +kernel
theorem dX7_counted_45 : decode cX7_counted 45 = .ok (.dup, 1) := by decide +kernel
theorem dX7_counted_46 : decode cX7_counted 46 = .ok (.getfield 189, 3) := by decide +kernel
theorem dX7_counted_49 : decode cX7_counted 49 = .ok (.iconst 1, 1) := by decide +kernel
theorem dX7_counted_50 : decode cX7_counted 50 = .ok (.iadd, 1) := by decide +kernel
theorem dX7_counted_51 : decode cX7_counted 51 = .ok (.putfield 189, 3) := by decide +kernel
theorem dX7_counted_54 : decode cX7_counted 54 = .ok (.iload_n 1, 1) := by decide +kernel
theorem dX7_counted_55 : decode cX7_counted 55 = .ok (.ireturn, 1) := by decide +kernel
theorem dX7_settled_0 : decode cX7_settled 0 = .ok (.iload_n 1, 1) := by decide +kernel
theorem dX7_settled_1 : decode cX7_settled 1 = .ok (.bipush (-2), 2) := by decide +kernel
theorem dX7_settled_3 : decode cX7_settled 3 = .ok (.if_icmp .eq 16, 3) := by decide +kernel
theorem dX7_settled_6 : decode cX7_settled 6 = .ok (.iload_n 1, 1) := by decide +kernel
theorem dX7_settled_7 : decode cX7_settled 7 = .ok (.bipush (-3), 2) := by decide +kernel
theorem dX7_settled_9 : decode cX7_settled 9 = .ok (.if_icmp .eq 10, 3) := by decide +kernel
theorem dX7_settled_12 : decode cX7_settled 12 = .ok (.aload_n 0, 1) := by decide +kernel
theorem dX7_settled_13 : decode cX7_settled 13 = .ok (.getfield 19, 3) := by decide +kernel
theorem dX7_settled_16 : decode cX7_settled 16 = .ok (.invokevirtual 163, 3) := by decide +kernel
theorem dX7_settled_19 : decode cX7_settled 19 = .ok (.aload_n 0, 1) := by decide +kernel
theorem dX7_settled_20 : decode cX7_settled 20 = .ok (.iload_n 1, 1) := by decide +kernel
theorem dX7_settled_21 : decode cX7_settled 21 = .ok (.invokevirtual 72, 3) := by decide +kernel
theorem dX7_settled_24 : decode cX7_settled 24 = .ok (.ireturn, 1) := by decide +kernel
theorem dX7_redrawn_0 : decode cX7_redrawn 0 = .ok (.iload_n 1, 1) := by decide +kernel
theorem dX7_redrawn_1 : decode cX7_redrawn 1 = .ok (.bipush (-2), 2) := by decide +kernel
theorem dX7_redrawn_3 : decode cX7_redrawn 3 = .ok (.if_icmp .eq 10, 3) := by decide +kernel
theorem dX7_redrawn_6 : decode cX7_redrawn 6 = .ok (.aload_n 0, 1) := by decide +kernel
theorem dX7_redrawn_7 : decode cX7_redrawn 7 = .ok (.getfield 10, 3) := by decide +kernel
theorem dX7_redrawn_10 : decode cX7_redrawn 10 = .ok (.invokevirtual 160, 3) := by decide +kernel
theorem dX7_redrawn_13 : decode cX7_redrawn 13 = .ok (.aload_n 0, 1) := by decide +kernel
theorem dX7_redrawn_14 : decode cX7_redrawn 14 = .ok (.iload_n 1, 1) := by decide +kernel
theorem dX7_redrawn_15 : decode cX7_redrawn 15 = .ok (.invokevirtual 63, 3) := by decide +kernel
theorem dX7_redrawn_18 : decode cX7_redrawn 18 = .ok (.ireturn, 1) := by decide +kernel
theorem dX7_blames_0 : decode cX7_blames 0 = .ok (.aload_n 0, 1) := by decide +kernel
theorem dX7_blames_1 : decode cX7_blames 1 = .ok (.iload_n 1, 1) := by decide +kernel
theorem dX7_blames_2 : decode cX7_blames 2 = .ok (.putfield 166, 3) := by decide +kernel
theorem dX7_blames_5 : decode cX7_blames 5 = .ok (.aload_n 0, 1) := by decide +kernel
theorem dX7_blames_6 : decode cX7_blames 6 = .ok (.iload_n 2, 1) := by decide +kernel
theorem dX7_blames_7 : decode cX7_blames 7 = .ok (.putfield 30, 3) := by decide +kernel
theorem dX7_blames_10 : decode cX7_blames 10 = .ok (.return_, 1) := by decide +kernel
theorem dX7_obeys_0 : decode cX7_obeys 0 = .ok (.aload_n 0, 1) := by decide +kernel
theorem dX7_obeys_1 : decode cX7_obeys 1 = .ok (.getfield 26, 3) := by decide +kernel
theorem dX7_obeys_4 : decode cX7_obeys 4 = .ok (.iload_n 1, 1) := by decide +kernel
theorem dX7_obeys_5 : decode cX7_obeys 5 = .ok (.iconst 0, 1) := by decide +kernel
theorem dX7_obeys_6 : decode cX7_obeys 6 = .ok (.invokevirtual 192, 3) := by decide +kernel
theorem dX7_obeys_9 : decode cX7_obeys 9 = .ok (.istore_n 2, 1) := by decide +kernel
theorem dX7_obeys_10 : decode cX7_obeys 10 = .ok (.aload_n 0, 1) := by decide +kernel
theorem dX7_obeys_11 : decode cX7_obeys 11 = .ok (.getfield 26, 3) := by decide +kernel
theorem dX7_obeys_14 : decode cX7_obeys 14 = .ok (.iload_n 1, 1) := by decide +kernel
theorem dX7_obeys_15 : decode cX7_obeys 15 = .ok (.iconst 1, 1) := by decide +kernel
theorem dX7_obeys_16 : decode cX7_obeys 16 = .ok (.invokevirtual 192, 3) := by decide +kernel
theorem dX7_obeys_19 : decode cX7_obeys 19 = .ok (.istore_n 3, 1) := by decide +kernel
theorem dX7_obeys_20 : decode cX7_obeys 20 = .ok (.aload_n 0, 1) := by decide +kernel
theorem dX7_obeys_21 : decode cX7_obeys 21 = .ok (.getfield 26, 3) := by decide +kernel
theorem dX7_obeys_24 : decode cX7_obeys 24 = .ok (.iload_n 1, 1) := by decide +kernel
theorem dX7_obeys_25 : decode cX7_obeys 25 = .ok (.iconst 2, 1) := by decide +kernel
theorem dX7_obeys_26 : decode cX7_obeys 26 = .ok (.invokevirtual 192, 3) := by decide +kernel
theorem dX7_obeys_29 : decode cX7_obeys 29 = .ok (.istore 4, 2) := by decide +kernel
theorem dX7_obeys_31 : decode cX7_obeys 31 = .ok (.aload_n 0, 1) := by decide +kernel
theorem dX7_obeys_32 : decode cX7_obeys 32 = .ok (.getfield 26, 3) := by decide +kernel
theorem dX7_obeys_35 : decode cX7_obeys 35 = .ok (.getfield 195, 3) := by decide +kernel
theorem dX7_obeys_38 : decode cX7_obeys 38 = .ok (.iload_n 1, 1) := by decide +kernel
theorem dX7_obeys_39 : decode cX7_obeys 39 = .ok (.iaload, 1) := by decide +kernel
theorem dX7_obeys_40 : decode cX7_obeys 40 = .ok (.tableswitch 154 0 7 #[48, 57, 73, 89, 102, 115, 128, 141], 48) := by decide +kernel
theorem dX7_obeys_88 : decode cX7_obeys 88 = .ok (.aload_n 0, 1) := by decide +kernel
theorem dX7_obeys_89 : decode cX7_obeys 89 = .ok (.getfield 10, 3) := by decide +kernel
theorem dX7_obeys_92 : decode cX7_obeys 92 = .ok (.iload_n 2, 1) := by decide +kernel
theorem dX7_obeys_93 : decode cX7_obeys 93 = .ok (.invokevirtual 42, 3) := by decide +kernel
theorem dX7_obeys_96 : decode cX7_obeys 96 = .ok (.ireturn, 1) := by decide +kernel
theorem dX7_obeys_97 : decode cX7_obeys 97 = .ok (.aload_n 0, 1) := by decide +kernel
theorem dX7_obeys_98 : decode cX7_obeys 98 = .ok (.getfield 10, 3) := by decide +kernel
theorem dX7_obeys_101 : decode cX7_obeys 101 = .ok (.getfield 49, 3) := by decide +kernel
theorem dX7_obeys_104 : decode cX7_obeys 104 = .ok (.iconst 0, 1) := by decide +kernel
theorem dX7_obeys_105 : decode cX7_obeys 105 = .ok (.iload_n 2, 1) := by decide +kernel
theorem dX7_obeys_106 : decode cX7_obeys 106 = .ok (.iload_n 3, 1) := by decide +kernel
theorem dX7_obeys_107 : decode cX7_obeys 107 = .ok (.iload 4, 2) := by decide +kernel
theorem dX7_obeys_109 : decode cX7_obeys 109 = .ok (.invokevirtual 53, 3) := by decide +kernel
theorem dX7_obeys_112 : decode cX7_obeys 112 = .ok (.ireturn, 1) := by decide +kernel
theorem dX7_obeys_113 : decode cX7_obeys 113 = .ok (.aload_n 0, 1) := by decide +kernel
theorem dX7_obeys_114 : decode cX7_obeys 114 = .ok (.getfield 10, 3) := by decide +kernel
theorem dX7_obeys_117 : decode cX7_obeys 117 = .ok (.getfield 49, 3) := by decide +kernel
theorem dX7_obeys_120 : decode cX7_obeys 120 = .ok (.iconst 1, 1) := by decide +kernel
theorem dX7_obeys_121 : decode cX7_obeys 121 = .ok (.iload_n 2, 1) := by decide +kernel
theorem dX7_obeys_122 : decode cX7_obeys 122 = .ok (.iload_n 3, 1) := by decide +kernel
theorem dX7_obeys_123 : decode cX7_obeys 123 = .ok (.iload 4, 2) := by decide +kernel
theorem dX7_obeys_125 : decode cX7_obeys 125 = .ok (.invokevirtual 53, 3) := by decide +kernel
theorem dX7_obeys_128 : decode cX7_obeys 128 = .ok (.ireturn, 1) := by decide +kernel
theorem dX7_obeys_129 : decode cX7_obeys 129 = .ok (.aload_n 0, 1) := by decide +kernel
theorem dX7_obeys_130 : decode cX7_obeys 130 = .ok (.getfield 10, 3) := by decide +kernel
theorem dX7_obeys_133 : decode cX7_obeys 133 = .ok (.getfield 49, 3) := by decide +kernel
theorem dX7_obeys_136 : decode cX7_obeys 136 = .ok (.iload_n 2, 1) := by decide +kernel
theorem dX7_obeys_137 : decode cX7_obeys 137 = .ok (.iconst 1, 1) := by decide +kernel
theorem dX7_obeys_138 : decode cX7_obeys 138 = .ok (.invokevirtual 59, 3) := by decide +kernel
theorem dX7_obeys_141 : decode cX7_obeys 141 = .ok (.ireturn, 1) := by decide +kernel
theorem dX7_obeys_142 : decode cX7_obeys 142 = .ok (.aload_n 0, 1) := by decide +kernel
theorem dX7_obeys_143 : decode cX7_obeys 143 = .ok (.getfield 10, 3) := by decide +kernel
theorem dX7_obeys_146 : decode cX7_obeys 146 = .ok (.getfield 49, 3) := by decide +kernel
theorem dX7_obeys_149 : decode cX7_obeys 149 = .ok (.iconst 0, 1) := by decide +kernel
theorem dX7_obeys_150 : decode cX7_obeys 150 = .ok (.iload_n 2, 1) := by decide +kernel
theorem dX7_obeys_151 : decode cX7_obeys 151 = .ok (.invokevirtual 66, 3) := by decide +kernel
theorem dX7_obeys_154 : decode cX7_obeys 154 = .ok (.ireturn, 1) := by decide +kernel
theorem dX7_obeys_155 : decode cX7_obeys 155 = .ok (.aload_n 0, 1) := by decide +kernel
theorem dX7_obeys_156 : decode cX7_obeys 156 = .ok (.getfield 10, 3) := by decide +kernel
theorem dX7_obeys_159 : decode cX7_obeys 159 = .ok (.getfield 49, 3) := by decide +kernel
theorem dX7_obeys_162 : decode cX7_obeys 162 = .ok (.iconst 1, 1) := by decide +kernel
theorem dX7_obeys_163 : decode cX7_obeys 163 = .ok (.iload_n 2, 1) := by decide +kernel
theorem dX7_obeys_164 : decode cX7_obeys 164 = .ok (.invokevirtual 66, 3) := by decide +kernel
theorem dX7_obeys_167 : decode cX7_obeys 167 = .ok (.ireturn, 1) := by decide +kernel
theorem dX7_obeys_168 : decode cX7_obeys 168 = .ok (.aload_n 0, 1) := by decide +kernel
theorem dX7_obeys_169 : decode cX7_obeys 169 = .ok (.getfield 10, 3) := by decide +kernel
theorem dX7_obeys_172 : decode cX7_obeys 172 = .ok (.getfield 49, 3) := by decide +kernel
theorem dX7_obeys_175 : decode cX7_obeys 175 = .ok (.iconst 2, 1) := by decide +kernel
theorem dX7_obeys_176 : decode cX7_obeys 176 = .ok (.iload_n 2, 1) := by decide +kernel
theorem dX7_obeys_177 : decode cX7_obeys 177 = .ok (.invokevirtual 66, 3) := by decide +kernel
theorem dX7_obeys_180 : decode cX7_obeys 180 = .ok (.ireturn, 1) := by decide +kernel
theorem dX7_obeys_181 : decode cX7_obeys 181 = .ok (.aload_n 0, 1) := by decide +kernel
theorem dX7_obeys_182 : decode cX7_obeys 182 = .ok (.getfield 10, 3) := by decide +kernel
theorem dX7_obeys_185 : decode cX7_obeys 185 = .ok (.getfield 49, 3) := by decide +kernel
theorem dX7_obeys_188 : decode cX7_obeys 188 = .ok (.iconst 3, 1) := by decide +kernel
theorem dX7_obeys_189 : decode cX7_obeys 189 = .ok (.iload_n 2, 1) := by decide +kernel
theorem dX7_obeys_190 : decode cX7_obeys 190 = .ok (.invokevirtual 66, 3) := by decide +kernel
theorem dX7_obeys_193 : decode cX7_obeys 193 = .ok (.ireturn, 1) := by decide +kernel
theorem dX7_obeys_194 : decode cX7_obeys 194 = .ok (.bipush (-2), 2) := by decide +kernel
theorem dX7_obeys_196 : decode cX7_obeys 196 = .ok (.ireturn, 1) := by decide +kernel
theorem dX7_toldValue_0 : decode cX7_toldValue 0 = .ok (.iload_n 1, 1) := by decide +kernel
theorem dX7_toldValue_1 : decode cX7_toldValue 1 = .ok (.tableswitch 109 0 12 #[67, 72, 77, 82, 109, 109, 109, 109, 109, 109, 109, 93, 101], 67) := by decide +kernel
theorem dX7_toldValue_68 : decode cX7_toldValue 68 = .ok (.aload_n 0, 1) := by decide +kernel
theorem dX7_toldValue_69 : decode cX7_toldValue 69 = .ok (.getfield 183, 3) := by decide +kernel
theorem dX7_toldValue_72 : decode cX7_toldValue 72 = .ok (.ireturn, 1) := by decide +kernel
theorem dX7_toldValue_73 : decode cX7_toldValue 73 = .ok (.aload_n 0, 1) := by decide +kernel
theorem dX7_toldValue_74 : decode cX7_toldValue 74 = .ok (.getfield 186, 3) := by decide +kernel
theorem dX7_toldValue_77 : decode cX7_toldValue 77 = .ok (.ireturn, 1) := by decide +kernel
theorem dX7_toldValue_78 : decode cX7_toldValue 78 = .ok (.aload_n 0, 1) := by decide +kernel
theorem dX7_toldValue_79 : decode cX7_toldValue 79 = .ok (.getfield 189, 3) := by decide +kernel
theorem dX7_toldValue_82 : decode cX7_toldValue 82 = .ok (.ireturn, 1) := by decide +kernel
theorem dX7_toldValue_83 : decode cX7_toldValue 83 = .ok (.aload_n 0, 1) := by decide +kernel
theorem dX7_toldValue_84 : decode cX7_toldValue 84 = .ok (.getfield 10, 3) := by decide +kernel
theorem dX7_toldValue_87 : decode cX7_toldValue 87 = .ok (.getfield 49, 3) := by decide +kernel
theorem dX7_toldValue_90 : decode cX7_toldValue 90 = .ok (.getfield 180, 3) := by decide +kernel
theorem dX7_toldValue_93 : decode cX7_toldValue 93 = .ok (.ireturn, 1) := by decide +kernel
theorem dX7_toldValue_94 : decode cX7_toldValue 94 = .ok (.aload_n 0, 1) := by decide +kernel
theorem dX7_toldValue_95 : decode cX7_toldValue 95 = .ok (.getfield 26, 3) := by decide +kernel
theorem dX7_toldValue_98 : decode cX7_toldValue 98 = .ok (.getfield 198, 3) := by decide +kernel
theorem dX7_toldValue_101 : decode cX7_toldValue 101 = .ok (.ireturn, 1) := by decide +kernel
theorem dX7_toldValue_102 : decode cX7_toldValue 102 = .ok (.aload_n 0, 1) := by decide +kernel
theorem dX7_toldValue_103 : decode cX7_toldValue 103 = .ok (.getfield 19, 3) := by decide +kernel
theorem dX7_toldValue_106 : decode cX7_toldValue 106 = .ok (.getfield 167, 3) := by decide +kernel
theorem dX7_toldValue_109 : decode cX7_toldValue 109 = .ok (.ireturn, 1) := by decide +kernel
theorem dX7_toldValue_110 : decode cX7_toldValue 110 = .ok (.iload_n 1, 1) := by decide +kernel
theorem dX7_toldValue_111 : decode cX7_toldValue 111 = .ok (.iconst 4, 1) := by decide +kernel
theorem dX7_toldValue_112 : decode cX7_toldValue 112 = .ok (.bipush 10, 2) := by decide +kernel
theorem dX7_toldValue_114 : decode cX7_toldValue 114 = .ok (.invokestatic 96, 3) := by decide +kernel
theorem dX7_toldValue_117 : decode cX7_toldValue 117 = .ok (.ifCond .eq 20, 3) := by decide +kernel
theorem dX7_toldValue_120 : decode cX7_toldValue 120 = .ok (.aload_n 0, 1) := by decide +kernel
theorem dX7_toldValue_121 : decode cX7_toldValue 121 = .ok (.getfield 10, 3) := by decide +kernel
theorem dX7_toldValue_124 : decode cX7_toldValue 124 = .ok (.getfield 49, 3) := by decide +kernel
theorem dX7_toldValue_127 : decode cX7_toldValue 127 = .ok (.getfield 201, 3) := by decide +kernel
theorem dX7_toldValue_130 : decode cX7_toldValue 130 = .ok (.iload_n 1, 1) := by decide +kernel
theorem dX7_toldValue_131 : decode cX7_toldValue 131 = .ok (.iconst 4, 1) := by decide +kernel
theorem dX7_toldValue_132 : decode cX7_toldValue 132 = .ok (.isub, 1) := by decide +kernel
theorem dX7_toldValue_133 : decode cX7_toldValue 133 = .ok (.iaload, 1) := by decide +kernel
theorem dX7_toldValue_134 : decode cX7_toldValue 134 = .ok (.goto 5, 3) := by decide +kernel
theorem dX7_toldValue_137 : decode cX7_toldValue 137 = .ok (.bipush (-2), 2) := by decide +kernel
theorem dX7_toldValue_139 : decode cX7_toldValue 139 = .ok (.ireturn, 1) := by decide +kernel
theorem dX7_within_0 : decode cX7_within 0 = .ok (.iload_n 0, 1) := by decide +kernel
theorem dX7_within_1 : decode cX7_within 1 = .ok (.iload_n 1, 1) := by decide +kernel
theorem dX7_within_2 : decode cX7_within 2 = .ok (.if_icmp .lt 12, 3) := by decide +kernel
theorem dX7_within_5 : decode cX7_within 5 = .ok (.iload_n 0, 1) := by decide +kernel
theorem dX7_within_6 : decode cX7_within 6 = .ok (.iload_n 2, 1) := by decide +kernel
theorem dX7_within_7 : decode cX7_within 7 = .ok (.if_icmp .gt 7, 3) := by decide +kernel
theorem dX7_within_10 : decode cX7_within 10 = .ok (.iconst 1, 1) := by decide +kernel
theorem dX7_within_11 : decode cX7_within 11 = .ok (.goto 4, 3) := by decide +kernel
theorem dX7_within_14 : decode cX7_within 14 = .ok (.iconst 0, 1) := by decide +kernel
theorem dX7_within_15 : decode cX7_within 15 = .ok (.ireturn, 1) := by decide +kernel
theorem dX7_root_0 : decode cX7_root 0 = .ok (.iconst 0, 1) := by decide +kernel
theorem dX7_root_1 : decode cX7_root 1 = .ok (.istore_n 1, 1) := by decide +kernel
theorem dX7_root_2 : decode cX7_root 2 = .ok (.sipush 16384, 3) := by decide +kernel
theorem dX7_root_5 : decode cX7_root 5 = .ok (.istore_n 2, 1) := by decide +kernel
theorem dX7_root_6 : decode cX7_root 6 = .ok (.iload_n 2, 1) := by decide +kernel
theorem dX7_root_7 : decode cX7_root 7 = .ok (.ifCond .le 23, 3) := by decide +kernel
theorem dX7_root_10 : decode cX7_root 10 = .ok (.iload_n 1, 1) := by decide +kernel
theorem dX7_root_11 : decode cX7_root 11 = .ok (.iload_n 2, 1) := by decide +kernel
theorem dX7_root_12 : decode cX7_root 12 = .ok (.iadd, 1) := by decide +kernel
theorem dX7_root_13 : decode cX7_root 13 = .ok (.istore_n 3, 1) := by decide +kernel
theorem dX7_root_14 : decode cX7_root 14 = .ok (.iload_n 3, 1) := by decide +kernel
theorem dX7_root_15 : decode cX7_root 15 = .ok (.iload_n 3, 1) := by decide +kernel
theorem dX7_root_16 : decode cX7_root 16 = .ok (.imul, 1) := by decide +kernel
theorem dX7_root_17 : decode cX7_root 17 = .ok (.iload_n 0, 1) := by decide +kernel
theorem dX7_root_18 : decode cX7_root 18 = .ok (.if_icmp .gt 5, 3) := by decide +kernel
theorem dX7_root_21 : decode cX7_root 21 = .ok (.iload_n 3, 1) := by decide +kernel
theorem dX7_root_22 : decode cX7_root 22 = .ok (.istore_n 1, 1) := by decide +kernel
theorem dX7_root_23 : decode cX7_root 23 = .ok (.iload_n 2, 1) := by decide +kernel
theorem dX7_root_24 : decode cX7_root 24 = .ok (.iconst 1, 1) := by decide +kernel
theorem dX7_root_25 : decode cX7_root 25 = .ok (.ishr, 1) := by decide +kernel
theorem dX7_root_26 : decode cX7_root 26 = .ok (.istore_n 2, 1) := by decide +kernel
theorem dX7_root_27 : decode cX7_root 27 = .ok (.goto (-21), 3) := by decide +kernel
theorem dX7_root_30 : decode cX7_root 30 = .ok (.iload_n 1, 1) := by decide +kernel
theorem dX7_root_31 : decode cX7_root 31 = .ok (.ireturn, 1) := by decide +kernel
