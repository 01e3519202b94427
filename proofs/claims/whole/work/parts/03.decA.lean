theorem dX0_init_0 : decode cX0_init 0 = .ok (.aload_n 0, 1) := by decide +kernel
theorem dX0_init_1 : decode cX0_init 1 = .ok (.invokespecial 3, 3) := by decide +kernel
theorem dX0_init_4 : decode cX0_init 4 = .ok (.aload_n 0, 1) := by decide +kernel
theorem dX0_init_5 : decode cX0_init 5 = .ok (.sipush 200, 3) := by decide +kernel
theorem dX0_init_8 : decode cX0_init 8 = .ok (.newarray .int, 2) := by decide +kernel
theorem dX0_init_10 : decode cX0_init 10 = .ok (.putfield 11, 3) := by decide +kernel
theorem dX0_init_13 : decode cX0_init 13 = .ok (.aload_n 0, 1) := by decide +kernel
theorem dX0_init_14 : decode cX0_init 14 = .ok (.sipush 200, 3) := by decide +kernel
theorem dX0_init_17 : decode cX0_init 17 = .ok (.newarray .int, 2) := by decide +kernel
theorem dX0_init_19 : decode cX0_init 19 = .ok (.putfield 17, 3) := by decide +kernel
theorem dX0_init_22 : decode cX0_init 22 = .ok (.return_, 1) := by decide +kernel
theorem dX0_draws_0 : decode cX0_draws 0 = .ok (.aload_n 0, 1) := by decide +kernel
theorem dX0_draws_1 : decode cX0_draws 1 = .ok (.aload_n 1, 1) := by decide +kernel
theorem dX0_draws_2 : decode cX0_draws 2 = .ok (.invokevirtual 20, 3) := by decide +kernel
theorem dX0_draws_5 : decode cX0_draws 5 = .ok (.iconst 0, 1) := by decide +kernel
theorem dX0_draws_6 : decode cX0_draws 6 = .ok (.istore_n 2, 1) := by decide +kernel
theorem dX0_draws_7 : decode cX0_draws 7 = .ok (.aload_n 1, 1) := by decide +kernel
theorem dX0_draws_8 : decode cX0_draws 8 = .ok (.getfield 24, 3) := by decide +kernel
theorem dX0_draws_11 : decode cX0_draws 11 = .ok (.iconst 1, 1) := by decide +kernel
theorem dX0_draws_12 : decode cX0_draws 12 = .ok (.isub, 1) := by decide +kernel
theorem dX0_draws_13 : decode cX0_draws 13 = .ok (.istore_n 3, 1) := by decide +kernel
theorem dX0_draws_14 : decode cX0_draws 14 = .ok (.iload_n 3, 1) := by decide +kernel
theorem dX0_draws_15 : decode cX0_draws 15 = .ok (.ifCond .lt 40, 3) := by decide +kernel
theorem dX0_draws_18 : decode cX0_draws 18 = .ok (.aload_n 0, 1) := by decide +kernel
theorem dX0_draws_19 : decode cX0_draws 19 = .ok (.getfield 11, 3) := by decide +kernel
theorem dX0_draws_22 : decode cX0_draws 22 = .ok (.iload_n 3, 1) := by decide +kernel
theorem dX0_draws_23 : decode cX0_draws 23 = .ok (.iaload, 1) := by decide +kernel
theorem dX0_draws_24 : decode cX0_draws 24 = .ok (.aload_n 0, 1) := by decide +kernel
theorem dX0_draws_25 : decode cX0_draws 25 = .ok (.getfield 11, 3) := by decide +kernel
theorem dX0_draws_28 : decode cX0_draws 28 = .ok (.iload_n 3, 1) := by decide +kernel
theorem dX0_draws_29 : decode cX0_draws 29 = .ok (.iaload, 1) := by decide +kernel
theorem dX0_draws_30 : decode cX0_draws 30 = .ok (.imul, 1) := by decide +kernel
theorem dX0_draws_31 : decode cX0_draws 31 = .ok (.iload_n 2, 1) := by decide +kernel
theorem dX0_draws_32 : decode cX0_draws 32 = .ok (.aload_n 1, 1) := by decide +kernel
theorem dX0_draws_33 : decode cX0_draws 33 = .ok (.iload_n 3, 1) := by decide +kernel
theorem dX0_draws_34 : decode cX0_draws 34 = .ok (.invokevirtual 28, 3) := by decide +kernel
theorem dX0_draws_37 : decode cX0_draws 37 = .ok (.iadd, 1) := by decide +kernel
theorem dX0_draws_38 : decode cX0_draws 38 = .ok (.invokestatic 32, 3) := by decide +kernel
theorem dX0_draws_41 : decode cX0_draws 41 = .ok (.istore_n 2, 1) := by decide +kernel
theorem dX0_draws_42 : decode cX0_draws 42 = .ok (.aload_n 0, 1) := by decide +kernel
theorem dX0_draws_43 : decode cX0_draws 43 = .ok (.getfield 17, 3) := by decide +kernel
theorem dX0_draws_46 : decode cX0_draws 46 = .ok (.iload_n 3, 1) := by decide +kernel
theorem dX0_draws_47 : decode cX0_draws 47 = .ok (.iload_n 2, 1) := by decide +kernel
theorem dX0_draws_48 : decode cX0_draws 48 = .ok (.iastore, 1) := by decide +kernel
theorem dX0_draws_49 : decode cX0_draws 49 = .ok (.iinc 3 (-1), 3) := by decide +kernel
theorem dX0_draws_52 : decode cX0_draws 52 = .ok (.goto (-38), 3) := by decide +kernel
theorem dX0_draws_55 : decode cX0_draws 55 = .ok (.return_, 1) := by decide +kernel
theorem dX0_drawsCeilings_0 : decode cX0_drawsCeilings 0 = .ok (.iconst 0, 1) := by decide +kernel
theorem dX0_drawsCeilings_1 : decode cX0_drawsCeilings 1 = .ok (.istore_n 2, 1) := by decide +kernel
theorem dX0_drawsCeilings_2 : decode cX0_drawsCeilings 2 = .ok (.iconst 0, 1) := by decide +kernel
theorem dX0_drawsCeilings_3 : decode cX0_drawsCeilings 3 = .ok (.istore_n 3, 1) := by decide +kernel
theorem dX0_drawsCeilings_4 : decode cX0_drawsCeilings 4 = .ok (.iload_n 3, 1) := by decide +kernel
theorem dX0_drawsCeilings_5 : decode cX0_drawsCeilings 5 = .ok (.aload_n 1, 1) := by decide +kernel
theorem dX0_drawsCeilings_6 : decode cX0_drawsCeilings 6 = .ok (.getfield 24, 3) := by decide +kernel
theorem dX0_drawsCeilings_9 : decode cX0_drawsCeilings 9 = .ok (.if_icmp .ge 74, 3) := by decide +kernel
theorem dX0_drawsCeilings_12 : decode cX0_drawsCeilings 12 = .ok (.iconst 0, 1) := by decide +kernel
theorem dX0_drawsCeilings_13 : decode cX0_drawsCeilings 13 = .ok (.iload_n 3, 1) := by decide +kernel
theorem dX0_drawsCeilings_14 : decode cX0_drawsCeilings 14 = .ok (.aload_n 1, 1) := by decide +kernel
theorem dX0_drawsCeilings_15 : decode cX0_drawsCeilings 15 = .ok (.getfield 38, 3) := by decide +kernel
theorem dX0_drawsCeilings_18 : decode cX0_drawsCeilings 18 = .ok (.iconst 2, 1) := by decide +kernel
theorem dX0_drawsCeilings_19 : decode cX0_drawsCeilings 19 = .ok (.iaload, 1) := by decide +kernel
theorem dX0_drawsCeilings_20 : decode cX0_drawsCeilings 20 = .ok (.isub, 1) := by decide +kernel
theorem dX0_drawsCeilings_21 : decode cX0_drawsCeilings 21 = .ok (.iconst 1, 1) := by decide +kernel
theorem dX0_drawsCeilings_22 : decode cX0_drawsCeilings 22 = .ok (.iadd, 1) := by decide +kernel
theorem dX0_drawsCeilings_23 : decode cX0_drawsCeilings 23 = .ok (.invokestatic 41, 3) := by decide +kernel
theorem dX0_drawsCeilings_26 : decode cX0_drawsCeilings 26 = .ok (.istore 4, 2) := by decide +kernel
theorem dX0_drawsCeilings_28 : decode cX0_drawsCeilings 28 = .ok (.iload_n 2, 1) := by decide +kernel
theorem dX0_drawsCeilings_29 : decode cX0_drawsCeilings 29 = .ok (.iload 4, 2) := by decide +kernel
theorem dX0_drawsCeilings_31 : decode cX0_drawsCeilings 31 = .ok (.if_icmp .ge 17, 3) := by decide +kernel
theorem dX0_drawsCeilings_34 : decode cX0_drawsCeilings 34 = .ok (.aload_n 1, 1) := by decide +kernel
theorem dX0_drawsCeilings_35 : decode cX0_drawsCeilings 35 = .ok (.getfield 44, 3) := by decide +kernel
theorem dX0_drawsCeilings_38 : decode cX0_drawsCeilings 38 = .ok (.iload 4, 2) := by decide +kernel
theorem dX0_drawsCeilings_40 : decode cX0_drawsCeilings 40 = .ok (.iload_n 3, 1) := by decide +kernel
theorem dX0_drawsCeilings_41 : decode cX0_drawsCeilings 41 = .ok (.invokestatic 47, 3) := by decide +kernel
theorem dX0_drawsCeilings_44 : decode cX0_drawsCeilings 44 = .ok (.istore_n 2, 1) := by decide +kernel
theorem dX0_drawsCeilings_45 : decode cX0_drawsCeilings 45 = .ok (.goto 20, 3) := by decide +kernel
theorem dX0_drawsCeilings_48 : decode cX0_drawsCeilings 48 = .ok (.aload_n 1, 1) := by decide +kernel
theorem dX0_drawsCeilings_49 : decode cX0_drawsCeilings 49 = .ok (.getfield 44, 3) := by decide +kernel
theorem dX0_drawsCeilings_52 : decode cX0_drawsCeilings 52 = .ok (.iload_n 3, 1) := by decide +kernel
theorem dX0_drawsCeilings_53 : decode cX0_drawsCeilings 53 = .ok (.iaload, 1) := by decide +kernel
theorem dX0_drawsCeilings_54 : decode cX0_drawsCeilings 54 = .ok (.aload_n 1, 1) := by decide +kernel
theorem dX0_drawsCeilings_55 : decode cX0_drawsCeilings 55 = .ok (.getfield 44, 3) := by decide +kernel
theorem dX0_drawsCeilings_58 : decode cX0_drawsCeilings 58 = .ok (.iload_n 2, 1) := by decide +kernel
theorem dX0_drawsCeilings_59 : decode cX0_drawsCeilings 59 = .ok (.iaload, 1) := by decide +kernel
theorem dX0_drawsCeilings_60 : decode cX0_drawsCeilings 60 = .ok (.if_icmp .gt 5, 3) := by decide +kernel
theorem dX0_drawsCeilings_63 : decode cX0_drawsCeilings 63 = .ok (.iload_n 3, 1) := by decide +kernel
theorem dX0_drawsCeilings_64 : decode cX0_drawsCeilings 64 = .ok (.istore_n 2, 1) := by decide +kernel
theorem dX0_drawsCeilings_65 : decode cX0_drawsCeilings 65 = .ok (.aload_n 0, 1) := by decide +kernel
theorem dX0_drawsCeilings_66 : decode cX0_drawsCeilings 66 = .ok (.getfield 11, 3) := by decide +kernel
theorem dX0_drawsCeilings_69 : decode cX0_drawsCeilings 69 = .ok (.iload_n 3, 1) := by decide +kernel
theorem dX0_drawsCeilings_70 : decode cX0_drawsCeilings 70 = .ok (.aload_n 1, 1) := by decide +kernel
theorem dX0_drawsCeilings_71 : decode cX0_drawsCeilings 71 = .ok (.getfield 44, 3) := by decide +kernel
theorem dX0_drawsCeilings_74 : decode cX0_drawsCeilings 74 = .ok (.iload_n 2, 1) := by decide +kernel
theorem dX0_drawsCeilings_75 : decode cX0_drawsCeilings 75 = .ok (.iaload, 1) := by decide +kernel
theorem dX0_drawsCeilings_76 : decode cX0_drawsCeilings 76 = .ok (.iastore, 1) := by decide +kernel
theorem dX0_drawsCeilings_77 : decode cX0_drawsCeilings 77 = .ok (.iinc 3 1, 3) := by decide +kernel
theorem dX0_drawsCeilings_80 : decode cX0_drawsCeilings 80 = .ok (.goto (-76), 3) := by decide +kernel
theorem dX0_drawsCeilings_83 : decode cX0_drawsCeilings 83 = .ok (.return_, 1) := by decide +kernel
theorem dX0_leastCeiling_0 : decode cX0_leastCeiling 0 = .ok (.iload_n 1, 1) := by decide +kernel
theorem dX0_leastCeiling_1 : decode cX0_leastCeiling 1 = .ok (.istore_n 3, 1) := by decide +kernel
theorem dX0_leastCeiling_2 : decode cX0_leastCeiling 2 = .ok (.iload_n 1, 1) := by decide +kernel
theorem dX0_leastCeiling_3 : decode cX0_leastCeiling 3 = .ok (.iconst 1, 1) := by decide +kernel
theorem dX0_leastCeiling_4 : decode cX0_leastCeiling 4 = .ok (.iadd, 1) := by decide +kernel
theorem dX0_leastCeiling_5 : decode cX0_leastCeiling 5 = .ok (.istore 4, 2) := by decide +kernel
theorem dX0_leastCeiling_7 : decode cX0_leastCeiling 7 = .ok (.iload 4, 2) := by decide +kernel
theorem dX0_leastCeiling_9 : decode cX0_leastCeiling 9 = .ok (.iload_n 2, 1) := by decide +kernel
theorem dX0_leastCeiling_10 : decode cX0_leastCeiling 10 = .ok (.if_icmp .gt 22, 3) := by decide +kernel
theorem dX0_leastCeiling_13 : decode cX0_leastCeiling 13 = .ok (.aload_n 0, 1) := by decide +kernel
theorem dX0_leastCeiling_14 : decode cX0_leastCeiling 14 = .ok (.iload 4, 2) := by decide +kernel
theorem dX0_leastCeiling_16 : decode cX0_leastCeiling 16 = .ok (.iaload, 1) := by decide +kernel
theorem dX0_leastCeiling_17 : decode cX0_leastCeiling 17 = .ok (.aload_n 0, 1) := by decide +kernel
theorem dX0_leastCeiling_18 : decode cX0_leastCeiling 18 = .ok (.iload_n 3, 1) := by decide +kernel
theorem dX0_leastCeiling_19 : decode cX0_leastCeiling 19 = .ok (.iaload, 1) := by decide +kernel
theorem dX0_leastCeiling_20 : decode cX0_leastCeiling 20 = .ok (.if_icmp .gt 6, 3) := by decide +kernel
theorem dX0_leastCeiling_23 : decode cX0_leastCeiling 23 = .ok (.iload 4, 2) := by decide +kernel
theorem dX0_leastCeiling_25 : decode cX0_leastCeiling 25 = .ok (.istore_n 3, 1) := by decide +kernel
theorem dX0_leastCeiling_26 : decode cX0_leastCeiling 26 = .ok (.iinc 4 1, 3) := by decide +kernel
theorem dX0_leastCeiling_29 : decode cX0_leastCeiling 29 = .ok (.goto (-22), 3) := by decide +kernel
theorem dX0_leastCeiling_32 : decode cX0_leastCeiling 32 = .ok (.iload_n 3, 1) := by decide +kernel
theorem dX0_leastCeiling_33 : decode cX0_leastCeiling 33 = .ok (.ireturn, 1) := by decide +kernel
theorem dX0_boundOf_0 : decode cX0_boundOf 0 = .ok (.iconst 0, 1) := by decide +kernel
theorem dX0_boundOf_1 : decode cX0_boundOf 1 = .ok (.istore_n 3, 1) := by decide +kernel
theorem dX0_boundOf_2 : decode cX0_boundOf 2 = .ok (.iload_n 2, 1) := by decide +kernel
theorem dX0_boundOf_3 : decode cX0_boundOf 3 = .ok (.istore 4, 2) := by decide +kernel
theorem dX0_boundOf_5 : decode cX0_boundOf 5 = .ok (.iload 4, 2) := by decide +kernel
theorem dX0_boundOf_7 : decode cX0_boundOf 7 = .ok (.aload_n 1, 1) := by decide +kernel
theorem dX0_boundOf_8 : decode cX0_boundOf 8 = .ok (.getfield 24, 3) := by decide +kernel
theorem dX0_boundOf_11 : decode cX0_boundOf 11 = .ok (.if_icmp .ge 47, 3) := by decide +kernel
theorem dX0_boundOf_14 : decode cX0_boundOf 14 = .ok (.aload_n 0, 1) := by decide +kernel
theorem dX0_boundOf_15 : decode cX0_boundOf 15 = .ok (.getfield 17, 3) := by decide +kernel
theorem dX0_boundOf_18 : decode cX0_boundOf 18 = .ok (.iload_n 2, 1) := by decide +kernel
theorem dX0_boundOf_19 : decode cX0_boundOf 19 = .ok (.iaload, 1) := by decide +kernel
theorem dX0_boundOf_20 : decode cX0_boundOf 20 = .ok (.aload_n 0, 1) := by decide +kernel
theorem dX0_boundOf_21 : decode cX0_boundOf 21 = .ok (.getfield 11, 3) := by decide +kernel
theorem dX0_boundOf_24 : decode cX0_boundOf 24 = .ok (.iload 4, 2) := by decide +kernel
theorem dX0_boundOf_26 : decode cX0_boundOf 26 = .ok (.iaload, 1) := by decide +kernel
theorem dX0_boundOf_27 : decode cX0_boundOf 27 = .ok (.aload_n 0, 1) := by decide +kernel
theorem dX0_boundOf_28 : decode cX0_boundOf 28 = .ok (.getfield 11, 3) := by decide +kernel
theorem dX0_boundOf_31 : decode cX0_boundOf 31 = .ok (.iload 4, 2) := by decide +kernel
theorem dX0_boundOf_33 : decode cX0_boundOf 33 = .ok (.iaload, 1) := by decide +kernel
theorem dX0_boundOf_34 : decode cX0_boundOf 34 = .ok (.imul, 1) := by decide +kernel
theorem dX0_boundOf_35 : decode cX0_boundOf 35 = .ok (.iload_n 3, 1) := by decide +kernel
theorem dX0_boundOf_36 : decode cX0_boundOf 36 = .ok (.iadd, 1) := by decide +kernel
theorem dX0_boundOf_37 : decode cX0_boundOf 37 = .ok (.if_icmp .ne 6, 3) := by decide +kernel
theorem dX0_boundOf_40 : decode cX0_boundOf 40 = .ok (.iload 4, 2) := by decide +kernel
theorem dX0_boundOf_42 : decode cX0_boundOf 42 = .ok (.ireturn, 1) := by decide +kernel
theorem dX0_boundOf_43 : decode cX0_boundOf 43 = .ok (.iload_n 3, 1) := by decide +kernel
theorem dX0_boundOf_44 : decode cX0_boundOf 44 = .ok (.aload_n 1, 1) := by decide +kernel
theorem dX0_boundOf_45 : decode cX0_boundOf 45 = .ok (.iload 4, 2) := by decide +kernel
theorem dX0_boundOf_47 : decode cX0_boundOf 47 = .ok (.invokevirtual 28, 3) := by decide +kernel
theorem dX0_boundOf_50 : decode cX0_boundOf 50 = .ok (.iadd, 1) := by decide +kernel
theorem dX0_boundOf_51 : decode cX0_boundOf 51 = .ok (.istore_n 3, 1) := by decide +kernel
theorem dX0_boundOf_52 : decode cX0_boundOf 52 = .ok (.iinc 4 1, 3) := by decide +kernel
theorem dX0_boundOf_55 : decode cX0_boundOf 55 = .ok (.goto (-50), 3) := by decide +kernel
theorem dX0_boundOf_58 : decode cX0_boundOf 58 = .ok (.aload_n 1, 1) := by decide +kernel
theorem dX0_boundOf_59 : decode cX0_boundOf 59 = .ok (.getfield 24, 3) := by decide +kernel
theorem dX0_boundOf_62 : decode cX0_boundOf 62 = .ok (.ireturn, 1) := by decide +kernel
theorem dX0_leastSquare_0 : decode cX0_leastSquare 0 = .ok (.aload_n 0, 1) := by decide +kernel
theorem dX0_leastSquare_1 : decode cX0_leastSquare 1 = .ok (.getfield 17, 3) := by decide +kernel
theorem dX0_leastSquare_4 : decode cX0_leastSquare 4 = .ok (.iload_n 1, 1) := by decide +kernel
theorem dX0_leastSquare_5 : decode cX0_leastSquare 5 = .ok (.iaload, 1) := by decide +kernel
theorem dX0_leastSquare_6 : decode cX0_leastSquare 6 = .ok (.istore_n 3, 1) := by decide +kernel
theorem dX0_leastSquare_7 : decode cX0_leastSquare 7 = .ok (.iload_n 1, 1) := by decide +kernel
theorem dX0_leastSquare_8 : decode cX0_leastSquare 8 = .ok (.iconst 1, 1) := by decide +kernel
theorem dX0_leastSquare_9 : decode cX0_leastSquare 9 = .ok (.iadd, 1) := by decide +kernel
theorem dX0_leastSquare_10 : decode cX0_leastSquare 10 = .ok (.istore 4, 2) := by decide +kernel
theorem dX0_leastSquare_12 : decode cX0_leastSquare 12 = .ok (.iload 4, 2) := by decide +kernel
theorem dX0_leastSquare_14 : decode cX0_leastSquare 14 = .ok (.iload_n 2, 1) := by decide +kernel
theorem dX0_leastSquare_15 : decode cX0_leastSquare 15 = .ok (.if_icmp .gt 21, 3) := by decide +kernel
theorem dX0_leastSquare_18 : decode cX0_leastSquare 18 = .ok (.iload_n 3, 1) := by decide +kernel
theorem dX0_leastSquare_19 : decode cX0_leastSquare 19 = .ok (.aload_n 0, 1) := by decide +kernel
theorem dX0_leastSquare_20 : decode cX0_leastSquare 20 = .ok (.getfield 17, 3) := by decide +kernel
theorem dX0_leastSquare_23 : decode cX0_leastSquare 23 = .ok (.iload 4, 2) := by decide +kernel
theorem dX0_leastSquare_25 : decode cX0_leastSquare 25 = .ok (.iaload, 1) := by decide +kernel
theorem dX0_leastSquare_26 : decode cX0_leastSquare 26 = .ok (.invokestatic 32, 3) := by decide +kernel
theorem dX0_leastSquare_29 : decode cX0_leastSquare 29 = .ok (.istore_n 3, 1) := by decide +kernel
theorem dX0_leastSquare_30 : decode cX0_leastSquare 30 = .ok (.iinc 4 1, 3) := by decide +kernel
theorem dX0_leastSquare_33 : decode cX0_leastSquare 33 = .ok (.goto (-21), 3) := by decide +kernel
theorem dX0_leastSquare_36 : decode cX0_leastSquare 36 = .ok (.iload_n 3, 1) := by decide +kernel
theorem dX0_leastSquare_37 : decode cX0_leastSquare 37 = .ok (.ireturn, 1) := by decide +kernel
theorem dX1_init_0 : decode cX1_init 0 = .ok (.aload_n 0, 1) := by decide +kernel
theorem dX1_init_1 : decode cX1_init 1 = .ok (.invokespecial 3, 3) := by decide +kernel
theorem dX1_init_4 : decode cX1_init 4 = .ok (.aload_n 0, 1) := by decide +kernel
theorem dX1_init_5 : decode cX1_init 5 = .ok (.bipush 7, 2) := by decide +kernel
theorem dX1_init_7 : decode cX1_init 7 = .ok (.anewarray 9, 3) := by decide +kernel
theorem dX1_init_10 : decode cX1_init 10 = .ok (.putfield 11, 3) := by decide +kernel
theorem dX1_init_13 : decode cX1_init 13 = .ok (.iconst 0, 1) := by decide +kernel
theorem dX1_init_14 : decode cX1_init 14 = .ok (.istore_n 1, 1) := by decide +kernel
theorem dX1_init_15 : decode cX1_init 15 = .ok (.iload_n 1, 1) := by decide +kernel
theorem dX1_init_16 : decode cX1_init 16 = .ok (.bipush 7, 2) := by decide +kernel
theorem dX1_init_18 : decode cX1_init 18 = .ok (.if_icmp .ge 22, 3) := by decide +kernel
theorem dX1_init_21 : decode cX1_init 21 = .ok (.aload_n 0, 1) := by decide +kernel
theorem dX1_init_22 : decode cX1_init 22 = .ok (.getfield 11, 3) := by decide +kernel
theorem dX1_init_25 : decode cX1_init 25 = .ok (.iload_n 1, 1) := by decide +kernel
theorem dX1_init_26 : decode cX1_init 26 = .ok (.new 9, 3) := by decide +kernel
theorem dX1_init_29 : decode cX1_init 29 = .ok (.dup, 1) := by decide +kernel
theorem dX1_init_30 : decode cX1_init 30 = .ok (.invokespecial 15, 3) := by decide +kernel
theorem dX1_init_33 : decode cX1_init 33 = .ok (.aastore, 1) := by decide +kernel
theorem dX1_init_34 : decode cX1_init 34 = .ok (.iinc 1 1, 3) := by decide +kernel
theorem dX1_init_37 : decode cX1_init 37 = .ok (.goto (-22), 3) := by decide +kernel
theorem dX1_init_40 : decode cX1_init 40 = .ok (.return_, 1) := by decide +kernel
theorem dX1_notes_0 : decode cX1_notes 0 = .ok (.aload_n 0, 1) := by decide +kernel
theorem dX1_notes_1 : decode cX1_notes 1 = .ok (.getfield 11, 3) := by decide +kernel
theorem dX1_notes_4 : decode cX1_notes 4 = .ok (.aload_n 0, 1) := by decide +kernel
theorem dX1_notes_5 : decode cX1_notes 5 = .ok (.getfield 16, 3) := by decide +kernel
theorem dX1_notes_8 : decode cX1_notes 8 = .ok (.aaload, 1) := by decide +kernel
theorem dX1_notes_9 : decode cX1_notes 9 = .ok (.aload_n 1, 1) := by decide +kernel
theorem dX1_notes_10 : decode cX1_notes 10 = .ok (.invokevirtual 20, 3) := by decide +kernel
theorem dX1_notes_13 : decode cX1_notes 13 = .ok (.return_, 1) := by decide +kernel
theorem dX1_noted_0 : decode cX1_noted 0 = .ok (.aload_n 0, 1) := by decide +kernel
theorem dX1_noted_1 : decode cX1_noted 1 = .ok (.getfield 11, 3) := by decide +kernel
theorem dX1_noted_4 : decode cX1_noted 4 = .ok (.aload_n 0, 1) := by decide +kernel
theorem dX1_noted_5 : decode cX1_noted 5 = .ok (.getfield 16, 3) := by decide +kernel
theorem dX1_noted_8 : decode cX1_noted 8 = .ok (.aaload, 1) := by decide +kernel
theorem dX1_noted_9 : decode cX1_noted 9 = .ok (.areturn, 1) := by decide +kernel
theorem dX1_keeps_0 : decode cX1_keeps 0 = .ok (.aload_n 0, 1) := by decide +kernel
theorem dX1_keeps_1 : decode cX1_keeps 1 = .ok (.aload_n 0, 1) := by decide +kernel
theorem dX1_keeps_2 : decode cX1_keeps 2 = .ok (.getfield 16, 3) := by decide +kernel
theorem dX1_keeps_5 : decode cX1_keeps 5 = .ok (.iconst 1, 1) := by decide +kernel
theorem dX1_keeps_6 : decode cX1_keeps 6 = .ok (.iadd, 1) := by decide +kernel
theorem dX1_keeps_7 : decode cX1_keeps 7 = .ok (.bipush 7, 2) := by decide +kernel
theorem dX1_keeps_9 : decode cX1_keeps 9 = .ok (.irem, 1) := by decide +kernel
theorem dX1_keeps_10 : decode cX1_keeps 10 = .ok (.putfield 16, 3) := by decide +kernel
theorem dX1_keeps_13 : decode cX1_keeps 13 = .ok (.aload_n 0, 1) := by decide +kernel
theorem dX1_keeps_14 : decode cX1_keeps 14 = .ok (.bipush 6, 2) := by decide +kernel
theorem dX1_keeps_16 : decode cX1_keeps 16 = .ok (.aload_n 0, 1) := by decide +kernel
theorem dX1_keeps_17 : decode cX1_keeps 17 = .ok (.getfield 24, 3) := by decide +kernel
theorem dX1_keeps_20 : decode cX1_keeps 20 = .ok (.iconst 1, 1) := by decide +kernel
theorem dX1_keeps_21 : decode cX1_keeps 21 = .ok (.iadd, 1) := by decide +kernel
theorem dX1_keeps_22 : decode cX1_keeps 22 = .ok (.invokestatic 27, 3) := by decide +kernel
theorem dX1_keeps_25 : decode cX1_keeps 25 = .ok (.putfield 24, 3) := by decide +kernel
theorem dX1_keeps_28 : decode cX1_keeps 28 = .ok (.return_, 1) := by decide +kernel
theorem dX1_takes_0 : decode cX1_takes 0 = .ok (.aload_n 0, 1) := by decide +kernel
theorem dX1_takes_1 : decode cX1_takes 1 = .ok (.aload_n 0, 1) := by decide +kernel
theorem dX1_takes_2 : decode cX1_takes 2 = .ok (.getfield 16, 3) := by decide +kernel
theorem dX1_takes_5 : decode cX1_takes 5 = .ok (.bipush 7, 2) := by decide +kernel
theorem dX1_takes_7 : decode cX1_takes 7 = .ok (.iadd, 1) := by decide +kernel
theorem dX1_takes_8 : decode cX1_takes 8 = .ok (.iconst 1, 1) := by decide +kernel
theorem dX1_takes_9 : decode cX1_takes 9 = .ok (.isub, 1) := by decide +kernel
theorem dX1_takes_10 : decode cX1_takes 10 = .ok (.bipush 7, 2) := by decide +kernel
theorem dX1_takes_12 : decode cX1_takes 12 = .ok (.irem, 1) := by decide +kernel
theorem dX1_takes_13 : decode cX1_takes 13 = .ok (.putfield 16, 3) := by decide +kernel
theorem dX1_takes_16 : decode cX1_takes 16 = .ok (.aload_n 0, 1) := by decide +kernel
theorem dX1_takes_17 : decode cX1_takes 17 = .ok (.dup, 1) := by decide +kernel
theorem dX1_takes_18 : decode cX1_takes 18 = .ok (.getfield 24, 3) := by decide +kernel
theorem dX1_takes_21 : decode cX1_takes 21 = .ok (.iconst 1, 1) := by decide +kernel
theorem dX1_takes_22 : decode cX1_takes 22 = .ok (.isub, 1) := by decide +kernel
theorem dX1_takes_23 : decode cX1_takes 23 = .ok (.putfield 24, 3) := by decide +kernel
theorem dX1_takes_26 : decode cX1_takes 26 = .ok (.aload_n 0, 1) := by decide +kernel
theorem dX1_takes_27 : decode cX1_takes 27 = .ok (.getfield 11, 3) := by decide +kernel
theorem dX1_takes_30 : decode cX1_takes 30 = .ok (.aload_n 0, 1) := by decide +kernel
theorem dX1_takes_31 : decode cX1_takes 31 = .ok (.getfield 16, 3) := by decide +kernel
theorem dX1_takes_34 : decode cX1_takes 34 = .ok (.aaload, 1) := by decide +kernel
theorem dX1_takes_35 : decode cX1_takes 35 = .ok (.areturn, 1) := by decide +kernel
theorem dX2_init_0 : decode cX2_init 0 = .ok (.aload_n 0, 1) := by decide +kernel
theorem dX2_init_1 : decode cX2_init 1 = .ok (.invokespecial 3, 3) := by decide +kernel
theorem dX2_init_4 : decode cX2_init 4 = .ok (.aload_n 0, 1) := by decide +kernel
theorem dX2_init_5 : decode cX2_init 5 = .ok (.new 9, 3) := by decide +kernel
theorem dX2_init_8 : decode cX2_init 8 = .ok (.dup, 1) := by decide +kernel
theorem dX2_init_9 : decode cX2_init 9 = .ok (.invokespecial 11, 3) := by decide +kernel
theorem dX2_init_12 : decode cX2_init 12 = .ok (.putfield 12, 3) := by decide +kernel
theorem dX2_init_15 : decode cX2_init 15 = .ok (.aload_n 0, 1) := by decide +kernel
theorem dX2_init_16 : decode cX2_init 16 = .ok (.aload_n 0, 1) := by decide +kernel
theorem dX2_init_17 : decode cX2_init 17 = .ok (.getfield 12, 3) := by decide +kernel
theorem dX2_init_20 : decode cX2_init 20 = .ok (.getfield 18, 3) := by decide +kernel
theorem dX2_init_23 : decode cX2_init 23 = .ok (.putfield 22, 3) := by decide +kernel
theorem dX2_init_26 : decode cX2_init 26 = .ok (.aload_n 0, 1) := by decide +kernel
theorem dX2_init_27 : decode cX2_init 27 = .ok (.aload_n 0, 1) := by decide +kernel
theorem dX2_init_28 : decode cX2_init 28 = .ok (.getfield 12, 3) := by decide +kernel
theorem dX2_init_31 : decode cX2_init 31 = .ok (.getfield 23, 3) := by decide +kernel
theorem dX2_init_34 : decode cX2_init 34 = .ok (.putfield 27, 3) := by decide +kernel
theorem dX2_init_37 : decode cX2_init 37 = .ok (.aload_n 0, 1) := by decide +kernel
theorem dX2_init_38 : decode cX2_init 38 = .ok (.new 28, 3) := by decide +kernel
theorem dX2_init_41 : decode cX2_init 41 = .ok (.dup, 1) := by decide +kernel
theorem dX2_init_42 : decode cX2_init 42 = .ok (.invokespecial 30, 3) := by decide +kernel
theorem dX2_init_45 : decode cX2_init 45 = .ok (.putfield 31, 3) := by decide +kernel
theorem dX2_init_48 : decode cX2_init 48 = .ok (.aload_n 0, 1) := by decide +kernel
theorem dX2_init_49 : decode cX2_init 49 = .ok (.invokevirtual 35, 3) := by decide +kernel
theorem dX2_init_52 : decode cX2_init 52 = .ok (.return_, 1) := by decide +kernel
theorem dX2_redraws_0 : decode cX2_redraws 0 = .ok (.aload_n 0, 1) := by decide +kernel
theorem dX2_redraws_1 : decode cX2_redraws 1 = .ok (.getfield 31, 3) := by decide +kernel
theorem dX2_redraws_4 : decode cX2_redraws 4 = .ok (.aload_n 0, 1) := by decide +kernel
theorem dX2_redraws_5 : decode cX2_redraws 5 = .ok (.getfield 22, 3) := by decide +kernel
theorem dX2_redraws_8 : decode cX2_redraws 8 = .ok (.invokevirtual 38, 3) := by decide +kernel
theorem dX2_redraws_11 : decode cX2_redraws 11 = .ok (.return_, 1) := by decide +kernel
theorem dX2_resizes_0 : decode cX2_resizes 0 = .ok (.aload_n 0, 1) := by decide +kernel
theorem dX2_resizes_1 : decode cX2_resizes 1 = .ok (.getfield 22, 3) := by decide +kernel
theorem dX2_resizes_4 : decode cX2_resizes 4 = .ok (.iload_n 1, 1) := by decide +kernel
theorem dX2_resizes_5 : decode cX2_resizes 5 = .ok (.invokevirtual 42, 3) := by decide +kernel
theorem dX2_resizes_8 : decode cX2_resizes 8 = .ok (.istore_n 2, 1) := by decide +kernel
theorem dX2_resizes_9 : decode cX2_resizes 9 = .ok (.iload_n 2, 1) := by decide +kernel
theorem dX2_resizes_10 : decode cX2_resizes 10 = .ok (.bipush (-2), 2) := by decide +kernel
theorem dX2_resizes_12 : decode cX2_resizes 12 = .ok (.if_icmp .eq 12, 3) := by decide +kernel
theorem dX2_resizes_15 : decode cX2_resizes 15 = .ok (.aload_n 0, 1) := by decide +kernel
theorem dX2_resizes_16 : decode cX2_resizes 16 = .ok (.getfield 27, 3) := by decide +kernel
theorem dX2_resizes_19 : decode cX2_resizes 19 = .ok (.iconst 0, 1) := by decide +kernel
theorem dX2_resizes_20 : decode cX2_resizes 20 = .ok (.iconst 0, 1) := by decide +kernel
theorem dX2_resizes_21 : decode cX2_resizes 21 = .ok (.invokevirtual 48, 3) := by decide +kernel
theorem dX2_resizes_24 : decode cX2_resizes 24 = .ok (.iload_n 2, 1) := by decide +kernel
theorem dX2_resizes_25 : decode cX2_resizes 25 = .ok (.ireturn, 1) := by decide +kernel
theorem dX2_cellValue_0 : decode cX2_cellValue 0 = .ok (.aload_n 0, 1) := by decide +kernel
theorem dX2_cellValue_1 : decode cX2_cellValue 1 = .ok (.getfield 22, 3) := by decide +kernel
theorem dX2_cellValue_4 : decode cX2_cellValue 4 = .ok (.iload_n 1, 1) := by decide +kernel
theorem dX2_cellValue_5 : decode cX2_cellValue 5 = .ok (.invokevirtual 54, 3) := by decide +kernel
theorem dX2_cellValue_8 : decode cX2_cellValue 8 = .ok (.ifCond .ne 6, 3) := by decide +kernel
theorem dX2_cellValue_11 : decode cX2_cellValue 11 = .ok (.bipush (-2), 2) := by decide +kernel
theorem dX2_cellValue_13 : decode cX2_cellValue 13 = .ok (.ireturn, 1) := by decide +kernel
theorem dX2_cellValue_14 : decode cX2_cellValue 14 = .ok (.iload_n 2, 1) := by decide +kernel
theorem dX2_cellValue_15 : decode cX2_cellValue 15 = .ok (.tableswitch 85 0 4 #[33, 43, 56, 66, 75], 33) := by decide +kernel
theorem dX2_cellValue_48 : decode cX2_cellValue 48 = .ok (.aload_n 0, 1) := by decide +kernel
theorem dX2_cellValue_49 : decode cX2_cellValue 49 = .ok (.getfield 22, 3) := by decide +kernel
theorem dX2_cellValue_52 : decode cX2_cellValue 52 = .ok (.getfield 58, 3) := by decide +kernel
theorem dX2_cellValue_55 : decode cX2_cellValue 55 = .ok (.iload_n 1, 1) := by decide +kernel
theorem dX2_cellValue_56 : decode cX2_cellValue 56 = .ok (.iaload, 1) := by decide +kernel
theorem dX2_cellValue_57 : decode cX2_cellValue 57 = .ok (.ireturn, 1) := by decide +kernel
theorem dX2_cellValue_58 : decode cX2_cellValue 58 = .ok (.aload_n 0, 1) := by decide +kernel
theorem dX2_cellValue_59 : decode cX2_cellValue 59 = .ok (.getfield 22, 3) := by decide +kernel
theorem dX2_cellValue_62 : decode cX2_cellValue 62 = .ok (.getfield 62, 3) := by decide +kernel
theorem dX2_cellValue_65 : decode cX2_cellValue 65 = .ok (.iload_n 1, 1) := by decide +kernel
theorem dX2_cellValue_66 : decode cX2_cellValue 66 = .ok (.iaload, 1) := by decide +kernel
theorem dX2_cellValue_67 : decode cX2_cellValue 67 = .ok (.bipush 20, 2) := by decide +kernel
theorem dX2_cellValue_69 : decode cX2_cellValue 69 = .ok (.iadd, 1) := by decide +kernel
theorem dX2_cellValue_70 : decode cX2_cellValue 70 = .ok (.ireturn, 1) := by decide +kernel
theorem dX2_cellValue_71 : decode cX2_cellValue 71 = .ok (.aload_n 0, 1) := by decide +kernel
theorem dX2_cellValue_72 : decode cX2_cellValue 72 = .ok (.getfield 22, 3) := by decide +kernel
theorem dX2_cellValue_75 : decode cX2_cellValue 75 = .ok (.getfield 65, 3) := by decide +kernel
theorem dX2_cellValue_78 : decode cX2_cellValue 78 = .ok (.iload_n 1, 1) := by decide +kernel
theorem dX2_cellValue_79 : decode cX2_cellValue 79 = .ok (.iaload, 1) := by decide +kernel
theorem dX2_cellValue_80 : decode cX2_cellValue 80 = .ok (.ireturn, 1) := by decide +kernel
theorem dX2_cellValue_81 : decode cX2_cellValue 81 = .ok (.aload_n 0, 1) := by decide +kernel
theorem dX2_cellValue_82 : decode cX2_cellValue 82 = .ok (.getfield 22, 3) := by decide +kernel
theorem dX2_cellValue_85 : decode cX2_cellValue 85 = .ok (.iload_n 1, 1) := by decide +kernel
theorem dX2_cellValue_86 : decode cX2_cellValue 86 = .ok (.invokevirtual 68, 3) := by decide +kernel
theorem dX2_cellValue_89 : decode cX2_cellValue 89 = .ok (.ireturn, 1) := by decide +kernel
theorem dX2_cellValue_90 : decode cX2_cellValue 90 = .ok (.aload_n 0, 1) := by decide +kernel
theorem dX2_cellValue_91 : decode cX2_cellValue 91 = .ok (.getfield 31, 3) := by decide +kernel
theorem dX2_cellValue_94 : decode cX2_cellValue 94 = .ok (.getfield 71, 3) := by decide +kernel
theorem dX2_cellValue_97 : decode cX2_cellValue 97 = .ok (.iload_n 1, 1) := by decide +kernel
theorem dX2_cellValue_98 : decode cX2_cellValue 98 = .ok (.iaload, 1) := by decide +kernel
theorem dX2_cellValue_99 : decode cX2_cellValue 99 = .ok (.ireturn, 1) := by decide +kernel
theorem dX2_cellValue_100 : decode cX2_cellValue 100 = .ok (.bipush (-2), 2) := by decide +kernel
theorem dX2_cellValue_102 : decode cX2_cellValue 102 = .ok (.ireturn, 1) := by decide +kernel
theorem dX2_countPermitted_0 : decode cX2_countPermitted 0 = .ok (.iconst 0, 1) := by decide +kernel
theorem dX2_countPermitted_1 : decode cX2_countPermitted 1 = .ok (.istore_n 2, 1) := by decide +kernel
theorem dX2_countPermitted_2 : decode cX2_countPermitted 2 = .ok (.iconst 0, 1) := by decide +kernel
theorem dX2_countPermitted_3 : decode cX2_countPermitted 3 = .ok (.istore_n 3, 1) := by decide +kernel
theorem dX2_countPermitted_4 : decode cX2_countPermitted 4 = .ok (.iload_n 3, 1) := by decide +kernel
theorem dX2_countPermitted_5 : decode cX2_countPermitted 5 = .ok (.aload_n 0, 1) := by decide +kernel
theorem dX2_countPermitted_6 : decode cX2_countPermitted 6 = .ok (.getfield 22, 3) := by decide +kernel
theorem dX2_countPermitted_9 : decode cX2_countPermitted 9 = .ok (.getfield 74, 3) := by decide +kernel
theorem dX2_countPermitted_12 : decode cX2_countPermitted 12 = .ok (.if_icmp .ge 28, 3) := by decide +kernel
theorem dX2_countPermitted_15 : decode cX2_countPermitted 15 = .ok (.aload_n 0, 1) := by decide +kernel
theorem dX2_countPermitted_16 : decode cX2_countPermitted 16 = .ok (.getfield 31, 3) := by decide +kernel
theorem dX2_countPermitted_19 : decode cX2_countPermitted 19 = .ok (.getfield 78, 3) := by decide +kernel
theorem dX2_countPermitted_22 : decode cX2_countPermitted 22 = .ok (.iload_n 3, 1) := by decide +kernel
theorem dX2_countPermitted_23 : decode cX2_countPermitted 23 = .ok (.iaload, 1) := by decide +kernel
theorem dX2_countPermitted_24 : decode cX2_countPermitted 24 = .ok (.invokestatic 81, 3) := by decide +kernel
theorem dX2_countPermitted_27 : decode cX2_countPermitted 27 = .ok (.iload_n 1, 1) := by decide +kernel
theorem dX2_countPermitted_28 : decode cX2_countPermitted 28 = .ok (.if_icmp .ne 6, 3) := by decide +kernel
theorem dX2_countPermitted_31 : decode cX2_countPermitted 31 = .ok (.iinc 2 1, 3) := by decide +kernel
theorem dX2_countPermitted_34 : decode cX2_countPermitted 34 = .ok (.iinc 3 1, 3) := by decide +kernel
theorem dX2_countPermitted_37 : decode cX2_countPermitted 37 = .ok (.goto (-33), 3) := by decide +kernel
theorem dX2_countPermitted_40 : decode cX2_countPermitted 40 = .ok (.iload_n 2, 1) := by decide +kernel
theorem dX2_countPermitted_41 : decode cX2_countPermitted 41 = .ok (.ireturn, 1) := by decide +kernel
theorem dX2_putsTrain_0 : decode cX2_putsTrain 0 = .ok (.aload_n 0, 1) := by decide +kernel
theorem dX2_putsTrain_1 : decode cX2_putsTrain 1 = .ok (.getfield 22, 3) := by decide +kernel
theorem dX2_putsTrain_4 : decode cX2_putsTrain 4 = .ok (.iload_n 1, 1) := by decide +kernel
theorem dX2_putsTrain_5 : decode cX2_putsTrain 5 = .ok (.invokevirtual 54, 3) := by decide +kernel
theorem dX2_putsTrain_8 : decode cX2_putsTrain 8 = .ok (.ifCond .eq 13, 3) := by decide +kernel
theorem dX2_putsTrain_11 : decode cX2_putsTrain 11 = .ok (.iload_n 2, 1) := by decide +kernel
theorem dX2_putsTrain_12 : decode cX2_putsTrain 12 = .ok (.iconst 0, 1) := by decide +kernel
theorem dX2_putsTrain_13 : decode cX2_putsTrain 13 = .ok (.bipush 99, 2) := by decide +kernel
theorem dX2_putsTrain_15 : decode cX2_putsTrain 15 = .ok (.invokestatic 84, 3) := by decide +kernel
theorem dX2_putsTrain_18 : decode cX2_putsTrain 18 = .ok (.ifCond .ne 6, 3) := by decide +kernel
theorem dX2_putsTrain_21 : decode cX2_putsTrain 21 = .ok (.bipush (-2), 2) := by decide +kernel
theorem dX2_putsTrain_23 : decode cX2_putsTrain 23 = .ok (.ireturn, 1) := by decide +kernel
theorem dX2_putsTrain_24 : decode cX2_putsTrain 24 = .ok (.aload_n 0, 1) := by decide +kernel
theorem dX2_putsTrain_25 : decode cX2_putsTrain 25 = .ok (.getfield 27, 3) := by decide +kernel
theorem dX2_putsTrain_28 : decode cX2_putsTrain 28 = .ok (.iload_n 1, 1) := by decide +kernel
theorem dX2_putsTrain_29 : decode cX2_putsTrain 29 = .ok (.iload_n 2, 1) := by decide +kernel
theorem dX2_putsTrain_30 : decode cX2_putsTrain 30 = .ok (.iload_n 2, 1) := by decide +kernel
theorem dX2_putsTrain_31 : decode cX2_putsTrain 31 = .ok (.imul, 1) := by decide +kernel
theorem dX2_putsTrain_32 : decode cX2_putsTrain 32 = .ok (.invokevirtual 48, 3) := by decide +kernel
theorem dX2_putsTrain_35 : decode cX2_putsTrain 35 = .ok (.aload_n 0, 1) := by decide +kernel
theorem dX2_putsTrain_36 : decode cX2_putsTrain 36 = .ok (.invokevirtual 88, 3) := by decide +kernel
theorem dX2_putsTrain_39 : decode cX2_putsTrain 39 = .ok (.aload_n 0, 1) := by decide +kernel
theorem dX2_putsTrain_40 : decode cX2_putsTrain 40 = .ok (.getfield 27, 3) := by decide +kernel
theorem dX2_putsTrain_43 : decode cX2_putsTrain 43 = .ok (.getfield 91, 3) := by decide +kernel
theorem dX2_putsTrain_46 : decode cX2_putsTrain 46 = .ok (.ireturn, 1) := by decide +kernel
theorem dX2_stepsOnce_0 : decode cX2_stepsOnce 0 = .ok (.iload_n 1, 1) := by decide +kernel
theorem dX2_stepsOnce_1 : decode cX2_stepsOnce 1 = .ok (.iconst (-1), 1) := by decide +kernel
theorem dX2_stepsOnce_2 : decode cX2_stepsOnce 2 = .ok (.iconst 1, 1) := by decide +kernel
theorem dX2_stepsOnce_3 : decode cX2_stepsOnce 3 = .ok (.invokestatic 84, 3) := by decide +kernel
theorem dX2_stepsOnce_6 : decode cX2_stepsOnce 6 = .ok (.ifCond .ne 6, 3) := by decide +kernel
theorem dX2_stepsOnce_9 : decode cX2_stepsOnce 9 = .ok (.bipush (-2), 2) := by decide +kernel
theorem dX2_stepsOnce_11 : decode cX2_stepsOnce 11 = .ok (.ireturn, 1) := by decide +kernel
theorem dX2_stepsOnce_12 : decode cX2_stepsOnce 12 = .ok (.aload_n 0, 1) := by decide +kernel
theorem dX2_stepsOnce_13 : decode cX2_stepsOnce 13 = .ok (.iload_n 1, 1) := by decide +kernel
theorem dX2_stepsOnce_14 : decode cX2_stepsOnce 14 = .ok (.invokevirtual 94, 3) := by decide +kernel
theorem dX2_stepsOnce_17 : decode cX2_stepsOnce 17 = .ok (.ifCond .eq 7, 3) := by decide +kernel
theorem dX2_stepsOnce_20 : decode cX2_stepsOnce 20 = .ok (.iconst 1, 1) := by decide +kernel
theorem dX2_stepsOnce_21 : decode cX2_stepsOnce 21 = .ok (.goto 4, 3) := by decide +kernel
theorem dX2_stepsOnce_24 : decode cX2_stepsOnce 24 = .ok (.iconst 0, 1) := by decide +kernel
theorem dX2_stepsOnce_25 : decode cX2_stepsOnce 25 = .ok (.ireturn, 1) := by decide +kernel
theorem dX2_stepsByDriver_0 : decode cX2_stepsByDriver 0 = .ok (.iload_n 1, 1) := by decide +kernel
theorem dX2_stepsByDriver_1 : decode cX2_stepsByDriver 1 = .ok (.iconst 1, 1) := by decide +kernel
theorem dX2_stepsByDriver_2 : decode cX2_stepsByDriver 2 = .ok (.bipush 50, 2) := by decide +kernel
theorem dX2_stepsByDriver_4 : decode cX2_stepsByDriver 4 = .ok (.invokestatic 84, 3) := by decide +kernel
theorem dX2_stepsByDriver_7 : decode cX2_stepsByDriver 7 = .ok (.ifCond .ne 6, 3) := by decide +kernel
theorem dX2_stepsByDriver_10 : decode cX2_stepsByDriver 10 = .ok (.bipush (-2), 2) := by decide +kernel
theorem dX2_stepsByDriver_12 : decode cX2_stepsByDriver 12 = .ok (.ireturn, 1) := by decide +kernel
theorem dX2_stepsByDriver_13 : decode cX2_stepsByDriver 13 = .ok (.iconst 0, 1) := by decide +kernel
theorem dX2_stepsByDriver_14 : decode cX2_stepsByDriver 14 = .ok (.istore_n 2, 1) := by decide +kernel
theorem dX2_stepsByDriver_15 : decode cX2_stepsByDriver 15 = .ok (.iload_n 2, 1) := by decide +kernel
theorem dX2_stepsByDriver_16 : decode cX2_stepsByDriver 16 = .ok (.iload_n 1, 1) := by decide +kernel
theorem dX2_stepsByDriver_17 : decode cX2_stepsByDriver 17 = .ok (.if_icmp .ge 20, 3) := by decide +kernel
theorem dX2_stepsByDriver_20 : decode cX2_stepsByDriver 20 = .ok (.aload_n 0, 1) := by decide +kernel
theorem dX2_stepsByDriver_21 : decode cX2_stepsByDriver 21 = .ok (.aload_n 0, 1) := by decide +kernel
theorem dX2_stepsByDriver_22 : decode cX2_stepsByDriver 22 = .ok (.invokevirtual 97, 3) := by decide +kernel
theorem dX2_stepsByDriver_25 : decode cX2_stepsByDriver 25 = .ok (.invokevirtual 94, 3) := by decide +kernel
theorem dX2_stepsByDriver_28 : decode cX2_stepsByDriver 28 = .ok (.ifCond .eq 9, 3) := by decide +kernel
theorem dX2_stepsByDriver_31 : decode cX2_stepsByDriver 31 = .ok (.iinc 2 1, 3) := by decide +kernel
theorem dX2_stepsByDriver_34 : decode cX2_stepsByDriver 34 = .ok (.goto (-19), 3) := by decide +kernel
theorem dX2_stepsByDriver_37 : decode cX2_stepsByDriver 37 = .ok (.iload_n 2, 1) := by decide +kernel
theorem dX2_stepsByDriver_38 : decode cX2_stepsByDriver 38 = .ok (.ireturn, 1) := by decide +kernel
theorem dX2_releases_0 : decode cX2_releases 0 = .ok (.aload_n 0, 1) := by decide +kernel
theorem dX2_releases_1 : decode cX2_releases 1 = .ok (.getfield 27, 3) := by decide +kernel
theorem dX2_releases_4 : decode cX2_releases 4 = .ok (.getfield 91, 3) := by decide +kernel
theorem dX2_releases_7 : decode cX2_releases 7 = .ok (.iconst 3, 1) := by decide +kernel
theorem dX2_releases_8 : decode cX2_releases 8 = .ok (.if_icmp .ne 13, 3) := by decide +kernel
theorem dX2_releases_11 : decode cX2_releases 11 = .ok (.aload_n 0, 1) := by decide +kernel
theorem dX2_releases_12 : decode cX2_releases 12 = .ok (.getfield 27, 3) := by decide +kernel
theorem dX2_releases_15 : decode cX2_releases 15 = .ok (.getfield 101, 3) := by decide +kernel
theorem dX2_releases_18 : decode cX2_releases 18 = .ok (.ifCond .eq 6, 3) := by decide +kernel
theorem dX2_releases_21 : decode cX2_releases 21 = .ok (.bipush (-3), 2) := by decide +kernel
theorem dX2_releases_23 : decode cX2_releases 23 = .ok (.ireturn, 1) := by decide +kernel
theorem dX2_releases_24 : decode cX2_releases 24 = .ok (.aload_n 0, 1) := by decide +kernel
theorem dX2_releases_25 : decode cX2_releases 25 = .ok (.getfield 27, 3) := by decide +kernel
theorem dX2_releases_28 : decode cX2_releases 28 = .ok (.iconst 0, 1) := by decide +kernel
theorem dX2_releases_29 : decode cX2_releases 29 = .ok (.putfield 91, 3) := by decide +kernel
theorem dX2_releases_32 : decode cX2_releases 32 = .ok (.aload_n 0, 1) := by decide +kernel
theorem dX2_releases_33 : decode cX2_releases 33 = .ok (.invokevirtual 88, 3) := by decide +kernel
theorem dX2_releases_36 : decode cX2_releases 36 = .ok (.aload_n 0, 1) := by decide +kernel
theorem dX2_releases_37 : decode cX2_releases 37 = .ok (.getfield 27, 3) := by decide +kernel
theorem dX2_releases_40 : decode cX2_releases 40 = .ok (.getfield 91, 3) := by decide +kernel
theorem dX2_releases_43 : decode cX2_releases 43 = .ok (.ireturn, 1) := by decide +kernel
theorem dX2_goesOn_0 : decode cX2_goesOn 0 = .ok (.aload_n 0, 1) := by decide +kernel
theorem dX2_goesOn_1 : decode cX2_goesOn 1 = .ok (.getfield 27, 3) := by decide +kernel
theorem dX2_goesOn_4 : decode cX2_goesOn 4 = .ok (.getfield 101, 3) := by decide +kernel
theorem dX2_goesOn_7 : decode cX2_goesOn 7 = .ok (.aload_n 0, 1) := by decide +kernel
theorem dX2_goesOn_8 : decode cX2_goesOn 8 = .ok (.aload_n 0, 1) := by decide +kernel
theorem dX2_goesOn_9 : decode cX2_goesOn 9 = .ok (.getfield 27, 3) := by decide +kernel
theorem dX2_goesOn_12 : decode cX2_goesOn 12 = .ok (.getfield 91, 3) := by decide +kernel
theorem dX2_goesOn_15 : decode cX2_goesOn 15 = .ok (.iload_n 1, 1) := by decide +kernel
theorem dX2_goesOn_16 : decode cX2_goesOn 16 = .ok (.invokevirtual 104, 3) := by decide +kernel
theorem dX2_goesOn_19 : decode cX2_goesOn 19 = .ok (.iadd, 1) := by decide +kernel
theorem dX2_goesOn_20 : decode cX2_goesOn 20 = .ok (.istore_n 2, 1) := by decide +kernel
theorem dX2_goesOn_21 : decode cX2_goesOn 21 = .ok (.aload_n 0, 1) := by decide +kernel
theorem dX2_goesOn_22 : decode cX2_goesOn 22 = .ok (.getfield 27, 3) := by decide +kernel
theorem dX2_goesOn_25 : decode cX2_goesOn 25 = .ok (.getfield 108, 3) := by decide +kernel
theorem dX2_goesOn_28 : decode cX2_goesOn 28 = .ok (.aload_n 0, 1) := by decide +kernel
theorem dX2_goesOn_29 : decode cX2_goesOn 29 = .ok (.getfield 22, 3) := by decide +kernel
theorem dX2_goesOn_32 : decode cX2_goesOn 32 = .ok (.getfield 74, 3) := by decide +kernel
theorem dX2_goesOn_35 : decode cX2_goesOn 35 = .ok (.iconst 1, 1) := by decide +kernel
theorem dX2_goesOn_36 : decode cX2_goesOn 36 = .ok (.isub, 1) := by decide +kernel
theorem dX2_goesOn_37 : decode cX2_goesOn 37 = .ok (.if_icmp .lt 7, 3) := by decide +kernel
theorem dX2_goesOn_40 : decode cX2_goesOn 40 = .ok (.iconst 1, 1) := by decide +kernel
theorem dX2_goesOn_41 : decode cX2_goesOn 41 = .ok (.goto 4, 3) := by decide +kernel
theorem dX2_goesOn_44 : decode cX2_goesOn 44 = .ok (.iconst 0, 1) := by decide +kernel
theorem dX2_goesOn_45 : decode cX2_goesOn 45 = .ok (.istore_n 3, 1) := by decide +kernel
theorem dX2_goesOn_46 : decode cX2_goesOn 46 = .ok (.iload_n 2, 1) := by decide +kernel
theorem dX2_goesOn_47 : decode cX2_goesOn 47 = .ok (.ifCond .le 11, 3) := by decide +kernel
theorem dX2_goesOn_50 : decode cX2_goesOn 50 = .ok (.iload_n 3, 1) := by decide +kernel
theorem dX2_goesOn_51 : decode cX2_goesOn 51 = .ok (.ifCond .ne 7, 3) := by decide +kernel
theorem dX2_goesOn_54 : decode cX2_goesOn 54 = .ok (.iconst 1, 1) := by decide +kernel
theorem dX2_goesOn_55 : decode cX2_goesOn 55 = .ok (.goto 4, 3) := by decide +kernel
theorem dX2_goesOn_58 : decode cX2_goesOn 58 = .ok (.iconst 0, 1) := by decide +kernel
theorem dX2_goesOn_59 : decode cX2_goesOn 59 = .ok (.istore 4, 2) := by decide +kernel
theorem dX2_goesOn_61 : decode cX2_goesOn 61 = .ok (.iload 4, 2) := by decide +kernel
theorem dX2_goesOn_63 : decode cX2_goesOn 63 = .ok (.ifCond .eq 18, 3) := by decide +kernel
theorem dX2_goesOn_66 : decode cX2_goesOn 66 = .ok (.aload_n 0, 1) := by decide +kernel
theorem dX2_goesOn_67 : decode cX2_goesOn 67 = .ok (.getfield 27, 3) := by decide +kernel
theorem dX2_goesOn_70 : decode cX2_goesOn 70 = .ok (.iload_n 2, 1) := by decide +kernel
theorem dX2_goesOn_71 : decode cX2_goesOn 71 = .ok (.aload_n 0, 1) := by decide +kernel
theorem dX2_goesOn_72 : decode cX2_goesOn 72 = .ok (.getfield 22, 3) := by decide +kernel
theorem dX2_goesOn_75 : decode cX2_goesOn 75 = .ok (.invokevirtual 111, 3) := by decide +kernel
theorem dX2_goesOn_78 : decode cX2_goesOn 78 = .ok (.goto 28, 3) := by decide +kernel
theorem dX2_goesOn_81 : decode cX2_goesOn 81 = .ok (.aload_n 0, 1) := by decide +kernel
theorem dX2_goesOn_82 : decode cX2_goesOn 82 = .ok (.getfield 27, 3) := by decide +kernel
theorem dX2_goesOn_85 : decode cX2_goesOn 85 = .ok (.iconst 0, 1) := by decide +kernel
theorem dX2_goesOn_86 : decode cX2_goesOn 86 = .ok (.putfield 101, 3) := by decide +kernel
theorem dX2_goesOn_89 : decode cX2_goesOn 89 = .ok (.iload_n 2, 1) := by decide +kernel
theorem dX2_goesOn_90 : decode cX2_goesOn 90 = .ok (.ifCond .le 16, 3) := by decide +kernel
theorem dX2_goesOn_93 : decode cX2_goesOn 93 = .ok (.aload_n 0, 1) := by decide +kernel
theorem dX2_goesOn_94 : decode cX2_goesOn 94 = .ok (.getfield 27, 3) := by decide +kernel
theorem dX2_goesOn_97 : decode cX2_goesOn 97 = .ok (.dup, 1) := by decide +kernel
theorem dX2_goesOn_98 : decode cX2_goesOn 98 = .ok (.getfield 114, 3) := by decide +kernel
theorem dX2_goesOn_101 : decode cX2_goesOn 101 = .ok (.iconst 1, 1) := by decide +kernel
theorem dX2_goesOn_102 : decode cX2_goesOn 102 = .ok (.iadd, 1) := by decide +kernel
theorem dX2_goesOn_103 : decode cX2_goesOn 103 = .ok (.putfield 114, 3) := by decide +kernel
theorem dX2_goesOn_106 : decode cX2_goesOn 106 = .ok (.aload_n 0, 1) := by decide +kernel
theorem dX2_goesOn_107 : decode cX2_goesOn 107 = .ok (.invokevirtual 88, 3) := by decide +kernel
theorem dX2_goesOn_110 : decode cX2_goesOn 110 = .ok (.iload 4, 2) := by decide +kernel
theorem dX2_goesOn_112 : decode cX2_goesOn 112 = .ok (.ireturn, 1) := by decide +kernel
theorem dX2_gain_0 : decode cX2_gain 0 = .ok (.aload_n 0, 1) := by decide +kernel
theorem dX2_gain_1 : decode cX2_gain 1 = .ok (.getfield 22, 3) := by decide +kernel
theorem dX2_gain_4 : decode cX2_gain 4 = .ok (.getfield 117, 3) := by decide +kernel
theorem dX2_gain_7 : decode cX2_gain 7 = .ok (.iconst 0, 1) := by decide +kernel
theorem dX2_gain_8 : decode cX2_gain 8 = .ok (.iaload, 1) := by decide +kernel
theorem dX2_gain_9 : decode cX2_gain 9 = .ok (.istore_n 3, 1) := by decide +kernel
theorem dX2_gain_10 : decode cX2_gain 10 = .ok (.aload_n 0, 1) := by decide +kernel
theorem dX2_gain_11 : decode cX2_gain 11 = .ok (.getfield 22, 3) := by decide +kernel
theorem dX2_gain_14 : decode cX2_gain 14 = .ok (.getfield 62, 3) := by decide +kernel
theorem dX2_gain_17 : decode cX2_gain 17 = .ok (.aload_n 0, 1) := by decide +kernel
theorem dX2_gain_18 : decode cX2_gain 18 = .ok (.getfield 27, 3) := by decide +kernel
theorem dX2_gain_21 : decode cX2_gain 21 = .ok (.getfield 108, 3) := by decide +kernel
theorem dX2_gain_24 : decode cX2_gain 24 = .ok (.iaload, 1) := by decide +kernel
theorem dX2_gain_25 : decode cX2_gain 25 = .ok (.istore 4, 2) := by decide +kernel
theorem dX2_gain_27 : decode cX2_gain 27 = .ok (.iload_n 1, 1) := by decide +kernel
theorem dX2_gain_28 : decode cX2_gain 28 = .ok (.iconst 3, 1) := by decide +kernel
theorem dX2_gain_29 : decode cX2_gain 29 = .ok (.if_icmp .ne 19, 3) := by decide +kernel
theorem dX2_gain_32 : decode cX2_gain 32 = .ok (.aload_n 0, 1) := by decide +kernel
theorem dX2_gain_33 : decode cX2_gain 33 = .ok (.getfield 22, 3) := by decide +kernel
theorem dX2_gain_36 : decode cX2_gain 36 = .ok (.aload_n 0, 1) := by decide +kernel
theorem dX2_gain_37 : decode cX2_gain 37 = .ok (.getfield 27, 3) := by decide +kernel
theorem dX2_gain_40 : decode cX2_gain 40 = .ok (.getfield 108, 3) := by decide +kernel
theorem dX2_gain_43 : decode cX2_gain 43 = .ok (.invokevirtual 68, 3) := by decide +kernel
theorem dX2_gain_46 : decode cX2_gain 46 = .ok (.ineg, 1) := by decide +kernel
theorem dX2_gain_47 : decode cX2_gain 47 = .ok (.ireturn, 1) := by decide +kernel
theorem dX2_gain_48 : decode cX2_gain 48 = .ok (.iload_n 1, 1) := by decide +kernel
theorem dX2_gain_49 : decode cX2_gain 49 = .ok (.iconst 2, 1) := by decide +kernel
theorem dX2_gain_50 : decode cX2_gain 50 = .ok (.if_icmp .ne 13, 3) := by decide +kernel
theorem dX2_gain_53 : decode cX2_gain 53 = .ok (.iconst 3, 1) := by decide +kernel
theorem dX2_gain_54 : decode cX2_gain 54 = .ok (.iload_n 3, 1) := by decide +kernel
theorem dX2_gain_55 : decode cX2_gain 55 = .ok (.imul, 1) := by decide +kernel
theorem dX2_gain_56 : decode cX2_gain 56 = .ok (.iconst 4, 1) := by decide +kernel
theorem dX2_gain_57 : decode cX2_gain 57 = .ok (.idiv, 1) := by decide +kernel
theorem dX2_gain_58 : decode cX2_gain 58 = .ok (.ineg, 1) := by decide +kernel
theorem dX2_gain_59 : decode cX2_gain 59 = .ok (.iload 4, 2) := by decide +kernel
theorem dX2_gain_61 : decode cX2_gain 61 = .ok (.isub, 1) := by decide +kernel
theorem dX2_gain_62 : decode cX2_gain 62 = .ok (.ireturn, 1) := by decide +kernel
theorem dX2_gain_63 : decode cX2_gain 63 = .ok (.iload_n 2, 1) := by decide +kernel
theorem dX2_gain_64 : decode cX2_gain 64 = .ok (.ifCond .ge 11, 3) := by decide +kernel
theorem dX2_gain_67 : decode cX2_gain 67 = .ok (.iload_n 3, 1) := by decide +kernel
theorem dX2_gain_68 : decode cX2_gain 68 = .ok (.iconst 2, 1) := by decide +kernel
theorem dX2_gain_69 : decode cX2_gain 69 = .ok (.idiv, 1) := by decide +kernel
theorem dX2_gain_70 : decode cX2_gain 70 = .ok (.ineg, 1) := by decide +kernel
theorem dX2_gain_71 : decode cX2_gain 71 = .ok (.iload 4, 2) := by decide +kernel
theorem dX2_gain_73 : decode cX2_gain 73 = .ok (.isub, 1) := by decide +kernel
theorem dX2_gain_74 : decode cX2_gain 74 = .ok (.ireturn, 1) := by decide +kernel
theorem dX2_gain_75 : decode cX2_gain 75 = .ok (.iload_n 2, 1) := by decide +kernel
theorem dX2_gain_76 : decode cX2_gain 76 = .ok (.ifCond .ne 9, 3) := by decide +kernel
theorem dX2_gain_79 : decode cX2_gain 79 = .ok (.iload 4, 2) := by decide +kernel
theorem dX2_gain_81 : decode cX2_gain 81 = .ok (.ineg, 1) := by decide +kernel
theorem dX2_gain_82 : decode cX2_gain 82 = .ok (.goto 15, 3) := by decide +kernel
theorem dX2_gain_85 : decode cX2_gain 85 = .ok (.aload_n 0, 1) := by decide +kernel
theorem dX2_gain_86 : decode cX2_gain 86 = .ok (.getfield 22, 3) := by decide +kernel
theorem dX2_gain_89 : decode cX2_gain 89 = .ok (.getfield 117, 3) := by decide +kernel
theorem dX2_gain_92 : decode cX2_gain 92 = .ok (.iconst 1, 1) := by decide +kernel
theorem dX2_gain_93 : decode cX2_gain 93 = .ok (.iaload, 1) := by decide +kernel
theorem dX2_gain_94 : decode cX2_gain 94 = .ok (.iload 4, 2) := by decide +kernel
theorem dX2_gain_96 : decode cX2_gain 96 = .ok (.isub, 1) := by decide +kernel
theorem dX2_gain_97 : decode cX2_gain 97 = .ok (.ireturn, 1) := by decide +kernel
theorem dX2_supervises_0 : decode cX2_supervises 0 = .ok (.aload_n 0, 1) := by decide +kernel
theorem dX2_supervises_1 : decode cX2_supervises 1 = .ok (.getfield 27, 3) := by decide +kernel
theorem dX2_supervises_4 : decode cX2_supervises 4 = .ok (.getfield 91, 3) := by decide +kernel
theorem dX2_supervises_7 : decode cX2_supervises 7 = .ok (.iconst 3, 1) := by decide +kernel
theorem dX2_supervises_8 : decode cX2_supervises 8 = .ok (.if_icmp .ne 4, 3) := by decide +kernel
theorem dX2_supervises_11 : decode cX2_supervises 11 = .ok (.return_, 1) := by decide +kernel
theorem dX2_supervises_12 : decode cX2_supervises 12 = .ok (.aload_n 0, 1) := by decide +kernel
theorem dX2_supervises_13 : decode cX2_supervises 13 = .ok (.getfield 27, 3) := by decide +kernel
theorem dX2_supervises_16 : decode cX2_supervises 16 = .ok (.getfield 101, 3) := by decide +kernel
theorem dX2_supervises_19 : decode cX2_supervises 19 = .ok (.invokestatic 81, 3) := by decide +kernel
theorem dX2_supervises_22 : decode cX2_supervises 22 = .ok (.aload_n 0, 1) := by decide +kernel
theorem dX2_supervises_23 : decode cX2_supervises 23 = .ok (.invokevirtual 120, 3) := by decide +kernel
theorem dX2_supervises_26 : decode cX2_supervises 26 = .ok (.isub, 1) := by decide +kernel
theorem dX2_supervises_27 : decode cX2_supervises 27 = .ok (.istore_n 1, 1) := by decide +kernel
theorem dX2_supervises_28 : decode cX2_supervises 28 = .ok (.iload_n 1, 1) := by decide +kernel
theorem dX2_supervises_29 : decode cX2_supervises 29 = .ok (.aload_n 0, 1) := by decide +kernel
theorem dX2_supervises_30 : decode cX2_supervises 30 = .ok (.getfield 22, 3) := by decide +kernel
theorem dX2_supervises_33 : decode cX2_supervises 33 = .ok (.getfield 117, 3) := by decide +kernel
theorem dX2_supervises_36 : decode cX2_supervises 36 = .ok (.bipush 6, 2) := by decide +kernel
theorem dX2_supervises_38 : decode cX2_supervises 38 = .ok (.iaload, 1) := by decide +kernel
theorem dX2_supervises_39 : decode cX2_supervises 39 = .ok (.if_icmp .le 27, 3) := by decide +kernel
theorem dX2_supervises_42 : decode cX2_supervises 42 = .ok (.aload_n 0, 1) := by decide +kernel
theorem dX2_supervises_43 : decode cX2_supervises 43 = .ok (.getfield 27, 3) := by decide +kernel
theorem dX2_supervises_46 : decode cX2_supervises 46 = .ok (.iconst 3, 1) := by decide +kernel
theorem dX2_supervises_47 : decode cX2_supervises 47 = .ok (.putfield 91, 3) := by decide +kernel
theorem dX2_supervises_50 : decode cX2_supervises 50 = .ok (.aload_n 0, 1) := by decide +kernel
theorem dX2_supervises_51 : decode cX2_supervises 51 = .ok (.getfield 27, 3) := by decide +kernel
theorem dX2_supervises_54 : decode cX2_supervises 54 = .ok (.dup, 1) := by decide +kernel
theorem dX2_supervises_55 : decode cX2_supervises 55 = .ok (.getfield 123, 3) := by decide +kernel
theorem dX2_supervises_58 : decode cX2_supervises 58 = .ok (.iconst 1, 1) := by decide +kernel
theorem dX2_supervises_59 : decode cX2_supervises 59 = .ok (.iadd, 1) := by decide +kernel
theorem dX2_supervises_60 : decode cX2_supervises 60 = .ok (.putfield 123, 3) := by decide +kernel
theorem dX2_supervises_63 : decode cX2_supervises 63 = .ok (.goto 74, 3) := by decide +kernel
theorem dX2_supervises_66 : decode cX2_supervises 66 = .ok (.iload_n 1, 1) := by decide +kernel
theorem dX2_supervises_67 : decode cX2_supervises 67 = .ok (.aload_n 0, 1) := by decide +kernel
theorem dX2_supervises_68 : decode cX2_supervises 68 = .ok (.getfield 22, 3) := by decide +kernel
theorem dX2_supervises_71 : decode cX2_supervises 71 = .ok (.getfield 117, 3) := by decide +kernel
theorem dX2_supervises_74 : decode cX2_supervises 74 = .ok (.iconst 5, 1) := by decide +kernel
theorem dX2_supervises_75 : decode cX2_supervises 75 = .ok (.iaload, 1) := by decide +kernel
theorem dX2_supervises_76 : decode cX2_supervises 76 = .ok (.if_icmp .le 14, 3) := by decide +kernel
theorem dX2_supervises_79 : decode cX2_supervises 79 = .ok (.aload_n 0, 1) := by decide +kernel
theorem dX2_supervises_80 : decode cX2_supervises 80 = .ok (.getfield 27, 3) := by decide +kernel
theorem dX2_supervises_83 : decode cX2_supervises 83 = .ok (.iconst 2, 1) := by decide +kernel
theorem dX2_supervises_84 : decode cX2_supervises 84 = .ok (.putfield 91, 3) := by decide +kernel
theorem dX2_supervises_87 : decode cX2_supervises 87 = .ok (.goto 50, 3) := by decide +kernel
theorem dX2_supervises_90 : decode cX2_supervises 90 = .ok (.iload_n 1, 1) := by decide +kernel
theorem dX2_supervises_91 : decode cX2_supervises 91 = .ok (.aload_n 0, 1) := by decide +kernel
theorem dX2_supervises_92 : decode cX2_supervises 92 = .ok (.getfield 22, 3) := by decide +kernel
theorem dX2_supervises_95 : decode cX2_supervises 95 = .ok (.getfield 117, 3) := by decide +kernel
theorem dX2_supervises_98 : decode cX2_supervises 98 = .ok (.iconst 4, 1) := by decide +kernel
theorem dX2_supervises_99 : decode cX2_supervises 99 = .ok (.iaload, 1) := by decide +kernel
theorem dX2_supervises_100 : decode cX2_supervises 100 = .ok (.if_icmp .le 29, 3) := by decide +kernel
theorem dX2_supervises_103 : decode cX2_supervises 103 = .ok (.aload_n 0, 1) := by decide +kernel
theorem dX2_supervises_104 : decode cX2_supervises 104 = .ok (.getfield 27, 3) := by decide +kernel
theorem dX2_supervises_107 : decode cX2_supervises 107 = .ok (.aload_n 0, 1) := by decide +kernel
theorem dX2_supervises_108 : decode cX2_supervises 108 = .ok (.getfield 27, 3) := by decide +kernel
theorem dX2_supervises_111 : decode cX2_supervises 111 = .ok (.getfield 91, 3) := by decide +kernel
theorem dX2_supervises_114 : decode cX2_supervises 114 = .ok (.iconst 2, 1) := by decide +kernel
theorem dX2_supervises_115 : decode cX2_supervises 115 = .ok (.if_icmp .ne 7, 3) := by decide +kernel
theorem dX2_supervises_118 : decode cX2_supervises 118 = .ok (.iconst 2, 1) := by decide +kernel
theorem dX2_supervises_119 : decode cX2_supervises 119 = .ok (.goto 4, 3) := by decide +kernel
theorem dX2_supervises_122 : decode cX2_supervises 122 = .ok (.iconst 1, 1) := by decide +kernel
theorem dX2_supervises_123 : decode cX2_supervises 123 = .ok (.putfield 91, 3) := by decide +kernel
theorem dX2_supervises_126 : decode cX2_supervises 126 = .ok (.goto 11, 3) := by decide +kernel
theorem dX2_supervises_129 : decode cX2_supervises 129 = .ok (.aload_n 0, 1) := by decide +kernel
theorem dX2_supervises_130 : decode cX2_supervises 130 = .ok (.getfield 27, 3) := by decide +kernel
theorem dX2_supervises_133 : decode cX2_supervises 133 = .ok (.iconst 0, 1) := by decide +kernel
theorem dX2_supervises_134 : decode cX2_supervises 134 = .ok (.putfield 91, 3) := by decide +kernel
theorem dX2_supervises_137 : decode cX2_supervises 137 = .ok (.return_, 1) := by decide +kernel
theorem dX2_driverHandle_0 : decode cX2_driverHandle 0 = .ok (.aload_n 0, 1) := by decide +kernel
theorem dX2_driverHandle_1 : decode cX2_driverHandle 1 = .ok (.invokevirtual 126, 3) := by decide +kernel
theorem dX2_driverHandle_4 : decode cX2_driverHandle 4 = .ok (.iconst 1, 1) := by decide +kernel
theorem dX2_driverHandle_5 : decode cX2_driverHandle 5 = .ok (.iadd, 1) := by decide +kernel
theorem dX2_driverHandle_6 : decode cX2_driverHandle 6 = .ok (.aload_n 0, 1) := by decide +kernel
theorem dX2_driverHandle_7 : decode cX2_driverHandle 7 = .ok (.getfield 22, 3) := by decide +kernel
theorem dX2_driverHandle_10 : decode cX2_driverHandle 10 = .ok (.getfield 74, 3) := by decide +kernel
theorem dX2_driverHandle_13 : decode cX2_driverHandle 13 = .ok (.iconst 1, 1) := by decide +kernel
theorem dX2_driverHandle_14 : decode cX2_driverHandle 14 = .ok (.isub, 1) := by decide +kernel
theorem dX2_driverHandle_15 : decode cX2_driverHandle 15 = .ok (.invokestatic 129, 3) := by decide +kernel
theorem dX2_driverHandle_18 : decode cX2_driverHandle 18 = .ok (.istore_n 1, 1) := by decide +kernel
theorem dX2_driverHandle_19 : decode cX2_driverHandle 19 = .ok (.aload_n 0, 1) := by decide +kernel
theorem dX2_driverHandle_20 : decode cX2_driverHandle 20 = .ok (.getfield 31, 3) := by decide +kernel
theorem dX2_driverHandle_23 : decode cX2_driverHandle 23 = .ok (.aload_n 0, 1) := by decide +kernel
theorem dX2_driverHandle_24 : decode cX2_driverHandle 24 = .ok (.invokevirtual 134, 3) := by decide +kernel
theorem dX2_driverHandle_27 : decode cX2_driverHandle 27 = .ok (.iload_n 1, 1) := by decide +kernel
theorem dX2_driverHandle_28 : decode cX2_driverHandle 28 = .ok (.invokevirtual 137, 3) := by decide +kernel
theorem dX2_driverHandle_31 : decode cX2_driverHandle 31 = .ok (.istore_n 2, 1) := by decide +kernel
theorem dX2_driverHandle_32 : decode cX2_driverHandle 32 = .ok (.iconst 1, 1) := by decide +kernel
theorem dX2_driverHandle_33 : decode cX2_driverHandle 33 = .ok (.istore_n 3, 1) := by decide +kernel
theorem dX2_driverHandle_34 : decode cX2_driverHandle 34 = .ok (.iload_n 3, 1) := by decide +kernel
theorem dX2_driverHandle_35 : decode cX2_driverHandle 35 = .ok (.ifCond .lt 29, 3) := by decide +kernel
theorem dX2_driverHandle_38 : decode cX2_driverHandle 38 = .ok (.aload_n 0, 1) := by decide +kernel
theorem dX2_driverHandle_39 : decode cX2_driverHandle 39 = .ok (.getfield 27, 3) := by decide +kernel
theorem dX2_driverHandle_42 : decode cX2_driverHandle 42 = .ok (.getfield 101, 3) := by decide +kernel
theorem dX2_driverHandle_45 : decode cX2_driverHandle 45 = .ok (.aload_n 0, 1) := by decide +kernel
theorem dX2_driverHandle_46 : decode cX2_driverHandle 46 = .ok (.iconst 0, 1) := by decide +kernel
theorem dX2_driverHandle_47 : decode cX2_driverHandle 47 = .ok (.iload_n 3, 1) := by decide +kernel
theorem dX2_driverHandle_48 : decode cX2_driverHandle 48 = .ok (.invokevirtual 104, 3) := by decide +kernel
theorem dX2_driverHandle_51 : decode cX2_driverHandle 51 = .ok (.iadd, 1) := by decide +kernel
theorem dX2_driverHandle_52 : decode cX2_driverHandle 52 = .ok (.iload_n 2, 1) := by decide +kernel
theorem dX2_driverHandle_53 : decode cX2_driverHandle 53 = .ok (.if_icmp .gt 5, 3) := by decide +kernel
theorem dX2_driverHandle_56 : decode cX2_driverHandle 56 = .ok (.iload_n 3, 1) := by decide +kernel
theorem dX2_driverHandle_57 : decode cX2_driverHandle 57 = .ok (.ireturn, 1) := by decide +kernel
theorem dX2_driverHandle_58 : decode cX2_driverHandle 58 = .ok (.iinc 3 (-1), 3) := by decide +kernel
theorem dX2_driverHandle_61 : decode cX2_driverHandle 61 = .ok (.goto (-27), 3) := by decide +kernel
theorem dX2_driverHandle_64 : decode cX2_driverHandle 64 = .ok (.iconst (-1), 1) := by decide +kernel
theorem dX2_driverHandle_65 : decode cX2_driverHandle 65 = .ok (.ireturn, 1) := by decide +kernel
theorem dX2_spanFirst_0 : decode cX2_spanFirst 0 = .ok (.aload_n 0, 1) := by decide +kernel
theorem dX2_spanFirst_1 : decode cX2_spanFirst 1 = .ok (.aload_n 0, 1) := by decide +kernel
theorem dX2_spanFirst_2 : decode cX2_spanFirst 2 = .ok (.getfield 27, 3) := by decide +kernel
theorem dX2_spanFirst_5 : decode cX2_spanFirst 5 = .ok (.getfield 140, 3) := by decide +kernel
theorem dX2_spanFirst_8 : decode cX2_spanFirst 8 = .ok (.sipush 1000, 3) := by decide +kernel
theorem dX2_spanFirst_11 : decode cX2_spanFirst 11 = .ok (.idiv, 1) := by decide +kernel
theorem dX2_spanFirst_12 : decode cX2_spanFirst 12 = .ok (.invokevirtual 143, 3) := by decide +kernel
theorem dX2_spanFirst_15 : decode cX2_spanFirst 15 = .ok (.ireturn, 1) := by decide +kernel
theorem dX2_spanLast_0 : decode cX2_spanLast 0 = .ok (.aload_n 0, 1) := by decide +kernel
theorem dX2_spanLast_1 : decode cX2_spanLast 1 = .ok (.aload_n 0, 1) := by decide +kernel
theorem dX2_spanLast_2 : decode cX2_spanLast 2 = .ok (.getfield 27, 3) := by decide +kernel
theorem dX2_spanLast_5 : decode cX2_spanLast 5 = .ok (.getfield 146, 3) := by decide +kernel
theorem dX2_spanLast_8 : decode cX2_spanLast 8 = .ok (.sipush 999, 3) := by decide +kernel
theorem dX2_spanLast_11 : decode cX2_spanLast 11 = .ok (.iadd, 1) := by decide +kernel
theorem dX2_spanLast_12 : decode cX2_spanLast 12 = .ok (.sipush 1000, 3) := by decide +kernel
theorem dX2_spanLast_15 : decode cX2_spanLast 15 = .ok (.idiv, 1) := by decide +kernel
theorem dX2_spanLast_16 : decode cX2_spanLast 16 = .ok (.invokevirtual 143, 3) := by decide +kernel
theorem dX2_spanLast_19 : decode cX2_spanLast 19 = .ok (.ireturn, 1) := by decide +kernel
theorem dX2_kept_0 : decode cX2_kept 0 = .ok (.iconst 0, 1) := by decide +kernel
theorem dX2_kept_1 : decode cX2_kept 1 = .ok (.iload_n 1, 1) := by decide +kernel
theorem dX2_kept_2 : decode cX2_kept 2 = .ok (.aload_n 0, 1) := by decide +kernel
theorem dX2_kept_3 : decode cX2_kept 3 = .ok (.getfield 22, 3) := by decide +kernel
theorem dX2_kept_6 : decode cX2_kept 6 = .ok (.getfield 74, 3) := by decide +kernel
theorem dX2_kept_9 : decode cX2_kept 9 = .ok (.iconst 1, 1) := by decide +kernel
theorem dX2_kept_10 : decode cX2_kept 10 = .ok (.isub, 1) := by decide +kernel
theorem dX2_kept_11 : decode cX2_kept 11 = .ok (.invokestatic 129, 3) := by decide +kernel
theorem dX2_kept_14 : decode cX2_kept 14 = .ok (.invokestatic 149, 3) := by decide +kernel
theorem dX2_kept_17 : decode cX2_kept 17 = .ok (.ireturn, 1) := by decide +kernel
theorem dX2_seen_0 : decode cX2_seen 0 = .ok (.aload_n 0, 1) := by decide +kernel
theorem dX2_seen_1 : decode cX2_seen 1 = .ok (.getfield 31, 3) := by decide +kernel
theorem dX2_seen_4 : decode cX2_seen 4 = .ok (.aload_n 0, 1) := by decide +kernel
theorem dX2_seen_5 : decode cX2_seen 5 = .ok (.invokevirtual 134, 3) := by decide +kernel
theorem dX2_seen_8 : decode cX2_seen 8 = .ok (.aload_n 0, 1) := by decide +kernel
theorem dX2_seen_9 : decode cX2_seen 9 = .ok (.invokevirtual 126, 3) := by decide +kernel
theorem dX2_seen_12 : decode cX2_seen 12 = .ok (.invokevirtual 137, 3) := by decide +kernel
theorem dX2_seen_15 : decode cX2_seen 15 = .ok (.invokestatic 81, 3) := by decide +kernel
theorem dX2_seen_18 : decode cX2_seen 18 = .ok (.ireturn, 1) := by decide +kernel
theorem dX2_trainValue_0 : decode cX2_trainValue 0 = .ok (.iload_n 1, 1) := by decide +kernel
theorem dX2_trainValue_1 : decode cX2_trainValue 1 = .ok (.tableswitch 164 0 12 #[67, 75, 83, 94, 102, 110, 118, 123, 128, 133, 141, 149, 156], 67) := by decide +kernel
theorem dX2_trainValue_68 : decode cX2_trainValue 68 = .ok (.aload_n 0, 1) := by decide +kernel
theorem dX2_trainValue_69 : decode cX2_trainValue 69 = .ok (.getfield 27, 3) := by decide +kernel
theorem dX2_trainValue_72 : decode cX2_trainValue 72 = .ok (.getfield 108, 3) := by decide +kernel
theorem dX2_trainValue_75 : decode cX2_trainValue 75 = .ok (.ireturn, 1) := by decide +kernel
theorem dX2_trainValue_76 : decode cX2_trainValue 76 = .ok (.aload_n 0, 1) := by decide +kernel
theorem dX2_trainValue_77 : decode cX2_trainValue 77 = .ok (.getfield 27, 3) := by decide +kernel
theorem dX2_trainValue_80 : decode cX2_trainValue 80 = .ok (.getfield 101, 3) := by decide +kernel
theorem dX2_trainValue_83 : decode cX2_trainValue 83 = .ok (.ireturn, 1) := by decide +kernel
theorem dX2_trainValue_84 : decode cX2_trainValue 84 = .ok (.aload_n 0, 1) := by decide +kernel
theorem dX2_trainValue_85 : decode cX2_trainValue 85 = .ok (.getfield 27, 3) := by decide +kernel
theorem dX2_trainValue_88 : decode cX2_trainValue 88 = .ok (.getfield 101, 3) := by decide +kernel
theorem dX2_trainValue_91 : decode cX2_trainValue 91 = .ok (.invokestatic 81, 3) := by decide +kernel
theorem dX2_trainValue_94 : decode cX2_trainValue 94 = .ok (.ireturn, 1) := by decide +kernel
theorem dX2_trainValue_95 : decode cX2_trainValue 95 = .ok (.aload_n 0, 1) := by decide +kernel
theorem dX2_trainValue_96 : decode cX2_trainValue 96 = .ok (.getfield 27, 3) := by decide +kernel
theorem dX2_trainValue_99 : decode cX2_trainValue 99 = .ok (.getfield 91, 3) := by decide +kernel
theorem dX2_trainValue_102 : decode cX2_trainValue 102 = .ok (.ireturn, 1) := by decide +kernel
theorem dX2_trainValue_103 : decode cX2_trainValue 103 = .ok (.aload_n 0, 1) := by decide +kernel
theorem dX2_trainValue_104 : decode cX2_trainValue 104 = .ok (.getfield 27, 3) := by decide +kernel
theorem dX2_trainValue_107 : decode cX2_trainValue 107 = .ok (.getfield 140, 3) := by decide +kernel
theorem dX2_trainValue_110 : decode cX2_trainValue 110 = .ok (.ireturn, 1) := by decide +kernel
theorem dX2_trainValue_111 : decode cX2_trainValue 111 = .ok (.aload_n 0, 1) := by decide +kernel
theorem dX2_trainValue_112 : decode cX2_trainValue 112 = .ok (.getfield 27, 3) := by decide +kernel
theorem dX2_trainValue_115 : decode cX2_trainValue 115 = .ok (.getfield 146, 3) := by decide +kernel
theorem dX2_trainValue_118 : decode cX2_trainValue 118 = .ok (.ireturn, 1) := by decide +kernel
theorem dX2_trainValue_119 : decode cX2_trainValue 119 = .ok (.aload_n 0, 1) := by decide +kernel
theorem dX2_trainValue_120 : decode cX2_trainValue 120 = .ok (.invokevirtual 134, 3) := by decide +kernel
theorem dX2_trainValue_123 : decode cX2_trainValue 123 = .ok (.ireturn, 1) := by decide +kernel
theorem dX2_trainValue_124 : decode cX2_trainValue 124 = .ok (.aload_n 0, 1) := by decide +kernel
theorem dX2_trainValue_125 : decode cX2_trainValue 125 = .ok (.invokevirtual 126, 3) := by decide +kernel
theorem dX2_trainValue_128 : decode cX2_trainValue 128 = .ok (.ireturn, 1) := by decide +kernel
theorem dX2_trainValue_129 : decode cX2_trainValue 129 = .ok (.aload_n 0, 1) := by decide +kernel
theorem dX2_trainValue_130 : decode cX2_trainValue 130 = .ok (.invokevirtual 120, 3) := by decide +kernel
theorem dX2_trainValue_133 : decode cX2_trainValue 133 = .ok (.ireturn, 1) := by decide +kernel
theorem dX2_trainValue_134 : decode cX2_trainValue 134 = .ok (.aload_n 0, 1) := by decide +kernel
theorem dX2_trainValue_135 : decode cX2_trainValue 135 = .ok (.getfield 27, 3) := by decide +kernel
theorem dX2_trainValue_138 : decode cX2_trainValue 138 = .ok (.getfield 123, 3) := by decide +kernel
theorem dX2_trainValue_141 : decode cX2_trainValue 141 = .ok (.ireturn, 1) := by decide +kernel
theorem dX2_trainValue_142 : decode cX2_trainValue 142 = .ok (.aload_n 0, 1) := by decide +kernel
theorem dX2_trainValue_143 : decode cX2_trainValue 143 = .ok (.getfield 27, 3) := by decide +kernel
theorem dX2_trainValue_146 : decode cX2_trainValue 146 = .ok (.getfield 114, 3) := by decide +kernel
theorem dX2_trainValue_149 : decode cX2_trainValue 149 = .ok (.ireturn, 1) := by decide +kernel
theorem dX2_trainValue_150 : decode cX2_trainValue 150 = .ok (.aload_n 0, 1) := by decide +kernel
theorem dX2_trainValue_151 : decode cX2_trainValue 151 = .ok (.invokevirtual 97, 3) := by decide +kernel
theorem dX2_trainValue_154 : decode cX2_trainValue 154 = .ok (.iconst 1, 1) := by decide +kernel
theorem dX2_trainValue_155 : decode cX2_trainValue 155 = .ok (.iadd, 1) := by decide +kernel
theorem dX2_trainValue_156 : decode cX2_trainValue 156 = .ok (.ireturn, 1) := by decide +kernel
theorem dX2_trainValue_157 : decode cX2_trainValue 157 = .ok (.aload_n 0, 1) := by decide +kernel
theorem dX2_trainValue_158 : decode cX2_trainValue 158 = .ok (.getfield 27, 3) := by decide +kernel
theorem dX2_trainValue_161 : decode cX2_trainValue 161 = .ok (.getfield 152, 3) := by decide +kernel
theorem dX2_trainValue_164 : decode cX2_trainValue 164 = .ok (.ireturn, 1) := by decide +kernel
theorem dX2_trainValue_165 : decode cX2_trainValue 165 = .ok (.bipush (-2), 2) := by decide +kernel
theorem dX2_trainValue_167 : decode cX2_trainValue 167 = .ok (.ireturn, 1) := by decide +kernel
theorem dX3_init_0 : decode cX3_init 0 = .ok (.aload_n 0, 1) := by decide +kernel
theorem dX3_init_1 : decode cX3_init 1 = .ok (.invokespecial 5, 3) := by decide +kernel
theorem dX3_init_4 : decode cX3_init 4 = .ok (.aload_n 0, 1) := by decide +kernel
theorem dX3_init_5 : decode cX3_init 5 = .ok (.bipush 120, 2) := by decide +kernel
theorem dX3_init_7 : decode cX3_init 7 = .ok (.newarray .int, 2) := by decide +kernel
theorem dX3_init_9 : decode cX3_init 9 = .ok (.putfield 11, 3) := by decide +kernel
theorem dX3_init_12 : decode cX3_init 12 = .ok (.aload_n 0, 1) := by decide +kernel
theorem dX3_init_13 : decode cX3_init 13 = .ok (.bipush 24, 2) := by decide +kernel
theorem dX3_init_15 : decode cX3_init 15 = .ok (.newarray .int, 2) := by decide +kernel
theorem dX3_init_17 : decode cX3_init 17 = .ok (.putfield 15, 3) := by decide +kernel
theorem dX3_init_20 : decode cX3_init 20 = .ok (.aload_n 0, 1) := by decide +kernel
theorem dX3_init_21 : decode cX3_init 21 = .ok (.bipush 72, 2) := by decide +kernel
theorem dX3_init_23 : decode cX3_init 23 = .ok (.newarray .int, 2) := by decide +kernel
theorem dX3_init_25 : decode cX3_init 25 = .ok (.putfield 18, 3) := by decide +kernel
theorem dX3_init_28 : decode cX3_init 28 = .ok (.return_, 1) := by decide +kernel
theorem dX3_adds_0 : decode cX3_adds 0 = .ok (.iload_n 1, 1) := by decide +kernel
theorem dX3_adds_1 : decode cX3_adds 1 = .ok (.iconst 0, 1) := by decide +kernel
theorem dX3_adds_2 : decode cX3_adds 2 = .ok (.bipush 127, 2) := by decide +kernel
theorem dX3_adds_4 : decode cX3_adds 4 = .ok (.invokestatic 21, 3) := by decide +kernel
theorem dX3_adds_7 : decode cX3_adds 7 = .ok (.ifCond .ne 6, 3) := by decide +kernel
theorem dX3_adds_10 : decode cX3_adds 10 = .ok (.bipush (-2), 2) := by decide +kernel
theorem dX3_adds_12 : decode cX3_adds 12 = .ok (.ireturn, 1) := by decide +kernel
theorem dX3_adds_13 : decode cX3_adds 13 = .ok (.aload_n 0, 1) := by decide +kernel
theorem dX3_adds_14 : decode cX3_adds 14 = .ok (.getfield 25, 3) := by decide +kernel
theorem dX3_adds_17 : decode cX3_adds 17 = .ok (.bipush 120, 2) := by decide +kernel
theorem dX3_adds_19 : decode cX3_adds 19 = .ok (.if_icmp .lt 6, 3) := by decide +kernel
theorem dX3_adds_22 : decode cX3_adds 22 = .ok (.bipush (-4), 2) := by decide +kernel
theorem dX3_adds_24 : decode cX3_adds 24 = .ok (.ireturn, 1) := by decide +kernel
theorem dX3_adds_25 : decode cX3_adds 25 = .ok (.aload_n 0, 1) := by decide +kernel
theorem dX3_adds_26 : decode cX3_adds 26 = .ok (.getfield 11, 3) := by decide +kernel
theorem dX3_adds_29 : decode cX3_adds 29 = .ok (.aload_n 0, 1) := by decide +kernel
theorem dX3_adds_30 : decode cX3_adds 30 = .ok (.getfield 25, 3) := by decide +kernel
theorem dX3_adds_33 : decode cX3_adds 33 = .ok (.iload_n 1, 1) := by decide +kernel
theorem dX3_adds_34 : decode cX3_adds 34 = .ok (.iastore, 1) := by decide +kernel
theorem dX3_adds_35 : decode cX3_adds 35 = .ok (.aload_n 0, 1) := by decide +kernel
theorem dX3_adds_36 : decode cX3_adds 36 = .ok (.dup, 1) := by decide +kernel
theorem dX3_adds_37 : decode cX3_adds 37 = .ok (.getfield 25, 3) := by decide +kernel
theorem dX3_adds_40 : decode cX3_adds 40 = .ok (.iconst 1, 1) := by decide +kernel
theorem dX3_adds_41 : decode cX3_adds 41 = .ok (.iadd, 1) := by decide +kernel
theorem dX3_adds_42 : decode cX3_adds 42 = .ok (.putfield 25, 3) := by decide +kernel
theorem dX3_adds_45 : decode cX3_adds 45 = .ok (.aload_n 0, 1) := by decide +kernel
theorem dX3_adds_46 : decode cX3_adds 46 = .ok (.getfield 25, 3) := by decide +kernel
theorem dX3_adds_49 : decode cX3_adds 49 = .ok (.ireturn, 1) := by decide +kernel
theorem dX3_empties_0 : decode cX3_empties 0 = .ok (.aload_n 0, 1) := by decide +kernel
theorem dX3_empties_1 : decode cX3_empties 1 = .ok (.getfield 25, 3) := by decide +kernel
theorem dX3_empties_4 : decode cX3_empties 4 = .ok (.istore_n 1, 1) := by decide +kernel
theorem dX3_empties_5 : decode cX3_empties 5 = .ok (.aload_n 0, 1) := by decide +kernel
theorem dX3_empties_6 : decode cX3_empties 6 = .ok (.iconst 0, 1) := by decide +kernel
theorem dX3_empties_7 : decode cX3_empties 7 = .ok (.putfield 25, 3) := by decide +kernel
theorem dX3_empties_10 : decode cX3_empties 10 = .ok (.iload_n 1, 1) := by decide +kernel
theorem dX3_empties_11 : decode cX3_empties 11 = .ok (.ireturn, 1) := by decide +kernel
theorem dX3_number_0 : decode cX3_number 0 = .ok (.aload_n 0, 1) := by decide +kernel
theorem dX3_number_1 : decode cX3_number 1 = .ok (.getfield 18, 3) := by decide +kernel
theorem dX3_number_4 : decode cX3_number 4 = .ok (.iload_n 1, 1) := by decide +kernel
theorem dX3_number_5 : decode cX3_number 5 = .ok (.iconst 3, 1) := by decide +kernel
theorem dX3_number_6 : decode cX3_number 6 = .ok (.imul, 1) := by decide +kernel
theorem dX3_number_7 : decode cX3_number 7 = .ok (.iload_n 2, 1) := by decide +kernel
theorem dX3_number_8 : decode cX3_number 8 = .ok (.iadd, 1) := by decide +kernel
theorem dX3_number_9 : decode cX3_number 9 = .ok (.iaload, 1) := by decide +kernel
theorem dX3_number_10 : decode cX3_number 10 = .ok (.ireturn, 1) := by decide +kernel
theorem dX3_isReadable_0 : decode cX3_isReadable 0 = .ok (.aload_n 0, 1) := by decide +kernel
theorem dX3_isReadable_1 : decode cX3_isReadable 1 = .ok (.iconst 0, 1) := by decide +kernel
theorem dX3_isReadable_2 : decode cX3_isReadable 2 = .ok (.putfield 29, 3) := by decide +kernel
theorem dX3_isReadable_5 : decode cX3_isReadable 5 = .ok (.iconst 0, 1) := by decide +kernel
theorem dX3_isReadable_6 : decode cX3_isReadable 6 = .ok (.istore_n 1, 1) := by decide +kernel
theorem dX3_isReadable_7 : decode cX3_isReadable 7 = .ok (.iload_n 1, 1) := by decide +kernel
theorem dX3_isReadable_8 : decode cX3_isReadable 8 = .ok (.bipush 24, 2) := by decide +kernel
theorem dX3_isReadable_10 : decode cX3_isReadable 10 = .ok (.if_icmp .ge 43, 3) := by decide +kernel
theorem dX3_isReadable_13 : decode cX3_isReadable 13 = .ok (.aload_n 0, 1) := by decide +kernel
theorem dX3_isReadable_14 : decode cX3_isReadable 14 = .ok (.iload_n 1, 1) := by decide +kernel
theorem dX3_isReadable_15 : decode cX3_isReadable 15 = .ok (.invokevirtual 32, 3) := by decide +kernel
theorem dX3_isReadable_18 : decode cX3_isReadable 18 = .ok (.ifCond .ne 5, 3) := by decide +kernel
theorem dX3_isReadable_21 : decode cX3_isReadable 21 = .ok (.iconst 0, 1) := by decide +kernel
theorem dX3_isReadable_22 : decode cX3_isReadable 22 = .ok (.ireturn, 1) := by decide +kernel
theorem dX3_isReadable_23 : decode cX3_isReadable 23 = .ok (.aload_n 0, 1) := by decide +kernel
theorem dX3_isReadable_24 : decode cX3_isReadable 24 = .ok (.iload_n 1, 1) := by decide +kernel
theorem dX3_isReadable_25 : decode cX3_isReadable 25 = .ok (.iconst 1, 1) := by decide +kernel
theorem dX3_isReadable_26 : decode cX3_isReadable 26 = .ok (.iadd, 1) := by decide +kernel
theorem dX3_isReadable_27 : decode cX3_isReadable 27 = .ok (.putfield 36, 3) := by decide +kernel
theorem dX3_isReadable_30 : decode cX3_isReadable 30 = .ok (.aload_n 0, 1) := by decide +kernel
theorem dX3_isReadable_31 : decode cX3_isReadable 31 = .ok (.invokevirtual 39, 3) := by decide +kernel
theorem dX3_isReadable_34 : decode cX3_isReadable 34 = .ok (.aload_n 0, 1) := by decide +kernel
theorem dX3_isReadable_35 : decode cX3_isReadable 35 = .ok (.getfield 29, 3) := by decide +kernel
theorem dX3_isReadable_38 : decode cX3_isReadable 38 = .ok (.aload_n 0, 1) := by decide +kernel
theorem dX3_isReadable_39 : decode cX3_isReadable 39 = .ok (.getfield 25, 3) := by decide +kernel
theorem dX3_isReadable_42 : decode cX3_isReadable 42 = .ok (.if_icmp .lt 5, 3) := by decide +kernel
theorem dX3_isReadable_45 : decode cX3_isReadable 45 = .ok (.iconst 1, 1) := by decide +kernel
theorem dX3_isReadable_46 : decode cX3_isReadable 46 = .ok (.ireturn, 1) := by decide +kernel
theorem dX3_isReadable_47 : decode cX3_isReadable 47 = .ok (.iinc 1 1, 3) := by decide +kernel
theorem dX3_isReadable_50 : decode cX3_isReadable 50 = .ok (.goto (-43), 3) := by decide +kernel
theorem dX3_isReadable_53 : decode cX3_isReadable 53 = .ok (.aload_n 0, 1) := by decide +kernel
theorem dX3_isReadable_54 : decode cX3_isReadable 54 = .ok (.iconst 2, 1) := by decide +kernel
theorem dX3_isReadable_55 : decode cX3_isReadable 55 = .ok (.aload_n 0, 1) := by decide +kernel
theorem dX3_isReadable_56 : decode cX3_isReadable 56 = .ok (.getfield 29, 3) := by decide +kernel
theorem dX3_isReadable_59 : decode cX3_isReadable 59 = .ok (.invokevirtual 42, 3) := by decide +kernel
theorem dX3_isReadable_62 : decode cX3_isReadable 62 = .ok (.ireturn, 1) := by decide +kernel
theorem dX3_readsOrder_0 : decode cX3_readsOrder 0 = .ok (.aload_n 0, 1) := by decide +kernel
theorem dX3_readsOrder_1 : decode cX3_readsOrder 1 = .ok (.invokevirtual 39, 3) := by decide +kernel
theorem dX3_readsOrder_4 : decode cX3_readsOrder 4 = .ok (.aload_n 0, 1) := by decide +kernel
theorem dX3_readsOrder_5 : decode cX3_readsOrder 5 = .ok (.getfield 29, 3) := by decide +kernel
theorem dX3_readsOrder_8 : decode cX3_readsOrder 8 = .ok (.istore_n 2, 1) := by decide +kernel
theorem dX3_readsOrder_9 : decode cX3_readsOrder 9 = .ok (.aload_n 0, 1) := by decide +kernel
theorem dX3_readsOrder_10 : decode cX3_readsOrder 10 = .ok (.invokevirtual 46, 3) := by decide +kernel
theorem dX3_readsOrder_13 : decode cX3_readsOrder 13 = .ok (.aload_n 0, 1) := by decide +kernel
theorem dX3_readsOrder_14 : decode cX3_readsOrder 14 = .ok (.getfield 29, 3) := by decide +kernel
theorem dX3_readsOrder_17 : decode cX3_readsOrder 17 = .ok (.iload_n 2, 1) := by decide +kernel
theorem dX3_readsOrder_18 : decode cX3_readsOrder 18 = .ok (.if_icmp .ne 13, 3) := by decide +kernel
theorem dX3_readsOrder_21 : decode cX3_readsOrder 21 = .ok (.aload_n 0, 1) := by decide +kernel
theorem dX3_readsOrder_22 : decode cX3_readsOrder 22 = .ok (.iconst 2, 1) := by decide +kernel
theorem dX3_readsOrder_23 : decode cX3_readsOrder 23 = .ok (.aload_n 0, 1) := by decide +kernel
theorem dX3_readsOrder_24 : decode cX3_readsOrder 24 = .ok (.getfield 29, 3) := by decide +kernel
theorem dX3_readsOrder_27 : decode cX3_readsOrder 27 = .ok (.invokevirtual 42, 3) := by decide +kernel
theorem dX3_readsOrder_30 : decode cX3_readsOrder 30 = .ok (.ireturn, 1) := by decide +kernel
theorem dX3_readsOrder_31 : decode cX3_readsOrder 31 = .ok (.aload_n 0, 1) := by decide +kernel
theorem dX3_readsOrder_32 : decode cX3_readsOrder 32 = .ok (.iload_n 2, 1) := by decide +kernel
theorem dX3_readsOrder_33 : decode cX3_readsOrder 33 = .ok (.aload_n 0, 1) := by decide +kernel
theorem dX3_readsOrder_34 : decode cX3_readsOrder 34 = .ok (.getfield 29, 3) := by decide +kernel
theorem dX3_readsOrder_37 : decode cX3_readsOrder 37 = .ok (.invokevirtual 49, 3) := by decide +kernel
theorem dX3_readsOrder_40 : decode cX3_readsOrder 40 = .ok (.istore_n 3, 1) := by decide +kernel
theorem dX3_readsOrder_41 : decode cX3_readsOrder 41 = .ok (.iload_n 3, 1) := by decide +kernel
theorem dX3_readsOrder_42 : decode cX3_readsOrder 42 = .ok (.iconst (-1), 1) := by decide +kernel
theorem dX3_readsOrder_43 : decode cX3_readsOrder 43 = .ok (.if_icmp .ne 10, 3) := by decide +kernel
theorem dX3_readsOrder_46 : decode cX3_readsOrder 46 = .ok (.aload_n 0, 1) := by decide +kernel
theorem dX3_readsOrder_47 : decode cX3_readsOrder 47 = .ok (.iconst 1, 1) := by decide +kernel
theorem dX3_readsOrder_48 : decode cX3_readsOrder 48 = .ok (.iload_n 2, 1) := by decide +kernel
theorem dX3_readsOrder_49 : decode cX3_readsOrder 49 = .ok (.invokevirtual 42, 3) := by decide +kernel
theorem dX3_readsOrder_52 : decode cX3_readsOrder 52 = .ok (.ireturn, 1) := by decide +kernel
theorem dX3_readsOrder_53 : decode cX3_readsOrder 53 = .ok (.aload_n 0, 1) := by decide +kernel
theorem dX3_readsOrder_54 : decode cX3_readsOrder 54 = .ok (.getfield 15, 3) := by decide +kernel
theorem dX3_readsOrder_57 : decode cX3_readsOrder 57 = .ok (.iload_n 1, 1) := by decide +kernel
theorem dX3_readsOrder_58 : decode cX3_readsOrder 58 = .ok (.iload_n 3, 1) := by decide +kernel
theorem dX3_readsOrder_59 : decode cX3_readsOrder 59 = .ok (.iastore, 1) := by decide +kernel
theorem dX3_readsOrder_60 : decode cX3_readsOrder 60 = .ok (.iload_n 3, 1) := by decide +kernel
theorem dX3_readsOrder_61 : decode cX3_readsOrder 61 = .ok (.iconst 1, 1) := by decide +kernel
theorem dX3_readsOrder_62 : decode cX3_readsOrder 62 = .ok (.if_icmp .eq 8, 3) := by decide +kernel
theorem dX3_readsOrder_65 : decode cX3_readsOrder 65 = .ok (.iload_n 3, 1) := by decide +kernel
theorem dX3_readsOrder_66 : decode cX3_readsOrder 66 = .ok (.iconst 2, 1) := by decide +kernel
theorem dX3_readsOrder_67 : decode cX3_readsOrder 67 = .ok (.if_icmp .ne 7, 3) := by decide +kernel
theorem dX3_readsOrder_70 : decode cX3_readsOrder 70 = .ok (.iconst 3, 1) := by decide +kernel
theorem dX3_readsOrder_71 : decode cX3_readsOrder 71 = .ok (.goto 4, 3) := by decide +kernel
theorem dX3_readsOrder_74 : decode cX3_readsOrder 74 = .ok (.iconst 1, 1) := by decide +kernel
theorem dX3_readsOrder_75 : decode cX3_readsOrder 75 = .ok (.istore 4, 2) := by decide +kernel
theorem dX3_readsOrder_77 : decode cX3_readsOrder 77 = .ok (.iconst 0, 1) := by decide +kernel
theorem dX3_readsOrder_78 : decode cX3_readsOrder 78 = .ok (.istore 5, 2) := by decide +kernel
theorem dX3_readsOrder_80 : decode cX3_readsOrder 80 = .ok (.iload 5, 2) := by decide +kernel
theorem dX3_readsOrder_82 : decode cX3_readsOrder 82 = .ok (.iload 4, 2) := by decide +kernel
theorem dX3_readsOrder_84 : decode cX3_readsOrder 84 = .ok (.if_icmp .ge 44, 3) := by decide +kernel
theorem dX3_readsOrder_87 : decode cX3_readsOrder 87 = .ok (.iload_n 3, 1) := by decide +kernel
theorem dX3_readsOrder_88 : decode cX3_readsOrder 88 = .ok (.iconst 2, 1) := by decide +kernel
theorem dX3_readsOrder_89 : decode cX3_readsOrder 89 = .ok (.if_icmp .ne 13, 3) := by decide +kernel
theorem dX3_readsOrder_92 : decode cX3_readsOrder 92 = .ok (.iload 5, 2) := by decide +kernel
theorem dX3_readsOrder_94 : decode cX3_readsOrder 94 = .ok (.iconst 2, 1) := by decide +kernel
theorem dX3_readsOrder_95 : decode cX3_readsOrder 95 = .ok (.if_icmp .ne 7, 3) := by decide +kernel
theorem dX3_readsOrder_98 : decode cX3_readsOrder 98 = .ok (.iconst 1, 1) := by decide +kernel
theorem dX3_readsOrder_99 : decode cX3_readsOrder 99 = .ok (.goto 4, 3) := by decide +kernel
theorem dX3_readsOrder_102 : decode cX3_readsOrder 102 = .ok (.iconst 0, 1) := by decide +kernel
theorem dX3_readsOrder_103 : decode cX3_readsOrder 103 = .ok (.istore 6, 2) := by decide +kernel
theorem dX3_readsOrder_105 : decode cX3_readsOrder 105 = .ok (.aload_n 0, 1) := by decide +kernel
theorem dX3_readsOrder_106 : decode cX3_readsOrder 106 = .ok (.iload_n 1, 1) := by decide +kernel
theorem dX3_readsOrder_107 : decode cX3_readsOrder 107 = .ok (.iconst 3, 1) := by decide +kernel
theorem dX3_readsOrder_108 : decode cX3_readsOrder 108 = .ok (.imul, 1) := by decide +kernel
theorem dX3_readsOrder_109 : decode cX3_readsOrder 109 = .ok (.iload 5, 2) := by decide +kernel
theorem dX3_readsOrder_111 : decode cX3_readsOrder 111 = .ok (.iadd, 1) := by decide +kernel
theorem dX3_readsOrder_112 : decode cX3_readsOrder 112 = .ok (.iload 6, 2) := by decide +kernel
theorem dX3_readsOrder_114 : decode cX3_readsOrder 114 = .ok (.invokevirtual 53, 3) := by decide +kernel
theorem dX3_readsOrder_117 : decode cX3_readsOrder 117 = .ok (.ifCond .ne 5, 3) := by decide +kernel
theorem dX3_readsOrder_120 : decode cX3_readsOrder 120 = .ok (.iconst 0, 1) := by decide +kernel
theorem dX3_readsOrder_121 : decode cX3_readsOrder 121 = .ok (.ireturn, 1) := by decide +kernel
theorem dX3_readsOrder_122 : decode cX3_readsOrder 122 = .ok (.iinc 5 1, 3) := by decide +kernel
theorem dX3_readsOrder_125 : decode cX3_readsOrder 125 = .ok (.goto (-45), 3) := by decide +kernel
theorem dX3_readsOrder_128 : decode cX3_readsOrder 128 = .ok (.aload_n 0, 1) := by decide +kernel
theorem dX3_readsOrder_129 : decode cX3_readsOrder 129 = .ok (.invokevirtual 39, 3) := by decide +kernel
theorem dX3_readsOrder_132 : decode cX3_readsOrder 132 = .ok (.aload_n 0, 1) := by decide +kernel
theorem dX3_readsOrder_133 : decode cX3_readsOrder 133 = .ok (.bipush 59, 2) := by decide +kernel
theorem dX3_readsOrder_135 : decode cX3_readsOrder 135 = .ok (.invokevirtual 57, 3) := by decide +kernel
theorem dX3_readsOrder_138 : decode cX3_readsOrder 138 = .ok (.ifCond .ne 13, 3) := by decide +kernel
theorem dX3_readsOrder_141 : decode cX3_readsOrder 141 = .ok (.aload_n 0, 1) := by decide +kernel
theorem dX3_readsOrder_142 : decode cX3_readsOrder 142 = .ok (.iconst 2, 1) := by decide +kernel
theorem dX3_readsOrder_143 : decode cX3_readsOrder 143 = .ok (.aload_n 0, 1) := by decide +kernel
theorem dX3_readsOrder_144 : decode cX3_readsOrder 144 = .ok (.getfield 29, 3) := by decide +kernel
theorem dX3_readsOrder_147 : decode cX3_readsOrder 147 = .ok (.invokevirtual 42, 3) := by decide +kernel
theorem dX3_readsOrder_150 : decode cX3_readsOrder 150 = .ok (.ireturn, 1) := by decide +kernel
theorem dX3_readsOrder_151 : decode cX3_readsOrder 151 = .ok (.aload_n 0, 1) := by decide +kernel
theorem dX3_readsOrder_152 : decode cX3_readsOrder 152 = .ok (.dup, 1) := by decide +kernel
theorem dX3_readsOrder_153 : decode cX3_readsOrder 153 = .ok (.getfield 29, 3) := by decide +kernel
theorem dX3_readsOrder_156 : decode cX3_readsOrder 156 = .ok (.iconst 1, 1) := by decide +kernel
theorem dX3_readsOrder_157 : decode cX3_readsOrder 157 = .ok (.iadd, 1) := by decide +kernel
theorem dX3_readsOrder_158 : decode cX3_readsOrder 158 = .ok (.putfield 29, 3) := by decide +kernel
theorem dX3_readsOrder_161 : decode cX3_readsOrder 161 = .ok (.iconst 1, 1) := by decide +kernel
theorem dX3_readsOrder_162 : decode cX3_readsOrder 162 = .ok (.ireturn, 1) := by decide +kernel
theorem dX3_readsNumber_0 : decode cX3_readsNumber 0 = .ok (.aload_n 0, 1) := by decide +kernel
theorem dX3_readsNumber_1 : decode cX3_readsNumber 1 = .ok (.invokevirtual 39, 3) := by decide +kernel
theorem dX3_readsNumber_4 : decode cX3_readsNumber 4 = .ok (.iload_n 2, 1) := by decide +kernel
theorem dX3_readsNumber_5 : decode cX3_readsNumber 5 = .ok (.ifCond .eq 16, 3) := by decide +kernel
theorem dX3_readsNumber_8 : decode cX3_readsNumber 8 = .ok (.aload_n 0, 1) := by decide +kernel
theorem dX3_readsNumber_9 : decode cX3_readsNumber 9 = .ok (.bipush 45, 2) := by decide +kernel
theorem dX3_readsNumber_11 : decode cX3_readsNumber 11 = .ok (.invokevirtual 57, 3) := by decide +kernel
theorem dX3_readsNumber_14 : decode cX3_readsNumber 14 = .ok (.ifCond .eq 7, 3) := by decide +kernel
theorem dX3_readsNumber_17 : decode cX3_readsNumber 17 = .ok (.iconst 1, 1) := by decide +kernel
theorem dX3_readsNumber_18 : decode cX3_readsNumber 18 = .ok (.goto 4, 3) := by decide +kernel
theorem dX3_readsNumber_21 : decode cX3_readsNumber 21 = .ok (.iconst 0, 1) := by decide +kernel
theorem dX3_readsNumber_22 : decode cX3_readsNumber 22 = .ok (.istore_n 3, 1) := by decide +kernel
theorem dX3_readsNumber_23 : decode cX3_readsNumber 23 = .ok (.iload_n 3, 1) := by decide +kernel
theorem dX3_readsNumber_24 : decode cX3_readsNumber 24 = .ok (.ifCond .eq 13, 3) := by decide +kernel
theorem dX3_readsNumber_27 : decode cX3_readsNumber 27 = .ok (.aload_n 0, 1) := by decide +kernel
theorem dX3_readsNumber_28 : decode cX3_readsNumber 28 = .ok (.dup, 1) := by decide +kernel
theorem dX3_readsNumber_29 : decode cX3_readsNumber 29 = .ok (.getfield 29, 3) := by decide +kernel
theorem dX3_readsNumber_32 : decode cX3_readsNumber 32 = .ok (.iconst 1, 1) := by decide +kernel
theorem dX3_readsNumber_33 : decode cX3_readsNumber 33 = .ok (.iadd, 1) := by decide +kernel
theorem dX3_readsNumber_34 : decode cX3_readsNumber 34 = .ok (.putfield 29, 3) := by decide +kernel
theorem dX3_readsNumber_37 : decode cX3_readsNumber 37 = .ok (.iconst 0, 1) := by decide +kernel
theorem dX3_readsNumber_38 : decode cX3_readsNumber 38 = .ok (.istore 4, 2) := by decide +kernel
theorem dX3_readsNumber_40 : decode cX3_readsNumber 40 = .ok (.iconst 0, 1) := by decide +kernel
theorem dX3_readsNumber_41 : decode cX3_readsNumber 41 = .ok (.istore 5, 2) := by decide +kernel
theorem dX3_readsNumber_43 : decode cX3_readsNumber 43 = .ok (.iload 5, 2) := by decide +kernel
theorem dX3_readsNumber_45 : decode cX3_readsNumber 45 = .ok (.iconst 3, 1) := by decide +kernel
theorem dX3_readsNumber_46 : decode cX3_readsNumber 46 = .ok (.if_icmp .ge 46, 3) := by decide +kernel
theorem dX3_readsNumber_49 : decode cX3_readsNumber 49 = .ok (.aload_n 0, 1) := by decide +kernel
theorem dX3_readsNumber_50 : decode cX3_readsNumber 50 = .ok (.invokevirtual 60, 3) := by decide +kernel
theorem dX3_readsNumber_53 : decode cX3_readsNumber 53 = .ok (.ifCond .eq 39, 3) := by decide +kernel
theorem dX3_readsNumber_56 : decode cX3_readsNumber 56 = .ok (.bipush 10, 2) := by decide +kernel
theorem dX3_readsNumber_58 : decode cX3_readsNumber 58 = .ok (.iload 4, 2) := by decide +kernel
theorem dX3_readsNumber_60 : decode cX3_readsNumber 60 = .ok (.imul, 1) := by decide +kernel
theorem dX3_readsNumber_61 : decode cX3_readsNumber 61 = .ok (.aload_n 0, 1) := by decide +kernel
theorem dX3_readsNumber_62 : decode cX3_readsNumber 62 = .ok (.getfield 11, 3) := by decide +kernel
theorem dX3_readsNumber_65 : decode cX3_readsNumber 65 = .ok (.aload_n 0, 1) := by decide +kernel
theorem dX3_readsNumber_66 : decode cX3_readsNumber 66 = .ok (.getfield 29, 3) := by decide +kernel
theorem dX3_readsNumber_69 : decode cX3_readsNumber 69 = .ok (.iaload, 1) := by decide +kernel
theorem dX3_readsNumber_70 : decode cX3_readsNumber 70 = .ok (.iadd, 1) := by decide +kernel
theorem dX3_readsNumber_71 : decode cX3_readsNumber 71 = .ok (.bipush 48, 2) := by decide +kernel
theorem dX3_readsNumber_73 : decode cX3_readsNumber 73 = .ok (.isub, 1) := by decide +kernel
theorem dX3_readsNumber_74 : decode cX3_readsNumber 74 = .ok (.istore 4, 2) := by decide +kernel
theorem dX3_readsNumber_76 : decode cX3_readsNumber 76 = .ok (.aload_n 0, 1) := by decide +kernel
theorem dX3_readsNumber_77 : decode cX3_readsNumber 77 = .ok (.dup, 1) := by decide +kernel
theorem dX3_readsNumber_78 : decode cX3_readsNumber 78 = .ok (.getfield 29, 3) := by decide +kernel
theorem dX3_readsNumber_81 : decode cX3_readsNumber 81 = .ok (.iconst 1, 1) := by decide +kernel
theorem dX3_readsNumber_82 : decode cX3_readsNumber 82 = .ok (.iadd, 1) := by decide +kernel
theorem dX3_readsNumber_83 : decode cX3_readsNumber 83 = .ok (.putfield 29, 3) := by decide +kernel
theorem dX3_readsNumber_86 : decode cX3_readsNumber 86 = .ok (.iinc 5 1, 3) := by decide +kernel
theorem dX3_readsNumber_89 : decode cX3_readsNumber 89 = .ok (.goto (-46), 3) := by decide +kernel
theorem dX3_readsNumber_92 : decode cX3_readsNumber 92 = .ok (.iload 5, 2) := by decide +kernel
theorem dX3_readsNumber_94 : decode cX3_readsNumber 94 = .ok (.ifCond .eq 10, 3) := by decide +kernel
theorem dX3_readsNumber_97 : decode cX3_readsNumber 97 = .ok (.aload_n 0, 1) := by decide +kernel
theorem dX3_readsNumber_98 : decode cX3_readsNumber 98 = .ok (.invokevirtual 60, 3) := by decide +kernel
theorem dX3_readsNumber_101 : decode cX3_readsNumber 101 = .ok (.ifCond .eq 13, 3) := by decide +kernel
theorem dX3_readsNumber_104 : decode cX3_readsNumber 104 = .ok (.aload_n 0, 1) := by decide +kernel
theorem dX3_readsNumber_105 : decode cX3_readsNumber 105 = .ok (.iconst 2, 1) := by decide +kernel
theorem dX3_readsNumber_106 : decode cX3_readsNumber 106 = .ok (.aload_n 0, 1) := by decide +kernel
theorem dX3_readsNumber_107 : decode cX3_readsNumber 107 = .ok (.getfield 29, 3) := by decide +kernel
theorem dX3_readsNumber_110 : decode cX3_readsNumber 110 = .ok (.invokevirtual 42, 3) := by decide +kernel
theorem dX3_readsNumber_113 : decode cX3_readsNumber 113 = .ok (.ireturn, 1) := by decide +kernel
theorem dX3_readsNumber_114 : decode cX3_readsNumber 114 = .ok (.aload_n 0, 1) := by decide +kernel
theorem dX3_readsNumber_115 : decode cX3_readsNumber 115 = .ok (.getfield 18, 3) := by decide +kernel
theorem dX3_readsNumber_118 : decode cX3_readsNumber 118 = .ok (.iload_n 1, 1) := by decide +kernel
theorem dX3_readsNumber_119 : decode cX3_readsNumber 119 = .ok (.iload_n 3, 1) := by decide +kernel
theorem dX3_readsNumber_120 : decode cX3_readsNumber 120 = .ok (.ifCond .eq 9, 3) := by decide +kernel
theorem dX3_readsNumber_123 : decode cX3_readsNumber 123 = .ok (.iload 4, 2) := by decide +kernel
theorem dX3_readsNumber_125 : decode cX3_readsNumber 125 = .ok (.ineg, 1) := by decide +kernel
theorem dX3_readsNumber_126 : decode cX3_readsNumber 126 = .ok (.goto 5, 3) := by decide +kernel
theorem dX3_readsNumber_129 : decode cX3_readsNumber 129 = .ok (.iload 4, 2) := by decide +kernel
theorem dX3_readsNumber_131 : decode cX3_readsNumber 131 = .ok (.iastore, 1) := by decide +kernel
theorem dX3_readsNumber_132 : decode cX3_readsNumber 132 = .ok (.iconst 1, 1) := by decide +kernel
theorem dX3_readsNumber_133 : decode cX3_readsNumber 133 = .ok (.ireturn, 1) := by decide +kernel
theorem dX3_faulty_0 : decode cX3_faulty 0 = .ok (.aload_n 0, 1) := by decide +kernel
theorem dX3_faulty_1 : decode cX3_faulty 1 = .ok (.iload_n 1, 1) := by decide +kernel
theorem dX3_faulty_2 : decode cX3_faulty 2 = .ok (.putfield 64, 3) := by decide +kernel
theorem dX3_faulty_5 : decode cX3_faulty 5 = .ok (.aload_n 0, 1) := by decide +kernel
theorem dX3_faulty_6 : decode cX3_faulty 6 = .ok (.iload_n 2, 1) := by decide +kernel
theorem dX3_faulty_7 : decode cX3_faulty 7 = .ok (.putfield 67, 3) := by decide +kernel
theorem dX3_faulty_10 : decode cX3_faulty 10 = .ok (.iconst 0, 1) := by decide +kernel
theorem dX3_faulty_11 : decode cX3_faulty 11 = .ok (.ireturn, 1) := by decide +kernel
theorem dX3_skipsBlanks_0 : decode cX3_skipsBlanks 0 = .ok (.aload_n 0, 1) := by decide +kernel
theorem dX3_skipsBlanks_1 : decode cX3_skipsBlanks 1 = .ok (.getfield 29, 3) := by decide +kernel
theorem dX3_skipsBlanks_4 : decode cX3_skipsBlanks 4 = .ok (.aload_n 0, 1) := by decide +kernel
theorem dX3_skipsBlanks_5 : decode cX3_skipsBlanks 5 = .ok (.getfield 25, 3) := by decide +kernel
theorem dX3_skipsBlanks_8 : decode cX3_skipsBlanks 8 = .ok (.if_icmp .ge 30, 3) := by decide +kernel
theorem dX3_skipsBlanks_11 : decode cX3_skipsBlanks 11 = .ok (.aload_n 0, 1) := by decide +kernel
theorem dX3_skipsBlanks_12 : decode cX3_skipsBlanks 12 = .ok (.getfield 11, 3) := by decide +kernel
theorem dX3_skipsBlanks_15 : decode cX3_skipsBlanks 15 = .ok (.aload_n 0, 1) := by decide +kernel
theorem dX3_skipsBlanks_16 : decode cX3_skipsBlanks 16 = .ok (.getfield 29, 3) := by decide +kernel
theorem dX3_skipsBlanks_19 : decode cX3_skipsBlanks 19 = .ok (.iaload, 1) := by decide +kernel
theorem dX3_skipsBlanks_20 : decode cX3_skipsBlanks 20 = .ok (.bipush 32, 2) := by decide +kernel
theorem dX3_skipsBlanks_22 : decode cX3_skipsBlanks 22 = .ok (.if_icmp .ne 16, 3) := by decide +kernel
theorem dX3_skipsBlanks_25 : decode cX3_skipsBlanks 25 = .ok (.aload_n 0, 1) := by decide +kernel
theorem dX3_skipsBlanks_26 : decode cX3_skipsBlanks 26 = .ok (.dup, 1) := by decide +kernel
theorem dX3_skipsBlanks_27 : decode cX3_skipsBlanks 27 = .ok (.getfield 29, 3) := by decide +kernel
theorem dX3_skipsBlanks_30 : decode cX3_skipsBlanks 30 = .ok (.iconst 1, 1) := by decide +kernel
theorem dX3_skipsBlanks_31 : decode cX3_skipsBlanks 31 = .ok (.iadd, 1) := by decide +kernel
theorem dX3_skipsBlanks_32 : decode cX3_skipsBlanks 32 = .ok (.putfield 29, 3) := by decide +kernel
theorem dX3_skipsBlanks_35 : decode cX3_skipsBlanks 35 = .ok (.goto (-35), 3) := by decide +kernel
theorem dX3_skipsBlanks_38 : decode cX3_skipsBlanks 38 = .ok (.return_, 1) := by decide +kernel
theorem dX3_skipsLetters_0 : decode cX3_skipsLetters 0 = .ok (.aload_n 0, 1) := by decide +kernel
theorem dX3_skipsLetters_1 : decode cX3_skipsLetters 1 = .ok (.getfield 29, 3) := by decide +kernel
theorem dX3_skipsLetters_4 : decode cX3_skipsLetters 4 = .ok (.aload_n 0, 1) := by decide +kernel
theorem dX3_skipsLetters_5 : decode cX3_skipsLetters 5 = .ok (.getfield 25, 3) := by decide +kernel
theorem dX3_skipsLetters_8 : decode cX3_skipsLetters 8 = .ok (.if_icmp .ge 35, 3) := by decide +kernel
theorem dX3_skipsLetters_11 : decode cX3_skipsLetters 11 = .ok (.aload_n 0, 1) := by decide +kernel
theorem dX3_skipsLetters_12 : decode cX3_skipsLetters 12 = .ok (.getfield 11, 3) := by decide +kernel
theorem dX3_skipsLetters_15 : decode cX3_skipsLetters 15 = .ok (.aload_n 0, 1) := by decide +kernel
theorem dX3_skipsLetters_16 : decode cX3_skipsLetters 16 = .ok (.getfield 29, 3) := by decide +kernel
theorem dX3_skipsLetters_19 : decode cX3_skipsLetters 19 = .ok (.iaload, 1) := by decide +kernel
theorem dX3_skipsLetters_20 : decode cX3_skipsLetters 20 = .ok (.bipush 97, 2) := by decide +kernel
theorem dX3_skipsLetters_22 : decode cX3_skipsLetters 22 = .ok (.bipush 122, 2) := by decide +kernel
theorem dX3_skipsLetters_24 : decode cX3_skipsLetters 24 = .ok (.invokestatic 21, 3) := by decide +kernel
theorem dX3_skipsLetters_27 : decode cX3_skipsLetters 27 = .ok (.ifCond .eq 16, 3) := by decide +kernel
theorem dX3_skipsLetters_30 : decode cX3_skipsLetters 30 = .ok (.aload_n 0, 1) := by decide +kernel
theorem dX3_skipsLetters_31 : decode cX3_skipsLetters 31 = .ok (.dup, 1) := by decide +kernel
theorem dX3_skipsLetters_32 : decode cX3_skipsLetters 32 = .ok (.getfield 29, 3) := by decide +kernel
theorem dX3_skipsLetters_35 : decode cX3_skipsLetters 35 = .ok (.iconst 1, 1) := by decide +kernel
theorem dX3_skipsLetters_36 : decode cX3_skipsLetters 36 = .ok (.iadd, 1) := by decide +kernel
theorem dX3_skipsLetters_37 : decode cX3_skipsLetters 37 = .ok (.putfield 29, 3) := by decide +kernel
theorem dX3_skipsLetters_40 : decode cX3_skipsLetters 40 = .ok (.goto (-40), 3) := by decide +kernel
theorem dX3_skipsLetters_43 : decode cX3_skipsLetters 43 = .ok (.return_, 1) := by decide +kernel
theorem dX3_isAt_0 : decode cX3_isAt 0 = .ok (.aload_n 0, 1) := by decide +kernel
theorem dX3_isAt_1 : decode cX3_isAt 1 = .ok (.getfield 29, 3) := by decide +kernel
theorem dX3_isAt_4 : decode cX3_isAt 4 = .ok (.aload_n 0, 1) := by decide +kernel
theorem dX3_isAt_5 : decode cX3_isAt 5 = .ok (.getfield 25, 3) := by decide +kernel
theorem dX3_isAt_8 : decode cX3_isAt 8 = .ok (.if_icmp .ge 20, 3) := by decide +kernel
theorem dX3_isAt_11 : decode cX3_isAt 11 = .ok (.aload_n 0, 1) := by decide +kernel
theorem dX3_isAt_12 : decode cX3_isAt 12 = .ok (.getfield 11, 3) := by decide +kernel
theorem dX3_isAt_15 : decode cX3_isAt 15 = .ok (.aload_n 0, 1) := by decide +kernel
theorem dX3_isAt_16 : decode cX3_isAt 16 = .ok (.getfield 29, 3) := by decide +kernel
theorem dX3_isAt_19 : decode cX3_isAt 19 = .ok (.iaload, 1) := by decide +kernel
theorem dX3_isAt_20 : decode cX3_isAt 20 = .ok (.iload_n 1, 1) := by decide +kernel
theorem dX3_isAt_21 : decode cX3_isAt 21 = .ok (.if_icmp .ne 7, 3) := by decide +kernel
theorem dX3_isAt_24 : decode cX3_isAt 24 = .ok (.iconst 1, 1) := by decide +kernel
theorem dX3_isAt_25 : decode cX3_isAt 25 = .ok (.goto 4, 3) := by decide +kernel
theorem dX3_isAt_28 : decode cX3_isAt 28 = .ok (.iconst 0, 1) := by decide +kernel
theorem dX3_isAt_29 : decode cX3_isAt 29 = .ok (.ireturn, 1) := by decide +kernel
theorem dX3_isAtFigure_0 : decode cX3_isAtFigure 0 = .ok (.aload_n 0, 1) := by decide +kernel
theorem dX3_isAtFigure_1 : decode cX3_isAtFigure 1 = .ok (.getfield 29, 3) := by decide +kernel
theorem dX3_isAtFigure_4 : decode cX3_isAtFigure 4 = .ok (.aload_n 0, 1) := by decide +kernel
theorem dX3_isAtFigure_5 : decode cX3_isAtFigure 5 = .ok (.getfield 25, 3) := by decide +kernel
theorem dX3_isAtFigure_8 : decode cX3_isAtFigure 8 = .ok (.if_icmp .ge 26, 3) := by decide +kernel
theorem dX3_isAtFigure_11 : decode cX3_isAtFigure 11 = .ok (.aload_n 0, 1) := by decide +kernel
theorem dX3_isAtFigure_12 : decode cX3_isAtFigure 12 = .ok (.getfield 11, 3) := by decide +kernel
theorem dX3_isAtFigure_15 : decode cX3_isAtFigure 15 = .ok (.aload_n 0, 1) := by decide +kernel
theorem dX3_isAtFigure_16 : decode cX3_isAtFigure 16 = .ok (.getfield 29, 3) := by decide +kernel
theorem dX3_isAtFigure_19 : decode cX3_isAtFigure 19 = .ok (.iaload, 1) := by decide +kernel
theorem dX3_isAtFigure_20 : decode cX3_isAtFigure 20 = .ok (.bipush 48, 2) := by decide +kernel
theorem dX3_isAtFigure_22 : decode cX3_isAtFigure 22 = .ok (.bipush 57, 2) := by decide +kernel
theorem dX3_isAtFigure_24 : decode cX3_isAtFigure 24 = .ok (.invokestatic 21, 3) := by decide +kernel
theorem dX3_isAtFigure_27 : decode cX3_isAtFigure 27 = .ok (.ifCond .eq 7, 3) := by decide +kernel
theorem dX3_isAtFigure_30 : decode cX3_isAtFigure 30 = .ok (.iconst 1, 1) := by decide +kernel
theorem dX3_isAtFigure_31 : decode cX3_isAtFigure 31 = .ok (.goto 4, 3) := by decide +kernel
theorem dX3_isAtFigure_34 : decode cX3_isAtFigure 34 = .ok (.iconst 0, 1) := by decide +kernel
theorem dX3_isAtFigure_35 : decode cX3_isAtFigure 35 = .ok (.ireturn, 1) := by decide +kernel
theorem dX3_wordBetween_0 : decode cX3_wordBetween 0 = .ok (.iconst 0, 1) := by decide +kernel
theorem dX3_wordBetween_1 : decode cX3_wordBetween 1 = .ok (.istore_n 3, 1) := by decide +kernel
theorem dX3_wordBetween_2 : decode cX3_wordBetween 2 = .ok (.iload_n 3, 1) := by decide +kernel
theorem dX3_wordBetween_3 : decode cX3_wordBetween 3 = .ok (.bipush 8, 2) := by decide +kernel
theorem dX3_wordBetween_5 : decode cX3_wordBetween 5 = .ok (.if_icmp .ge 24, 3) := by decide +kernel
theorem dX3_wordBetween_8 : decode cX3_wordBetween 8 = .ok (.aload_n 0, 1) := by decide +kernel
theorem dX3_wordBetween_9 : decode cX3_wordBetween 9 = .ok (.iload_n 1, 1) := by decide +kernel
theorem dX3_wordBetween_10 : decode cX3_wordBetween 10 = .ok (.iload_n 2, 1) := by decide +kernel
theorem dX3_wordBetween_11 : decode cX3_wordBetween 11 = .ok (.iload_n 3, 1) := by decide +kernel
theorem dX3_wordBetween_12 : decode cX3_wordBetween 12 = .ok (.invokestatic 70, 3) := by decide +kernel
theorem dX3_wordBetween_15 : decode cX3_wordBetween 15 = .ok (.invokevirtual 74, 3) := by decide +kernel
theorem dX3_wordBetween_18 : decode cX3_wordBetween 18 = .ok (.ifCond .eq 5, 3) := by decide +kernel
theorem dX3_wordBetween_21 : decode cX3_wordBetween 21 = .ok (.iload_n 3, 1) := by decide +kernel
theorem dX3_wordBetween_22 : decode cX3_wordBetween 22 = .ok (.ireturn, 1) := by decide +kernel
theorem dX3_wordBetween_23 : decode cX3_wordBetween 23 = .ok (.iinc 3 1, 3) := by decide +kernel
theorem dX3_wordBetween_26 : decode cX3_wordBetween 26 = .ok (.goto (-24), 3) := by decide +kernel
theorem dX3_wordBetween_29 : decode cX3_wordBetween 29 = .ok (.iconst (-1), 1) := by decide +kernel
theorem dX3_wordBetween_30 : decode cX3_wordBetween 30 = .ok (.ireturn, 1) := by decide +kernel
theorem dX3_spells_0 : decode cX3_spells 0 = .ok (.iload_n 2, 1) := by decide +kernel
theorem dX3_spells_1 : decode cX3_spells 1 = .ok (.iload_n 1, 1) := by decide +kernel
theorem dX3_spells_2 : decode cX3_spells 2 = .ok (.isub, 1) := by decide +kernel
theorem dX3_spells_3 : decode cX3_spells 3 = .ok (.aload_n 3, 1) := by decide +kernel
theorem dX3_spells_4 : decode cX3_spells 4 = .ok (.invokevirtual 78, 3) := by decide +kernel
theorem dX3_spells_7 : decode cX3_spells 7 = .ok (.if_icmp .eq 5, 3) := by decide +kernel
theorem dX3_spells_10 : decode cX3_spells 10 = .ok (.iconst 0, 1) := by decide +kernel
theorem dX3_spells_11 : decode cX3_spells 11 = .ok (.ireturn, 1) := by decide +kernel
theorem dX3_spells_12 : decode cX3_spells 12 = .ok (.iconst 0, 1) := by decide +kernel
theorem dX3_spells_13 : decode cX3_spells 13 = .ok (.istore 4, 2) := by decide +kernel
theorem dX3_spells_15 : decode cX3_spells 15 = .ok (.iload 4, 2) := by decide +kernel
theorem dX3_spells_17 : decode cX3_spells 17 = .ok (.aload_n 3, 1) := by decide +kernel
theorem dX3_spells_18 : decode cX3_spells 18 = .ok (.invokevirtual 78, 3) := by decide +kernel
theorem dX3_spells_21 : decode cX3_spells 21 = .ok (.if_icmp .ge 29, 3) := by decide +kernel
theorem dX3_spells_24 : decode cX3_spells 24 = .ok (.aload_n 0, 1) := by decide +kernel
theorem dX3_spells_25 : decode cX3_spells 25 = .ok (.getfield 11, 3) := by decide +kernel
theorem dX3_spells_28 : decode cX3_spells 28 = .ok (.iload_n 1, 1) := by decide +kernel
theorem dX3_spells_29 : decode cX3_spells 29 = .ok (.iload 4, 2) := by decide +kernel
theorem dX3_spells_31 : decode cX3_spells 31 = .ok (.iadd, 1) := by decide +kernel
theorem dX3_spells_32 : decode cX3_spells 32 = .ok (.iaload, 1) := by decide +kernel
theorem dX3_spells_33 : decode cX3_spells 33 = .ok (.aload_n 3, 1) := by decide +kernel
theorem dX3_spells_34 : decode cX3_spells 34 = .ok (.iload 4, 2) := by decide +kernel
theorem dX3_spells_36 : decode cX3_spells 36 = .ok (.invokevirtual 84, 3) := by decide +kernel
theorem dX3_spells_39 : decode cX3_spells 39 = .ok (.if_icmp .eq 5, 3) := by decide +kernel
theorem dX3_spells_42 : decode cX3_spells 42 = .ok (.iconst 0, 1) := by decide +kernel
theorem dX3_spells_43 : decode cX3_spells 43 = .ok (.ireturn, 1) := by decide +kernel
theorem dX3_spells_44 : decode cX3_spells 44 = .ok (.iinc 4 1, 3) := by decide +kernel
theorem dX3_spells_47 : decode cX3_spells 47 = .ok (.goto (-32), 3) := by decide +kernel
theorem dX3_spells_50 : decode cX3_spells 50 = .ok (.iconst 1, 1) := by decide +kernel
theorem dX3_spells_51 : decode cX3_spells 51 = .ok (.ireturn, 1) := by decide +kernel
theorem dX3_spelling_0 : decode cX3_spelling 0 = .ok (.iload_n 0, 1) := by decide +kernel
theorem dX3_spelling_1 : decode cX3_spelling 1 = .ok (.tableswitch 71 0 7 #[47, 50, 53, 56, 59, 62, 65, 68], 47) := by decide +kernel
theorem dX3_spelling_48 : decode cX3_spelling 48 = .ok (.ldc 88, 2) := by decide +kernel
theorem dX3_spelling_50 : decode cX3_spelling 50 = .ok (.areturn, 1) := by decide +kernel
theorem dX3_spelling_51 : decode cX3_spelling 51 = .ok (.ldc 90, 2) := by decide +kernel
theorem dX3_spelling_53 : decode cX3_spelling 53 = .ok (.areturn, 1) := by decide +kernel
theorem dX3_spelling_54 : decode cX3_spelling 54 = .ok (.ldc 92, 2) := by decide +kernel
theorem dX3_spelling_56 : decode cX3_spelling 56 = .ok (.areturn, 1) := by decide +kernel
theorem dX3_spelling_57 : decode cX3_spelling 57 = .ok (.ldc 94, 2) := by decide +kernel
theorem dX3_spelling_59 : decode cX3_spelling 59 = .ok (.areturn, 1) := by decide +kernel
theorem dX3_spelling_60 : decode cX3_spelling 60 = .ok (.ldc 96, 2) := by decide +kernel
theorem dX3_spelling_62 : decode cX3_spelling 62 = .ok (.areturn, 1) := by decide +kernel
theorem dX3_spelling_63 : decode cX3_spelling 63 = .ok (.ldc 98, 2) := by decide +kernel
theorem dX3_spelling_65 : decode cX3_spelling 65 = .ok (.areturn, 1) := by decide +kernel
theorem dX3_spelling_66 : decode cX3_spelling 66 = .ok (.ldc 100, 2) := by decide +kernel
theorem dX3_spelling_68 : decode cX3_spelling 68 = .ok (.areturn, 1) := by decide +kernel
theorem dX3_spelling_69 : decode cX3_spelling 69 = .ok (.ldc 102, 2) := by decide +kernel
theorem dX3_spelling_71 : decode cX3_spelling 71 = .ok (.areturn, 1) := by decide +kernel
theorem dX3_spelling_72 : decode cX3_spelling 72 = .ok (.ldc 104, 2) := by decide +kernel
theorem dX3_spelling_74 : decode cX3_spelling 74 = .ok (.areturn, 1) := by decide +kernel
theorem dX4_init_0 : decode cX4_init 0 = .ok (.aload_n 0, 1) := by decide +kernel
theorem dX4_init_1 : decode cX4_init 1 = .ok (.invokespecial 1, 3) := by decide +kernel
theorem dX4_init_4 : decode cX4_init 4 = .ok (.aload_n 0, 1) := by decide +kernel
theorem dX4_init_5 : decode cX4_init 5 = .ok (.new 7, 3) := by decide +kernel
theorem dX4_init_8 : decode cX4_init 8 = .ok (.dup, 1) := by decide +kernel
theorem dX4_init_9 : decode cX4_init 9 = .ok (.invokespecial 9, 3) := by decide +kernel
theorem dX4_init_12 : decode cX4_init 12 = .ok (.putfield 10, 3) := by decide +kernel
theorem dX4_init_15 : decode cX4_init 15 = .ok (.aload_n 0, 1) := by decide +kernel
theorem dX4_init_16 : decode cX4_init 16 = .ok (.new 16, 3) := by decide +kernel
theorem dX4_init_19 : decode cX4_init 19 = .ok (.dup, 1) := by decide +kernel
theorem dX4_init_20 : decode cX4_init 20 = .ok (.invokespecial 18, 3) := by decide +kernel
theorem dX4_init_23 : decode cX4_init 23 = .ok (.putfield 19, 3) := by decide +kernel
theorem dX4_init_26 : decode cX4_init 26 = .ok (.return_, 1) := by decide +kernel
theorem dX4_copies_0 : decode cX4_copies 0 = .ok (.aload_n 0, 1) := by decide +kernel
theorem dX4_copies_1 : decode cX4_copies 1 = .ok (.getfield 10, 3) := by decide +kernel
theorem dX4_copies_4 : decode cX4_copies 4 = .ok (.aload_n 1, 1) := by decide +kernel
theorem dX4_copies_5 : decode cX4_copies 5 = .ok (.getfield 10, 3) := by decide +kernel
theorem dX4_copies_8 : decode cX4_copies 8 = .ok (.invokevirtual 23, 3) := by decide +kernel
theorem dX4_copies_11 : decode cX4_copies 11 = .ok (.aload_n 0, 1) := by decide +kernel
theorem dX4_copies_12 : decode cX4_copies 12 = .ok (.getfield 19, 3) := by decide +kernel
theorem dX4_copies_15 : decode cX4_copies 15 = .ok (.aload_n 1, 1) := by decide +kernel
theorem dX4_copies_16 : decode cX4_copies 16 = .ok (.getfield 19, 3) := by decide +kernel
theorem dX4_copies_19 : decode cX4_copies 19 = .ok (.invokevirtual 27, 3) := by decide +kernel
theorem dX4_copies_22 : decode cX4_copies 22 = .ok (.return_, 1) := by decide +kernel
theorem dX5_init_0 : decode cX5_init 0 = .ok (.aload_n 0, 1) := by decide +kernel
theorem dX5_init_1 : decode cX5_init 1 = .ok (.invokespecial 3, 3) := by decide +kernel
theorem dX5_init_4 : decode cX5_init 4 = .ok (.aload_n 0, 1) := by decide +kernel
theorem dX5_init_5 : decode cX5_init 5 = .ok (.sipush 200, 3) := by decide +kernel
theorem dX5_init_8 : decode cX5_init 8 = .ok (.newarray .int, 2) := by decide +kernel
theorem dX5_init_10 : decode cX5_init 10 = .ok (.putfield 11, 3) := by decide +kernel
theorem dX5_init_13 : decode cX5_init 13 = .ok (.aload_n 0, 1) := by decide +kernel
theorem dX5_init_14 : decode cX5_init 14 = .ok (.sipush 200, 3) := by decide +kernel
theorem dX5_init_17 : decode cX5_init 17 = .ok (.newarray .int, 2) := by decide +kernel
theorem dX5_init_19 : decode cX5_init 19 = .ok (.putfield 15, 3) := by decide +kernel
theorem dX5_init_22 : decode cX5_init 22 = .ok (.aload_n 0, 1) := by decide +kernel
theorem dX5_init_23 : decode cX5_init 23 = .ok (.sipush 200, 3) := by decide +kernel
theorem dX5_init_26 : decode cX5_init 26 = .ok (.newarray .int, 2) := by decide +kernel
theorem dX5_init_28 : decode cX5_init 28 = .ok (.putfield 18, 3) := by decide +kernel
theorem dX5_init_31 : decode cX5_init 31 = .ok (.aload_n 0, 1) := by decide +kernel
theorem dX5_init_32 : decode cX5_init 32 = .ok (.getstatic 21, 3) := by decide +kernel
theorem dX5_init_35 : decode cX5_init 35 = .ok (.arraylength, 1) := by decide +kernel
theorem dX5_init_36 : decode cX5_init 36 = .ok (.newarray .int, 2) := by decide +kernel
theorem dX5_init_38 : decode cX5_init 38 = .ok (.putfield 24, 3) := by decide +kernel
theorem dX5_init_41 : decode cX5_init 41 = .ok (.aload_n 0, 1) := by decide +kernel
theorem dX5_init_42 : decode cX5_init 42 = .ok (.bipush 100, 2) := by decide +kernel
theorem dX5_init_44 : decode cX5_init 44 = .ok (.putfield 27, 3) := by decide +kernel
theorem dX5_init_47 : decode cX5_init 47 = .ok (.iconst 0, 1) := by decide +kernel
theorem dX5_init_48 : decode cX5_init 48 = .ok (.istore_n 1, 1) := by decide +kernel
theorem dX5_init_49 : decode cX5_init 49 = .ok (.iload_n 1, 1) := by decide +kernel
theorem dX5_init_50 : decode cX5_init 50 = .ok (.bipush 100, 2) := by decide +kernel
theorem dX5_init_52 : decode cX5_init 52 = .ok (.if_icmp .ge 17, 3) := by decide +kernel
theorem dX5_init_55 : decode cX5_init 55 = .ok (.aload_n 0, 1) := by decide +kernel
theorem dX5_init_56 : decode cX5_init 56 = .ok (.getfield 11, 3) := by decide +kernel
theorem dX5_init_59 : decode cX5_init 59 = .ok (.iload_n 1, 1) := by decide +kernel
theorem dX5_init_60 : decode cX5_init 60 = .ok (.bipush 40, 2) := by decide +kernel
theorem dX5_init_62 : decode cX5_init 62 = .ok (.iastore, 1) := by decide +kernel
theorem dX5_init_63 : decode cX5_init 63 = .ok (.iinc 1 1, 3) := by decide +kernel
theorem dX5_init_66 : decode cX5_init 66 = .ok (.goto (-17), 3) := by decide +kernel
theorem dX5_init_69 : decode cX5_init 69 = .ok (.getstatic 21, 3) := by decide +kernel
theorem dX5_init_72 : decode cX5_init 72 = .ok (.iconst 0, 1) := by decide +kernel
theorem dX5_init_73 : decode cX5_init 73 = .ok (.aload_n 0, 1) := by decide +kernel
theorem dX5_init_74 : decode cX5_init 74 = .ok (.getfield 24, 3) := by decide +kernel
theorem dX5_init_77 : decode cX5_init 77 = .ok (.iconst 0, 1) := by decide +kernel
theorem dX5_init_78 : decode cX5_init 78 = .ok (.getstatic 21, 3) := by decide +kernel
theorem dX5_init_81 : decode cX5_init 81 = .ok (.arraylength, 1) := by decide +kernel
theorem dX5_init_82 : decode cX5_init 82 = .ok (.invokestatic 31, 3) := by decide +kernel
theorem dX5_init_85 : decode cX5_init 85 = .ok (.return_, 1) := by decide +kernel
theorem dX5_copies_0 : decode cX5_copies 0 = .ok (.aload_n 0, 1) := by decide +kernel
theorem dX5_copies_1 : decode cX5_copies 1 = .ok (.aload_n 1, 1) := by decide +kernel
theorem dX5_copies_2 : decode cX5_copies 2 = .ok (.getfield 27, 3) := by decide +kernel
theorem dX5_copies_5 : decode cX5_copies 5 = .ok (.putfield 27, 3) := by decide +kernel
theorem dX5_copies_8 : decode cX5_copies 8 = .ok (.aload_n 1, 1) := by decide +kernel
theorem dX5_copies_9 : decode cX5_copies 9 = .ok (.getfield 11, 3) := by decide +kernel
theorem dX5_copies_12 : decode cX5_copies 12 = .ok (.iconst 0, 1) := by decide +kernel
theorem dX5_copies_13 : decode cX5_copies 13 = .ok (.aload_n 0, 1) := by decide +kernel
theorem dX5_copies_14 : decode cX5_copies 14 = .ok (.getfield 11, 3) := by decide +kernel
theorem dX5_copies_17 : decode cX5_copies 17 = .ok (.iconst 0, 1) := by decide +kernel
theorem dX5_copies_18 : decode cX5_copies 18 = .ok (.sipush 200, 3) := by decide +kernel
theorem dX5_copies_21 : decode cX5_copies 21 = .ok (.invokestatic 31, 3) := by decide +kernel
theorem dX5_copies_24 : decode cX5_copies 24 = .ok (.aload_n 1, 1) := by decide +kernel
theorem dX5_copies_25 : decode cX5_copies 25 = .ok (.getfield 15, 3) := by decide +kernel
theorem dX5_copies_28 : decode cX5_copies 28 = .ok (.iconst 0, 1) := by decide +kernel
theorem dX5_copies_29 : decode cX5_copies 29 = .ok (.aload_n 0, 1) := by decide +kernel
theorem dX5_copies_30 : decode cX5_copies 30 = .ok (.getfield 15, 3) := by decide +kernel
theorem dX5_copies_33 : decode cX5_copies 33 = .ok (.iconst 0, 1) := by decide +kernel
theorem dX5_copies_34 : decode cX5_copies 34 = .ok (.sipush 200, 3) := by decide +kernel
theorem dX5_copies_37 : decode cX5_copies 37 = .ok (.invokestatic 31, 3) := by decide +kernel
theorem dX5_copies_40 : decode cX5_copies 40 = .ok (.aload_n 1, 1) := by decide +kernel
theorem dX5_copies_41 : decode cX5_copies 41 = .ok (.getfield 18, 3) := by decide +kernel
theorem dX5_copies_44 : decode cX5_copies 44 = .ok (.iconst 0, 1) := by decide +kernel
theorem dX5_copies_45 : decode cX5_copies 45 = .ok (.aload_n 0, 1) := by decide +kernel
theorem dX5_copies_46 : decode cX5_copies 46 = .ok (.getfield 18, 3) := by decide +kernel
theorem dX5_copies_49 : decode cX5_copies 49 = .ok (.iconst 0, 1) := by decide +kernel
theorem dX5_copies_50 : decode cX5_copies 50 = .ok (.sipush 200, 3) := by decide +kernel
theorem dX5_copies_53 : decode cX5_copies 53 = .ok (.invokestatic 31, 3) := by decide +kernel
theorem dX5_copies_56 : decode cX5_copies 56 = .ok (.aload_n 1, 1) := by decide +kernel
theorem dX5_copies_57 : decode cX5_copies 57 = .ok (.getfield 24, 3) := by decide +kernel
theorem dX5_copies_60 : decode cX5_copies 60 = .ok (.iconst 0, 1) := by decide +kernel
theorem dX5_copies_61 : decode cX5_copies 61 = .ok (.aload_n 0, 1) := by decide +kernel
theorem dX5_copies_62 : decode cX5_copies 62 = .ok (.getfield 24, 3) := by decide +kernel
theorem dX5_copies_65 : decode cX5_copies 65 = .ok (.iconst 0, 1) := by decide +kernel
theorem dX5_copies_66 : decode cX5_copies 66 = .ok (.getstatic 21, 3) := by decide +kernel
theorem dX5_copies_69 : decode cX5_copies 69 = .ok (.arraylength, 1) := by decide +kernel
theorem dX5_copies_70 : decode cX5_copies 70 = .ok (.invokestatic 31, 3) := by decide +kernel
theorem dX5_copies_73 : decode cX5_copies 73 = .ok (.return_, 1) := by decide +kernel
theorem dX5_has_0 : decode cX5_has 0 = .ok (.iload_n 1, 1) := by decide +kernel
theorem dX5_has_1 : decode cX5_has 1 = .ok (.iconst 0, 1) := by decide +kernel
theorem dX5_has_2 : decode cX5_has 2 = .ok (.aload_n 0, 1) := by decide +kernel
theorem dX5_has_3 : decode cX5_has 3 = .ok (.getfield 27, 3) := by decide +kernel
theorem dX5_has_6 : decode cX5_has 6 = .ok (.iconst 1, 1) := by decide +kernel
theorem dX5_has_7 : decode cX5_has 7 = .ok (.isub, 1) := by decide +kernel
theorem dX5_has_8 : decode cX5_has 8 = .ok (.invokestatic 37, 3) := by decide +kernel
theorem dX5_has_11 : decode cX5_has 11 = .ok (.ireturn, 1) := by decide +kernel
theorem dX5_decel_0 : decode cX5_decel 0 = .ok (.iconst 1, 1) := by decide +kernel
theorem dX5_decel_1 : decode cX5_decel 1 = .ok (.aload_n 0, 1) := by decide +kernel
theorem dX5_decel_2 : decode cX5_decel 2 = .ok (.getfield 24, 3) := by decide +kernel
theorem dX5_decel_5 : decode cX5_decel 5 = .ok (.iconst 0, 1) := by decide +kernel
theorem dX5_decel_6 : decode cX5_decel 6 = .ok (.iaload, 1) := by decide +kernel
theorem dX5_decel_7 : decode cX5_decel 7 = .ok (.aload_n 0, 1) := by decide +kernel
theorem dX5_decel_8 : decode cX5_decel 8 = .ok (.getfield 15, 3) := by decide +kernel
theorem dX5_decel_11 : decode cX5_decel 11 = .ok (.iload_n 1, 1) := by decide +kernel
theorem dX5_decel_12 : decode cX5_decel 12 = .ok (.iaload, 1) := by decide +kernel
theorem dX5_decel_13 : decode cX5_decel 13 = .ok (.iadd, 1) := by decide +kernel
theorem dX5_decel_14 : decode cX5_decel 14 = .ok (.invokestatic 41, 3) := by decide +kernel
theorem dX5_decel_17 : decode cX5_decel 17 = .ok (.ireturn, 1) := by decide +kernel
theorem dX5_resized_0 : decode cX5_resized 0 = .ok (.iload_n 1, 1) := by decide +kernel
theorem dX5_resized_1 : decode cX5_resized 1 = .ok (.iconst 5, 1) := by decide +kernel
theorem dX5_resized_2 : decode cX5_resized 2 = .ok (.sipush 200, 3) := by decide +kernel
theorem dX5_resized_5 : decode cX5_resized 5 = .ok (.invokestatic 37, 3) := by decide +kernel
theorem dX5_resized_8 : decode cX5_resized 8 = .ok (.ifCond .ne 6, 3) := by decide +kernel
theorem dX5_resized_11 : decode cX5_resized 11 = .ok (.bipush (-2), 2) := by decide +kernel
theorem dX5_resized_13 : decode cX5_resized 13 = .ok (.ireturn, 1) := by decide +kernel
theorem dX5_resized_14 : decode cX5_resized 14 = .ok (.aload_n 0, 1) := by decide +kernel
theorem dX5_resized_15 : decode cX5_resized 15 = .ok (.getfield 27, 3) := by decide +kernel
theorem dX5_resized_18 : decode cX5_resized 18 = .ok (.istore_n 2, 1) := by decide +kernel
theorem dX5_resized_19 : decode cX5_resized 19 = .ok (.iload_n 2, 1) := by decide +kernel
theorem dX5_resized_20 : decode cX5_resized 20 = .ok (.istore_n 3, 1) := by decide +kernel
theorem dX5_resized_21 : decode cX5_resized 21 = .ok (.iload_n 3, 1) := by decide +kernel
theorem dX5_resized_22 : decode cX5_resized 22 = .ok (.iload_n 1, 1) := by decide +kernel
theorem dX5_resized_23 : decode cX5_resized 23 = .ok (.if_icmp .ge 31, 3) := by decide +kernel
theorem dX5_resized_26 : decode cX5_resized 26 = .ok (.aload_n 0, 1) := by decide +kernel
theorem dX5_resized_27 : decode cX5_resized 27 = .ok (.getfield 11, 3) := by decide +kernel
theorem dX5_resized_30 : decode cX5_resized 30 = .ok (.iload_n 3, 1) := by decide +kernel
theorem dX5_resized_31 : decode cX5_resized 31 = .ok (.bipush 40, 2) := by decide +kernel
theorem dX5_resized_33 : decode cX5_resized 33 = .ok (.iastore, 1) := by decide +kernel
theorem dX5_resized_34 : decode cX5_resized 34 = .ok (.aload_n 0, 1) := by decide +kernel
theorem dX5_resized_35 : decode cX5_resized 35 = .ok (.getfield 15, 3) := by decide +kernel
theorem dX5_resized_38 : decode cX5_resized 38 = .ok (.iload_n 3, 1) := by decide +kernel
theorem dX5_resized_39 : decode cX5_resized 39 = .ok (.iconst 0, 1) := by decide +kernel
theorem dX5_resized_40 : decode cX5_resized 40 = .ok (.iastore, 1) := by decide +kernel
theorem dX5_resized_41 : decode cX5_resized 41 = .ok (.aload_n 0, 1) := by decide +kernel
theorem dX5_resized_42 : decode cX5_resized 42 = .ok (.getfield 18, 3) := by decide +kernel
theorem dX5_resized_45 : decode cX5_resized 45 = .ok (.iload_n 3, 1) := by decide +kernel
theorem dX5_resized_46 : decode cX5_resized 46 = .ok (.iconst 0, 1) := by decide +kernel
theorem dX5_resized_47 : decode cX5_resized 47 = .ok (.iastore, 1) := by decide +kernel
theorem dX5_resized_48 : decode cX5_resized 48 = .ok (.iinc 3 1, 3) := by decide +kernel
theorem dX5_resized_51 : decode cX5_resized 51 = .ok (.goto (-30), 3) := by decide +kernel
theorem dX5_resized_54 : decode cX5_resized 54 = .ok (.aload_n 0, 1) := by decide +kernel
theorem dX5_resized_55 : decode cX5_resized 55 = .ok (.iload_n 1, 1) := by decide +kernel
theorem dX5_resized_56 : decode cX5_resized 56 = .ok (.putfield 27, 3) := by decide +kernel
theorem dX5_resized_59 : decode cX5_resized 59 = .ok (.iload_n 2, 1) := by decide +kernel
theorem dX5_resized_60 : decode cX5_resized 60 = .ok (.ireturn, 1) := by decide +kernel
theorem dX5_relaid_0 : decode cX5_relaid 0 = .ok (.aload_n 0, 1) := by decide +kernel
theorem dX5_relaid_1 : decode cX5_relaid 1 = .ok (.iload_n 2, 1) := by decide +kernel
theorem dX5_relaid_2 : decode cX5_relaid 2 = .ok (.invokevirtual 47, 3) := by decide +kernel
theorem dX5_relaid_5 : decode cX5_relaid 5 = .ok (.ifCond .eq 16, 3) := by decide +kernel
theorem dX5_relaid_8 : decode cX5_relaid 8 = .ok (.aload_n 0, 1) := by decide +kernel
theorem dX5_relaid_9 : decode cX5_relaid 9 = .ok (.iload_n 3, 1) := by decide +kernel
theorem dX5_relaid_10 : decode cX5_relaid 10 = .ok (.invokevirtual 47, 3) := by decide +kernel
theorem dX5_relaid_13 : decode cX5_relaid 13 = .ok (.ifCond .eq 8, 3) := by decide +kernel
theorem dX5_relaid_16 : decode cX5_relaid 16 = .ok (.iload_n 2, 1) := by decide +kernel
theorem dX5_relaid_17 : decode cX5_relaid 17 = .ok (.iload_n 3, 1) := by decide +kernel
theorem dX5_relaid_18 : decode cX5_relaid 18 = .ok (.if_icmp .le 6, 3) := by decide +kernel
theorem dX5_relaid_21 : decode cX5_relaid 21 = .ok (.bipush (-2), 2) := by decide +kernel
theorem dX5_relaid_23 : decode cX5_relaid 23 = .ok (.ireturn, 1) := by decide +kernel
theorem dX5_relaid_24 : decode cX5_relaid 24 = .ok (.iload_n 1, 1) := by decide +kernel
theorem dX5_relaid_25 : decode cX5_relaid 25 = .ok (.ifCond .ne 26, 3) := by decide +kernel
theorem dX5_relaid_28 : decode cX5_relaid 28 = .ok (.iload 4, 2) := by decide +kernel
theorem dX5_relaid_30 : decode cX5_relaid 30 = .ok (.iconst 0, 1) := by decide +kernel
theorem dX5_relaid_31 : decode cX5_relaid 31 = .ok (.bipush 60, 2) := by decide +kernel
theorem dX5_relaid_33 : decode cX5_relaid 33 = .ok (.invokestatic 37, 3) := by decide +kernel
theorem dX5_relaid_36 : decode cX5_relaid 36 = .ok (.ifCond .eq 15, 3) := by decide +kernel
theorem dX5_relaid_39 : decode cX5_relaid 39 = .ok (.aload_n 0, 1) := by decide +kernel
theorem dX5_relaid_40 : decode cX5_relaid 40 = .ok (.getfield 11, 3) := by decide +kernel
theorem dX5_relaid_43 : decode cX5_relaid 43 = .ok (.iload_n 2, 1) := by decide +kernel
theorem dX5_relaid_44 : decode cX5_relaid 44 = .ok (.iload_n 3, 1) := by decide +kernel
theorem dX5_relaid_45 : decode cX5_relaid 45 = .ok (.iload 4, 2) := by decide +kernel
theorem dX5_relaid_47 : decode cX5_relaid 47 = .ok (.invokestatic 51, 3) := by decide +kernel
theorem dX5_relaid_50 : decode cX5_relaid 50 = .ok (.ireturn, 1) := by decide +kernel
theorem dX5_relaid_51 : decode cX5_relaid 51 = .ok (.iload_n 1, 1) := by decide +kernel
theorem dX5_relaid_52 : decode cX5_relaid 52 = .ok (.iconst 1, 1) := by decide +kernel
theorem dX5_relaid_53 : decode cX5_relaid 53 = .ok (.if_icmp .ne 27, 3) := by decide +kernel
theorem dX5_relaid_56 : decode cX5_relaid 56 = .ok (.iload 4, 2) := by decide +kernel
theorem dX5_relaid_58 : decode cX5_relaid 58 = .ok (.bipush (-20), 2) := by decide +kernel
theorem dX5_relaid_60 : decode cX5_relaid 60 = .ok (.bipush 20, 2) := by decide +kernel
theorem dX5_relaid_62 : decode cX5_relaid 62 = .ok (.invokestatic 37, 3) := by decide +kernel
theorem dX5_relaid_65 : decode cX5_relaid 65 = .ok (.ifCond .eq 15, 3) := by decide +kernel
theorem dX5_relaid_68 : decode cX5_relaid 68 = .ok (.aload_n 0, 1) := by decide +kernel
theorem dX5_relaid_69 : decode cX5_relaid 69 = .ok (.getfield 15, 3) := by decide +kernel
theorem dX5_relaid_72 : decode cX5_relaid 72 = .ok (.iload_n 2, 1) := by decide +kernel
theorem dX5_relaid_73 : decode cX5_relaid 73 = .ok (.iload_n 3, 1) := by decide +kernel
theorem dX5_relaid_74 : decode cX5_relaid 74 = .ok (.iload 4, 2) := by decide +kernel
theorem dX5_relaid_76 : decode cX5_relaid 76 = .ok (.invokestatic 51, 3) := by decide +kernel
theorem dX5_relaid_79 : decode cX5_relaid 79 = .ok (.ireturn, 1) := by decide +kernel
theorem dX5_relaid_80 : decode cX5_relaid 80 = .ok (.bipush (-2), 2) := by decide +kernel
theorem dX5_relaid_82 : decode cX5_relaid 82 = .ok (.ireturn, 1) := by decide +kernel
theorem dX5_filled_0 : decode cX5_filled 0 = .ok (.iconst 0, 1) := by decide +kernel
theorem dX5_filled_1 : decode cX5_filled 1 = .ok (.istore 4, 2) := by decide +kernel
theorem dX5_filled_3 : decode cX5_filled 3 = .ok (.iload_n 1, 1) := by decide +kernel
theorem dX5_filled_4 : decode cX5_filled 4 = .ok (.istore 5, 2) := by decide +kernel
theorem dX5_filled_6 : decode cX5_filled 6 = .ok (.iload 5, 2) := by decide +kernel
theorem dX5_filled_8 : decode cX5_filled 8 = .ok (.iload_n 2, 1) := by decide +kernel
theorem dX5_filled_9 : decode cX5_filled 9 = .ok (.if_icmp .gt 25, 3) := by decide +kernel
theorem dX5_filled_12 : decode cX5_filled 12 = .ok (.aload_n 0, 1) := by decide +kernel
theorem dX5_filled_13 : decode cX5_filled 13 = .ok (.iload 5, 2) := by decide +kernel
theorem dX5_filled_15 : decode cX5_filled 15 = .ok (.iaload, 1) := by decide +kernel
theorem dX5_filled_16 : decode cX5_filled 16 = .ok (.iload_n 3, 1) := by decide +kernel
theorem dX5_filled_17 : decode cX5_filled 17 = .ok (.if_icmp .eq 11, 3) := by decide +kernel
theorem dX5_filled_20 : decode cX5_filled 20 = .ok (.iinc 4 1, 3) := by decide +kernel
theorem dX5_filled_23 : decode cX5_filled 23 = .ok (.aload_n 0, 1) := by decide +kernel
theorem dX5_filled_24 : decode cX5_filled 24 = .ok (.iload 5, 2) := by decide +kernel
theorem dX5_filled_26 : decode cX5_filled 26 = .ok (.iload_n 3, 1) := by decide +kernel
theorem dX5_filled_27 : decode cX5_filled 27 = .ok (.iastore, 1) := by decide +kernel
theorem dX5_filled_28 : decode cX5_filled 28 = .ok (.iinc 5 1, 3) := by decide +kernel
theorem dX5_filled_31 : decode cX5_filled 31 = .ok (.goto (-25), 3) := by decide +kernel
theorem dX5_filled_34 : decode cX5_filled 34 = .ok (.iload 4, 2) := by decide +kernel
theorem dX5_filled_36 : decode cX5_filled 36 = .ok (.ireturn, 1) := by decide +kernel
theorem dX5_marked_0 : decode cX5_marked 0 = .ok (.aload_n 0, 1) := by decide +kernel
theorem dX5_marked_1 : decode cX5_marked 1 = .ok (.iload_n 1, 1) := by decide +kernel
theorem dX5_marked_2 : decode cX5_marked 2 = .ok (.invokevirtual 47, 3) := by decide +kernel
theorem dX5_marked_5 : decode cX5_marked 5 = .ok (.ifCond .eq 12, 3) := by decide +kernel
theorem dX5_marked_8 : decode cX5_marked 8 = .ok (.iload_n 2, 1) := by decide +kernel
theorem dX5_marked_9 : decode cX5_marked 9 = .ok (.iconst 0, 1) := by decide +kernel
theorem dX5_marked_10 : decode cX5_marked 10 = .ok (.iconst 1, 1) := by decide +kernel
theorem dX5_marked_11 : decode cX5_marked 11 = .ok (.invokestatic 37, 3) := by decide +kernel
theorem dX5_marked_14 : decode cX5_marked 14 = .ok (.ifCond .ne 6, 3) := by decide +kernel
theorem dX5_marked_17 : decode cX5_marked 17 = .ok (.bipush (-2), 2) := by decide +kernel
theorem dX5_marked_19 : decode cX5_marked 19 = .ok (.ireturn, 1) := by decide +kernel
theorem dX5_marked_20 : decode cX5_marked 20 = .ok (.aload_n 0, 1) := by decide +kernel
theorem dX5_marked_21 : decode cX5_marked 21 = .ok (.getfield 18, 3) := by decide +kernel
theorem dX5_marked_24 : decode cX5_marked 24 = .ok (.iload_n 1, 1) := by decide +kernel
theorem dX5_marked_25 : decode cX5_marked 25 = .ok (.iaload, 1) := by decide +kernel
theorem dX5_marked_26 : decode cX5_marked 26 = .ok (.istore_n 3, 1) := by decide +kernel
theorem dX5_marked_27 : decode cX5_marked 27 = .ok (.aload_n 0, 1) := by decide +kernel
theorem dX5_marked_28 : decode cX5_marked 28 = .ok (.getfield 18, 3) := by decide +kernel
theorem dX5_marked_31 : decode cX5_marked 31 = .ok (.iload_n 1, 1) := by decide +kernel
theorem dX5_marked_32 : decode cX5_marked 32 = .ok (.iload_n 2, 1) := by decide +kernel
theorem dX5_marked_33 : decode cX5_marked 33 = .ok (.iastore, 1) := by decide +kernel
theorem dX5_marked_34 : decode cX5_marked 34 = .ok (.iload_n 3, 1) := by decide +kernel
theorem dX5_marked_35 : decode cX5_marked 35 = .ok (.ireturn, 1) := by decide +kernel
theorem dX5_adjusted_0 : decode cX5_adjusted 0 = .ok (.iload_n 1, 1) := by decide +kernel
theorem dX5_adjusted_1 : decode cX5_adjusted 1 = .ok (.iconst 0, 1) := by decide +kernel
theorem dX5_adjusted_2 : decode cX5_adjusted 2 = .ok (.bipush 6, 2) := by decide +kernel
theorem dX5_adjusted_4 : decode cX5_adjusted 4 = .ok (.invokestatic 37, 3) := by decide +kernel
theorem dX5_adjusted_7 : decode cX5_adjusted 7 = .ok (.ifCond .eq 20, 3) := by decide +kernel
theorem dX5_adjusted_10 : decode cX5_adjusted 10 = .ok (.iload_n 2, 1) := by decide +kernel
theorem dX5_adjusted_11 : decode cX5_adjusted 11 = .ok (.getstatic 55, 3) := by decide +kernel
theorem dX5_adjusted_14 : decode cX5_adjusted 14 = .ok (.iload_n 1, 1) := by decide +kernel
theorem dX5_adjusted_15 : decode cX5_adjusted 15 = .ok (.iaload, 1) := by decide +kernel
theorem dX5_adjusted_16 : decode cX5_adjusted 16 = .ok (.getstatic 58, 3) := by decide +kernel
theorem dX5_adjusted_19 : decode cX5_adjusted 19 = .ok (.iload_n 1, 1) := by decide +kernel
theorem dX5_adjusted_20 : decode cX5_adjusted 20 = .ok (.iaload, 1) := by decide +kernel
theorem dX5_adjusted_21 : decode cX5_adjusted 21 = .ok (.invokestatic 37, 3) := by decide +kernel
theorem dX5_adjusted_24 : decode cX5_adjusted 24 = .ok (.ifCond .ne 6, 3) := by decide +kernel
theorem dX5_adjusted_27 : decode cX5_adjusted 27 = .ok (.bipush (-2), 2) := by decide +kernel
theorem dX5_adjusted_29 : decode cX5_adjusted 29 = .ok (.ireturn, 1) := by decide +kernel
theorem dX5_adjusted_30 : decode cX5_adjusted 30 = .ok (.aload_n 0, 1) := by decide +kernel
theorem dX5_adjusted_31 : decode cX5_adjusted 31 = .ok (.getfield 24, 3) := by decide +kernel
theorem dX5_adjusted_34 : decode cX5_adjusted 34 = .ok (.iload_n 1, 1) := by decide +kernel
theorem dX5_adjusted_35 : decode cX5_adjusted 35 = .ok (.iaload, 1) := by decide +kernel
theorem dX5_adjusted_36 : decode cX5_adjusted 36 = .ok (.istore_n 3, 1) := by decide +kernel
theorem dX5_adjusted_37 : decode cX5_adjusted 37 = .ok (.aload_n 0, 1) := by decide +kernel
theorem dX5_adjusted_38 : decode cX5_adjusted 38 = .ok (.getfield 24, 3) := by decide +kernel
theorem dX5_adjusted_41 : decode cX5_adjusted 41 = .ok (.iload_n 1, 1) := by decide +kernel
theorem dX5_adjusted_42 : decode cX5_adjusted 42 = .ok (.iload_n 2, 1) := by decide +kernel
theorem dX5_adjusted_43 : decode cX5_adjusted 43 = .ok (.iastore, 1) := by decide +kernel
theorem dX5_adjusted_44 : decode cX5_adjusted 44 = .ok (.iload_n 3, 1) := by decide +kernel
theorem dX5_adjusted_45 : decode cX5_adjusted 45 = .ok (.ireturn, 1) := by decide +kernel
theorem dX5_cellsToStand_0 : decode cX5_cellsToStand 0 = .ok (.iload_n 2, 1) := by decide +kernel
theorem dX5_cellsToStand_1 : decode cX5_cellsToStand 1 = .ok (.iload_n 2, 1) := by decide +kernel
theorem dX5_cellsToStand_2 : decode cX5_cellsToStand 2 = .ok (.imul, 1) := by decide +kernel
theorem dX5_cellsToStand_3 : decode cX5_cellsToStand 3 = .ok (.istore_n 3, 1) := by decide +kernel
theorem dX5_cellsToStand_4 : decode cX5_cellsToStand 4 = .ok (.iload_n 1, 1) := by decide +kernel
theorem dX5_cellsToStand_5 : decode cX5_cellsToStand 5 = .ok (.istore 4, 2) := by decide +kernel
theorem dX5_cellsToStand_7 : decode cX5_cellsToStand 7 = .ok (.iload 4, 2) := by decide +kernel
theorem dX5_cellsToStand_9 : decode cX5_cellsToStand 9 = .ok (.aload_n 0, 1) := by decide +kernel
theorem dX5_cellsToStand_10 : decode cX5_cellsToStand 10 = .ok (.getfield 27, 3) := by decide +kernel
theorem dX5_cellsToStand_13 : decode cX5_cellsToStand 13 = .ok (.if_icmp .ge 27, 3) := by decide +kernel
theorem dX5_cellsToStand_16 : decode cX5_cellsToStand 16 = .ok (.iload_n 3, 1) := by decide +kernel
theorem dX5_cellsToStand_17 : decode cX5_cellsToStand 17 = .ok (.aload_n 0, 1) := by decide +kernel
theorem dX5_cellsToStand_18 : decode cX5_cellsToStand 18 = .ok (.iload 4, 2) := by decide +kernel
theorem dX5_cellsToStand_20 : decode cX5_cellsToStand 20 = .ok (.invokevirtual 61, 3) := by decide +kernel
theorem dX5_cellsToStand_23 : decode cX5_cellsToStand 23 = .ok (.isub, 1) := by decide +kernel
theorem dX5_cellsToStand_24 : decode cX5_cellsToStand 24 = .ok (.istore_n 3, 1) := by decide +kernel
theorem dX5_cellsToStand_25 : decode cX5_cellsToStand 25 = .ok (.iload_n 3, 1) := by decide +kernel
theorem dX5_cellsToStand_26 : decode cX5_cellsToStand 26 = .ok (.ifCond .gt 8, 3) := by decide +kernel
theorem dX5_cellsToStand_29 : decode cX5_cellsToStand 29 = .ok (.iload 4, 2) := by decide +kernel
theorem dX5_cellsToStand_31 : decode cX5_cellsToStand 31 = .ok (.iload_n 1, 1) := by decide +kernel
theorem dX5_cellsToStand_32 : decode cX5_cellsToStand 32 = .ok (.isub, 1) := by decide +kernel
theorem dX5_cellsToStand_33 : decode cX5_cellsToStand 33 = .ok (.ireturn, 1) := by decide +kernel
theorem dX5_cellsToStand_34 : decode cX5_cellsToStand 34 = .ok (.iinc 4 1, 3) := by decide +kernel
theorem dX5_cellsToStand_37 : decode cX5_cellsToStand 37 = .ok (.goto (-30), 3) := by decide +kernel
theorem dX5_cellsToStand_40 : decode cX5_cellsToStand 40 = .ok (.iconst (-1), 1) := by decide +kernel
theorem dX5_cellsToStand_41 : decode cX5_cellsToStand 41 = .ok (.ireturn, 1) := by decide +kernel
theorem dX5_fastestToStand_0 : decode cX5_fastestToStand 0 = .ok (.iconst 0, 1) := by decide +kernel
theorem dX5_fastestToStand_1 : decode cX5_fastestToStand 1 = .ok (.istore_n 3, 1) := by decide +kernel
theorem dX5_fastestToStand_2 : decode cX5_fastestToStand 2 = .ok (.iload_n 1, 1) := by decide +kernel
theorem dX5_fastestToStand_3 : decode cX5_fastestToStand 3 = .ok (.istore 4, 2) := by decide +kernel
theorem dX5_fastestToStand_5 : decode cX5_fastestToStand 5 = .ok (.iload 4, 2) := by decide +kernel
theorem dX5_fastestToStand_7 : decode cX5_fastestToStand 7 = .ok (.aload_n 0, 1) := by decide +kernel
theorem dX5_fastestToStand_8 : decode cX5_fastestToStand 8 = .ok (.getfield 27, 3) := by decide +kernel
theorem dX5_fastestToStand_11 : decode cX5_fastestToStand 11 = .ok (.if_icmp .ge 26, 3) := by decide +kernel
theorem dX5_fastestToStand_14 : decode cX5_fastestToStand 14 = .ok (.iload 4, 2) := by decide +kernel
theorem dX5_fastestToStand_16 : decode cX5_fastestToStand 16 = .ok (.iload_n 1, 1) := by decide +kernel
theorem dX5_fastestToStand_17 : decode cX5_fastestToStand 17 = .ok (.isub, 1) := by decide +kernel
theorem dX5_fastestToStand_18 : decode cX5_fastestToStand 18 = .ok (.iload_n 2, 1) := by decide +kernel
theorem dX5_fastestToStand_19 : decode cX5_fastestToStand 19 = .ok (.if_icmp .gt 18, 3) := by decide +kernel
theorem dX5_fastestToStand_22 : decode cX5_fastestToStand 22 = .ok (.iload_n 3, 1) := by decide +kernel
theorem dX5_fastestToStand_23 : decode cX5_fastestToStand 23 = .ok (.aload_n 0, 1) := by decide +kernel
theorem dX5_fastestToStand_24 : decode cX5_fastestToStand 24 = .ok (.iload 4, 2) := by decide +kernel
theorem dX5_fastestToStand_26 : decode cX5_fastestToStand 26 = .ok (.invokevirtual 61, 3) := by decide +kernel
theorem dX5_fastestToStand_29 : decode cX5_fastestToStand 29 = .ok (.iadd, 1) := by decide +kernel
theorem dX5_fastestToStand_30 : decode cX5_fastestToStand 30 = .ok (.istore_n 3, 1) := by decide +kernel
theorem dX5_fastestToStand_31 : decode cX5_fastestToStand 31 = .ok (.iinc 4 1, 3) := by decide +kernel
theorem dX5_fastestToStand_34 : decode cX5_fastestToStand 34 = .ok (.goto (-29), 3) := by decide +kernel
theorem dX5_fastestToStand_37 : decode cX5_fastestToStand 37 = .ok (.bipush 99, 2) := by decide +kernel
theorem dX5_fastestToStand_39 : decode cX5_fastestToStand 39 = .ok (.iload_n 3, 1) := by decide +kernel
theorem dX5_fastestToStand_40 : decode cX5_fastestToStand 40 = .ok (.invokestatic 65, 3) := by decide +kernel
theorem dX5_fastestToStand_43 : decode cX5_fastestToStand 43 = .ok (.invokestatic 68, 3) := by decide +kernel
theorem dX5_fastestToStand_46 : decode cX5_fastestToStand 46 = .ok (.ireturn, 1) := by decide +kernel
theorem dX6_init_0 : decode cX6_init 0 = .ok (.aload_n 0, 1) := by decide +kernel
theorem dX6_init_1 : decode cX6_init 1 = .ok (.invokespecial 3, 3) := by decide +kernel
theorem dX6_init_4 : decode cX6_init 4 = .ok (.return_, 1) := by decide +kernel
theorem dX6_copies_0 : decode cX6_copies 0 = .ok (.aload_n 0, 1) := by decide +kernel
theorem dX6_copies_1 : decode cX6_copies 1 = .ok (.aload_n 1, 1) := by decide +kernel
theorem dX6_copies_2 : decode cX6_copies 2 = .ok (.getfield 9, 3) := by decide +kernel
theorem dX6_copies_5 : decode cX6_copies 5 = .ok (.putfield 9, 3) := by decide +kernel
theorem dX6_copies_8 : decode cX6_copies 8 = .ok (.aload_n 0, 1) := by decide +kernel
theorem dX6_copies_9 : decode cX6_copies 9 = .ok (.aload_n 1, 1) := by decide +kernel
theorem dX6_copies_10 : decode cX6_copies 10 = .ok (.getfield 15, 3) := by decide +kernel
theorem dX6_copies_13 : decode cX6_copies 13 = .ok (.putfield 15, 3) := by decide +kernel
theorem dX6_copies_16 : decode cX6_copies 16 = .ok (.aload_n 0, 1) := by decide +kernel
theorem dX6_copies_17 : decode cX6_copies 17 = .ok (.aload_n 1, 1) := by decide +kernel
theorem dX6_copies_18 : decode cX6_copies 18 = .ok (.getfield 18, 3) := by decide +kernel
theorem dX6_copies_21 : decode cX6_copies 21 = .ok (.putfield 18, 3) := by decide +kernel
theorem dX6_copies_24 : decode cX6_copies 24 = .ok (.aload_n 0, 1) := by decide +kernel
theorem dX6_copies_25 : decode cX6_copies 25 = .ok (.aload_n 1, 1) := by decide +kernel
theorem dX6_copies_26 : decode cX6_copies 26 = .ok (.getfield 21, 3) := by decide +kernel
theorem dX6_copies_29 : decode cX6_copies 29 = .ok (.putfield 21, 3) := by decide +kernel
theorem dX6_copies_32 : decode cX6_copies 32 = .ok (.aload_n 0, 1) := by decide +kernel
theorem dX6_copies_33 : decode cX6_copies 33 = .ok (.aload_n 1, 1) := by decide +kernel
theorem dX6_copies_34 : decode cX6_copies 34 = .ok (.getfield 24, 3) := by decide +kernel
theorem dX6_copies_37 : decode cX6_copies 37 = .ok (.putfield 24, 3) := by decide +kernel
theorem dX6_copies_40 : decode cX6_copies 40 = .ok (.aload_n 0, 1) := by decide +kernel
theorem dX6_copies_41 : decode cX6_copies 41 = .ok (.aload_n 1, 1) := by decide +kernel
theorem dX6_copies_42 : decode cX6_copies 42 = .ok (.getfield 27, 3) := by decide +kernel
theorem dX6_copies_45 : decode cX6_copies 45 = .ok (.putfield 27, 3) := by decide +kernel
theorem dX6_copies_48 : decode cX6_copies 48 = .ok (.aload_n 0, 1) := by decide +kernel
theorem dX6_copies_49 : decode cX6_copies 49 = .ok (.aload_n 1, 1) := by decide +kernel
theorem dX6_copies_50 : decode cX6_copies 50 = .ok (.getfield 30, 3) := by decide +kernel
theorem dX6_copies_53 : decode cX6_copies 53 = .ok (.putfield 30, 3) := by decide +kernel
theorem dX6_copies_56 : decode cX6_copies 56 = .ok (.aload_n 0, 1) := by decide +kernel
theorem dX6_copies_57 : decode cX6_copies 57 = .ok (.aload_n 1, 1) := by decide +kernel
theorem dX6_copies_58 : decode cX6_copies 58 = .ok (.getfield 33, 3) := by decide +kernel
theorem dX6_copies_61 : decode cX6_copies 61 = .ok (.putfield 33, 3) := by decide +kernel
theorem dX6_copies_64 : decode cX6_copies 64 = .ok (.return_, 1) := by decide +kernel
theorem dX6_puts_0 : decode cX6_puts 0 = .ok (.aload_n 0, 1) := by decide +kernel
theorem dX6_puts_1 : decode cX6_puts 1 = .ok (.iload_n 1, 1) := by decide +kernel
theorem dX6_puts_2 : decode cX6_puts 2 = .ok (.putfield 9, 3) := by decide +kernel
theorem dX6_puts_5 : decode cX6_puts 5 = .ok (.aload_n 0, 1) := by decide +kernel
theorem dX6_puts_6 : decode cX6_puts 6 = .ok (.iload_n 2, 1) := by decide +kernel
theorem dX6_puts_7 : decode cX6_puts 7 = .ok (.putfield 15, 3) := by decide +kernel
theorem dX6_puts_10 : decode cX6_puts 10 = .ok (.aload_n 0, 1) := by decide +kernel
theorem dX6_puts_11 : decode cX6_puts 11 = .ok (.iconst 0, 1) := by decide +kernel
theorem dX6_puts_12 : decode cX6_puts 12 = .ok (.putfield 18, 3) := by decide +kernel
theorem dX6_puts_15 : decode cX6_puts 15 = .ok (.aload_n 0, 1) := by decide +kernel
theorem dX6_puts_16 : decode cX6_puts 16 = .ok (.invokevirtual 36, 3) := by decide +kernel
theorem dX6_puts_19 : decode cX6_puts 19 = .ok (.return_, 1) := by decide +kernel
theorem dX6_knowsPlace_0 : decode cX6_knowsPlace 0 = .ok (.aload_n 0, 1) := by decide +kernel
theorem dX6_knowsPlace_1 : decode cX6_knowsPlace 1 = .ok (.sipush 1000, 3) := by decide +kernel
theorem dX6_knowsPlace_4 : decode cX6_knowsPlace 4 = .ok (.aload_n 0, 1) := by decide +kernel
theorem dX6_knowsPlace_5 : decode cX6_knowsPlace 5 = .ok (.getfield 9, 3) := by decide +kernel
theorem dX6_knowsPlace_8 : decode cX6_knowsPlace 8 = .ok (.imul, 1) := by decide +kernel
theorem dX6_knowsPlace_9 : decode cX6_knowsPlace 9 = .ok (.putfield 21, 3) := by decide +kernel
theorem dX6_knowsPlace_12 : decode cX6_knowsPlace 12 = .ok (.aload_n 0, 1) := by decide +kernel
theorem dX6_knowsPlace_13 : decode cX6_knowsPlace 13 = .ok (.sipush 1000, 3) := by decide +kernel
theorem dX6_knowsPlace_16 : decode cX6_knowsPlace 16 = .ok (.aload_n 0, 1) := by decide +kernel
theorem dX6_knowsPlace_17 : decode cX6_knowsPlace 17 = .ok (.getfield 9, 3) := by decide +kernel
theorem dX6_knowsPlace_20 : decode cX6_knowsPlace 20 = .ok (.imul, 1) := by decide +kernel
theorem dX6_knowsPlace_21 : decode cX6_knowsPlace 21 = .ok (.putfield 24, 3) := by decide +kernel
theorem dX6_knowsPlace_24 : decode cX6_knowsPlace 24 = .ok (.return_, 1) := by decide +kernel
theorem dX6_goesOn_0 : decode cX6_goesOn 0 = .ok (.aload_n 0, 1) := by decide +kernel
theorem dX6_goesOn_1 : decode cX6_goesOn 1 = .ok (.iload_n 1, 1) := by decide +kernel
theorem dX6_goesOn_2 : decode cX6_goesOn 2 = .ok (.putfield 15, 3) := by decide +kernel
theorem dX6_goesOn_5 : decode cX6_goesOn 5 = .ok (.aload_n 0, 1) := by decide +kernel
theorem dX6_goesOn_6 : decode cX6_goesOn 6 = .ok (.dup, 1) := by decide +kernel
theorem dX6_goesOn_7 : decode cX6_goesOn 7 = .ok (.getfield 9, 3) := by decide +kernel
theorem dX6_goesOn_10 : decode cX6_goesOn 10 = .ok (.iconst 1, 1) := by decide +kernel
theorem dX6_goesOn_11 : decode cX6_goesOn 11 = .ok (.iadd, 1) := by decide +kernel
theorem dX6_goesOn_12 : decode cX6_goesOn 12 = .ok (.putfield 9, 3) := by decide +kernel
theorem dX6_goesOn_15 : decode cX6_goesOn 15 = .ok (.aload_n 0, 1) := by decide +kernel
theorem dX6_goesOn_16 : decode cX6_goesOn 16 = .ok (.dup, 1) := by decide +kernel
theorem dX6_goesOn_17 : decode cX6_goesOn 17 = .ok (.getfield 33, 3) := by decide +kernel
theorem dX6_goesOn_20 : decode cX6_goesOn 20 = .ok (.iconst 1, 1) := by decide +kernel
theorem dX6_goesOn_21 : decode cX6_goesOn 21 = .ok (.iadd, 1) := by decide +kernel
theorem dX6_goesOn_22 : decode cX6_goesOn 22 = .ok (.putfield 33, 3) := by decide +kernel
theorem dX6_goesOn_25 : decode cX6_goesOn 25 = .ok (.aload_n 0, 1) := by decide +kernel
theorem dX6_goesOn_26 : decode cX6_goesOn 26 = .ok (.dup, 1) := by decide +kernel
theorem dX6_goesOn_27 : decode cX6_goesOn 27 = .ok (.getfield 21, 3) := by decide +kernel
theorem dX6_goesOn_30 : decode cX6_goesOn 30 = .ok (.sipush 1000, 3) := by decide +kernel
theorem dX6_goesOn_33 : decode cX6_goesOn 33 = .ok (.aload_n 2, 1) := by decide +kernel
theorem dX6_goesOn_34 : decode cX6_goesOn 34 = .ok (.getfield 39, 3) := by decide +kernel
theorem dX6_goesOn_37 : decode cX6_goesOn 37 = .ok (.iconst 3, 1) := by decide +kernel
theorem dX6_goesOn_38 : decode cX6_goesOn 38 = .ok (.iaload, 1) := by decide +kernel
theorem dX6_goesOn_39 : decode cX6_goesOn 39 = .ok (.isub, 1) := by decide +kernel
theorem dX6_goesOn_40 : decode cX6_goesOn 40 = .ok (.iadd, 1) := by decide +kernel
theorem dX6_goesOn_41 : decode cX6_goesOn 41 = .ok (.putfield 21, 3) := by decide +kernel
theorem dX6_goesOn_44 : decode cX6_goesOn 44 = .ok (.aload_n 0, 1) := by decide +kernel
theorem dX6_goesOn_45 : decode cX6_goesOn 45 = .ok (.dup, 1) := by decide +kernel
theorem dX6_goesOn_46 : decode cX6_goesOn 46 = .ok (.getfield 24, 3) := by decide +kernel
theorem dX6_goesOn_49 : decode cX6_goesOn 49 = .ok (.sipush 1000, 3) := by decide +kernel
theorem dX6_goesOn_52 : decode cX6_goesOn 52 = .ok (.aload_n 2, 1) := by decide +kernel
theorem dX6_goesOn_53 : decode cX6_goesOn 53 = .ok (.getfield 39, 3) := by decide +kernel
theorem dX6_goesOn_56 : decode cX6_goesOn 56 = .ok (.iconst 3, 1) := by decide +kernel
theorem dX6_goesOn_57 : decode cX6_goesOn 57 = .ok (.iaload, 1) := by decide +kernel
theorem dX6_goesOn_58 : decode cX6_goesOn 58 = .ok (.iadd, 1) := by decide +kernel
theorem dX6_goesOn_59 : decode cX6_goesOn 59 = .ok (.iadd, 1) := by decide +kernel
theorem dX6_goesOn_60 : decode cX6_goesOn 60 = .ok (.putfield 24, 3) := by decide +kernel
theorem dX6_goesOn_63 : decode cX6_goesOn 63 = .ok (.aload_n 2, 1) := by decide +kernel
theorem dX6_goesOn_64 : decode cX6_goesOn 64 = .ok (.getfield 45, 3) := by decide +kernel
theorem dX6_goesOn_67 : decode cX6_goesOn 67 = .ok (.aload_n 0, 1) := by decide +kernel
theorem dX6_goesOn_68 : decode cX6_goesOn 68 = .ok (.getfield 9, 3) := by decide +kernel
theorem dX6_goesOn_71 : decode cX6_goesOn 71 = .ok (.iaload, 1) := by decide +kernel
theorem dX6_goesOn_72 : decode cX6_goesOn 72 = .ok (.iconst 1, 1) := by decide +kernel
theorem dX6_goesOn_73 : decode cX6_goesOn 73 = .ok (.if_icmp .ne 7, 3) := by decide +kernel
theorem dX6_goesOn_76 : decode cX6_goesOn 76 = .ok (.aload_n 0, 1) := by decide +kernel
theorem dX6_goesOn_77 : decode cX6_goesOn 77 = .ok (.invokevirtual 36, 3) := by decide +kernel
theorem dX6_goesOn_80 : decode cX6_goesOn 80 = .ok (.return_, 1) := by decide +kernel
