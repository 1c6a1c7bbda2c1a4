theorem dX5_weight_0 : decode cX5_weight 0 = .ok (.aload_n 0, 1) := by decide +kernel
theorem dX5_weight_1 : decode cX5_weight 1 = .ok (.getfield 24, 3) := by decide +kernel
theorem dX5_weight_4 : decode cX5_weight 4 = .ok (.getfield 28, 3) := by decide +kernel
theorem dX5_weight_7 : decode cX5_weight 7 = .ok (.iload_n 1, 1) := by decide +kernel
theorem dX5_weight_8 : decode cX5_weight 8 = .ok (.iconst 5, 1) := by decide +kernel
theorem dX5_weight_9 : decode cX5_weight 9 = .ok (.imul, 1) := by decide +kernel
theorem dX5_weight_10 : decode cX5_weight 10 = .ok (.iload_n 2, 1) := by decide +kernel
theorem dX5_weight_11 : decode cX5_weight 11 = .ok (.iadd, 1) := by decide +kernel
theorem dX5_weight_12 : decode cX5_weight 12 = .ok (.iaload, 1) := by decide +kernel
theorem dX5_weight_13 : decode cX5_weight 13 = .ok (.ldc 33, 2) := by decide +kernel
theorem dX5_weight_15 : decode cX5_weight 15 = .ok (.imul, 1) := by decide +kernel
theorem dX5_weight_16 : decode cX5_weight 16 = .ok (.iload_n 2, 1) := by decide +kernel
theorem dX5_weight_17 : decode cX5_weight 17 = .ok (.getstatic 34, 3) := by decide +kernel
theorem dX5_weight_20 : decode cX5_weight 20 = .ok (.iload_n 1, 1) := by decide +kernel
theorem dX5_weight_21 : decode cX5_weight 21 = .ok (.iaload, 1) := by decide +kernel
theorem dX5_weight_22 : decode cX5_weight 22 = .ok (.imul, 1) := by decide +kernel
theorem dX5_weight_23 : decode cX5_weight 23 = .ok (.isub, 1) := by decide +kernel
theorem dX5_weight_24 : decode cX5_weight 24 = .ok (.ireturn, 1) := by decide +kernel
theorem dX5_assign_0 : decode cX5_assign 0 = .ok (.iconst 0, 1) := by decide +kernel
theorem dX5_assign_1 : decode cX5_assign 1 = .ok (.istore_n 2, 1) := by decide +kernel
theorem dX5_assign_2 : decode cX5_assign 2 = .ok (.iload_n 2, 1) := by decide +kernel
theorem dX5_assign_3 : decode cX5_assign 3 = .ok (.iconst 5, 1) := by decide +kernel
theorem dX5_assign_4 : decode cX5_assign 4 = .ok (.if_icmp .ge 16, 3) := by decide +kernel
theorem dX5_assign_7 : decode cX5_assign 7 = .ok (.aload_n 0, 1) := by decide +kernel
theorem dX5_assign_8 : decode cX5_assign 8 = .ok (.getfield 15, 3) := by decide +kernel
theorem dX5_assign_11 : decode cX5_assign 11 = .ok (.iload_n 2, 1) := by decide +kernel
theorem dX5_assign_12 : decode cX5_assign 12 = .ok (.iconst 0, 1) := by decide +kernel
theorem dX5_assign_13 : decode cX5_assign 13 = .ok (.iastore, 1) := by decide +kernel
theorem dX5_assign_14 : decode cX5_assign 14 = .ok (.iinc 2 1, 3) := by decide +kernel
theorem dX5_assign_17 : decode cX5_assign 17 = .ok (.goto (-15), 3) := by decide +kernel
theorem dX5_assign_20 : decode cX5_assign 20 = .ok (.iconst 0, 1) := by decide +kernel
theorem dX5_assign_21 : decode cX5_assign 21 = .ok (.istore_n 2, 1) := by decide +kernel
theorem dX5_assign_22 : decode cX5_assign 22 = .ok (.iload_n 2, 1) := by decide +kernel
theorem dX5_assign_23 : decode cX5_assign 23 = .ok (.aload_n 0, 1) := by decide +kernel
theorem dX5_assign_24 : decode cX5_assign 24 = .ok (.getfield 24, 3) := by decide +kernel
theorem dX5_assign_27 : decode cX5_assign 27 = .ok (.getfield 37, 3) := by decide +kernel
theorem dX5_assign_30 : decode cX5_assign 30 = .ok (.if_icmp .ge 24, 3) := by decide +kernel
theorem dX5_assign_33 : decode cX5_assign 33 = .ok (.aload_n 0, 1) := by decide +kernel
theorem dX5_assign_34 : decode cX5_assign 34 = .ok (.iload_n 2, 1) := by decide +kernel
theorem dX5_assign_35 : decode cX5_assign 35 = .ok (.invokevirtual 41, 3) := by decide +kernel
theorem dX5_assign_38 : decode cX5_assign 38 = .ok (.aload_n 0, 1) := by decide +kernel
theorem dX5_assign_39 : decode cX5_assign 39 = .ok (.iload_n 2, 1) := by decide +kernel
theorem dX5_assign_40 : decode cX5_assign 40 = .ok (.aload_n 0, 1) := by decide +kernel
theorem dX5_assign_41 : decode cX5_assign 41 = .ok (.iload_n 1, 1) := by decide +kernel
theorem dX5_assign_42 : decode cX5_assign 42 = .ok (.invokevirtual 45, 3) := by decide +kernel
theorem dX5_assign_45 : decode cX5_assign 45 = .ok (.invokevirtual 49, 3) := by decide +kernel
theorem dX5_assign_48 : decode cX5_assign 48 = .ok (.iinc 2 1, 3) := by decide +kernel
theorem dX5_assign_51 : decode cX5_assign 51 = .ok (.goto (-29), 3) := by decide +kernel
theorem dX5_assign_54 : decode cX5_assign 54 = .ok (.return_, 1) := by decide +kernel
theorem dX5_weighPlaces_0 : decode cX5_weighPlaces 0 = .ok (.iconst 0, 1) := by decide +kernel
theorem dX5_weighPlaces_1 : decode cX5_weighPlaces 1 = .ok (.istore_n 2, 1) := by decide +kernel
theorem dX5_weighPlaces_2 : decode cX5_weighPlaces 2 = .ok (.iload_n 2, 1) := by decide +kernel
theorem dX5_weighPlaces_3 : decode cX5_weighPlaces 3 = .ok (.iconst 5, 1) := by decide +kernel
theorem dX5_weighPlaces_4 : decode cX5_weighPlaces 4 = .ok (.if_icmp .ge 28, 3) := by decide +kernel
theorem dX5_weighPlaces_7 : decode cX5_weighPlaces 7 = .ok (.aload_n 0, 1) := by decide +kernel
theorem dX5_weighPlaces_8 : decode cX5_weighPlaces 8 = .ok (.getfield 18, 3) := by decide +kernel
theorem dX5_weighPlaces_11 : decode cX5_weighPlaces 11 = .ok (.iload_n 2, 1) := by decide +kernel
theorem dX5_weighPlaces_12 : decode cX5_weighPlaces 12 = .ok (.aload_n 0, 1) := by decide +kernel
theorem dX5_weighPlaces_13 : decode cX5_weighPlaces 13 = .ok (.iload_n 1, 1) := by decide +kernel
theorem dX5_weighPlaces_14 : decode cX5_weighPlaces 14 = .ok (.iload_n 2, 1) := by decide +kernel
theorem dX5_weighPlaces_15 : decode cX5_weighPlaces 15 = .ok (.invokevirtual 53, 3) := by decide +kernel
theorem dX5_weighPlaces_18 : decode cX5_weighPlaces 18 = .ok (.iastore, 1) := by decide +kernel
theorem dX5_weighPlaces_19 : decode cX5_weighPlaces 19 = .ok (.aload_n 0, 1) := by decide +kernel
theorem dX5_weighPlaces_20 : decode cX5_weighPlaces 20 = .ok (.getfield 21, 3) := by decide +kernel
theorem dX5_weighPlaces_23 : decode cX5_weighPlaces 23 = .ok (.iload_n 2, 1) := by decide +kernel
theorem dX5_weighPlaces_24 : decode cX5_weighPlaces 24 = .ok (.iconst (-1), 1) := by decide +kernel
theorem dX5_weighPlaces_25 : decode cX5_weighPlaces 25 = .ok (.iastore, 1) := by decide +kernel
theorem dX5_weighPlaces_26 : decode cX5_weighPlaces 26 = .ok (.iinc 2 1, 3) := by decide +kernel
theorem dX5_weighPlaces_29 : decode cX5_weighPlaces 29 = .ok (.goto (-27), 3) := by decide +kernel
theorem dX5_weighPlaces_32 : decode cX5_weighPlaces 32 = .ok (.iconst 1, 1) := by decide +kernel
theorem dX5_weighPlaces_33 : decode cX5_weighPlaces 33 = .ok (.istore_n 2, 1) := by decide +kernel
theorem dX5_weighPlaces_34 : decode cX5_weighPlaces 34 = .ok (.iload_n 2, 1) := by decide +kernel
theorem dX5_weighPlaces_35 : decode cX5_weighPlaces 35 = .ok (.iconst 5, 1) := by decide +kernel
theorem dX5_weighPlaces_36 : decode cX5_weighPlaces 36 = .ok (.if_icmp .ge 27, 3) := by decide +kernel
theorem dX5_weighPlaces_39 : decode cX5_weighPlaces 39 = .ok (.iconst 0, 1) := by decide +kernel
theorem dX5_weighPlaces_40 : decode cX5_weighPlaces 40 = .ok (.istore_n 3, 1) := by decide +kernel
theorem dX5_weighPlaces_41 : decode cX5_weighPlaces 41 = .ok (.iload_n 3, 1) := by decide +kernel
theorem dX5_weighPlaces_42 : decode cX5_weighPlaces 42 = .ok (.iload_n 1, 1) := by decide +kernel
theorem dX5_weighPlaces_43 : decode cX5_weighPlaces 43 = .ok (.if_icmp .ge 14, 3) := by decide +kernel
theorem dX5_weighPlaces_46 : decode cX5_weighPlaces 46 = .ok (.aload_n 0, 1) := by decide +kernel
theorem dX5_weighPlaces_47 : decode cX5_weighPlaces 47 = .ok (.iload_n 3, 1) := by decide +kernel
theorem dX5_weighPlaces_48 : decode cX5_weighPlaces 48 = .ok (.invokevirtual 57, 3) := by decide +kernel
theorem dX5_weighPlaces_51 : decode cX5_weighPlaces 51 = .ok (.iinc 3 1, 3) := by decide +kernel
theorem dX5_weighPlaces_54 : decode cX5_weighPlaces 54 = .ok (.goto (-13), 3) := by decide +kernel
theorem dX5_weighPlaces_57 : decode cX5_weighPlaces 57 = .ok (.iinc 2 1, 3) := by decide +kernel
theorem dX5_weighPlaces_60 : decode cX5_weighPlaces 60 = .ok (.goto (-26), 3) := by decide +kernel
theorem dX5_weighPlaces_63 : decode cX5_weighPlaces 63 = .ok (.return_, 1) := by decide +kernel
theorem dX5_weighMoves_0 : decode cX5_weighMoves 0 = .ok (.aload_n 0, 1) := by decide +kernel
theorem dX5_weighMoves_1 : decode cX5_weighMoves 1 = .ok (.getfield 9, 3) := by decide +kernel
theorem dX5_weighMoves_4 : decode cX5_weighMoves 4 = .ok (.iload_n 1, 1) := by decide +kernel
theorem dX5_weighMoves_5 : decode cX5_weighMoves 5 = .ok (.iaload, 1) := by decide +kernel
theorem dX5_weighMoves_6 : decode cX5_weighMoves 6 = .ok (.istore_n 2, 1) := by decide +kernel
theorem dX5_weighMoves_7 : decode cX5_weighMoves 7 = .ok (.aload_n 0, 1) := by decide +kernel
theorem dX5_weighMoves_8 : decode cX5_weighMoves 8 = .ok (.getfield 18, 3) := by decide +kernel
theorem dX5_weighMoves_11 : decode cX5_weighMoves 11 = .ok (.iload_n 2, 1) := by decide +kernel
theorem dX5_weighMoves_12 : decode cX5_weighMoves 12 = .ok (.iaload, 1) := by decide +kernel
theorem dX5_weighMoves_13 : decode cX5_weighMoves 13 = .ok (.aload_n 0, 1) := by decide +kernel
theorem dX5_weighMoves_14 : decode cX5_weighMoves 14 = .ok (.iload_n 1, 1) := by decide +kernel
theorem dX5_weighMoves_15 : decode cX5_weighMoves 15 = .ok (.iload_n 2, 1) := by decide +kernel
theorem dX5_weighMoves_16 : decode cX5_weighMoves 16 = .ok (.invokevirtual 53, 3) := by decide +kernel
theorem dX5_weighMoves_19 : decode cX5_weighMoves 19 = .ok (.isub, 1) := by decide +kernel
theorem dX5_weighMoves_20 : decode cX5_weighMoves 20 = .ok (.istore_n 3, 1) := by decide +kernel
theorem dX5_weighMoves_21 : decode cX5_weighMoves 21 = .ok (.iconst 0, 1) := by decide +kernel
theorem dX5_weighMoves_22 : decode cX5_weighMoves 22 = .ok (.istore 4, 2) := by decide +kernel
theorem dX5_weighMoves_24 : decode cX5_weighMoves 24 = .ok (.iload 4, 2) := by decide +kernel
theorem dX5_weighMoves_26 : decode cX5_weighMoves 26 = .ok (.iconst 5, 1) := by decide +kernel
theorem dX5_weighMoves_27 : decode cX5_weighMoves 27 = .ok (.if_icmp .ge 58, 3) := by decide +kernel
theorem dX5_weighMoves_30 : decode cX5_weighMoves 30 = .ok (.iload 4, 2) := by decide +kernel
theorem dX5_weighMoves_32 : decode cX5_weighMoves 32 = .ok (.iload_n 2, 1) := by decide +kernel
theorem dX5_weighMoves_33 : decode cX5_weighMoves 33 = .ok (.if_icmp .eq 46, 3) := by decide +kernel
theorem dX5_weighMoves_36 : decode cX5_weighMoves 36 = .ok (.iload_n 3, 1) := by decide +kernel
theorem dX5_weighMoves_37 : decode cX5_weighMoves 37 = .ok (.aload_n 0, 1) := by decide +kernel
theorem dX5_weighMoves_38 : decode cX5_weighMoves 38 = .ok (.iload_n 1, 1) := by decide +kernel
theorem dX5_weighMoves_39 : decode cX5_weighMoves 39 = .ok (.iload 4, 2) := by decide +kernel
theorem dX5_weighMoves_41 : decode cX5_weighMoves 41 = .ok (.invokevirtual 53, 3) := by decide +kernel
theorem dX5_weighMoves_44 : decode cX5_weighMoves 44 = .ok (.iadd, 1) := by decide +kernel
theorem dX5_weighMoves_45 : decode cX5_weighMoves 45 = .ok (.aload_n 0, 1) := by decide +kernel
theorem dX5_weighMoves_46 : decode cX5_weighMoves 46 = .ok (.getfield 18, 3) := by decide +kernel
theorem dX5_weighMoves_49 : decode cX5_weighMoves 49 = .ok (.iload 4, 2) := by decide +kernel
theorem dX5_weighMoves_51 : decode cX5_weighMoves 51 = .ok (.iaload, 1) := by decide +kernel
theorem dX5_weighMoves_52 : decode cX5_weighMoves 52 = .ok (.if_icmp .le 27, 3) := by decide +kernel
theorem dX5_weighMoves_55 : decode cX5_weighMoves 55 = .ok (.aload_n 0, 1) := by decide +kernel
theorem dX5_weighMoves_56 : decode cX5_weighMoves 56 = .ok (.getfield 18, 3) := by decide +kernel
theorem dX5_weighMoves_59 : decode cX5_weighMoves 59 = .ok (.iload 4, 2) := by decide +kernel
theorem dX5_weighMoves_61 : decode cX5_weighMoves 61 = .ok (.iload_n 3, 1) := by decide +kernel
theorem dX5_weighMoves_62 : decode cX5_weighMoves 62 = .ok (.aload_n 0, 1) := by decide +kernel
theorem dX5_weighMoves_63 : decode cX5_weighMoves 63 = .ok (.iload_n 1, 1) := by decide +kernel
theorem dX5_weighMoves_64 : decode cX5_weighMoves 64 = .ok (.iload 4, 2) := by decide +kernel
theorem dX5_weighMoves_66 : decode cX5_weighMoves 66 = .ok (.invokevirtual 53, 3) := by decide +kernel
theorem dX5_weighMoves_69 : decode cX5_weighMoves 69 = .ok (.iadd, 1) := by decide +kernel
theorem dX5_weighMoves_70 : decode cX5_weighMoves 70 = .ok (.iastore, 1) := by decide +kernel
theorem dX5_weighMoves_71 : decode cX5_weighMoves 71 = .ok (.aload_n 0, 1) := by decide +kernel
theorem dX5_weighMoves_72 : decode cX5_weighMoves 72 = .ok (.getfield 21, 3) := by decide +kernel
theorem dX5_weighMoves_75 : decode cX5_weighMoves 75 = .ok (.iload 4, 2) := by decide +kernel
theorem dX5_weighMoves_77 : decode cX5_weighMoves 77 = .ok (.iload_n 1, 1) := by decide +kernel
theorem dX5_weighMoves_78 : decode cX5_weighMoves 78 = .ok (.iastore, 1) := by decide +kernel
theorem dX5_weighMoves_79 : decode cX5_weighMoves 79 = .ok (.iinc 4 1, 3) := by decide +kernel
theorem dX5_weighMoves_82 : decode cX5_weighMoves 82 = .ok (.goto (-58), 3) := by decide +kernel
theorem dX5_weighMoves_85 : decode cX5_weighMoves 85 = .ok (.return_, 1) := by decide +kernel
theorem dX5_bestWithRoom_0 : decode cX5_bestWithRoom 0 = .ok (.iconst (-1), 1) := by decide +kernel
theorem dX5_bestWithRoom_1 : decode cX5_bestWithRoom 1 = .ok (.istore_n 2, 1) := by decide +kernel
theorem dX5_bestWithRoom_2 : decode cX5_bestWithRoom 2 = .ok (.iconst 0, 1) := by decide +kernel
theorem dX5_bestWithRoom_3 : decode cX5_bestWithRoom 3 = .ok (.istore_n 3, 1) := by decide +kernel
theorem dX5_bestWithRoom_4 : decode cX5_bestWithRoom 4 = .ok (.iload_n 3, 1) := by decide +kernel
theorem dX5_bestWithRoom_5 : decode cX5_bestWithRoom 5 = .ok (.iconst 5, 1) := by decide +kernel
theorem dX5_bestWithRoom_6 : decode cX5_bestWithRoom 6 = .ok (.if_icmp .ge 41, 3) := by decide +kernel
theorem dX5_bestWithRoom_9 : decode cX5_bestWithRoom 9 = .ok (.aload_n 0, 1) := by decide +kernel
theorem dX5_bestWithRoom_10 : decode cX5_bestWithRoom 10 = .ok (.getfield 15, 3) := by decide +kernel
theorem dX5_bestWithRoom_13 : decode cX5_bestWithRoom 13 = .ok (.iload_n 3, 1) := by decide +kernel
theorem dX5_bestWithRoom_14 : decode cX5_bestWithRoom 14 = .ok (.iaload, 1) := by decide +kernel
theorem dX5_bestWithRoom_15 : decode cX5_bestWithRoom 15 = .ok (.iload_n 1, 1) := by decide +kernel
theorem dX5_bestWithRoom_16 : decode cX5_bestWithRoom 16 = .ok (.if_icmp .ge 25, 3) := by decide +kernel
theorem dX5_bestWithRoom_19 : decode cX5_bestWithRoom 19 = .ok (.iload_n 2, 1) := by decide +kernel
theorem dX5_bestWithRoom_20 : decode cX5_bestWithRoom 20 = .ok (.iconst (-1), 1) := by decide +kernel
theorem dX5_bestWithRoom_21 : decode cX5_bestWithRoom 21 = .ok (.if_icmp .eq 18, 3) := by decide +kernel
theorem dX5_bestWithRoom_24 : decode cX5_bestWithRoom 24 = .ok (.aload_n 0, 1) := by decide +kernel
theorem dX5_bestWithRoom_25 : decode cX5_bestWithRoom 25 = .ok (.getfield 18, 3) := by decide +kernel
theorem dX5_bestWithRoom_28 : decode cX5_bestWithRoom 28 = .ok (.iload_n 3, 1) := by decide +kernel
theorem dX5_bestWithRoom_29 : decode cX5_bestWithRoom 29 = .ok (.iaload, 1) := by decide +kernel
theorem dX5_bestWithRoom_30 : decode cX5_bestWithRoom 30 = .ok (.aload_n 0, 1) := by decide +kernel
theorem dX5_bestWithRoom_31 : decode cX5_bestWithRoom 31 = .ok (.getfield 18, 3) := by decide +kernel
theorem dX5_bestWithRoom_34 : decode cX5_bestWithRoom 34 = .ok (.iload_n 2, 1) := by decide +kernel
theorem dX5_bestWithRoom_35 : decode cX5_bestWithRoom 35 = .ok (.iaload, 1) := by decide +kernel
theorem dX5_bestWithRoom_36 : decode cX5_bestWithRoom 36 = .ok (.if_icmp .le 5, 3) := by decide +kernel
theorem dX5_bestWithRoom_39 : decode cX5_bestWithRoom 39 = .ok (.iload_n 3, 1) := by decide +kernel
theorem dX5_bestWithRoom_40 : decode cX5_bestWithRoom 40 = .ok (.istore_n 2, 1) := by decide +kernel
theorem dX5_bestWithRoom_41 : decode cX5_bestWithRoom 41 = .ok (.iinc 3 1, 3) := by decide +kernel
theorem dX5_bestWithRoom_44 : decode cX5_bestWithRoom 44 = .ok (.goto (-40), 3) := by decide +kernel
theorem dX5_bestWithRoom_47 : decode cX5_bestWithRoom 47 = .ok (.iconst 0, 1) := by decide +kernel
theorem dX5_bestWithRoom_48 : decode cX5_bestWithRoom 48 = .ok (.iload_n 2, 1) := by decide +kernel
theorem dX5_bestWithRoom_49 : decode cX5_bestWithRoom 49 = .ok (.invokestatic 60, 3) := by decide +kernel
theorem dX5_bestWithRoom_52 : decode cX5_bestWithRoom 52 = .ok (.ireturn, 1) := by decide +kernel
theorem dX5_place_0 : decode cX5_place 0 = .ok (.aload_n 0, 1) := by decide +kernel
theorem dX5_place_1 : decode cX5_place 1 = .ok (.getfield 15, 3) := by decide +kernel
theorem dX5_place_4 : decode cX5_place 4 = .ok (.iload_n 2, 1) := by decide +kernel
theorem dX5_place_5 : decode cX5_place 5 = .ok (.dup2, 1) := by decide +kernel
theorem dX5_place_6 : decode cX5_place 6 = .ok (.iaload, 1) := by decide +kernel
theorem dX5_place_7 : decode cX5_place 7 = .ok (.iconst 1, 1) := by decide +kernel
theorem dX5_place_8 : decode cX5_place 8 = .ok (.iadd, 1) := by decide +kernel
theorem dX5_place_9 : decode cX5_place 9 = .ok (.iastore, 1) := by decide +kernel
theorem dX5_place_10 : decode cX5_place 10 = .ok (.iload_n 2, 1) := by decide +kernel
theorem dX5_place_11 : decode cX5_place 11 = .ok (.istore_n 3, 1) := by decide +kernel
theorem dX5_place_12 : decode cX5_place 12 = .ok (.iconst 0, 1) := by decide +kernel
theorem dX5_place_13 : decode cX5_place 13 = .ok (.istore 4, 2) := by decide +kernel
theorem dX5_place_15 : decode cX5_place 15 = .ok (.iload 4, 2) := by decide +kernel
theorem dX5_place_17 : decode cX5_place 17 = .ok (.iconst 5, 1) := by decide +kernel
theorem dX5_place_18 : decode cX5_place 18 = .ok (.if_icmp .ge 47, 3) := by decide +kernel
theorem dX5_place_21 : decode cX5_place 21 = .ok (.aload_n 0, 1) := by decide +kernel
theorem dX5_place_22 : decode cX5_place 22 = .ok (.getfield 21, 3) := by decide +kernel
theorem dX5_place_25 : decode cX5_place 25 = .ok (.iload_n 3, 1) := by decide +kernel
theorem dX5_place_26 : decode cX5_place 26 = .ok (.iaload, 1) := by decide +kernel
theorem dX5_place_27 : decode cX5_place 27 = .ok (.iconst (-1), 1) := by decide +kernel
theorem dX5_place_28 : decode cX5_place 28 = .ok (.if_icmp .eq 37, 3) := by decide +kernel
theorem dX5_place_31 : decode cX5_place 31 = .ok (.aload_n 0, 1) := by decide +kernel
theorem dX5_place_32 : decode cX5_place 32 = .ok (.getfield 21, 3) := by decide +kernel
theorem dX5_place_35 : decode cX5_place 35 = .ok (.iload_n 3, 1) := by decide +kernel
theorem dX5_place_36 : decode cX5_place 36 = .ok (.iaload, 1) := by decide +kernel
theorem dX5_place_37 : decode cX5_place 37 = .ok (.istore 5, 2) := by decide +kernel
theorem dX5_place_39 : decode cX5_place 39 = .ok (.aload_n 0, 1) := by decide +kernel
theorem dX5_place_40 : decode cX5_place 40 = .ok (.getfield 9, 3) := by decide +kernel
theorem dX5_place_43 : decode cX5_place 43 = .ok (.iload 5, 2) := by decide +kernel
theorem dX5_place_45 : decode cX5_place 45 = .ok (.iaload, 1) := by decide +kernel
theorem dX5_place_46 : decode cX5_place 46 = .ok (.istore 6, 2) := by decide +kernel
theorem dX5_place_48 : decode cX5_place 48 = .ok (.aload_n 0, 1) := by decide +kernel
theorem dX5_place_49 : decode cX5_place 49 = .ok (.getfield 9, 3) := by decide +kernel
theorem dX5_place_52 : decode cX5_place 52 = .ok (.iload 5, 2) := by decide +kernel
theorem dX5_place_54 : decode cX5_place 54 = .ok (.iload_n 3, 1) := by decide +kernel
theorem dX5_place_55 : decode cX5_place 55 = .ok (.iastore, 1) := by decide +kernel
theorem dX5_place_56 : decode cX5_place 56 = .ok (.iload 6, 2) := by decide +kernel
theorem dX5_place_58 : decode cX5_place 58 = .ok (.istore_n 3, 1) := by decide +kernel
theorem dX5_place_59 : decode cX5_place 59 = .ok (.iinc 4 1, 3) := by decide +kernel
theorem dX5_place_62 : decode cX5_place 62 = .ok (.goto (-47), 3) := by decide +kernel
theorem dX5_place_65 : decode cX5_place 65 = .ok (.aload_n 0, 1) := by decide +kernel
theorem dX5_place_66 : decode cX5_place 66 = .ok (.getfield 9, 3) := by decide +kernel
theorem dX5_place_69 : decode cX5_place 69 = .ok (.iload_n 1, 1) := by decide +kernel
theorem dX5_place_70 : decode cX5_place 70 = .ok (.iload_n 3, 1) := by decide +kernel
theorem dX5_place_71 : decode cX5_place 71 = .ok (.iastore, 1) := by decide +kernel
theorem dX5_place_72 : decode cX5_place 72 = .ok (.return_, 1) := by decide +kernel
theorem dX5_likesTogether_0 : decode cX5_likesTogether 0 = .ok (.iconst 0, 1) := by decide +kernel
theorem dX5_likesTogether_1 : decode cX5_likesTogether 1 = .ok (.istore_n 1, 1) := by decide +kernel
theorem dX5_likesTogether_2 : decode cX5_likesTogether 2 = .ok (.iconst 0, 1) := by decide +kernel
theorem dX5_likesTogether_3 : decode cX5_likesTogether 3 = .ok (.istore_n 2, 1) := by decide +kernel
theorem dX5_likesTogether_4 : decode cX5_likesTogether 4 = .ok (.iload_n 2, 1) := by decide +kernel
theorem dX5_likesTogether_5 : decode cX5_likesTogether 5 = .ok (.aload_n 0, 1) := by decide +kernel
theorem dX5_likesTogether_6 : decode cX5_likesTogether 6 = .ok (.getfield 24, 3) := by decide +kernel
theorem dX5_likesTogether_9 : decode cX5_likesTogether 9 = .ok (.getfield 37, 3) := by decide +kernel
theorem dX5_likesTogether_12 : decode cX5_likesTogether 12 = .ok (.if_icmp .ge 30, 3) := by decide +kernel
theorem dX5_likesTogether_15 : decode cX5_likesTogether 15 = .ok (.iload_n 1, 1) := by decide +kernel
theorem dX5_likesTogether_16 : decode cX5_likesTogether 16 = .ok (.aload_n 0, 1) := by decide +kernel
theorem dX5_likesTogether_17 : decode cX5_likesTogether 17 = .ok (.getfield 24, 3) := by decide +kernel
theorem dX5_likesTogether_20 : decode cX5_likesTogether 20 = .ok (.getfield 28, 3) := by decide +kernel
theorem dX5_likesTogether_23 : decode cX5_likesTogether 23 = .ok (.iload_n 2, 1) := by decide +kernel
theorem dX5_likesTogether_24 : decode cX5_likesTogether 24 = .ok (.iconst 5, 1) := by decide +kernel
theorem dX5_likesTogether_25 : decode cX5_likesTogether 25 = .ok (.imul, 1) := by decide +kernel
theorem dX5_likesTogether_26 : decode cX5_likesTogether 26 = .ok (.aload_n 0, 1) := by decide +kernel
theorem dX5_likesTogether_27 : decode cX5_likesTogether 27 = .ok (.getfield 9, 3) := by decide +kernel
theorem dX5_likesTogether_30 : decode cX5_likesTogether 30 = .ok (.iload_n 2, 1) := by decide +kernel
theorem dX5_likesTogether_31 : decode cX5_likesTogether 31 = .ok (.iaload, 1) := by decide +kernel
theorem dX5_likesTogether_32 : decode cX5_likesTogether 32 = .ok (.iadd, 1) := by decide +kernel
theorem dX5_likesTogether_33 : decode cX5_likesTogether 33 = .ok (.iaload, 1) := by decide +kernel
theorem dX5_likesTogether_34 : decode cX5_likesTogether 34 = .ok (.iadd, 1) := by decide +kernel
theorem dX5_likesTogether_35 : decode cX5_likesTogether 35 = .ok (.istore_n 1, 1) := by decide +kernel
theorem dX5_likesTogether_36 : decode cX5_likesTogether 36 = .ok (.iinc 2 1, 3) := by decide +kernel
theorem dX5_likesTogether_39 : decode cX5_likesTogether 39 = .ok (.goto (-35), 3) := by decide +kernel
theorem dX5_likesTogether_42 : decode cX5_likesTogether 42 = .ok (.iload_n 1, 1) := by decide +kernel
theorem dX5_likesTogether_43 : decode cX5_likesTogether 43 = .ok (.ireturn, 1) := by decide +kernel
theorem dX6_mayBe_0 : decode cX6_mayBe 0 = .ok (.aload_n 0, 1) := by decide +kernel
theorem dX6_mayBe_1 : decode cX6_mayBe 1 = .ok (.getfield 9, 3) := by decide +kernel
theorem dX6_mayBe_4 : decode cX6_mayBe 4 = .ok (.getfield 15, 3) := by decide +kernel
theorem dX6_mayBe_7 : decode cX6_mayBe 7 = .ok (.iload_n 1, 1) := by decide +kernel
theorem dX6_mayBe_8 : decode cX6_mayBe 8 = .ok (.ishr, 1) := by decide +kernel
theorem dX6_mayBe_9 : decode cX6_mayBe 9 = .ok (.iconst 1, 1) := by decide +kernel
theorem dX6_mayBe_10 : decode cX6_mayBe 10 = .ok (.iand, 1) := by decide +kernel
theorem dX6_mayBe_11 : decode cX6_mayBe 11 = .ok (.ifCond .eq 7, 3) := by decide +kernel
theorem dX6_mayBe_14 : decode cX6_mayBe 14 = .ok (.iconst 1, 1) := by decide +kernel
theorem dX6_mayBe_15 : decode cX6_mayBe 15 = .ok (.goto 4, 3) := by decide +kernel
theorem dX6_mayBe_18 : decode cX6_mayBe 18 = .ok (.iconst 0, 1) := by decide +kernel
theorem dX6_mayBe_19 : decode cX6_mayBe 19 = .ok (.ireturn, 1) := by decide +kernel
theorem dX6_watch_0 : decode cX6_watch 0 = .ok (.iconst 0, 1) := by decide +kernel
theorem dX6_watch_1 : decode cX6_watch 1 = .ok (.istore_n 2, 1) := by decide +kernel
theorem dX6_watch_2 : decode cX6_watch 2 = .ok (.iconst 0, 1) := by decide +kernel
theorem dX6_watch_3 : decode cX6_watch 3 = .ok (.istore_n 3, 1) := by decide +kernel
theorem dX6_watch_4 : decode cX6_watch 4 = .ok (.iload_n 3, 1) := by decide +kernel
theorem dX6_watch_5 : decode cX6_watch 5 = .ok (.bipush 12, 2) := by decide +kernel
theorem dX6_watch_7 : decode cX6_watch 7 = .ok (.if_icmp .ge 60, 3) := by decide +kernel
theorem dX6_watch_10 : decode cX6_watch 10 = .ok (.aload_n 0, 1) := by decide +kernel
theorem dX6_watch_11 : decode cX6_watch 11 = .ok (.iload_n 3, 1) := by decide +kernel
theorem dX6_watch_12 : decode cX6_watch 12 = .ok (.invokevirtual 21, 3) := by decide +kernel
theorem dX6_watch_15 : decode cX6_watch 15 = .ok (.ifCond .eq 46, 3) := by decide +kernel
theorem dX6_watch_18 : decode cX6_watch 18 = .ok (.aload_n 0, 1) := by decide +kernel
theorem dX6_watch_19 : decode cX6_watch 19 = .ok (.getfield 9, 3) := by decide +kernel
theorem dX6_watch_22 : decode cX6_watch 22 = .ok (.getfield 25, 3) := by decide +kernel
theorem dX6_watch_25 : decode cX6_watch 25 = .ok (.iload_n 3, 1) := by decide +kernel
theorem dX6_watch_26 : decode cX6_watch 26 = .ok (.iaload, 1) := by decide +kernel
theorem dX6_watch_27 : decode cX6_watch 27 = .ok (.iload_n 1, 1) := by decide +kernel
theorem dX6_watch_28 : decode cX6_watch 28 = .ok (.if_icmp .ne 33, 3) := by decide +kernel
theorem dX6_watch_31 : decode cX6_watch 31 = .ok (.iconst 0, 1) := by decide +kernel
theorem dX6_watch_32 : decode cX6_watch 32 = .ok (.istore 4, 2) := by decide +kernel
theorem dX6_watch_34 : decode cX6_watch 34 = .ok (.iload 4, 2) := by decide +kernel
theorem dX6_watch_36 : decode cX6_watch 36 = .ok (.iconst 4, 1) := by decide +kernel
theorem dX6_watch_37 : decode cX6_watch 37 = .ok (.if_icmp .ge 24, 3) := by decide +kernel
theorem dX6_watch_40 : decode cX6_watch 40 = .ok (.iload_n 2, 1) := by decide +kernel
theorem dX6_watch_41 : decode cX6_watch 41 = .ok (.iconst 1, 1) := by decide +kernel
theorem dX6_watch_42 : decode cX6_watch 42 = .ok (.aload_n 0, 1) := by decide +kernel
theorem dX6_watch_43 : decode cX6_watch 43 = .ok (.getfield 9, 3) := by decide +kernel
theorem dX6_watch_46 : decode cX6_watch 46 = .ok (.iload_n 3, 1) := by decide +kernel
theorem dX6_watch_47 : decode cX6_watch 47 = .ok (.iload 4, 2) := by decide +kernel
theorem dX6_watch_49 : decode cX6_watch 49 = .ok (.invokevirtual 29, 3) := by decide +kernel
theorem dX6_watch_52 : decode cX6_watch 52 = .ok (.ishl, 1) := by decide +kernel
theorem dX6_watch_53 : decode cX6_watch 53 = .ok (.ior, 1) := by decide +kernel
theorem dX6_watch_54 : decode cX6_watch 54 = .ok (.istore_n 2, 1) := by decide +kernel
theorem dX6_watch_55 : decode cX6_watch 55 = .ok (.iinc 4 1, 3) := by decide +kernel
theorem dX6_watch_58 : decode cX6_watch 58 = .ok (.goto (-24), 3) := by decide +kernel
theorem dX6_watch_61 : decode cX6_watch 61 = .ok (.iinc 3 1, 3) := by decide +kernel
theorem dX6_watch_64 : decode cX6_watch 64 = .ok (.goto (-60), 3) := by decide +kernel
theorem dX6_watch_67 : decode cX6_watch 67 = .ok (.aload_n 0, 1) := by decide +kernel
theorem dX6_watch_68 : decode cX6_watch 68 = .ok (.getfield 9, 3) := by decide +kernel
theorem dX6_watch_71 : decode cX6_watch 71 = .ok (.iload_n 2, 1) := by decide +kernel
theorem dX6_watch_72 : decode cX6_watch 72 = .ok (.sipush 4095, 3) := by decide +kernel
theorem dX6_watch_75 : decode cX6_watch 75 = .ok (.iand, 1) := by decide +kernel
theorem dX6_watch_76 : decode cX6_watch 76 = .ok (.putfield 15, 3) := by decide +kernel
theorem dX6_watch_79 : decode cX6_watch 79 = .ok (.aload_n 0, 1) := by decide +kernel
theorem dX6_watch_80 : decode cX6_watch 80 = .ok (.getfield 9, 3) := by decide +kernel
theorem dX6_watch_83 : decode cX6_watch 83 = .ok (.getfield 15, 3) := by decide +kernel
theorem dX6_watch_86 : decode cX6_watch 86 = .ok (.ireturn, 1) := by decide +kernel
theorem dX6_onlyScene_0 : decode cX6_onlyScene 0 = .ok (.iconst (-1), 1) := by decide +kernel
theorem dX6_onlyScene_1 : decode cX6_onlyScene 1 = .ok (.istore_n 1, 1) := by decide +kernel
theorem dX6_onlyScene_2 : decode cX6_onlyScene 2 = .ok (.iconst 0, 1) := by decide +kernel
theorem dX6_onlyScene_3 : decode cX6_onlyScene 3 = .ok (.istore_n 2, 1) := by decide +kernel
theorem dX6_onlyScene_4 : decode cX6_onlyScene 4 = .ok (.iload_n 2, 1) := by decide +kernel
theorem dX6_onlyScene_5 : decode cX6_onlyScene 5 = .ok (.bipush 12, 2) := by decide +kernel
theorem dX6_onlyScene_7 : decode cX6_onlyScene 7 = .ok (.if_icmp .ge 24, 3) := by decide +kernel
theorem dX6_onlyScene_10 : decode cX6_onlyScene 10 = .ok (.aload_n 0, 1) := by decide +kernel
theorem dX6_onlyScene_11 : decode cX6_onlyScene 11 = .ok (.getfield 9, 3) := by decide +kernel
theorem dX6_onlyScene_14 : decode cX6_onlyScene 14 = .ok (.getfield 15, 3) := by decide +kernel
theorem dX6_onlyScene_17 : decode cX6_onlyScene 17 = .ok (.iconst 1, 1) := by decide +kernel
theorem dX6_onlyScene_18 : decode cX6_onlyScene 18 = .ok (.iload_n 2, 1) := by decide +kernel
theorem dX6_onlyScene_19 : decode cX6_onlyScene 19 = .ok (.ishl, 1) := by decide +kernel
theorem dX6_onlyScene_20 : decode cX6_onlyScene 20 = .ok (.if_icmp .ne 5, 3) := by decide +kernel
theorem dX6_onlyScene_23 : decode cX6_onlyScene 23 = .ok (.iload_n 2, 1) := by decide +kernel
theorem dX6_onlyScene_24 : decode cX6_onlyScene 24 = .ok (.istore_n 1, 1) := by decide +kernel
theorem dX6_onlyScene_25 : decode cX6_onlyScene 25 = .ok (.iinc 2 1, 3) := by decide +kernel
theorem dX6_onlyScene_28 : decode cX6_onlyScene 28 = .ok (.goto (-24), 3) := by decide +kernel
theorem dX6_onlyScene_31 : decode cX6_onlyScene 31 = .ok (.iload_n 1, 1) := by decide +kernel
theorem dX6_onlyScene_32 : decode cX6_onlyScene 32 = .ok (.ireturn, 1) := by decide +kernel
theorem dX6_tellingCue_0 : decode cX6_tellingCue 0 = .ok (.iconst (-1), 1) := by decide +kernel
theorem dX6_tellingCue_1 : decode cX6_tellingCue 1 = .ok (.istore_n 1, 1) := by decide +kernel
theorem dX6_tellingCue_2 : decode cX6_tellingCue 2 = .ok (.iconst 0, 1) := by decide +kernel
theorem dX6_tellingCue_3 : decode cX6_tellingCue 3 = .ok (.istore_n 2, 1) := by decide +kernel
theorem dX6_tellingCue_4 : decode cX6_tellingCue 4 = .ok (.iconst 0, 1) := by decide +kernel
theorem dX6_tellingCue_5 : decode cX6_tellingCue 5 = .ok (.istore_n 3, 1) := by decide +kernel
theorem dX6_tellingCue_6 : decode cX6_tellingCue 6 = .ok (.iload_n 3, 1) := by decide +kernel
theorem dX6_tellingCue_7 : decode cX6_tellingCue 7 = .ok (.iconst 4, 1) := by decide +kernel
theorem dX6_tellingCue_8 : decode cX6_tellingCue 8 = .ok (.if_icmp .ge 27, 3) := by decide +kernel
theorem dX6_tellingCue_11 : decode cX6_tellingCue 11 = .ok (.aload_n 0, 1) := by decide +kernel
theorem dX6_tellingCue_12 : decode cX6_tellingCue 12 = .ok (.iload_n 3, 1) := by decide +kernel
theorem dX6_tellingCue_13 : decode cX6_tellingCue 13 = .ok (.invokevirtual 33, 3) := by decide +kernel
theorem dX6_tellingCue_16 : decode cX6_tellingCue 16 = .ok (.istore 4, 2) := by decide +kernel
theorem dX6_tellingCue_18 : decode cX6_tellingCue 18 = .ok (.iload 4, 2) := by decide +kernel
theorem dX6_tellingCue_20 : decode cX6_tellingCue 20 = .ok (.iload_n 2, 1) := by decide +kernel
theorem dX6_tellingCue_21 : decode cX6_tellingCue 21 = .ok (.if_icmp .le 8, 3) := by decide +kernel
theorem dX6_tellingCue_24 : decode cX6_tellingCue 24 = .ok (.iload 4, 2) := by decide +kernel
theorem dX6_tellingCue_26 : decode cX6_tellingCue 26 = .ok (.istore_n 2, 1) := by decide +kernel
theorem dX6_tellingCue_27 : decode cX6_tellingCue 27 = .ok (.iload_n 3, 1) := by decide +kernel
theorem dX6_tellingCue_28 : decode cX6_tellingCue 28 = .ok (.istore_n 1, 1) := by decide +kernel
theorem dX6_tellingCue_29 : decode cX6_tellingCue 29 = .ok (.iinc 3 1, 3) := by decide +kernel
theorem dX6_tellingCue_32 : decode cX6_tellingCue 32 = .ok (.goto (-26), 3) := by decide +kernel
theorem dX6_tellingCue_35 : decode cX6_tellingCue 35 = .ok (.iload_n 1, 1) := by decide +kernel
theorem dX6_tellingCue_36 : decode cX6_tellingCue 36 = .ok (.ireturn, 1) := by decide +kernel
theorem dX6_sortsBehind_0 : decode cX6_sortsBehind 0 = .ok (.iconst 0, 1) := by decide +kernel
theorem dX6_sortsBehind_1 : decode cX6_sortsBehind 1 = .ok (.istore_n 2, 1) := by decide +kernel
theorem dX6_sortsBehind_2 : decode cX6_sortsBehind 2 = .ok (.iconst 0, 1) := by decide +kernel
theorem dX6_sortsBehind_3 : decode cX6_sortsBehind 3 = .ok (.istore_n 3, 1) := by decide +kernel
theorem dX6_sortsBehind_4 : decode cX6_sortsBehind 4 = .ok (.iload_n 3, 1) := by decide +kernel
theorem dX6_sortsBehind_5 : decode cX6_sortsBehind 5 = .ok (.bipush 12, 2) := by decide +kernel
theorem dX6_sortsBehind_7 : decode cX6_sortsBehind 7 = .ok (.if_icmp .ge 55, 3) := by decide +kernel
theorem dX6_sortsBehind_10 : decode cX6_sortsBehind 10 = .ok (.aload_n 0, 1) := by decide +kernel
theorem dX6_sortsBehind_11 : decode cX6_sortsBehind 11 = .ok (.iload_n 3, 1) := by decide +kernel
theorem dX6_sortsBehind_12 : decode cX6_sortsBehind 12 = .ok (.invokevirtual 21, 3) := by decide +kernel
theorem dX6_sortsBehind_15 : decode cX6_sortsBehind 15 = .ok (.ifCond .eq 41, 3) := by decide +kernel
theorem dX6_sortsBehind_18 : decode cX6_sortsBehind 18 = .ok (.aload_n 0, 1) := by decide +kernel
theorem dX6_sortsBehind_19 : decode cX6_sortsBehind 19 = .ok (.getfield 9, 3) := by decide +kernel
theorem dX6_sortsBehind_22 : decode cX6_sortsBehind 22 = .ok (.iload_n 3, 1) := by decide +kernel
theorem dX6_sortsBehind_23 : decode cX6_sortsBehind 23 = .ok (.iload_n 1, 1) := by decide +kernel
theorem dX6_sortsBehind_24 : decode cX6_sortsBehind 24 = .ok (.invokevirtual 29, 3) := by decide +kernel
theorem dX6_sortsBehind_27 : decode cX6_sortsBehind 27 = .ok (.istore 4, 2) := by decide +kernel
theorem dX6_sortsBehind_29 : decode cX6_sortsBehind 29 = .ok (.iload_n 2, 1) := by decide +kernel
theorem dX6_sortsBehind_30 : decode cX6_sortsBehind 30 = .ok (.iconst 1, 1) := by decide +kernel
theorem dX6_sortsBehind_31 : decode cX6_sortsBehind 31 = .ok (.iload 4, 2) := by decide +kernel
theorem dX6_sortsBehind_33 : decode cX6_sortsBehind 33 = .ok (.invokestatic 37, 3) := by decide +kernel
theorem dX6_sortsBehind_36 : decode cX6_sortsBehind 36 = .ok (.ifCond .eq 16, 3) := by decide +kernel
theorem dX6_sortsBehind_39 : decode cX6_sortsBehind 39 = .ok (.aload_n 0, 1) := by decide +kernel
theorem dX6_sortsBehind_40 : decode cX6_sortsBehind 40 = .ok (.getfield 9, 3) := by decide +kernel
theorem dX6_sortsBehind_43 : decode cX6_sortsBehind 43 = .ok (.getfield 25, 3) := by decide +kernel
theorem dX6_sortsBehind_46 : decode cX6_sortsBehind 46 = .ok (.iload 4, 2) := by decide +kernel
theorem dX6_sortsBehind_48 : decode cX6_sortsBehind 48 = .ok (.iaload, 1) := by decide +kernel
theorem dX6_sortsBehind_49 : decode cX6_sortsBehind 49 = .ok (.goto 4, 3) := by decide +kernel
theorem dX6_sortsBehind_52 : decode cX6_sortsBehind 52 = .ok (.iconst 4, 1) := by decide +kernel
theorem dX6_sortsBehind_53 : decode cX6_sortsBehind 53 = .ok (.ishl, 1) := by decide +kernel
theorem dX6_sortsBehind_54 : decode cX6_sortsBehind 54 = .ok (.ior, 1) := by decide +kernel
theorem dX6_sortsBehind_55 : decode cX6_sortsBehind 55 = .ok (.istore_n 2, 1) := by decide +kernel
theorem dX6_sortsBehind_56 : decode cX6_sortsBehind 56 = .ok (.iinc 3 1, 3) := by decide +kernel
theorem dX6_sortsBehind_59 : decode cX6_sortsBehind 59 = .ok (.goto (-55), 3) := by decide +kernel
theorem dX6_sortsBehind_62 : decode cX6_sortsBehind 62 = .ok (.iload_n 2, 1) := by decide +kernel
theorem dX6_sortsBehind_63 : decode cX6_sortsBehind 63 = .ok (.invokestatic 40, 3) := by decide +kernel
theorem dX6_sortsBehind_66 : decode cX6_sortsBehind 66 = .ok (.ireturn, 1) := by decide +kernel
theorem dX7_empty_0 : decode cX7_empty 0 = .ok (.aload_n 0, 1) := by decide +kernel
theorem dX7_empty_1 : decode cX7_empty 1 = .ok (.iconst 0, 1) := by decide +kernel
theorem dX7_empty_2 : decode cX7_empty 2 = .ok (.putfield 27, 3) := by decide +kernel
theorem dX7_empty_5 : decode cX7_empty 5 = .ok (.aload_n 0, 1) := by decide +kernel
theorem dX7_empty_6 : decode cX7_empty 6 = .ok (.iconst 0, 1) := by decide +kernel
theorem dX7_empty_7 : decode cX7_empty 7 = .ok (.putfield 31, 3) := by decide +kernel
theorem dX7_empty_10 : decode cX7_empty 10 = .ok (.iconst 0, 1) := by decide +kernel
theorem dX7_empty_11 : decode cX7_empty 11 = .ok (.istore_n 1, 1) := by decide +kernel
theorem dX7_empty_12 : decode cX7_empty 12 = .ok (.iload_n 1, 1) := by decide +kernel
theorem dX7_empty_13 : decode cX7_empty 13 = .ok (.iconst 3, 1) := by decide +kernel
theorem dX7_empty_14 : decode cX7_empty 14 = .ok (.if_icmp .ge 23, 3) := by decide +kernel
theorem dX7_empty_17 : decode cX7_empty 17 = .ok (.aload_n 0, 1) := by decide +kernel
theorem dX7_empty_18 : decode cX7_empty 18 = .ok (.getfield 15, 3) := by decide +kernel
theorem dX7_empty_21 : decode cX7_empty 21 = .ok (.iload_n 1, 1) := by decide +kernel
theorem dX7_empty_22 : decode cX7_empty 22 = .ok (.iconst 0, 1) := by decide +kernel
theorem dX7_empty_23 : decode cX7_empty 23 = .ok (.iastore, 1) := by decide +kernel
theorem dX7_empty_24 : decode cX7_empty 24 = .ok (.aload_n 0, 1) := by decide +kernel
theorem dX7_empty_25 : decode cX7_empty 25 = .ok (.getfield 18, 3) := by decide +kernel
theorem dX7_empty_28 : decode cX7_empty 28 = .ok (.iload_n 1, 1) := by decide +kernel
theorem dX7_empty_29 : decode cX7_empty 29 = .ok (.iconst 0, 1) := by decide +kernel
theorem dX7_empty_30 : decode cX7_empty 30 = .ok (.iastore, 1) := by decide +kernel
theorem dX7_empty_31 : decode cX7_empty 31 = .ok (.iinc 1 1, 3) := by decide +kernel
theorem dX7_empty_34 : decode cX7_empty 34 = .ok (.goto (-22), 3) := by decide +kernel
theorem dX7_empty_37 : decode cX7_empty 37 = .ok (.return_, 1) := by decide +kernel
theorem dX7_copy_0 : decode cX7_copy 0 = .ok (.aload_n 1, 1) := by decide +kernel
theorem dX7_copy_1 : decode cX7_copy 1 = .ok (.getfield 9, 3) := by decide +kernel
theorem dX7_copy_4 : decode cX7_copy 4 = .ok (.iconst 0, 1) := by decide +kernel
theorem dX7_copy_5 : decode cX7_copy 5 = .ok (.aload_n 0, 1) := by decide +kernel
theorem dX7_copy_6 : decode cX7_copy 6 = .ok (.getfield 9, 3) := by decide +kernel
theorem dX7_copy_9 : decode cX7_copy 9 = .ok (.iconst 0, 1) := by decide +kernel
theorem dX7_copy_10 : decode cX7_copy 10 = .ok (.sipush 300, 3) := by decide +kernel
theorem dX7_copy_13 : decode cX7_copy 13 = .ok (.invokestatic 34, 3) := by decide +kernel
theorem dX7_copy_16 : decode cX7_copy 16 = .ok (.aload_n 0, 1) := by decide +kernel
theorem dX7_copy_17 : decode cX7_copy 17 = .ok (.aload_n 1, 1) := by decide +kernel
theorem dX7_copy_18 : decode cX7_copy 18 = .ok (.getfield 27, 3) := by decide +kernel
theorem dX7_copy_21 : decode cX7_copy 21 = .ok (.putfield 27, 3) := by decide +kernel
theorem dX7_copy_24 : decode cX7_copy 24 = .ok (.aload_n 1, 1) := by decide +kernel
theorem dX7_copy_25 : decode cX7_copy 25 = .ok (.getfield 15, 3) := by decide +kernel
theorem dX7_copy_28 : decode cX7_copy 28 = .ok (.iconst 0, 1) := by decide +kernel
theorem dX7_copy_29 : decode cX7_copy 29 = .ok (.aload_n 0, 1) := by decide +kernel
theorem dX7_copy_30 : decode cX7_copy 30 = .ok (.getfield 15, 3) := by decide +kernel
theorem dX7_copy_33 : decode cX7_copy 33 = .ok (.iconst 0, 1) := by decide +kernel
theorem dX7_copy_34 : decode cX7_copy 34 = .ok (.iconst 3, 1) := by decide +kernel
theorem dX7_copy_35 : decode cX7_copy 35 = .ok (.invokestatic 34, 3) := by decide +kernel
theorem dX7_copy_38 : decode cX7_copy 38 = .ok (.aload_n 1, 1) := by decide +kernel
theorem dX7_copy_39 : decode cX7_copy 39 = .ok (.getfield 18, 3) := by decide +kernel
theorem dX7_copy_42 : decode cX7_copy 42 = .ok (.iconst 0, 1) := by decide +kernel
theorem dX7_copy_43 : decode cX7_copy 43 = .ok (.aload_n 0, 1) := by decide +kernel
theorem dX7_copy_44 : decode cX7_copy 44 = .ok (.getfield 18, 3) := by decide +kernel
theorem dX7_copy_47 : decode cX7_copy 47 = .ok (.iconst 0, 1) := by decide +kernel
theorem dX7_copy_48 : decode cX7_copy 48 = .ok (.iconst 3, 1) := by decide +kernel
theorem dX7_copy_49 : decode cX7_copy 49 = .ok (.invokestatic 34, 3) := by decide +kernel
theorem dX7_copy_52 : decode cX7_copy 52 = .ok (.aload_n 1, 1) := by decide +kernel
theorem dX7_copy_53 : decode cX7_copy 53 = .ok (.getfield 21, 3) := by decide +kernel
theorem dX7_copy_56 : decode cX7_copy 56 = .ok (.iconst 0, 1) := by decide +kernel
theorem dX7_copy_57 : decode cX7_copy 57 = .ok (.aload_n 0, 1) := by decide +kernel
theorem dX7_copy_58 : decode cX7_copy 58 = .ok (.getfield 21, 3) := by decide +kernel
theorem dX7_copy_61 : decode cX7_copy 61 = .ok (.iconst 0, 1) := by decide +kernel
theorem dX7_copy_62 : decode cX7_copy 62 = .ok (.bipush 24, 2) := by decide +kernel
theorem dX7_copy_64 : decode cX7_copy 64 = .ok (.invokestatic 34, 3) := by decide +kernel
theorem dX7_copy_67 : decode cX7_copy 67 = .ok (.aload_n 1, 1) := by decide +kernel
theorem dX7_copy_68 : decode cX7_copy 68 = .ok (.getfield 24, 3) := by decide +kernel
theorem dX7_copy_71 : decode cX7_copy 71 = .ok (.iconst 0, 1) := by decide +kernel
theorem dX7_copy_72 : decode cX7_copy 72 = .ok (.aload_n 0, 1) := by decide +kernel
theorem dX7_copy_73 : decode cX7_copy 73 = .ok (.getfield 24, 3) := by decide +kernel
theorem dX7_copy_76 : decode cX7_copy 76 = .ok (.iconst 0, 1) := by decide +kernel
theorem dX7_copy_77 : decode cX7_copy 77 = .ok (.bipush 72, 2) := by decide +kernel
theorem dX7_copy_79 : decode cX7_copy 79 = .ok (.invokestatic 34, 3) := by decide +kernel
theorem dX7_copy_82 : decode cX7_copy 82 = .ok (.aload_n 0, 1) := by decide +kernel
theorem dX7_copy_83 : decode cX7_copy 83 = .ok (.aload_n 1, 1) := by decide +kernel
theorem dX7_copy_84 : decode cX7_copy 84 = .ok (.getfield 31, 3) := by decide +kernel
theorem dX7_copy_87 : decode cX7_copy 87 = .ok (.putfield 31, 3) := by decide +kernel
theorem dX7_copy_90 : decode cX7_copy 90 = .ok (.return_, 1) := by decide +kernel
theorem dX7_has_0 : decode cX7_has 0 = .ok (.aload_n 0, 1) := by decide +kernel
theorem dX7_has_1 : decode cX7_has 1 = .ok (.getfield 18, 3) := by decide +kernel
theorem dX7_has_4 : decode cX7_has 4 = .ok (.iload_n 1, 1) := by decide +kernel
theorem dX7_has_5 : decode cX7_has 5 = .ok (.iaload, 1) := by decide +kernel
theorem dX7_has_6 : decode cX7_has 6 = .ok (.aload_n 0, 1) := by decide +kernel
theorem dX7_has_7 : decode cX7_has 7 = .ok (.getfield 15, 3) := by decide +kernel
theorem dX7_has_10 : decode cX7_has 10 = .ok (.iload_n 1, 1) := by decide +kernel
theorem dX7_has_11 : decode cX7_has 11 = .ok (.iaload, 1) := by decide +kernel
theorem dX7_has_12 : decode cX7_has 12 = .ok (.if_icmp .le 7, 3) := by decide +kernel
theorem dX7_has_15 : decode cX7_has 15 = .ok (.iconst 1, 1) := by decide +kernel
theorem dX7_has_16 : decode cX7_has 16 = .ok (.goto 4, 3) := by decide +kernel
theorem dX7_has_19 : decode cX7_has 19 = .ok (.iconst 0, 1) := by decide +kernel
theorem dX7_has_20 : decode cX7_has 20 = .ok (.ireturn, 1) := by decide +kernel
theorem dX7_begin_0 : decode cX7_begin 0 = .ok (.aload_n 0, 1) := by decide +kernel
theorem dX7_begin_1 : decode cX7_begin 1 = .ok (.getfield 31, 3) := by decide +kernel
theorem dX7_begin_4 : decode cX7_begin 4 = .ok (.bipush 24, 2) := by decide +kernel
theorem dX7_begin_6 : decode cX7_begin 6 = .ok (.if_icmp .ge 28, 3) := by decide +kernel
theorem dX7_begin_9 : decode cX7_begin 9 = .ok (.aload_n 0, 1) := by decide +kernel
theorem dX7_begin_10 : decode cX7_begin 10 = .ok (.getfield 21, 3) := by decide +kernel
theorem dX7_begin_13 : decode cX7_begin 13 = .ok (.aload_n 0, 1) := by decide +kernel
theorem dX7_begin_14 : decode cX7_begin 14 = .ok (.getfield 31, 3) := by decide +kernel
theorem dX7_begin_17 : decode cX7_begin 17 = .ok (.iload_n 1, 1) := by decide +kernel
theorem dX7_begin_18 : decode cX7_begin 18 = .ok (.iastore, 1) := by decide +kernel
theorem dX7_begin_19 : decode cX7_begin 19 = .ok (.aload_n 0, 1) := by decide +kernel
theorem dX7_begin_20 : decode cX7_begin 20 = .ok (.dup, 1) := by decide +kernel
theorem dX7_begin_21 : decode cX7_begin 21 = .ok (.getfield 31, 3) := by decide +kernel
theorem dX7_begin_24 : decode cX7_begin 24 = .ok (.iconst 1, 1) := by decide +kernel
theorem dX7_begin_25 : decode cX7_begin 25 = .ok (.iadd, 1) := by decide +kernel
theorem dX7_begin_26 : decode cX7_begin 26 = .ok (.putfield 31, 3) := by decide +kernel
theorem dX7_begin_29 : decode cX7_begin 29 = .ok (.aload_n 0, 1) := by decide +kernel
theorem dX7_begin_30 : decode cX7_begin 30 = .ok (.iconst 0, 1) := by decide +kernel
theorem dX7_begin_31 : decode cX7_begin 31 = .ok (.putfield 40, 3) := by decide +kernel
theorem dX7_begin_34 : decode cX7_begin 34 = .ok (.return_, 1) := by decide +kernel
theorem dX7_addNumber_0 : decode cX7_addNumber 0 = .ok (.aload_n 0, 1) := by decide +kernel
theorem dX7_addNumber_1 : decode cX7_addNumber 1 = .ok (.getfield 31, 3) := by decide +kernel
theorem dX7_addNumber_4 : decode cX7_addNumber 4 = .ok (.ifCond .le 40, 3) := by decide +kernel
theorem dX7_addNumber_7 : decode cX7_addNumber 7 = .ok (.aload_n 0, 1) := by decide +kernel
theorem dX7_addNumber_8 : decode cX7_addNumber 8 = .ok (.getfield 40, 3) := by decide +kernel
theorem dX7_addNumber_11 : decode cX7_addNumber 11 = .ok (.iconst 3, 1) := by decide +kernel
theorem dX7_addNumber_12 : decode cX7_addNumber 12 = .ok (.if_icmp .ge 32, 3) := by decide +kernel
theorem dX7_addNumber_15 : decode cX7_addNumber 15 = .ok (.aload_n 0, 1) := by decide +kernel
theorem dX7_addNumber_16 : decode cX7_addNumber 16 = .ok (.getfield 24, 3) := by decide +kernel
theorem dX7_addNumber_19 : decode cX7_addNumber 19 = .ok (.aload_n 0, 1) := by decide +kernel
theorem dX7_addNumber_20 : decode cX7_addNumber 20 = .ok (.getfield 31, 3) := by decide +kernel
theorem dX7_addNumber_23 : decode cX7_addNumber 23 = .ok (.iconst 1, 1) := by decide +kernel
theorem dX7_addNumber_24 : decode cX7_addNumber 24 = .ok (.isub, 1) := by decide +kernel
theorem dX7_addNumber_25 : decode cX7_addNumber 25 = .ok (.iconst 3, 1) := by decide +kernel
theorem dX7_addNumber_26 : decode cX7_addNumber 26 = .ok (.imul, 1) := by decide +kernel
theorem dX7_addNumber_27 : decode cX7_addNumber 27 = .ok (.aload_n 0, 1) := by decide +kernel
theorem dX7_addNumber_28 : decode cX7_addNumber 28 = .ok (.getfield 40, 3) := by decide +kernel
theorem dX7_addNumber_31 : decode cX7_addNumber 31 = .ok (.iadd, 1) := by decide +kernel
theorem dX7_addNumber_32 : decode cX7_addNumber 32 = .ok (.iload_n 1, 1) := by decide +kernel
theorem dX7_addNumber_33 : decode cX7_addNumber 33 = .ok (.iastore, 1) := by decide +kernel
theorem dX7_addNumber_34 : decode cX7_addNumber 34 = .ok (.aload_n 0, 1) := by decide +kernel
theorem dX7_addNumber_35 : decode cX7_addNumber 35 = .ok (.dup, 1) := by decide +kernel
theorem dX7_addNumber_36 : decode cX7_addNumber 36 = .ok (.getfield 40, 3) := by decide +kernel
theorem dX7_addNumber_39 : decode cX7_addNumber 39 = .ok (.iconst 1, 1) := by decide +kernel
theorem dX7_addNumber_40 : decode cX7_addNumber 40 = .ok (.iadd, 1) := by decide +kernel
theorem dX7_addNumber_41 : decode cX7_addNumber 41 = .ok (.putfield 40, 3) := by decide +kernel
theorem dX7_addNumber_44 : decode cX7_addNumber 44 = .ok (.return_, 1) := by decide +kernel
theorem dX7_numberOf_0 : decode cX7_numberOf 0 = .ok (.aload_n 0, 1) := by decide +kernel
theorem dX7_numberOf_1 : decode cX7_numberOf 1 = .ok (.getfield 24, 3) := by decide +kernel
theorem dX7_numberOf_4 : decode cX7_numberOf 4 = .ok (.iload_n 1, 1) := by decide +kernel
theorem dX7_numberOf_5 : decode cX7_numberOf 5 = .ok (.iconst 3, 1) := by decide +kernel
theorem dX7_numberOf_6 : decode cX7_numberOf 6 = .ok (.imul, 1) := by decide +kernel
theorem dX7_numberOf_7 : decode cX7_numberOf 7 = .ok (.iload_n 2, 1) := by decide +kernel
theorem dX7_numberOf_8 : decode cX7_numberOf 8 = .ok (.iadd, 1) := by decide +kernel
theorem dX7_numberOf_9 : decode cX7_numberOf 9 = .ok (.iaload, 1) := by decide +kernel
theorem dX7_numberOf_10 : decode cX7_numberOf 10 = .ok (.ireturn, 1) := by decide +kernel
theorem dX7_put_0 : decode cX7_put 0 = .ok (.aload_n 0, 1) := by decide +kernel
theorem dX7_put_1 : decode cX7_put 1 = .ok (.getfield 27, 3) := by decide +kernel
theorem dX7_put_4 : decode cX7_put 4 = .ok (.sipush 300, 3) := by decide +kernel
theorem dX7_put_7 : decode cX7_put 7 = .ok (.if_icmp .ge 28, 3) := by decide +kernel
theorem dX7_put_10 : decode cX7_put 10 = .ok (.aload_n 0, 1) := by decide +kernel
theorem dX7_put_11 : decode cX7_put 11 = .ok (.getfield 9, 3) := by decide +kernel
theorem dX7_put_14 : decode cX7_put 14 = .ok (.aload_n 0, 1) := by decide +kernel
theorem dX7_put_15 : decode cX7_put 15 = .ok (.getfield 27, 3) := by decide +kernel
theorem dX7_put_18 : decode cX7_put 18 = .ok (.iload_n 1, 1) := by decide +kernel
theorem dX7_put_19 : decode cX7_put 19 = .ok (.bipush 16, 2) := by decide +kernel
theorem dX7_put_21 : decode cX7_put 21 = .ok (.ishl, 1) := by decide +kernel
theorem dX7_put_22 : decode cX7_put 22 = .ok (.iload_n 2, 1) := by decide +kernel
theorem dX7_put_23 : decode cX7_put 23 = .ok (.ior, 1) := by decide +kernel
theorem dX7_put_24 : decode cX7_put 24 = .ok (.iastore, 1) := by decide +kernel
theorem dX7_put_25 : decode cX7_put 25 = .ok (.aload_n 0, 1) := by decide +kernel
theorem dX7_put_26 : decode cX7_put 26 = .ok (.dup, 1) := by decide +kernel
theorem dX7_put_27 : decode cX7_put 27 = .ok (.getfield 27, 3) := by decide +kernel
theorem dX7_put_30 : decode cX7_put 30 = .ok (.iconst 1, 1) := by decide +kernel
theorem dX7_put_31 : decode cX7_put 31 = .ok (.iadd, 1) := by decide +kernel
theorem dX7_put_32 : decode cX7_put 32 = .ok (.putfield 27, 3) := by decide +kernel
theorem dX7_put_35 : decode cX7_put 35 = .ok (.return_, 1) := by decide +kernel
theorem dX7_aimHere_0 : decode cX7_aimHere 0 = .ok (.iload_n 1, 1) := by decide +kernel
theorem dX7_aimHere_1 : decode cX7_aimHere 1 = .ok (.ifCond .lt 30, 3) := by decide +kernel
theorem dX7_aimHere_4 : decode cX7_aimHere 4 = .ok (.iload_n 1, 1) := by decide +kernel
theorem dX7_aimHere_5 : decode cX7_aimHere 5 = .ok (.sipush 300, 3) := by decide +kernel
theorem dX7_aimHere_8 : decode cX7_aimHere 8 = .ok (.if_icmp .ge 23, 3) := by decide +kernel
theorem dX7_aimHere_11 : decode cX7_aimHere 11 = .ok (.aload_n 0, 1) := by decide +kernel
theorem dX7_aimHere_12 : decode cX7_aimHere 12 = .ok (.getfield 9, 3) := by decide +kernel
theorem dX7_aimHere_15 : decode cX7_aimHere 15 = .ok (.iload_n 1, 1) := by decide +kernel
theorem dX7_aimHere_16 : decode cX7_aimHere 16 = .ok (.aload_n 0, 1) := by decide +kernel
theorem dX7_aimHere_17 : decode cX7_aimHere 17 = .ok (.getfield 9, 3) := by decide +kernel
theorem dX7_aimHere_20 : decode cX7_aimHere 20 = .ok (.iload_n 1, 1) := by decide +kernel
theorem dX7_aimHere_21 : decode cX7_aimHere 21 = .ok (.iaload, 1) := by decide +kernel
theorem dX7_aimHere_22 : decode cX7_aimHere 22 = .ok (.ldc 43, 2) := by decide +kernel
theorem dX7_aimHere_24 : decode cX7_aimHere 24 = .ok (.iand, 1) := by decide +kernel
theorem dX7_aimHere_25 : decode cX7_aimHere 25 = .ok (.aload_n 0, 1) := by decide +kernel
theorem dX7_aimHere_26 : decode cX7_aimHere 26 = .ok (.getfield 27, 3) := by decide +kernel
theorem dX7_aimHere_29 : decode cX7_aimHere 29 = .ok (.ior, 1) := by decide +kernel
theorem dX7_aimHere_30 : decode cX7_aimHere 30 = .ok (.iastore, 1) := by decide +kernel
theorem dX7_aimHere_31 : decode cX7_aimHere 31 = .ok (.return_, 1) := by decide +kernel
section
variable {p : Program} {l : Launch} {e : Env} {R : Room} {s : State} {m : MethodId} {args : Array Value} {below : List Frame} {meth : Method} {c : Code} {Q : State → Prop} {V : g_V} {nf nl : Nat}
set_option maxRecDepth 100000 in
set_option maxHeartbeats 4000000 in
theorem b_X7_has (C : g_CX xG V p R s m args meth c cX7_has 2 (some .boolean) RX7 0 0) {res : Int} {M : g_M} (hR : g_RetI xG V p l e R s m args below meth c Q cX7_has .boolean res M) {t0 : Nat} {a1 : Int} (ht0 : xT t0) {H : Heap} {locs : List Loc} {ls : Array Slot} (h : m_X7_has t0 a1 M = some res) (hp : g_PT xG V M s H locs) (hl : lv_has ls 2 [(0, .ref (V.2.2 t0)), (1, .int (gI a1))]) : W p l e R s m args below meth c H locs 0 0 Q (F0 m 0 ls []) := by
  unfold m_X7_has at h
  refine lv_aload_n C.1 C.2.1 dX7_has_0 rfl (lv_at hl 0 rfl) ?_
  refine r_getr (t := (t0 + 3)) C hp (xT_k0 ht0) (xT_s0 ht0) xc_7 xin_7 (j := 3) (by decide) rfl gw_253 rfl dX7_has_1 ?_
  refine lv_iload_n C.1 C.2.1 dX7_has_4 rfl (lv_at hl 1 rfl) ?_
  refine r_iald C hp h (xT_k3 ht0) (xT_s3 ht0) dX7_has_5 (fun h => ?_)
  refine lv_aload_n C.1 C.2.1 dX7_has_6 rfl (lv_at hl 0 rfl) ?_
  refine r_getr (t := (t0 + 2)) C hp (xT_k0 ht0) (xT_s0 ht0) xc_7 xin_7 (j := 2) (by decide) rfl gw_250 rfl dX7_has_7 ?_
  refine lv_iload_n C.1 C.2.1 dX7_has_10 rfl (lv_at hl 1 rfl) ?_
  refine r_iald C hp h (xT_k2 ht0) (xT_s2 ht0) dX7_has_11 (fun h => ?_)
  refine r_icmp_le (tgt := 19) C h dX7_has_12 (by decide) (fun h => ?_) (fun h => ?_)
  · refine r_iconst C dX7_has_19 ?_
    cases h
    exact hR _ _ _ _ dX7_has_20 g_nz0 hp
  · refine r_iconst C dX7_has_15 ?_
    refine r_goto (tgt := 20) C dX7_has_16 (by decide) ?_
    cases h
    exact hR _ _ _ _ dX7_has_20 g_nz1 hp
theorem c_X7_has (l : Launch) {V : g_V} (hok : g_ok xG V) {t0 : Nat} {a1 : Int} {M : g_M} {x : Int} (ht0 : xT t0) (h : m_X7_has t0 a1 M = some x) : MetI xG V l yX7_has cX7_has 2 (some .boolean) 0 0 [.ref (V.2.2 t0), .int (gI a1)] M x M :=
  g_metI hok cal_X7_has.2.2.2 rfl (Nat.le_of_ble_eq_true rfl) (@fun p e R s m args below meth c Q ls C hR hp hl => b_X7_has C hR ht0 h hp hl)
set_option maxRecDepth 100000 in
set_option maxHeartbeats 4000000 in
theorem w_X7_empty_L12 (C : g_CX xG V p R s m args meth c cX7_empty 2 none RX7 0 0) {res : g_M} (hR : g_RetV xG V p l e R s m args below meth c Q cX7_empty res) (t14 : Nat) (ht14 : xT t14)   : ∀ (f : Nat) (x15 : Int) (M16 : g_M) (H : Heap) (locs : List Loc) (ls : Array Slot), m_X7_empty_L12 t14  f x15 M16 = some res → g_PT xG V M16 s H locs → lv_has ls 2 [(0, .ref (V.2.2 t14)), (1, .int (gI x15))] → W p l e R s m args below meth c H locs 0 0 Q (F0 m 12 ls []) := by
  intro f
  induction f with
  | zero => intro x15 M16 H locs ls h hp hl; cases h
  | succ f ih =>
    intro x15 M16 H locs ls h hp hl
    rw [m_X7_empty_L12] at h
    refine lv_iload_n C.1 C.2.1 dX7_empty_12 rfl (lv_at hl 1 rfl) ?_
    refine r_iconst C dX7_empty_13 ?_
    refine r_icmp_ge (tgt := 37) C h dX7_empty_14 (by decide) (fun h => ?_) (fun h => ?_)
    · cases h
      exact hR _ _ _ _ dX7_empty_37 hp
    · refine lv_aload_n C.1 C.2.1 dX7_empty_17 rfl (lv_at hl 0 rfl) ?_
      refine r_getr (t := (t14 + 2)) C hp (xT_k0 ht14) (xT_s0 ht14) xc_7 xin_7 (j := 2) (by decide) rfl gw_250 rfl dX7_empty_18 ?_
      refine lv_iload_n C.1 C.2.1 dX7_empty_21 rfl (lv_at hl 1 rfl) ?_
      refine r_iconst C dX7_empty_22 ?_
      refine r_iast C hp h (xT_k2 ht14) (xT_s2 ht14) dX7_empty_23 (fun M17 H locs h hp => ?_)
      refine lv_aload_n C.1 C.2.1 dX7_empty_24 rfl (lv_at hl 0 rfl) ?_
      refine r_getr (t := (t14 + 3)) C hp (xT_k0 ht14) (xT_s0 ht14) xc_7 xin_7 (j := 3) (by decide) rfl gw_253 rfl dX7_empty_25 ?_
      refine lv_iload_n C.1 C.2.1 dX7_empty_28 rfl (lv_at hl 1 rfl) ?_
      refine r_iconst C dX7_empty_29 ?_
      refine r_iast C hp h (xT_k3 ht14) (xT_s3 ht14) dX7_empty_30 (fun M18 H locs h hp => ?_)
      refine r_iinc (lv' := fun x19 => [(1, .int (gI x19)), (0, .ref (V.2.2 t14))]) C h dX7_empty_31 hl (j := 1) rfl (by decide) (fun _ => rfl) (fun x19 ls h hl => ?_)
      refine r_goto (tgt := 12) C dX7_empty_34 (by decide) ?_
      exact ih _ _ _ _ _ h hp (lv_sub hl [1, 0] rfl)
set_option maxRecDepth 100000 in
set_option maxHeartbeats 4000000 in
theorem b_X7_empty (C : g_CX xG V p R s m args meth c cX7_empty 2 none RX7 0 0) {res : g_M} (hR : g_RetV xG V p l e R s m args below meth c Q cX7_empty res) {t0 : Nat} {M : g_M} (ht0 : xT t0) {H : Heap} {locs : List Loc} {ls : Array Slot} (h : m_X7_empty t0 M = some res) (hp : g_PT xG V M s H locs) (hl : lv_has ls 2 [(0, .ref (V.2.2 t0))]) : W p l e R s m args below meth c H locs 0 0 Q (F0 m 0 ls []) := by
  unfold m_X7_empty at h
  refine lv_aload_n C.1 C.2.1 dX7_empty_0 rfl (lv_at hl 0 rfl) ?_
  refine r_iconst C dX7_empty_1 ?_
  refine r_puti C hp h (xT_k0 ht0) (xT_s0 ht0) xc_7 xin_7 tyX7 tyX7_ok nmX7 (j := 1) (by decide) rfl gw_248 rfl rfl rfl dX7_empty_2 (fun M11 H locs h hp => ?_)
  refine lv_aload_n C.1 C.2.1 dX7_empty_5 rfl (lv_at hl 0 rfl) ?_
  refine r_iconst C dX7_empty_6 ?_
  refine r_puti C hp h (xT_k0 ht0) (xT_s0 ht0) xc_7 xin_7 tyX7 tyX7_ok nmX7 (j := 6) (by decide) rfl gw_259 rfl rfl rfl dX7_empty_7 (fun M12 H locs h hp => ?_)
  refine r_iconst C dX7_empty_10 ?_
  refine r_istore_n (lv' := fun x13 => [(1, .int (gI x13)), (0, .ref (V.2.2 t0))]) C h dX7_empty_11 rfl hl (by decide) (fun _ => rfl) (fun x13 ls h hl => ?_)
  refine w_X7_empty_L12 C hR _ ht0 _ _ _ H locs ls h hp (lv_sub hl [1, 0] rfl)
theorem c_X7_empty (l : Launch) {V : g_V} (hok : g_ok xG V) {t0 : Nat} {M : g_M} {res : g_M} (ht0 : xT t0) (h : m_X7_empty t0 M = some res) : MetV xG V l yX7_empty cX7_empty 2 none 0 0 [.ref (V.2.2 t0)] M res :=
  g_metV hok cal_X7_empty.2.2.2 rfl (Nat.le_of_ble_eq_true rfl) (@fun p e R s m args below meth c Q ls C hR hp hl => b_X7_empty C hR ht0 h hp hl)
set_option maxRecDepth 100000 in
set_option maxHeartbeats 4000000 in
theorem b_X7_begin (C : g_CX xG V p R s m args meth c cX7_begin 2 none RX7 0 0) {res : g_M} (hR : g_RetV xG V p l e R s m args below meth c Q cX7_begin res) {t0 : Nat} {a1 : Int} {M : g_M} (ht0 : xT t0) {H : Heap} {locs : List Loc} {ls : Array Slot} (h : m_X7_begin t0 a1 M = some res) (hp : g_PT xG V M s H locs) (hl : lv_has ls 2 [(0, .ref (V.2.2 t0)), (1, .int (gI a1))]) : W p l e R s m args below meth c H locs 0 0 Q (F0 m 0 ls []) := by
  unfold m_X7_begin at h
  refine lv_aload_n C.1 C.2.1 dX7_begin_0 rfl (lv_at hl 0 rfl) ?_
  refine r_geti (t := 0) C hp (xT_k0 ht0) (xT_s0 ht0) xc_7 xin_7 (j := 6) (by decide) rfl gw_259 rfl dX7_begin_1 ?_
  refine r_bipush C dX7_begin_4 (by decide +kernel) ?_
  refine r_icmp_ge (tgt := 34) C h dX7_begin_6 (by decide) (fun h => ?_) (fun h => ?_)
  · cases h
    exact hR _ _ _ _ dX7_begin_34 hp
  · refine lv_aload_n C.1 C.2.1 dX7_begin_9 rfl (lv_at hl 0 rfl) ?_
    refine r_getr (t := (t0 + 4)) C hp (xT_k0 ht0) (xT_s0 ht0) xc_7 xin_7 (j := 4) (by decide) rfl gw_256 rfl dX7_begin_10 ?_
    refine lv_aload_n C.1 C.2.1 dX7_begin_13 rfl (lv_at hl 0 rfl) ?_
    refine r_geti (t := 0) C hp (xT_k0 ht0) (xT_s0 ht0) xc_7 xin_7 (j := 6) (by decide) rfl gw_259 rfl dX7_begin_14 ?_
    refine lv_iload_n C.1 C.2.1 dX7_begin_17 rfl (lv_at hl 1 rfl) ?_
    refine r_iast C hp h (xT_k4 ht0) (xT_s4 ht0) dX7_begin_18 (fun M11 H locs h hp => ?_)
    refine lv_aload_n C.1 C.2.1 dX7_begin_19 rfl (lv_at hl 0 rfl) ?_
    refine lv_dup C.1 C.2.1 dX7_begin_20 rfl ?_
    refine r_geti (t := 0) C hp (xT_k0 ht0) (xT_s0 ht0) xc_7 xin_7 (j := 6) (by decide) rfl gw_259 rfl dX7_begin_21 ?_
    refine r_iconst C dX7_begin_24 ?_
    refine r_iadd C dX7_begin_25 ?_
    refine r_puti C hp h (xT_k0 ht0) (xT_s0 ht0) xc_7 xin_7 tyX7 tyX7_ok nmX7 (j := 6) (by decide) rfl gw_259 rfl rfl rfl dX7_begin_26 (fun M12 H locs h hp => ?_)
    refine lv_aload_n C.1 C.2.1 dX7_begin_29 rfl (lv_at hl 0 rfl) ?_
    refine r_iconst C dX7_begin_30 ?_
    refine r_puti C hp h (xT_k0 ht0) (xT_s0 ht0) xc_7 xin_7 tyX7 tyX7_ok nmX7 (j := 7) (by decide) rfl gw_262 rfl rfl rfl dX7_begin_31 (fun M13 H locs h hp => ?_)
    cases h
    exact hR _ _ _ _ dX7_begin_34 hp
theorem c_X7_begin (l : Launch) {V : g_V} (hok : g_ok xG V) {t0 : Nat} {a1 : Int} {M : g_M} {res : g_M} (ht0 : xT t0) (h : m_X7_begin t0 a1 M = some res) : MetV xG V l yX7_begin cX7_begin 2 none 0 0 [.ref (V.2.2 t0), .int (gI a1)] M res :=
  g_metV hok cal_X7_begin.2.2.2 rfl (Nat.le_of_ble_eq_true rfl) (@fun p e R s m args below meth c Q ls C hR hp hl => b_X7_begin C hR ht0 h hp hl)
set_option maxRecDepth 100000 in
set_option maxHeartbeats 4000000 in
theorem b_X7_put (C : g_CX xG V p R s m args meth c cX7_put 3 none RX7 0 0) {res : g_M} (hR : g_RetV xG V p l e R s m args below meth c Q cX7_put res) {t0 : Nat} {a1 : Int} {a2 : Int} {M : g_M} (ht0 : xT t0) {H : Heap} {locs : List Loc} {ls : Array Slot} (h : m_X7_put t0 a1 a2 M = some res) (hp : g_PT xG V M s H locs) (hl : lv_has ls 3 [(0, .ref (V.2.2 t0)), (1, .int (gI a1)), (2, .int (gI a2))]) : W p l e R s m args below meth c H locs 0 0 Q (F0 m 0 ls []) := by
  unfold m_X7_put at h
  refine lv_aload_n C.1 C.2.1 dX7_put_0 rfl (lv_at hl 0 rfl) ?_
  refine r_geti (t := 0) C hp (xT_k0 ht0) (xT_s0 ht0) xc_7 xin_7 (j := 1) (by decide) rfl gw_248 rfl dX7_put_1 ?_
  refine r_sipush C dX7_put_4 (by decide +kernel) ?_
  refine r_icmp_ge (tgt := 35) C h dX7_put_7 (by decide) (fun h => ?_) (fun h => ?_)
  · cases h
    exact hR _ _ _ _ dX7_put_35 hp
  · refine lv_aload_n C.1 C.2.1 dX7_put_10 rfl (lv_at hl 0 rfl) ?_
    refine r_getr (t := (t0 + 1)) C hp (xT_k0 ht0) (xT_s0 ht0) xc_7 xin_7 (j := 0) (by decide) rfl gw_246 rfl dX7_put_11 ?_
    refine lv_aload_n C.1 C.2.1 dX7_put_14 rfl (lv_at hl 0 rfl) ?_
    refine r_geti (t := 0) C hp (xT_k0 ht0) (xT_s0 ht0) xc_7 xin_7 (j := 1) (by decide) rfl gw_248 rfl dX7_put_15 ?_
    refine lv_iload_n C.1 C.2.1 dX7_put_18 rfl (lv_at hl 1 rfl) ?_
    refine r_bipush C dX7_put_19 (by decide +kernel) ?_
    refine r_ishl C dX7_put_21 ?_
    refine lv_iload_n C.1 C.2.1 dX7_put_22 rfl (lv_at hl 2 rfl) ?_
    refine r_ior C dX7_put_23 ?_
    refine r_iast C hp h (xT_k1 ht0) (xT_s1 ht0) dX7_put_24 (fun M11 H locs h hp => ?_)
    refine lv_aload_n C.1 C.2.1 dX7_put_25 rfl (lv_at hl 0 rfl) ?_
    refine lv_dup C.1 C.2.1 dX7_put_26 rfl ?_
    refine r_geti (t := 0) C hp (xT_k0 ht0) (xT_s0 ht0) xc_7 xin_7 (j := 1) (by decide) rfl gw_248 rfl dX7_put_27 ?_
    refine r_iconst C dX7_put_30 ?_
    refine r_iadd C dX7_put_31 ?_
    refine r_puti C hp h (xT_k0 ht0) (xT_s0 ht0) xc_7 xin_7 tyX7 tyX7_ok nmX7 (j := 1) (by decide) rfl gw_248 rfl rfl rfl dX7_put_32 (fun M12 H locs h hp => ?_)
    cases h
    exact hR _ _ _ _ dX7_put_35 hp
theorem c_X7_put (l : Launch) {V : g_V} (hok : g_ok xG V) {t0 : Nat} {a1 : Int} {a2 : Int} {M : g_M} {res : g_M} (ht0 : xT t0) (h : m_X7_put t0 a1 a2 M = some res) : MetV xG V l yX7_put cX7_put 3 none 0 0 [.ref (V.2.2 t0), .int (gI a1), .int (gI a2)] M res :=
  g_metV hok cal_X7_put.2.2.2 rfl (Nat.le_of_ble_eq_true rfl) (@fun p e R s m args below meth c Q ls C hR hp hl => b_X7_put C hR ht0 h hp hl)
set_option maxRecDepth 100000 in
set_option maxHeartbeats 4000000 in
theorem b_X7_aimHere (C : g_CX xG V p R s m args meth c cX7_aimHere 2 none RX7 0 0) {res : g_M} (hR : g_RetV xG V p l e R s m args below meth c Q cX7_aimHere res) {t0 : Nat} {a1 : Int} {M : g_M} (ht0 : xT t0) {H : Heap} {locs : List Loc} {ls : Array Slot} (h : m_X7_aimHere t0 a1 M = some res) (hp : g_PT xG V M s H locs) (hl : lv_has ls 2 [(0, .ref (V.2.2 t0)), (1, .int (gI a1))]) : W p l e R s m args below meth c H locs 0 0 Q (F0 m 0 ls []) := by
  unfold m_X7_aimHere at h
  refine lv_iload_n C.1 C.2.1 dX7_aimHere_0 rfl (lv_at hl 1 rfl) ?_
  refine r_if_lt (tgt := 31) C h dX7_aimHere_1 (by decide) (fun h => ?_) (fun h => ?_)
  · cases h
    exact hR _ _ _ _ dX7_aimHere_31 hp
  · refine lv_iload_n C.1 C.2.1 dX7_aimHere_4 rfl (lv_at hl 1 rfl) ?_
    refine r_sipush C dX7_aimHere_5 (by decide +kernel) ?_
    refine r_icmp_ge (tgt := 31) C h dX7_aimHere_8 (by decide) (fun h => ?_) (fun h => ?_)
    · cases h
      exact hR _ _ _ _ dX7_aimHere_31 hp
    · refine lv_aload_n C.1 C.2.1 dX7_aimHere_11 rfl (lv_at hl 0 rfl) ?_
      refine r_getr (t := (t0 + 1)) C hp (xT_k0 ht0) (xT_s0 ht0) xc_7 xin_7 (j := 0) (by decide) rfl gw_246 rfl dX7_aimHere_12 ?_
      refine lv_iload_n C.1 C.2.1 dX7_aimHere_15 rfl (lv_at hl 1 rfl) ?_
      refine lv_aload_n C.1 C.2.1 dX7_aimHere_16 rfl (lv_at hl 0 rfl) ?_
      refine r_getr (t := (t0 + 1)) C hp (xT_k0 ht0) (xT_s0 ht0) xc_7 xin_7 (j := 0) (by decide) rfl gw_246 rfl dX7_aimHere_17 ?_
      refine lv_iload_n C.1 C.2.1 dX7_aimHere_20 rfl (lv_at hl 1 rfl) ?_
      refine r_iald C hp h (xT_k1 ht0) (xT_s1 ht0) dX7_aimHere_21 (fun h => ?_)
      refine r_ldc (n := (-65536)) C gw_734 (by decide +kernel) dX7_aimHere_22 ?_
      refine r_iand C dX7_aimHere_24 ?_
      refine lv_aload_n C.1 C.2.1 dX7_aimHere_25 rfl (lv_at hl 0 rfl) ?_
      refine r_geti (t := 0) C hp (xT_k0 ht0) (xT_s0 ht0) xc_7 xin_7 (j := 1) (by decide) rfl gw_248 rfl dX7_aimHere_26 ?_
      refine r_ior C dX7_aimHere_29 ?_
      refine r_iast C hp h (xT_k1 ht0) (xT_s1 ht0) dX7_aimHere_30 (fun M11 H locs h hp => ?_)
      cases h
      exact hR _ _ _ _ dX7_aimHere_31 hp
theorem c_X7_aimHere (l : Launch) {V : g_V} (hok : g_ok xG V) {t0 : Nat} {a1 : Int} {M : g_M} {res : g_M} (ht0 : xT t0) (h : m_X7_aimHere t0 a1 M = some res) : MetV xG V l yX7_aimHere cX7_aimHere 2 none 0 0 [.ref (V.2.2 t0), .int (gI a1)] M res :=
  g_metV hok cal_X7_aimHere.2.2.2 rfl (Nat.le_of_ble_eq_true rfl) (@fun p e R s m args below meth c Q ls C hR hp hl => b_X7_aimHere C hR ht0 h hp hl)
set_option maxRecDepth 100000 in
set_option maxHeartbeats 4000000 in
theorem b_X7_addNumber (C : g_CX xG V p R s m args meth c cX7_addNumber 2 none RX7 0 0) {res : g_M} (hR : g_RetV xG V p l e R s m args below meth c Q cX7_addNumber res) {t0 : Nat} {a1 : Int} {M : g_M} (ht0 : xT t0) {H : Heap} {locs : List Loc} {ls : Array Slot} (h : m_X7_addNumber t0 a1 M = some res) (hp : g_PT xG V M s H locs) (hl : lv_has ls 2 [(0, .ref (V.2.2 t0)), (1, .int (gI a1))]) : W p l e R s m args below meth c H locs 0 0 Q (F0 m 0 ls []) := by
  unfold m_X7_addNumber at h
  refine lv_aload_n C.1 C.2.1 dX7_addNumber_0 rfl (lv_at hl 0 rfl) ?_
  refine r_geti (t := 0) C hp (xT_k0 ht0) (xT_s0 ht0) xc_7 xin_7 (j := 6) (by decide) rfl gw_259 rfl dX7_addNumber_1 ?_
  refine r_if_le (tgt := 44) C h dX7_addNumber_4 (by decide) (fun h => ?_) (fun h => ?_)
  · cases h
    exact hR _ _ _ _ dX7_addNumber_44 hp
  · refine lv_aload_n C.1 C.2.1 dX7_addNumber_7 rfl (lv_at hl 0 rfl) ?_
    refine r_geti (t := 0) C hp (xT_k0 ht0) (xT_s0 ht0) xc_7 xin_7 (j := 7) (by decide) rfl gw_262 rfl dX7_addNumber_8 ?_
    refine r_iconst C dX7_addNumber_11 ?_
    refine r_icmp_ge (tgt := 44) C h dX7_addNumber_12 (by decide) (fun h => ?_) (fun h => ?_)
    · cases h
      exact hR _ _ _ _ dX7_addNumber_44 hp
    · refine lv_aload_n C.1 C.2.1 dX7_addNumber_15 rfl (lv_at hl 0 rfl) ?_
      refine r_getr (t := (t0 + 5)) C hp (xT_k0 ht0) (xT_s0 ht0) xc_7 xin_7 (j := 5) (by decide) rfl gw_258 rfl dX7_addNumber_16 ?_
      refine lv_aload_n C.1 C.2.1 dX7_addNumber_19 rfl (lv_at hl 0 rfl) ?_
      refine r_geti (t := 0) C hp (xT_k0 ht0) (xT_s0 ht0) xc_7 xin_7 (j := 6) (by decide) rfl gw_259 rfl dX7_addNumber_20 ?_
      refine r_iconst C dX7_addNumber_23 ?_
      refine r_isub C dX7_addNumber_24 ?_
      refine r_iconst C dX7_addNumber_25 ?_
      refine r_imul C dX7_addNumber_26 ?_
      refine lv_aload_n C.1 C.2.1 dX7_addNumber_27 rfl (lv_at hl 0 rfl) ?_
      refine r_geti (t := 0) C hp (xT_k0 ht0) (xT_s0 ht0) xc_7 xin_7 (j := 7) (by decide) rfl gw_262 rfl dX7_addNumber_28 ?_
      refine r_iadd C dX7_addNumber_31 ?_
      refine lv_iload_n C.1 C.2.1 dX7_addNumber_32 rfl (lv_at hl 1 rfl) ?_
      refine r_iast C hp h (xT_k5 ht0) (xT_s5 ht0) dX7_addNumber_33 (fun M11 H locs h hp => ?_)
      refine lv_aload_n C.1 C.2.1 dX7_addNumber_34 rfl (lv_at hl 0 rfl) ?_
      refine lv_dup C.1 C.2.1 dX7_addNumber_35 rfl ?_
      refine r_geti (t := 0) C hp (xT_k0 ht0) (xT_s0 ht0) xc_7 xin_7 (j := 7) (by decide) rfl gw_262 rfl dX7_addNumber_36 ?_
      refine r_iconst C dX7_addNumber_39 ?_
      refine r_iadd C dX7_addNumber_40 ?_
      refine r_puti C hp h (xT_k0 ht0) (xT_s0 ht0) xc_7 xin_7 tyX7 tyX7_ok nmX7 (j := 7) (by decide) rfl gw_262 rfl rfl rfl dX7_addNumber_41 (fun M12 H locs h hp => ?_)
      cases h
      exact hR _ _ _ _ dX7_addNumber_44 hp
theorem c_X7_addNumber (l : Launch) {V : g_V} (hok : g_ok xG V) {t0 : Nat} {a1 : Int} {M : g_M} {res : g_M} (ht0 : xT t0) (h : m_X7_addNumber t0 a1 M = some res) : MetV xG V l yX7_addNumber cX7_addNumber 2 none 0 0 [.ref (V.2.2 t0), .int (gI a1)] M res :=
  g_metV hok cal_X7_addNumber.2.2.2 rfl (Nat.le_of_ble_eq_true rfl) (@fun p e R s m args below meth c Q ls C hR hp hl => b_X7_addNumber C hR ht0 h hp hl)
set_option maxRecDepth 100000 in
set_option maxHeartbeats 4000000 in
theorem b_X5_weight (C : g_CX xG V p R s m args meth c cX5_weight 3 (some .int) RX5 0 0) {res : Int} {M : g_M} (hR : g_RetI xG V p l e R s m args below meth c Q cX5_weight .int res M) {a1 : Int} {a2 : Int} {H : Heap} {locs : List Loc} {ls : Array Slot} (h : m_X5_weight a1 a2 M = some res) (hp : g_PT xG V M s H locs) (hl : lv_has ls 3 [(0, .ref (V.2.2 77)), (1, .int (gI a1)), (2, .int (gI a2))]) : W p l e R s m args below meth c H locs 0 0 Q (F0 m 0 ls []) := by
  unfold m_X5_weight at h
  refine lv_aload_n C.1 C.2.1 dX5_weight_0 rfl (lv_at hl 0 rfl) ?_
  refine r_getr (t := 1) C hp xk_77 xs_77 xc_5 xin_5 (j := 0) (by decide) rfl gw_414 rfl dX5_weight_1 ?_
  refine r_getr (t := 9) C hp xk_1 xs_1 xc_1 xin_1 (j := 14) (by decide) rfl gw_185 rfl dX5_weight_4 ?_
  refine lv_iload_n C.1 C.2.1 dX5_weight_7 rfl (lv_at hl 1 rfl) ?_
  refine r_iconst C dX5_weight_8 ?_
  refine r_imul C dX5_weight_9 ?_
  refine lv_iload_n C.1 C.2.1 dX5_weight_10 rfl (lv_at hl 2 rfl) ?_
  refine r_iadd C dX5_weight_11 ?_
  refine r_iald C hp h xk_9 xs_9 dX5_weight_12 (fun h => ?_)
  refine r_ldc (n := 390625) C gw_1177 (by decide +kernel) dX5_weight_13 ?_
  refine r_imul C dX5_weight_15 ?_
  refine lv_iload_n C.1 C.2.1 dX5_weight_16 rfl (lv_at hl 2 rfl) ?_
  obtain ⟨tS, hT, k⟩ := x_later C hp gw_1178 dX5_weight_17; refine k ?_
  refine lv_iload_n C.1 C.2.1 dX5_weight_20 rfl (lv_at hl 1 rfl) ?_
  refine r_tld C hp hT h dX5_weight_21 (fun h => ?_)
  refine r_imul C dX5_weight_22 ?_
  refine r_isub C dX5_weight_23 ?_
  cases h
  exact hR _ _ _ _ dX5_weight_24 rfl hp
theorem c_X5_weight (l : Launch) {V : g_V} (hok : g_ok xG V) {a1 : Int} {a2 : Int} {M : g_M} {x : Int} (h : m_X5_weight a1 a2 M = some x) : MetI xG V l yX5_weight cX5_weight 3 (some .int) 0 0 [.ref (V.2.2 77), .int (gI a1), .int (gI a2)] M x M :=
  g_metI hok cal_X5_weight.2.2.2 rfl (Nat.le_of_ble_eq_true rfl) (@fun p e R s m args below meth c Q ls C hR hp hl => b_X5_weight C hR h hp hl)
set_option maxRecDepth 100000 in
set_option maxHeartbeats 4000000 in
theorem w_X5_weighMoves_L24 (C : g_CX xG V p R s m args meth c cX5_weighMoves 5 none RX5 1 22) {res : g_M} (hR : g_RetV xG V p l e R s m args below meth c Q cX5_weighMoves res) (x15 : Int) (x16 : Int) (x17 : Int)   : ∀ (f : Nat) (x18 : Int) (M19 : g_M) (H : Heap) (locs : List Loc) (ls : Array Slot), m_X5_weighMoves_L24 x15 x16 x17  f x18 M19 = some res → g_PT xG V M19 s H locs → lv_has ls 5 [(0, .ref (V.2.2 77)), (1, .int (gI x15)), (2, .int (gI x16)), (3, .int (gI x17)), (4, .int (gI x18))] → W p l e R s m args below meth c H locs 0 0 Q (F0 m 24 ls []) := by
  intro f
  induction f with
  | zero => intro x18 M19 H locs ls h hp hl; cases h
  | succ f ih =>
    intro x18 M19 H locs ls h hp hl
    rw [m_X5_weighMoves_L24] at h
    refine lv_iload C.1 C.2.1 dX5_weighMoves_24 (lv_at hl 4 rfl) ?_
    refine r_iconst C dX5_weighMoves_26 ?_
    refine r_icmp_ge (tgt := 85) C h dX5_weighMoves_27 (by decide) (fun h => ?_) (fun h => ?_)
    · cases h
      exact hR _ _ _ _ dX5_weighMoves_85 hp
    · refine r_jn (P := fun J => ∀ (M25 : g_M) (H : Heap) (locs : List Loc) (ls : Array Slot), J M25 = some res → g_PT xG V M25 s H locs → lv_has ls 5 [(0, .ref (V.2.2 77)), (1, .int (gI x15)), (2, .int (gI x16)), (3, .int (gI x17)), (4, .int (gI x18))] → W p l e R s m args below meth c H locs 0 0 Q (F0 m 79 ls [])) h ?_ (fun J20 hJ20 h => ?_)
      · intro M25 H locs ls h hp hl
        refine r_iinc (lv' := fun x26 => [(4, .int (gI x26)), (0, .ref (V.2.2 77)), (1, .int (gI x15)), (2, .int (gI x16)), (3, .int (gI x17))]) C h dX5_weighMoves_79 hl (j := 4) rfl (by decide) (fun _ => rfl) (fun x26 ls h hl => ?_)
        refine r_goto (tgt := 24) C dX5_weighMoves_82 (by decide) ?_
        exact ih _ _ _ _ _ h hp (lv_sub hl [1, 2, 3, 4, 0] rfl)
      refine lv_iload C.1 C.2.1 dX5_weighMoves_30 (lv_at hl 4 rfl) ?_
      refine lv_iload_n C.1 C.2.1 dX5_weighMoves_32 rfl (lv_at hl 2 rfl) ?_
      refine r_icmp_eq (tgt := 79) C h dX5_weighMoves_33 (by decide) (fun h => ?_) (fun h => ?_)
      · exact hJ20 _ _ _ _ h hp hl
      · refine lv_iload_n C.1 C.2.1 dX5_weighMoves_36 rfl (lv_at hl 3 rfl) ?_
        refine lv_aload_n C.1 C.2.1 dX5_weighMoves_37 rfl (lv_at hl 0 rfl) ?_
        refine lv_iload_n C.1 C.2.1 dX5_weighMoves_38 rfl (lv_at hl 1 rfl) ?_
        refine lv_iload C.1 C.2.1 dX5_weighMoves_39 (lv_at hl 4 rfl) ?_
        obtain ⟨x21, hr, h⟩ := bd_of h
        refine r_callVI (As := [.int (gI x15), .int (gI x18)]) (rest := [.int (gI x17)]) C hl.1 hp (c_X5_weight l C.2.2.2.2.2.2.2.2.2.2.2 hr) gw_1173 gw_1175 gw_40 xk_77 xs_77 xc_5 cal_X5_weight rfl rfl (Nat.le_of_ble_eq_true rfl) ⟨Nat.le_of_ble_eq_true rfl, Nat.le_of_ble_eq_true rfl⟩ dX5_weighMoves_41 (fun H locs hp => ?_)
        refine r_iadd C dX5_weighMoves_44 ?_
        refine lv_aload_n C.1 C.2.1 dX5_weighMoves_45 rfl (lv_at hl 0 rfl) ?_
        refine r_getr (t := 80) C hp xk_77 xs_77 xc_5 xin_5 (j := 3) (by decide) rfl gw_418 rfl dX5_weighMoves_46 ?_
        refine lv_iload C.1 C.2.1 dX5_weighMoves_49 (lv_at hl 4 rfl) ?_
        refine r_iald C hp h xk_80 xs_80 dX5_weighMoves_51 (fun h => ?_)
        refine r_icmp_le (tgt := 79) C h dX5_weighMoves_52 (by decide) (fun h => ?_) (fun h => ?_)
        · exact hJ20 _ _ _ _ h hp hl
        · refine lv_aload_n C.1 C.2.1 dX5_weighMoves_55 rfl (lv_at hl 0 rfl) ?_
          refine r_getr (t := 80) C hp xk_77 xs_77 xc_5 xin_5 (j := 3) (by decide) rfl gw_418 rfl dX5_weighMoves_56 ?_
          refine lv_iload C.1 C.2.1 dX5_weighMoves_59 (lv_at hl 4 rfl) ?_
          refine lv_iload_n C.1 C.2.1 dX5_weighMoves_61 rfl (lv_at hl 3 rfl) ?_
          refine lv_aload_n C.1 C.2.1 dX5_weighMoves_62 rfl (lv_at hl 0 rfl) ?_
          refine lv_iload_n C.1 C.2.1 dX5_weighMoves_63 rfl (lv_at hl 1 rfl) ?_
          refine lv_iload C.1 C.2.1 dX5_weighMoves_64 (lv_at hl 4 rfl) ?_
          obtain ⟨x22, hr, h⟩ := bd_of h
          refine r_callVI (As := [.int (gI x15), .int (gI x18)]) (rest := [.int (gI x17), .int (gI x18), .ref (V.2.2 80)]) C hl.1 hp (c_X5_weight l C.2.2.2.2.2.2.2.2.2.2.2 hr) gw_1173 gw_1175 gw_40 xk_77 xs_77 xc_5 cal_X5_weight rfl rfl (Nat.le_of_ble_eq_true rfl) ⟨Nat.le_of_ble_eq_true rfl, Nat.le_of_ble_eq_true rfl⟩ dX5_weighMoves_66 (fun H locs hp => ?_)
          refine r_iadd C dX5_weighMoves_69 ?_
          refine r_iast C hp h xk_80 xs_80 dX5_weighMoves_70 (fun M23 H locs h hp => ?_)
          refine lv_aload_n C.1 C.2.1 dX5_weighMoves_71 rfl (lv_at hl 0 rfl) ?_
          refine r_getr (t := 81) C hp xk_77 xs_77 xc_5 xin_5 (j := 4) (by decide) rfl gw_419 rfl dX5_weighMoves_72 ?_
          refine lv_iload C.1 C.2.1 dX5_weighMoves_75 (lv_at hl 4 rfl) ?_
          refine lv_iload_n C.1 C.2.1 dX5_weighMoves_77 rfl (lv_at hl 1 rfl) ?_
          refine r_iast C hp h xk_81 xs_81 dX5_weighMoves_78 (fun M24 H locs h hp => ?_)
          exact hJ20 _ _ _ _ h hp hl
set_option maxRecDepth 100000 in
set_option maxHeartbeats 4000000 in
theorem b_X5_weighMoves (C : g_CX xG V p R s m args meth c cX5_weighMoves 5 none RX5 1 22) {res : g_M} (hR : g_RetV xG V p l e R s m args below meth c Q cX5_weighMoves res) {a1 : Int} {M : g_M} {H : Heap} {locs : List Loc} {ls : Array Slot} (h : m_X5_weighMoves a1 M = some res) (hp : g_PT xG V M s H locs) (hl : lv_has ls 5 [(0, .ref (V.2.2 77)), (1, .int (gI a1))]) : W p l e R s m args below meth c H locs 0 0 Q (F0 m 0 ls []) := by
  unfold m_X5_weighMoves at h
  refine lv_aload_n C.1 C.2.1 dX5_weighMoves_0 rfl (lv_at hl 0 rfl) ?_
  refine r_getr (t := 78) C hp xk_77 xs_77 xc_5 xin_5 (j := 1) (by decide) rfl gw_415 rfl dX5_weighMoves_1 ?_
  refine lv_iload_n C.1 C.2.1 dX5_weighMoves_4 rfl (lv_at hl 1 rfl) ?_
  refine r_iald C hp h xk_78 xs_78 dX5_weighMoves_5 (fun h => ?_)
  refine r_istore_n (lv' := fun x11 => [(2, .int (gI x11)), (0, .ref (V.2.2 77)), (1, .int (gI a1))]) C h dX5_weighMoves_6 rfl hl (by decide) (fun _ => rfl) (fun x11 ls h hl => ?_)
  refine lv_aload_n C.1 C.2.1 dX5_weighMoves_7 rfl (lv_at hl 1 rfl) ?_
  refine r_getr (t := 80) C hp xk_77 xs_77 xc_5 xin_5 (j := 3) (by decide) rfl gw_418 rfl dX5_weighMoves_8 ?_
  refine lv_iload_n C.1 C.2.1 dX5_weighMoves_11 rfl (lv_at hl 0 rfl) ?_
  refine r_iald C hp h xk_80 xs_80 dX5_weighMoves_12 (fun h => ?_)
  refine lv_aload_n C.1 C.2.1 dX5_weighMoves_13 rfl (lv_at hl 1 rfl) ?_
  refine lv_iload_n C.1 C.2.1 dX5_weighMoves_14 rfl (lv_at hl 2 rfl) ?_
  refine lv_iload_n C.1 C.2.1 dX5_weighMoves_15 rfl (lv_at hl 0 rfl) ?_
  obtain ⟨x12, hr, h⟩ := bd_of h
  refine r_callVI (As := [.int (gI a1), .int (gI x11)]) (rest := [.int (gI (M 80 (gs x11).toNat))]) C hl.1 hp (c_X5_weight l C.2.2.2.2.2.2.2.2.2.2.2 hr) gw_1173 gw_1175 gw_40 xk_77 xs_77 xc_5 cal_X5_weight rfl rfl (Nat.le_of_ble_eq_true rfl) ⟨Nat.le_of_ble_eq_true rfl, Nat.le_of_ble_eq_true rfl⟩ dX5_weighMoves_16 (fun H locs hp => ?_)
  refine r_isub C dX5_weighMoves_19 ?_
  refine r_istore_n (lv' := fun x13 => [(3, .int (gI x13)), (2, .int (gI x11)), (0, .ref (V.2.2 77)), (1, .int (gI a1))]) C h dX5_weighMoves_20 rfl hl (by decide) (fun _ => rfl) (fun x13 ls h hl => ?_)
  refine r_iconst C dX5_weighMoves_21 ?_
  refine r_istore (lv' := fun x14 => [(4, .int (gI x14)), (3, .int (gI x13)), (2, .int (gI x11)), (0, .ref (V.2.2 77)), (1, .int (gI a1))]) C h dX5_weighMoves_22 hl (by decide) (fun _ => rfl) (fun x14 ls h hl => ?_)
  refine w_X5_weighMoves_L24 C hR _ _ _ _ _ _ H locs ls h hp (lv_sub hl [3, 4, 2, 1, 0] rfl)
theorem c_X5_weighMoves (l : Launch) {V : g_V} (hok : g_ok xG V) {a1 : Int} {M : g_M} {res : g_M} (h : m_X5_weighMoves a1 M = some res) : MetV xG V l yX5_weighMoves cX5_weighMoves 5 none 1 22 [.ref (V.2.2 77), .int (gI a1)] M res :=
  g_metV hok cal_X5_weighMoves.2.2.2 rfl (Nat.le_of_ble_eq_true rfl) (@fun p e R s m args below meth c Q ls C hR hp hl => b_X5_weighMoves C hR h hp hl)
set_option maxRecDepth 100000 in
set_option maxHeartbeats 4000000 in
theorem w_X5_weighPlaces_L2 (C : g_CX xG V p R s m args meth c cX5_weighPlaces 4 none RX5 2 46) {res : g_M} (hR : g_RetV xG V p l e R s m args below meth c Q cX5_weighPlaces res) (x12 : Int) (k15 : g_M → Option (g_M)) (hk15 : ∀ (M20 : g_M) (H : Heap) (locs : List Loc) (ls : Array Slot), k15 M20 = some res → g_PT xG V M20 s H locs → lv_has ls 4 [(0, .ref (V.2.2 77)), (1, .int (gI x12))] → W p l e R s m args below meth c H locs 0 0 Q (F0 m 32 ls [])) : ∀ (f : Nat) (x13 : Int) (M14 : g_M) (H : Heap) (locs : List Loc) (ls : Array Slot), m_X5_weighPlaces_L2 x12 k15 f x13 M14 = some res → g_PT xG V M14 s H locs → lv_has ls 4 [(0, .ref (V.2.2 77)), (1, .int (gI x12)), (2, .int (gI x13))] → W p l e R s m args below meth c H locs 0 0 Q (F0 m 2 ls []) := by
  intro f
  induction f with
  | zero => intro x13 M14 H locs ls h hp hl; cases h
  | succ f ih =>
    intro x13 M14 H locs ls h hp hl
    rw [m_X5_weighPlaces_L2] at h
    refine lv_iload_n C.1 C.2.1 dX5_weighPlaces_2 rfl (lv_at hl 2 rfl) ?_
    refine r_iconst C dX5_weighPlaces_3 ?_
    refine r_icmp_ge (tgt := 32) C h dX5_weighPlaces_4 (by decide) (fun h => ?_) (fun h => ?_)
    · exact hk15 _ _ _ _ h hp (lv_sub hl [0, 1] rfl)
    · refine lv_aload_n C.1 C.2.1 dX5_weighPlaces_7 rfl (lv_at hl 0 rfl) ?_
      refine r_getr (t := 80) C hp xk_77 xs_77 xc_5 xin_5 (j := 3) (by decide) rfl gw_418 rfl dX5_weighPlaces_8 ?_
      refine lv_iload_n C.1 C.2.1 dX5_weighPlaces_11 rfl (lv_at hl 2 rfl) ?_
      refine lv_aload_n C.1 C.2.1 dX5_weighPlaces_12 rfl (lv_at hl 0 rfl) ?_
      refine lv_iload_n C.1 C.2.1 dX5_weighPlaces_13 rfl (lv_at hl 1 rfl) ?_
      refine lv_iload_n C.1 C.2.1 dX5_weighPlaces_14 rfl (lv_at hl 2 rfl) ?_
      obtain ⟨x16, hr, h⟩ := bd_of h
      refine r_callVI (As := [.int (gI x12), .int (gI x13)]) (rest := [.int (gI x13), .ref (V.2.2 80)]) C hl.1 hp (c_X5_weight l C.2.2.2.2.2.2.2.2.2.2.2 hr) gw_1173 gw_1175 gw_40 xk_77 xs_77 xc_5 cal_X5_weight rfl rfl (Nat.le_of_ble_eq_true rfl) ⟨Nat.le_of_ble_eq_true rfl, Nat.le_of_ble_eq_true rfl⟩ dX5_weighPlaces_15 (fun H locs hp => ?_)
      refine r_iast C hp h xk_80 xs_80 dX5_weighPlaces_18 (fun M17 H locs h hp => ?_)
      refine lv_aload_n C.1 C.2.1 dX5_weighPlaces_19 rfl (lv_at hl 0 rfl) ?_
      refine r_getr (t := 81) C hp xk_77 xs_77 xc_5 xin_5 (j := 4) (by decide) rfl gw_419 rfl dX5_weighPlaces_20 ?_
      refine lv_iload_n C.1 C.2.1 dX5_weighPlaces_23 rfl (lv_at hl 2 rfl) ?_
      refine r_iconst C dX5_weighPlaces_24 ?_
      refine r_iast C hp h xk_81 xs_81 dX5_weighPlaces_25 (fun M18 H locs h hp => ?_)
      refine r_iinc (lv' := fun x19 => [(2, .int (gI x19)), (0, .ref (V.2.2 77)), (1, .int (gI x12))]) C h dX5_weighPlaces_26 hl (j := 2) rfl (by decide) (fun _ => rfl) (fun x19 ls h hl => ?_)
      refine r_goto (tgt := 2) C dX5_weighPlaces_29 (by decide) ?_
      exact ih _ _ _ _ _ h hp (lv_sub hl [1, 2, 0] rfl)
set_option maxRecDepth 100000 in
set_option maxHeartbeats 4000000 in
theorem w_X5_weighPlaces_L41 (C : g_CX xG V p R s m args meth c cX5_weighPlaces 4 none RX5 2 46) {res : g_M} (hR : g_RetV xG V p l e R s m args below meth c Q cX5_weighPlaces res) (x27 : Int) (x28 : Int) (k31 : g_M → Option (g_M)) (hk31 : ∀ (M34 : g_M) (H : Heap) (locs : List Loc) (ls : Array Slot), k31 M34 = some res → g_PT xG V M34 s H locs → lv_has ls 4 [(0, .ref (V.2.2 77)), (1, .int (gI x27)), (2, .int (gI x28))] → W p l e R s m args below meth c H locs 0 0 Q (F0 m 57 ls [])) : ∀ (f : Nat) (x29 : Int) (M30 : g_M) (H : Heap) (locs : List Loc) (ls : Array Slot), m_X5_weighPlaces_L41 x27 x28 k31 f x29 M30 = some res → g_PT xG V M30 s H locs → lv_has ls 4 [(0, .ref (V.2.2 77)), (1, .int (gI x27)), (2, .int (gI x28)), (3, .int (gI x29))] → W p l e R s m args below meth c H locs 0 0 Q (F0 m 41 ls []) := by
  intro f
  induction f with
  | zero => intro x29 M30 H locs ls h hp hl; cases h
  | succ f ih =>
    intro x29 M30 H locs ls h hp hl
    rw [m_X5_weighPlaces_L41] at h
    refine lv_iload_n C.1 C.2.1 dX5_weighPlaces_41 rfl (lv_at hl 3 rfl) ?_
    refine lv_iload_n C.1 C.2.1 dX5_weighPlaces_42 rfl (lv_at hl 1 rfl) ?_
    refine r_icmp_ge (tgt := 57) C h dX5_weighPlaces_43 (by decide) (fun h => ?_) (fun h => ?_)
    · exact hk31 _ _ _ _ h hp (lv_sub hl [0, 1, 2] rfl)
    · refine lv_aload_n C.1 C.2.1 dX5_weighPlaces_46 rfl (lv_at hl 0 rfl) ?_
      refine lv_iload_n C.1 C.2.1 dX5_weighPlaces_47 rfl (lv_at hl 3 rfl) ?_
      obtain ⟨M32, hr, h⟩ := bd_of h
      refine r_callVV (As := [.int (gI x29)]) (rest := []) C hl.1 hp (c_X5_weighMoves l C.2.2.2.2.2.2.2.2.2.2.2 hr) gw_1180 gw_1182 gw_41 xk_77 xs_77 xc_5 cal_X5_weighMoves rfl rfl (Nat.le_of_ble_eq_true rfl) ⟨Nat.le_of_ble_eq_true rfl, Nat.le_of_ble_eq_true rfl⟩ dX5_weighPlaces_48 (fun H locs hp => ?_)
      refine r_iinc (lv' := fun x33 => [(3, .int (gI x33)), (0, .ref (V.2.2 77)), (1, .int (gI x27)), (2, .int (gI x28))]) C h dX5_weighPlaces_51 hl (j := 3) rfl (by decide) (fun _ => rfl) (fun x33 ls h hl => ?_)
      refine r_goto (tgt := 41) C dX5_weighPlaces_54 (by decide) ?_
      exact ih _ _ _ _ _ h hp (lv_sub hl [1, 2, 3, 0] rfl)
set_option maxRecDepth 100000 in
set_option maxHeartbeats 4000000 in
theorem w_X5_weighPlaces_L34 (C : g_CX xG V p R s m args meth c cX5_weighPlaces 4 none RX5 2 46) {res : g_M} (hR : g_RetV xG V p l e R s m args below meth c Q cX5_weighPlaces res) (x23 : Int)   : ∀ (f : Nat) (x24 : Int) (M25 : g_M) (H : Heap) (locs : List Loc) (ls : Array Slot), m_X5_weighPlaces_L34 x23  f x24 M25 = some res → g_PT xG V M25 s H locs → lv_has ls 4 [(0, .ref (V.2.2 77)), (1, .int (gI x23)), (2, .int (gI x24))] → W p l e R s m args below meth c H locs 0 0 Q (F0 m 34 ls []) := by
  intro f
  induction f with
  | zero => intro x24 M25 H locs ls h hp hl; cases h
  | succ f ih =>
    intro x24 M25 H locs ls h hp hl
    rw [m_X5_weighPlaces_L34] at h
    refine lv_iload_n C.1 C.2.1 dX5_weighPlaces_34 rfl (lv_at hl 2 rfl) ?_
    refine r_iconst C dX5_weighPlaces_35 ?_
    refine r_icmp_ge (tgt := 63) C h dX5_weighPlaces_36 (by decide) (fun h => ?_) (fun h => ?_)
    · cases h
      exact hR _ _ _ _ dX5_weighPlaces_63 hp
    · refine r_iconst C dX5_weighPlaces_39 ?_
      refine r_istore_n (lv' := fun x26 => [(3, .int (gI x26)), (0, .ref (V.2.2 77)), (1, .int (gI x23)), (2, .int (gI x24))]) C h dX5_weighPlaces_40 rfl hl (by decide) (fun _ => rfl) (fun x26 ls h hl => ?_)
      refine w_X5_weighPlaces_L41 C hR _ _ _ ?_ _ _ _ H locs ls h hp (lv_sub hl [1, 2, 3, 0] rfl)
      · intro M35 H locs ls h hp hl
        refine r_iinc (lv' := fun x36 => [(2, .int (gI x36)), (0, .ref (V.2.2 77)), (1, .int (gI x23))]) C h dX5_weighPlaces_57 hl (j := 2) rfl (by decide) (fun _ => rfl) (fun x36 ls h hl => ?_)
        refine r_goto (tgt := 34) C dX5_weighPlaces_60 (by decide) ?_
        exact ih _ _ _ _ _ h hp (lv_sub hl [1, 2, 0] rfl)
set_option maxRecDepth 100000 in
set_option maxHeartbeats 4000000 in
theorem b_X5_weighPlaces (C : g_CX xG V p R s m args meth c cX5_weighPlaces 4 none RX5 2 46) {res : g_M} (hR : g_RetV xG V p l e R s m args below meth c Q cX5_weighPlaces res) {a1 : Int} {M : g_M} {H : Heap} {locs : List Loc} {ls : Array Slot} (h : m_X5_weighPlaces a1 M = some res) (hp : g_PT xG V M s H locs) (hl : lv_has ls 4 [(0, .ref (V.2.2 77)), (1, .int (gI a1))]) : W p l e R s m args below meth c H locs 0 0 Q (F0 m 0 ls []) := by
  unfold m_X5_weighPlaces at h
  refine r_iconst C dX5_weighPlaces_0 ?_
  refine r_istore_n (lv' := fun x11 => [(2, .int (gI x11)), (0, .ref (V.2.2 77)), (1, .int (gI a1))]) C h dX5_weighPlaces_1 rfl hl (by decide) (fun _ => rfl) (fun x11 ls h hl => ?_)
  refine w_X5_weighPlaces_L2 C hR _ _ ?_ _ _ _ H locs ls h hp (lv_sub hl [1, 2, 0] rfl)
  · intro M21 H locs ls h hp hl
    refine r_iconst C dX5_weighPlaces_32 ?_
    refine r_istore_n (lv' := fun x22 => [(2, .int (gI x22)), (0, .ref (V.2.2 77)), (1, .int (gI a1))]) C h dX5_weighPlaces_33 rfl hl (by decide) (fun _ => rfl) (fun x22 ls h hl => ?_)
    refine w_X5_weighPlaces_L34 C hR _ _ _ _ H locs ls h hp (lv_sub hl [1, 2, 0] rfl)
theorem c_X5_weighPlaces (l : Launch) {V : g_V} (hok : g_ok xG V) {a1 : Int} {M : g_M} {res : g_M} (h : m_X5_weighPlaces a1 M = some res) : MetV xG V l yX5_weighPlaces cX5_weighPlaces 4 none 2 46 [.ref (V.2.2 77), .int (gI a1)] M res :=
  g_metV hok cal_X5_weighPlaces.2.2.2 rfl (Nat.le_of_ble_eq_true rfl) (@fun p e R s m args below meth c Q ls C hR hp hl => b_X5_weighPlaces C hR h hp hl)
set_option maxRecDepth 100000 in
set_option maxHeartbeats 4000000 in
theorem w_X5_bestWithRoom_L4 (C : g_CX xG V p R s m args meth c cX5_bestWithRoom 4 (some .int) RX5 1 13) {res : Int} {M16 : g_M} (hR : g_RetI xG V p l e R s m args below meth c Q cX5_bestWithRoom .int res M16) (x13 : Int) (k17 : Int → Option (Int)) (hk17 : ∀ (x23 : Int) (H : Heap) (locs : List Loc) (ls : Array Slot), k17 x23 = some res → g_PT xG V M16 s H locs → lv_has ls 4 [(2, .int (gI x23))] → W p l e R s m args below meth c H locs 0 0 Q (F0 m 47 ls [])) : ∀ (f : Nat) (x14 : Int) (x15 : Int) (H : Heap) (locs : List Loc) (ls : Array Slot), m_X5_bestWithRoom_L4 x13 M16 k17 f x14 x15 = some res → g_PT xG V M16 s H locs → lv_has ls 4 [(0, .ref (V.2.2 77)), (1, .int (gI x13)), (2, .int (gI x14)), (3, .int (gI x15))] → W p l e R s m args below meth c H locs 0 0 Q (F0 m 4 ls []) := by
  intro f
  induction f with
  | zero => intro x14 x15 H locs ls h hp hl; cases h
  | succ f ih =>
    intro x14 x15 H locs ls h hp hl
    rw [m_X5_bestWithRoom_L4] at h
    refine lv_iload_n C.1 C.2.1 dX5_bestWithRoom_4 rfl (lv_at hl 3 rfl) ?_
    refine r_iconst C dX5_bestWithRoom_5 ?_
    refine r_icmp_ge (tgt := 47) C h dX5_bestWithRoom_6 (by decide) (fun h => ?_) (fun h => ?_)
    · exact hk17 _ _ _ _ h hp (lv_sub hl [2] rfl)
    · refine r_jn (P := fun J => ∀ (x21 : Int) (H : Heap) (locs : List Loc) (ls : Array Slot), J x21 = some res → g_PT xG V M16 s H locs → lv_has ls 4 [(0, .ref (V.2.2 77)), (1, .int (gI x13)), (2, .int (gI x21)), (3, .int (gI x15))] → W p l e R s m args below meth c H locs 0 0 Q (F0 m 41 ls [])) h ?_ (fun J18 hJ18 h => ?_)
      · intro x21 H locs ls h hp hl
        refine r_iinc (lv' := fun x22 => [(3, .int (gI x22)), (0, .ref (V.2.2 77)), (1, .int (gI x13)), (2, .int (gI x21))]) C h dX5_bestWithRoom_41 hl (j := 3) rfl (by decide) (fun _ => rfl) (fun x22 ls h hl => ?_)
        refine r_goto (tgt := 4) C dX5_bestWithRoom_44 (by decide) ?_
        exact ih _ _ _ _ _ h hp (lv_sub hl [1, 2, 3, 0] rfl)
      refine lv_aload_n C.1 C.2.1 dX5_bestWithRoom_9 rfl (lv_at hl 0 rfl) ?_
      refine r_getr (t := 79) C hp xk_77 xs_77 xc_5 xin_5 (j := 2) (by decide) rfl gw_417 rfl dX5_bestWithRoom_10 ?_
      refine lv_iload_n C.1 C.2.1 dX5_bestWithRoom_13 rfl (lv_at hl 3 rfl) ?_
      refine r_iald C hp h xk_79 xs_79 dX5_bestWithRoom_14 (fun h => ?_)
      refine lv_iload_n C.1 C.2.1 dX5_bestWithRoom_15 rfl (lv_at hl 1 rfl) ?_
      refine r_icmp_ge (tgt := 41) C h dX5_bestWithRoom_16 (by decide) (fun h => ?_) (fun h => ?_)
      · exact hJ18 _ _ _ _ h hp hl
      · refine r_jn (P := fun J => ∀  (H : Heap) (locs : List Loc) (ls : Array Slot), J  = some res → g_PT xG V M16 s H locs → lv_has ls 4 [(0, .ref (V.2.2 77)), (1, .int (gI x13)), (3, .int (gI x15))] → W p l e R s m args below meth c H locs 0 0 Q (F0 m 39 ls [])) h ?_ (fun J19 hJ19 h => ?_)
        · intro  H locs ls h hp hl
          refine lv_iload_n C.1 C.2.1 dX5_bestWithRoom_39 rfl (lv_at hl 2 rfl) ?_
          refine r_istore_n (lv' := fun x20 => [(2, .int (gI x20)), (0, .ref (V.2.2 77)), (1, .int (gI x13)), (3, .int (gI x15))]) C h dX5_bestWithRoom_40 rfl hl (by decide) (fun _ => rfl) (fun x20 ls h hl => ?_)
          exact hJ18 _ _ _ _ h hp (lv_sub hl [1, 2, 0, 3] rfl)
        refine lv_iload_n C.1 C.2.1 dX5_bestWithRoom_19 rfl (lv_at hl 2 rfl) ?_
        refine r_iconst C dX5_bestWithRoom_20 ?_
        refine r_icmp_eq (tgt := 39) C h dX5_bestWithRoom_21 (by decide) (fun h => ?_) (fun h => ?_)
        · exact hJ19  _ _ _ h hp (lv_sub hl [0, 1, 3] rfl)
        · refine lv_aload_n C.1 C.2.1 dX5_bestWithRoom_24 rfl (lv_at hl 0 rfl) ?_
          refine r_getr (t := 80) C hp xk_77 xs_77 xc_5 xin_5 (j := 3) (by decide) rfl gw_418 rfl dX5_bestWithRoom_25 ?_
          refine lv_iload_n C.1 C.2.1 dX5_bestWithRoom_28 rfl (lv_at hl 3 rfl) ?_
          refine r_iald C hp h xk_80 xs_80 dX5_bestWithRoom_29 (fun h => ?_)
          refine lv_aload_n C.1 C.2.1 dX5_bestWithRoom_30 rfl (lv_at hl 0 rfl) ?_
          refine r_getr (t := 80) C hp xk_77 xs_77 xc_5 xin_5 (j := 3) (by decide) rfl gw_418 rfl dX5_bestWithRoom_31 ?_
          refine lv_iload_n C.1 C.2.1 dX5_bestWithRoom_34 rfl (lv_at hl 2 rfl) ?_
          refine r_iald C hp h xk_80 xs_80 dX5_bestWithRoom_35 (fun h => ?_)
          refine r_icmp_le (tgt := 41) C h dX5_bestWithRoom_36 (by decide) (fun h => ?_) (fun h => ?_)
          · exact hJ18 _ _ _ _ h hp hl
          · exact hJ19  _ _ _ h hp (lv_sub hl [0, 1, 3] rfl)
set_option maxRecDepth 100000 in
set_option maxHeartbeats 4000000 in
theorem b_X5_bestWithRoom (C : g_CX xG V p R s m args meth c cX5_bestWithRoom 4 (some .int) RX5 1 13) {res : Int} {M : g_M} (hR : g_RetI xG V p l e R s m args below meth c Q cX5_bestWithRoom .int res M) {a1 : Int} {H : Heap} {locs : List Loc} {ls : Array Slot} (h : m_X5_bestWithRoom a1 M = some res) (hp : g_PT xG V M s H locs) (hl : lv_has ls 4 [(0, .ref (V.2.2 77)), (1, .int (gI a1))]) : W p l e R s m args below meth c H locs 0 0 Q (F0 m 0 ls []) := by
  unfold m_X5_bestWithRoom at h
  refine r_iconst C dX5_bestWithRoom_0 ?_
  refine r_istore_n (lv' := fun x11 => [(2, .int (gI x11)), (0, .ref (V.2.2 77)), (1, .int (gI a1))]) C h dX5_bestWithRoom_1 rfl hl (by decide) (fun _ => rfl) (fun x11 ls h hl => ?_)
  refine r_iconst C dX5_bestWithRoom_2 ?_
  refine r_istore_n (lv' := fun x12 => [(3, .int (gI x12)), (2, .int (gI x11)), (0, .ref (V.2.2 77)), (1, .int (gI a1))]) C h dX5_bestWithRoom_3 rfl hl (by decide) (fun _ => rfl) (fun x12 ls h hl => ?_)
  refine w_X5_bestWithRoom_L4 C hR _ _ ?_ _ _ _ H locs ls h hp (lv_sub hl [2, 3, 1, 0] rfl)
  · intro x24 H locs ls h hp hl
    refine r_iconst C dX5_bestWithRoom_47 ?_
    refine lv_iload_n C.1 C.2.1 dX5_bestWithRoom_48 rfl (lv_at hl 0 rfl) ?_
    refine r_mmax C hl.1 gw_1188 gw_610 gw_126 gw_611 (Nat.le_of_ble_eq_true rfl) (Nat.le_of_ble_eq_true rfl) dX5_bestWithRoom_49 ?_
    cases h
    exact hR _ _ _ _ dX5_bestWithRoom_52 rfl hp
theorem c_X5_bestWithRoom (l : Launch) {V : g_V} (hok : g_ok xG V) {a1 : Int} {M : g_M} {x : Int} (h : m_X5_bestWithRoom a1 M = some x) : MetI xG V l yX5_bestWithRoom cX5_bestWithRoom 4 (some .int) 1 13 [.ref (V.2.2 77), .int (gI a1)] M x M :=
  g_metI hok cal_X5_bestWithRoom.2.2.2 rfl (Nat.le_of_ble_eq_true rfl) (@fun p e R s m args below meth c Q ls C hR hp hl => b_X5_bestWithRoom C hR h hp hl)
set_option maxRecDepth 100000 in
set_option maxHeartbeats 4000000 in
theorem w_X5_place_L15 (C : g_CX xG V p R s m args meth c cX5_place 7 none RX5 0 0) {res : g_M} (hR : g_RetV xG V p l e R s m args below meth c Q cX5_place res) (x14 : Int) (k18 : Int → g_M → Option (g_M)) (hk18 : ∀ (x24 : Int) (M25 : g_M) (H : Heap) (locs : List Loc) (ls : Array Slot), k18 x24 M25 = some res → g_PT xG V M25 s H locs → lv_has ls 7 [(0, .ref (V.2.2 77)), (1, .int (gI x14)), (3, .int (gI x24))] → W p l e R s m args below meth c H locs 0 0 Q (F0 m 65 ls [])) : ∀ (f : Nat) (x15 : Int) (x16 : Int) (M17 : g_M) (H : Heap) (locs : List Loc) (ls : Array Slot), m_X5_place_L15 x14 k18 f x15 x16 M17 = some res → g_PT xG V M17 s H locs → lv_has ls 7 [(0, .ref (V.2.2 77)), (1, .int (gI x14)), (3, .int (gI x15)), (4, .int (gI x16))] → W p l e R s m args below meth c H locs 0 0 Q (F0 m 15 ls []) := by
  intro f
  induction f with
  | zero => intro x15 x16 M17 H locs ls h hp hl; cases h
  | succ f ih =>
    intro x15 x16 M17 H locs ls h hp hl
    rw [m_X5_place_L15] at h
    refine lv_iload C.1 C.2.1 dX5_place_15 (lv_at hl 3 rfl) ?_
    refine r_iconst C dX5_place_17 ?_
    refine r_icmp_ge (tgt := 65) C h dX5_place_18 (by decide) (fun h => ?_) (fun h => ?_)
    · exact hk18 _ _ _ _ _ h hp (lv_sub hl [0, 1, 2] rfl)
    · refine lv_aload_n C.1 C.2.1 dX5_place_21 rfl (lv_at hl 0 rfl) ?_
      refine r_getr (t := 81) C hp xk_77 xs_77 xc_5 xin_5 (j := 4) (by decide) rfl gw_419 rfl dX5_place_22 ?_
      refine lv_iload_n C.1 C.2.1 dX5_place_25 rfl (lv_at hl 2 rfl) ?_
      refine r_iald C hp h xk_81 xs_81 dX5_place_26 (fun h => ?_)
      refine r_iconst C dX5_place_27 ?_
      refine r_icmp_eq (tgt := 65) C h dX5_place_28 (by decide) (fun h => ?_) (fun h => ?_)
      · exact hk18 _ _ _ _ _ h hp (lv_sub hl [0, 1, 2] rfl)
      · refine lv_aload_n C.1 C.2.1 dX5_place_31 rfl (lv_at hl 0 rfl) ?_
        refine r_getr (t := 81) C hp xk_77 xs_77 xc_5 xin_5 (j := 4) (by decide) rfl gw_419 rfl dX5_place_32 ?_
        refine lv_iload_n C.1 C.2.1 dX5_place_35 rfl (lv_at hl 2 rfl) ?_
        refine r_iald C hp h xk_81 xs_81 dX5_place_36 (fun h => ?_)
        refine r_istore (lv' := fun x19 => [(5, .int (gI x19)), (0, .ref (V.2.2 77)), (1, .int (gI x14)), (3, .int (gI x15)), (4, .int (gI x16))]) C h dX5_place_37 hl (by decide) (fun _ => rfl) (fun x19 ls h hl => ?_)
        refine lv_aload_n C.1 C.2.1 dX5_place_39 rfl (lv_at hl 1 rfl) ?_
        refine r_getr (t := 78) C hp xk_77 xs_77 xc_5 xin_5 (j := 1) (by decide) rfl gw_415 rfl dX5_place_40 ?_
        refine lv_iload C.1 C.2.1 dX5_place_43 (lv_at hl 0 rfl) ?_
        refine r_iald C hp h xk_78 xs_78 dX5_place_45 (fun h => ?_)
        refine r_istore (lv' := fun x20 => [(6, .int (gI x20)), (5, .int (gI x19)), (0, .ref (V.2.2 77)), (1, .int (gI x14)), (3, .int (gI x15)), (4, .int (gI x16))]) C h dX5_place_46 hl (by decide) (fun _ => rfl) (fun x20 ls h hl => ?_)
        refine lv_aload_n C.1 C.2.1 dX5_place_48 rfl (lv_at hl 2 rfl) ?_
        refine r_getr (t := 78) C hp xk_77 xs_77 xc_5 xin_5 (j := 1) (by decide) rfl gw_415 rfl dX5_place_49 ?_
        refine lv_iload C.1 C.2.1 dX5_place_52 (lv_at hl 1 rfl) ?_
        refine lv_iload_n C.1 C.2.1 dX5_place_54 rfl (lv_at hl 4 rfl) ?_
        refine r_iast C hp h xk_78 xs_78 dX5_place_55 (fun M21 H locs h hp => ?_)
        refine lv_iload C.1 C.2.1 dX5_place_56 (lv_at hl 0 rfl) ?_
        refine r_istore_n (lv' := fun x22 => [(3, .int (gI x22)), (6, .int (gI x20)), (5, .int (gI x19)), (0, .ref (V.2.2 77)), (1, .int (gI x14)), (4, .int (gI x16))]) C h dX5_place_58 rfl hl (by decide) (fun _ => rfl) (fun x22 ls h hl => ?_)
        refine r_iinc (lv' := fun x23 => [(4, .int (gI x23)), (3, .int (gI x22)), (6, .int (gI x20)), (5, .int (gI x19)), (0, .ref (V.2.2 77)), (1, .int (gI x14))]) C h dX5_place_59 hl (j := 5) rfl (by decide) (fun _ => rfl) (fun x23 ls h hl => ?_)
        refine r_goto (tgt := 15) C dX5_place_62 (by decide) ?_
        exact ih _ _ _ _ _ _ h hp (lv_sub hl [4, 5, 1, 0] rfl)
set_option maxRecDepth 100000 in
set_option maxHeartbeats 4000000 in
theorem b_X5_place (C : g_CX xG V p R s m args meth c cX5_place 7 none RX5 0 0) {res : g_M} (hR : g_RetV xG V p l e R s m args below meth c Q cX5_place res) {a1 : Int} {a2 : Int} {M : g_M} {H : Heap} {locs : List Loc} {ls : Array Slot} (h : m_X5_place a1 a2 M = some res) (hp : g_PT xG V M s H locs) (hl : lv_has ls 7 [(0, .ref (V.2.2 77)), (1, .int (gI a1)), (2, .int (gI a2))]) : W p l e R s m args below meth c H locs 0 0 Q (F0 m 0 ls []) := by
  unfold m_X5_place at h
  refine lv_aload_n C.1 C.2.1 dX5_place_0 rfl (lv_at hl 0 rfl) ?_
  refine r_getr (t := 79) C hp xk_77 xs_77 xc_5 xin_5 (j := 2) (by decide) rfl gw_417 rfl dX5_place_1 ?_
  refine lv_iload_n C.1 C.2.1 dX5_place_4 rfl (lv_at hl 2 rfl) ?_
  refine lv_dup2_11 C.1 C.2.1 dX5_place_5 rfl rfl ?_
  refine r_iald C hp h xk_79 xs_79 dX5_place_6 (fun h => ?_)
  refine r_iconst C dX5_place_7 ?_
  refine r_iadd C dX5_place_8 ?_
  refine r_iast C hp h xk_79 xs_79 dX5_place_9 (fun M11 H locs h hp => ?_)
  refine lv_iload_n C.1 C.2.1 dX5_place_10 rfl (lv_at hl 2 rfl) ?_
  refine r_istore_n (lv' := fun x12 => [(3, .int (gI x12)), (0, .ref (V.2.2 77)), (1, .int (gI a1)), (2, .int (gI a2))]) C h dX5_place_11 rfl hl (by decide) (fun _ => rfl) (fun x12 ls h hl => ?_)
  refine r_iconst C dX5_place_12 ?_
  refine r_istore (lv' := fun x13 => [(4, .int (gI x13)), (3, .int (gI x12)), (0, .ref (V.2.2 77)), (1, .int (gI a1)), (2, .int (gI a2))]) C h dX5_place_13 hl (by decide) (fun _ => rfl) (fun x13 ls h hl => ?_)
  refine w_X5_place_L15 C hR _ _ ?_ _ _ _ _ H locs ls h hp (lv_sub hl [2, 3, 1, 0] rfl)
  · intro x26 M27 H locs ls h hp hl
    refine lv_aload_n C.1 C.2.1 dX5_place_65 rfl (lv_at hl 0 rfl) ?_
    refine r_getr (t := 78) C hp xk_77 xs_77 xc_5 xin_5 (j := 1) (by decide) rfl gw_415 rfl dX5_place_66 ?_
    refine lv_iload_n C.1 C.2.1 dX5_place_69 rfl (lv_at hl 1 rfl) ?_
    refine lv_iload_n C.1 C.2.1 dX5_place_70 rfl (lv_at hl 2 rfl) ?_
    refine r_iast C hp h xk_78 xs_78 dX5_place_71 (fun M28 H locs h hp => ?_)
    cases h
    exact hR _ _ _ _ dX5_place_72 hp
theorem c_X5_place (l : Launch) {V : g_V} (hok : g_ok xG V) {a1 : Int} {a2 : Int} {M : g_M} {res : g_M} (h : m_X5_place a1 a2 M = some res) : MetV xG V l yX5_place cX5_place 7 none 0 0 [.ref (V.2.2 77), .int (gI a1), .int (gI a2)] M res :=
  g_metV hok cal_X5_place.2.2.2 rfl (Nat.le_of_ble_eq_true rfl) (@fun p e R s m args below meth c Q ls C hR hp hl => b_X5_place C hR h hp hl)
set_option maxRecDepth 100000 in
set_option maxHeartbeats 4000000 in
theorem w_X5_assign_L2 (C : g_CX xG V p R s m args meth c cX5_assign 3 none RX5 3 69) {res : g_M} (hR : g_RetV xG V p l e R s m args below meth c Q cX5_assign res) (x12 : Int) (k15 : g_M → Option (g_M)) (hk15 : ∀ (M18 : g_M) (H : Heap) (locs : List Loc) (ls : Array Slot), k15 M18 = some res → g_PT xG V M18 s H locs → lv_has ls 3 [(0, .ref (V.2.2 77)), (1, .int (gI x12))] → W p l e R s m args below meth c H locs 0 0 Q (F0 m 20 ls [])) : ∀ (f : Nat) (x13 : Int) (M14 : g_M) (H : Heap) (locs : List Loc) (ls : Array Slot), m_X5_assign_L2 x12 k15 f x13 M14 = some res → g_PT xG V M14 s H locs → lv_has ls 3 [(0, .ref (V.2.2 77)), (1, .int (gI x12)), (2, .int (gI x13))] → W p l e R s m args below meth c H locs 0 0 Q (F0 m 2 ls []) := by
  intro f
  induction f with
  | zero => intro x13 M14 H locs ls h hp hl; cases h
  | succ f ih =>
    intro x13 M14 H locs ls h hp hl
    rw [m_X5_assign_L2] at h
    refine lv_iload_n C.1 C.2.1 dX5_assign_2 rfl (lv_at hl 2 rfl) ?_
    refine r_iconst C dX5_assign_3 ?_
    refine r_icmp_ge (tgt := 20) C h dX5_assign_4 (by decide) (fun h => ?_) (fun h => ?_)
    · exact hk15 _ _ _ _ h hp (lv_sub hl [0, 1] rfl)
    · refine lv_aload_n C.1 C.2.1 dX5_assign_7 rfl (lv_at hl 0 rfl) ?_
      refine r_getr (t := 79) C hp xk_77 xs_77 xc_5 xin_5 (j := 2) (by decide) rfl gw_417 rfl dX5_assign_8 ?_
      refine lv_iload_n C.1 C.2.1 dX5_assign_11 rfl (lv_at hl 2 rfl) ?_
      refine r_iconst C dX5_assign_12 ?_
      refine r_iast C hp h xk_79 xs_79 dX5_assign_13 (fun M16 H locs h hp => ?_)
      refine r_iinc (lv' := fun x17 => [(2, .int (gI x17)), (0, .ref (V.2.2 77)), (1, .int (gI x12))]) C h dX5_assign_14 hl (j := 2) rfl (by decide) (fun _ => rfl) (fun x17 ls h hl => ?_)
      refine r_goto (tgt := 2) C dX5_assign_17 (by decide) ?_
      exact ih _ _ _ _ _ h hp (lv_sub hl [1, 2, 0] rfl)
set_option maxRecDepth 100000 in
set_option maxHeartbeats 4000000 in
theorem w_X5_assign_L22 (C : g_CX xG V p R s m args meth c cX5_assign 3 none RX5 3 69) {res : g_M} (hR : g_RetV xG V p l e R s m args below meth c Q cX5_assign res) (x21 : Int)   : ∀ (f : Nat) (x22 : Int) (M23 : g_M) (H : Heap) (locs : List Loc) (ls : Array Slot), m_X5_assign_L22 x21  f x22 M23 = some res → g_PT xG V M23 s H locs → lv_has ls 3 [(0, .ref (V.2.2 77)), (1, .int (gI x21)), (2, .int (gI x22))] → W p l e R s m args below meth c H locs 0 0 Q (F0 m 22 ls []) := by
  intro f
  induction f with
  | zero => intro x22 M23 H locs ls h hp hl; cases h
  | succ f ih =>
    intro x22 M23 H locs ls h hp hl
    rw [m_X5_assign_L22] at h
    refine lv_iload_n C.1 C.2.1 dX5_assign_22 rfl (lv_at hl 2 rfl) ?_
    refine lv_aload_n C.1 C.2.1 dX5_assign_23 rfl (lv_at hl 0 rfl) ?_
    refine r_getr (t := 1) C hp xk_77 xs_77 xc_5 xin_5 (j := 0) (by decide) rfl gw_414 rfl dX5_assign_24 ?_
    refine r_geti (t := 0) C hp xk_1 xs_1 xc_1 xin_1 (j := 7) (by decide) rfl gw_165 rfl dX5_assign_27 ?_
    refine r_icmp_ge (tgt := 54) C h dX5_assign_30 (by decide) (fun h => ?_) (fun h => ?_)
    · cases h
      exact hR _ _ _ _ dX5_assign_54 hp
    · refine lv_aload_n C.1 C.2.1 dX5_assign_33 rfl (lv_at hl 0 rfl) ?_
      refine lv_iload_n C.1 C.2.1 dX5_assign_34 rfl (lv_at hl 2 rfl) ?_
      obtain ⟨M24, hr, h⟩ := bd_of h
      refine r_callVV (As := [.int (gI x22)]) (rest := []) C hl.1 hp (c_X5_weighPlaces l C.2.2.2.2.2.2.2.2.2.2.2 hr) gw_1169 gw_1171 gw_39 xk_77 xs_77 xc_5 cal_X5_weighPlaces rfl rfl (Nat.le_of_ble_eq_true rfl) ⟨Nat.le_of_ble_eq_true rfl, Nat.le_of_ble_eq_true rfl⟩ dX5_assign_35 (fun H locs hp => ?_)
      refine lv_aload_n C.1 C.2.1 dX5_assign_38 rfl (lv_at hl 0 rfl) ?_
      refine lv_iload_n C.1 C.2.1 dX5_assign_39 rfl (lv_at hl 2 rfl) ?_
      refine lv_aload_n C.1 C.2.1 dX5_assign_40 rfl (lv_at hl 0 rfl) ?_
      refine lv_iload_n C.1 C.2.1 dX5_assign_41 rfl (lv_at hl 1 rfl) ?_
      obtain ⟨x25, hr, h⟩ := bd_of h
      refine r_callVI (As := [.int (gI x21)]) (rest := [.int (gI x22), .ref (V.2.2 77)]) C hl.1 hp (c_X5_bestWithRoom l C.2.2.2.2.2.2.2.2.2.2.2 hr) gw_1184 gw_1186 gw_42 xk_77 xs_77 xc_5 cal_X5_bestWithRoom rfl rfl (Nat.le_of_ble_eq_true rfl) ⟨Nat.le_of_ble_eq_true rfl, Nat.le_of_ble_eq_true rfl⟩ dX5_assign_42 (fun H locs hp => ?_)
      obtain ⟨M26, hr, h⟩ := bd_of h
      refine r_callVV (As := [.int (gI x22), .int (gI x25)]) (rest := []) C hl.1 hp (c_X5_place l C.2.2.2.2.2.2.2.2.2.2.2 hr) gw_1189 gw_1191 gw_43 xk_77 xs_77 xc_5 cal_X5_place rfl rfl (Nat.le_of_ble_eq_true rfl) ⟨Nat.le_of_ble_eq_true rfl, Nat.le_of_ble_eq_true rfl⟩ dX5_assign_45 (fun H locs hp => ?_)
      refine r_iinc (lv' := fun x27 => [(2, .int (gI x27)), (0, .ref (V.2.2 77)), (1, .int (gI x21))]) C h dX5_assign_48 hl (j := 2) rfl (by decide) (fun _ => rfl) (fun x27 ls h hl => ?_)
      refine r_goto (tgt := 22) C dX5_assign_51 (by decide) ?_
      exact ih _ _ _ _ _ h hp (lv_sub hl [1, 2, 0] rfl)
set_option maxRecDepth 100000 in
set_option maxHeartbeats 4000000 in
theorem b_X5_assign (C : g_CX xG V p R s m args meth c cX5_assign 3 none RX5 3 69) {res : g_M} (hR : g_RetV xG V p l e R s m args below meth c Q cX5_assign res) {a1 : Int} {M : g_M} {H : Heap} {locs : List Loc} {ls : Array Slot} (h : m_X5_assign a1 M = some res) (hp : g_PT xG V M s H locs) (hl : lv_has ls 3 [(0, .ref (V.2.2 77)), (1, .int (gI a1))]) : W p l e R s m args below meth c H locs 0 0 Q (F0 m 0 ls []) := by
  unfold m_X5_assign at h
  refine r_iconst C dX5_assign_0 ?_
  refine r_istore_n (lv' := fun x11 => [(2, .int (gI x11)), (0, .ref (V.2.2 77)), (1, .int (gI a1))]) C h dX5_assign_1 rfl hl (by decide) (fun _ => rfl) (fun x11 ls h hl => ?_)
  refine w_X5_assign_L2 C hR _ _ ?_ _ _ _ H locs ls h hp (lv_sub hl [1, 2, 0] rfl)
  · intro M19 H locs ls h hp hl
    refine r_iconst C dX5_assign_20 ?_
    refine r_istore_n (lv' := fun x20 => [(2, .int (gI x20)), (0, .ref (V.2.2 77)), (1, .int (gI a1))]) C h dX5_assign_21 rfl hl (by decide) (fun _ => rfl) (fun x20 ls h hl => ?_)
    refine w_X5_assign_L22 C hR _ _ _ _ H locs ls h hp (lv_sub hl [1, 2, 0] rfl)
theorem c_X5_assign (l : Launch) {V : g_V} (hok : g_ok xG V) {a1 : Int} {M : g_M} {res : g_M} (h : m_X5_assign a1 M = some res) : MetV xG V l yX5_assign cX5_assign 3 none 3 69 [.ref (V.2.2 77), .int (gI a1)] M res :=
  g_metV hok cal_X5_assign.2.2.2 rfl (Nat.le_of_ble_eq_true rfl) (@fun p e R s m args below meth c Q ls C hR hp hl => b_X5_assign C hR h hp hl)
set_option maxRecDepth 100000 in
set_option maxHeartbeats 4000000 in
theorem w_X5_likesTogether_L4 (C : g_CX xG V p R s m args meth c cX5_likesTogether 3 (some .int) RX5 0 0) {res : Int} {M15 : g_M} (hR : g_RetI xG V p l e R s m args below meth c Q cX5_likesTogether .int res M15)    : ∀ (f : Nat) (x13 : Int) (x14 : Int) (H : Heap) (locs : List Loc) (ls : Array Slot), m_X5_likesTogether_L4 M15  f x13 x14 = some res → g_PT xG V M15 s H locs → lv_has ls 3 [(0, .ref (V.2.2 77)), (1, .int (gI x13)), (2, .int (gI x14))] → W p l e R s m args below meth c H locs 0 0 Q (F0 m 4 ls []) := by
  intro f
  induction f with
  | zero => intro x13 x14 H locs ls h hp hl; cases h
  | succ f ih =>
    intro x13 x14 H locs ls h hp hl
    rw [m_X5_likesTogether_L4] at h
    refine lv_iload_n C.1 C.2.1 dX5_likesTogether_4 rfl (lv_at hl 2 rfl) ?_
    refine lv_aload_n C.1 C.2.1 dX5_likesTogether_5 rfl (lv_at hl 0 rfl) ?_
    refine r_getr (t := 1) C hp xk_77 xs_77 xc_5 xin_5 (j := 0) (by decide) rfl gw_414 rfl dX5_likesTogether_6 ?_
    refine r_geti (t := 0) C hp xk_1 xs_1 xc_1 xin_1 (j := 7) (by decide) rfl gw_165 rfl dX5_likesTogether_9 ?_
    refine r_icmp_ge (tgt := 42) C h dX5_likesTogether_12 (by decide) (fun h => ?_) (fun h => ?_)
    · refine lv_iload_n C.1 C.2.1 dX5_likesTogether_42 rfl (lv_at hl 1 rfl) ?_
      cases h
      exact hR _ _ _ _ dX5_likesTogether_43 rfl hp
    · refine lv_iload_n C.1 C.2.1 dX5_likesTogether_15 rfl (lv_at hl 1 rfl) ?_
      refine lv_aload_n C.1 C.2.1 dX5_likesTogether_16 rfl (lv_at hl 0 rfl) ?_
      refine r_getr (t := 1) C hp xk_77 xs_77 xc_5 xin_5 (j := 0) (by decide) rfl gw_414 rfl dX5_likesTogether_17 ?_
      refine r_getr (t := 9) C hp xk_1 xs_1 xc_1 xin_1 (j := 14) (by decide) rfl gw_185 rfl dX5_likesTogether_20 ?_
      refine lv_iload_n C.1 C.2.1 dX5_likesTogether_23 rfl (lv_at hl 2 rfl) ?_
      refine r_iconst C dX5_likesTogether_24 ?_
      refine r_imul C dX5_likesTogether_25 ?_
      refine lv_aload_n C.1 C.2.1 dX5_likesTogether_26 rfl (lv_at hl 0 rfl) ?_
      refine r_getr (t := 78) C hp xk_77 xs_77 xc_5 xin_5 (j := 1) (by decide) rfl gw_415 rfl dX5_likesTogether_27 ?_
      refine lv_iload_n C.1 C.2.1 dX5_likesTogether_30 rfl (lv_at hl 2 rfl) ?_
      refine r_iald C hp h xk_78 xs_78 dX5_likesTogether_31 (fun h => ?_)
      refine r_iadd C dX5_likesTogether_32 ?_
      refine r_iald C hp h xk_9 xs_9 dX5_likesTogether_33 (fun h => ?_)
      refine r_iadd C dX5_likesTogether_34 ?_
      refine r_istore_n (lv' := fun x16 => [(1, .int (gI x16)), (0, .ref (V.2.2 77)), (2, .int (gI x14))]) C h dX5_likesTogether_35 rfl hl (by decide) (fun _ => rfl) (fun x16 ls h hl => ?_)
      refine r_iinc (lv' := fun x17 => [(2, .int (gI x17)), (1, .int (gI x16)), (0, .ref (V.2.2 77))]) C h dX5_likesTogether_36 hl (j := 2) rfl (by decide) (fun _ => rfl) (fun x17 ls h hl => ?_)
      refine r_goto (tgt := 4) C dX5_likesTogether_39 (by decide) ?_
      exact ih _ _ _ _ _ h hp (lv_sub hl [2, 1, 0] rfl)
set_option maxRecDepth 100000 in
set_option maxHeartbeats 4000000 in
theorem b_X5_likesTogether (C : g_CX xG V p R s m args meth c cX5_likesTogether 3 (some .int) RX5 0 0) {res : Int} {M : g_M} (hR : g_RetI xG V p l e R s m args below meth c Q cX5_likesTogether .int res M)  {H : Heap} {locs : List Loc} {ls : Array Slot} (h : m_X5_likesTogether M = some res) (hp : g_PT xG V M s H locs) (hl : lv_has ls 3 [(0, .ref (V.2.2 77))]) : W p l e R s m args below meth c H locs 0 0 Q (F0 m 0 ls []) := by
  unfold m_X5_likesTogether at h
  refine r_iconst C dX5_likesTogether_0 ?_
  refine r_istore_n (lv' := fun x11 => [(1, .int (gI x11)), (0, .ref (V.2.2 77))]) C h dX5_likesTogether_1 rfl hl (by decide) (fun _ => rfl) (fun x11 ls h hl => ?_)
  refine r_iconst C dX5_likesTogether_2 ?_
  refine r_istore_n (lv' := fun x12 => [(2, .int (gI x12)), (1, .int (gI x11)), (0, .ref (V.2.2 77))]) C h dX5_likesTogether_3 rfl hl (by decide) (fun _ => rfl) (fun x12 ls h hl => ?_)
  refine w_X5_likesTogether_L4 C hR _ _ _ H locs ls h hp (lv_sub hl [2, 1, 0] rfl)
theorem c_X5_likesTogether (l : Launch) {V : g_V} (hok : g_ok xG V)  {M : g_M} {x : Int} (h : m_X5_likesTogether M = some x) : MetI xG V l yX5_likesTogether cX5_likesTogether 3 (some .int) 0 0 [.ref (V.2.2 77)] M x M :=
  g_metI hok cal_X5_likesTogether.2.2.2 rfl (Nat.le_of_ble_eq_true rfl) (@fun p e R s m args below meth c Q ls C hR hp hl => b_X5_likesTogether C hR h hp hl)
set_option maxRecDepth 100000 in
set_option maxHeartbeats 4000000 in
theorem b_X6_mayBe (C : g_CX xG V p R s m args meth c cX6_mayBe 2 (some .boolean) RX6 0 0) {res : Int} {M : g_M} (hR : g_RetI xG V p l e R s m args below meth c Q cX6_mayBe .boolean res M) {a1 : Int} {H : Heap} {locs : List Loc} {ls : Array Slot} (h : m_X6_mayBe a1 M = some res) (hp : g_PT xG V M s H locs) (hl : lv_has ls 2 [(0, .ref (V.2.2 76)), (1, .int (gI a1))]) : W p l e R s m args below meth c H locs 0 0 Q (F0 m 0 ls []) := by
  unfold m_X6_mayBe at h
  refine lv_aload_n C.1 C.2.1 dX6_mayBe_0 rfl (lv_at hl 0 rfl) ?_
  refine r_getr (t := 1) C hp xk_76 xs_76 xc_6 xin_6 (j := 0) (by decide) rfl gw_404 rfl dX6_mayBe_1 ?_
  refine r_geti (t := 0) C hp xk_1 xs_1 xc_1 xin_1 (j := 13) (by decide) rfl gw_182 rfl dX6_mayBe_4 ?_
  refine lv_iload_n C.1 C.2.1 dX6_mayBe_7 rfl (lv_at hl 1 rfl) ?_
  refine r_ishr C dX6_mayBe_8 ?_
  refine r_iconst C dX6_mayBe_9 ?_
  refine r_iand C dX6_mayBe_10 ?_
  refine r_if_eq (tgt := 18) C h dX6_mayBe_11 (by decide) (fun h => ?_) (fun h => ?_)
  · refine r_iconst C dX6_mayBe_18 ?_
    cases h
    exact hR _ _ _ _ dX6_mayBe_19 g_nz0 hp
  · refine r_iconst C dX6_mayBe_14 ?_
    refine r_goto (tgt := 19) C dX6_mayBe_15 (by decide) ?_
    cases h
    exact hR _ _ _ _ dX6_mayBe_19 g_nz1 hp
theorem c_X6_mayBe (l : Launch) {V : g_V} (hok : g_ok xG V) {a1 : Int} {M : g_M} {x : Int} (h : m_X6_mayBe a1 M = some x) : MetI xG V l yX6_mayBe cX6_mayBe 2 (some .boolean) 0 0 [.ref (V.2.2 76), .int (gI a1)] M x M :=
  g_metI hok cal_X6_mayBe.2.2.2 rfl (Nat.le_of_ble_eq_true rfl) (@fun p e R s m args below meth c Q ls C hR hp hl => b_X6_mayBe C hR h hp hl)
set_option maxRecDepth 100000 in
set_option maxHeartbeats 4000000 in
theorem w_X6_watch_L34 (C : g_CX xG V p R s m args meth c cX6_watch 5 (some .int) RX6 3 64) {res : Int × g_M} (hR : g_RetI xG V p l e R s m args below meth c Q cX6_watch .int res.1 res.2) (x21 : Int) (x23 : Int) (M25 : g_M) (k26 : Int → Option (Int × g_M)) (hk26 : ∀ (x30 : Int) (H : Heap) (locs : List Loc) (ls : Array Slot), k26 x30 = some res → g_PT xG V M25 s H locs → lv_has ls 5 [(0, .ref (V.2.2 76)), (1, .int (gI x21)), (2, .int (gI x30)), (3, .int (gI x23))] → W p l e R s m args below meth c H locs 0 0 Q (F0 m 61 ls [])) : ∀ (f : Nat) (x22 : Int) (x24 : Int) (H : Heap) (locs : List Loc) (ls : Array Slot), m_X6_watch_L34 x21 x23 M25 k26 f x22 x24 = some res → g_PT xG V M25 s H locs → lv_has ls 5 [(0, .ref (V.2.2 76)), (1, .int (gI x21)), (2, .int (gI x22)), (3, .int (gI x23)), (4, .int (gI x24))] → W p l e R s m args below meth c H locs 0 0 Q (F0 m 34 ls []) := by
  intro f
  induction f with
  | zero => intro x22 x24 H locs ls h hp hl; cases h
  | succ f ih =>
    intro x22 x24 H locs ls h hp hl
    rw [m_X6_watch_L34] at h
    refine lv_iload C.1 C.2.1 dX6_watch_34 (lv_at hl 4 rfl) ?_
    refine r_iconst C dX6_watch_36 ?_
    refine r_icmp_ge (tgt := 61) C h dX6_watch_37 (by decide) (fun h => ?_) (fun h => ?_)
    · exact hk26 _ _ _ _ h hp (lv_sub hl [0, 1, 2, 3] rfl)
    · refine lv_iload_n C.1 C.2.1 dX6_watch_40 rfl (lv_at hl 2 rfl) ?_
      refine r_iconst C dX6_watch_41 ?_
      refine lv_aload_n C.1 C.2.1 dX6_watch_42 rfl (lv_at hl 0 rfl) ?_
      refine r_getr (t := 1) C hp xk_76 xs_76 xc_6 xin_6 (j := 0) (by decide) rfl gw_404 rfl dX6_watch_43 ?_
      refine lv_iload_n C.1 C.2.1 dX6_watch_46 rfl (lv_at hl 3 rfl) ?_
      refine lv_iload C.1 C.2.1 dX6_watch_47 (lv_at hl 4 rfl) ?_
      obtain ⟨x27, hr, h⟩ := bd_of h
      refine r_callVI (As := [.int (gI x23), .int (gI x24)]) (rest := [.int (gI 1), .int (gI x22)]) C hl.1 hp (c_X1_after l C.2.2.2.2.2.2.2.2.2.2.2 hr) gw_1126 gw_790 gw_791 xk_1 xs_1 xc_1 cal_X1_after rfl rfl (Nat.le_of_ble_eq_true rfl) ⟨Nat.le_of_ble_eq_true rfl, Nat.le_of_ble_eq_true rfl⟩ dX6_watch_49 (fun H locs hp => ?_)
      refine r_ishl C dX6_watch_52 ?_
      refine r_ior C dX6_watch_53 ?_
      refine r_istore_n (lv' := fun x28 => [(2, .int (gI x28)), (0, .ref (V.2.2 76)), (1, .int (gI x21)), (3, .int (gI x23)), (4, .int (gI x24))]) C h dX6_watch_54 rfl hl (by decide) (fun _ => rfl) (fun x28 ls h hl => ?_)
      refine r_iinc (lv' := fun x29 => [(4, .int (gI x29)), (2, .int (gI x28)), (0, .ref (V.2.2 76)), (1, .int (gI x21)), (3, .int (gI x23))]) C h dX6_watch_55 hl (j := 4) rfl (by decide) (fun _ => rfl) (fun x29 ls h hl => ?_)
      refine r_goto (tgt := 34) C dX6_watch_58 (by decide) ?_
      exact ih _ _ _ _ _ h hp (lv_sub hl [2, 3, 1, 4, 0] rfl)
set_option maxRecDepth 100000 in
set_option maxHeartbeats 4000000 in
theorem w_X6_watch_L4 (C : g_CX xG V p R s m args meth c cX6_watch 5 (some .int) RX6 3 64) {res : Int × g_M} (hR : g_RetI xG V p l e R s m args below meth c Q cX6_watch .int res.1 res.2) (x13 : Int) (M16 : g_M) (k17 : Int → Option (Int × g_M)) (hk17 : ∀ (x34 : Int) (H : Heap) (locs : List Loc) (ls : Array Slot), k17 x34 = some res → g_PT xG V M16 s H locs → lv_has ls 5 [(0, .ref (V.2.2 76)), (2, .int (gI x34))] → W p l e R s m args below meth c H locs 0 0 Q (F0 m 67 ls [])) : ∀ (f : Nat) (x14 : Int) (x15 : Int) (H : Heap) (locs : List Loc) (ls : Array Slot), m_X6_watch_L4 x13 M16 k17 f x14 x15 = some res → g_PT xG V M16 s H locs → lv_has ls 5 [(0, .ref (V.2.2 76)), (1, .int (gI x13)), (2, .int (gI x14)), (3, .int (gI x15))] → W p l e R s m args below meth c H locs 0 0 Q (F0 m 4 ls []) := by
  intro f
  induction f with
  | zero => intro x14 x15 H locs ls h hp hl; cases h
  | succ f ih =>
    intro x14 x15 H locs ls h hp hl
    rw [m_X6_watch_L4] at h
    refine lv_iload_n C.1 C.2.1 dX6_watch_4 rfl (lv_at hl 3 rfl) ?_
    refine r_bipush C dX6_watch_5 (by decide +kernel) ?_
    refine r_icmp_ge (tgt := 67) C h dX6_watch_7 (by decide) (fun h => ?_) (fun h => ?_)
    · exact hk17 _ _ _ _ h hp (lv_sub hl [0, 2] rfl)
    · refine r_jn (P := fun J => ∀ (x32 : Int) (H : Heap) (locs : List Loc) (ls : Array Slot), J x32 = some res → g_PT xG V M16 s H locs → lv_has ls 5 [(0, .ref (V.2.2 76)), (1, .int (gI x13)), (2, .int (gI x32)), (3, .int (gI x15))] → W p l e R s m args below meth c H locs 0 0 Q (F0 m 61 ls [])) h ?_ (fun J18 hJ18 h => ?_)
      · intro x32 H locs ls h hp hl
        refine r_iinc (lv' := fun x33 => [(3, .int (gI x33)), (0, .ref (V.2.2 76)), (1, .int (gI x13)), (2, .int (gI x32))]) C h dX6_watch_61 hl (j := 3) rfl (by decide) (fun _ => rfl) (fun x33 ls h hl => ?_)
        refine r_goto (tgt := 4) C dX6_watch_64 (by decide) ?_
        exact ih _ _ _ _ _ h hp (lv_sub hl [1, 2, 3, 0] rfl)
      refine lv_aload_n C.1 C.2.1 dX6_watch_10 rfl (lv_at hl 0 rfl) ?_
      refine lv_iload_n C.1 C.2.1 dX6_watch_11 rfl (lv_at hl 3 rfl) ?_
      obtain ⟨x19, hr, h⟩ := bd_of h
      refine r_callVI (As := [.int (gI x15)]) (rest := []) C hl.1 hp (c_X6_mayBe l C.2.2.2.2.2.2.2.2.2.2.2 hr) gw_1122 gw_1124 gw_37 xk_76 xs_76 xc_6 cal_X6_mayBe rfl rfl (Nat.le_of_ble_eq_true rfl) ⟨Nat.le_of_ble_eq_true rfl, Nat.le_of_ble_eq_true rfl⟩ dX6_watch_12 (fun H locs hp => ?_)
      refine r_if_eq (tgt := 61) C h dX6_watch_15 (by decide) (fun h => ?_) (fun h => ?_)
      · exact hJ18 _ _ _ _ h hp hl
      · refine lv_aload_n C.1 C.2.1 dX6_watch_18 rfl (lv_at hl 0 rfl) ?_
        refine r_getr (t := 1) C hp xk_76 xs_76 xc_6 xin_6 (j := 0) (by decide) rfl gw_404 rfl dX6_watch_19 ?_
        refine r_getr (t := 5) C hp xk_1 xs_1 xc_1 xin_1 (j := 5) (by decide) rfl gw_157 rfl dX6_watch_22 ?_
        refine lv_iload_n C.1 C.2.1 dX6_watch_25 rfl (lv_at hl 3 rfl) ?_
        refine r_iald C hp h xk_5 xs_5 dX6_watch_26 (fun h => ?_)
        refine lv_iload_n C.1 C.2.1 dX6_watch_27 rfl (lv_at hl 1 rfl) ?_
        refine r_icmp_ne (tgt := 61) C h dX6_watch_28 (by decide) (fun h => ?_) (fun h => ?_)
        · exact hJ18 _ _ _ _ h hp hl
        · refine r_iconst C dX6_watch_31 ?_
          refine r_istore (lv' := fun x20 => [(4, .int (gI x20)), (0, .ref (V.2.2 76)), (1, .int (gI x13)), (2, .int (gI x14)), (3, .int (gI x15))]) C h dX6_watch_32 hl (by decide) (fun _ => rfl) (fun x20 ls h hl => ?_)
          refine w_X6_watch_L34 C hR _ _ _ _ ?_ _ _ _ H locs ls h hp (lv_sub hl [1, 2, 3, 4, 0] rfl)
          · intro x31 H locs ls h hp hl
            exact hJ18 _ _ _ _ h hp hl
set_option maxRecDepth 100000 in
set_option maxHeartbeats 4000000 in
theorem b_X6_watch (C : g_CX xG V p R s m args meth c cX6_watch 5 (some .int) RX6 3 64) {res : Int × g_M} (hR : g_RetI xG V p l e R s m args below meth c Q cX6_watch .int res.1 res.2) {a1 : Int} {M : g_M} {H : Heap} {locs : List Loc} {ls : Array Slot} (h : m_X6_watch a1 M = some res) (hp : g_PT xG V M s H locs) (hl : lv_has ls 5 [(0, .ref (V.2.2 76)), (1, .int (gI a1))]) : W p l e R s m args below meth c H locs 0 0 Q (F0 m 0 ls []) := by
  unfold m_X6_watch at h
  refine r_iconst C dX6_watch_0 ?_
  refine r_istore_n (lv' := fun x11 => [(2, .int (gI x11)), (0, .ref (V.2.2 76)), (1, .int (gI a1))]) C h dX6_watch_1 rfl hl (by decide) (fun _ => rfl) (fun x11 ls h hl => ?_)
  refine r_iconst C dX6_watch_2 ?_
  refine r_istore_n (lv' := fun x12 => [(3, .int (gI x12)), (2, .int (gI x11)), (0, .ref (V.2.2 76)), (1, .int (gI a1))]) C h dX6_watch_3 rfl hl (by decide) (fun _ => rfl) (fun x12 ls h hl => ?_)
  refine w_X6_watch_L4 C hR _ _ _ ?_ _ _ _ H locs ls h hp (lv_sub hl [2, 3, 1, 0] rfl)
  · intro x35 H locs ls h hp hl
    refine lv_aload_n C.1 C.2.1 dX6_watch_67 rfl (lv_at hl 0 rfl) ?_
    refine r_getr (t := 1) C hp xk_76 xs_76 xc_6 xin_6 (j := 0) (by decide) rfl gw_404 rfl dX6_watch_68 ?_
    refine lv_iload_n C.1 C.2.1 dX6_watch_71 rfl (lv_at hl 1 rfl) ?_
    refine r_sipush C dX6_watch_72 (by decide +kernel) ?_
    refine r_iand C dX6_watch_75 ?_
    refine r_puti C hp h xk_1 xs_1 xc_1 xin_1 tyX1 tyX1_ok nmX1 (j := 13) (by decide) rfl gw_182 rfl rfl rfl dX6_watch_76 (fun M36 H locs h hp => ?_)
    refine lv_aload_n C.1 C.2.1 dX6_watch_79 rfl (lv_at hl 0 rfl) ?_
    refine r_getr (t := 1) C hp xk_76 xs_76 xc_6 xin_6 (j := 0) (by decide) rfl gw_404 rfl dX6_watch_80 ?_
    refine r_geti (t := 0) C hp xk_1 xs_1 xc_1 xin_1 (j := 13) (by decide) rfl gw_182 rfl dX6_watch_83 ?_
    cases h
    exact hR _ _ _ _ dX6_watch_86 rfl hp
theorem c_X6_watch (l : Launch) {V : g_V} (hok : g_ok xG V) {a1 : Int} {M : g_M} {x : Int} {M2 : g_M} (h : m_X6_watch a1 M = some (x, M2)) : MetI xG V l yX6_watch cX6_watch 5 (some .int) 3 64 [.ref (V.2.2 76), .int (gI a1)] M x M2 :=
  g_metI hok cal_X6_watch.2.2.2 rfl (Nat.le_of_ble_eq_true rfl) (@fun p e R s m args below meth c Q ls C hR hp hl => b_X6_watch C hR h hp hl)
set_option maxRecDepth 100000 in
set_option maxHeartbeats 4000000 in
theorem w_X6_onlyScene_L4 (C : g_CX xG V p R s m args meth c cX6_onlyScene 3 (some .int) RX6 0 0) {res : Int} {M15 : g_M} (hR : g_RetI xG V p l e R s m args below meth c Q cX6_onlyScene .int res M15)    : ∀ (f : Nat) (x13 : Int) (x14 : Int) (H : Heap) (locs : List Loc) (ls : Array Slot), m_X6_onlyScene_L4 M15  f x13 x14 = some res → g_PT xG V M15 s H locs → lv_has ls 3 [(0, .ref (V.2.2 76)), (1, .int (gI x13)), (2, .int (gI x14))] → W p l e R s m args below meth c H locs 0 0 Q (F0 m 4 ls []) := by
  intro f
  induction f with
  | zero => intro x13 x14 H locs ls h hp hl; cases h
  | succ f ih =>
    intro x13 x14 H locs ls h hp hl
    rw [m_X6_onlyScene_L4] at h
    refine lv_iload_n C.1 C.2.1 dX6_onlyScene_4 rfl (lv_at hl 2 rfl) ?_
    refine r_bipush C dX6_onlyScene_5 (by decide +kernel) ?_
    refine r_icmp_ge (tgt := 31) C h dX6_onlyScene_7 (by decide) (fun h => ?_) (fun h => ?_)
    · refine lv_iload_n C.1 C.2.1 dX6_onlyScene_31 rfl (lv_at hl 1 rfl) ?_
      cases h
      exact hR _ _ _ _ dX6_onlyScene_32 rfl hp
    · refine r_jn (P := fun J => ∀ (x18 : Int) (H : Heap) (locs : List Loc) (ls : Array Slot), J x18 = some res → g_PT xG V M15 s H locs → lv_has ls 3 [(0, .ref (V.2.2 76)), (1, .int (gI x18)), (2, .int (gI x14))] → W p l e R s m args below meth c H locs 0 0 Q (F0 m 25 ls [])) h ?_ (fun J16 hJ16 h => ?_)
      · intro x18 H locs ls h hp hl
        refine r_iinc (lv' := fun x19 => [(2, .int (gI x19)), (0, .ref (V.2.2 76)), (1, .int (gI x18))]) C h dX6_onlyScene_25 hl (j := 2) rfl (by decide) (fun _ => rfl) (fun x19 ls h hl => ?_)
        refine r_goto (tgt := 4) C dX6_onlyScene_28 (by decide) ?_
        exact ih _ _ _ _ _ h hp (lv_sub hl [1, 2, 0] rfl)
      refine lv_aload_n C.1 C.2.1 dX6_onlyScene_10 rfl (lv_at hl 0 rfl) ?_
      refine r_getr (t := 1) C hp xk_76 xs_76 xc_6 xin_6 (j := 0) (by decide) rfl gw_404 rfl dX6_onlyScene_11 ?_
      refine r_geti (t := 0) C hp xk_1 xs_1 xc_1 xin_1 (j := 13) (by decide) rfl gw_182 rfl dX6_onlyScene_14 ?_
      refine r_iconst C dX6_onlyScene_17 ?_
      refine lv_iload_n C.1 C.2.1 dX6_onlyScene_18 rfl (lv_at hl 2 rfl) ?_
      refine r_ishl C dX6_onlyScene_19 ?_
      refine r_icmp_ne (tgt := 25) C h dX6_onlyScene_20 (by decide) (fun h => ?_) (fun h => ?_)
      · exact hJ16 _ _ _ _ h hp hl
      · refine lv_iload_n C.1 C.2.1 dX6_onlyScene_23 rfl (lv_at hl 2 rfl) ?_
        refine r_istore_n (lv' := fun x17 => [(1, .int (gI x17)), (0, .ref (V.2.2 76)), (2, .int (gI x14))]) C h dX6_onlyScene_24 rfl hl (by decide) (fun _ => rfl) (fun x17 ls h hl => ?_)
        exact hJ16 _ _ _ _ h hp (lv_sub hl [1, 0, 2] rfl)
set_option maxRecDepth 100000 in
set_option maxHeartbeats 4000000 in
theorem b_X6_onlyScene (C : g_CX xG V p R s m args meth c cX6_onlyScene 3 (some .int) RX6 0 0) {res : Int} {M : g_M} (hR : g_RetI xG V p l e R s m args below meth c Q cX6_onlyScene .int res M)  {H : Heap} {locs : List Loc} {ls : Array Slot} (h : m_X6_onlyScene M = some res) (hp : g_PT xG V M s H locs) (hl : lv_has ls 3 [(0, .ref (V.2.2 76))]) : W p l e R s m args below meth c H locs 0 0 Q (F0 m 0 ls []) := by
  unfold m_X6_onlyScene at h
  refine r_iconst C dX6_onlyScene_0 ?_
  refine r_istore_n (lv' := fun x11 => [(1, .int (gI x11)), (0, .ref (V.2.2 76))]) C h dX6_onlyScene_1 rfl hl (by decide) (fun _ => rfl) (fun x11 ls h hl => ?_)
  refine r_iconst C dX6_onlyScene_2 ?_
  refine r_istore_n (lv' := fun x12 => [(2, .int (gI x12)), (1, .int (gI x11)), (0, .ref (V.2.2 76))]) C h dX6_onlyScene_3 rfl hl (by decide) (fun _ => rfl) (fun x12 ls h hl => ?_)
  refine w_X6_onlyScene_L4 C hR _ _ _ H locs ls h hp (lv_sub hl [2, 1, 0] rfl)
theorem c_X6_onlyScene (l : Launch) {V : g_V} (hok : g_ok xG V)  {M : g_M} {x : Int} (h : m_X6_onlyScene M = some x) : MetI xG V l yX6_onlyScene cX6_onlyScene 3 (some .int) 0 0 [.ref (V.2.2 76)] M x M :=
  g_metI hok cal_X6_onlyScene.2.2.2 rfl (Nat.le_of_ble_eq_true rfl) (@fun p e R s m args below meth c Q ls C hR hp hl => b_X6_onlyScene C hR h hp hl)
set_option maxRecDepth 100000 in
set_option maxHeartbeats 4000000 in
theorem w_X6_sortsBehind_L4 (C : g_CX xG V p R s m args meth c cX6_sortsBehind 5 (some .int) RX6 3 64) {res : Int} {M16 : g_M} (hR : g_RetI xG V p l e R s m args below meth c Q cX6_sortsBehind .int res M16) (x13 : Int) (k17 : Int → Option (Int)) (hk17 : ∀ (x30 : Int) (H : Heap) (locs : List Loc) (ls : Array Slot), k17 x30 = some res → g_PT xG V M16 s H locs → lv_has ls 5 [(2, .int (gI x30))] → W p l e R s m args below meth c H locs 0 0 Q (F0 m 62 ls [])) : ∀ (f : Nat) (x14 : Int) (x15 : Int) (H : Heap) (locs : List Loc) (ls : Array Slot), m_X6_sortsBehind_L4 x13 M16 k17 f x14 x15 = some res → g_PT xG V M16 s H locs → lv_has ls 5 [(0, .ref (V.2.2 76)), (1, .int (gI x13)), (2, .int (gI x14)), (3, .int (gI x15))] → W p l e R s m args below meth c H locs 0 0 Q (F0 m 4 ls []) := by
  intro f
  induction f with
  | zero => intro x14 x15 H locs ls h hp hl; cases h
  | succ f ih =>
    intro x14 x15 H locs ls h hp hl
    rw [m_X6_sortsBehind_L4] at h
    refine lv_iload_n C.1 C.2.1 dX6_sortsBehind_4 rfl (lv_at hl 3 rfl) ?_
    refine r_bipush C dX6_sortsBehind_5 (by decide +kernel) ?_
    refine r_icmp_ge (tgt := 62) C h dX6_sortsBehind_7 (by decide) (fun h => ?_) (fun h => ?_)
    · exact hk17 _ _ _ _ h hp (lv_sub hl [2] rfl)
    · refine r_jn (P := fun J => ∀ (x28 : Int) (H : Heap) (locs : List Loc) (ls : Array Slot), J x28 = some res → g_PT xG V M16 s H locs → lv_has ls 5 [(0, .ref (V.2.2 76)), (1, .int (gI x13)), (2, .int (gI x28)), (3, .int (gI x15))] → W p l e R s m args below meth c H locs 0 0 Q (F0 m 56 ls [])) h ?_ (fun J18 hJ18 h => ?_)
      · intro x28 H locs ls h hp hl
        refine r_iinc (lv' := fun x29 => [(3, .int (gI x29)), (0, .ref (V.2.2 76)), (1, .int (gI x13)), (2, .int (gI x28))]) C h dX6_sortsBehind_56 hl (j := 3) rfl (by decide) (fun _ => rfl) (fun x29 ls h hl => ?_)
        refine r_goto (tgt := 4) C dX6_sortsBehind_59 (by decide) ?_
        exact ih _ _ _ _ _ h hp (lv_sub hl [1, 2, 3, 0] rfl)
      refine lv_aload_n C.1 C.2.1 dX6_sortsBehind_10 rfl (lv_at hl 0 rfl) ?_
      refine lv_iload_n C.1 C.2.1 dX6_sortsBehind_11 rfl (lv_at hl 3 rfl) ?_
      obtain ⟨x19, hr, h⟩ := bd_of h
      refine r_callVI (As := [.int (gI x15)]) (rest := []) C hl.1 hp (c_X6_mayBe l C.2.2.2.2.2.2.2.2.2.2.2 hr) gw_1122 gw_1124 gw_37 xk_76 xs_76 xc_6 cal_X6_mayBe rfl rfl (Nat.le_of_ble_eq_true rfl) ⟨Nat.le_of_ble_eq_true rfl, Nat.le_of_ble_eq_true rfl⟩ dX6_sortsBehind_12 (fun H locs hp => ?_)
      refine r_if_eq (tgt := 56) C h dX6_sortsBehind_15 (by decide) (fun h => ?_) (fun h => ?_)
      · exact hJ18 _ _ _ _ h hp hl
      · refine r_jn (P := fun J => ∀ (x24 : Int) (x25 : Int) (x26 : Int) (H : Heap) (locs : List Loc) (ls : Array Slot), J x24 x25 x26 = some res → g_PT xG V M16 s H locs → lv_has ls 5 [(0, .ref (V.2.2 76)), (1, .int (gI x13)), (3, .int (gI x15))] → W p l e R s m args below meth c H locs 0 0 Q (F0 m 53 ls [.int (gI x24), .int (gI x25), .int (gI x26)])) h ?_ (fun J20 hJ20 h => ?_)
        · intro x24 x25 x26 H locs ls h hp hl
          refine r_ishl C dX6_sortsBehind_53 ?_
          refine r_ior C dX6_sortsBehind_54 ?_
          refine r_istore_n (lv' := fun x27 => [(2, .int (gI x27)), (0, .ref (V.2.2 76)), (1, .int (gI x13)), (3, .int (gI x15))]) C h dX6_sortsBehind_55 rfl hl (by decide) (fun _ => rfl) (fun x27 ls h hl => ?_)
          exact hJ18 _ _ _ _ h hp (lv_sub hl [1, 2, 0, 3] rfl)
        refine lv_aload_n C.1 C.2.1 dX6_sortsBehind_18 rfl (lv_at hl 0 rfl) ?_
        refine r_getr (t := 1) C hp xk_76 xs_76 xc_6 xin_6 (j := 0) (by decide) rfl gw_404 rfl dX6_sortsBehind_19 ?_
        refine lv_iload_n C.1 C.2.1 dX6_sortsBehind_22 rfl (lv_at hl 3 rfl) ?_
        refine lv_iload_n C.1 C.2.1 dX6_sortsBehind_23 rfl (lv_at hl 1 rfl) ?_
        obtain ⟨x21, hr, h⟩ := bd_of h
        refine r_callVI (As := [.int (gI x15), .int (gI x13)]) (rest := []) C hl.1 hp (c_X1_after l C.2.2.2.2.2.2.2.2.2.2.2 hr) gw_1126 gw_790 gw_791 xk_1 xs_1 xc_1 cal_X1_after rfl rfl (Nat.le_of_ble_eq_true rfl) ⟨Nat.le_of_ble_eq_true rfl, Nat.le_of_ble_eq_true rfl⟩ dX6_sortsBehind_24 (fun H locs hp => ?_)
        refine r_istore (lv' := fun x22 => [(4, .int (gI x22)), (0, .ref (V.2.2 76)), (1, .int (gI x13)), (2, .int (gI x14)), (3, .int (gI x15))]) C h dX6_sortsBehind_27 hl (by decide) (fun _ => rfl) (fun x22 ls h hl => ?_)
        refine lv_iload_n C.1 C.2.1 dX6_sortsBehind_29 rfl (lv_at hl 3 rfl) ?_
        refine r_iconst C dX6_sortsBehind_30 ?_
        refine lv_iload C.1 C.2.1 dX6_sortsBehind_31 (lv_at hl 0 rfl) ?_
        obtain ⟨x23, hr, h⟩ := bd_of h
        refine r_callNI (As := [.int (gI x22)]) (rest := [.int (gI 1), .int (gI x14)]) C hl.1 hp (c_X8_isScene l C.2.2.2.2.2.2.2.2.2.2.2 hr) (x_nest C (i := 6) rfl) gw_461 cal_X8_isScene rfl rfl (Nat.le_of_ble_eq_true rfl) ⟨Nat.le_of_ble_eq_true rfl, Nat.le_of_ble_eq_true rfl⟩ dX6_sortsBehind_33 (fun H locs hp => ?_)
        refine r_if_eq (tgt := 52) C h dX6_sortsBehind_36 (by decide) (fun h => ?_) (fun h => ?_)
        · refine r_iconst C dX6_sortsBehind_52 ?_
          exact hJ20 _ _ _ _ _ _ h hp (lv_sub hl [1, 2, 4] rfl)
        · refine lv_aload_n C.1 C.2.1 dX6_sortsBehind_39 rfl (lv_at hl 1 rfl) ?_
          refine r_getr (t := 1) C hp xk_76 xs_76 xc_6 xin_6 (j := 0) (by decide) rfl gw_404 rfl dX6_sortsBehind_40 ?_
          refine r_getr (t := 5) C hp xk_1 xs_1 xc_1 xin_1 (j := 5) (by decide) rfl gw_157 rfl dX6_sortsBehind_43 ?_
          refine lv_iload C.1 C.2.1 dX6_sortsBehind_46 (lv_at hl 0 rfl) ?_
          refine r_iald C hp h xk_5 xs_5 dX6_sortsBehind_48 (fun h => ?_)
          refine r_goto (tgt := 53) C dX6_sortsBehind_49 (by decide) ?_
          exact hJ20 _ _ _ _ _ _ h hp (lv_sub hl [1, 2, 4] rfl)
set_option maxRecDepth 100000 in
set_option maxHeartbeats 4000000 in
theorem b_X6_sortsBehind (C : g_CX xG V p R s m args meth c cX6_sortsBehind 5 (some .int) RX6 3 64) {res : Int} {M : g_M} (hR : g_RetI xG V p l e R s m args below meth c Q cX6_sortsBehind .int res M) {a1 : Int} {H : Heap} {locs : List Loc} {ls : Array Slot} (h : m_X6_sortsBehind a1 M = some res) (hp : g_PT xG V M s H locs) (hl : lv_has ls 5 [(0, .ref (V.2.2 76)), (1, .int (gI a1))]) : W p l e R s m args below meth c H locs 0 0 Q (F0 m 0 ls []) := by
  unfold m_X6_sortsBehind at h
  refine r_iconst C dX6_sortsBehind_0 ?_
  refine r_istore_n (lv' := fun x11 => [(2, .int (gI x11)), (0, .ref (V.2.2 76)), (1, .int (gI a1))]) C h dX6_sortsBehind_1 rfl hl (by decide) (fun _ => rfl) (fun x11 ls h hl => ?_)
  refine r_iconst C dX6_sortsBehind_2 ?_
  refine r_istore_n (lv' := fun x12 => [(3, .int (gI x12)), (2, .int (gI x11)), (0, .ref (V.2.2 76)), (1, .int (gI a1))]) C h dX6_sortsBehind_3 rfl hl (by decide) (fun _ => rfl) (fun x12 ls h hl => ?_)
  refine w_X6_sortsBehind_L4 C hR _ _ ?_ _ _ _ H locs ls h hp (lv_sub hl [2, 3, 1, 0] rfl)
  · intro x31 H locs ls h hp hl
    refine lv_iload_n C.1 C.2.1 dX6_sortsBehind_62 rfl (lv_at hl 0 rfl) ?_
    obtain ⟨x32, hr, h⟩ := bd_of h
    refine r_callSI (As := [.int (gI x31)]) (rest := []) C hl.1 hp (c_J6_bitCount_0f7a4 l C.2.2.2.2.2.2.2.2.2.2.2 hr) gw_1148 gw_842 cal_J6_bitCount_0f7a4 rfl rfl (Nat.le_of_ble_eq_true rfl) ⟨Nat.le_of_ble_eq_true rfl, Nat.le_of_ble_eq_true rfl⟩ dX6_sortsBehind_63 (fun H locs hp => ?_)
    cases h
    exact hR _ _ _ _ dX6_sortsBehind_66 rfl hp
theorem c_X6_sortsBehind (l : Launch) {V : g_V} (hok : g_ok xG V) {a1 : Int} {M : g_M} {x : Int} (h : m_X6_sortsBehind a1 M = some x) : MetI xG V l yX6_sortsBehind cX6_sortsBehind 5 (some .int) 3 64 [.ref (V.2.2 76), .int (gI a1)] M x M :=
  g_metI hok cal_X6_sortsBehind.2.2.2 rfl (Nat.le_of_ble_eq_true rfl) (@fun p e R s m args below meth c Q ls C hR hp hl => b_X6_sortsBehind C hR h hp hl)
set_option maxRecDepth 100000 in
set_option maxHeartbeats 4000000 in
theorem w_X6_tellingCue_L6 (C : g_CX xG V p R s m args meth c cX6_tellingCue 5 (some .int) RX6 4 88) {res : Int} {M17 : g_M} (hR : g_RetI xG V p l e R s m args below meth c Q cX6_tellingCue .int res M17)    : ∀ (f : Nat) (x14 : Int) (x15 : Int) (x16 : Int) (H : Heap) (locs : List Loc) (ls : Array Slot), m_X6_tellingCue_L6 M17  f x14 x15 x16 = some res → g_PT xG V M17 s H locs → lv_has ls 5 [(0, .ref (V.2.2 76)), (1, .int (gI x14)), (2, .int (gI x15)), (3, .int (gI x16))] → W p l e R s m args below meth c H locs 0 0 Q (F0 m 6 ls []) := by
  intro f
  induction f with
  | zero => intro x14 x15 x16 H locs ls h hp hl; cases h
  | succ f ih =>
    intro x14 x15 x16 H locs ls h hp hl
    rw [m_X6_tellingCue_L6] at h
    refine lv_iload_n C.1 C.2.1 dX6_tellingCue_6 rfl (lv_at hl 3 rfl) ?_
    refine r_iconst C dX6_tellingCue_7 ?_
    refine r_icmp_ge (tgt := 35) C h dX6_tellingCue_8 (by decide) (fun h => ?_) (fun h => ?_)
    · refine lv_iload_n C.1 C.2.1 dX6_tellingCue_35 rfl (lv_at hl 1 rfl) ?_
      cases h
      exact hR _ _ _ _ dX6_tellingCue_36 rfl hp
    · refine r_jn (P := fun J => ∀ (x23 : Int) (x24 : Int) (H : Heap) (locs : List Loc) (ls : Array Slot), J x23 x24 = some res → g_PT xG V M17 s H locs → lv_has ls 5 [(0, .ref (V.2.2 76)), (1, .int (gI x23)), (2, .int (gI x24)), (3, .int (gI x16))] → W p l e R s m args below meth c H locs 0 0 Q (F0 m 29 ls [])) h ?_ (fun J18 hJ18 h => ?_)
      · intro x23 x24 H locs ls h hp hl
        refine r_iinc (lv' := fun x25 => [(3, .int (gI x25)), (0, .ref (V.2.2 76)), (1, .int (gI x23)), (2, .int (gI x24))]) C h dX6_tellingCue_29 hl (j := 3) rfl (by decide) (fun _ => rfl) (fun x25 ls h hl => ?_)
        refine r_goto (tgt := 6) C dX6_tellingCue_32 (by decide) ?_
        exact ih _ _ _ _ _ _ h hp (lv_sub hl [1, 2, 3, 0] rfl)
      refine lv_aload_n C.1 C.2.1 dX6_tellingCue_11 rfl (lv_at hl 0 rfl) ?_
      refine lv_iload_n C.1 C.2.1 dX6_tellingCue_12 rfl (lv_at hl 3 rfl) ?_
      obtain ⟨x19, hr, h⟩ := bd_of h
      refine r_callVI (As := [.int (gI x16)]) (rest := []) C hl.1 hp (c_X6_sortsBehind l C.2.2.2.2.2.2.2.2.2.2.2 hr) gw_1143 gw_1145 gw_38 xk_76 xs_76 xc_6 cal_X6_sortsBehind rfl rfl (Nat.le_of_ble_eq_true rfl) ⟨Nat.le_of_ble_eq_true rfl, Nat.le_of_ble_eq_true rfl⟩ dX6_tellingCue_13 (fun H locs hp => ?_)
      refine r_istore (lv' := fun x20 => [(4, .int (gI x20)), (0, .ref (V.2.2 76)), (1, .int (gI x14)), (2, .int (gI x15)), (3, .int (gI x16))]) C h dX6_tellingCue_16 hl (by decide) (fun _ => rfl) (fun x20 ls h hl => ?_)
      refine lv_iload C.1 C.2.1 dX6_tellingCue_18 (lv_at hl 0 rfl) ?_
      refine lv_iload_n C.1 C.2.1 dX6_tellingCue_20 rfl (lv_at hl 3 rfl) ?_
      refine r_icmp_le (tgt := 29) C h dX6_tellingCue_21 (by decide) (fun h => ?_) (fun h => ?_)
      · exact hJ18 _ _ _ _ _ h hp (lv_sub hl [1, 2, 3, 4] rfl)
      · refine lv_iload C.1 C.2.1 dX6_tellingCue_24 (lv_at hl 0 rfl) ?_
        refine r_istore_n (lv' := fun x21 => [(2, .int (gI x21)), (4, .int (gI x20)), (0, .ref (V.2.2 76)), (1, .int (gI x14)), (3, .int (gI x16))]) C h dX6_tellingCue_26 rfl hl (by decide) (fun _ => rfl) (fun x21 ls h hl => ?_)
        refine lv_iload_n C.1 C.2.1 dX6_tellingCue_27 rfl (lv_at hl 4 rfl) ?_
        refine r_istore_n (lv' := fun x22 => [(1, .int (gI x22)), (2, .int (gI x21)), (4, .int (gI x20)), (0, .ref (V.2.2 76)), (3, .int (gI x16))]) C h dX6_tellingCue_28 rfl hl (by decide) (fun _ => rfl) (fun x22 ls h hl => ?_)
        exact hJ18 _ _ _ _ _ h hp (lv_sub hl [3, 0, 1, 4] rfl)
set_option maxRecDepth 100000 in
set_option maxHeartbeats 4000000 in
theorem b_X6_tellingCue (C : g_CX xG V p R s m args meth c cX6_tellingCue 5 (some .int) RX6 4 88) {res : Int} {M : g_M} (hR : g_RetI xG V p l e R s m args below meth c Q cX6_tellingCue .int res M)  {H : Heap} {locs : List Loc} {ls : Array Slot} (h : m_X6_tellingCue M = some res) (hp : g_PT xG V M s H locs) (hl : lv_has ls 5 [(0, .ref (V.2.2 76))]) : W p l e R s m args below meth c H locs 0 0 Q (F0 m 0 ls []) := by
  unfold m_X6_tellingCue at h
  refine r_iconst C dX6_tellingCue_0 ?_
  refine r_istore_n (lv' := fun x11 => [(1, .int (gI x11)), (0, .ref (V.2.2 76))]) C h dX6_tellingCue_1 rfl hl (by decide) (fun _ => rfl) (fun x11 ls h hl => ?_)
  refine r_iconst C dX6_tellingCue_2 ?_
  refine r_istore_n (lv' := fun x12 => [(2, .int (gI x12)), (1, .int (gI x11)), (0, .ref (V.2.2 76))]) C h dX6_tellingCue_3 rfl hl (by decide) (fun _ => rfl) (fun x12 ls h hl => ?_)
  refine r_iconst C dX6_tellingCue_4 ?_
  refine r_istore_n (lv' := fun x13 => [(3, .int (gI x13)), (2, .int (gI x12)), (1, .int (gI x11)), (0, .ref (V.2.2 76))]) C h dX6_tellingCue_5 rfl hl (by decide) (fun _ => rfl) (fun x13 ls h hl => ?_)
  refine w_X6_tellingCue_L6 C hR _ _ _ _ H locs ls h hp (lv_sub hl [3, 2, 1, 0] rfl)
theorem c_X6_tellingCue (l : Launch) {V : g_V} (hok : g_ok xG V)  {M : g_M} {x : Int} (h : m_X6_tellingCue M = some x) : MetI xG V l yX6_tellingCue cX6_tellingCue 5 (some .int) 4 88 [.ref (V.2.2 76)] M x M :=
  g_metI hok cal_X6_tellingCue.2.2.2 rfl (Nat.le_of_ble_eq_true rfl) (@fun p e R s m args below meth c Q ls C hR hp hl => b_X6_tellingCue C hR h hp hl)
set_option maxRecDepth 100000 in
set_option maxHeartbeats 4000000 in
theorem b_X7_copy (C : g_CX xG V p R s m args meth c cX7_copy 2 none RX7 1 40) {res : g_M} (hR : g_RetV xG V p l e R s m args below meth c Q cX7_copy res) {t0 : Nat} {t1 : Nat} {M : g_M} (ht0 : xT t0) (ht1 : xT t1) {H : Heap} {locs : List Loc} {ls : Array Slot} (h : m_X7_copy t0 t1 M = some res) (hp : g_PT xG V M s H locs) (hl : lv_has ls 2 [(0, .ref (V.2.2 t0)), (1, .ref (V.2.2 t1))]) : W p l e R s m args below meth c H locs 0 0 Q (F0 m 0 ls []) := by
  unfold m_X7_copy at h
  refine lv_aload_n C.1 C.2.1 dX7_copy_0 rfl (lv_at hl 1 rfl) ?_
  refine r_getr (t := (t1 + 1)) C hp (xT_k0 ht1) (xT_s0 ht1) xc_7 xin_7 (j := 0) (by decide) rfl gw_246 rfl dX7_copy_1 ?_
  refine r_iconst C dX7_copy_4 ?_
  refine lv_aload_n C.1 C.2.1 dX7_copy_5 rfl (lv_at hl 0 rfl) ?_
  refine r_getr (t := (t0 + 1)) C hp (xT_k0 ht0) (xT_s0 ht0) xc_7 xin_7 (j := 0) (by decide) rfl gw_246 rfl dX7_copy_6 ?_
  refine r_iconst C dX7_copy_9 ?_
  refine r_sipush C dX7_copy_10 (by decide +kernel) ?_
  refine r_copyi C hl.1 hp h (xT_k1 ht1) (xT_s1 ht1) (xT_k1 ht0) (xT_s1 ht0) gw_744 gw_746 gw_745 gw_128 (Nat.le_of_ble_eq_true rfl) (Nat.le_of_ble_eq_true rfl) dX7_copy_13 (fun M11 H locs h hp => ?_)
  refine lv_aload_n C.1 C.2.1 dX7_copy_16 rfl (lv_at hl 0 rfl) ?_
  refine lv_aload_n C.1 C.2.1 dX7_copy_17 rfl (lv_at hl 1 rfl) ?_
  refine r_geti (t := 0) C hp (xT_k0 ht1) (xT_s0 ht1) xc_7 xin_7 (j := 1) (by decide) rfl gw_248 rfl dX7_copy_18 ?_
  refine r_puti C hp h (xT_k0 ht0) (xT_s0 ht0) xc_7 xin_7 tyX7 tyX7_ok nmX7 (j := 1) (by decide) rfl gw_248 rfl rfl rfl dX7_copy_21 (fun M12 H locs h hp => ?_)
  refine lv_aload_n C.1 C.2.1 dX7_copy_24 rfl (lv_at hl 1 rfl) ?_
  refine r_getr (t := (t1 + 2)) C hp (xT_k0 ht1) (xT_s0 ht1) xc_7 xin_7 (j := 2) (by decide) rfl gw_250 rfl dX7_copy_25 ?_
  refine r_iconst C dX7_copy_28 ?_
  refine lv_aload_n C.1 C.2.1 dX7_copy_29 rfl (lv_at hl 0 rfl) ?_
  refine r_getr (t := (t0 + 2)) C hp (xT_k0 ht0) (xT_s0 ht0) xc_7 xin_7 (j := 2) (by decide) rfl gw_250 rfl dX7_copy_30 ?_
  refine r_iconst C dX7_copy_33 ?_
  refine r_iconst C dX7_copy_34 ?_
  refine r_copyi C hl.1 hp h (xT_k2 ht1) (xT_s2 ht1) (xT_k2 ht0) (xT_s2 ht0) gw_744 gw_746 gw_745 gw_128 (Nat.le_of_ble_eq_true rfl) (Nat.le_of_ble_eq_true rfl) dX7_copy_35 (fun M13 H locs h hp => ?_)
  refine lv_aload_n C.1 C.2.1 dX7_copy_38 rfl (lv_at hl 1 rfl) ?_
  refine r_getr (t := (t1 + 3)) C hp (xT_k0 ht1) (xT_s0 ht1) xc_7 xin_7 (j := 3) (by decide) rfl gw_253 rfl dX7_copy_39 ?_
  refine r_iconst C dX7_copy_42 ?_
  refine lv_aload_n C.1 C.2.1 dX7_copy_43 rfl (lv_at hl 0 rfl) ?_
  refine r_getr (t := (t0 + 3)) C hp (xT_k0 ht0) (xT_s0 ht0) xc_7 xin_7 (j := 3) (by decide) rfl gw_253 rfl dX7_copy_44 ?_
  refine r_iconst C dX7_copy_47 ?_
  refine r_iconst C dX7_copy_48 ?_
  refine r_copyi C hl.1 hp h (xT_k3 ht1) (xT_s3 ht1) (xT_k3 ht0) (xT_s3 ht0) gw_744 gw_746 gw_745 gw_128 (Nat.le_of_ble_eq_true rfl) (Nat.le_of_ble_eq_true rfl) dX7_copy_49 (fun M14 H locs h hp => ?_)
  refine lv_aload_n C.1 C.2.1 dX7_copy_52 rfl (lv_at hl 1 rfl) ?_
  refine r_getr (t := (t1 + 4)) C hp (xT_k0 ht1) (xT_s0 ht1) xc_7 xin_7 (j := 4) (by decide) rfl gw_256 rfl dX7_copy_53 ?_
  refine r_iconst C dX7_copy_56 ?_
  refine lv_aload_n C.1 C.2.1 dX7_copy_57 rfl (lv_at hl 0 rfl) ?_
  refine r_getr (t := (t0 + 4)) C hp (xT_k0 ht0) (xT_s0 ht0) xc_7 xin_7 (j := 4) (by decide) rfl gw_256 rfl dX7_copy_58 ?_
  refine r_iconst C dX7_copy_61 ?_
  refine r_bipush C dX7_copy_62 (by decide +kernel) ?_
  refine r_copyi C hl.1 hp h (xT_k4 ht1) (xT_s4 ht1) (xT_k4 ht0) (xT_s4 ht0) gw_744 gw_746 gw_745 gw_128 (Nat.le_of_ble_eq_true rfl) (Nat.le_of_ble_eq_true rfl) dX7_copy_64 (fun M15 H locs h hp => ?_)
  refine lv_aload_n C.1 C.2.1 dX7_copy_67 rfl (lv_at hl 1 rfl) ?_
  refine r_getr (t := (t1 + 5)) C hp (xT_k0 ht1) (xT_s0 ht1) xc_7 xin_7 (j := 5) (by decide) rfl gw_258 rfl dX7_copy_68 ?_
  refine r_iconst C dX7_copy_71 ?_
  refine lv_aload_n C.1 C.2.1 dX7_copy_72 rfl (lv_at hl 0 rfl) ?_
  refine r_getr (t := (t0 + 5)) C hp (xT_k0 ht0) (xT_s0 ht0) xc_7 xin_7 (j := 5) (by decide) rfl gw_258 rfl dX7_copy_73 ?_
  refine r_iconst C dX7_copy_76 ?_
  refine r_bipush C dX7_copy_77 (by decide +kernel) ?_
  refine r_copyi C hl.1 hp h (xT_k5 ht1) (xT_s5 ht1) (xT_k5 ht0) (xT_s5 ht0) gw_744 gw_746 gw_745 gw_128 (Nat.le_of_ble_eq_true rfl) (Nat.le_of_ble_eq_true rfl) dX7_copy_79 (fun M16 H locs h hp => ?_)
  refine lv_aload_n C.1 C.2.1 dX7_copy_82 rfl (lv_at hl 0 rfl) ?_
  refine lv_aload_n C.1 C.2.1 dX7_copy_83 rfl (lv_at hl 1 rfl) ?_
  refine r_geti (t := 0) C hp (xT_k0 ht1) (xT_s0 ht1) xc_7 xin_7 (j := 6) (by decide) rfl gw_259 rfl dX7_copy_84 ?_
  refine r_puti C hp h (xT_k0 ht0) (xT_s0 ht0) xc_7 xin_7 tyX7 tyX7_ok nmX7 (j := 6) (by decide) rfl gw_259 rfl rfl rfl dX7_copy_87 (fun M17 H locs h hp => ?_)
  cases h
  exact hR _ _ _ _ dX7_copy_90 hp
theorem c_X7_copy (l : Launch) {V : g_V} (hok : g_ok xG V) {t0 : Nat} {t1 : Nat} {M : g_M} {res : g_M} (ht0 : xT t0) (ht1 : xT t1) (h : m_X7_copy t0 t1 M = some res) : MetV xG V l yX7_copy cX7_copy 2 none 1 40 [.ref (V.2.2 t0), .ref (V.2.2 t1)] M res :=
  g_metV hok cal_X7_copy.2.2.2 rfl (Nat.le_of_ble_eq_true rfl) (@fun p e R s m args below meth c Q ls C hR hp hl => b_X7_copy C hR ht0 ht1 h hp hl)
set_option maxRecDepth 100000 in
set_option maxHeartbeats 4000000 in
theorem b_X7_numberOf (C : g_CX xG V p R s m args meth c cX7_numberOf 3 (some .int) RX7 0 0) {res : Int} {M : g_M} (hR : g_RetI xG V p l e R s m args below meth c Q cX7_numberOf .int res M) {t0 : Nat} {a1 : Int} {a2 : Int} (ht0 : xT t0) {H : Heap} {locs : List Loc} {ls : Array Slot} (h : m_X7_numberOf t0 a1 a2 M = some res) (hp : g_PT xG V M s H locs) (hl : lv_has ls 3 [(0, .ref (V.2.2 t0)), (1, .int (gI a1)), (2, .int (gI a2))]) : W p l e R s m args below meth c H locs 0 0 Q (F0 m 0 ls []) := by
  unfold m_X7_numberOf at h
  refine lv_aload_n C.1 C.2.1 dX7_numberOf_0 rfl (lv_at hl 0 rfl) ?_
  refine r_getr (t := (t0 + 5)) C hp (xT_k0 ht0) (xT_s0 ht0) xc_7 xin_7 (j := 5) (by decide) rfl gw_258 rfl dX7_numberOf_1 ?_
  refine lv_iload_n C.1 C.2.1 dX7_numberOf_4 rfl (lv_at hl 1 rfl) ?_
  refine r_iconst C dX7_numberOf_5 ?_
  refine r_imul C dX7_numberOf_6 ?_
  refine lv_iload_n C.1 C.2.1 dX7_numberOf_7 rfl (lv_at hl 2 rfl) ?_
  refine r_iadd C dX7_numberOf_8 ?_
  refine r_iald C hp h (xT_k5 ht0) (xT_s5 ht0) dX7_numberOf_9 (fun h => ?_)
  cases h
  exact hR _ _ _ _ dX7_numberOf_10 rfl hp
theorem c_X7_numberOf (l : Launch) {V : g_V} (hok : g_ok xG V) {t0 : Nat} {a1 : Int} {a2 : Int} {M : g_M} {x : Int} (ht0 : xT t0) (h : m_X7_numberOf t0 a1 a2 M = some x) : MetI xG V l yX7_numberOf cX7_numberOf 3 (some .int) 0 0 [.ref (V.2.2 t0), .int (gI a1), .int (gI a2)] M x M :=
  g_metI hok cal_X7_numberOf.2.2.2 rfl (Nat.le_of_ble_eq_true rfl) (@fun p e R s m args below meth c Q ls C hR hp hl => b_X7_numberOf C hR ht0 h hp hl)
end
