theorem dX7_copy_293 : decode cX7_copy 293 = .ok (.iadd, 1) := by decide +kernel
theorem dX7_copy_294 : decode cX7_copy 294 = .ok (.iaload, 1) := by decide +kernel
theorem dX7_copy_295 : decode cX7_copy 295 = .ok (.iastore, 1) := by decide +kernel
theorem dX7_copy_296 : decode cX7_copy 296 = .ok (.iinc 3 1, 3) := by decide +kernel
theorem dX7_copy_299 : decode cX7_copy 299 = .ok (.goto (-31), 3) := by decide +kernel
theorem dX7_copy_302 : decode cX7_copy 302 = .ok (.return_, 1) := by decide +kernel
theorem dX7_feed_0 : decode cX7_feed 0 = .ok (.aload_n 0, 1) := by decide +kernel
theorem dX7_feed_1 : decode cX7_feed 1 = .ok (.iload_n 1, 1) := by decide +kernel
theorem dX7_feed_2 : decode cX7_feed 2 = .ok (.iconst 0, 1) := by decide +kernel
theorem dX7_feed_3 : decode cX7_feed 3 = .ok (.sipush 255, 3) := by decide +kernel
theorem dX7_feed_6 : decode cX7_feed 6 = .ok (.invokestatic 71, 3) := by decide +kernel
theorem dX7_feed_9 : decode cX7_feed 9 = .ok (.ifCond .eq 7, 3) := by decide +kernel
theorem dX7_feed_12 : decode cX7_feed 12 = .ok (.iconst 0, 1) := by decide +kernel
theorem dX7_feed_13 : decode cX7_feed 13 = .ok (.goto 4, 3) := by decide +kernel
theorem dX7_feed_16 : decode cX7_feed 16 = .ok (.iconst 1, 1) := by decide +kernel
theorem dX7_feed_17 : decode cX7_feed 17 = .ok (.putfield 67, 3) := by decide +kernel
theorem dX7_feed_20 : decode cX7_feed 20 = .ok (.aload_n 0, 1) := by decide +kernel
theorem dX7_feed_21 : decode cX7_feed 21 = .ok (.getfield 67, 3) := by decide +kernel
theorem dX7_feed_24 : decode cX7_feed 24 = .ok (.ifCond .gt 12, 3) := by decide +kernel
theorem dX7_feed_27 : decode cX7_feed 27 = .ok (.aload_n 0, 1) := by decide +kernel
theorem dX7_feed_28 : decode cX7_feed 28 = .ok (.getfield 75, 3) := by decide +kernel
theorem dX7_feed_31 : decode cX7_feed 31 = .ok (.bipush 12, 2) := by decide +kernel
theorem dX7_feed_33 : decode cX7_feed 33 = .ok (.if_icmp .ne 5, 3) := by decide +kernel
theorem dX7_feed_36 : decode cX7_feed 36 = .ok (.iconst 0, 1) := by decide +kernel
theorem dX7_feed_37 : decode cX7_feed 37 = .ok (.ireturn, 1) := by decide +kernel
theorem dX7_feed_38 : decode cX7_feed 38 = .ok (.aload_n 0, 1) := by decide +kernel
theorem dX7_feed_39 : decode cX7_feed 39 = .ok (.getfield 53, 3) := by decide +kernel
theorem dX7_feed_42 : decode cX7_feed 42 = .ok (.aload_n 0, 1) := by decide +kernel
theorem dX7_feed_43 : decode cX7_feed 43 = .ok (.getfield 75, 3) := by decide +kernel
theorem dX7_feed_46 : decode cX7_feed 46 = .ok (.iload_n 1, 1) := by decide +kernel
theorem dX7_feed_47 : decode cX7_feed 47 = .ok (.iastore, 1) := by decide +kernel
theorem dX7_feed_48 : decode cX7_feed 48 = .ok (.aload_n 0, 1) := by decide +kernel
theorem dX7_feed_49 : decode cX7_feed 49 = .ok (.dup, 1) := by decide +kernel
theorem dX7_feed_50 : decode cX7_feed 50 = .ok (.getfield 75, 3) := by decide +kernel
theorem dX7_feed_53 : decode cX7_feed 53 = .ok (.iconst 1, 1) := by decide +kernel
theorem dX7_feed_54 : decode cX7_feed 54 = .ok (.iadd, 1) := by decide +kernel
theorem dX7_feed_55 : decode cX7_feed 55 = .ok (.putfield 75, 3) := by decide +kernel
theorem dX7_feed_58 : decode cX7_feed 58 = .ok (.iconst 1, 1) := by decide +kernel
theorem dX7_feed_59 : decode cX7_feed 59 = .ok (.ireturn, 1) := by decide +kernel
theorem dX7_isAltered_0 : decode cX7_isAltered 0 = .ok (.iconst 0, 1) := by decide +kernel
theorem dX7_isAltered_1 : decode cX7_isAltered 1 = .ok (.istore_n 1, 1) := by decide +kernel
theorem dX7_isAltered_2 : decode cX7_isAltered 2 = .ok (.iconst 0, 1) := by decide +kernel
theorem dX7_isAltered_3 : decode cX7_isAltered 3 = .ok (.istore_n 2, 1) := by decide +kernel
theorem dX7_isAltered_4 : decode cX7_isAltered 4 = .ok (.iload_n 2, 1) := by decide +kernel
theorem dX7_isAltered_5 : decode cX7_isAltered 5 = .ok (.sipush 2560, 3) := by decide +kernel
theorem dX7_isAltered_8 : decode cX7_isAltered 8 = .ok (.if_icmp .ge 28, 3) := by decide +kernel
theorem dX7_isAltered_11 : decode cX7_isAltered 11 = .ok (.iload_n 1, 1) := by decide +kernel
theorem dX7_isAltered_12 : decode cX7_isAltered 12 = .ok (.ifCond .ne 12, 3) := by decide +kernel
theorem dX7_isAltered_15 : decode cX7_isAltered 15 = .ok (.aload_n 0, 1) := by decide +kernel
theorem dX7_isAltered_16 : decode cX7_isAltered 16 = .ok (.getfield 47, 3) := by decide +kernel
theorem dX7_isAltered_19 : decode cX7_isAltered 19 = .ok (.iload_n 2, 1) := by decide +kernel
theorem dX7_isAltered_20 : decode cX7_isAltered 20 = .ok (.iaload, 1) := by decide +kernel
theorem dX7_isAltered_21 : decode cX7_isAltered 21 = .ok (.ifCond .eq 7, 3) := by decide +kernel
theorem dX7_isAltered_24 : decode cX7_isAltered 24 = .ok (.iconst 1, 1) := by decide +kernel
theorem dX7_isAltered_25 : decode cX7_isAltered 25 = .ok (.goto 4, 3) := by decide +kernel
theorem dX7_isAltered_28 : decode cX7_isAltered 28 = .ok (.iconst 0, 1) := by decide +kernel
theorem dX7_isAltered_29 : decode cX7_isAltered 29 = .ok (.istore_n 1, 1) := by decide +kernel
theorem dX7_isAltered_30 : decode cX7_isAltered 30 = .ok (.iinc 2 1, 3) := by decide +kernel
theorem dX7_isAltered_33 : decode cX7_isAltered 33 = .ok (.goto (-29), 3) := by decide +kernel
theorem dX7_isAltered_36 : decode cX7_isAltered 36 = .ok (.iload_n 1, 1) := by decide +kernel
theorem dX7_isAltered_37 : decode cX7_isAltered 37 = .ok (.ireturn, 1) := by decide +kernel
theorem dX7_may_0 : decode cX7_may 0 = .ok (.aload_n 0, 1) := by decide +kernel
theorem dX7_may_1 : decode cX7_may 1 = .ok (.aload_n 0, 1) := by decide +kernel
theorem dX7_may_2 : decode cX7_may 2 = .ok (.getfield 75, 3) := by decide +kernel
theorem dX7_may_5 : decode cX7_may 5 = .ok (.ifCond .eq 10, 3) := by decide +kernel
theorem dX7_may_8 : decode cX7_may 8 = .ok (.aload_n 0, 1) := by decide +kernel
theorem dX7_may_9 : decode cX7_may 9 = .ok (.invokevirtual 78, 3) := by decide +kernel
theorem dX7_may_12 : decode cX7_may 12 = .ok (.ifCond .eq 7, 3) := by decide +kernel
theorem dX7_may_15 : decode cX7_may 15 = .ok (.iconst 1, 1) := by decide +kernel
theorem dX7_may_16 : decode cX7_may 16 = .ok (.goto 4, 3) := by decide +kernel
theorem dX7_may_19 : decode cX7_may 19 = .ok (.iconst 0, 1) := by decide +kernel
theorem dX7_may_20 : decode cX7_may 20 = .ok (.putfield 67, 3) := by decide +kernel
theorem dX7_may_23 : decode cX7_may 23 = .ok (.aload_n 0, 1) := by decide +kernel
theorem dX7_may_24 : decode cX7_may 24 = .ok (.getfield 67, 3) := by decide +kernel
theorem dX7_may_27 : decode cX7_may 27 = .ok (.ifCond .ne 7, 3) := by decide +kernel
theorem dX7_may_30 : decode cX7_may 30 = .ok (.iconst 1, 1) := by decide +kernel
theorem dX7_may_31 : decode cX7_may 31 = .ok (.goto 4, 3) := by decide +kernel
theorem dX7_may_34 : decode cX7_may 34 = .ok (.iconst 0, 1) := by decide +kernel
theorem dX7_may_35 : decode cX7_may 35 = .ok (.ireturn, 1) := by decide +kernel
theorem dX7_hashOf_0 : decode cX7_hashOf 0 = .ok (.iconst 0, 1) := by decide +kernel
theorem dX7_hashOf_1 : decode cX7_hashOf 1 = .ok (.istore_n 1, 1) := by decide +kernel
theorem dX7_hashOf_2 : decode cX7_hashOf 2 = .ok (.iconst 0, 1) := by decide +kernel
theorem dX7_hashOf_3 : decode cX7_hashOf 3 = .ok (.istore_n 2, 1) := by decide +kernel
theorem dX7_hashOf_4 : decode cX7_hashOf 4 = .ok (.iload_n 2, 1) := by decide +kernel
theorem dX7_hashOf_5 : decode cX7_hashOf 5 = .ok (.aload_n 0, 1) := by decide +kernel
theorem dX7_hashOf_6 : decode cX7_hashOf 6 = .ok (.getfield 75, 3) := by decide +kernel
theorem dX7_hashOf_9 : decode cX7_hashOf 9 = .ok (.if_icmp .ge 20, 3) := by decide +kernel
theorem dX7_hashOf_12 : decode cX7_hashOf 12 = .ok (.iload_n 1, 1) := by decide +kernel
theorem dX7_hashOf_13 : decode cX7_hashOf 13 = .ok (.aload_n 0, 1) := by decide +kernel
theorem dX7_hashOf_14 : decode cX7_hashOf 14 = .ok (.getfield 53, 3) := by decide +kernel
theorem dX7_hashOf_17 : decode cX7_hashOf 17 = .ok (.iload_n 2, 1) := by decide +kernel
theorem dX7_hashOf_18 : decode cX7_hashOf 18 = .ok (.iaload, 1) := by decide +kernel
theorem dX7_hashOf_19 : decode cX7_hashOf 19 = .ok (.invokestatic 82, 3) := by decide +kernel
theorem dX7_hashOf_22 : decode cX7_hashOf 22 = .ok (.istore_n 1, 1) := by decide +kernel
theorem dX7_hashOf_23 : decode cX7_hashOf 23 = .ok (.iinc 2 1, 3) := by decide +kernel
theorem dX7_hashOf_26 : decode cX7_hashOf 26 = .ok (.goto (-22), 3) := by decide +kernel
theorem dX7_hashOf_29 : decode cX7_hashOf 29 = .ok (.iload_n 1, 1) := by decide +kernel
theorem dX7_hashOf_30 : decode cX7_hashOf 30 = .ok (.ireturn, 1) := by decide +kernel
theorem dX7_look_0 : decode cX7_look 0 = .ok (.iconst 0, 1) := by decide +kernel
theorem dX7_look_1 : decode cX7_look 1 = .ok (.istore_n 1, 1) := by decide +kernel
theorem dX7_look_2 : decode cX7_look 2 = .ok (.iload_n 1, 1) := by decide +kernel
theorem dX7_look_3 : decode cX7_look 3 = .ok (.aload_n 0, 1) := by decide +kernel
theorem dX7_look_4 : decode cX7_look 4 = .ok (.getfield 7, 3) := by decide +kernel
theorem dX7_look_7 : decode cX7_look 7 = .ok (.iconst 0, 1) := by decide +kernel
theorem dX7_look_8 : decode cX7_look 8 = .ok (.iaload, 1) := by decide +kernel
theorem dX7_look_9 : decode cX7_look 9 = .ok (.if_icmp .ge 80, 3) := by decide +kernel
theorem dX7_look_12 : decode cX7_look 12 = .ok (.aload_n 0, 1) := by decide +kernel
theorem dX7_look_13 : decode cX7_look 13 = .ok (.getfield 13, 3) := by decide +kernel
theorem dX7_look_16 : decode cX7_look 16 = .ok (.iload_n 1, 1) := by decide +kernel
theorem dX7_look_17 : decode cX7_look 17 = .ok (.iaload, 1) := by decide +kernel
theorem dX7_look_18 : decode cX7_look 18 = .ok (.aload_n 0, 1) := by decide +kernel
theorem dX7_look_19 : decode cX7_look 19 = .ok (.getfield 75, 3) := by decide +kernel
theorem dX7_look_22 : decode cX7_look 22 = .ok (.if_icmp .ne 7, 3) := by decide +kernel
theorem dX7_look_25 : decode cX7_look 25 = .ok (.iconst 1, 1) := by decide +kernel
theorem dX7_look_26 : decode cX7_look 26 = .ok (.goto 4, 3) := by decide +kernel
theorem dX7_look_29 : decode cX7_look 29 = .ok (.iconst 0, 1) := by decide +kernel
theorem dX7_look_30 : decode cX7_look 30 = .ok (.istore_n 2, 1) := by decide +kernel
theorem dX7_look_31 : decode cX7_look 31 = .ok (.iconst 0, 1) := by decide +kernel
theorem dX7_look_32 : decode cX7_look 32 = .ok (.istore_n 3, 1) := by decide +kernel
theorem dX7_look_33 : decode cX7_look 33 = .ok (.iload_n 3, 1) := by decide +kernel
theorem dX7_look_34 : decode cX7_look 34 = .ok (.aload_n 0, 1) := by decide +kernel
theorem dX7_look_35 : decode cX7_look 35 = .ok (.getfield 75, 3) := by decide +kernel
theorem dX7_look_38 : decode cX7_look 38 = .ok (.if_icmp .ge 39, 3) := by decide +kernel
theorem dX7_look_41 : decode cX7_look 41 = .ok (.iload_n 2, 1) := by decide +kernel
theorem dX7_look_42 : decode cX7_look 42 = .ok (.ifCond .eq 35, 3) := by decide +kernel
theorem dX7_look_45 : decode cX7_look 45 = .ok (.aload_n 0, 1) := by decide +kernel
theorem dX7_look_46 : decode cX7_look 46 = .ok (.getfield 16, 3) := by decide +kernel
theorem dX7_look_49 : decode cX7_look 49 = .ok (.bipush 12, 2) := by decide +kernel
theorem dX7_look_51 : decode cX7_look 51 = .ok (.iload_n 1, 1) := by decide +kernel
theorem dX7_look_52 : decode cX7_look 52 = .ok (.imul, 1) := by decide +kernel
theorem dX7_look_53 : decode cX7_look 53 = .ok (.iload_n 3, 1) := by decide +kernel
theorem dX7_look_54 : decode cX7_look 54 = .ok (.iadd, 1) := by decide +kernel
theorem dX7_look_55 : decode cX7_look 55 = .ok (.iaload, 1) := by decide +kernel
theorem dX7_look_56 : decode cX7_look 56 = .ok (.aload_n 0, 1) := by decide +kernel
theorem dX7_look_57 : decode cX7_look 57 = .ok (.getfield 53, 3) := by decide +kernel
theorem dX7_look_60 : decode cX7_look 60 = .ok (.iload_n 3, 1) := by decide +kernel
theorem dX7_look_61 : decode cX7_look 61 = .ok (.iaload, 1) := by decide +kernel
theorem dX7_look_62 : decode cX7_look 62 = .ok (.if_icmp .ne 7, 3) := by decide +kernel
theorem dX7_look_65 : decode cX7_look 65 = .ok (.iconst 1, 1) := by decide +kernel
theorem dX7_look_66 : decode cX7_look 66 = .ok (.goto 4, 3) := by decide +kernel
theorem dX7_look_69 : decode cX7_look 69 = .ok (.iconst 0, 1) := by decide +kernel
theorem dX7_look_70 : decode cX7_look 70 = .ok (.istore_n 2, 1) := by decide +kernel
theorem dX7_look_71 : decode cX7_look 71 = .ok (.iinc 3 1, 3) := by decide +kernel
theorem dX7_look_74 : decode cX7_look 74 = .ok (.goto (-41), 3) := by decide +kernel
theorem dX7_look_77 : decode cX7_look 77 = .ok (.iload_n 2, 1) := by decide +kernel
theorem dX7_look_78 : decode cX7_look 78 = .ok (.ifCond .eq 5, 3) := by decide +kernel
theorem dX7_look_81 : decode cX7_look 81 = .ok (.iload_n 1, 1) := by decide +kernel
theorem dX7_look_82 : decode cX7_look 82 = .ok (.ireturn, 1) := by decide +kernel
theorem dX7_look_83 : decode cX7_look 83 = .ok (.iinc 1 1, 3) := by decide +kernel
theorem dX7_look_86 : decode cX7_look 86 = .ok (.goto (-84), 3) := by decide +kernel
theorem dX7_look_89 : decode cX7_look 89 = .ok (.iconst (-1), 1) := by decide +kernel
theorem dX7_look_90 : decode cX7_look 90 = .ok (.ireturn, 1) := by decide +kernel
theorem dX7_length_0 : decode cX7_length 0 = .ok (.iconst 2, 1) := by decide +kernel
theorem dX7_length_1 : decode cX7_length 1 = .ok (.istore_n 2, 1) := by decide +kernel
theorem dX7_length_2 : decode cX7_length 2 = .ok (.iconst 0, 1) := by decide +kernel
theorem dX7_length_3 : decode cX7_length 3 = .ok (.istore_n 3, 1) := by decide +kernel
theorem dX7_length_4 : decode cX7_length 4 = .ok (.iload_n 3, 1) := by decide +kernel
theorem dX7_length_5 : decode cX7_length 5 = .ok (.aload_n 0, 1) := by decide +kernel
theorem dX7_length_6 : decode cX7_length 6 = .ok (.getfield 32, 3) := by decide +kernel
theorem dX7_length_9 : decode cX7_length 9 = .ok (.iload_n 1, 1) := by decide +kernel
theorem dX7_length_10 : decode cX7_length 10 = .ok (.iaload, 1) := by decide +kernel
theorem dX7_length_11 : decode cX7_length 11 = .ok (.if_icmp .ge 30, 3) := by decide +kernel
theorem dX7_length_14 : decode cX7_length 14 = .ok (.iload_n 2, 1) := by decide +kernel
theorem dX7_length_15 : decode cX7_length 15 = .ok (.iconst 5, 1) := by decide +kernel
theorem dX7_length_16 : decode cX7_length 16 = .ok (.aload_n 0, 1) := by decide +kernel
theorem dX7_length_17 : decode cX7_length 17 = .ok (.getfield 13, 3) := by decide +kernel
theorem dX7_length_20 : decode cX7_length 20 = .ok (.aload_n 0, 1) := by decide +kernel
theorem dX7_length_21 : decode cX7_length 21 = .ok (.getfield 35, 3) := by decide +kernel
theorem dX7_length_24 : decode cX7_length 24 = .ok (.bipush 10, 2) := by decide +kernel
theorem dX7_length_26 : decode cX7_length 26 = .ok (.iload_n 1, 1) := by decide +kernel
theorem dX7_length_27 : decode cX7_length 27 = .ok (.imul, 1) := by decide +kernel
theorem dX7_length_28 : decode cX7_length 28 = .ok (.iload_n 3, 1) := by decide +kernel
theorem dX7_length_29 : decode cX7_length 29 = .ok (.iadd, 1) := by decide +kernel
theorem dX7_length_30 : decode cX7_length 30 = .ok (.iaload, 1) := by decide +kernel
theorem dX7_length_31 : decode cX7_length 31 = .ok (.iaload, 1) := by decide +kernel
theorem dX7_length_32 : decode cX7_length 32 = .ok (.iadd, 1) := by decide +kernel
theorem dX7_length_33 : decode cX7_length 33 = .ok (.iadd, 1) := by decide +kernel
theorem dX7_length_34 : decode cX7_length 34 = .ok (.istore_n 2, 1) := by decide +kernel
theorem dX7_length_35 : decode cX7_length 35 = .ok (.iinc 3 1, 3) := by decide +kernel
theorem dX7_length_38 : decode cX7_length 38 = .ok (.goto (-34), 3) := by decide +kernel
theorem dX7_length_41 : decode cX7_length 41 = .ok (.iload_n 2, 1) := by decide +kernel
theorem dX7_length_42 : decode cX7_length 42 = .ok (.ireturn, 1) := by decide +kernel
theorem dX7_comes_0 : decode cX7_comes 0 = .ok (.aload_n 0, 1) := by decide +kernel
theorem dX7_comes_1 : decode cX7_comes 1 = .ok (.invokevirtual 86, 3) := by decide +kernel
theorem dX7_comes_4 : decode cX7_comes 4 = .ok (.istore_n 2, 1) := by decide +kernel
theorem dX7_comes_5 : decode cX7_comes 5 = .ok (.iload_n 2, 1) := by decide +kernel
theorem dX7_comes_6 : decode cX7_comes 6 = .ok (.iconst (-1), 1) := by decide +kernel
theorem dX7_comes_7 : decode cX7_comes 7 = .ok (.if_icmp .eq 22, 3) := by decide +kernel
theorem dX7_comes_10 : decode cX7_comes 10 = .ok (.aload_n 0, 1) := by decide +kernel
theorem dX7_comes_11 : decode cX7_comes 11 = .ok (.getfield 19, 3) := by decide +kernel
theorem dX7_comes_14 : decode cX7_comes 14 = .ok (.iload_n 2, 1) := by decide +kernel
theorem dX7_comes_15 : decode cX7_comes 15 = .ok (.iload_n 1, 1) := by decide +kernel
theorem dX7_comes_16 : decode cX7_comes 16 = .ok (.iastore, 1) := by decide +kernel
theorem dX7_comes_17 : decode cX7_comes 17 = .ok (.aload_n 0, 1) := by decide +kernel
theorem dX7_comes_18 : decode cX7_comes 18 = .ok (.getfield 44, 3) := by decide +kernel
theorem dX7_comes_21 : decode cX7_comes 21 = .ok (.iconst 0, 1) := by decide +kernel
theorem dX7_comes_22 : decode cX7_comes 22 = .ok (.dup2, 1) := by decide +kernel
theorem dX7_comes_23 : decode cX7_comes 23 = .ok (.iaload, 1) := by decide +kernel
theorem dX7_comes_24 : decode cX7_comes 24 = .ok (.iconst 1, 1) := by decide +kernel
theorem dX7_comes_25 : decode cX7_comes 25 = .ok (.iadd, 1) := by decide +kernel
theorem dX7_comes_26 : decode cX7_comes 26 = .ok (.iastore, 1) := by decide +kernel
theorem dX7_comes_27 : decode cX7_comes 27 = .ok (.iconst 1, 1) := by decide +kernel
theorem dX7_comes_28 : decode cX7_comes 28 = .ok (.ireturn, 1) := by decide +kernel
theorem dX7_comes_29 : decode cX7_comes 29 = .ok (.aload_n 0, 1) := by decide +kernel
theorem dX7_comes_30 : decode cX7_comes 30 = .ok (.iconst 2, 1) := by decide +kernel
theorem dX7_comes_31 : decode cX7_comes 31 = .ok (.iconst 0, 1) := by decide +kernel
theorem dX7_comes_32 : decode cX7_comes 32 = .ok (.invokevirtual 63, 3) := by decide +kernel
theorem dX7_comes_35 : decode cX7_comes 35 = .ok (.aload_n 0, 1) := by decide +kernel
theorem dX7_comes_36 : decode cX7_comes 36 = .ok (.getfield 7, 3) := by decide +kernel
theorem dX7_comes_39 : decode cX7_comes 39 = .ok (.iconst 0, 1) := by decide +kernel
theorem dX7_comes_40 : decode cX7_comes 40 = .ok (.iaload, 1) := by decide +kernel
theorem dX7_comes_41 : decode cX7_comes 41 = .ok (.istore_n 2, 1) := by decide +kernel
theorem dX7_comes_42 : decode cX7_comes 42 = .ok (.aload_n 0, 1) := by decide +kernel
theorem dX7_comes_43 : decode cX7_comes 43 = .ok (.getfield 13, 3) := by decide +kernel
theorem dX7_comes_46 : decode cX7_comes 46 = .ok (.iload_n 2, 1) := by decide +kernel
theorem dX7_comes_47 : decode cX7_comes 47 = .ok (.aload_n 0, 1) := by decide +kernel
theorem dX7_comes_48 : decode cX7_comes 48 = .ok (.getfield 75, 3) := by decide +kernel
theorem dX7_comes_51 : decode cX7_comes 51 = .ok (.iastore, 1) := by decide +kernel
theorem dX7_comes_52 : decode cX7_comes 52 = .ok (.iconst 0, 1) := by decide +kernel
theorem dX7_comes_53 : decode cX7_comes 53 = .ok (.istore_n 3, 1) := by decide +kernel
theorem dX7_comes_54 : decode cX7_comes 54 = .ok (.iload_n 3, 1) := by decide +kernel
theorem dX7_comes_55 : decode cX7_comes 55 = .ok (.aload_n 0, 1) := by decide +kernel
theorem dX7_comes_56 : decode cX7_comes 56 = .ok (.getfield 75, 3) := by decide +kernel
theorem dX7_comes_59 : decode cX7_comes 59 = .ok (.if_icmp .ge 26, 3) := by decide +kernel
theorem dX7_comes_62 : decode cX7_comes 62 = .ok (.aload_n 0, 1) := by decide +kernel
theorem dX7_comes_63 : decode cX7_comes 63 = .ok (.getfield 16, 3) := by decide +kernel
theorem dX7_comes_66 : decode cX7_comes 66 = .ok (.bipush 12, 2) := by decide +kernel
theorem dX7_comes_68 : decode cX7_comes 68 = .ok (.iload_n 2, 1) := by decide +kernel
theorem dX7_comes_69 : decode cX7_comes 69 = .ok (.imul, 1) := by decide +kernel
theorem dX7_comes_70 : decode cX7_comes 70 = .ok (.iload_n 3, 1) := by decide +kernel
theorem dX7_comes_71 : decode cX7_comes 71 = .ok (.iadd, 1) := by decide +kernel
theorem dX7_comes_72 : decode cX7_comes 72 = .ok (.aload_n 0, 1) := by decide +kernel
theorem dX7_comes_73 : decode cX7_comes 73 = .ok (.getfield 53, 3) := by decide +kernel
theorem dX7_comes_76 : decode cX7_comes 76 = .ok (.iload_n 3, 1) := by decide +kernel
theorem dX7_comes_77 : decode cX7_comes 77 = .ok (.iaload, 1) := by decide +kernel
theorem dX7_comes_78 : decode cX7_comes 78 = .ok (.iastore, 1) := by decide +kernel
theorem dX7_comes_79 : decode cX7_comes 79 = .ok (.iinc 3 1, 3) := by decide +kernel
theorem dX7_comes_82 : decode cX7_comes 82 = .ok (.goto (-28), 3) := by decide +kernel
theorem dX7_comes_85 : decode cX7_comes 85 = .ok (.aload_n 0, 1) := by decide +kernel
theorem dX7_comes_86 : decode cX7_comes 86 = .ok (.getfield 19, 3) := by decide +kernel
theorem dX7_comes_89 : decode cX7_comes 89 = .ok (.iload_n 2, 1) := by decide +kernel
theorem dX7_comes_90 : decode cX7_comes 90 = .ok (.iload_n 1, 1) := by decide +kernel
theorem dX7_comes_91 : decode cX7_comes 91 = .ok (.iastore, 1) := by decide +kernel
theorem dX7_comes_92 : decode cX7_comes 92 = .ok (.aload_n 0, 1) := by decide +kernel
theorem dX7_comes_93 : decode cX7_comes 93 = .ok (.getfield 22, 3) := by decide +kernel
theorem dX7_comes_96 : decode cX7_comes 96 = .ok (.iload_n 2, 1) := by decide +kernel
theorem dX7_comes_97 : decode cX7_comes 97 = .ok (.aload_n 0, 1) := by decide +kernel
theorem dX7_comes_98 : decode cX7_comes 98 = .ok (.invokevirtual 90, 3) := by decide +kernel
theorem dX7_comes_101 : decode cX7_comes 101 = .ok (.iastore, 1) := by decide +kernel
theorem dX7_comes_102 : decode cX7_comes 102 = .ok (.aload_n 0, 1) := by decide +kernel
theorem dX7_comes_103 : decode cX7_comes 103 = .ok (.getfield 7, 3) := by decide +kernel
theorem dX7_comes_106 : decode cX7_comes 106 = .ok (.iconst 0, 1) := by decide +kernel
theorem dX7_comes_107 : decode cX7_comes 107 = .ok (.dup2, 1) := by decide +kernel
theorem dX7_comes_108 : decode cX7_comes 108 = .ok (.iaload, 1) := by decide +kernel
theorem dX7_comes_109 : decode cX7_comes 109 = .ok (.iconst 1, 1) := by decide +kernel
theorem dX7_comes_110 : decode cX7_comes 110 = .ok (.iadd, 1) := by decide +kernel
theorem dX7_comes_111 : decode cX7_comes 111 = .ok (.iastore, 1) := by decide +kernel
theorem dX7_comes_112 : decode cX7_comes 112 = .ok (.aload_n 0, 1) := by decide +kernel
theorem dX7_comes_113 : decode cX7_comes 113 = .ok (.getfield 41, 3) := by decide +kernel
theorem dX7_comes_116 : decode cX7_comes 116 = .ok (.aload_n 0, 1) := by decide +kernel
theorem dX7_comes_117 : decode cX7_comes 117 = .ok (.getfield 22, 3) := by decide +kernel
theorem dX7_comes_120 : decode cX7_comes 120 = .ok (.iload_n 2, 1) := by decide +kernel
theorem dX7_comes_121 : decode cX7_comes 121 = .ok (.iaload, 1) := by decide +kernel
theorem dX7_comes_122 : decode cX7_comes 122 = .ok (.iconst 1, 1) := by decide +kernel
theorem dX7_comes_123 : decode cX7_comes 123 = .ok (.aload_n 0, 1) := by decide +kernel
theorem dX7_comes_124 : decode cX7_comes 124 = .ok (.getfield 38, 3) := by decide +kernel
theorem dX7_comes_127 : decode cX7_comes 127 = .ok (.iconst 0, 1) := by decide +kernel
theorem dX7_comes_128 : decode cX7_comes 128 = .ok (.iaload, 1) := by decide +kernel
theorem dX7_comes_129 : decode cX7_comes 129 = .ok (.ishl, 1) := by decide +kernel
theorem dX7_comes_130 : decode cX7_comes 130 = .ok (.iconst 1, 1) := by decide +kernel
theorem dX7_comes_131 : decode cX7_comes 131 = .ok (.isub, 1) := by decide +kernel
theorem dX7_comes_132 : decode cX7_comes 132 = .ok (.iand, 1) := by decide +kernel
theorem dX7_comes_133 : decode cX7_comes 133 = .ok (.iaload, 1) := by decide +kernel
theorem dX7_comes_134 : decode cX7_comes 134 = .ok (.istore_n 3, 1) := by decide +kernel
theorem dX7_comes_135 : decode cX7_comes 135 = .ok (.aload_n 0, 1) := by decide +kernel
theorem dX7_comes_136 : decode cX7_comes 136 = .ok (.iload_n 3, 1) := by decide +kernel
theorem dX7_comes_137 : decode cX7_comes 137 = .ok (.invokevirtual 93, 3) := by decide +kernel
theorem dX7_comes_140 : decode cX7_comes 140 = .ok (.iconst 5, 1) := by decide +kernel
theorem dX7_comes_141 : decode cX7_comes 141 = .ok (.iadd, 1) := by decide +kernel
theorem dX7_comes_142 : decode cX7_comes 142 = .ok (.aload_n 0, 1) := by decide +kernel
theorem dX7_comes_143 : decode cX7_comes 143 = .ok (.getfield 75, 3) := by decide +kernel
theorem dX7_comes_146 : decode cX7_comes 146 = .ok (.iadd, 1) := by decide +kernel
theorem dX7_comes_147 : decode cX7_comes 147 = .ok (.bipush 60, 2) := by decide +kernel
theorem dX7_comes_149 : decode cX7_comes 149 = .ok (.if_icmp .le 45, 3) := by decide +kernel
theorem dX7_comes_152 : decode cX7_comes 152 = .ok (.aload_n 0, 1) := by decide +kernel
theorem dX7_comes_153 : decode cX7_comes 153 = .ok (.iload_n 3, 1) := by decide +kernel
theorem dX7_comes_154 : decode cX7_comes 154 = .ok (.invokevirtual 97, 3) := by decide +kernel
theorem dX7_comes_157 : decode cX7_comes 157 = .ok (.ifCond .ne 11, 3) := by decide +kernel
theorem dX7_comes_160 : decode cX7_comes 160 = .ok (.aload_n 0, 1) := by decide +kernel
theorem dX7_comes_161 : decode cX7_comes 161 = .ok (.iconst 0, 1) := by decide +kernel
theorem dX7_comes_162 : decode cX7_comes 162 = .ok (.iconst 2, 1) := by decide +kernel
theorem dX7_comes_163 : decode cX7_comes 163 = .ok (.invokevirtual 63, 3) := by decide +kernel
theorem dX7_comes_166 : decode cX7_comes 166 = .ok (.iconst 0, 1) := by decide +kernel
theorem dX7_comes_167 : decode cX7_comes 167 = .ok (.ireturn, 1) := by decide +kernel
theorem dX7_comes_168 : decode cX7_comes 168 = .ok (.aload_n 0, 1) := by decide +kernel
theorem dX7_comes_169 : decode cX7_comes 169 = .ok (.getfield 41, 3) := by decide +kernel
theorem dX7_comes_172 : decode cX7_comes 172 = .ok (.aload_n 0, 1) := by decide +kernel
theorem dX7_comes_173 : decode cX7_comes 173 = .ok (.getfield 22, 3) := by decide +kernel
theorem dX7_comes_176 : decode cX7_comes 176 = .ok (.iload_n 2, 1) := by decide +kernel
theorem dX7_comes_177 : decode cX7_comes 177 = .ok (.iaload, 1) := by decide +kernel
theorem dX7_comes_178 : decode cX7_comes 178 = .ok (.iconst 1, 1) := by decide +kernel
theorem dX7_comes_179 : decode cX7_comes 179 = .ok (.aload_n 0, 1) := by decide +kernel
theorem dX7_comes_180 : decode cX7_comes 180 = .ok (.getfield 38, 3) := by decide +kernel
theorem dX7_comes_183 : decode cX7_comes 183 = .ok (.iconst 0, 1) := by decide +kernel
theorem dX7_comes_184 : decode cX7_comes 184 = .ok (.iaload, 1) := by decide +kernel
theorem dX7_comes_185 : decode cX7_comes 185 = .ok (.ishl, 1) := by decide +kernel
theorem dX7_comes_186 : decode cX7_comes 186 = .ok (.iconst 1, 1) := by decide +kernel
theorem dX7_comes_187 : decode cX7_comes 187 = .ok (.isub, 1) := by decide +kernel
theorem dX7_comes_188 : decode cX7_comes 188 = .ok (.iand, 1) := by decide +kernel
theorem dX7_comes_189 : decode cX7_comes 189 = .ok (.iaload, 1) := by decide +kernel
theorem dX7_comes_190 : decode cX7_comes 190 = .ok (.istore_n 3, 1) := by decide +kernel
theorem dX7_comes_191 : decode cX7_comes 191 = .ok (.goto (-56), 3) := by decide +kernel
theorem dX7_comes_194 : decode cX7_comes 194 = .ok (.aload_n 0, 1) := by decide +kernel
theorem dX7_comes_195 : decode cX7_comes 195 = .ok (.getfield 35, 3) := by decide +kernel
theorem dX7_comes_198 : decode cX7_comes 198 = .ok (.bipush 10, 2) := by decide +kernel
theorem dX7_comes_200 : decode cX7_comes 200 = .ok (.iload_n 3, 1) := by decide +kernel
theorem dX7_comes_201 : decode cX7_comes 201 = .ok (.imul, 1) := by decide +kernel
theorem dX7_comes_202 : decode cX7_comes 202 = .ok (.aload_n 0, 1) := by decide +kernel
theorem dX7_comes_203 : decode cX7_comes 203 = .ok (.getfield 32, 3) := by decide +kernel
theorem dX7_comes_206 : decode cX7_comes 206 = .ok (.iload_n 3, 1) := by decide +kernel
theorem dX7_comes_207 : decode cX7_comes 207 = .ok (.iaload, 1) := by decide +kernel
theorem dX7_comes_208 : decode cX7_comes 208 = .ok (.iadd, 1) := by decide +kernel
theorem dX7_comes_209 : decode cX7_comes 209 = .ok (.iload_n 2, 1) := by decide +kernel
theorem dX7_comes_210 : decode cX7_comes 210 = .ok (.iastore, 1) := by decide +kernel
theorem dX7_comes_211 : decode cX7_comes 211 = .ok (.aload_n 0, 1) := by decide +kernel
theorem dX7_comes_212 : decode cX7_comes 212 = .ok (.getfield 32, 3) := by decide +kernel
theorem dX7_comes_215 : decode cX7_comes 215 = .ok (.iload_n 3, 1) := by decide +kernel
theorem dX7_comes_216 : decode cX7_comes 216 = .ok (.dup2, 1) := by decide +kernel
theorem dX7_comes_217 : decode cX7_comes 217 = .ok (.iaload, 1) := by decide +kernel
theorem dX7_comes_218 : decode cX7_comes 218 = .ok (.iconst 1, 1) := by decide +kernel
theorem dX7_comes_219 : decode cX7_comes 219 = .ok (.iadd, 1) := by decide +kernel
theorem dX7_comes_220 : decode cX7_comes 220 = .ok (.iastore, 1) := by decide +kernel
theorem dX7_comes_221 : decode cX7_comes 221 = .ok (.aload_n 0, 1) := by decide +kernel
theorem dX7_comes_222 : decode cX7_comes 222 = .ok (.getfield 44, 3) := by decide +kernel
theorem dX7_comes_225 : decode cX7_comes 225 = .ok (.iconst 0, 1) := by decide +kernel
theorem dX7_comes_226 : decode cX7_comes 226 = .ok (.dup2, 1) := by decide +kernel
theorem dX7_comes_227 : decode cX7_comes 227 = .ok (.iaload, 1) := by decide +kernel
theorem dX7_comes_228 : decode cX7_comes 228 = .ok (.iconst 1, 1) := by decide +kernel
theorem dX7_comes_229 : decode cX7_comes 229 = .ok (.iadd, 1) := by decide +kernel
theorem dX7_comes_230 : decode cX7_comes 230 = .ok (.iastore, 1) := by decide +kernel
theorem dX7_comes_231 : decode cX7_comes 231 = .ok (.iconst 1, 1) := by decide +kernel
theorem dX7_comes_232 : decode cX7_comes 232 = .ok (.ireturn, 1) := by decide +kernel
theorem dX7_splits_0 : decode cX7_splits 0 = .ok (.aload_n 0, 1) := by decide +kernel
theorem dX7_splits_1 : decode cX7_splits 1 = .ok (.getfield 25, 3) := by decide +kernel
theorem dX7_splits_4 : decode cX7_splits 4 = .ok (.iload_n 1, 1) := by decide +kernel
theorem dX7_splits_5 : decode cX7_splits 5 = .ok (.iaload, 1) := by decide +kernel
theorem dX7_splits_6 : decode cX7_splits 6 = .ok (.istore_n 2, 1) := by decide +kernel
theorem dX7_splits_7 : decode cX7_splits 7 = .ok (.iload_n 2, 1) := by decide +kernel
theorem dX7_splits_8 : decode cX7_splits 8 = .ok (.aload_n 0, 1) := by decide +kernel
theorem dX7_splits_9 : decode cX7_splits 9 = .ok (.getfield 38, 3) := by decide +kernel
theorem dX7_splits_12 : decode cX7_splits 12 = .ok (.iconst 0, 1) := by decide +kernel
theorem dX7_splits_13 : decode cX7_splits 13 = .ok (.iaload, 1) := by decide +kernel
theorem dX7_splits_14 : decode cX7_splits 14 = .ok (.if_icmp .ne 51, 3) := by decide +kernel
theorem dX7_splits_17 : decode cX7_splits 17 = .ok (.iload_n 2, 1) := by decide +kernel
theorem dX7_splits_18 : decode cX7_splits 18 = .ok (.iconst 5, 1) := by decide +kernel
theorem dX7_splits_19 : decode cX7_splits 19 = .ok (.if_icmp .ne 5, 3) := by decide +kernel
theorem dX7_splits_22 : decode cX7_splits 22 = .ok (.iconst 0, 1) := by decide +kernel
theorem dX7_splits_23 : decode cX7_splits 23 = .ok (.ireturn, 1) := by decide +kernel
theorem dX7_splits_24 : decode cX7_splits 24 = .ok (.iconst 0, 1) := by decide +kernel
theorem dX7_splits_25 : decode cX7_splits 25 = .ok (.istore_n 3, 1) := by decide +kernel
theorem dX7_splits_26 : decode cX7_splits 26 = .ok (.iload_n 3, 1) := by decide +kernel
theorem dX7_splits_27 : decode cX7_splits 27 = .ok (.iconst 1, 1) := by decide +kernel
theorem dX7_splits_28 : decode cX7_splits 28 = .ok (.iload_n 2, 1) := by decide +kernel
theorem dX7_splits_29 : decode cX7_splits 29 = .ok (.ishl, 1) := by decide +kernel
theorem dX7_splits_30 : decode cX7_splits 30 = .ok (.if_icmp .ge 25, 3) := by decide +kernel
theorem dX7_splits_33 : decode cX7_splits 33 = .ok (.aload_n 0, 1) := by decide +kernel
theorem dX7_splits_34 : decode cX7_splits 34 = .ok (.getfield 41, 3) := by decide +kernel
theorem dX7_splits_37 : decode cX7_splits 37 = .ok (.iload_n 3, 1) := by decide +kernel
theorem dX7_splits_38 : decode cX7_splits 38 = .ok (.iconst 1, 1) := by decide +kernel
theorem dX7_splits_39 : decode cX7_splits 39 = .ok (.iload_n 2, 1) := by decide +kernel
theorem dX7_splits_40 : decode cX7_splits 40 = .ok (.ishl, 1) := by decide +kernel
theorem dX7_splits_41 : decode cX7_splits 41 = .ok (.iadd, 1) := by decide +kernel
theorem dX7_splits_42 : decode cX7_splits 42 = .ok (.aload_n 0, 1) := by decide +kernel
theorem dX7_splits_43 : decode cX7_splits 43 = .ok (.getfield 41, 3) := by decide +kernel
theorem dX7_splits_46 : decode cX7_splits 46 = .ok (.iload_n 3, 1) := by decide +kernel
theorem dX7_splits_47 : decode cX7_splits 47 = .ok (.iaload, 1) := by decide +kernel
theorem dX7_splits_48 : decode cX7_splits 48 = .ok (.iastore, 1) := by decide +kernel
theorem dX7_splits_49 : decode cX7_splits 49 = .ok (.iinc 3 1, 3) := by decide +kernel
theorem dX7_splits_52 : decode cX7_splits 52 = .ok (.goto (-26), 3) := by decide +kernel
theorem dX7_splits_55 : decode cX7_splits 55 = .ok (.aload_n 0, 1) := by decide +kernel
theorem dX7_splits_56 : decode cX7_splits 56 = .ok (.getfield 38, 3) := by decide +kernel
theorem dX7_splits_59 : decode cX7_splits 59 = .ok (.iconst 0, 1) := by decide +kernel
theorem dX7_splits_60 : decode cX7_splits 60 = .ok (.dup2, 1) := by decide +kernel
theorem dX7_splits_61 : decode cX7_splits 61 = .ok (.iaload, 1) := by decide +kernel
theorem dX7_splits_62 : decode cX7_splits 62 = .ok (.iconst 1, 1) := by decide +kernel
theorem dX7_splits_63 : decode cX7_splits 63 = .ok (.iadd, 1) := by decide +kernel
theorem dX7_splits_64 : decode cX7_splits 64 = .ok (.iastore, 1) := by decide +kernel
theorem dX7_splits_65 : decode cX7_splits 65 = .ok (.iconst 0, 1) := by decide +kernel
theorem dX7_splits_66 : decode cX7_splits 66 = .ok (.istore_n 3, 1) := by decide +kernel
theorem dX7_splits_67 : decode cX7_splits 67 = .ok (.iload_n 3, 1) := by decide +kernel
theorem dX7_splits_68 : decode cX7_splits 68 = .ok (.aload_n 0, 1) := by decide +kernel
theorem dX7_splits_69 : decode cX7_splits 69 = .ok (.getfield 59, 3) := by decide +kernel
theorem dX7_splits_72 : decode cX7_splits 72 = .ok (.if_icmp .ge 18, 3) := by decide +kernel
theorem dX7_splits_75 : decode cX7_splits 75 = .ok (.aload_n 0, 1) := by decide +kernel
theorem dX7_splits_76 : decode cX7_splits 76 = .ok (.getfield 28, 3) := by decide +kernel
theorem dX7_splits_79 : decode cX7_splits 79 = .ok (.iload_n 3, 1) := by decide +kernel
theorem dX7_splits_80 : decode cX7_splits 80 = .ok (.baload, 1) := by decide +kernel
theorem dX7_splits_81 : decode cX7_splits 81 = .ok (.ifCond .eq 9, 3) := by decide +kernel
theorem dX7_splits_84 : decode cX7_splits 84 = .ok (.iinc 3 1, 3) := by decide +kernel
theorem dX7_splits_87 : decode cX7_splits 87 = .ok (.goto (-20), 3) := by decide +kernel
theorem dX7_splits_90 : decode cX7_splits 90 = .ok (.iload_n 3, 1) := by decide +kernel
theorem dX7_splits_91 : decode cX7_splits 91 = .ok (.aload_n 0, 1) := by decide +kernel
theorem dX7_splits_92 : decode cX7_splits 92 = .ok (.getfield 59, 3) := by decide +kernel
theorem dX7_splits_95 : decode cX7_splits 95 = .ok (.if_icmp .ne 5, 3) := by decide +kernel
theorem dX7_splits_98 : decode cX7_splits 98 = .ok (.iconst 0, 1) := by decide +kernel
theorem dX7_splits_99 : decode cX7_splits 99 = .ok (.ireturn, 1) := by decide +kernel
theorem dX7_splits_100 : decode cX7_splits 100 = .ok (.aload_n 0, 1) := by decide +kernel
theorem dX7_splits_101 : decode cX7_splits 101 = .ok (.getfield 28, 3) := by decide +kernel
theorem dX7_splits_104 : decode cX7_splits 104 = .ok (.iload_n 3, 1) := by decide +kernel
theorem dX7_splits_105 : decode cX7_splits 105 = .ok (.iconst 1, 1) := by decide +kernel
theorem dX7_splits_106 : decode cX7_splits 106 = .ok (.bastore, 1) := by decide +kernel
theorem dX7_splits_107 : decode cX7_splits 107 = .ok (.aload_n 0, 1) := by decide +kernel
theorem dX7_splits_108 : decode cX7_splits 108 = .ok (.getfield 25, 3) := by decide +kernel
theorem dX7_splits_111 : decode cX7_splits 111 = .ok (.iload_n 1, 1) := by decide +kernel
theorem dX7_splits_112 : decode cX7_splits 112 = .ok (.iload_n 2, 1) := by decide +kernel
theorem dX7_splits_113 : decode cX7_splits 113 = .ok (.iconst 1, 1) := by decide +kernel
theorem dX7_splits_114 : decode cX7_splits 114 = .ok (.iadd, 1) := by decide +kernel
theorem dX7_splits_115 : decode cX7_splits 115 = .ok (.iastore, 1) := by decide +kernel
theorem dX7_splits_116 : decode cX7_splits 116 = .ok (.aload_n 0, 1) := by decide +kernel
theorem dX7_splits_117 : decode cX7_splits 117 = .ok (.getfield 25, 3) := by decide +kernel
theorem dX7_splits_120 : decode cX7_splits 120 = .ok (.iload_n 3, 1) := by decide +kernel
theorem dX7_splits_121 : decode cX7_splits 121 = .ok (.iload_n 2, 1) := by decide +kernel
theorem dX7_splits_122 : decode cX7_splits 122 = .ok (.iconst 1, 1) := by decide +kernel
theorem dX7_splits_123 : decode cX7_splits 123 = .ok (.iadd, 1) := by decide +kernel
theorem dX7_splits_124 : decode cX7_splits 124 = .ok (.iastore, 1) := by decide +kernel
theorem dX7_splits_125 : decode cX7_splits 125 = .ok (.iconst 0, 1) := by decide +kernel
theorem dX7_splits_126 : decode cX7_splits 126 = .ok (.istore 4, 2) := by decide +kernel
theorem dX7_splits_128 : decode cX7_splits 128 = .ok (.aload_n 0, 1) := by decide +kernel
theorem dX7_splits_129 : decode cX7_splits 129 = .ok (.getfield 32, 3) := by decide +kernel
theorem dX7_splits_132 : decode cX7_splits 132 = .ok (.iload_n 3, 1) := by decide +kernel
theorem dX7_splits_133 : decode cX7_splits 133 = .ok (.iconst 0, 1) := by decide +kernel
theorem dX7_splits_134 : decode cX7_splits 134 = .ok (.iastore, 1) := by decide +kernel
theorem dX7_splits_135 : decode cX7_splits 135 = .ok (.iconst 0, 1) := by decide +kernel
theorem dX7_splits_136 : decode cX7_splits 136 = .ok (.istore 5, 2) := by decide +kernel
theorem dX7_splits_138 : decode cX7_splits 138 = .ok (.iload 5, 2) := by decide +kernel
theorem dX7_splits_140 : decode cX7_splits 140 = .ok (.aload_n 0, 1) := by decide +kernel
theorem dX7_splits_141 : decode cX7_splits 141 = .ok (.getfield 32, 3) := by decide +kernel
theorem dX7_splits_144 : decode cX7_splits 144 = .ok (.iload_n 1, 1) := by decide +kernel
theorem dX7_splits_145 : decode cX7_splits 145 = .ok (.iaload, 1) := by decide +kernel
theorem dX7_splits_146 : decode cX7_splits 146 = .ok (.if_icmp .ge 86, 3) := by decide +kernel
theorem dX7_splits_149 : decode cX7_splits 149 = .ok (.aload_n 0, 1) := by decide +kernel
theorem dX7_splits_150 : decode cX7_splits 150 = .ok (.getfield 35, 3) := by decide +kernel
theorem dX7_splits_153 : decode cX7_splits 153 = .ok (.bipush 10, 2) := by decide +kernel
theorem dX7_splits_155 : decode cX7_splits 155 = .ok (.iload_n 1, 1) := by decide +kernel
theorem dX7_splits_156 : decode cX7_splits 156 = .ok (.imul, 1) := by decide +kernel
theorem dX7_splits_157 : decode cX7_splits 157 = .ok (.iload 5, 2) := by decide +kernel
theorem dX7_splits_159 : decode cX7_splits 159 = .ok (.iadd, 1) := by decide +kernel
theorem dX7_splits_160 : decode cX7_splits 160 = .ok (.iaload, 1) := by decide +kernel
theorem dX7_splits_161 : decode cX7_splits 161 = .ok (.istore 6, 2) := by decide +kernel
theorem dX7_splits_163 : decode cX7_splits 163 = .ok (.aload_n 0, 1) := by decide +kernel
theorem dX7_splits_164 : decode cX7_splits 164 = .ok (.getfield 22, 3) := by decide +kernel
theorem dX7_splits_167 : decode cX7_splits 167 = .ok (.iload 6, 2) := by decide +kernel
theorem dX7_splits_169 : decode cX7_splits 169 = .ok (.iaload, 1) := by decide +kernel
theorem dX7_splits_170 : decode cX7_splits 170 = .ok (.iload_n 2, 1) := by decide +kernel
theorem dX7_splits_171 : decode cX7_splits 171 = .ok (.ishr, 1) := by decide +kernel
theorem dX7_splits_172 : decode cX7_splits 172 = .ok (.iconst 1, 1) := by decide +kernel
theorem dX7_splits_173 : decode cX7_splits 173 = .ok (.iand, 1) := by decide +kernel
theorem dX7_splits_174 : decode cX7_splits 174 = .ok (.iconst 1, 1) := by decide +kernel
theorem dX7_splits_175 : decode cX7_splits 175 = .ok (.if_icmp .ne 34, 3) := by decide +kernel
theorem dX7_splits_178 : decode cX7_splits 178 = .ok (.aload_n 0, 1) := by decide +kernel
theorem dX7_splits_179 : decode cX7_splits 179 = .ok (.getfield 35, 3) := by decide +kernel
theorem dX7_splits_182 : decode cX7_splits 182 = .ok (.bipush 10, 2) := by decide +kernel
theorem dX7_splits_184 : decode cX7_splits 184 = .ok (.iload_n 3, 1) := by decide +kernel
theorem dX7_splits_185 : decode cX7_splits 185 = .ok (.imul, 1) := by decide +kernel
theorem dX7_splits_186 : decode cX7_splits 186 = .ok (.aload_n 0, 1) := by decide +kernel
theorem dX7_splits_187 : decode cX7_splits 187 = .ok (.getfield 32, 3) := by decide +kernel
theorem dX7_splits_190 : decode cX7_splits 190 = .ok (.iload_n 3, 1) := by decide +kernel
theorem dX7_splits_191 : decode cX7_splits 191 = .ok (.iaload, 1) := by decide +kernel
theorem dX7_splits_192 : decode cX7_splits 192 = .ok (.iadd, 1) := by decide +kernel
theorem dX7_splits_193 : decode cX7_splits 193 = .ok (.iload 6, 2) := by decide +kernel
theorem dX7_splits_195 : decode cX7_splits 195 = .ok (.iastore, 1) := by decide +kernel
theorem dX7_splits_196 : decode cX7_splits 196 = .ok (.aload_n 0, 1) := by decide +kernel
theorem dX7_splits_197 : decode cX7_splits 197 = .ok (.getfield 32, 3) := by decide +kernel
theorem dX7_splits_200 : decode cX7_splits 200 = .ok (.iload_n 3, 1) := by decide +kernel
theorem dX7_splits_201 : decode cX7_splits 201 = .ok (.dup2, 1) := by decide +kernel
theorem dX7_splits_202 : decode cX7_splits 202 = .ok (.iaload, 1) := by decide +kernel
theorem dX7_splits_203 : decode cX7_splits 203 = .ok (.iconst 1, 1) := by decide +kernel
theorem dX7_splits_204 : decode cX7_splits 204 = .ok (.iadd, 1) := by decide +kernel
theorem dX7_splits_205 : decode cX7_splits 205 = .ok (.iastore, 1) := by decide +kernel
theorem dX7_splits_206 : decode cX7_splits 206 = .ok (.goto 20, 3) := by decide +kernel
theorem dX7_splits_209 : decode cX7_splits 209 = .ok (.aload_n 0, 1) := by decide +kernel
theorem dX7_splits_210 : decode cX7_splits 210 = .ok (.getfield 35, 3) := by decide +kernel
theorem dX7_splits_213 : decode cX7_splits 213 = .ok (.bipush 10, 2) := by decide +kernel
theorem dX7_splits_215 : decode cX7_splits 215 = .ok (.iload_n 1, 1) := by decide +kernel
theorem dX7_splits_216 : decode cX7_splits 216 = .ok (.imul, 1) := by decide +kernel
theorem dX7_splits_217 : decode cX7_splits 217 = .ok (.iload 4, 2) := by decide +kernel
theorem dX7_splits_219 : decode cX7_splits 219 = .ok (.iadd, 1) := by decide +kernel
theorem dX7_splits_220 : decode cX7_splits 220 = .ok (.iload 6, 2) := by decide +kernel
theorem dX7_splits_222 : decode cX7_splits 222 = .ok (.iastore, 1) := by decide +kernel
theorem dX7_splits_223 : decode cX7_splits 223 = .ok (.iinc 4 1, 3) := by decide +kernel
theorem dX7_splits_226 : decode cX7_splits 226 = .ok (.iinc 5 1, 3) := by decide +kernel
theorem dX7_splits_229 : decode cX7_splits 229 = .ok (.goto (-91), 3) := by decide +kernel
theorem dX7_splits_232 : decode cX7_splits 232 = .ok (.aload_n 0, 1) := by decide +kernel
theorem dX7_splits_233 : decode cX7_splits 233 = .ok (.getfield 32, 3) := by decide +kernel
theorem dX7_splits_236 : decode cX7_splits 236 = .ok (.iload_n 1, 1) := by decide +kernel
theorem dX7_splits_237 : decode cX7_splits 237 = .ok (.iload 4, 2) := by decide +kernel
theorem dX7_splits_239 : decode cX7_splits 239 = .ok (.iastore, 1) := by decide +kernel
theorem dX7_splits_240 : decode cX7_splits 240 = .ok (.iconst 0, 1) := by decide +kernel
theorem dX7_splits_241 : decode cX7_splits 241 = .ok (.istore 5, 2) := by decide +kernel
theorem dX7_splits_243 : decode cX7_splits 243 = .ok (.iload 5, 2) := by decide +kernel
theorem dX7_splits_245 : decode cX7_splits 245 = .ok (.iconst 1, 1) := by decide +kernel
theorem dX7_splits_246 : decode cX7_splits 246 = .ok (.aload_n 0, 1) := by decide +kernel
theorem dX7_splits_247 : decode cX7_splits 247 = .ok (.getfield 38, 3) := by decide +kernel
theorem dX7_splits_250 : decode cX7_splits 250 = .ok (.iconst 0, 1) := by decide +kernel
theorem dX7_splits_251 : decode cX7_splits 251 = .ok (.iaload, 1) := by decide +kernel
theorem dX7_splits_252 : decode cX7_splits 252 = .ok (.ishl, 1) := by decide +kernel
theorem dX7_splits_253 : decode cX7_splits 253 = .ok (.if_icmp .ge 38, 3) := by decide +kernel
theorem dX7_splits_256 : decode cX7_splits 256 = .ok (.aload_n 0, 1) := by decide +kernel
theorem dX7_splits_257 : decode cX7_splits 257 = .ok (.getfield 41, 3) := by decide +kernel
theorem dX7_splits_260 : decode cX7_splits 260 = .ok (.iload 5, 2) := by decide +kernel
theorem dX7_splits_262 : decode cX7_splits 262 = .ok (.iaload, 1) := by decide +kernel
theorem dX7_splits_263 : decode cX7_splits 263 = .ok (.iload_n 1, 1) := by decide +kernel
theorem dX7_splits_264 : decode cX7_splits 264 = .ok (.if_icmp .ne 21, 3) := by decide +kernel
theorem dX7_splits_267 : decode cX7_splits 267 = .ok (.iload 5, 2) := by decide +kernel
theorem dX7_splits_269 : decode cX7_splits 269 = .ok (.iload_n 2, 1) := by decide +kernel
theorem dX7_splits_270 : decode cX7_splits 270 = .ok (.ishr, 1) := by decide +kernel
theorem dX7_splits_271 : decode cX7_splits 271 = .ok (.iconst 1, 1) := by decide +kernel
theorem dX7_splits_272 : decode cX7_splits 272 = .ok (.iand, 1) := by decide +kernel
theorem dX7_splits_273 : decode cX7_splits 273 = .ok (.iconst 1, 1) := by decide +kernel
theorem dX7_splits_274 : decode cX7_splits 274 = .ok (.if_icmp .ne 11, 3) := by decide +kernel
theorem dX7_splits_277 : decode cX7_splits 277 = .ok (.aload_n 0, 1) := by decide +kernel
theorem dX7_splits_278 : decode cX7_splits 278 = .ok (.getfield 41, 3) := by decide +kernel
theorem dX7_splits_281 : decode cX7_splits 281 = .ok (.iload 5, 2) := by decide +kernel
theorem dX7_splits_283 : decode cX7_splits 283 = .ok (.iload_n 3, 1) := by decide +kernel
theorem dX7_splits_284 : decode cX7_splits 284 = .ok (.iastore, 1) := by decide +kernel
theorem dX7_splits_285 : decode cX7_splits 285 = .ok (.iinc 5 1, 3) := by decide +kernel
theorem dX7_splits_288 : decode cX7_splits 288 = .ok (.goto (-45), 3) := by decide +kernel
theorem dX7_splits_291 : decode cX7_splits 291 = .ok (.iconst 1, 1) := by decide +kernel
theorem dX7_splits_292 : decode cX7_splits 292 = .ok (.ireturn, 1) := by decide +kernel
theorem dX7_write_0 : decode cX7_write 0 = .ok (.aload_n 0, 1) := by decide +kernel
theorem dX7_write_1 : decode cX7_write 1 = .ok (.getfield 50, 3) := by decide +kernel
theorem dX7_write_4 : decode cX7_write 4 = .ok (.aload_n 0, 1) := by decide +kernel
theorem dX7_write_5 : decode cX7_write 5 = .ok (.getfield 101, 3) := by decide +kernel
theorem dX7_write_8 : decode cX7_write 8 = .ok (.iload_n 2, 1) := by decide +kernel
theorem dX7_write_9 : decode cX7_write 9 = .ok (.iastore, 1) := by decide +kernel
theorem dX7_write_10 : decode cX7_write 10 = .ok (.aload_n 0, 1) := by decide +kernel
theorem dX7_write_11 : decode cX7_write 11 = .ok (.dup, 1) := by decide +kernel
theorem dX7_write_12 : decode cX7_write 12 = .ok (.getfield 101, 3) := by decide +kernel
theorem dX7_write_15 : decode cX7_write 15 = .ok (.iconst 1, 1) := by decide +kernel
theorem dX7_write_16 : decode cX7_write 16 = .ok (.iadd, 1) := by decide +kernel
theorem dX7_write_17 : decode cX7_write 17 = .ok (.putfield 101, 3) := by decide +kernel
theorem dX7_write_20 : decode cX7_write 20 = .ok (.iload_n 1, 1) := by decide +kernel
theorem dX7_write_21 : decode cX7_write 21 = .ok (.iload_n 2, 1) := by decide +kernel
theorem dX7_write_22 : decode cX7_write 22 = .ok (.invokestatic 82, 3) := by decide +kernel
theorem dX7_write_25 : decode cX7_write 25 = .ok (.ireturn, 1) := by decide +kernel
theorem dX7_put_0 : decode cX7_put 0 = .ok (.aload_n 0, 1) := by decide +kernel
theorem dX7_put_1 : decode cX7_put 1 = .ok (.invokevirtual 104, 3) := by decide +kernel
theorem dX7_put_4 : decode cX7_put 4 = .ok (.ifCond .ne 5, 3) := by decide +kernel
theorem dX7_put_7 : decode cX7_put 7 = .ok (.iconst 0, 1) := by decide +kernel
theorem dX7_put_8 : decode cX7_put 8 = .ok (.ireturn, 1) := by decide +kernel
theorem dX7_put_9 : decode cX7_put 9 = .ok (.aload_n 0, 1) := by decide +kernel
theorem dX7_put_10 : decode cX7_put 10 = .ok (.getfield 44, 3) := by decide +kernel
theorem dX7_put_13 : decode cX7_put 13 = .ok (.iconst 0, 1) := by decide +kernel
theorem dX7_put_14 : decode cX7_put 14 = .ok (.iaload, 1) := by decide +kernel
theorem dX7_put_15 : decode cX7_put 15 = .ok (.istore_n 2, 1) := by decide +kernel
theorem dX7_put_16 : decode cX7_put 16 = .ok (.aload_n 0, 1) := by decide +kernel
theorem dX7_put_17 : decode cX7_put 17 = .ok (.getfield 101, 3) := by decide +kernel
theorem dX7_put_20 : decode cX7_put 20 = .ok (.aload_n 0, 1) := by decide +kernel
theorem dX7_put_21 : decode cX7_put 21 = .ok (.getfield 75, 3) := by decide +kernel
theorem dX7_put_24 : decode cX7_put 24 = .ok (.iadd, 1) := by decide +kernel
theorem dX7_put_25 : decode cX7_put 25 = .ok (.bipush 6, 2) := by decide +kernel
theorem dX7_put_27 : decode cX7_put 27 = .ok (.iadd, 1) := by decide +kernel
theorem dX7_put_28 : decode cX7_put 28 = .ok (.sipush 600, 3) := by decide +kernel
theorem dX7_put_31 : decode cX7_put 31 = .ok (.if_icmp .le 11, 3) := by decide +kernel
theorem dX7_put_34 : decode cX7_put 34 = .ok (.aload_n 0, 1) := by decide +kernel
theorem dX7_put_35 : decode cX7_put 35 = .ok (.iconst 0, 1) := by decide +kernel
theorem dX7_put_36 : decode cX7_put 36 = .ok (.putfield 75, 3) := by decide +kernel
theorem dX7_put_39 : decode cX7_put 39 = .ok (.bipush (-2), 2) := by decide +kernel
theorem dX7_put_41 : decode cX7_put 41 = .ok (.ireturn, 1) := by decide +kernel
theorem dX7_put_42 : decode cX7_put 42 = .ok (.aload_n 0, 1) := by decide +kernel
theorem dX7_put_43 : decode cX7_put 43 = .ok (.iload_n 1, 1) := by decide +kernel
theorem dX7_put_44 : decode cX7_put 44 = .ok (.invokevirtual 107, 3) := by decide +kernel
theorem dX7_put_47 : decode cX7_put 47 = .ok (.istore_n 3, 1) := by decide +kernel
theorem dX7_put_48 : decode cX7_put 48 = .ok (.iload_n 3, 1) := by decide +kernel
theorem dX7_put_49 : decode cX7_put 49 = .ok (.ifCond .eq 90, 3) := by decide +kernel
theorem dX7_put_52 : decode cX7_put 52 = .ok (.aload_n 0, 1) := by decide +kernel
theorem dX7_put_53 : decode cX7_put 53 = .ok (.iconst 0, 1) := by decide +kernel
theorem dX7_put_54 : decode cX7_put 54 = .ok (.aload_n 0, 1) := by decide +kernel
theorem dX7_put_55 : decode cX7_put 55 = .ok (.getfield 75, 3) := by decide +kernel
theorem dX7_put_58 : decode cX7_put 58 = .ok (.invokevirtual 110, 3) := by decide +kernel
theorem dX7_put_61 : decode cX7_put 61 = .ok (.istore 4, 2) := by decide +kernel
theorem dX7_put_63 : decode cX7_put 63 = .ok (.iconst 0, 1) := by decide +kernel
theorem dX7_put_64 : decode cX7_put 64 = .ok (.istore 5, 2) := by decide +kernel
theorem dX7_put_66 : decode cX7_put 66 = .ok (.iload 5, 2) := by decide +kernel
theorem dX7_put_68 : decode cX7_put 68 = .ok (.aload_n 0, 1) := by decide +kernel
theorem dX7_put_69 : decode cX7_put 69 = .ok (.getfield 75, 3) := by decide +kernel
theorem dX7_put_72 : decode cX7_put 72 = .ok (.if_icmp .ge 24, 3) := by decide +kernel
theorem dX7_put_75 : decode cX7_put 75 = .ok (.aload_n 0, 1) := by decide +kernel
theorem dX7_put_76 : decode cX7_put 76 = .ok (.iload 4, 2) := by decide +kernel
theorem dX7_put_78 : decode cX7_put 78 = .ok (.aload_n 0, 1) := by decide +kernel
theorem dX7_put_79 : decode cX7_put 79 = .ok (.getfield 53, 3) := by decide +kernel
theorem dX7_put_82 : decode cX7_put 82 = .ok (.iload 5, 2) := by decide +kernel
theorem dX7_put_84 : decode cX7_put 84 = .ok (.iaload, 1) := by decide +kernel
theorem dX7_put_85 : decode cX7_put 85 = .ok (.invokevirtual 110, 3) := by decide +kernel
theorem dX7_put_88 : decode cX7_put 88 = .ok (.istore 4, 2) := by decide +kernel
theorem dX7_put_90 : decode cX7_put 90 = .ok (.iinc 5 1, 3) := by decide +kernel
theorem dX7_put_93 : decode cX7_put 93 = .ok (.goto (-27), 3) := by decide +kernel
theorem dX7_put_96 : decode cX7_put 96 = .ok (.bipush 24, 2) := by decide +kernel
theorem dX7_put_98 : decode cX7_put 98 = .ok (.istore 5, 2) := by decide +kernel
theorem dX7_put_100 : decode cX7_put 100 = .ok (.iload 5, 2) := by decide +kernel
theorem dX7_put_102 : decode cX7_put 102 = .ok (.ifCond .lt 25, 3) := by decide +kernel
theorem dX7_put_105 : decode cX7_put 105 = .ok (.aload_n 0, 1) := by decide +kernel
theorem dX7_put_106 : decode cX7_put 106 = .ok (.iload 4, 2) := by decide +kernel
theorem dX7_put_108 : decode cX7_put 108 = .ok (.iload_n 1, 1) := by decide +kernel
theorem dX7_put_109 : decode cX7_put 109 = .ok (.iload 5, 2) := by decide +kernel
theorem dX7_put_111 : decode cX7_put 111 = .ok (.ishr, 1) := by decide +kernel
theorem dX7_put_112 : decode cX7_put 112 = .ok (.sipush 255, 3) := by decide +kernel
theorem dX7_put_115 : decode cX7_put 115 = .ok (.iand, 1) := by decide +kernel
theorem dX7_put_116 : decode cX7_put 116 = .ok (.invokevirtual 110, 3) := by decide +kernel
theorem dX7_put_119 : decode cX7_put 119 = .ok (.istore 4, 2) := by decide +kernel
theorem dX7_put_121 : decode cX7_put 121 = .ok (.iinc 5 (-8), 3) := by decide +kernel
theorem dX7_put_124 : decode cX7_put 124 = .ok (.goto (-24), 3) := by decide +kernel
theorem dX7_put_127 : decode cX7_put 127 = .ok (.aload_n 0, 1) := by decide +kernel
theorem dX7_put_128 : decode cX7_put 128 = .ok (.iconst 0, 1) := by decide +kernel
theorem dX7_put_129 : decode cX7_put 129 = .ok (.iload 4, 2) := by decide +kernel
theorem dX7_put_131 : decode cX7_put 131 = .ok (.sipush 255, 3) := by decide +kernel
theorem dX7_put_134 : decode cX7_put 134 = .ok (.iand, 1) := by decide +kernel
theorem dX7_put_135 : decode cX7_put 135 = .ok (.invokevirtual 110, 3) := by decide +kernel
theorem dX7_put_138 : decode cX7_put 138 = .ok (.pop, 1) := by decide +kernel
theorem dX7_put_139 : decode cX7_put 139 = .ok (.aload_n 0, 1) := by decide +kernel
theorem dX7_put_140 : decode cX7_put 140 = .ok (.iconst 0, 1) := by decide +kernel
theorem dX7_put_141 : decode cX7_put 141 = .ok (.putfield 75, 3) := by decide +kernel
theorem dX7_put_144 : decode cX7_put 144 = .ok (.iload_n 3, 1) := by decide +kernel
theorem dX7_put_145 : decode cX7_put 145 = .ok (.ifCond .eq 7, 3) := by decide +kernel
theorem dX7_put_148 : decode cX7_put 148 = .ok (.iload_n 2, 1) := by decide +kernel
theorem dX7_put_149 : decode cX7_put 149 = .ok (.goto 4, 3) := by decide +kernel
theorem dX7_put_152 : decode cX7_put 152 = .ok (.iconst (-1), 1) := by decide +kernel
theorem dX7_put_153 : decode cX7_put 153 = .ok (.ireturn, 1) := by decide +kernel
theorem dX7_has_0 : decode cX7_has 0 = .ok (.aload_n 0, 1) := by decide +kernel
theorem dX7_has_1 : decode cX7_has 1 = .ok (.invokevirtual 104, 3) := by decide +kernel
theorem dX7_has_4 : decode cX7_has 4 = .ok (.ifCond .ne 5, 3) := by decide +kernel
theorem dX7_has_7 : decode cX7_has 7 = .ok (.iconst 0, 1) := by decide +kernel
theorem dX7_has_8 : decode cX7_has 8 = .ok (.ireturn, 1) := by decide +kernel
theorem dX7_has_9 : decode cX7_has 9 = .ok (.aload_n 0, 1) := by decide +kernel
theorem dX7_has_10 : decode cX7_has 10 = .ok (.invokevirtual 86, 3) := by decide +kernel
theorem dX7_has_13 : decode cX7_has 13 = .ok (.iconst (-1), 1) := by decide +kernel
theorem dX7_has_14 : decode cX7_has 14 = .ok (.if_icmp .eq 7, 3) := by decide +kernel
theorem dX7_has_17 : decode cX7_has 17 = .ok (.iconst 1, 1) := by decide +kernel
theorem dX7_has_18 : decode cX7_has 18 = .ok (.goto 4, 3) := by decide +kernel
theorem dX7_has_21 : decode cX7_has 21 = .ok (.iconst 0, 1) := by decide +kernel
theorem dX7_has_22 : decode cX7_has 22 = .ok (.istore_n 1, 1) := by decide +kernel
theorem dX7_has_23 : decode cX7_has 23 = .ok (.aload_n 0, 1) := by decide +kernel
theorem dX7_has_24 : decode cX7_has 24 = .ok (.iconst 0, 1) := by decide +kernel
theorem dX7_has_25 : decode cX7_has 25 = .ok (.putfield 75, 3) := by decide +kernel
theorem dX7_has_28 : decode cX7_has 28 = .ok (.iload_n 1, 1) := by decide +kernel
theorem dX7_has_29 : decode cX7_has 29 = .ok (.ireturn, 1) := by decide +kernel
theorem dX7_find_0 : decode cX7_find 0 = .ok (.aload_n 0, 1) := by decide +kernel
theorem dX7_find_1 : decode cX7_find 1 = .ok (.invokevirtual 104, 3) := by decide +kernel
theorem dX7_find_4 : decode cX7_find 4 = .ok (.ifCond .ne 5, 3) := by decide +kernel
theorem dX7_find_7 : decode cX7_find 7 = .ok (.iconst 0, 1) := by decide +kernel
theorem dX7_find_8 : decode cX7_find 8 = .ok (.ireturn, 1) := by decide +kernel
theorem dX7_find_9 : decode cX7_find 9 = .ok (.aload_n 0, 1) := by decide +kernel
theorem dX7_find_10 : decode cX7_find 10 = .ok (.invokevirtual 86, 3) := by decide +kernel
theorem dX7_find_13 : decode cX7_find 13 = .ok (.istore_n 1, 1) := by decide +kernel
theorem dX7_find_14 : decode cX7_find 14 = .ok (.aload_n 0, 1) := by decide +kernel
theorem dX7_find_15 : decode cX7_find 15 = .ok (.iconst 0, 1) := by decide +kernel
theorem dX7_find_16 : decode cX7_find 16 = .ok (.putfield 75, 3) := by decide +kernel
theorem dX7_find_19 : decode cX7_find 19 = .ok (.iload_n 1, 1) := by decide +kernel
theorem dX7_find_20 : decode cX7_find 20 = .ok (.iconst (-1), 1) := by decide +kernel
theorem dX7_find_21 : decode cX7_find 21 = .ok (.if_icmp .ne 7, 3) := by decide +kernel
theorem dX7_find_24 : decode cX7_find 24 = .ok (.iconst 0, 1) := by decide +kernel
theorem dX7_find_25 : decode cX7_find 25 = .ok (.goto 9, 3) := by decide +kernel
theorem dX7_find_28 : decode cX7_find 28 = .ok (.aload_n 0, 1) := by decide +kernel
theorem dX7_find_29 : decode cX7_find 29 = .ok (.getfield 19, 3) := by decide +kernel
theorem dX7_find_32 : decode cX7_find 32 = .ok (.iload_n 1, 1) := by decide +kernel
theorem dX7_find_33 : decode cX7_find 33 = .ok (.iaload, 1) := by decide +kernel
theorem dX7_find_34 : decode cX7_find 34 = .ok (.ireturn, 1) := by decide +kernel
theorem dX7_save_0 : decode cX7_save 0 = .ok (.aload_n 0, 1) := by decide +kernel
theorem dX7_save_1 : decode cX7_save 1 = .ok (.aload_n 0, 1) := by decide +kernel
theorem dX7_save_2 : decode cX7_save 2 = .ok (.invokevirtual 78, 3) := by decide +kernel
theorem dX7_save_5 : decode cX7_save 5 = .ok (.ifCond .eq 7, 3) := by decide +kernel
theorem dX7_save_8 : decode cX7_save 8 = .ok (.iconst 1, 1) := by decide +kernel
theorem dX7_save_9 : decode cX7_save 9 = .ok (.goto 4, 3) := by decide +kernel
theorem dX7_save_12 : decode cX7_save 12 = .ok (.iconst 0, 1) := by decide +kernel
theorem dX7_save_13 : decode cX7_save 13 = .ok (.putfield 67, 3) := by decide +kernel
theorem dX7_save_16 : decode cX7_save 16 = .ok (.aload_n 0, 1) := by decide +kernel
theorem dX7_save_17 : decode cX7_save 17 = .ok (.getfield 67, 3) := by decide +kernel
theorem dX7_save_20 : decode cX7_save 20 = .ok (.ifCond .le 5, 3) := by decide +kernel
theorem dX7_save_23 : decode cX7_save 23 = .ok (.iconst 0, 1) := by decide +kernel
theorem dX7_save_24 : decode cX7_save 24 = .ok (.ireturn, 1) := by decide +kernel
theorem dX7_save_25 : decode cX7_save 25 = .ok (.aload_n 0, 1) := by decide +kernel
theorem dX7_save_26 : decode cX7_save 26 = .ok (.iconst 1, 1) := by decide +kernel
theorem dX7_save_27 : decode cX7_save 27 = .ok (.iconst 0, 1) := by decide +kernel
theorem dX7_save_28 : decode cX7_save 28 = .ok (.invokevirtual 63, 3) := by decide +kernel
theorem dX7_save_31 : decode cX7_save 31 = .ok (.aload_n 0, 1) := by decide +kernel
theorem dX7_save_32 : decode cX7_save 32 = .ok (.iconst 0, 1) := by decide +kernel
theorem dX7_save_33 : decode cX7_save 33 = .ok (.putfield 101, 3) := by decide +kernel
theorem dX7_save_36 : decode cX7_save 36 = .ok (.aload_n 0, 1) := by decide +kernel
theorem dX7_save_37 : decode cX7_save 37 = .ok (.getfield 44, 3) := by decide +kernel
theorem dX7_save_40 : decode cX7_save 40 = .ok (.iconst 0, 1) := by decide +kernel
theorem dX7_save_41 : decode cX7_save 41 = .ok (.iaload, 1) := by decide +kernel
theorem dX7_save_42 : decode cX7_save 42 = .ok (.ireturn, 1) := by decide +kernel
theorem dX7_crash_0 : decode cX7_crash 0 = .ok (.aload_n 0, 1) := by decide +kernel
theorem dX7_crash_1 : decode cX7_crash 1 = .ok (.iload_n 1, 1) := by decide +kernel
theorem dX7_crash_2 : decode cX7_crash 2 = .ok (.iconst 0, 1) := by decide +kernel
theorem dX7_crash_3 : decode cX7_crash 3 = .ok (.aload_n 0, 1) := by decide +kernel
theorem dX7_crash_4 : decode cX7_crash 4 = .ok (.getfield 101, 3) := by decide +kernel
theorem dX7_crash_7 : decode cX7_crash 7 = .ok (.invokestatic 71, 3) := by decide +kernel
theorem dX7_crash_10 : decode cX7_crash 10 = .ok (.ifCond .eq 7, 3) := by decide +kernel
theorem dX7_crash_13 : decode cX7_crash 13 = .ok (.iconst 0, 1) := by decide +kernel
theorem dX7_crash_14 : decode cX7_crash 14 = .ok (.goto 4, 3) := by decide +kernel
theorem dX7_crash_17 : decode cX7_crash 17 = .ok (.iconst 1, 1) := by decide +kernel
theorem dX7_crash_18 : decode cX7_crash 18 = .ok (.putfield 67, 3) := by decide +kernel
theorem dX7_crash_21 : decode cX7_crash 21 = .ok (.aload_n 0, 1) := by decide +kernel
theorem dX7_crash_22 : decode cX7_crash 22 = .ok (.getfield 67, 3) := by decide +kernel
theorem dX7_crash_25 : decode cX7_crash 25 = .ok (.ifCond .le 5, 3) := by decide +kernel
theorem dX7_crash_28 : decode cX7_crash 28 = .ok (.iconst 0, 1) := by decide +kernel
theorem dX7_crash_29 : decode cX7_crash 29 = .ok (.ireturn, 1) := by decide +kernel
theorem dX7_crash_30 : decode cX7_crash 30 = .ok (.aload_n 0, 1) := by decide +kernel
theorem dX7_crash_31 : decode cX7_crash 31 = .ok (.iconst 0, 1) := by decide +kernel
theorem dX7_crash_32 : decode cX7_crash 32 = .ok (.iconst 1, 1) := by decide +kernel
theorem dX7_crash_33 : decode cX7_crash 33 = .ok (.invokevirtual 63, 3) := by decide +kernel
theorem dX7_crash_36 : decode cX7_crash 36 = .ok (.iconst 0, 1) := by decide +kernel
theorem dX7_crash_37 : decode cX7_crash 37 = .ok (.istore_n 2, 1) := by decide +kernel
theorem dX7_crash_38 : decode cX7_crash 38 = .ok (.iload_n 2, 1) := by decide +kernel
theorem dX7_crash_39 : decode cX7_crash 39 = .ok (.sipush 2560, 3) := by decide +kernel
theorem dX7_crash_42 : decode cX7_crash 42 = .ok (.if_icmp .ge 16, 3) := by decide +kernel
theorem dX7_crash_45 : decode cX7_crash 45 = .ok (.aload_n 0, 1) := by decide +kernel
theorem dX7_crash_46 : decode cX7_crash 46 = .ok (.getfield 47, 3) := by decide +kernel
theorem dX7_crash_49 : decode cX7_crash 49 = .ok (.iload_n 2, 1) := by decide +kernel
theorem dX7_crash_50 : decode cX7_crash 50 = .ok (.iconst 0, 1) := by decide +kernel
theorem dX7_crash_51 : decode cX7_crash 51 = .ok (.iastore, 1) := by decide +kernel
theorem dX7_crash_52 : decode cX7_crash 52 = .ok (.iinc 2 1, 3) := by decide +kernel
theorem dX7_crash_55 : decode cX7_crash 55 = .ok (.goto (-17), 3) := by decide +kernel
theorem dX7_crash_58 : decode cX7_crash 58 = .ok (.iconst 0, 1) := by decide +kernel
theorem dX7_crash_59 : decode cX7_crash 59 = .ok (.istore_n 2, 1) := by decide +kernel
theorem dX7_crash_60 : decode cX7_crash 60 = .ok (.iconst 1, 1) := by decide +kernel
theorem dX7_crash_61 : decode cX7_crash 61 = .ok (.istore_n 3, 1) := by decide +kernel
theorem dX7_crash_62 : decode cX7_crash 62 = .ok (.iload_n 3, 1) := by decide +kernel
theorem dX7_crash_63 : decode cX7_crash 63 = .ok (.ifCond .eq 33, 3) := by decide +kernel
theorem dX7_crash_66 : decode cX7_crash 66 = .ok (.aload_n 0, 1) := by decide +kernel
theorem dX7_crash_67 : decode cX7_crash 67 = .ok (.iload_n 2, 1) := by decide +kernel
theorem dX7_crash_68 : decode cX7_crash 68 = .ok (.iload_n 1, 1) := by decide +kernel
theorem dX7_crash_69 : decode cX7_crash 69 = .ok (.invokevirtual 113, 3) := by decide +kernel
theorem dX7_crash_72 : decode cX7_crash 72 = .ok (.istore_n 3, 1) := by decide +kernel
theorem dX7_crash_73 : decode cX7_crash 73 = .ok (.iload_n 2, 1) := by decide +kernel
theorem dX7_crash_74 : decode cX7_crash 74 = .ok (.iload_n 3, 1) := by decide +kernel
theorem dX7_crash_75 : decode cX7_crash 75 = .ok (.ifCond .eq 15, 3) := by decide +kernel
theorem dX7_crash_78 : decode cX7_crash 78 = .ok (.aload_n 0, 1) := by decide +kernel
theorem dX7_crash_79 : decode cX7_crash 79 = .ok (.getfield 50, 3) := by decide +kernel
theorem dX7_crash_82 : decode cX7_crash 82 = .ok (.iload_n 2, 1) := by decide +kernel
theorem dX7_crash_83 : decode cX7_crash 83 = .ok (.iaload, 1) := by decide +kernel
theorem dX7_crash_84 : decode cX7_crash 84 = .ok (.bipush 6, 2) := by decide +kernel
theorem dX7_crash_86 : decode cX7_crash 86 = .ok (.iadd, 1) := by decide +kernel
theorem dX7_crash_87 : decode cX7_crash 87 = .ok (.goto 4, 3) := by decide +kernel
theorem dX7_crash_90 : decode cX7_crash 90 = .ok (.iconst 0, 1) := by decide +kernel
theorem dX7_crash_91 : decode cX7_crash 91 = .ok (.iadd, 1) := by decide +kernel
theorem dX7_crash_92 : decode cX7_crash 92 = .ok (.istore_n 2, 1) := by decide +kernel
theorem dX7_crash_93 : decode cX7_crash 93 = .ok (.goto (-31), 3) := by decide +kernel
theorem dX7_crash_96 : decode cX7_crash 96 = .ok (.aload_n 0, 1) := by decide +kernel
theorem dX7_crash_97 : decode cX7_crash 97 = .ok (.iload_n 2, 1) := by decide +kernel
theorem dX7_crash_98 : decode cX7_crash 98 = .ok (.putfield 101, 3) := by decide +kernel
theorem dX7_crash_101 : decode cX7_crash 101 = .ok (.aload_n 0, 1) := by decide +kernel
theorem dX7_crash_102 : decode cX7_crash 102 = .ok (.iconst 0, 1) := by decide +kernel
theorem dX7_crash_103 : decode cX7_crash 103 = .ok (.putfield 75, 3) := by decide +kernel
theorem dX7_crash_106 : decode cX7_crash 106 = .ok (.aload_n 0, 1) := by decide +kernel
theorem dX7_crash_107 : decode cX7_crash 107 = .ok (.getfield 44, 3) := by decide +kernel
theorem dX7_crash_110 : decode cX7_crash 110 = .ok (.iconst 0, 1) := by decide +kernel
theorem dX7_crash_111 : decode cX7_crash 111 = .ok (.iaload, 1) := by decide +kernel
theorem dX7_crash_112 : decode cX7_crash 112 = .ok (.ireturn, 1) := by decide +kernel
theorem dX7_replays_0 : decode cX7_replays 0 = .ok (.iload_n 1, 1) := by decide +kernel
theorem dX7_replays_1 : decode cX7_replays 1 = .ok (.iload_n 2, 1) := by decide +kernel
theorem dX7_replays_2 : decode cX7_replays 2 = .ok (.if_icmp .lt 5, 3) := by decide +kernel
theorem dX7_replays_5 : decode cX7_replays 5 = .ok (.iconst 0, 1) := by decide +kernel
theorem dX7_replays_6 : decode cX7_replays 6 = .ok (.ireturn, 1) := by decide +kernel
theorem dX7_replays_7 : decode cX7_replays 7 = .ok (.aload_n 0, 1) := by decide +kernel
theorem dX7_replays_8 : decode cX7_replays 8 = .ok (.getfield 50, 3) := by decide +kernel
theorem dX7_replays_11 : decode cX7_replays 11 = .ok (.iload_n 1, 1) := by decide +kernel
theorem dX7_replays_12 : decode cX7_replays 12 = .ok (.iaload, 1) := by decide +kernel
theorem dX7_replays_13 : decode cX7_replays 13 = .ok (.istore_n 3, 1) := by decide +kernel
theorem dX7_replays_14 : decode cX7_replays 14 = .ok (.iload_n 3, 1) := by decide +kernel
theorem dX7_replays_15 : decode cX7_replays 15 = .ok (.iconst 1, 1) := by decide +kernel
theorem dX7_replays_16 : decode cX7_replays 16 = .ok (.bipush 12, 2) := by decide +kernel
theorem dX7_replays_18 : decode cX7_replays 18 = .ok (.invokestatic 71, 3) := by decide +kernel
theorem dX7_replays_21 : decode cX7_replays 21 = .ok (.ifCond .eq 13, 3) := by decide +kernel
theorem dX7_replays_24 : decode cX7_replays 24 = .ok (.iload_n 1, 1) := by decide +kernel
theorem dX7_replays_25 : decode cX7_replays 25 = .ok (.iload_n 3, 1) := by decide +kernel
theorem dX7_replays_26 : decode cX7_replays 26 = .ok (.iadd, 1) := by decide +kernel
theorem dX7_replays_27 : decode cX7_replays 27 = .ok (.bipush 6, 2) := by decide +kernel
theorem dX7_replays_29 : decode cX7_replays 29 = .ok (.iadd, 1) := by decide +kernel
theorem dX7_replays_30 : decode cX7_replays 30 = .ok (.iload_n 2, 1) := by decide +kernel
theorem dX7_replays_31 : decode cX7_replays 31 = .ok (.if_icmp .le 5, 3) := by decide +kernel
theorem dX7_replays_34 : decode cX7_replays 34 = .ok (.iconst 0, 1) := by decide +kernel
theorem dX7_replays_35 : decode cX7_replays 35 = .ok (.ireturn, 1) := by decide +kernel
theorem dX7_replays_36 : decode cX7_replays 36 = .ok (.iconst 0, 1) := by decide +kernel
theorem dX7_replays_37 : decode cX7_replays 37 = .ok (.istore 4, 2) := by decide +kernel
theorem dX7_replays_39 : decode cX7_replays 39 = .ok (.iload_n 1, 1) := by decide +kernel
theorem dX7_replays_40 : decode cX7_replays 40 = .ok (.istore 5, 2) := by decide +kernel
theorem dX7_replays_42 : decode cX7_replays 42 = .ok (.iload 5, 2) := by decide +kernel
theorem dX7_replays_44 : decode cX7_replays 44 = .ok (.iload_n 1, 1) := by decide +kernel
theorem dX7_replays_45 : decode cX7_replays 45 = .ok (.iload_n 3, 1) := by decide +kernel
theorem dX7_replays_46 : decode cX7_replays 46 = .ok (.iadd, 1) := by decide +kernel
theorem dX7_replays_47 : decode cX7_replays 47 = .ok (.iconst 5, 1) := by decide +kernel
theorem dX7_replays_48 : decode cX7_replays 48 = .ok (.iadd, 1) := by decide +kernel
theorem dX7_replays_49 : decode cX7_replays 49 = .ok (.if_icmp .ge 23, 3) := by decide +kernel
theorem dX7_replays_52 : decode cX7_replays 52 = .ok (.iload 4, 2) := by decide +kernel
theorem dX7_replays_54 : decode cX7_replays 54 = .ok (.aload_n 0, 1) := by decide +kernel
theorem dX7_replays_55 : decode cX7_replays 55 = .ok (.getfield 50, 3) := by decide +kernel
theorem dX7_replays_58 : decode cX7_replays 58 = .ok (.iload 5, 2) := by decide +kernel
theorem dX7_replays_60 : decode cX7_replays 60 = .ok (.iaload, 1) := by decide +kernel
theorem dX7_replays_61 : decode cX7_replays 61 = .ok (.invokestatic 82, 3) := by decide +kernel
theorem dX7_replays_64 : decode cX7_replays 64 = .ok (.istore 4, 2) := by decide +kernel
theorem dX7_replays_66 : decode cX7_replays 66 = .ok (.iinc 5 1, 3) := by decide +kernel
theorem dX7_replays_69 : decode cX7_replays 69 = .ok (.goto (-27), 3) := by decide +kernel
theorem dX7_replays_72 : decode cX7_replays 72 = .ok (.iload 4, 2) := by decide +kernel
theorem dX7_replays_74 : decode cX7_replays 74 = .ok (.sipush 255, 3) := by decide +kernel
theorem dX7_replays_77 : decode cX7_replays 77 = .ok (.iand, 1) := by decide +kernel
theorem dX7_replays_78 : decode cX7_replays 78 = .ok (.aload_n 0, 1) := by decide +kernel
theorem dX7_replays_79 : decode cX7_replays 79 = .ok (.getfield 50, 3) := by decide +kernel
theorem dX7_replays_82 : decode cX7_replays 82 = .ok (.iload_n 1, 1) := by decide +kernel
theorem dX7_replays_83 : decode cX7_replays 83 = .ok (.iload_n 3, 1) := by decide +kernel
theorem dX7_replays_84 : decode cX7_replays 84 = .ok (.iadd, 1) := by decide +kernel
theorem dX7_replays_85 : decode cX7_replays 85 = .ok (.iconst 5, 1) := by decide +kernel
theorem dX7_replays_86 : decode cX7_replays 86 = .ok (.iadd, 1) := by decide +kernel
theorem dX7_replays_87 : decode cX7_replays 87 = .ok (.iaload, 1) := by decide +kernel
theorem dX7_replays_88 : decode cX7_replays 88 = .ok (.if_icmp .eq 5, 3) := by decide +kernel
theorem dX7_replays_91 : decode cX7_replays 91 = .ok (.iconst 0, 1) := by decide +kernel
theorem dX7_replays_92 : decode cX7_replays 92 = .ok (.ireturn, 1) := by decide +kernel
theorem dX7_replays_93 : decode cX7_replays 93 = .ok (.aload_n 0, 1) := by decide +kernel
theorem dX7_replays_94 : decode cX7_replays 94 = .ok (.iload_n 3, 1) := by decide +kernel
theorem dX7_replays_95 : decode cX7_replays 95 = .ok (.putfield 75, 3) := by decide +kernel
theorem dX7_replays_98 : decode cX7_replays 98 = .ok (.iconst 0, 1) := by decide +kernel
theorem dX7_replays_99 : decode cX7_replays 99 = .ok (.istore 5, 2) := by decide +kernel
theorem dX7_replays_101 : decode cX7_replays 101 = .ok (.iload 5, 2) := by decide +kernel
theorem dX7_replays_103 : decode cX7_replays 103 = .ok (.iload_n 3, 1) := by decide +kernel
theorem dX7_replays_104 : decode cX7_replays 104 = .ok (.if_icmp .ge 27, 3) := by decide +kernel
theorem dX7_replays_107 : decode cX7_replays 107 = .ok (.aload_n 0, 1) := by decide +kernel
theorem dX7_replays_108 : decode cX7_replays 108 = .ok (.getfield 53, 3) := by decide +kernel
theorem dX7_replays_111 : decode cX7_replays 111 = .ok (.iload 5, 2) := by decide +kernel
theorem dX7_replays_113 : decode cX7_replays 113 = .ok (.aload_n 0, 1) := by decide +kernel
theorem dX7_replays_114 : decode cX7_replays 114 = .ok (.getfield 50, 3) := by decide +kernel
theorem dX7_replays_117 : decode cX7_replays 117 = .ok (.iload_n 1, 1) := by decide +kernel
theorem dX7_replays_118 : decode cX7_replays 118 = .ok (.iconst 1, 1) := by decide +kernel
theorem dX7_replays_119 : decode cX7_replays 119 = .ok (.iadd, 1) := by decide +kernel
theorem dX7_replays_120 : decode cX7_replays 120 = .ok (.iload 5, 2) := by decide +kernel
theorem dX7_replays_122 : decode cX7_replays 122 = .ok (.iadd, 1) := by decide +kernel
theorem dX7_replays_123 : decode cX7_replays 123 = .ok (.iaload, 1) := by decide +kernel
theorem dX7_replays_124 : decode cX7_replays 124 = .ok (.iastore, 1) := by decide +kernel
theorem dX7_replays_125 : decode cX7_replays 125 = .ok (.iinc 5 1, 3) := by decide +kernel
theorem dX7_replays_128 : decode cX7_replays 128 = .ok (.goto (-27), 3) := by decide +kernel
theorem dX7_replays_131 : decode cX7_replays 131 = .ok (.iconst 0, 1) := by decide +kernel
theorem dX7_replays_132 : decode cX7_replays 132 = .ok (.istore 5, 2) := by decide +kernel
theorem dX7_replays_134 : decode cX7_replays 134 = .ok (.iconst 0, 1) := by decide +kernel
theorem dX7_replays_135 : decode cX7_replays 135 = .ok (.istore 6, 2) := by decide +kernel
theorem dX7_replays_137 : decode cX7_replays 137 = .ok (.iload 6, 2) := by decide +kernel
theorem dX7_replays_139 : decode cX7_replays 139 = .ok (.iconst 4, 1) := by decide +kernel
theorem dX7_replays_140 : decode cX7_replays 140 = .ok (.if_icmp .ge 30, 3) := by decide +kernel
theorem dX7_replays_143 : decode cX7_replays 143 = .ok (.iload 5, 2) := by decide +kernel
theorem dX7_replays_145 : decode cX7_replays 145 = .ok (.bipush 8, 2) := by decide +kernel
theorem dX7_replays_147 : decode cX7_replays 147 = .ok (.ishl, 1) := by decide +kernel
theorem dX7_replays_148 : decode cX7_replays 148 = .ok (.aload_n 0, 1) := by decide +kernel
theorem dX7_replays_149 : decode cX7_replays 149 = .ok (.getfield 50, 3) := by decide +kernel
theorem dX7_replays_152 : decode cX7_replays 152 = .ok (.iload_n 1, 1) := by decide +kernel
theorem dX7_replays_153 : decode cX7_replays 153 = .ok (.iconst 1, 1) := by decide +kernel
theorem dX7_replays_154 : decode cX7_replays 154 = .ok (.iadd, 1) := by decide +kernel
theorem dX7_replays_155 : decode cX7_replays 155 = .ok (.iload_n 3, 1) := by decide +kernel
theorem dX7_replays_156 : decode cX7_replays 156 = .ok (.iadd, 1) := by decide +kernel
theorem dX7_replays_157 : decode cX7_replays 157 = .ok (.iload 6, 2) := by decide +kernel
theorem dX7_replays_159 : decode cX7_replays 159 = .ok (.iadd, 1) := by decide +kernel
theorem dX7_replays_160 : decode cX7_replays 160 = .ok (.iaload, 1) := by decide +kernel
theorem dX7_replays_161 : decode cX7_replays 161 = .ok (.ior, 1) := by decide +kernel
theorem dX7_replays_162 : decode cX7_replays 162 = .ok (.istore 5, 2) := by decide +kernel
theorem dX7_replays_164 : decode cX7_replays 164 = .ok (.iinc 6 1, 3) := by decide +kernel
theorem dX7_replays_167 : decode cX7_replays 167 = .ok (.goto (-30), 3) := by decide +kernel
theorem dX7_replays_170 : decode cX7_replays 170 = .ok (.aload_n 0, 1) := by decide +kernel
theorem dX7_replays_171 : decode cX7_replays 171 = .ok (.iload 5, 2) := by decide +kernel
theorem dX7_replays_173 : decode cX7_replays 173 = .ok (.invokevirtual 107, 3) := by decide +kernel
theorem dX7_replays_176 : decode cX7_replays 176 = .ok (.ireturn, 1) := by decide +kernel
theorem dX7_poke_0 : decode cX7_poke 0 = .ok (.aload_n 0, 1) := by decide +kernel
theorem dX7_poke_1 : decode cX7_poke 1 = .ok (.iload_n 1, 1) := by decide +kernel
theorem dX7_poke_2 : decode cX7_poke 2 = .ok (.iconst 0, 1) := by decide +kernel
theorem dX7_poke_3 : decode cX7_poke 3 = .ok (.aload_n 0, 1) := by decide +kernel
theorem dX7_poke_4 : decode cX7_poke 4 = .ok (.getfield 59, 3) := by decide +kernel
theorem dX7_poke_7 : decode cX7_poke 7 = .ok (.iconst 1, 1) := by decide +kernel
theorem dX7_poke_8 : decode cX7_poke 8 = .ok (.isub, 1) := by decide +kernel
theorem dX7_poke_9 : decode cX7_poke 9 = .ok (.invokestatic 71, 3) := by decide +kernel
theorem dX7_poke_12 : decode cX7_poke 12 = .ok (.ifCond .eq 13, 3) := by decide +kernel
theorem dX7_poke_15 : decode cX7_poke 15 = .ok (.iload_n 2, 1) := by decide +kernel
theorem dX7_poke_16 : decode cX7_poke 16 = .ok (.iconst 0, 1) := by decide +kernel
theorem dX7_poke_17 : decode cX7_poke 17 = .ok (.bipush 63, 2) := by decide +kernel
theorem dX7_poke_19 : decode cX7_poke 19 = .ok (.invokestatic 71, 3) := by decide +kernel
theorem dX7_poke_22 : decode cX7_poke 22 = .ok (.ifCond .ne 7, 3) := by decide +kernel
theorem dX7_poke_25 : decode cX7_poke 25 = .ok (.iconst 1, 1) := by decide +kernel
theorem dX7_poke_26 : decode cX7_poke 26 = .ok (.goto 19, 3) := by decide +kernel
theorem dX7_poke_29 : decode cX7_poke 29 = .ok (.iload_n 3, 1) := by decide +kernel
theorem dX7_poke_30 : decode cX7_poke 30 = .ok (.iconst 1, 1) := by decide +kernel
theorem dX7_poke_31 : decode cX7_poke 31 = .ok (.sipush 255, 3) := by decide +kernel
theorem dX7_poke_34 : decode cX7_poke 34 = .ok (.invokestatic 71, 3) := by decide +kernel
theorem dX7_poke_37 : decode cX7_poke 37 = .ok (.ifCond .eq 7, 3) := by decide +kernel
theorem dX7_poke_40 : decode cX7_poke 40 = .ok (.iconst 0, 1) := by decide +kernel
theorem dX7_poke_41 : decode cX7_poke 41 = .ok (.goto 4, 3) := by decide +kernel
theorem dX7_poke_44 : decode cX7_poke 44 = .ok (.iconst 2, 1) := by decide +kernel
theorem dX7_poke_45 : decode cX7_poke 45 = .ok (.putfield 67, 3) := by decide +kernel
theorem dX7_poke_48 : decode cX7_poke 48 = .ok (.aload_n 0, 1) := by decide +kernel
theorem dX7_poke_49 : decode cX7_poke 49 = .ok (.getfield 67, 3) := by decide +kernel
theorem dX7_poke_52 : decode cX7_poke 52 = .ok (.ifCond .ne 18, 3) := by decide +kernel
theorem dX7_poke_55 : decode cX7_poke 55 = .ok (.aload_n 0, 1) := by decide +kernel
theorem dX7_poke_56 : decode cX7_poke 56 = .ok (.getfield 47, 3) := by decide +kernel
theorem dX7_poke_59 : decode cX7_poke 59 = .ok (.bipush 64, 2) := by decide +kernel
theorem dX7_poke_61 : decode cX7_poke 61 = .ok (.iload_n 1, 1) := by decide +kernel
theorem dX7_poke_62 : decode cX7_poke 62 = .ok (.imul, 1) := by decide +kernel
theorem dX7_poke_63 : decode cX7_poke 63 = .ok (.iload_n 2, 1) := by decide +kernel
theorem dX7_poke_64 : decode cX7_poke 64 = .ok (.iadd, 1) := by decide +kernel
theorem dX7_poke_65 : decode cX7_poke 65 = .ok (.dup2, 1) := by decide +kernel
theorem dX7_poke_66 : decode cX7_poke 66 = .ok (.iaload, 1) := by decide +kernel
theorem dX7_poke_67 : decode cX7_poke 67 = .ok (.iload_n 3, 1) := by decide +kernel
theorem dX7_poke_68 : decode cX7_poke 68 = .ok (.ixor, 1) := by decide +kernel
theorem dX7_poke_69 : decode cX7_poke 69 = .ok (.iastore, 1) := by decide +kernel
theorem dX7_poke_70 : decode cX7_poke 70 = .ok (.return_, 1) := by decide +kernel
theorem dX7_pokeJournal_0 : decode cX7_pokeJournal 0 = .ok (.aload_n 0, 1) := by decide +kernel
theorem dX7_pokeJournal_1 : decode cX7_pokeJournal 1 = .ok (.iload_n 1, 1) := by decide +kernel
theorem dX7_pokeJournal_2 : decode cX7_pokeJournal 2 = .ok (.iconst 0, 1) := by decide +kernel
theorem dX7_pokeJournal_3 : decode cX7_pokeJournal 3 = .ok (.sipush 599, 3) := by decide +kernel
theorem dX7_pokeJournal_6 : decode cX7_pokeJournal 6 = .ok (.invokestatic 71, 3) := by decide +kernel
theorem dX7_pokeJournal_9 : decode cX7_pokeJournal 9 = .ok (.ifCond .ne 7, 3) := by decide +kernel
theorem dX7_pokeJournal_12 : decode cX7_pokeJournal 12 = .ok (.iconst 1, 1) := by decide +kernel
theorem dX7_pokeJournal_13 : decode cX7_pokeJournal 13 = .ok (.goto 19, 3) := by decide +kernel
theorem dX7_pokeJournal_16 : decode cX7_pokeJournal 16 = .ok (.iload_n 2, 1) := by decide +kernel
theorem dX7_pokeJournal_17 : decode cX7_pokeJournal 17 = .ok (.iconst 1, 1) := by decide +kernel
theorem dX7_pokeJournal_18 : decode cX7_pokeJournal 18 = .ok (.sipush 255, 3) := by decide +kernel
theorem dX7_pokeJournal_21 : decode cX7_pokeJournal 21 = .ok (.invokestatic 71, 3) := by decide +kernel
theorem dX7_pokeJournal_24 : decode cX7_pokeJournal 24 = .ok (.ifCond .eq 7, 3) := by decide +kernel
theorem dX7_pokeJournal_27 : decode cX7_pokeJournal 27 = .ok (.iconst 0, 1) := by decide +kernel
theorem dX7_pokeJournal_28 : decode cX7_pokeJournal 28 = .ok (.goto 4, 3) := by decide +kernel
theorem dX7_pokeJournal_31 : decode cX7_pokeJournal 31 = .ok (.iconst 2, 1) := by decide +kernel
theorem dX7_pokeJournal_32 : decode cX7_pokeJournal 32 = .ok (.putfield 67, 3) := by decide +kernel
theorem dX7_pokeJournal_35 : decode cX7_pokeJournal 35 = .ok (.aload_n 0, 1) := by decide +kernel
theorem dX7_pokeJournal_36 : decode cX7_pokeJournal 36 = .ok (.getfield 67, 3) := by decide +kernel
theorem dX7_pokeJournal_39 : decode cX7_pokeJournal 39 = .ok (.ifCond .ne 13, 3) := by decide +kernel
theorem dX7_pokeJournal_42 : decode cX7_pokeJournal 42 = .ok (.aload_n 0, 1) := by decide +kernel
theorem dX7_pokeJournal_43 : decode cX7_pokeJournal 43 = .ok (.getfield 50, 3) := by decide +kernel
theorem dX7_pokeJournal_46 : decode cX7_pokeJournal 46 = .ok (.iload_n 1, 1) := by decide +kernel
theorem dX7_pokeJournal_47 : decode cX7_pokeJournal 47 = .ok (.dup2, 1) := by decide +kernel
theorem dX7_pokeJournal_48 : decode cX7_pokeJournal 48 = .ok (.iaload, 1) := by decide +kernel
theorem dX7_pokeJournal_49 : decode cX7_pokeJournal 49 = .ok (.iload_n 2, 1) := by decide +kernel
theorem dX7_pokeJournal_50 : decode cX7_pokeJournal 50 = .ok (.ixor, 1) := by decide +kernel
theorem dX7_pokeJournal_51 : decode cX7_pokeJournal 51 = .ok (.iastore, 1) := by decide +kernel
theorem dX7_pokeJournal_52 : decode cX7_pokeJournal 52 = .ok (.return_, 1) := by decide +kernel
theorem dX7_fill_0 : decode cX7_fill 0 = .ok (.iconst 0, 1) := by decide +kernel
theorem dX7_fill_1 : decode cX7_fill 1 = .ok (.istore_n 2, 1) := by decide +kernel
theorem dX7_fill_2 : decode cX7_fill 2 = .ok (.iload_n 2, 1) := by decide +kernel
theorem dX7_fill_3 : decode cX7_fill 3 = .ok (.bipush 64, 2) := by decide +kernel
theorem dX7_fill_5 : decode cX7_fill 5 = .ok (.if_icmp .ge 16, 3) := by decide +kernel
