theorem dX0_init_0 : decode cX0_init 0 = .ok (.aload_n 0, 1) := by decide +kernel
theorem dX0_init_1 : decode cX0_init 1 = .ok (.invokespecial 3, 3) := by decide +kernel
theorem dX0_init_4 : decode cX0_init 4 = .ok (.aload_n 0, 1) := by decide +kernel
theorem dX0_init_5 : decode cX0_init 5 = .ok (.iconst 0, 1) := by decide +kernel
theorem dX0_init_6 : decode cX0_init 6 = .ok (.putfield 9, 3) := by decide +kernel
theorem dX0_init_9 : decode cX0_init 9 = .ok (.aload_n 0, 1) := by decide +kernel
theorem dX0_init_10 : decode cX0_init 10 = .ok (.new 15, 3) := by decide +kernel
theorem dX0_init_13 : decode cX0_init 13 = .ok (.dup, 1) := by decide +kernel
theorem dX0_init_14 : decode cX0_init 14 = .ok (.iload_n 1, 1) := by decide +kernel
theorem dX0_init_15 : decode cX0_init 15 = .ok (.bipush 64, 2) := by decide +kernel
theorem dX0_init_17 : decode cX0_init 17 = .ok (.imul, 1) := by decide +kernel
theorem dX0_init_18 : decode cX0_init 18 = .ok (.invokespecial 17, 3) := by decide +kernel
theorem dX0_init_21 : decode cX0_init 21 = .ok (.putfield 20, 3) := by decide +kernel
theorem dX0_init_24 : decode cX0_init 24 = .ok (.return_, 1) := by decide +kernel
theorem dX0_maskOf_0 : decode cX0_maskOf 0 = .ok (.aload_n 0, 1) := by decide +kernel
theorem dX0_maskOf_1 : decode cX0_maskOf 1 = .ok (.getfield 20, 3) := by decide +kernel
theorem dX0_maskOf_4 : decode cX0_maskOf 4 = .ok (.iload_n 1, 1) := by decide +kernel
theorem dX0_maskOf_5 : decode cX0_maskOf 5 = .ok (.bipush 64, 2) := by decide +kernel
theorem dX0_maskOf_7 : decode cX0_maskOf 7 = .ok (.imul, 1) := by decide +kernel
theorem dX0_maskOf_8 : decode cX0_maskOf 8 = .ok (.iload_n 2, 1) := by decide +kernel
theorem dX0_maskOf_9 : decode cX0_maskOf 9 = .ok (.iadd, 1) := by decide +kernel
theorem dX0_maskOf_10 : decode cX0_maskOf 10 = .ok (.invokevirtual 24, 3) := by decide +kernel
theorem dX0_maskOf_13 : decode cX0_maskOf 13 = .ok (.ireturn, 1) := by decide +kernel
theorem dX0_flip_0 : decode cX0_flip 0 = .ok (.aload_n 0, 1) := by decide +kernel
theorem dX0_flip_1 : decode cX0_flip 1 = .ok (.iload_n 1, 1) := by decide +kernel
theorem dX0_flip_2 : decode cX0_flip 2 = .ok (.iload_n 2, 1) := by decide +kernel
theorem dX0_flip_3 : decode cX0_flip 3 = .ok (.invokevirtual 28, 3) := by decide +kernel
theorem dX0_flip_6 : decode cX0_flip 6 = .ok (.istore 4, 2) := by decide +kernel
theorem dX0_flip_8 : decode cX0_flip 8 = .ok (.iload 4, 2) := by decide +kernel
theorem dX0_flip_10 : decode cX0_flip 10 = .ok (.iload_n 3, 1) := by decide +kernel
theorem dX0_flip_11 : decode cX0_flip 11 = .ok (.ixor, 1) := by decide +kernel
theorem dX0_flip_12 : decode cX0_flip 12 = .ok (.istore 5, 2) := by decide +kernel
theorem dX0_flip_14 : decode cX0_flip 14 = .ok (.aload_n 0, 1) := by decide +kernel
theorem dX0_flip_15 : decode cX0_flip 15 = .ok (.getfield 20, 3) := by decide +kernel
theorem dX0_flip_18 : decode cX0_flip 18 = .ok (.iload_n 1, 1) := by decide +kernel
theorem dX0_flip_19 : decode cX0_flip 19 = .ok (.bipush 64, 2) := by decide +kernel
theorem dX0_flip_21 : decode cX0_flip 21 = .ok (.imul, 1) := by decide +kernel
theorem dX0_flip_22 : decode cX0_flip 22 = .ok (.iload_n 2, 1) := by decide +kernel
theorem dX0_flip_23 : decode cX0_flip 23 = .ok (.iadd, 1) := by decide +kernel
theorem dX0_flip_24 : decode cX0_flip 24 = .ok (.iload 5, 2) := by decide +kernel
theorem dX0_flip_26 : decode cX0_flip 26 = .ok (.invokevirtual 32, 3) := by decide +kernel
theorem dX0_flip_29 : decode cX0_flip 29 = .ok (.aload_n 0, 1) := by decide +kernel
theorem dX0_flip_30 : decode cX0_flip 30 = .ok (.dup, 1) := by decide +kernel
theorem dX0_flip_31 : decode cX0_flip 31 = .ok (.getfield 9, 3) := by decide +kernel
theorem dX0_flip_34 : decode cX0_flip 34 = .ok (.iload 5, 2) := by decide +kernel
theorem dX0_flip_36 : decode cX0_flip 36 = .ok (.ifCond .ne 7, 3) := by decide +kernel
theorem dX0_flip_39 : decode cX0_flip 39 = .ok (.iconst 0, 1) := by decide +kernel
theorem dX0_flip_40 : decode cX0_flip 40 = .ok (.goto 4, 3) := by decide +kernel
theorem dX0_flip_43 : decode cX0_flip 43 = .ok (.iconst 1, 1) := by decide +kernel
theorem dX0_flip_44 : decode cX0_flip 44 = .ok (.iload 4, 2) := by decide +kernel
theorem dX0_flip_46 : decode cX0_flip 46 = .ok (.ifCond .ne 7, 3) := by decide +kernel
theorem dX0_flip_49 : decode cX0_flip 49 = .ok (.iconst 0, 1) := by decide +kernel
theorem dX0_flip_50 : decode cX0_flip 50 = .ok (.goto 4, 3) := by decide +kernel
theorem dX0_flip_53 : decode cX0_flip 53 = .ok (.iconst 1, 1) := by decide +kernel
theorem dX0_flip_54 : decode cX0_flip 54 = .ok (.isub, 1) := by decide +kernel
theorem dX0_flip_55 : decode cX0_flip 55 = .ok (.iadd, 1) := by decide +kernel
theorem dX0_flip_56 : decode cX0_flip 56 = .ok (.putfield 9, 3) := by decide +kernel
theorem dX0_flip_59 : decode cX0_flip 59 = .ok (.return_, 1) := by decide +kernel
theorem dX0_any_0 : decode cX0_any 0 = .ok (.aload_n 0, 1) := by decide +kernel
theorem dX0_any_1 : decode cX0_any 1 = .ok (.getfield 9, 3) := by decide +kernel
theorem dX0_any_4 : decode cX0_any 4 = .ok (.ifCond .eq 7, 3) := by decide +kernel
theorem dX0_any_7 : decode cX0_any 7 = .ok (.iconst 1, 1) := by decide +kernel
theorem dX0_any_8 : decode cX0_any 8 = .ok (.goto 4, 3) := by decide +kernel
theorem dX0_any_11 : decode cX0_any 11 = .ok (.iconst 0, 1) := by decide +kernel
theorem dX0_any_12 : decode cX0_any 12 = .ok (.ireturn, 1) := by decide +kernel
theorem dX0_clear_0 : decode cX0_clear 0 = .ok (.aload_n 0, 1) := by decide +kernel
theorem dX0_clear_1 : decode cX0_clear 1 = .ok (.getfield 20, 3) := by decide +kernel
theorem dX0_clear_4 : decode cX0_clear 4 = .ok (.invokevirtual 36, 3) := by decide +kernel
theorem dX0_clear_7 : decode cX0_clear 7 = .ok (.aload_n 0, 1) := by decide +kernel
theorem dX0_clear_8 : decode cX0_clear 8 = .ok (.iconst 0, 1) := by decide +kernel
theorem dX0_clear_9 : decode cX0_clear 9 = .ok (.putfield 9, 3) := by decide +kernel
theorem dX0_clear_12 : decode cX0_clear 12 = .ok (.return_, 1) := by decide +kernel
theorem dX1_init_0 : decode cX1_init 0 = .ok (.aload_n 0, 1) := by decide +kernel
theorem dX1_init_1 : decode cX1_init 1 = .ok (.invokespecial 3, 3) := by decide +kernel
theorem dX1_init_4 : decode cX1_init 4 = .ok (.aload_n 0, 1) := by decide +kernel
theorem dX1_init_5 : decode cX1_init 5 = .ok (.new 9, 3) := by decide +kernel
theorem dX1_init_8 : decode cX1_init 8 = .ok (.dup, 1) := by decide +kernel
theorem dX1_init_9 : decode cX1_init 9 = .ok (.sipush 600, 3) := by decide +kernel
theorem dX1_init_12 : decode cX1_init 12 = .ok (.invokespecial 11, 3) := by decide +kernel
theorem dX1_init_15 : decode cX1_init 15 = .ok (.putfield 14, 3) := by decide +kernel
theorem dX1_init_18 : decode cX1_init 18 = .ok (.aload_n 0, 1) := by decide +kernel
theorem dX1_init_19 : decode cX1_init 19 = .ok (.iconst 0, 1) := by decide +kernel
theorem dX1_init_20 : decode cX1_init 20 = .ok (.putfield 20, 3) := by decide +kernel
theorem dX1_init_23 : decode cX1_init 23 = .ok (.return_, 1) := by decide +kernel
theorem dX1_length_0 : decode cX1_length 0 = .ok (.aload_n 0, 1) := by decide +kernel
theorem dX1_length_1 : decode cX1_length 1 = .ok (.getfield 20, 3) := by decide +kernel
theorem dX1_length_4 : decode cX1_length 4 = .ok (.ireturn, 1) := by decide +kernel
theorem dX1_cutTo_0 : decode cX1_cutTo 0 = .ok (.aload_n 0, 1) := by decide +kernel
theorem dX1_cutTo_1 : decode cX1_cutTo 1 = .ok (.iload_n 1, 1) := by decide +kernel
theorem dX1_cutTo_2 : decode cX1_cutTo 2 = .ok (.putfield 20, 3) := by decide +kernel
theorem dX1_cutTo_5 : decode cX1_cutTo 5 = .ok (.return_, 1) := by decide +kernel
theorem dX1_hasRoomFor_0 : decode cX1_hasRoomFor 0 = .ok (.aload_n 0, 1) := by decide +kernel
theorem dX1_hasRoomFor_1 : decode cX1_hasRoomFor 1 = .ok (.getfield 20, 3) := by decide +kernel
theorem dX1_hasRoomFor_4 : decode cX1_hasRoomFor 4 = .ok (.aload_n 1, 1) := by decide +kernel
theorem dX1_hasRoomFor_5 : decode cX1_hasRoomFor 5 = .ok (.invokevirtual 24, 3) := by decide +kernel
theorem dX1_hasRoomFor_8 : decode cX1_hasRoomFor 8 = .ok (.iadd, 1) := by decide +kernel
theorem dX1_hasRoomFor_9 : decode cX1_hasRoomFor 9 = .ok (.iconst 1, 1) := by decide +kernel
theorem dX1_hasRoomFor_10 : decode cX1_hasRoomFor 10 = .ok (.iadd, 1) := by decide +kernel
theorem dX1_hasRoomFor_11 : decode cX1_hasRoomFor 11 = .ok (.sipush 600, 3) := by decide +kernel
theorem dX1_hasRoomFor_14 : decode cX1_hasRoomFor 14 = .ok (.if_icmp .gt 7, 3) := by decide +kernel
theorem dX1_hasRoomFor_17 : decode cX1_hasRoomFor 17 = .ok (.iconst 1, 1) := by decide +kernel
theorem dX1_hasRoomFor_18 : decode cX1_hasRoomFor 18 = .ok (.goto 4, 3) := by decide +kernel
theorem dX1_hasRoomFor_21 : decode cX1_hasRoomFor 21 = .ok (.iconst 0, 1) := by decide +kernel
theorem dX1_hasRoomFor_22 : decode cX1_hasRoomFor 22 = .ok (.ireturn, 1) := by decide +kernel
theorem dX1_append_0 : decode cX1_append 0 = .ok (.aload_n 1, 1) := by decide +kernel
theorem dX1_append_1 : decode cX1_append 1 = .ok (.aload_n 0, 1) := by decide +kernel
theorem dX1_append_2 : decode cX1_append 2 = .ok (.getfield 14, 3) := by decide +kernel
theorem dX1_append_5 : decode cX1_append 5 = .ok (.aload_n 0, 1) := by decide +kernel
theorem dX1_append_6 : decode cX1_append 6 = .ok (.getfield 20, 3) := by decide +kernel
theorem dX1_append_9 : decode cX1_append 9 = .ok (.iload_n 2, 1) := by decide +kernel
theorem dX1_append_10 : decode cX1_append 10 = .ok (.invokevirtual 30, 3) := by decide +kernel
theorem dX1_append_13 : decode cX1_append 13 = .ok (.aload_n 0, 1) := by decide +kernel
theorem dX1_append_14 : decode cX1_append 14 = .ok (.getfield 14, 3) := by decide +kernel
theorem dX1_append_17 : decode cX1_append 17 = .ok (.aload_n 0, 1) := by decide +kernel
theorem dX1_append_18 : decode cX1_append 18 = .ok (.getfield 20, 3) := by decide +kernel
theorem dX1_append_21 : decode cX1_append 21 = .ok (.aload_n 1, 1) := by decide +kernel
theorem dX1_append_22 : decode cX1_append 22 = .ok (.invokevirtual 24, 3) := by decide +kernel
theorem dX1_append_25 : decode cX1_append 25 = .ok (.iadd, 1) := by decide +kernel
theorem dX1_append_26 : decode cX1_append 26 = .ok (.aload_n 0, 1) := by decide +kernel
theorem dX1_append_27 : decode cX1_append 27 = .ok (.aload_n 0, 1) := by decide +kernel
theorem dX1_append_28 : decode cX1_append 28 = .ok (.getfield 20, 3) := by decide +kernel
theorem dX1_append_31 : decode cX1_append 31 = .ok (.aload_n 1, 1) := by decide +kernel
theorem dX1_append_32 : decode cX1_append 32 = .ok (.invokevirtual 24, 3) := by decide +kernel
theorem dX1_append_35 : decode cX1_append 35 = .ok (.invokevirtual 34, 3) := by decide +kernel
theorem dX1_append_38 : decode cX1_append 38 = .ok (.invokevirtual 38, 3) := by decide +kernel
theorem dX1_append_41 : decode cX1_append 41 = .ok (.aload_n 0, 1) := by decide +kernel
theorem dX1_append_42 : decode cX1_append 42 = .ok (.dup, 1) := by decide +kernel
theorem dX1_append_43 : decode cX1_append 43 = .ok (.getfield 20, 3) := by decide +kernel
theorem dX1_append_46 : decode cX1_append 46 = .ok (.aload_n 1, 1) := by decide +kernel
theorem dX1_append_47 : decode cX1_append 47 = .ok (.invokevirtual 24, 3) := by decide +kernel
theorem dX1_append_50 : decode cX1_append 50 = .ok (.iconst 1, 1) := by decide +kernel
theorem dX1_append_51 : decode cX1_append 51 = .ok (.iadd, 1) := by decide +kernel
theorem dX1_append_52 : decode cX1_append 52 = .ok (.iadd, 1) := by decide +kernel
theorem dX1_append_53 : decode cX1_append 53 = .ok (.putfield 20, 3) := by decide +kernel
theorem dX1_append_56 : decode cX1_append 56 = .ok (.return_, 1) := by decide +kernel
theorem dX1_flip_0 : decode cX1_flip 0 = .ok (.aload_n 0, 1) := by decide +kernel
theorem dX1_flip_1 : decode cX1_flip 1 = .ok (.getfield 14, 3) := by decide +kernel
theorem dX1_flip_4 : decode cX1_flip 4 = .ok (.iload_n 1, 1) := by decide +kernel
theorem dX1_flip_5 : decode cX1_flip 5 = .ok (.iload_n 2, 1) := by decide +kernel
theorem dX1_flip_6 : decode cX1_flip 6 = .ok (.invokevirtual 42, 3) := by decide +kernel
theorem dX1_flip_9 : decode cX1_flip 9 = .ok (.return_, 1) := by decide +kernel
theorem dX1_isWholeAt_0 : decode cX1_isWholeAt 0 = .ok (.iload_n 1, 1) := by decide +kernel
theorem dX1_isWholeAt_1 : decode cX1_isWholeAt 1 = .ok (.aload_n 0, 1) := by decide +kernel
theorem dX1_isWholeAt_2 : decode cX1_isWholeAt 2 = .ok (.getfield 20, 3) := by decide +kernel
theorem dX1_isWholeAt_5 : decode cX1_isWholeAt 5 = .ok (.if_icmp .lt 5, 3) := by decide +kernel
theorem dX1_isWholeAt_8 : decode cX1_isWholeAt 8 = .ok (.iconst 0, 1) := by decide +kernel
theorem dX1_isWholeAt_9 : decode cX1_isWholeAt 9 = .ok (.ireturn, 1) := by decide +kernel
theorem dX1_isWholeAt_10 : decode cX1_isWholeAt 10 = .ok (.aload_n 0, 1) := by decide +kernel
theorem dX1_isWholeAt_11 : decode cX1_isWholeAt 11 = .ok (.getfield 14, 3) := by decide +kernel
theorem dX1_isWholeAt_14 : decode cX1_isWholeAt 14 = .ok (.iload_n 1, 1) := by decide +kernel
theorem dX1_isWholeAt_15 : decode cX1_isWholeAt 15 = .ok (.invokevirtual 45, 3) := by decide +kernel
theorem dX1_isWholeAt_18 : decode cX1_isWholeAt 18 = .ok (.istore_n 2, 1) := by decide +kernel
theorem dX1_isWholeAt_19 : decode cX1_isWholeAt 19 = .ok (.iload_n 2, 1) := by decide +kernel
theorem dX1_isWholeAt_20 : decode cX1_isWholeAt 20 = .ok (.iconst 1, 1) := by decide +kernel
theorem dX1_isWholeAt_21 : decode cX1_isWholeAt 21 = .ok (.if_icmp .lt 23, 3) := by decide +kernel
theorem dX1_isWholeAt_24 : decode cX1_isWholeAt 24 = .ok (.iload_n 2, 1) := by decide +kernel
theorem dX1_isWholeAt_25 : decode cX1_isWholeAt 25 = .ok (.bipush 12, 2) := by decide +kernel
theorem dX1_isWholeAt_27 : decode cX1_isWholeAt 27 = .ok (.if_icmp .gt 17, 3) := by decide +kernel
theorem dX1_isWholeAt_30 : decode cX1_isWholeAt 30 = .ok (.iload_n 1, 1) := by decide +kernel
theorem dX1_isWholeAt_31 : decode cX1_isWholeAt 31 = .ok (.aload_n 0, 1) := by decide +kernel
theorem dX1_isWholeAt_32 : decode cX1_isWholeAt 32 = .ok (.iload_n 1, 1) := by decide +kernel
theorem dX1_isWholeAt_33 : decode cX1_isWholeAt 33 = .ok (.invokevirtual 49, 3) := by decide +kernel
theorem dX1_isWholeAt_36 : decode cX1_isWholeAt 36 = .ok (.iadd, 1) := by decide +kernel
theorem dX1_isWholeAt_37 : decode cX1_isWholeAt 37 = .ok (.aload_n 0, 1) := by decide +kernel
theorem dX1_isWholeAt_38 : decode cX1_isWholeAt 38 = .ok (.getfield 20, 3) := by decide +kernel
theorem dX1_isWholeAt_41 : decode cX1_isWholeAt 41 = .ok (.if_icmp .le 5, 3) := by decide +kernel
theorem dX1_isWholeAt_44 : decode cX1_isWholeAt 44 = .ok (.iconst 0, 1) := by decide +kernel
theorem dX1_isWholeAt_45 : decode cX1_isWholeAt 45 = .ok (.ireturn, 1) := by decide +kernel
theorem dX1_isWholeAt_46 : decode cX1_isWholeAt 46 = .ok (.iload_n 2, 1) := by decide +kernel
theorem dX1_isWholeAt_47 : decode cX1_isWholeAt 47 = .ok (.invokestatic 52, 3) := by decide +kernel
theorem dX1_isWholeAt_50 : decode cX1_isWholeAt 50 = .ok (.istore_n 3, 1) := by decide +kernel
theorem dX1_isWholeAt_51 : decode cX1_isWholeAt 51 = .ok (.aload_n 0, 1) := by decide +kernel
theorem dX1_isWholeAt_52 : decode cX1_isWholeAt 52 = .ok (.getfield 14, 3) := by decide +kernel
theorem dX1_isWholeAt_55 : decode cX1_isWholeAt 55 = .ok (.iload_n 1, 1) := by decide +kernel
theorem dX1_isWholeAt_56 : decode cX1_isWholeAt 56 = .ok (.iload_n 3, 1) := by decide +kernel
theorem dX1_isWholeAt_57 : decode cX1_isWholeAt 57 = .ok (.iadd, 1) := by decide +kernel
theorem dX1_isWholeAt_58 : decode cX1_isWholeAt 58 = .ok (.invokevirtual 45, 3) := by decide +kernel
theorem dX1_isWholeAt_61 : decode cX1_isWholeAt 61 = .ok (.aload_n 0, 1) := by decide +kernel
theorem dX1_isWholeAt_62 : decode cX1_isWholeAt 62 = .ok (.iload_n 1, 1) := by decide +kernel
theorem dX1_isWholeAt_63 : decode cX1_isWholeAt 63 = .ok (.iload_n 3, 1) := by decide +kernel
theorem dX1_isWholeAt_64 : decode cX1_isWholeAt 64 = .ok (.invokevirtual 34, 3) := by decide +kernel
theorem dX1_isWholeAt_67 : decode cX1_isWholeAt 67 = .ok (.if_icmp .ne 7, 3) := by decide +kernel
theorem dX1_isWholeAt_70 : decode cX1_isWholeAt 70 = .ok (.iconst 1, 1) := by decide +kernel
theorem dX1_isWholeAt_71 : decode cX1_isWholeAt 71 = .ok (.goto 4, 3) := by decide +kernel
theorem dX1_isWholeAt_74 : decode cX1_isWholeAt 74 = .ok (.iconst 0, 1) := by decide +kernel
theorem dX1_isWholeAt_75 : decode cX1_isWholeAt 75 = .ok (.ireturn, 1) := by decide +kernel
theorem dX1_actSizeAt_0 : decode cX1_actSizeAt 0 = .ok (.aload_n 0, 1) := by decide +kernel
theorem dX1_actSizeAt_1 : decode cX1_actSizeAt 1 = .ok (.getfield 14, 3) := by decide +kernel
theorem dX1_actSizeAt_4 : decode cX1_actSizeAt 4 = .ok (.iload_n 1, 1) := by decide +kernel
theorem dX1_actSizeAt_5 : decode cX1_actSizeAt 5 = .ok (.invokevirtual 45, 3) := by decide +kernel
theorem dX1_actSizeAt_8 : decode cX1_actSizeAt 8 = .ok (.invokestatic 52, 3) := by decide +kernel
theorem dX1_actSizeAt_11 : decode cX1_actSizeAt 11 = .ok (.iconst 1, 1) := by decide +kernel
theorem dX1_actSizeAt_12 : decode cX1_actSizeAt 12 = .ok (.iadd, 1) := by decide +kernel
theorem dX1_actSizeAt_13 : decode cX1_actSizeAt 13 = .ok (.ireturn, 1) := by decide +kernel
theorem dX1_readName_0 : decode cX1_readName 0 = .ok (.aload_n 2, 1) := by decide +kernel
theorem dX1_readName_1 : decode cX1_readName 1 = .ok (.aload_n 0, 1) := by decide +kernel
theorem dX1_readName_2 : decode cX1_readName 2 = .ok (.getfield 14, 3) := by decide +kernel
theorem dX1_readName_5 : decode cX1_readName 5 = .ok (.iload_n 1, 1) := by decide +kernel
theorem dX1_readName_6 : decode cX1_readName 6 = .ok (.invokevirtual 55, 3) := by decide +kernel
theorem dX1_readName_9 : decode cX1_readName 9 = .ok (.return_, 1) := by decide +kernel
theorem dX1_numberAt_0 : decode cX1_numberAt 0 = .ok (.aload_n 0, 1) := by decide +kernel
theorem dX1_numberAt_1 : decode cX1_numberAt 1 = .ok (.getfield 14, 3) := by decide +kernel
theorem dX1_numberAt_4 : decode cX1_numberAt 4 = .ok (.iload_n 1, 1) := by decide +kernel
theorem dX1_numberAt_5 : decode cX1_numberAt 5 = .ok (.iconst 1, 1) := by decide +kernel
theorem dX1_numberAt_6 : decode cX1_numberAt 6 = .ok (.iadd, 1) := by decide +kernel
theorem dX1_numberAt_7 : decode cX1_numberAt 7 = .ok (.aload_n 0, 1) := by decide +kernel
theorem dX1_numberAt_8 : decode cX1_numberAt 8 = .ok (.getfield 14, 3) := by decide +kernel
theorem dX1_numberAt_11 : decode cX1_numberAt 11 = .ok (.iload_n 1, 1) := by decide +kernel
theorem dX1_numberAt_12 : decode cX1_numberAt 12 = .ok (.invokevirtual 45, 3) := by decide +kernel
theorem dX1_numberAt_15 : decode cX1_numberAt 15 = .ok (.iadd, 1) := by decide +kernel
theorem dX1_numberAt_16 : decode cX1_numberAt 16 = .ok (.invokevirtual 59, 3) := by decide +kernel
theorem dX1_numberAt_19 : decode cX1_numberAt 19 = .ok (.ireturn, 1) := by decide +kernel
theorem dX1_checkByte_0 : decode cX1_checkByte 0 = .ok (.aload_n 0, 1) := by decide +kernel
theorem dX1_checkByte_1 : decode cX1_checkByte 1 = .ok (.getfield 14, 3) := by decide +kernel
theorem dX1_checkByte_4 : decode cX1_checkByte 4 = .ok (.iload_n 1, 1) := by decide +kernel
theorem dX1_checkByte_5 : decode cX1_checkByte 5 = .ok (.iload_n 2, 1) := by decide +kernel
theorem dX1_checkByte_6 : decode cX1_checkByte 6 = .ok (.invokevirtual 62, 3) := by decide +kernel
theorem dX1_checkByte_9 : decode cX1_checkByte 9 = .ok (.sipush 255, 3) := by decide +kernel
theorem dX1_checkByte_12 : decode cX1_checkByte 12 = .ok (.iand, 1) := by decide +kernel
theorem dX1_checkByte_13 : decode cX1_checkByte 13 = .ok (.ireturn, 1) := by decide +kernel
theorem dX2_init_0 : decode cX2_init 0 = .ok (.aload_n 0, 1) := by decide +kernel
theorem dX2_init_1 : decode cX2_init 1 = .ok (.invokespecial 3, 3) := by decide +kernel
theorem dX2_init_4 : decode cX2_init 4 = .ok (.aload_n 0, 1) := by decide +kernel
theorem dX2_init_5 : decode cX2_init 5 = .ok (.new 9, 3) := by decide +kernel
theorem dX2_init_8 : decode cX2_init 8 = .ok (.dup, 1) := by decide +kernel
theorem dX2_init_9 : decode cX2_init 9 = .ok (.bipush 12, 2) := by decide +kernel
theorem dX2_init_11 : decode cX2_init 11 = .ok (.invokespecial 11, 3) := by decide +kernel
theorem dX2_init_14 : decode cX2_init 14 = .ok (.putfield 14, 3) := by decide +kernel
theorem dX2_init_17 : decode cX2_init 17 = .ok (.aload_n 0, 1) := by decide +kernel
theorem dX2_init_18 : decode cX2_init 18 = .ok (.iconst 0, 1) := by decide +kernel
theorem dX2_init_19 : decode cX2_init 19 = .ok (.putfield 20, 3) := by decide +kernel
theorem dX2_init_22 : decode cX2_init 22 = .ok (.return_, 1) := by decide +kernel
theorem dX2_recordSizeOf_0 : decode cX2_recordSizeOf 0 = .ok (.iconst 1, 1) := by decide +kernel
theorem dX2_recordSizeOf_1 : decode cX2_recordSizeOf 1 = .ok (.iload_n 0, 1) := by decide +kernel
theorem dX2_recordSizeOf_2 : decode cX2_recordSizeOf 2 = .ok (.iadd, 1) := by decide +kernel
theorem dX2_recordSizeOf_3 : decode cX2_recordSizeOf 3 = .ok (.iconst 4, 1) := by decide +kernel
theorem dX2_recordSizeOf_4 : decode cX2_recordSizeOf 4 = .ok (.iadd, 1) := by decide +kernel
theorem dX2_recordSizeOf_5 : decode cX2_recordSizeOf 5 = .ok (.ireturn, 1) := by decide +kernel
theorem dX2_length_0 : decode cX2_length 0 = .ok (.aload_n 0, 1) := by decide +kernel
theorem dX2_length_1 : decode cX2_length 1 = .ok (.getfield 20, 3) := by decide +kernel
theorem dX2_length_4 : decode cX2_length 4 = .ok (.ireturn, 1) := by decide +kernel
theorem dX2_recordSize_0 : decode cX2_recordSize 0 = .ok (.aload_n 0, 1) := by decide +kernel
theorem dX2_recordSize_1 : decode cX2_recordSize 1 = .ok (.getfield 20, 3) := by decide +kernel
theorem dX2_recordSize_4 : decode cX2_recordSize 4 = .ok (.invokestatic 24, 3) := by decide +kernel
theorem dX2_recordSize_7 : decode cX2_recordSize 7 = .ok (.ireturn, 1) := by decide +kernel
theorem dX2_hash_0 : decode cX2_hash 0 = .ok (.aload_n 0, 1) := by decide +kernel
theorem dX2_hash_1 : decode cX2_hash 1 = .ok (.getfield 14, 3) := by decide +kernel
theorem dX2_hash_4 : decode cX2_hash 4 = .ok (.iconst 0, 1) := by decide +kernel
theorem dX2_hash_5 : decode cX2_hash 5 = .ok (.aload_n 0, 1) := by decide +kernel
theorem dX2_hash_6 : decode cX2_hash 6 = .ok (.getfield 20, 3) := by decide +kernel
theorem dX2_hash_9 : decode cX2_hash 9 = .ok (.invokevirtual 28, 3) := by decide +kernel
theorem dX2_hash_12 : decode cX2_hash 12 = .ok (.ireturn, 1) := by decide +kernel
theorem dX2_extend_0 : decode cX2_extend 0 = .ok (.aload_n 0, 1) := by decide +kernel
theorem dX2_extend_1 : decode cX2_extend 1 = .ok (.getfield 20, 3) := by decide +kernel
theorem dX2_extend_4 : decode cX2_extend 4 = .ok (.bipush 12, 2) := by decide +kernel
theorem dX2_extend_6 : decode cX2_extend 6 = .ok (.if_icmp .lt 5, 3) := by decide +kernel
theorem dX2_extend_9 : decode cX2_extend 9 = .ok (.iconst 0, 1) := by decide +kernel
theorem dX2_extend_10 : decode cX2_extend 10 = .ok (.ireturn, 1) := by decide +kernel
theorem dX2_extend_11 : decode cX2_extend 11 = .ok (.aload_n 0, 1) := by decide +kernel
theorem dX2_extend_12 : decode cX2_extend 12 = .ok (.getfield 14, 3) := by decide +kernel
theorem dX2_extend_15 : decode cX2_extend 15 = .ok (.aload_n 0, 1) := by decide +kernel
theorem dX2_extend_16 : decode cX2_extend 16 = .ok (.getfield 20, 3) := by decide +kernel
theorem dX2_extend_19 : decode cX2_extend 19 = .ok (.iload_n 1, 1) := by decide +kernel
theorem dX2_extend_20 : decode cX2_extend 20 = .ok (.invokevirtual 32, 3) := by decide +kernel
theorem dX2_extend_23 : decode cX2_extend 23 = .ok (.aload_n 0, 1) := by decide +kernel
theorem dX2_extend_24 : decode cX2_extend 24 = .ok (.dup, 1) := by decide +kernel
theorem dX2_extend_25 : decode cX2_extend 25 = .ok (.getfield 20, 3) := by decide +kernel
theorem dX2_extend_28 : decode cX2_extend 28 = .ok (.iconst 1, 1) := by decide +kernel
theorem dX2_extend_29 : decode cX2_extend 29 = .ok (.iadd, 1) := by decide +kernel
theorem dX2_extend_30 : decode cX2_extend 30 = .ok (.putfield 20, 3) := by decide +kernel
theorem dX2_extend_33 : decode cX2_extend 33 = .ok (.iconst 1, 1) := by decide +kernel
theorem dX2_extend_34 : decode cX2_extend 34 = .ok (.ireturn, 1) := by decide +kernel
theorem dX2_clear_0 : decode cX2_clear 0 = .ok (.aload_n 0, 1) := by decide +kernel
theorem dX2_clear_1 : decode cX2_clear 1 = .ok (.iconst 0, 1) := by decide +kernel
theorem dX2_clear_2 : decode cX2_clear 2 = .ok (.putfield 20, 3) := by decide +kernel
theorem dX2_clear_5 : decode cX2_clear 5 = .ok (.return_, 1) := by decide +kernel
theorem dX2_isAt_0 : decode cX2_isAt 0 = .ok (.aload_n 1, 1) := by decide +kernel
theorem dX2_isAt_1 : decode cX2_isAt 1 = .ok (.iload_n 2, 1) := by decide +kernel
theorem dX2_isAt_2 : decode cX2_isAt 2 = .ok (.invokevirtual 36, 3) := by decide +kernel
theorem dX2_isAt_5 : decode cX2_isAt 5 = .ok (.aload_n 0, 1) := by decide +kernel
theorem dX2_isAt_6 : decode cX2_isAt 6 = .ok (.getfield 20, 3) := by decide +kernel
theorem dX2_isAt_9 : decode cX2_isAt 9 = .ok (.if_icmp .ne 26, 3) := by decide +kernel
theorem dX2_isAt_12 : decode cX2_isAt 12 = .ok (.aload_n 1, 1) := by decide +kernel
theorem dX2_isAt_13 : decode cX2_isAt 13 = .ok (.iload_n 2, 1) := by decide +kernel
theorem dX2_isAt_14 : decode cX2_isAt 14 = .ok (.iconst 1, 1) := by decide +kernel
theorem dX2_isAt_15 : decode cX2_isAt 15 = .ok (.iadd, 1) := by decide +kernel
theorem dX2_isAt_16 : decode cX2_isAt 16 = .ok (.aload_n 0, 1) := by decide +kernel
theorem dX2_isAt_17 : decode cX2_isAt 17 = .ok (.getfield 14, 3) := by decide +kernel
theorem dX2_isAt_20 : decode cX2_isAt 20 = .ok (.iconst 0, 1) := by decide +kernel
theorem dX2_isAt_21 : decode cX2_isAt 21 = .ok (.aload_n 0, 1) := by decide +kernel
theorem dX2_isAt_22 : decode cX2_isAt 22 = .ok (.getfield 20, 3) := by decide +kernel
theorem dX2_isAt_25 : decode cX2_isAt 25 = .ok (.invokevirtual 39, 3) := by decide +kernel
theorem dX2_isAt_28 : decode cX2_isAt 28 = .ok (.ifCond .eq 7, 3) := by decide +kernel
theorem dX2_isAt_31 : decode cX2_isAt 31 = .ok (.iconst 1, 1) := by decide +kernel
theorem dX2_isAt_32 : decode cX2_isAt 32 = .ok (.goto 4, 3) := by decide +kernel
theorem dX2_isAt_35 : decode cX2_isAt 35 = .ok (.iconst 0, 1) := by decide +kernel
theorem dX2_isAt_36 : decode cX2_isAt 36 = .ok (.ireturn, 1) := by decide +kernel
theorem dX2_writeRecord_0 : decode cX2_writeRecord 0 = .ok (.aload_n 1, 1) := by decide +kernel
theorem dX2_writeRecord_1 : decode cX2_writeRecord 1 = .ok (.iload_n 2, 1) := by decide +kernel
theorem dX2_writeRecord_2 : decode cX2_writeRecord 2 = .ok (.aload_n 0, 1) := by decide +kernel
theorem dX2_writeRecord_3 : decode cX2_writeRecord 3 = .ok (.getfield 20, 3) := by decide +kernel
theorem dX2_writeRecord_6 : decode cX2_writeRecord 6 = .ok (.invokevirtual 32, 3) := by decide +kernel
theorem dX2_writeRecord_9 : decode cX2_writeRecord 9 = .ok (.aload_n 1, 1) := by decide +kernel
theorem dX2_writeRecord_10 : decode cX2_writeRecord 10 = .ok (.iload_n 2, 1) := by decide +kernel
theorem dX2_writeRecord_11 : decode cX2_writeRecord 11 = .ok (.iconst 1, 1) := by decide +kernel
theorem dX2_writeRecord_12 : decode cX2_writeRecord 12 = .ok (.iadd, 1) := by decide +kernel
theorem dX2_writeRecord_13 : decode cX2_writeRecord 13 = .ok (.aload_n 0, 1) := by decide +kernel
theorem dX2_writeRecord_14 : decode cX2_writeRecord 14 = .ok (.getfield 14, 3) := by decide +kernel
theorem dX2_writeRecord_17 : decode cX2_writeRecord 17 = .ok (.iconst 0, 1) := by decide +kernel
theorem dX2_writeRecord_18 : decode cX2_writeRecord 18 = .ok (.aload_n 0, 1) := by decide +kernel
theorem dX2_writeRecord_19 : decode cX2_writeRecord 19 = .ok (.getfield 20, 3) := by decide +kernel
theorem dX2_writeRecord_22 : decode cX2_writeRecord 22 = .ok (.invokevirtual 43, 3) := by decide +kernel
theorem dX2_writeRecord_25 : decode cX2_writeRecord 25 = .ok (.aload_n 1, 1) := by decide +kernel
theorem dX2_writeRecord_26 : decode cX2_writeRecord 26 = .ok (.iload_n 2, 1) := by decide +kernel
theorem dX2_writeRecord_27 : decode cX2_writeRecord 27 = .ok (.iconst 1, 1) := by decide +kernel
theorem dX2_writeRecord_28 : decode cX2_writeRecord 28 = .ok (.iadd, 1) := by decide +kernel
theorem dX2_writeRecord_29 : decode cX2_writeRecord 29 = .ok (.aload_n 0, 1) := by decide +kernel
theorem dX2_writeRecord_30 : decode cX2_writeRecord 30 = .ok (.getfield 20, 3) := by decide +kernel
theorem dX2_writeRecord_33 : decode cX2_writeRecord 33 = .ok (.iadd, 1) := by decide +kernel
theorem dX2_writeRecord_34 : decode cX2_writeRecord 34 = .ok (.iload_n 3, 1) := by decide +kernel
theorem dX2_writeRecord_35 : decode cX2_writeRecord 35 = .ok (.invokevirtual 47, 3) := by decide +kernel
theorem dX2_writeRecord_38 : decode cX2_writeRecord 38 = .ok (.return_, 1) := by decide +kernel
theorem dX2_readRecord_0 : decode cX2_readRecord 0 = .ok (.aload_n 0, 1) := by decide +kernel
theorem dX2_readRecord_1 : decode cX2_readRecord 1 = .ok (.iconst 0, 1) := by decide +kernel
theorem dX2_readRecord_2 : decode cX2_readRecord 2 = .ok (.aload_n 1, 1) := by decide +kernel
theorem dX2_readRecord_3 : decode cX2_readRecord 3 = .ok (.iload_n 2, 1) := by decide +kernel
theorem dX2_readRecord_4 : decode cX2_readRecord 4 = .ok (.invokevirtual 36, 3) := by decide +kernel
theorem dX2_readRecord_7 : decode cX2_readRecord 7 = .ok (.bipush 12, 2) := by decide +kernel
theorem dX2_readRecord_9 : decode cX2_readRecord 9 = .ok (.invokestatic 50, 3) := by decide +kernel
theorem dX2_readRecord_12 : decode cX2_readRecord 12 = .ok (.invokestatic 55, 3) := by decide +kernel
theorem dX2_readRecord_15 : decode cX2_readRecord 15 = .ok (.putfield 20, 3) := by decide +kernel
theorem dX2_readRecord_18 : decode cX2_readRecord 18 = .ok (.aload_n 0, 1) := by decide +kernel
theorem dX2_readRecord_19 : decode cX2_readRecord 19 = .ok (.getfield 14, 3) := by decide +kernel
theorem dX2_readRecord_22 : decode cX2_readRecord 22 = .ok (.iconst 0, 1) := by decide +kernel
theorem dX2_readRecord_23 : decode cX2_readRecord 23 = .ok (.aload_n 1, 1) := by decide +kernel
theorem dX2_readRecord_24 : decode cX2_readRecord 24 = .ok (.iload_n 2, 1) := by decide +kernel
theorem dX2_readRecord_25 : decode cX2_readRecord 25 = .ok (.iconst 1, 1) := by decide +kernel
theorem dX2_readRecord_26 : decode cX2_readRecord 26 = .ok (.iadd, 1) := by decide +kernel
theorem dX2_readRecord_27 : decode cX2_readRecord 27 = .ok (.aload_n 0, 1) := by decide +kernel
theorem dX2_readRecord_28 : decode cX2_readRecord 28 = .ok (.getfield 20, 3) := by decide +kernel
theorem dX2_readRecord_31 : decode cX2_readRecord 31 = .ok (.invokevirtual 43, 3) := by decide +kernel
theorem dX2_readRecord_34 : decode cX2_readRecord 34 = .ok (.return_, 1) := by decide +kernel
theorem dX3_init_0 : decode cX3_init 0 = .ok (.aload_n 0, 1) := by decide +kernel
theorem dX3_init_1 : decode cX3_init 1 = .ok (.invokespecial 3, 3) := by decide +kernel
theorem dX3_init_4 : decode cX3_init 4 = .ok (.aload_n 0, 1) := by decide +kernel
theorem dX3_init_5 : decode cX3_init 5 = .ok (.new 9, 3) := by decide +kernel
theorem dX3_init_8 : decode cX3_init 8 = .ok (.dup, 1) := by decide +kernel
theorem dX3_init_9 : decode cX3_init 9 = .ok (.bipush 64, 2) := by decide +kernel
theorem dX3_init_11 : decode cX3_init 11 = .ok (.invokespecial 11, 3) := by decide +kernel
theorem dX3_init_14 : decode cX3_init 14 = .ok (.putfield 14, 3) := by decide +kernel
theorem dX3_init_17 : decode cX3_init 17 = .ok (.aload_n 0, 1) := by decide +kernel
theorem dX3_init_18 : decode cX3_init 18 = .ok (.iconst 2, 1) := by decide +kernel
theorem dX3_init_19 : decode cX3_init 19 = .ok (.putfield 20, 3) := by decide +kernel
theorem dX3_init_22 : decode cX3_init 22 = .ok (.return_, 1) := by decide +kernel
theorem dX3_byteOf_0 : decode cX3_byteOf 0 = .ok (.aload_n 0, 1) := by decide +kernel
theorem dX3_byteOf_1 : decode cX3_byteOf 1 = .ok (.getfield 14, 3) := by decide +kernel
theorem dX3_byteOf_4 : decode cX3_byteOf 4 = .ok (.iload_n 1, 1) := by decide +kernel
theorem dX3_byteOf_5 : decode cX3_byteOf 5 = .ok (.invokevirtual 24, 3) := by decide +kernel
theorem dX3_byteOf_8 : decode cX3_byteOf 8 = .ok (.ireturn, 1) := by decide +kernel
theorem dX3_flip_0 : decode cX3_flip 0 = .ok (.aload_n 0, 1) := by decide +kernel
theorem dX3_flip_1 : decode cX3_flip 1 = .ok (.getfield 14, 3) := by decide +kernel
theorem dX3_flip_4 : decode cX3_flip 4 = .ok (.iload_n 1, 1) := by decide +kernel
theorem dX3_flip_5 : decode cX3_flip 5 = .ok (.iload_n 2, 1) := by decide +kernel
theorem dX3_flip_6 : decode cX3_flip 6 = .ok (.invokevirtual 28, 3) := by decide +kernel
theorem dX3_flip_9 : decode cX3_flip 9 = .ok (.return_, 1) := by decide +kernel
theorem dX3_isBad_0 : decode cX3_isBad 0 = .ok (.aload_n 0, 1) := by decide +kernel
theorem dX3_isBad_1 : decode cX3_isBad 1 = .ok (.getfield 14, 3) := by decide +kernel
theorem dX3_isBad_4 : decode cX3_isBad 4 = .ok (.iconst 0, 1) := by decide +kernel
theorem dX3_isBad_5 : decode cX3_isBad 5 = .ok (.bipush 60, 2) := by decide +kernel
theorem dX3_isBad_7 : decode cX3_isBad 7 = .ok (.invokevirtual 32, 3) := by decide +kernel
theorem dX3_isBad_10 : decode cX3_isBad 10 = .ok (.aload_n 0, 1) := by decide +kernel
theorem dX3_isBad_11 : decode cX3_isBad 11 = .ok (.getfield 14, 3) := by decide +kernel
theorem dX3_isBad_14 : decode cX3_isBad 14 = .ok (.bipush 60, 2) := by decide +kernel
theorem dX3_isBad_16 : decode cX3_isBad 16 = .ok (.invokevirtual 36, 3) := by decide +kernel
theorem dX3_isBad_19 : decode cX3_isBad 19 = .ok (.if_icmp .eq 7, 3) := by decide +kernel
theorem dX3_isBad_22 : decode cX3_isBad 22 = .ok (.iconst 1, 1) := by decide +kernel
theorem dX3_isBad_23 : decode cX3_isBad 23 = .ok (.goto 4, 3) := by decide +kernel
theorem dX3_isBad_26 : decode cX3_isBad 26 = .ok (.iconst 0, 1) := by decide +kernel
theorem dX3_isBad_27 : decode cX3_isBad 27 = .ok (.ireturn, 1) := by decide +kernel
theorem dX3_depth_0 : decode cX3_depth 0 = .ok (.aload_n 0, 1) := by decide +kernel
theorem dX3_depth_1 : decode cX3_depth 1 = .ok (.getfield 14, 3) := by decide +kernel
theorem dX3_depth_4 : decode cX3_depth 4 = .ok (.iconst 0, 1) := by decide +kernel
theorem dX3_depth_5 : decode cX3_depth 5 = .ok (.invokevirtual 24, 3) := by decide +kernel
theorem dX3_depth_8 : decode cX3_depth 8 = .ok (.ireturn, 1) := by decide +kernel
theorem dX3_records_0 : decode cX3_records 0 = .ok (.aload_n 0, 1) := by decide +kernel
theorem dX3_records_1 : decode cX3_records 1 = .ok (.getfield 14, 3) := by decide +kernel
theorem dX3_records_4 : decode cX3_records 4 = .ok (.iconst 1, 1) := by decide +kernel
theorem dX3_records_5 : decode cX3_records 5 = .ok (.invokevirtual 24, 3) := by decide +kernel
theorem dX3_records_8 : decode cX3_records 8 = .ok (.ireturn, 1) := by decide +kernel
theorem dX3_placeOf_0 : decode cX3_placeOf 0 = .ok (.aload_n 0, 1) := by decide +kernel
theorem dX3_placeOf_1 : decode cX3_placeOf 1 = .ok (.invokevirtual 39, 3) := by decide +kernel
theorem dX3_placeOf_4 : decode cX3_placeOf 4 = .ok (.istore_n 2, 1) := by decide +kernel
theorem dX3_placeOf_5 : decode cX3_placeOf 5 = .ok (.iconst 2, 1) := by decide +kernel
theorem dX3_placeOf_6 : decode cX3_placeOf 6 = .ok (.istore_n 3, 1) := by decide +kernel
theorem dX3_placeOf_7 : decode cX3_placeOf 7 = .ok (.iconst 0, 1) := by decide +kernel
theorem dX3_placeOf_8 : decode cX3_placeOf 8 = .ok (.istore 4, 2) := by decide +kernel
theorem dX3_placeOf_10 : decode cX3_placeOf 10 = .ok (.iload 4, 2) := by decide +kernel
theorem dX3_placeOf_12 : decode cX3_placeOf 12 = .ok (.iload_n 2, 1) := by decide +kernel
theorem dX3_placeOf_13 : decode cX3_placeOf 13 = .ok (.if_icmp .ge 31, 3) := by decide +kernel
theorem dX3_placeOf_16 : decode cX3_placeOf 16 = .ok (.aload_n 1, 1) := by decide +kernel
theorem dX3_placeOf_17 : decode cX3_placeOf 17 = .ok (.aload_n 0, 1) := by decide +kernel
theorem dX3_placeOf_18 : decode cX3_placeOf 18 = .ok (.getfield 14, 3) := by decide +kernel
theorem dX3_placeOf_21 : decode cX3_placeOf 21 = .ok (.iload_n 3, 1) := by decide +kernel
theorem dX3_placeOf_22 : decode cX3_placeOf 22 = .ok (.invokevirtual 43, 3) := by decide +kernel
theorem dX3_placeOf_25 : decode cX3_placeOf 25 = .ok (.ifCond .eq 5, 3) := by decide +kernel
theorem dX3_placeOf_28 : decode cX3_placeOf 28 = .ok (.iload_n 3, 1) := by decide +kernel
theorem dX3_placeOf_29 : decode cX3_placeOf 29 = .ok (.ireturn, 1) := by decide +kernel
theorem dX3_placeOf_30 : decode cX3_placeOf 30 = .ok (.iload_n 3, 1) := by decide +kernel
theorem dX3_placeOf_31 : decode cX3_placeOf 31 = .ok (.aload_n 0, 1) := by decide +kernel
theorem dX3_placeOf_32 : decode cX3_placeOf 32 = .ok (.iload_n 3, 1) := by decide +kernel
theorem dX3_placeOf_33 : decode cX3_placeOf 33 = .ok (.invokevirtual 49, 3) := by decide +kernel
theorem dX3_placeOf_36 : decode cX3_placeOf 36 = .ok (.iadd, 1) := by decide +kernel
theorem dX3_placeOf_37 : decode cX3_placeOf 37 = .ok (.istore_n 3, 1) := by decide +kernel
theorem dX3_placeOf_38 : decode cX3_placeOf 38 = .ok (.iinc 4 1, 3) := by decide +kernel
theorem dX3_placeOf_41 : decode cX3_placeOf 41 = .ok (.goto (-31), 3) := by decide +kernel
theorem dX3_placeOf_44 : decode cX3_placeOf 44 = .ok (.iconst (-1), 1) := by decide +kernel
theorem dX3_placeOf_45 : decode cX3_placeOf 45 = .ok (.ireturn, 1) := by decide +kernel
theorem dX3_numberAt_0 : decode cX3_numberAt 0 = .ok (.aload_n 0, 1) := by decide +kernel
theorem dX3_numberAt_1 : decode cX3_numberAt 1 = .ok (.getfield 14, 3) := by decide +kernel
theorem dX3_numberAt_4 : decode cX3_numberAt 4 = .ok (.aload_n 0, 1) := by decide +kernel
theorem dX3_numberAt_5 : decode cX3_numberAt 5 = .ok (.iload_n 1, 1) := by decide +kernel
theorem dX3_numberAt_6 : decode cX3_numberAt 6 = .ok (.invokevirtual 52, 3) := by decide +kernel
theorem dX3_numberAt_9 : decode cX3_numberAt 9 = .ok (.invokevirtual 36, 3) := by decide +kernel
theorem dX3_numberAt_12 : decode cX3_numberAt 12 = .ok (.ireturn, 1) := by decide +kernel
theorem dX3_renumber_0 : decode cX3_renumber 0 = .ok (.aload_n 0, 1) := by decide +kernel
theorem dX3_renumber_1 : decode cX3_renumber 1 = .ok (.getfield 14, 3) := by decide +kernel
theorem dX3_renumber_4 : decode cX3_renumber 4 = .ok (.aload_n 0, 1) := by decide +kernel
theorem dX3_renumber_5 : decode cX3_renumber 5 = .ok (.iload_n 1, 1) := by decide +kernel
theorem dX3_renumber_6 : decode cX3_renumber 6 = .ok (.invokevirtual 52, 3) := by decide +kernel
theorem dX3_renumber_9 : decode cX3_renumber 9 = .ok (.iload_n 2, 1) := by decide +kernel
theorem dX3_renumber_10 : decode cX3_renumber 10 = .ok (.invokevirtual 55, 3) := by decide +kernel
theorem dX3_renumber_13 : decode cX3_renumber 13 = .ok (.aload_n 0, 1) := by decide +kernel
theorem dX3_renumber_14 : decode cX3_renumber 14 = .ok (.invokevirtual 58, 3) := by decide +kernel
theorem dX3_renumber_17 : decode cX3_renumber 17 = .ok (.return_, 1) := by decide +kernel
theorem dX3_bytesOfKin_0 : decode cX3_bytesOfKin 0 = .ok (.iconst 1, 1) := by decide +kernel
theorem dX3_bytesOfKin_1 : decode cX3_bytesOfKin 1 = .ok (.iload_n 2, 1) := by decide +kernel
theorem dX3_bytesOfKin_2 : decode cX3_bytesOfKin 2 = .ok (.ishl, 1) := by decide +kernel
theorem dX3_bytesOfKin_3 : decode cX3_bytesOfKin 3 = .ok (.iconst 1, 1) := by decide +kernel
theorem dX3_bytesOfKin_4 : decode cX3_bytesOfKin 4 = .ok (.isub, 1) := by decide +kernel
theorem dX3_bytesOfKin_5 : decode cX3_bytesOfKin 5 = .ok (.istore_n 3, 1) := by decide +kernel
theorem dX3_bytesOfKin_6 : decode cX3_bytesOfKin 6 = .ok (.aload_n 0, 1) := by decide +kernel
theorem dX3_bytesOfKin_7 : decode cX3_bytesOfKin 7 = .ok (.invokevirtual 39, 3) := by decide +kernel
theorem dX3_bytesOfKin_10 : decode cX3_bytesOfKin 10 = .ok (.istore 4, 2) := by decide +kernel
theorem dX3_bytesOfKin_12 : decode cX3_bytesOfKin 12 = .ok (.iconst 0, 1) := by decide +kernel
theorem dX3_bytesOfKin_13 : decode cX3_bytesOfKin 13 = .ok (.istore 5, 2) := by decide +kernel
theorem dX3_bytesOfKin_15 : decode cX3_bytesOfKin 15 = .ok (.iconst 2, 1) := by decide +kernel
theorem dX3_bytesOfKin_16 : decode cX3_bytesOfKin 16 = .ok (.istore 6, 2) := by decide +kernel
theorem dX3_bytesOfKin_18 : decode cX3_bytesOfKin 18 = .ok (.iconst 0, 1) := by decide +kernel
theorem dX3_bytesOfKin_19 : decode cX3_bytesOfKin 19 = .ok (.istore 7, 2) := by decide +kernel
theorem dX3_bytesOfKin_21 : decode cX3_bytesOfKin 21 = .ok (.iload 7, 2) := by decide +kernel
theorem dX3_bytesOfKin_23 : decode cX3_bytesOfKin 23 = .ok (.iload 4, 2) := by decide +kernel
theorem dX3_bytesOfKin_25 : decode cX3_bytesOfKin 25 = .ok (.if_icmp .ge 44, 3) := by decide +kernel
theorem dX3_bytesOfKin_28 : decode cX3_bytesOfKin 28 = .ok (.aload_n 0, 1) := by decide +kernel
theorem dX3_bytesOfKin_29 : decode cX3_bytesOfKin 29 = .ok (.iload 6, 2) := by decide +kernel
theorem dX3_bytesOfKin_31 : decode cX3_bytesOfKin 31 = .ok (.invokevirtual 61, 3) := by decide +kernel
theorem dX3_bytesOfKin_34 : decode cX3_bytesOfKin 34 = .ok (.iload_n 1, 1) := by decide +kernel
theorem dX3_bytesOfKin_35 : decode cX3_bytesOfKin 35 = .ok (.ixor, 1) := by decide +kernel
theorem dX3_bytesOfKin_36 : decode cX3_bytesOfKin 36 = .ok (.iload_n 3, 1) := by decide +kernel
theorem dX3_bytesOfKin_37 : decode cX3_bytesOfKin 37 = .ok (.iand, 1) := by decide +kernel
theorem dX3_bytesOfKin_38 : decode cX3_bytesOfKin 38 = .ok (.ifCond .ne 14, 3) := by decide +kernel
theorem dX3_bytesOfKin_41 : decode cX3_bytesOfKin 41 = .ok (.iload 5, 2) := by decide +kernel
theorem dX3_bytesOfKin_43 : decode cX3_bytesOfKin 43 = .ok (.aload_n 0, 1) := by decide +kernel
theorem dX3_bytesOfKin_44 : decode cX3_bytesOfKin 44 = .ok (.iload 6, 2) := by decide +kernel
theorem dX3_bytesOfKin_46 : decode cX3_bytesOfKin 46 = .ok (.invokevirtual 49, 3) := by decide +kernel
theorem dX3_bytesOfKin_49 : decode cX3_bytesOfKin 49 = .ok (.iadd, 1) := by decide +kernel
theorem dX3_bytesOfKin_50 : decode cX3_bytesOfKin 50 = .ok (.istore 5, 2) := by decide +kernel
theorem dX3_bytesOfKin_52 : decode cX3_bytesOfKin 52 = .ok (.iload 6, 2) := by decide +kernel
theorem dX3_bytesOfKin_54 : decode cX3_bytesOfKin 54 = .ok (.aload_n 0, 1) := by decide +kernel
theorem dX3_bytesOfKin_55 : decode cX3_bytesOfKin 55 = .ok (.iload 6, 2) := by decide +kernel
theorem dX3_bytesOfKin_57 : decode cX3_bytesOfKin 57 = .ok (.invokevirtual 49, 3) := by decide +kernel
theorem dX3_bytesOfKin_60 : decode cX3_bytesOfKin 60 = .ok (.iadd, 1) := by decide +kernel
theorem dX3_bytesOfKin_61 : decode cX3_bytesOfKin 61 = .ok (.istore 6, 2) := by decide +kernel
theorem dX3_bytesOfKin_63 : decode cX3_bytesOfKin 63 = .ok (.iinc 7 1, 3) := by decide +kernel
theorem dX3_bytesOfKin_66 : decode cX3_bytesOfKin 66 = .ok (.goto (-45), 3) := by decide +kernel
theorem dX3_bytesOfKin_69 : decode cX3_bytesOfKin 69 = .ok (.iload 5, 2) := by decide +kernel
theorem dX3_bytesOfKin_71 : decode cX3_bytesOfKin 71 = .ok (.ireturn, 1) := by decide +kernel
theorem dX3_append_0 : decode cX3_append 0 = .ok (.aload_n 1, 1) := by decide +kernel
theorem dX3_append_1 : decode cX3_append 1 = .ok (.aload_n 0, 1) := by decide +kernel
theorem dX3_append_2 : decode cX3_append 2 = .ok (.getfield 14, 3) := by decide +kernel
theorem dX3_append_5 : decode cX3_append 5 = .ok (.aload_n 0, 1) := by decide +kernel
theorem dX3_append_6 : decode cX3_append 6 = .ok (.getfield 20, 3) := by decide +kernel
theorem dX3_append_9 : decode cX3_append 9 = .ok (.iload_n 2, 1) := by decide +kernel
theorem dX3_append_10 : decode cX3_append 10 = .ok (.invokevirtual 64, 3) := by decide +kernel
theorem dX3_append_13 : decode cX3_append 13 = .ok (.aload_n 0, 1) := by decide +kernel
theorem dX3_append_14 : decode cX3_append 14 = .ok (.aload_n 1, 1) := by decide +kernel
theorem dX3_append_15 : decode cX3_append 15 = .ok (.invokevirtual 68, 3) := by decide +kernel
theorem dX3_append_18 : decode cX3_append 18 = .ok (.invokevirtual 71, 3) := by decide +kernel
theorem dX3_append_21 : decode cX3_append 21 = .ok (.aload_n 0, 1) := by decide +kernel
theorem dX3_append_22 : decode cX3_append 22 = .ok (.invokevirtual 58, 3) := by decide +kernel
theorem dX3_append_25 : decode cX3_append 25 = .ok (.return_, 1) := by decide +kernel
theorem dX3_dealTo_0 : decode cX3_dealTo 0 = .ok (.aload_n 0, 1) := by decide +kernel
theorem dX3_dealTo_1 : decode cX3_dealTo 1 = .ok (.invokevirtual 39, 3) := by decide +kernel
theorem dX3_dealTo_4 : decode cX3_dealTo 4 = .ok (.istore 4, 2) := by decide +kernel
theorem dX3_dealTo_6 : decode cX3_dealTo 6 = .ok (.iconst 2, 1) := by decide +kernel
theorem dX3_dealTo_7 : decode cX3_dealTo 7 = .ok (.istore 5, 2) := by decide +kernel
theorem dX3_dealTo_9 : decode cX3_dealTo 9 = .ok (.iconst 0, 1) := by decide +kernel
theorem dX3_dealTo_10 : decode cX3_dealTo 10 = .ok (.istore 6, 2) := by decide +kernel
theorem dX3_dealTo_12 : decode cX3_dealTo 12 = .ok (.iload 6, 2) := by decide +kernel
theorem dX3_dealTo_14 : decode cX3_dealTo 14 = .ok (.iload 4, 2) := by decide +kernel
theorem dX3_dealTo_16 : decode cX3_dealTo 16 = .ok (.if_icmp .ge 72, 3) := by decide +kernel
theorem dX3_dealTo_19 : decode cX3_dealTo 19 = .ok (.aload_n 0, 1) := by decide +kernel
theorem dX3_dealTo_20 : decode cX3_dealTo 20 = .ok (.iload 5, 2) := by decide +kernel
theorem dX3_dealTo_22 : decode cX3_dealTo 22 = .ok (.invokevirtual 61, 3) := by decide +kernel
theorem dX3_dealTo_25 : decode cX3_dealTo 25 = .ok (.iload_n 3, 1) := by decide +kernel
theorem dX3_dealTo_26 : decode cX3_dealTo 26 = .ok (.iushr, 1) := by decide +kernel
theorem dX3_dealTo_27 : decode cX3_dealTo 27 = .ok (.iconst 1, 1) := by decide +kernel
theorem dX3_dealTo_28 : decode cX3_dealTo 28 = .ok (.iand, 1) := by decide +kernel
theorem dX3_dealTo_29 : decode cX3_dealTo 29 = .ok (.ifCond .ne 7, 3) := by decide +kernel
theorem dX3_dealTo_32 : decode cX3_dealTo 32 = .ok (.aload_n 1, 1) := by decide +kernel
theorem dX3_dealTo_33 : decode cX3_dealTo 33 = .ok (.goto 4, 3) := by decide +kernel
theorem dX3_dealTo_36 : decode cX3_dealTo 36 = .ok (.aload_n 2, 1) := by decide +kernel
theorem dX3_dealTo_37 : decode cX3_dealTo 37 = .ok (.astore 7, 2) := by decide +kernel
theorem dX3_dealTo_39 : decode cX3_dealTo 39 = .ok (.aload_n 0, 1) := by decide +kernel
theorem dX3_dealTo_40 : decode cX3_dealTo 40 = .ok (.iload 5, 2) := by decide +kernel
theorem dX3_dealTo_42 : decode cX3_dealTo 42 = .ok (.invokevirtual 49, 3) := by decide +kernel
theorem dX3_dealTo_45 : decode cX3_dealTo 45 = .ok (.istore 8, 2) := by decide +kernel
theorem dX3_dealTo_47 : decode cX3_dealTo 47 = .ok (.aload 7, 2) := by decide +kernel
theorem dX3_dealTo_49 : decode cX3_dealTo 49 = .ok (.getfield 14, 3) := by decide +kernel
theorem dX3_dealTo_52 : decode cX3_dealTo 52 = .ok (.aload 7, 2) := by decide +kernel
theorem dX3_dealTo_54 : decode cX3_dealTo 54 = .ok (.getfield 20, 3) := by decide +kernel
theorem dX3_dealTo_57 : decode cX3_dealTo 57 = .ok (.aload_n 0, 1) := by decide +kernel
theorem dX3_dealTo_58 : decode cX3_dealTo 58 = .ok (.getfield 14, 3) := by decide +kernel
theorem dX3_dealTo_61 : decode cX3_dealTo 61 = .ok (.iload 5, 2) := by decide +kernel
theorem dX3_dealTo_63 : decode cX3_dealTo 63 = .ok (.iload 8, 2) := by decide +kernel
theorem dX3_dealTo_65 : decode cX3_dealTo 65 = .ok (.invokevirtual 74, 3) := by decide +kernel
theorem dX3_dealTo_68 : decode cX3_dealTo 68 = .ok (.aload 7, 2) := by decide +kernel
theorem dX3_dealTo_70 : decode cX3_dealTo 70 = .ok (.iload 8, 2) := by decide +kernel
theorem dX3_dealTo_72 : decode cX3_dealTo 72 = .ok (.invokevirtual 71, 3) := by decide +kernel
theorem dX3_dealTo_75 : decode cX3_dealTo 75 = .ok (.iload 5, 2) := by decide +kernel
theorem dX3_dealTo_77 : decode cX3_dealTo 77 = .ok (.iload 8, 2) := by decide +kernel
theorem dX3_dealTo_79 : decode cX3_dealTo 79 = .ok (.iadd, 1) := by decide +kernel
theorem dX3_dealTo_80 : decode cX3_dealTo 80 = .ok (.istore 5, 2) := by decide +kernel
theorem dX3_dealTo_82 : decode cX3_dealTo 82 = .ok (.iinc 6 1, 3) := by decide +kernel
theorem dX3_dealTo_85 : decode cX3_dealTo 85 = .ok (.goto (-73), 3) := by decide +kernel
theorem dX3_dealTo_88 : decode cX3_dealTo 88 = .ok (.return_, 1) := by decide +kernel
theorem dX3_empty_0 : decode cX3_empty 0 = .ok (.aload_n 0, 1) := by decide +kernel
theorem dX3_empty_1 : decode cX3_empty 1 = .ok (.getfield 14, 3) := by decide +kernel
theorem dX3_empty_4 : decode cX3_empty 4 = .ok (.invokevirtual 78, 3) := by decide +kernel
theorem dX3_empty_7 : decode cX3_empty 7 = .ok (.aload_n 0, 1) := by decide +kernel
theorem dX3_empty_8 : decode cX3_empty 8 = .ok (.getfield 14, 3) := by decide +kernel
theorem dX3_empty_11 : decode cX3_empty 11 = .ok (.iconst 0, 1) := by decide +kernel
theorem dX3_empty_12 : decode cX3_empty 12 = .ok (.iload_n 1, 1) := by decide +kernel
theorem dX3_empty_13 : decode cX3_empty 13 = .ok (.invokevirtual 81, 3) := by decide +kernel
theorem dX3_empty_16 : decode cX3_empty 16 = .ok (.aload_n 0, 1) := by decide +kernel
theorem dX3_empty_17 : decode cX3_empty 17 = .ok (.iconst 2, 1) := by decide +kernel
theorem dX3_empty_18 : decode cX3_empty 18 = .ok (.putfield 20, 3) := by decide +kernel
theorem dX3_empty_21 : decode cX3_empty 21 = .ok (.return_, 1) := by decide +kernel
theorem dX3_copyFrom_0 : decode cX3_copyFrom 0 = .ok (.aload_n 0, 1) := by decide +kernel
theorem dX3_copyFrom_1 : decode cX3_copyFrom 1 = .ok (.getfield 14, 3) := by decide +kernel
theorem dX3_copyFrom_4 : decode cX3_copyFrom 4 = .ok (.aload_n 1, 1) := by decide +kernel
theorem dX3_copyFrom_5 : decode cX3_copyFrom 5 = .ok (.getfield 14, 3) := by decide +kernel
theorem dX3_copyFrom_8 : decode cX3_copyFrom 8 = .ok (.invokevirtual 84, 3) := by decide +kernel
theorem dX3_copyFrom_11 : decode cX3_copyFrom 11 = .ok (.aload_n 0, 1) := by decide +kernel
theorem dX3_copyFrom_12 : decode cX3_copyFrom 12 = .ok (.aload_n 1, 1) := by decide +kernel
theorem dX3_copyFrom_13 : decode cX3_copyFrom 13 = .ok (.getfield 20, 3) := by decide +kernel
theorem dX3_copyFrom_16 : decode cX3_copyFrom 16 = .ok (.putfield 20, 3) := by decide +kernel
theorem dX3_copyFrom_19 : decode cX3_copyFrom 19 = .ok (.return_, 1) := by decide +kernel
theorem dX3_seal_0 : decode cX3_seal 0 = .ok (.aload_n 0, 1) := by decide +kernel
theorem dX3_seal_1 : decode cX3_seal 1 = .ok (.getfield 14, 3) := by decide +kernel
theorem dX3_seal_4 : decode cX3_seal 4 = .ok (.bipush 60, 2) := by decide +kernel
theorem dX3_seal_6 : decode cX3_seal 6 = .ok (.aload_n 0, 1) := by decide +kernel
theorem dX3_seal_7 : decode cX3_seal 7 = .ok (.getfield 14, 3) := by decide +kernel
theorem dX3_seal_10 : decode cX3_seal 10 = .ok (.iconst 0, 1) := by decide +kernel
theorem dX3_seal_11 : decode cX3_seal 11 = .ok (.bipush 60, 2) := by decide +kernel
theorem dX3_seal_13 : decode cX3_seal 13 = .ok (.invokevirtual 32, 3) := by decide +kernel
theorem dX3_seal_16 : decode cX3_seal 16 = .ok (.invokevirtual 55, 3) := by decide +kernel
theorem dX3_seal_19 : decode cX3_seal 19 = .ok (.return_, 1) := by decide +kernel
theorem dX3_countRecord_0 : decode cX3_countRecord 0 = .ok (.aload_n 0, 1) := by decide +kernel
theorem dX3_countRecord_1 : decode cX3_countRecord 1 = .ok (.getfield 14, 3) := by decide +kernel
theorem dX3_countRecord_4 : decode cX3_countRecord 4 = .ok (.iconst 1, 1) := by decide +kernel
theorem dX3_countRecord_5 : decode cX3_countRecord 5 = .ok (.aload_n 0, 1) := by decide +kernel
theorem dX3_countRecord_6 : decode cX3_countRecord 6 = .ok (.getfield 14, 3) := by decide +kernel
theorem dX3_countRecord_9 : decode cX3_countRecord 9 = .ok (.iconst 1, 1) := by decide +kernel
theorem dX3_countRecord_10 : decode cX3_countRecord 10 = .ok (.invokevirtual 24, 3) := by decide +kernel
theorem dX3_countRecord_13 : decode cX3_countRecord 13 = .ok (.iconst 1, 1) := by decide +kernel
theorem dX3_countRecord_14 : decode cX3_countRecord 14 = .ok (.iadd, 1) := by decide +kernel
theorem dX3_countRecord_15 : decode cX3_countRecord 15 = .ok (.invokevirtual 81, 3) := by decide +kernel
theorem dX3_countRecord_18 : decode cX3_countRecord 18 = .ok (.aload_n 0, 1) := by decide +kernel
theorem dX3_countRecord_19 : decode cX3_countRecord 19 = .ok (.dup, 1) := by decide +kernel
theorem dX3_countRecord_20 : decode cX3_countRecord 20 = .ok (.getfield 20, 3) := by decide +kernel
theorem dX3_countRecord_23 : decode cX3_countRecord 23 = .ok (.iload_n 1, 1) := by decide +kernel
theorem dX3_countRecord_24 : decode cX3_countRecord 24 = .ok (.iadd, 1) := by decide +kernel
theorem dX3_countRecord_25 : decode cX3_countRecord 25 = .ok (.putfield 20, 3) := by decide +kernel
theorem dX3_countRecord_28 : decode cX3_countRecord 28 = .ok (.return_, 1) := by decide +kernel
theorem dX3_recordSizeAt_0 : decode cX3_recordSizeAt 0 = .ok (.aload_n 0, 1) := by decide +kernel
theorem dX3_recordSizeAt_1 : decode cX3_recordSizeAt 1 = .ok (.getfield 14, 3) := by decide +kernel
theorem dX3_recordSizeAt_4 : decode cX3_recordSizeAt 4 = .ok (.iload_n 1, 1) := by decide +kernel
theorem dX3_recordSizeAt_5 : decode cX3_recordSizeAt 5 = .ok (.invokevirtual 24, 3) := by decide +kernel
theorem dX3_recordSizeAt_8 : decode cX3_recordSizeAt 8 = .ok (.invokestatic 88, 3) := by decide +kernel
theorem dX3_recordSizeAt_11 : decode cX3_recordSizeAt 11 = .ok (.ireturn, 1) := by decide +kernel
theorem dX3_numberPlace_0 : decode cX3_numberPlace 0 = .ok (.iload_n 1, 1) := by decide +kernel
theorem dX3_numberPlace_1 : decode cX3_numberPlace 1 = .ok (.iconst 1, 1) := by decide +kernel
theorem dX3_numberPlace_2 : decode cX3_numberPlace 2 = .ok (.iadd, 1) := by decide +kernel
theorem dX3_numberPlace_3 : decode cX3_numberPlace 3 = .ok (.aload_n 0, 1) := by decide +kernel
theorem dX3_numberPlace_4 : decode cX3_numberPlace 4 = .ok (.getfield 14, 3) := by decide +kernel
theorem dX3_numberPlace_7 : decode cX3_numberPlace 7 = .ok (.iload_n 1, 1) := by decide +kernel
theorem dX3_numberPlace_8 : decode cX3_numberPlace 8 = .ok (.invokevirtual 24, 3) := by decide +kernel
theorem dX3_numberPlace_11 : decode cX3_numberPlace 11 = .ok (.iadd, 1) := by decide +kernel
theorem dX3_numberPlace_12 : decode cX3_numberPlace 12 = .ok (.ireturn, 1) := by decide +kernel
theorem dX3_hashAt_0 : decode cX3_hashAt 0 = .ok (.aload_n 0, 1) := by decide +kernel
theorem dX3_hashAt_1 : decode cX3_hashAt 1 = .ok (.getfield 14, 3) := by decide +kernel
theorem dX3_hashAt_4 : decode cX3_hashAt 4 = .ok (.iload_n 1, 1) := by decide +kernel
theorem dX3_hashAt_5 : decode cX3_hashAt 5 = .ok (.iconst 1, 1) := by decide +kernel
theorem dX3_hashAt_6 : decode cX3_hashAt 6 = .ok (.iadd, 1) := by decide +kernel
theorem dX3_hashAt_7 : decode cX3_hashAt 7 = .ok (.aload_n 0, 1) := by decide +kernel
theorem dX3_hashAt_8 : decode cX3_hashAt 8 = .ok (.getfield 14, 3) := by decide +kernel
theorem dX3_hashAt_11 : decode cX3_hashAt 11 = .ok (.iload_n 1, 1) := by decide +kernel
theorem dX3_hashAt_12 : decode cX3_hashAt 12 = .ok (.invokevirtual 24, 3) := by decide +kernel
theorem dX3_hashAt_15 : decode cX3_hashAt 15 = .ok (.invokevirtual 32, 3) := by decide +kernel
theorem dX3_hashAt_18 : decode cX3_hashAt 18 = .ok (.ireturn, 1) := by decide +kernel
theorem dX4_init_0 : decode cX4_init 0 = .ok (.aload_n 0, 1) := by decide +kernel
theorem dX4_init_1 : decode cX4_init 1 = .ok (.invokespecial 3, 3) := by decide +kernel
theorem dX4_init_4 : decode cX4_init 4 = .ok (.aload_n 0, 1) := by decide +kernel
theorem dX4_init_5 : decode cX4_init 5 = .ok (.iconst 0, 1) := by decide +kernel
theorem dX4_init_6 : decode cX4_init 6 = .ok (.iload_n 1, 1) := by decide +kernel
theorem dX4_init_7 : decode cX4_init 7 = .ok (.invokestatic 9, 3) := by decide +kernel
theorem dX4_init_10 : decode cX4_init 10 = .ok (.newarray .int, 2) := by decide +kernel
theorem dX4_init_12 : decode cX4_init 12 = .ok (.putfield 15, 3) := by decide +kernel
theorem dX4_init_15 : decode cX4_init 15 = .ok (.return_, 1) := by decide +kernel
theorem dX4_get_0 : decode cX4_get 0 = .ok (.iload_n 1, 1) := by decide +kernel
theorem dX4_get_1 : decode cX4_get 1 = .ok (.ifCond .lt 21, 3) := by decide +kernel
theorem dX4_get_4 : decode cX4_get 4 = .ok (.iload_n 1, 1) := by decide +kernel
theorem dX4_get_5 : decode cX4_get 5 = .ok (.aload_n 0, 1) := by decide +kernel
theorem dX4_get_6 : decode cX4_get 6 = .ok (.getfield 15, 3) := by decide +kernel
theorem dX4_get_9 : decode cX4_get 9 = .ok (.arraylength, 1) := by decide +kernel
theorem dX4_get_10 : decode cX4_get 10 = .ok (.if_icmp .ge 12, 3) := by decide +kernel
theorem dX4_get_13 : decode cX4_get 13 = .ok (.aload_n 0, 1) := by decide +kernel
theorem dX4_get_14 : decode cX4_get 14 = .ok (.getfield 15, 3) := by decide +kernel
theorem dX4_get_17 : decode cX4_get 17 = .ok (.iload_n 1, 1) := by decide +kernel
theorem dX4_get_18 : decode cX4_get 18 = .ok (.iaload, 1) := by decide +kernel
theorem dX4_get_19 : decode cX4_get 19 = .ok (.goto 4, 3) := by decide +kernel
theorem dX4_get_22 : decode cX4_get 22 = .ok (.iconst 0, 1) := by decide +kernel
theorem dX4_get_23 : decode cX4_get 23 = .ok (.ireturn, 1) := by decide +kernel
theorem dX4_set_0 : decode cX4_set 0 = .ok (.iload_n 1, 1) := by decide +kernel
theorem dX4_set_1 : decode cX4_set 1 = .ok (.ifCond .lt 19, 3) := by decide +kernel
theorem dX4_set_4 : decode cX4_set 4 = .ok (.iload_n 1, 1) := by decide +kernel
theorem dX4_set_5 : decode cX4_set 5 = .ok (.aload_n 0, 1) := by decide +kernel
theorem dX4_set_6 : decode cX4_set 6 = .ok (.getfield 15, 3) := by decide +kernel
theorem dX4_set_9 : decode cX4_set 9 = .ok (.arraylength, 1) := by decide +kernel
theorem dX4_set_10 : decode cX4_set 10 = .ok (.if_icmp .ge 10, 3) := by decide +kernel
theorem dX4_set_13 : decode cX4_set 13 = .ok (.aload_n 0, 1) := by decide +kernel
theorem dX4_set_14 : decode cX4_set 14 = .ok (.getfield 15, 3) := by decide +kernel
theorem dX4_set_17 : decode cX4_set 17 = .ok (.iload_n 1, 1) := by decide +kernel
theorem dX4_set_18 : decode cX4_set 18 = .ok (.iload_n 2, 1) := by decide +kernel
theorem dX4_set_19 : decode cX4_set 19 = .ok (.iastore, 1) := by decide +kernel
theorem dX4_set_20 : decode cX4_set 20 = .ok (.return_, 1) := by decide +kernel
theorem dX4_flip_0 : decode cX4_flip 0 = .ok (.aload_n 0, 1) := by decide +kernel
theorem dX4_flip_1 : decode cX4_flip 1 = .ok (.iload_n 1, 1) := by decide +kernel
theorem dX4_flip_2 : decode cX4_flip 2 = .ok (.aload_n 0, 1) := by decide +kernel
theorem dX4_flip_3 : decode cX4_flip 3 = .ok (.iload_n 1, 1) := by decide +kernel
theorem dX4_flip_4 : decode cX4_flip 4 = .ok (.invokevirtual 21, 3) := by decide +kernel
theorem dX4_flip_7 : decode cX4_flip 7 = .ok (.iload_n 2, 1) := by decide +kernel
theorem dX4_flip_8 : decode cX4_flip 8 = .ok (.ixor, 1) := by decide +kernel
theorem dX4_flip_9 : decode cX4_flip 9 = .ok (.invokevirtual 25, 3) := by decide +kernel
theorem dX4_flip_12 : decode cX4_flip 12 = .ok (.return_, 1) := by decide +kernel
theorem dX4_sum_0 : decode cX4_sum 0 = .ok (.iconst 0, 1) := by decide +kernel
theorem dX4_sum_1 : decode cX4_sum 1 = .ok (.istore_n 3, 1) := by decide +kernel
theorem dX4_sum_2 : decode cX4_sum 2 = .ok (.iload_n 1, 1) := by decide +kernel
theorem dX4_sum_3 : decode cX4_sum 3 = .ok (.istore 4, 2) := by decide +kernel
theorem dX4_sum_5 : decode cX4_sum 5 = .ok (.iload 4, 2) := by decide +kernel
theorem dX4_sum_7 : decode cX4_sum 7 = .ok (.iload_n 1, 1) := by decide +kernel
theorem dX4_sum_8 : decode cX4_sum 8 = .ok (.iload_n 2, 1) := by decide +kernel
theorem dX4_sum_9 : decode cX4_sum 9 = .ok (.iadd, 1) := by decide +kernel
theorem dX4_sum_10 : decode cX4_sum 10 = .ok (.if_icmp .ge 58, 3) := by decide +kernel
theorem dX4_sum_13 : decode cX4_sum 13 = .ok (.iload 4, 2) := by decide +kernel
theorem dX4_sum_15 : decode cX4_sum 15 = .ok (.ifCond .lt 23, 3) := by decide +kernel
theorem dX4_sum_18 : decode cX4_sum 18 = .ok (.iload 4, 2) := by decide +kernel
theorem dX4_sum_20 : decode cX4_sum 20 = .ok (.aload_n 0, 1) := by decide +kernel
theorem dX4_sum_21 : decode cX4_sum 21 = .ok (.getfield 15, 3) := by decide +kernel
theorem dX4_sum_24 : decode cX4_sum 24 = .ok (.arraylength, 1) := by decide +kernel
theorem dX4_sum_25 : decode cX4_sum 25 = .ok (.if_icmp .ge 13, 3) := by decide +kernel
theorem dX4_sum_28 : decode cX4_sum 28 = .ok (.aload_n 0, 1) := by decide +kernel
theorem dX4_sum_29 : decode cX4_sum 29 = .ok (.getfield 15, 3) := by decide +kernel
theorem dX4_sum_32 : decode cX4_sum 32 = .ok (.iload 4, 2) := by decide +kernel
theorem dX4_sum_34 : decode cX4_sum 34 = .ok (.iaload, 1) := by decide +kernel
theorem dX4_sum_35 : decode cX4_sum 35 = .ok (.goto 4, 3) := by decide +kernel
theorem dX4_sum_38 : decode cX4_sum 38 = .ok (.iconst 0, 1) := by decide +kernel
theorem dX4_sum_39 : decode cX4_sum 39 = .ok (.istore 5, 2) := by decide +kernel
theorem dX4_sum_41 : decode cX4_sum 41 = .ok (.iload_n 3, 1) := by decide +kernel
theorem dX4_sum_42 : decode cX4_sum 42 = .ok (.iload 5, 2) := by decide +kernel
theorem dX4_sum_44 : decode cX4_sum 44 = .ok (.ixor, 1) := by decide +kernel
theorem dX4_sum_45 : decode cX4_sum 45 = .ok (.istore 6, 2) := by decide +kernel
theorem dX4_sum_47 : decode cX4_sum 47 = .ok (.iload 6, 2) := by decide +kernel
theorem dX4_sum_49 : decode cX4_sum 49 = .ok (.bipush 11, 2) := by decide +kernel
theorem dX4_sum_51 : decode cX4_sum 51 = .ok (.ishl, 1) := by decide +kernel
theorem dX4_sum_52 : decode cX4_sum 52 = .ok (.iload 6, 2) := by decide +kernel
theorem dX4_sum_54 : decode cX4_sum 54 = .ok (.bipush 21, 2) := by decide +kernel
theorem dX4_sum_56 : decode cX4_sum 56 = .ok (.iushr, 1) := by decide +kernel
theorem dX4_sum_57 : decode cX4_sum 57 = .ok (.ior, 1) := by decide +kernel
theorem dX4_sum_58 : decode cX4_sum 58 = .ok (.ldc 29, 2) := by decide +kernel
theorem dX4_sum_60 : decode cX4_sum 60 = .ok (.imul, 1) := by decide +kernel
theorem dX4_sum_61 : decode cX4_sum 61 = .ok (.istore_n 3, 1) := by decide +kernel
theorem dX4_sum_62 : decode cX4_sum 62 = .ok (.iinc 4 1, 3) := by decide +kernel
theorem dX4_sum_65 : decode cX4_sum 65 = .ok (.goto (-60), 3) := by decide +kernel
theorem dX4_sum_68 : decode cX4_sum 68 = .ok (.iload_n 3, 1) := by decide +kernel
theorem dX4_sum_69 : decode cX4_sum 69 = .ok (.ireturn, 1) := by decide +kernel
theorem dX4_number_0 : decode cX4_number 0 = .ok (.iconst 0, 1) := by decide +kernel
theorem dX4_number_1 : decode cX4_number 1 = .ok (.istore_n 2, 1) := by decide +kernel
theorem dX4_number_2 : decode cX4_number 2 = .ok (.iconst 0, 1) := by decide +kernel
theorem dX4_number_3 : decode cX4_number 3 = .ok (.istore_n 3, 1) := by decide +kernel
theorem dX4_number_4 : decode cX4_number 4 = .ok (.iload_n 3, 1) := by decide +kernel
theorem dX4_number_5 : decode cX4_number 5 = .ok (.iconst 4, 1) := by decide +kernel
theorem dX4_number_6 : decode cX4_number 6 = .ok (.if_icmp .ge 22, 3) := by decide +kernel
theorem dX4_number_9 : decode cX4_number 9 = .ok (.iload_n 2, 1) := by decide +kernel
theorem dX4_number_10 : decode cX4_number 10 = .ok (.bipush 8, 2) := by decide +kernel
theorem dX4_number_12 : decode cX4_number 12 = .ok (.ishl, 1) := by decide +kernel
theorem dX4_number_13 : decode cX4_number 13 = .ok (.aload_n 0, 1) := by decide +kernel
theorem dX4_number_14 : decode cX4_number 14 = .ok (.iload_n 1, 1) := by decide +kernel
theorem dX4_number_15 : decode cX4_number 15 = .ok (.iload_n 3, 1) := by decide +kernel
theorem dX4_number_16 : decode cX4_number 16 = .ok (.iadd, 1) := by decide +kernel
theorem dX4_number_17 : decode cX4_number 17 = .ok (.invokevirtual 21, 3) := by decide +kernel
theorem dX4_number_20 : decode cX4_number 20 = .ok (.ior, 1) := by decide +kernel
theorem dX4_number_21 : decode cX4_number 21 = .ok (.istore_n 2, 1) := by decide +kernel
theorem dX4_number_22 : decode cX4_number 22 = .ok (.iinc 3 1, 3) := by decide +kernel
theorem dX4_number_25 : decode cX4_number 25 = .ok (.goto (-21), 3) := by decide +kernel
theorem dX4_number_28 : decode cX4_number 28 = .ok (.iload_n 2, 1) := by decide +kernel
theorem dX4_number_29 : decode cX4_number 29 = .ok (.ireturn, 1) := by decide +kernel
theorem dX4_setNumber_0 : decode cX4_setNumber 0 = .ok (.iconst 0, 1) := by decide +kernel
theorem dX4_setNumber_1 : decode cX4_setNumber 1 = .ok (.istore_n 3, 1) := by decide +kernel
theorem dX4_setNumber_2 : decode cX4_setNumber 2 = .ok (.iload_n 3, 1) := by decide +kernel
theorem dX4_setNumber_3 : decode cX4_setNumber 3 = .ok (.iconst 4, 1) := by decide +kernel
theorem dX4_setNumber_4 : decode cX4_setNumber 4 = .ok (.if_icmp .ge 28, 3) := by decide +kernel
theorem dX4_setNumber_7 : decode cX4_setNumber 7 = .ok (.aload_n 0, 1) := by decide +kernel
theorem dX4_setNumber_8 : decode cX4_setNumber 8 = .ok (.iload_n 1, 1) := by decide +kernel
theorem dX4_setNumber_9 : decode cX4_setNumber 9 = .ok (.iload_n 3, 1) := by decide +kernel
theorem dX4_setNumber_10 : decode cX4_setNumber 10 = .ok (.iadd, 1) := by decide +kernel
theorem dX4_setNumber_11 : decode cX4_setNumber 11 = .ok (.iload_n 2, 1) := by decide +kernel
theorem dX4_setNumber_12 : decode cX4_setNumber 12 = .ok (.bipush 8, 2) := by decide +kernel
theorem dX4_setNumber_14 : decode cX4_setNumber 14 = .ok (.iconst 3, 1) := by decide +kernel
theorem dX4_setNumber_15 : decode cX4_setNumber 15 = .ok (.iload_n 3, 1) := by decide +kernel
theorem dX4_setNumber_16 : decode cX4_setNumber 16 = .ok (.isub, 1) := by decide +kernel
theorem dX4_setNumber_17 : decode cX4_setNumber 17 = .ok (.imul, 1) := by decide +kernel
theorem dX4_setNumber_18 : decode cX4_setNumber 18 = .ok (.iushr, 1) := by decide +kernel
theorem dX4_setNumber_19 : decode cX4_setNumber 19 = .ok (.sipush 255, 3) := by decide +kernel
theorem dX4_setNumber_22 : decode cX4_setNumber 22 = .ok (.iand, 1) := by decide +kernel
theorem dX4_setNumber_23 : decode cX4_setNumber 23 = .ok (.invokevirtual 25, 3) := by decide +kernel
theorem dX4_setNumber_26 : decode cX4_setNumber 26 = .ok (.iinc 3 1, 3) := by decide +kernel
theorem dX4_setNumber_29 : decode cX4_setNumber 29 = .ok (.goto (-27), 3) := by decide +kernel
theorem dX4_setNumber_32 : decode cX4_setNumber 32 = .ok (.return_, 1) := by decide +kernel
theorem dX4_isSame_0 : decode cX4_isSame 0 = .ok (.iconst 0, 1) := by decide +kernel
theorem dX4_isSame_1 : decode cX4_isSame 1 = .ok (.istore 5, 2) := by decide +kernel
theorem dX4_isSame_3 : decode cX4_isSame 3 = .ok (.iload 5, 2) := by decide +kernel
theorem dX4_isSame_5 : decode cX4_isSame 5 = .ok (.iload 4, 2) := by decide +kernel
theorem dX4_isSame_7 : decode cX4_isSame 7 = .ok (.if_icmp .ge 30, 3) := by decide +kernel
theorem dX4_isSame_10 : decode cX4_isSame 10 = .ok (.aload_n 0, 1) := by decide +kernel
theorem dX4_isSame_11 : decode cX4_isSame 11 = .ok (.iload_n 1, 1) := by decide +kernel
theorem dX4_isSame_12 : decode cX4_isSame 12 = .ok (.iload 5, 2) := by decide +kernel
theorem dX4_isSame_14 : decode cX4_isSame 14 = .ok (.iadd, 1) := by decide +kernel
theorem dX4_isSame_15 : decode cX4_isSame 15 = .ok (.invokevirtual 21, 3) := by decide +kernel
theorem dX4_isSame_18 : decode cX4_isSame 18 = .ok (.aload_n 2, 1) := by decide +kernel
theorem dX4_isSame_19 : decode cX4_isSame 19 = .ok (.iload_n 3, 1) := by decide +kernel
theorem dX4_isSame_20 : decode cX4_isSame 20 = .ok (.iload 5, 2) := by decide +kernel
theorem dX4_isSame_22 : decode cX4_isSame 22 = .ok (.iadd, 1) := by decide +kernel
theorem dX4_isSame_23 : decode cX4_isSame 23 = .ok (.invokevirtual 21, 3) := by decide +kernel
theorem dX4_isSame_26 : decode cX4_isSame 26 = .ok (.if_icmp .eq 5, 3) := by decide +kernel
theorem dX4_isSame_29 : decode cX4_isSame 29 = .ok (.iconst 0, 1) := by decide +kernel
theorem dX4_isSame_30 : decode cX4_isSame 30 = .ok (.ireturn, 1) := by decide +kernel
theorem dX4_isSame_31 : decode cX4_isSame 31 = .ok (.iinc 5 1, 3) := by decide +kernel
theorem dX4_isSame_34 : decode cX4_isSame 34 = .ok (.goto (-31), 3) := by decide +kernel
theorem dX4_isSame_37 : decode cX4_isSame 37 = .ok (.iconst 1, 1) := by decide +kernel
theorem dX4_isSame_38 : decode cX4_isSame 38 = .ok (.ireturn, 1) := by decide +kernel
theorem dX4_copyPart_0 : decode cX4_copyPart 0 = .ok (.iconst 0, 1) := by decide +kernel
theorem dX4_copyPart_1 : decode cX4_copyPart 1 = .ok (.istore 5, 2) := by decide +kernel
theorem dX4_copyPart_3 : decode cX4_copyPart 3 = .ok (.iload 5, 2) := by decide +kernel
theorem dX4_copyPart_5 : decode cX4_copyPart 5 = .ok (.iload 4, 2) := by decide +kernel
theorem dX4_copyPart_7 : decode cX4_copyPart 7 = .ok (.if_icmp .ge 25, 3) := by decide +kernel
theorem dX4_copyPart_10 : decode cX4_copyPart 10 = .ok (.aload_n 0, 1) := by decide +kernel
theorem dX4_copyPart_11 : decode cX4_copyPart 11 = .ok (.iload_n 1, 1) := by decide +kernel
theorem dX4_copyPart_12 : decode cX4_copyPart 12 = .ok (.iload 5, 2) := by decide +kernel
theorem dX4_copyPart_14 : decode cX4_copyPart 14 = .ok (.iadd, 1) := by decide +kernel
theorem dX4_copyPart_15 : decode cX4_copyPart 15 = .ok (.aload_n 2, 1) := by decide +kernel
theorem dX4_copyPart_16 : decode cX4_copyPart 16 = .ok (.iload_n 3, 1) := by decide +kernel
theorem dX4_copyPart_17 : decode cX4_copyPart 17 = .ok (.iload 5, 2) := by decide +kernel
theorem dX4_copyPart_19 : decode cX4_copyPart 19 = .ok (.iadd, 1) := by decide +kernel
theorem dX4_copyPart_20 : decode cX4_copyPart 20 = .ok (.invokevirtual 21, 3) := by decide +kernel
theorem dX4_copyPart_23 : decode cX4_copyPart 23 = .ok (.invokevirtual 25, 3) := by decide +kernel
theorem dX4_copyPart_26 : decode cX4_copyPart 26 = .ok (.iinc 5 1, 3) := by decide +kernel
theorem dX4_copyPart_29 : decode cX4_copyPart 29 = .ok (.goto (-26), 3) := by decide +kernel
theorem dX4_copyPart_32 : decode cX4_copyPart 32 = .ok (.return_, 1) := by decide +kernel
theorem dX4_copyFrom_0 : decode cX4_copyFrom 0 = .ok (.aload_n 1, 1) := by decide +kernel
theorem dX4_copyFrom_1 : decode cX4_copyFrom 1 = .ok (.getfield 15, 3) := by decide +kernel
theorem dX4_copyFrom_4 : decode cX4_copyFrom 4 = .ok (.iconst 0, 1) := by decide +kernel
theorem dX4_copyFrom_5 : decode cX4_copyFrom 5 = .ok (.aload_n 0, 1) := by decide +kernel
theorem dX4_copyFrom_6 : decode cX4_copyFrom 6 = .ok (.getfield 15, 3) := by decide +kernel
theorem dX4_copyFrom_9 : decode cX4_copyFrom 9 = .ok (.iconst 0, 1) := by decide +kernel
theorem dX4_copyFrom_10 : decode cX4_copyFrom 10 = .ok (.aload_n 0, 1) := by decide +kernel
theorem dX4_copyFrom_11 : decode cX4_copyFrom 11 = .ok (.getfield 15, 3) := by decide +kernel
theorem dX4_copyFrom_14 : decode cX4_copyFrom 14 = .ok (.arraylength, 1) := by decide +kernel
theorem dX4_copyFrom_15 : decode cX4_copyFrom 15 = .ok (.aload_n 1, 1) := by decide +kernel
theorem dX4_copyFrom_16 : decode cX4_copyFrom 16 = .ok (.getfield 15, 3) := by decide +kernel
theorem dX4_copyFrom_19 : decode cX4_copyFrom 19 = .ok (.arraylength, 1) := by decide +kernel
theorem dX4_copyFrom_20 : decode cX4_copyFrom 20 = .ok (.invokestatic 30, 3) := by decide +kernel
theorem dX4_copyFrom_23 : decode cX4_copyFrom 23 = .ok (.invokestatic 33, 3) := by decide +kernel
theorem dX4_copyFrom_26 : decode cX4_copyFrom 26 = .ok (.return_, 1) := by decide +kernel
theorem dX4_clear_0 : decode cX4_clear 0 = .ok (.aload_n 0, 1) := by decide +kernel
theorem dX4_clear_1 : decode cX4_clear 1 = .ok (.getfield 15, 3) := by decide +kernel
theorem dX4_clear_4 : decode cX4_clear 4 = .ok (.iconst 0, 1) := by decide +kernel
theorem dX4_clear_5 : decode cX4_clear 5 = .ok (.invokestatic 39, 3) := by decide +kernel
theorem dX4_clear_8 : decode cX4_clear 8 = .ok (.return_, 1) := by decide +kernel
theorem dX5_init_0 : decode cX5_init 0 = .ok (.aload_n 0, 1) := by decide +kernel
theorem dX5_init_1 : decode cX5_init 1 = .ok (.invokespecial 3, 3) := by decide +kernel
theorem dX5_init_4 : decode cX5_init 4 = .ok (.aload_n 0, 1) := by decide +kernel
theorem dX5_init_5 : decode cX5_init 5 = .ok (.new 9, 3) := by decide +kernel
theorem dX5_init_8 : decode cX5_init 8 = .ok (.dup, 1) := by decide +kernel
theorem dX5_init_9 : decode cX5_init 9 = .ok (.invokespecial 11, 3) := by decide +kernel
theorem dX5_init_12 : decode cX5_init 12 = .ok (.putfield 12, 3) := by decide +kernel
theorem dX5_init_15 : decode cX5_init 15 = .ok (.aload_n 0, 1) := by decide +kernel
theorem dX5_init_16 : decode cX5_init 16 = .ok (.new 18, 3) := by decide +kernel
theorem dX5_init_19 : decode cX5_init 19 = .ok (.dup, 1) := by decide +kernel
theorem dX5_init_20 : decode cX5_init 20 = .ok (.bipush 32, 2) := by decide +kernel
theorem dX5_init_22 : decode cX5_init 22 = .ok (.invokespecial 20, 3) := by decide +kernel
theorem dX5_init_25 : decode cX5_init 25 = .ok (.putfield 23, 3) := by decide +kernel
theorem dX5_init_28 : decode cX5_init 28 = .ok (.aload_n 0, 1) := by decide +kernel
theorem dX5_init_29 : decode cX5_init 29 = .ok (.iconst 0, 1) := by decide +kernel
theorem dX5_init_30 : decode cX5_init 30 = .ok (.putfield 27, 3) := by decide +kernel
theorem dX5_init_33 : decode cX5_init 33 = .ok (.aload_n 0, 1) := by decide +kernel
theorem dX5_init_34 : decode cX5_init 34 = .ok (.iconst 1, 1) := by decide +kernel
theorem dX5_init_35 : decode cX5_init 35 = .ok (.putfield 31, 3) := by decide +kernel
theorem dX5_init_38 : decode cX5_init 38 = .ok (.aload_n 0, 1) := by decide +kernel
theorem dX5_init_39 : decode cX5_init 39 = .ok (.iconst 0, 1) := by decide +kernel
theorem dX5_init_40 : decode cX5_init 40 = .ok (.putfield 34, 3) := by decide +kernel
theorem dX5_init_43 : decode cX5_init 43 = .ok (.aload_n 0, 1) := by decide +kernel
theorem dX5_init_44 : decode cX5_init 44 = .ok (.iconst 1, 1) := by decide +kernel
theorem dX5_init_45 : decode cX5_init 45 = .ok (.iload_n 1, 1) := by decide +kernel
theorem dX5_init_46 : decode cX5_init 46 = .ok (.invokestatic 37, 3) := by decide +kernel
theorem dX5_init_49 : decode cX5_init 49 = .ok (.anewarray 9, 3) := by decide +kernel
theorem dX5_init_52 : decode cX5_init 52 = .ok (.putfield 43, 3) := by decide +kernel
theorem dX5_init_55 : decode cX5_init 55 = .ok (.iconst 0, 1) := by decide +kernel
theorem dX5_init_56 : decode cX5_init 56 = .ok (.istore_n 2, 1) := by decide +kernel
theorem dX5_init_57 : decode cX5_init 57 = .ok (.iload_n 2, 1) := by decide +kernel
theorem dX5_init_58 : decode cX5_init 58 = .ok (.aload_n 0, 1) := by decide +kernel
theorem dX5_init_59 : decode cX5_init 59 = .ok (.getfield 43, 3) := by decide +kernel
theorem dX5_init_62 : decode cX5_init 62 = .ok (.arraylength, 1) := by decide +kernel
theorem dX5_init_63 : decode cX5_init 63 = .ok (.if_icmp .ge 22, 3) := by decide +kernel
theorem dX5_init_66 : decode cX5_init 66 = .ok (.aload_n 0, 1) := by decide +kernel
theorem dX5_init_67 : decode cX5_init 67 = .ok (.getfield 43, 3) := by decide +kernel
theorem dX5_init_70 : decode cX5_init 70 = .ok (.iload_n 2, 1) := by decide +kernel
theorem dX5_init_71 : decode cX5_init 71 = .ok (.new 9, 3) := by decide +kernel
theorem dX5_init_74 : decode cX5_init 74 = .ok (.dup, 1) := by decide +kernel
theorem dX5_init_75 : decode cX5_init 75 = .ok (.invokespecial 11, 3) := by decide +kernel
theorem dX5_init_78 : decode cX5_init 78 = .ok (.aastore, 1) := by decide +kernel
theorem dX5_init_79 : decode cX5_init 79 = .ok (.iinc 2 1, 3) := by decide +kernel
theorem dX5_init_82 : decode cX5_init 82 = .ok (.goto (-25), 3) := by decide +kernel
theorem dX5_init_85 : decode cX5_init 85 = .ok (.return_, 1) := by decide +kernel
theorem dX5_size_0 : decode cX5_size 0 = .ok (.aload_n 0, 1) := by decide +kernel
theorem dX5_size_1 : decode cX5_size 1 = .ok (.getfield 43, 3) := by decide +kernel
theorem dX5_size_4 : decode cX5_size 4 = .ok (.arraylength, 1) := by decide +kernel
theorem dX5_size_5 : decode cX5_size 5 = .ok (.ireturn, 1) := by decide +kernel
theorem dX5_depth_0 : decode cX5_depth 0 = .ok (.aload_n 0, 1) := by decide +kernel
theorem dX5_depth_1 : decode cX5_depth 1 = .ok (.getfield 27, 3) := by decide +kernel
theorem dX5_depth_4 : decode cX5_depth 4 = .ok (.ireturn, 1) := by decide +kernel
theorem dX5_used_0 : decode cX5_used 0 = .ok (.aload_n 0, 1) := by decide +kernel
theorem dX5_used_1 : decode cX5_used 1 = .ok (.getfield 31, 3) := by decide +kernel
theorem dX5_used_4 : decode cX5_used 4 = .ok (.ireturn, 1) := by decide +kernel
theorem dX5_acts_0 : decode cX5_acts 0 = .ok (.aload_n 0, 1) := by decide +kernel
theorem dX5_acts_1 : decode cX5_acts 1 = .ok (.getfield 34, 3) := by decide +kernel
theorem dX5_acts_4 : decode cX5_acts 4 = .ok (.ireturn, 1) := by decide +kernel
theorem dX5_entries_0 : decode cX5_entries 0 = .ok (.iconst 1, 1) := by decide +kernel
theorem dX5_entries_1 : decode cX5_entries 1 = .ok (.aload_n 0, 1) := by decide +kernel
theorem dX5_entries_2 : decode cX5_entries 2 = .ok (.getfield 27, 3) := by decide +kernel
theorem dX5_entries_5 : decode cX5_entries 5 = .ok (.ishl, 1) := by decide +kernel
theorem dX5_entries_6 : decode cX5_entries 6 = .ok (.ireturn, 1) := by decide +kernel
theorem dX5_pageAtEntry_0 : decode cX5_pageAtEntry 0 = .ok (.aload_n 0, 1) := by decide +kernel
theorem dX5_pageAtEntry_1 : decode cX5_pageAtEntry 1 = .ok (.getfield 23, 3) := by decide +kernel
theorem dX5_pageAtEntry_4 : decode cX5_pageAtEntry 4 = .ok (.iload_n 1, 1) := by decide +kernel
theorem dX5_pageAtEntry_5 : decode cX5_pageAtEntry 5 = .ok (.invokevirtual 47, 3) := by decide +kernel
theorem dX5_pageAtEntry_8 : decode cX5_pageAtEntry 8 = .ok (.ireturn, 1) := by decide +kernel
theorem dX5_page_0 : decode cX5_page 0 = .ok (.iload_n 1, 1) := by decide +kernel
theorem dX5_page_1 : decode cX5_page 1 = .ok (.ifCond .lt 21, 3) := by decide +kernel
theorem dX5_page_4 : decode cX5_page 4 = .ok (.iload_n 1, 1) := by decide +kernel
theorem dX5_page_5 : decode cX5_page 5 = .ok (.aload_n 0, 1) := by decide +kernel
theorem dX5_page_6 : decode cX5_page 6 = .ok (.getfield 43, 3) := by decide +kernel
theorem dX5_page_9 : decode cX5_page 9 = .ok (.arraylength, 1) := by decide +kernel
theorem dX5_page_10 : decode cX5_page 10 = .ok (.if_icmp .ge 12, 3) := by decide +kernel
theorem dX5_page_13 : decode cX5_page 13 = .ok (.aload_n 0, 1) := by decide +kernel
theorem dX5_page_14 : decode cX5_page 14 = .ok (.getfield 43, 3) := by decide +kernel
theorem dX5_page_17 : decode cX5_page 17 = .ok (.iload_n 1, 1) := by decide +kernel
theorem dX5_page_18 : decode cX5_page 18 = .ok (.aaload, 1) := by decide +kernel
theorem dX5_page_19 : decode cX5_page 19 = .ok (.goto 7, 3) := by decide +kernel
theorem dX5_page_22 : decode cX5_page 22 = .ok (.aload_n 0, 1) := by decide +kernel
theorem dX5_page_23 : decode cX5_page 23 = .ok (.getfield 12, 3) := by decide +kernel
theorem dX5_page_26 : decode cX5_page 26 = .ok (.areturn, 1) := by decide +kernel
theorem dX5_names_0 : decode cX5_names 0 = .ok (.iconst 0, 1) := by decide +kernel
theorem dX5_names_1 : decode cX5_names 1 = .ok (.istore_n 1, 1) := by decide +kernel
theorem dX5_names_2 : decode cX5_names 2 = .ok (.iconst 0, 1) := by decide +kernel
theorem dX5_names_3 : decode cX5_names 3 = .ok (.istore_n 2, 1) := by decide +kernel
theorem dX5_names_4 : decode cX5_names 4 = .ok (.iload_n 2, 1) := by decide +kernel
theorem dX5_names_5 : decode cX5_names 5 = .ok (.aload_n 0, 1) := by decide +kernel
theorem dX5_names_6 : decode cX5_names 6 = .ok (.getfield 43, 3) := by decide +kernel
theorem dX5_names_9 : decode cX5_names 9 = .ok (.arraylength, 1) := by decide +kernel
theorem dX5_names_10 : decode cX5_names 10 = .ok (.if_icmp .ge 21, 3) := by decide +kernel
theorem dX5_names_13 : decode cX5_names 13 = .ok (.iload_n 1, 1) := by decide +kernel
theorem dX5_names_14 : decode cX5_names 14 = .ok (.aload_n 0, 1) := by decide +kernel
theorem dX5_names_15 : decode cX5_names 15 = .ok (.getfield 43, 3) := by decide +kernel
theorem dX5_names_18 : decode cX5_names 18 = .ok (.iload_n 2, 1) := by decide +kernel
theorem dX5_names_19 : decode cX5_names 19 = .ok (.aaload, 1) := by decide +kernel
theorem dX5_names_20 : decode cX5_names 20 = .ok (.invokevirtual 51, 3) := by decide +kernel
theorem dX5_names_23 : decode cX5_names 23 = .ok (.iadd, 1) := by decide +kernel
theorem dX5_names_24 : decode cX5_names 24 = .ok (.istore_n 1, 1) := by decide +kernel
theorem dX5_names_25 : decode cX5_names 25 = .ok (.iinc 2 1, 3) := by decide +kernel
theorem dX5_names_28 : decode cX5_names 28 = .ok (.goto (-24), 3) := by decide +kernel
theorem dX5_names_31 : decode cX5_names 31 = .ok (.iload_n 1, 1) := by decide +kernel
theorem dX5_names_32 : decode cX5_names 32 = .ok (.ireturn, 1) := by decide +kernel
theorem dX5_holds_0 : decode cX5_holds 0 = .ok (.aload_n 0, 1) := by decide +kernel
theorem dX5_holds_1 : decode cX5_holds 1 = .ok (.aload_n 1, 1) := by decide +kernel
theorem dX5_holds_2 : decode cX5_holds 2 = .ok (.invokevirtual 55, 3) := by decide +kernel
theorem dX5_holds_5 : decode cX5_holds 5 = .ok (.invokevirtual 60, 3) := by decide +kernel
theorem dX5_holds_8 : decode cX5_holds 8 = .ok (.aload_n 1, 1) := by decide +kernel
theorem dX5_holds_9 : decode cX5_holds 9 = .ok (.invokevirtual 64, 3) := by decide +kernel
theorem dX5_holds_12 : decode cX5_holds 12 = .ok (.iconst (-1), 1) := by decide +kernel
theorem dX5_holds_13 : decode cX5_holds 13 = .ok (.if_icmp .eq 7, 3) := by decide +kernel
theorem dX5_holds_16 : decode cX5_holds 16 = .ok (.iconst 1, 1) := by decide +kernel
theorem dX5_holds_17 : decode cX5_holds 17 = .ok (.goto 4, 3) := by decide +kernel
theorem dX5_holds_20 : decode cX5_holds 20 = .ok (.iconst 0, 1) := by decide +kernel
theorem dX5_holds_21 : decode cX5_holds 21 = .ok (.ireturn, 1) := by decide +kernel
theorem dX5_numberOf_0 : decode cX5_numberOf 0 = .ok (.aload_n 0, 1) := by decide +kernel
theorem dX5_numberOf_1 : decode cX5_numberOf 1 = .ok (.aload_n 1, 1) := by decide +kernel
theorem dX5_numberOf_2 : decode cX5_numberOf 2 = .ok (.invokevirtual 55, 3) := by decide +kernel
theorem dX5_numberOf_5 : decode cX5_numberOf 5 = .ok (.invokevirtual 60, 3) := by decide +kernel
theorem dX5_numberOf_8 : decode cX5_numberOf 8 = .ok (.astore_n 2, 1) := by decide +kernel
theorem dX5_numberOf_9 : decode cX5_numberOf 9 = .ok (.aload_n 2, 1) := by decide +kernel
theorem dX5_numberOf_10 : decode cX5_numberOf 10 = .ok (.aload_n 1, 1) := by decide +kernel
theorem dX5_numberOf_11 : decode cX5_numberOf 11 = .ok (.invokevirtual 64, 3) := by decide +kernel
theorem dX5_numberOf_14 : decode cX5_numberOf 14 = .ok (.istore_n 3, 1) := by decide +kernel
theorem dX5_numberOf_15 : decode cX5_numberOf 15 = .ok (.iload_n 3, 1) := by decide +kernel
theorem dX5_numberOf_16 : decode cX5_numberOf 16 = .ok (.iconst (-1), 1) := by decide +kernel
theorem dX5_numberOf_17 : decode cX5_numberOf 17 = .ok (.if_icmp .ne 7, 3) := by decide +kernel
theorem dX5_numberOf_20 : decode cX5_numberOf 20 = .ok (.iconst 0, 1) := by decide +kernel
theorem dX5_numberOf_21 : decode cX5_numberOf 21 = .ok (.goto 8, 3) := by decide +kernel
theorem dX5_numberOf_24 : decode cX5_numberOf 24 = .ok (.aload_n 2, 1) := by decide +kernel
theorem dX5_numberOf_25 : decode cX5_numberOf 25 = .ok (.iload_n 3, 1) := by decide +kernel
theorem dX5_numberOf_26 : decode cX5_numberOf 26 = .ok (.invokevirtual 68, 3) := by decide +kernel
theorem dX5_numberOf_29 : decode cX5_numberOf 29 = .ok (.ireturn, 1) := by decide +kernel
theorem dX5_accept_0 : decode cX5_accept 0 = .ok (.aload_n 1, 1) := by decide +kernel
theorem dX5_accept_1 : decode cX5_accept 1 = .ok (.invokevirtual 55, 3) := by decide +kernel
theorem dX5_accept_4 : decode cX5_accept 4 = .ok (.istore_n 3, 1) := by decide +kernel
theorem dX5_accept_5 : decode cX5_accept 5 = .ok (.aload_n 0, 1) := by decide +kernel
theorem dX5_accept_6 : decode cX5_accept 6 = .ok (.iload_n 3, 1) := by decide +kernel
theorem dX5_accept_7 : decode cX5_accept 7 = .ok (.invokevirtual 60, 3) := by decide +kernel
theorem dX5_accept_10 : decode cX5_accept 10 = .ok (.astore 4, 2) := by decide +kernel
theorem dX5_accept_12 : decode cX5_accept 12 = .ok (.aload 4, 2) := by decide +kernel
theorem dX5_accept_14 : decode cX5_accept 14 = .ok (.aload_n 1, 1) := by decide +kernel
theorem dX5_accept_15 : decode cX5_accept 15 = .ok (.invokevirtual 64, 3) := by decide +kernel
