theorem dX5_accept_18 : decode cX5_accept 18 = .ok (.istore 5, 2) := by decide +kernel
theorem dX5_accept_20 : decode cX5_accept 20 = .ok (.iload 5, 2) := by decide +kernel
theorem dX5_accept_22 : decode cX5_accept 22 = .ok (.iconst (-1), 1) := by decide +kernel
theorem dX5_accept_23 : decode cX5_accept 23 = .ok (.if_icmp .eq 23, 3) := by decide +kernel
theorem dX5_accept_26 : decode cX5_accept 26 = .ok (.aload 4, 2) := by decide +kernel
theorem dX5_accept_28 : decode cX5_accept 28 = .ok (.iload 5, 2) := by decide +kernel
theorem dX5_accept_30 : decode cX5_accept 30 = .ok (.iload_n 2, 1) := by decide +kernel
theorem dX5_accept_31 : decode cX5_accept 31 = .ok (.invokevirtual 71, 3) := by decide +kernel
theorem dX5_accept_34 : decode cX5_accept 34 = .ok (.aload_n 0, 1) := by decide +kernel
theorem dX5_accept_35 : decode cX5_accept 35 = .ok (.dup, 1) := by decide +kernel
theorem dX5_accept_36 : decode cX5_accept 36 = .ok (.getfield 34, 3) := by decide +kernel
theorem dX5_accept_39 : decode cX5_accept 39 = .ok (.iconst 1, 1) := by decide +kernel
theorem dX5_accept_40 : decode cX5_accept 40 = .ok (.iadd, 1) := by decide +kernel
theorem dX5_accept_41 : decode cX5_accept 41 = .ok (.putfield 34, 3) := by decide +kernel
theorem dX5_accept_44 : decode cX5_accept 44 = .ok (.iconst 1, 1) := by decide +kernel
theorem dX5_accept_45 : decode cX5_accept 45 = .ok (.ireturn, 1) := by decide +kernel
theorem dX5_accept_46 : decode cX5_accept 46 = .ok (.aload_n 0, 1) := by decide +kernel
theorem dX5_accept_47 : decode cX5_accept 47 = .ok (.aload 4, 2) := by decide +kernel
theorem dX5_accept_49 : decode cX5_accept 49 = .ok (.iload_n 3, 1) := by decide +kernel
theorem dX5_accept_50 : decode cX5_accept 50 = .ok (.aload_n 1, 1) := by decide +kernel
theorem dX5_accept_51 : decode cX5_accept 51 = .ok (.invokevirtual 75, 3) := by decide +kernel
theorem dX5_accept_54 : decode cX5_accept 54 = .ok (.invokevirtual 78, 3) := by decide +kernel
theorem dX5_accept_57 : decode cX5_accept 57 = .ok (.istore 6, 2) := by decide +kernel
theorem dX5_accept_59 : decode cX5_accept 59 = .ok (.iload 6, 2) := by decide +kernel
theorem dX5_accept_61 : decode cX5_accept 61 = .ok (.iconst (-1), 1) := by decide +kernel
theorem dX5_accept_62 : decode cX5_accept 62 = .ok (.if_icmp .ne 5, 3) := by decide +kernel
theorem dX5_accept_65 : decode cX5_accept 65 = .ok (.iconst 0, 1) := by decide +kernel
theorem dX5_accept_66 : decode cX5_accept 66 = .ok (.ireturn, 1) := by decide +kernel
theorem dX5_accept_67 : decode cX5_accept 67 = .ok (.iconst 0, 1) := by decide +kernel
theorem dX5_accept_68 : decode cX5_accept 68 = .ok (.istore 7, 2) := by decide +kernel
theorem dX5_accept_70 : decode cX5_accept 70 = .ok (.iload 7, 2) := by decide +kernel
theorem dX5_accept_72 : decode cX5_accept 72 = .ok (.iload 6, 2) := by decide +kernel
theorem dX5_accept_74 : decode cX5_accept 74 = .ok (.if_icmp .ge 18, 3) := by decide +kernel
theorem dX5_accept_77 : decode cX5_accept 77 = .ok (.aload_n 0, 1) := by decide +kernel
theorem dX5_accept_78 : decode cX5_accept 78 = .ok (.aload_n 0, 1) := by decide +kernel
theorem dX5_accept_79 : decode cX5_accept 79 = .ok (.iload_n 3, 1) := by decide +kernel
theorem dX5_accept_80 : decode cX5_accept 80 = .ok (.invokevirtual 82, 3) := by decide +kernel
theorem dX5_accept_83 : decode cX5_accept 83 = .ok (.invokevirtual 85, 3) := by decide +kernel
theorem dX5_accept_86 : decode cX5_accept 86 = .ok (.iinc 7 1, 3) := by decide +kernel
theorem dX5_accept_89 : decode cX5_accept 89 = .ok (.goto (-19), 3) := by decide +kernel
theorem dX5_accept_92 : decode cX5_accept 92 = .ok (.aload_n 0, 1) := by decide +kernel
theorem dX5_accept_93 : decode cX5_accept 93 = .ok (.iload_n 3, 1) := by decide +kernel
theorem dX5_accept_94 : decode cX5_accept 94 = .ok (.invokevirtual 60, 3) := by decide +kernel
theorem dX5_accept_97 : decode cX5_accept 97 = .ok (.aload_n 1, 1) := by decide +kernel
theorem dX5_accept_98 : decode cX5_accept 98 = .ok (.iload_n 2, 1) := by decide +kernel
theorem dX5_accept_99 : decode cX5_accept 99 = .ok (.invokevirtual 88, 3) := by decide +kernel
theorem dX5_accept_102 : decode cX5_accept 102 = .ok (.aload_n 0, 1) := by decide +kernel
theorem dX5_accept_103 : decode cX5_accept 103 = .ok (.dup, 1) := by decide +kernel
theorem dX5_accept_104 : decode cX5_accept 104 = .ok (.getfield 34, 3) := by decide +kernel
theorem dX5_accept_107 : decode cX5_accept 107 = .ok (.iconst 1, 1) := by decide +kernel
theorem dX5_accept_108 : decode cX5_accept 108 = .ok (.iadd, 1) := by decide +kernel
theorem dX5_accept_109 : decode cX5_accept 109 = .ok (.putfield 34, 3) := by decide +kernel
theorem dX5_accept_112 : decode cX5_accept 112 = .ok (.iconst 1, 1) := by decide +kernel
theorem dX5_accept_113 : decode cX5_accept 113 = .ok (.ireturn, 1) := by decide +kernel
theorem dX5_copyFrom_0 : decode cX5_copyFrom 0 = .ok (.iconst 0, 1) := by decide +kernel
theorem dX5_copyFrom_1 : decode cX5_copyFrom 1 = .ok (.istore_n 2, 1) := by decide +kernel
theorem dX5_copyFrom_2 : decode cX5_copyFrom 2 = .ok (.iload_n 2, 1) := by decide +kernel
theorem dX5_copyFrom_3 : decode cX5_copyFrom 3 = .ok (.aload_n 0, 1) := by decide +kernel
theorem dX5_copyFrom_4 : decode cX5_copyFrom 4 = .ok (.getfield 43, 3) := by decide +kernel
theorem dX5_copyFrom_7 : decode cX5_copyFrom 7 = .ok (.arraylength, 1) := by decide +kernel
theorem dX5_copyFrom_8 : decode cX5_copyFrom 8 = .ok (.if_icmp .ge 23, 3) := by decide +kernel
theorem dX5_copyFrom_11 : decode cX5_copyFrom 11 = .ok (.aload_n 0, 1) := by decide +kernel
theorem dX5_copyFrom_12 : decode cX5_copyFrom 12 = .ok (.getfield 43, 3) := by decide +kernel
theorem dX5_copyFrom_15 : decode cX5_copyFrom 15 = .ok (.iload_n 2, 1) := by decide +kernel
theorem dX5_copyFrom_16 : decode cX5_copyFrom 16 = .ok (.aaload, 1) := by decide +kernel
theorem dX5_copyFrom_17 : decode cX5_copyFrom 17 = .ok (.aload_n 1, 1) := by decide +kernel
theorem dX5_copyFrom_18 : decode cX5_copyFrom 18 = .ok (.iload_n 2, 1) := by decide +kernel
theorem dX5_copyFrom_19 : decode cX5_copyFrom 19 = .ok (.invokevirtual 92, 3) := by decide +kernel
theorem dX5_copyFrom_22 : decode cX5_copyFrom 22 = .ok (.invokevirtual 95, 3) := by decide +kernel
theorem dX5_copyFrom_25 : decode cX5_copyFrom 25 = .ok (.iinc 2 1, 3) := by decide +kernel
theorem dX5_copyFrom_28 : decode cX5_copyFrom 28 = .ok (.goto (-26), 3) := by decide +kernel
theorem dX5_copyFrom_31 : decode cX5_copyFrom 31 = .ok (.aload_n 0, 1) := by decide +kernel
theorem dX5_copyFrom_32 : decode cX5_copyFrom 32 = .ok (.getfield 23, 3) := by decide +kernel
theorem dX5_copyFrom_35 : decode cX5_copyFrom 35 = .ok (.aload_n 1, 1) := by decide +kernel
theorem dX5_copyFrom_36 : decode cX5_copyFrom 36 = .ok (.getfield 23, 3) := by decide +kernel
theorem dX5_copyFrom_39 : decode cX5_copyFrom 39 = .ok (.invokevirtual 99, 3) := by decide +kernel
theorem dX5_copyFrom_42 : decode cX5_copyFrom 42 = .ok (.aload_n 0, 1) := by decide +kernel
theorem dX5_copyFrom_43 : decode cX5_copyFrom 43 = .ok (.aload_n 1, 1) := by decide +kernel
theorem dX5_copyFrom_44 : decode cX5_copyFrom 44 = .ok (.getfield 27, 3) := by decide +kernel
theorem dX5_copyFrom_47 : decode cX5_copyFrom 47 = .ok (.putfield 27, 3) := by decide +kernel
theorem dX5_copyFrom_50 : decode cX5_copyFrom 50 = .ok (.aload_n 0, 1) := by decide +kernel
theorem dX5_copyFrom_51 : decode cX5_copyFrom 51 = .ok (.aload_n 1, 1) := by decide +kernel
theorem dX5_copyFrom_52 : decode cX5_copyFrom 52 = .ok (.getfield 31, 3) := by decide +kernel
theorem dX5_copyFrom_55 : decode cX5_copyFrom 55 = .ok (.putfield 31, 3) := by decide +kernel
theorem dX5_copyFrom_58 : decode cX5_copyFrom 58 = .ok (.aload_n 0, 1) := by decide +kernel
theorem dX5_copyFrom_59 : decode cX5_copyFrom 59 = .ok (.aload_n 1, 1) := by decide +kernel
theorem dX5_copyFrom_60 : decode cX5_copyFrom 60 = .ok (.getfield 34, 3) := by decide +kernel
theorem dX5_copyFrom_63 : decode cX5_copyFrom 63 = .ok (.putfield 34, 3) := by decide +kernel
theorem dX5_copyFrom_66 : decode cX5_copyFrom 66 = .ok (.return_, 1) := by decide +kernel
theorem dX5_pageNumberFor_0 : decode cX5_pageNumberFor 0 = .ok (.aload_n 0, 1) := by decide +kernel
theorem dX5_pageNumberFor_1 : decode cX5_pageNumberFor 1 = .ok (.getfield 23, 3) := by decide +kernel
theorem dX5_pageNumberFor_4 : decode cX5_pageNumberFor 4 = .ok (.iload_n 1, 1) := by decide +kernel
theorem dX5_pageNumberFor_5 : decode cX5_pageNumberFor 5 = .ok (.aload_n 0, 1) := by decide +kernel
theorem dX5_pageNumberFor_6 : decode cX5_pageNumberFor 6 = .ok (.invokevirtual 102, 3) := by decide +kernel
theorem dX5_pageNumberFor_9 : decode cX5_pageNumberFor 9 = .ok (.iconst 1, 1) := by decide +kernel
theorem dX5_pageNumberFor_10 : decode cX5_pageNumberFor 10 = .ok (.isub, 1) := by decide +kernel
theorem dX5_pageNumberFor_11 : decode cX5_pageNumberFor 11 = .ok (.iand, 1) := by decide +kernel
theorem dX5_pageNumberFor_12 : decode cX5_pageNumberFor 12 = .ok (.invokevirtual 47, 3) := by decide +kernel
theorem dX5_pageNumberFor_15 : decode cX5_pageNumberFor 15 = .ok (.ireturn, 1) := by decide +kernel
theorem dX5_pageFor_0 : decode cX5_pageFor 0 = .ok (.aload_n 0, 1) := by decide +kernel
theorem dX5_pageFor_1 : decode cX5_pageFor 1 = .ok (.aload_n 0, 1) := by decide +kernel
theorem dX5_pageFor_2 : decode cX5_pageFor 2 = .ok (.iload_n 1, 1) := by decide +kernel
theorem dX5_pageFor_3 : decode cX5_pageFor 3 = .ok (.invokevirtual 82, 3) := by decide +kernel
theorem dX5_pageFor_6 : decode cX5_pageFor 6 = .ok (.invokevirtual 92, 3) := by decide +kernel
theorem dX5_pageFor_9 : decode cX5_pageFor 9 = .ok (.areturn, 1) := by decide +kernel
theorem dX5_splitsFor_0 : decode cX5_splitsFor 0 = .ok (.aload_n 1, 1) := by decide +kernel
theorem dX5_splitsFor_1 : decode cX5_splitsFor 1 = .ok (.invokevirtual 105, 3) := by decide +kernel
theorem dX5_splitsFor_4 : decode cX5_splitsFor 4 = .ok (.istore 4, 2) := by decide +kernel
theorem dX5_splitsFor_6 : decode cX5_splitsFor 6 = .ok (.iconst 0, 1) := by decide +kernel
theorem dX5_splitsFor_7 : decode cX5_splitsFor 7 = .ok (.istore 5, 2) := by decide +kernel
theorem dX5_splitsFor_9 : decode cX5_splitsFor 9 = .ok (.iload 4, 2) := by decide +kernel
theorem dX5_splitsFor_11 : decode cX5_splitsFor 11 = .ok (.iload 5, 2) := by decide +kernel
theorem dX5_splitsFor_13 : decode cX5_splitsFor 13 = .ok (.iadd, 1) := by decide +kernel
theorem dX5_splitsFor_14 : decode cX5_splitsFor 14 = .ok (.iconst 5, 1) := by decide +kernel
theorem dX5_splitsFor_15 : decode cX5_splitsFor 15 = .ok (.if_icmp .gt 52, 3) := by decide +kernel
theorem dX5_splitsFor_18 : decode cX5_splitsFor 18 = .ok (.aload_n 0, 1) := by decide +kernel
theorem dX5_splitsFor_19 : decode cX5_splitsFor 19 = .ok (.getfield 31, 3) := by decide +kernel
theorem dX5_splitsFor_22 : decode cX5_splitsFor 22 = .ok (.iload 5, 2) := by decide +kernel
theorem dX5_splitsFor_24 : decode cX5_splitsFor 24 = .ok (.iadd, 1) := by decide +kernel
theorem dX5_splitsFor_25 : decode cX5_splitsFor 25 = .ok (.aload_n 0, 1) := by decide +kernel
theorem dX5_splitsFor_26 : decode cX5_splitsFor 26 = .ok (.getfield 43, 3) := by decide +kernel
theorem dX5_splitsFor_29 : decode cX5_splitsFor 29 = .ok (.arraylength, 1) := by decide +kernel
theorem dX5_splitsFor_30 : decode cX5_splitsFor 30 = .ok (.if_icmp .le 5, 3) := by decide +kernel
theorem dX5_splitsFor_33 : decode cX5_splitsFor 33 = .ok (.iconst (-1), 1) := by decide +kernel
theorem dX5_splitsFor_34 : decode cX5_splitsFor 34 = .ok (.ireturn, 1) := by decide +kernel
theorem dX5_splitsFor_35 : decode cX5_splitsFor 35 = .ok (.aload_n 1, 1) := by decide +kernel
theorem dX5_splitsFor_36 : decode cX5_splitsFor 36 = .ok (.iload_n 2, 1) := by decide +kernel
theorem dX5_splitsFor_37 : decode cX5_splitsFor 37 = .ok (.iload 4, 2) := by decide +kernel
theorem dX5_splitsFor_39 : decode cX5_splitsFor 39 = .ok (.iload 5, 2) := by decide +kernel
theorem dX5_splitsFor_41 : decode cX5_splitsFor 41 = .ok (.iadd, 1) := by decide +kernel
theorem dX5_splitsFor_42 : decode cX5_splitsFor 42 = .ok (.invokevirtual 107, 3) := by decide +kernel
theorem dX5_splitsFor_45 : decode cX5_splitsFor 45 = .ok (.istore 6, 2) := by decide +kernel
theorem dX5_splitsFor_47 : decode cX5_splitsFor 47 = .ok (.iconst 2, 1) := by decide +kernel
theorem dX5_splitsFor_48 : decode cX5_splitsFor 48 = .ok (.iload 6, 2) := by decide +kernel
theorem dX5_splitsFor_50 : decode cX5_splitsFor 50 = .ok (.iadd, 1) := by decide +kernel
theorem dX5_splitsFor_51 : decode cX5_splitsFor 51 = .ok (.iload_n 3, 1) := by decide +kernel
theorem dX5_splitsFor_52 : decode cX5_splitsFor 52 = .ok (.iadd, 1) := by decide +kernel
theorem dX5_splitsFor_53 : decode cX5_splitsFor 53 = .ok (.bipush 60, 2) := by decide +kernel
theorem dX5_splitsFor_55 : decode cX5_splitsFor 55 = .ok (.if_icmp .gt 6, 3) := by decide +kernel
theorem dX5_splitsFor_58 : decode cX5_splitsFor 58 = .ok (.iload 5, 2) := by decide +kernel
theorem dX5_splitsFor_60 : decode cX5_splitsFor 60 = .ok (.ireturn, 1) := by decide +kernel
theorem dX5_splitsFor_61 : decode cX5_splitsFor 61 = .ok (.iinc 5 1, 3) := by decide +kernel
theorem dX5_splitsFor_64 : decode cX5_splitsFor 64 = .ok (.goto (-55), 3) := by decide +kernel
theorem dX5_splitsFor_67 : decode cX5_splitsFor 67 = .ok (.iconst (-1), 1) := by decide +kernel
theorem dX5_splitsFor_68 : decode cX5_splitsFor 68 = .ok (.ireturn, 1) := by decide +kernel
theorem dX5_split_0 : decode cX5_split 0 = .ok (.aload_n 0, 1) := by decide +kernel
theorem dX5_split_1 : decode cX5_split 1 = .ok (.iload_n 1, 1) := by decide +kernel
theorem dX5_split_2 : decode cX5_split 2 = .ok (.invokevirtual 92, 3) := by decide +kernel
theorem dX5_split_5 : decode cX5_split 5 = .ok (.astore_n 2, 1) := by decide +kernel
theorem dX5_split_6 : decode cX5_split 6 = .ok (.aload_n 2, 1) := by decide +kernel
theorem dX5_split_7 : decode cX5_split 7 = .ok (.invokevirtual 105, 3) := by decide +kernel
theorem dX5_split_10 : decode cX5_split 10 = .ok (.istore_n 3, 1) := by decide +kernel
theorem dX5_split_11 : decode cX5_split 11 = .ok (.iload_n 3, 1) := by decide +kernel
theorem dX5_split_12 : decode cX5_split 12 = .ok (.aload_n 0, 1) := by decide +kernel
theorem dX5_split_13 : decode cX5_split 13 = .ok (.getfield 27, 3) := by decide +kernel
theorem dX5_split_16 : decode cX5_split 16 = .ok (.if_icmp .ne 7, 3) := by decide +kernel
theorem dX5_split_19 : decode cX5_split 19 = .ok (.aload_n 0, 1) := by decide +kernel
theorem dX5_split_20 : decode cX5_split 20 = .ok (.invokevirtual 110, 3) := by decide +kernel
theorem dX5_split_23 : decode cX5_split 23 = .ok (.aload_n 0, 1) := by decide +kernel
theorem dX5_split_24 : decode cX5_split 24 = .ok (.getfield 31, 3) := by decide +kernel
theorem dX5_split_27 : decode cX5_split 27 = .ok (.istore 4, 2) := by decide +kernel
theorem dX5_split_29 : decode cX5_split 29 = .ok (.aload_n 0, 1) := by decide +kernel
theorem dX5_split_30 : decode cX5_split 30 = .ok (.iload 4, 2) := by decide +kernel
theorem dX5_split_32 : decode cX5_split 32 = .ok (.invokevirtual 92, 3) := by decide +kernel
theorem dX5_split_35 : decode cX5_split 35 = .ok (.astore 5, 2) := by decide +kernel
theorem dX5_split_37 : decode cX5_split 37 = .ok (.aload_n 0, 1) := by decide +kernel
theorem dX5_split_38 : decode cX5_split 38 = .ok (.dup, 1) := by decide +kernel
theorem dX5_split_39 : decode cX5_split 39 = .ok (.getfield 31, 3) := by decide +kernel
theorem dX5_split_42 : decode cX5_split 42 = .ok (.iconst 1, 1) := by decide +kernel
theorem dX5_split_43 : decode cX5_split 43 = .ok (.iadd, 1) := by decide +kernel
theorem dX5_split_44 : decode cX5_split 44 = .ok (.putfield 31, 3) := by decide +kernel
theorem dX5_split_47 : decode cX5_split 47 = .ok (.aload_n 0, 1) := by decide +kernel
theorem dX5_split_48 : decode cX5_split 48 = .ok (.getfield 12, 3) := by decide +kernel
theorem dX5_split_51 : decode cX5_split 51 = .ok (.aload_n 2, 1) := by decide +kernel
theorem dX5_split_52 : decode cX5_split 52 = .ok (.invokevirtual 95, 3) := by decide +kernel
theorem dX5_split_55 : decode cX5_split 55 = .ok (.aload_n 2, 1) := by decide +kernel
theorem dX5_split_56 : decode cX5_split 56 = .ok (.iload_n 3, 1) := by decide +kernel
theorem dX5_split_57 : decode cX5_split 57 = .ok (.iconst 1, 1) := by decide +kernel
theorem dX5_split_58 : decode cX5_split 58 = .ok (.iadd, 1) := by decide +kernel
theorem dX5_split_59 : decode cX5_split 59 = .ok (.invokevirtual 113, 3) := by decide +kernel
theorem dX5_split_62 : decode cX5_split 62 = .ok (.aload 5, 2) := by decide +kernel
theorem dX5_split_64 : decode cX5_split 64 = .ok (.iload_n 3, 1) := by decide +kernel
theorem dX5_split_65 : decode cX5_split 65 = .ok (.iconst 1, 1) := by decide +kernel
theorem dX5_split_66 : decode cX5_split 66 = .ok (.iadd, 1) := by decide +kernel
theorem dX5_split_67 : decode cX5_split 67 = .ok (.invokevirtual 113, 3) := by decide +kernel
theorem dX5_split_70 : decode cX5_split 70 = .ok (.aload_n 0, 1) := by decide +kernel
theorem dX5_split_71 : decode cX5_split 71 = .ok (.getfield 12, 3) := by decide +kernel
theorem dX5_split_74 : decode cX5_split 74 = .ok (.aload_n 2, 1) := by decide +kernel
theorem dX5_split_75 : decode cX5_split 75 = .ok (.aload 5, 2) := by decide +kernel
theorem dX5_split_77 : decode cX5_split 77 = .ok (.iload_n 3, 1) := by decide +kernel
theorem dX5_split_78 : decode cX5_split 78 = .ok (.invokevirtual 116, 3) := by decide +kernel
theorem dX5_split_81 : decode cX5_split 81 = .ok (.aload_n 2, 1) := by decide +kernel
theorem dX5_split_82 : decode cX5_split 82 = .ok (.invokevirtual 120, 3) := by decide +kernel
theorem dX5_split_85 : decode cX5_split 85 = .ok (.aload 5, 2) := by decide +kernel
theorem dX5_split_87 : decode cX5_split 87 = .ok (.invokevirtual 120, 3) := by decide +kernel
theorem dX5_split_90 : decode cX5_split 90 = .ok (.aload_n 0, 1) := by decide +kernel
theorem dX5_split_91 : decode cX5_split 91 = .ok (.iload_n 1, 1) := by decide +kernel
theorem dX5_split_92 : decode cX5_split 92 = .ok (.iload 4, 2) := by decide +kernel
theorem dX5_split_94 : decode cX5_split 94 = .ok (.iload_n 3, 1) := by decide +kernel
theorem dX5_split_95 : decode cX5_split 95 = .ok (.invokevirtual 123, 3) := by decide +kernel
theorem dX5_split_98 : decode cX5_split 98 = .ok (.return_, 1) := by decide +kernel
theorem dX5_doubleTable_0 : decode cX5_doubleTable 0 = .ok (.aload_n 0, 1) := by decide +kernel
theorem dX5_doubleTable_1 : decode cX5_doubleTable 1 = .ok (.getfield 23, 3) := by decide +kernel
theorem dX5_doubleTable_4 : decode cX5_doubleTable 4 = .ok (.aload_n 0, 1) := by decide +kernel
theorem dX5_doubleTable_5 : decode cX5_doubleTable 5 = .ok (.invokevirtual 102, 3) := by decide +kernel
theorem dX5_doubleTable_8 : decode cX5_doubleTable 8 = .ok (.aload_n 0, 1) := by decide +kernel
theorem dX5_doubleTable_9 : decode cX5_doubleTable 9 = .ok (.getfield 23, 3) := by decide +kernel
theorem dX5_doubleTable_12 : decode cX5_doubleTable 12 = .ok (.iconst 0, 1) := by decide +kernel
theorem dX5_doubleTable_13 : decode cX5_doubleTable 13 = .ok (.aload_n 0, 1) := by decide +kernel
theorem dX5_doubleTable_14 : decode cX5_doubleTable 14 = .ok (.invokevirtual 102, 3) := by decide +kernel
theorem dX5_doubleTable_17 : decode cX5_doubleTable 17 = .ok (.invokevirtual 127, 3) := by decide +kernel
theorem dX5_doubleTable_20 : decode cX5_doubleTable 20 = .ok (.aload_n 0, 1) := by decide +kernel
theorem dX5_doubleTable_21 : decode cX5_doubleTable 21 = .ok (.dup, 1) := by decide +kernel
theorem dX5_doubleTable_22 : decode cX5_doubleTable 22 = .ok (.getfield 27, 3) := by decide +kernel
theorem dX5_doubleTable_25 : decode cX5_doubleTable 25 = .ok (.iconst 1, 1) := by decide +kernel
theorem dX5_doubleTable_26 : decode cX5_doubleTable 26 = .ok (.iadd, 1) := by decide +kernel
theorem dX5_doubleTable_27 : decode cX5_doubleTable 27 = .ok (.putfield 27, 3) := by decide +kernel
theorem dX5_doubleTable_30 : decode cX5_doubleTable 30 = .ok (.return_, 1) := by decide +kernel
theorem dX5_redirect_0 : decode cX5_redirect 0 = .ok (.iconst 0, 1) := by decide +kernel
theorem dX5_redirect_1 : decode cX5_redirect 1 = .ok (.istore 4, 2) := by decide +kernel
theorem dX5_redirect_3 : decode cX5_redirect 3 = .ok (.iload 4, 2) := by decide +kernel
theorem dX5_redirect_5 : decode cX5_redirect 5 = .ok (.aload_n 0, 1) := by decide +kernel
theorem dX5_redirect_6 : decode cX5_redirect 6 = .ok (.invokevirtual 102, 3) := by decide +kernel
theorem dX5_redirect_9 : decode cX5_redirect 9 = .ok (.if_icmp .ge 42, 3) := by decide +kernel
theorem dX5_redirect_12 : decode cX5_redirect 12 = .ok (.aload_n 0, 1) := by decide +kernel
theorem dX5_redirect_13 : decode cX5_redirect 13 = .ok (.getfield 23, 3) := by decide +kernel
theorem dX5_redirect_16 : decode cX5_redirect 16 = .ok (.iload 4, 2) := by decide +kernel
theorem dX5_redirect_18 : decode cX5_redirect 18 = .ok (.invokevirtual 47, 3) := by decide +kernel
theorem dX5_redirect_21 : decode cX5_redirect 21 = .ok (.iload_n 1, 1) := by decide +kernel
theorem dX5_redirect_22 : decode cX5_redirect 22 = .ok (.if_icmp .ne 23, 3) := by decide +kernel
theorem dX5_redirect_25 : decode cX5_redirect 25 = .ok (.iload 4, 2) := by decide +kernel
theorem dX5_redirect_27 : decode cX5_redirect 27 = .ok (.iload_n 3, 1) := by decide +kernel
theorem dX5_redirect_28 : decode cX5_redirect 28 = .ok (.iushr, 1) := by decide +kernel
theorem dX5_redirect_29 : decode cX5_redirect 29 = .ok (.iconst 1, 1) := by decide +kernel
theorem dX5_redirect_30 : decode cX5_redirect 30 = .ok (.iand, 1) := by decide +kernel
theorem dX5_redirect_31 : decode cX5_redirect 31 = .ok (.iconst 1, 1) := by decide +kernel
theorem dX5_redirect_32 : decode cX5_redirect 32 = .ok (.if_icmp .ne 13, 3) := by decide +kernel
theorem dX5_redirect_35 : decode cX5_redirect 35 = .ok (.aload_n 0, 1) := by decide +kernel
theorem dX5_redirect_36 : decode cX5_redirect 36 = .ok (.getfield 23, 3) := by decide +kernel
theorem dX5_redirect_39 : decode cX5_redirect 39 = .ok (.iload 4, 2) := by decide +kernel
theorem dX5_redirect_41 : decode cX5_redirect 41 = .ok (.iload_n 2, 1) := by decide +kernel
theorem dX5_redirect_42 : decode cX5_redirect 42 = .ok (.invokevirtual 131, 3) := by decide +kernel
theorem dX5_redirect_45 : decode cX5_redirect 45 = .ok (.iinc 4 1, 3) := by decide +kernel
theorem dX5_redirect_48 : decode cX5_redirect 48 = .ok (.goto (-45), 3) := by decide +kernel
theorem dX5_redirect_51 : decode cX5_redirect 51 = .ok (.return_, 1) := by decide +kernel
theorem dX6_init_0 : decode cX6_init 0 = .ok (.aload_n 0, 1) := by decide +kernel
theorem dX6_init_1 : decode cX6_init 1 = .ok (.invokespecial 1, 3) := by decide +kernel
theorem dX6_init_4 : decode cX6_init 4 = .ok (.aload_n 0, 1) := by decide +kernel
theorem dX6_init_5 : decode cX6_init 5 = .ok (.new 7, 3) := by decide +kernel
theorem dX6_init_8 : decode cX6_init 8 = .ok (.dup, 1) := by decide +kernel
theorem dX6_init_9 : decode cX6_init 9 = .ok (.invokespecial 9, 3) := by decide +kernel
theorem dX6_init_12 : decode cX6_init 12 = .ok (.putfield 10, 3) := by decide +kernel
theorem dX6_init_15 : decode cX6_init 15 = .ok (.aload_n 0, 1) := by decide +kernel
theorem dX6_init_16 : decode cX6_init 16 = .ok (.new 16, 3) := by decide +kernel
theorem dX6_init_19 : decode cX6_init 19 = .ok (.dup, 1) := by decide +kernel
theorem dX6_init_20 : decode cX6_init 20 = .ok (.invokespecial 18, 3) := by decide +kernel
theorem dX6_init_23 : decode cX6_init 23 = .ok (.putfield 19, 3) := by decide +kernel
theorem dX6_init_26 : decode cX6_init 26 = .ok (.aload_n 0, 1) := by decide +kernel
theorem dX6_init_27 : decode cX6_init 27 = .ok (.new 16, 3) := by decide +kernel
theorem dX6_init_30 : decode cX6_init 30 = .ok (.dup, 1) := by decide +kernel
theorem dX6_init_31 : decode cX6_init 31 = .ok (.invokespecial 18, 3) := by decide +kernel
theorem dX6_init_34 : decode cX6_init 34 = .ok (.putfield 23, 3) := by decide +kernel
theorem dX6_init_37 : decode cX6_init 37 = .ok (.iconst 1, 1) := by decide +kernel
theorem dX6_init_38 : decode cX6_init 38 = .ok (.iload_n 1, 1) := by decide +kernel
theorem dX6_init_39 : decode cX6_init 39 = .ok (.bipush 40, 2) := by decide +kernel
theorem dX6_init_41 : decode cX6_init 41 = .ok (.invokestatic 26, 3) := by decide +kernel
theorem dX6_init_44 : decode cX6_init 44 = .ok (.invokestatic 32, 3) := by decide +kernel
theorem dX6_init_47 : decode cX6_init 47 = .ok (.istore_n 2, 1) := by decide +kernel
theorem dX6_init_48 : decode cX6_init 48 = .ok (.aload_n 0, 1) := by decide +kernel
theorem dX6_init_49 : decode cX6_init 49 = .ok (.new 35, 3) := by decide +kernel
theorem dX6_init_52 : decode cX6_init 52 = .ok (.dup, 1) := by decide +kernel
theorem dX6_init_53 : decode cX6_init 53 = .ok (.iload_n 2, 1) := by decide +kernel
theorem dX6_init_54 : decode cX6_init 54 = .ok (.invokespecial 37, 3) := by decide +kernel
theorem dX6_init_57 : decode cX6_init 57 = .ok (.putfield 40, 3) := by decide +kernel
theorem dX6_init_60 : decode cX6_init 60 = .ok (.aload_n 0, 1) := by decide +kernel
theorem dX6_init_61 : decode cX6_init 61 = .ok (.new 35, 3) := by decide +kernel
theorem dX6_init_64 : decode cX6_init 64 = .ok (.dup, 1) := by decide +kernel
theorem dX6_init_65 : decode cX6_init 65 = .ok (.iload_n 2, 1) := by decide +kernel
theorem dX6_init_66 : decode cX6_init 66 = .ok (.invokespecial 37, 3) := by decide +kernel
theorem dX6_init_69 : decode cX6_init 69 = .ok (.putfield 44, 3) := by decide +kernel
theorem dX6_init_72 : decode cX6_init 72 = .ok (.aload_n 0, 1) := by decide +kernel
theorem dX6_init_73 : decode cX6_init 73 = .ok (.new 47, 3) := by decide +kernel
theorem dX6_init_76 : decode cX6_init 76 = .ok (.dup, 1) := by decide +kernel
theorem dX6_init_77 : decode cX6_init 77 = .ok (.iload_n 2, 1) := by decide +kernel
theorem dX6_init_78 : decode cX6_init 78 = .ok (.invokespecial 49, 3) := by decide +kernel
theorem dX6_init_81 : decode cX6_init 81 = .ok (.putfield 50, 3) := by decide +kernel
theorem dX6_init_84 : decode cX6_init 84 = .ok (.return_, 1) := by decide +kernel
theorem dX6_feed_0 : decode cX6_feed 0 = .ok (.iload_n 1, 1) := by decide +kernel
theorem dX6_feed_1 : decode cX6_feed 1 = .ok (.ifCond .lt 10, 3) := by decide +kernel
theorem dX6_feed_4 : decode cX6_feed 4 = .ok (.iload_n 1, 1) := by decide +kernel
theorem dX6_feed_5 : decode cX6_feed 5 = .ok (.sipush 255, 3) := by decide +kernel
theorem dX6_feed_8 : decode cX6_feed 8 = .ok (.if_icmp .le 13, 3) := by decide +kernel
theorem dX6_feed_11 : decode cX6_feed 11 = .ok (.new 54, 3) := by decide +kernel
theorem dX6_feed_14 : decode cX6_feed 14 = .ok (.dup, 1) := by decide +kernel
theorem dX6_feed_15 : decode cX6_feed 15 = .ok (.ldc 56, 2) := by decide +kernel
theorem dX6_feed_17 : decode cX6_feed 17 = .ok (.invokespecial 58, 3) := by decide +kernel
theorem dX6_feed_20 : decode cX6_feed 20 = .ok (.athrow, 1) := by decide +kernel
theorem dX6_feed_21 : decode cX6_feed 21 = .ok (.aload_n 0, 1) := by decide +kernel
theorem dX6_feed_22 : decode cX6_feed 22 = .ok (.getfield 19, 3) := by decide +kernel
theorem dX6_feed_25 : decode cX6_feed 25 = .ok (.iload_n 1, 1) := by decide +kernel
theorem dX6_feed_26 : decode cX6_feed 26 = .ok (.invokevirtual 61, 3) := by decide +kernel
theorem dX6_feed_29 : decode cX6_feed 29 = .ok (.ireturn, 1) := by decide +kernel
theorem dX6_put_0 : decode cX6_put 0 = .ok (.aload_n 0, 1) := by decide +kernel
theorem dX6_put_1 : decode cX6_put 1 = .ok (.invokevirtual 65, 3) := by decide +kernel
theorem dX6_put_4 : decode cX6_put 4 = .ok (.aload_n 0, 1) := by decide +kernel
theorem dX6_put_5 : decode cX6_put 5 = .ok (.iload_n 1, 1) := by decide +kernel
theorem dX6_put_6 : decode cX6_put 6 = .ok (.invokevirtual 68, 3) := by decide +kernel
theorem dX6_put_9 : decode cX6_put 9 = .ok (.istore_n 2, 1) := by decide +kernel
theorem dX6_put_10 : decode cX6_put 10 = .ok (.aload_n 0, 1) := by decide +kernel
theorem dX6_put_11 : decode cX6_put 11 = .ok (.getfield 19, 3) := by decide +kernel
theorem dX6_put_14 : decode cX6_put 14 = .ok (.invokevirtual 72, 3) := by decide +kernel
theorem dX6_put_17 : decode cX6_put 17 = .ok (.iload_n 2, 1) := by decide +kernel
theorem dX6_put_18 : decode cX6_put 18 = .ok (.ireturn, 1) := by decide +kernel
theorem dX6_has_0 : decode cX6_has 0 = .ok (.aload_n 0, 1) := by decide +kernel
theorem dX6_has_1 : decode cX6_has 1 = .ok (.invokevirtual 65, 3) := by decide +kernel
theorem dX6_has_4 : decode cX6_has 4 = .ok (.aload_n 0, 1) := by decide +kernel
theorem dX6_has_5 : decode cX6_has 5 = .ok (.getfield 40, 3) := by decide +kernel
theorem dX6_has_8 : decode cX6_has 8 = .ok (.aload_n 0, 1) := by decide +kernel
theorem dX6_has_9 : decode cX6_has 9 = .ok (.getfield 19, 3) := by decide +kernel
theorem dX6_has_12 : decode cX6_has 12 = .ok (.invokevirtual 75, 3) := by decide +kernel
theorem dX6_has_15 : decode cX6_has 15 = .ok (.istore_n 1, 1) := by decide +kernel
theorem dX6_has_16 : decode cX6_has 16 = .ok (.aload_n 0, 1) := by decide +kernel
theorem dX6_has_17 : decode cX6_has 17 = .ok (.getfield 19, 3) := by decide +kernel
theorem dX6_has_20 : decode cX6_has 20 = .ok (.invokevirtual 72, 3) := by decide +kernel
theorem dX6_has_23 : decode cX6_has 23 = .ok (.iload_n 1, 1) := by decide +kernel
theorem dX6_has_24 : decode cX6_has 24 = .ok (.ireturn, 1) := by decide +kernel
theorem dX6_find_0 : decode cX6_find 0 = .ok (.aload_n 0, 1) := by decide +kernel
theorem dX6_find_1 : decode cX6_find 1 = .ok (.invokevirtual 65, 3) := by decide +kernel
theorem dX6_find_4 : decode cX6_find 4 = .ok (.aload_n 0, 1) := by decide +kernel
theorem dX6_find_5 : decode cX6_find 5 = .ok (.getfield 40, 3) := by decide +kernel
theorem dX6_find_8 : decode cX6_find 8 = .ok (.aload_n 0, 1) := by decide +kernel
theorem dX6_find_9 : decode cX6_find 9 = .ok (.getfield 19, 3) := by decide +kernel
theorem dX6_find_12 : decode cX6_find 12 = .ok (.invokevirtual 79, 3) := by decide +kernel
theorem dX6_find_15 : decode cX6_find 15 = .ok (.istore_n 1, 1) := by decide +kernel
theorem dX6_find_16 : decode cX6_find 16 = .ok (.aload_n 0, 1) := by decide +kernel
theorem dX6_find_17 : decode cX6_find 17 = .ok (.getfield 19, 3) := by decide +kernel
theorem dX6_find_20 : decode cX6_find 20 = .ok (.invokevirtual 72, 3) := by decide +kernel
theorem dX6_find_23 : decode cX6_find 23 = .ok (.iload_n 1, 1) := by decide +kernel
theorem dX6_find_24 : decode cX6_find 24 = .ok (.ireturn, 1) := by decide +kernel
theorem dX6_save_0 : decode cX6_save 0 = .ok (.aload_n 0, 1) := by decide +kernel
theorem dX6_save_1 : decode cX6_save 1 = .ok (.invokevirtual 83, 3) := by decide +kernel
theorem dX6_save_4 : decode cX6_save 4 = .ok (.aload_n 0, 1) := by decide +kernel
theorem dX6_save_5 : decode cX6_save 5 = .ok (.getfield 44, 3) := by decide +kernel
theorem dX6_save_8 : decode cX6_save 8 = .ok (.aload_n 0, 1) := by decide +kernel
theorem dX6_save_9 : decode cX6_save 9 = .ok (.getfield 40, 3) := by decide +kernel
theorem dX6_save_12 : decode cX6_save 12 = .ok (.invokevirtual 86, 3) := by decide +kernel
theorem dX6_save_15 : decode cX6_save 15 = .ok (.aload_n 0, 1) := by decide +kernel
theorem dX6_save_16 : decode cX6_save 16 = .ok (.getfield 10, 3) := by decide +kernel
theorem dX6_save_19 : decode cX6_save 19 = .ok (.iconst 0, 1) := by decide +kernel
theorem dX6_save_20 : decode cX6_save 20 = .ok (.invokevirtual 90, 3) := by decide +kernel
theorem dX6_save_23 : decode cX6_save 23 = .ok (.aload_n 0, 1) := by decide +kernel
theorem dX6_save_24 : decode cX6_save 24 = .ok (.getfield 40, 3) := by decide +kernel
theorem dX6_save_27 : decode cX6_save 27 = .ok (.invokevirtual 93, 3) := by decide +kernel
theorem dX6_save_30 : decode cX6_save 30 = .ok (.ireturn, 1) := by decide +kernel
theorem dX6_crash_0 : decode cX6_crash 0 = .ok (.iload_n 1, 1) := by decide +kernel
theorem dX6_crash_1 : decode cX6_crash 1 = .ok (.ifCond .lt 14, 3) := by decide +kernel
theorem dX6_crash_4 : decode cX6_crash 4 = .ok (.iload_n 1, 1) := by decide +kernel
theorem dX6_crash_5 : decode cX6_crash 5 = .ok (.aload_n 0, 1) := by decide +kernel
theorem dX6_crash_6 : decode cX6_crash 6 = .ok (.getfield 10, 3) := by decide +kernel
theorem dX6_crash_9 : decode cX6_crash 9 = .ok (.invokevirtual 97, 3) := by decide +kernel
theorem dX6_crash_12 : decode cX6_crash 12 = .ok (.if_icmp .le 13, 3) := by decide +kernel
theorem dX6_crash_15 : decode cX6_crash 15 = .ok (.new 54, 3) := by decide +kernel
theorem dX6_crash_18 : decode cX6_crash 18 = .ok (.dup, 1) := by decide +kernel
theorem dX6_crash_19 : decode cX6_crash 19 = .ok (.ldc 100, 2) := by decide +kernel
theorem dX6_crash_21 : decode cX6_crash 21 = .ok (.invokespecial 58, 3) := by decide +kernel
theorem dX6_crash_24 : decode cX6_crash 24 = .ok (.athrow, 1) := by decide +kernel
theorem dX6_crash_25 : decode cX6_crash 25 = .ok (.aload_n 0, 1) := by decide +kernel
theorem dX6_crash_26 : decode cX6_crash 26 = .ok (.getfield 19, 3) := by decide +kernel
theorem dX6_crash_29 : decode cX6_crash 29 = .ok (.invokevirtual 72, 3) := by decide +kernel
theorem dX6_crash_32 : decode cX6_crash 32 = .ok (.aload_n 0, 1) := by decide +kernel
theorem dX6_crash_33 : decode cX6_crash 33 = .ok (.getfield 50, 3) := by decide +kernel
theorem dX6_crash_36 : decode cX6_crash 36 = .ok (.invokevirtual 102, 3) := by decide +kernel
theorem dX6_crash_39 : decode cX6_crash 39 = .ok (.aload_n 0, 1) := by decide +kernel
theorem dX6_crash_40 : decode cX6_crash 40 = .ok (.getfield 40, 3) := by decide +kernel
theorem dX6_crash_43 : decode cX6_crash 43 = .ok (.aload_n 0, 1) := by decide +kernel
theorem dX6_crash_44 : decode cX6_crash 44 = .ok (.getfield 44, 3) := by decide +kernel
theorem dX6_crash_47 : decode cX6_crash 47 = .ok (.invokevirtual 86, 3) := by decide +kernel
theorem dX6_crash_50 : decode cX6_crash 50 = .ok (.aload_n 0, 1) := by decide +kernel
theorem dX6_crash_51 : decode cX6_crash 51 = .ok (.getfield 10, 3) := by decide +kernel
theorem dX6_crash_54 : decode cX6_crash 54 = .ok (.iload_n 1, 1) := by decide +kernel
theorem dX6_crash_55 : decode cX6_crash 55 = .ok (.invokevirtual 90, 3) := by decide +kernel
theorem dX6_crash_58 : decode cX6_crash 58 = .ok (.aload_n 0, 1) := by decide +kernel
theorem dX6_crash_59 : decode cX6_crash 59 = .ok (.getfield 10, 3) := by decide +kernel
theorem dX6_crash_62 : decode cX6_crash 62 = .ok (.aload_n 0, 1) := by decide +kernel
theorem dX6_crash_63 : decode cX6_crash 63 = .ok (.invokevirtual 103, 3) := by decide +kernel
theorem dX6_crash_66 : decode cX6_crash 66 = .ok (.invokevirtual 90, 3) := by decide +kernel
theorem dX6_crash_69 : decode cX6_crash 69 = .ok (.aload_n 0, 1) := by decide +kernel
theorem dX6_crash_70 : decode cX6_crash 70 = .ok (.getfield 40, 3) := by decide +kernel
theorem dX6_crash_73 : decode cX6_crash 73 = .ok (.invokevirtual 93, 3) := by decide +kernel
theorem dX6_crash_76 : decode cX6_crash 76 = .ok (.ireturn, 1) := by decide +kernel
theorem dX6_poke_0 : decode cX6_poke 0 = .ok (.aload_n 0, 1) := by decide +kernel
theorem dX6_poke_1 : decode cX6_poke 1 = .ok (.iload_n 1, 1) := by decide +kernel
theorem dX6_poke_2 : decode cX6_poke 2 = .ok (.iload_n 2, 1) := by decide +kernel
theorem dX6_poke_3 : decode cX6_poke 3 = .ok (.invokevirtual 106, 3) := by decide +kernel
theorem dX6_poke_6 : decode cX6_poke 6 = .ok (.aload_n 0, 1) := by decide +kernel
theorem dX6_poke_7 : decode cX6_poke 7 = .ok (.iload_n 3, 1) := by decide +kernel
theorem dX6_poke_8 : decode cX6_poke 8 = .ok (.invokevirtual 110, 3) := by decide +kernel
theorem dX6_poke_11 : decode cX6_poke 11 = .ok (.aload_n 0, 1) := by decide +kernel
theorem dX6_poke_12 : decode cX6_poke 12 = .ok (.getfield 40, 3) := by decide +kernel
theorem dX6_poke_15 : decode cX6_poke 15 = .ok (.iload_n 1, 1) := by decide +kernel
theorem dX6_poke_16 : decode cX6_poke 16 = .ok (.invokevirtual 113, 3) := by decide +kernel
theorem dX6_poke_19 : decode cX6_poke 19 = .ok (.iload_n 2, 1) := by decide +kernel
theorem dX6_poke_20 : decode cX6_poke 20 = .ok (.iload_n 3, 1) := by decide +kernel
theorem dX6_poke_21 : decode cX6_poke 21 = .ok (.invokevirtual 117, 3) := by decide +kernel
theorem dX6_poke_24 : decode cX6_poke 24 = .ok (.aload_n 0, 1) := by decide +kernel
theorem dX6_poke_25 : decode cX6_poke 25 = .ok (.getfield 50, 3) := by decide +kernel
theorem dX6_poke_28 : decode cX6_poke 28 = .ok (.iload_n 1, 1) := by decide +kernel
theorem dX6_poke_29 : decode cX6_poke 29 = .ok (.iload_n 2, 1) := by decide +kernel
theorem dX6_poke_30 : decode cX6_poke 30 = .ok (.iload_n 3, 1) := by decide +kernel
theorem dX6_poke_31 : decode cX6_poke 31 = .ok (.invokevirtual 122, 3) := by decide +kernel
theorem dX6_poke_34 : decode cX6_poke 34 = .ok (.return_, 1) := by decide +kernel
theorem dX6_pokeJournal_0 : decode cX6_pokeJournal 0 = .ok (.iload_n 1, 1) := by decide +kernel
theorem dX6_pokeJournal_1 : decode cX6_pokeJournal 1 = .ok (.ifCond .lt 10, 3) := by decide +kernel
theorem dX6_pokeJournal_4 : decode cX6_pokeJournal 4 = .ok (.iload_n 1, 1) := by decide +kernel
theorem dX6_pokeJournal_5 : decode cX6_pokeJournal 5 = .ok (.sipush 600, 3) := by decide +kernel
theorem dX6_pokeJournal_8 : decode cX6_pokeJournal 8 = .ok (.if_icmp .lt 13, 3) := by decide +kernel
theorem dX6_pokeJournal_11 : decode cX6_pokeJournal 11 = .ok (.new 125, 3) := by decide +kernel
theorem dX6_pokeJournal_14 : decode cX6_pokeJournal 14 = .ok (.dup, 1) := by decide +kernel
theorem dX6_pokeJournal_15 : decode cX6_pokeJournal 15 = .ok (.ldc 127, 2) := by decide +kernel
theorem dX6_pokeJournal_17 : decode cX6_pokeJournal 17 = .ok (.invokespecial 129, 3) := by decide +kernel
theorem dX6_pokeJournal_20 : decode cX6_pokeJournal 20 = .ok (.athrow, 1) := by decide +kernel
theorem dX6_pokeJournal_21 : decode cX6_pokeJournal 21 = .ok (.aload_n 0, 1) := by decide +kernel
theorem dX6_pokeJournal_22 : decode cX6_pokeJournal 22 = .ok (.iload_n 2, 1) := by decide +kernel
theorem dX6_pokeJournal_23 : decode cX6_pokeJournal 23 = .ok (.invokevirtual 110, 3) := by decide +kernel
theorem dX6_pokeJournal_26 : decode cX6_pokeJournal 26 = .ok (.aload_n 0, 1) := by decide +kernel
theorem dX6_pokeJournal_27 : decode cX6_pokeJournal 27 = .ok (.getfield 10, 3) := by decide +kernel
theorem dX6_pokeJournal_30 : decode cX6_pokeJournal 30 = .ok (.iload_n 1, 1) := by decide +kernel
theorem dX6_pokeJournal_31 : decode cX6_pokeJournal 31 = .ok (.iload_n 2, 1) := by decide +kernel
theorem dX6_pokeJournal_32 : decode cX6_pokeJournal 32 = .ok (.invokevirtual 130, 3) := by decide +kernel
theorem dX6_pokeJournal_35 : decode cX6_pokeJournal 35 = .ok (.return_, 1) := by decide +kernel
theorem dX6_badAt_0 : decode cX6_badAt 0 = .ok (.iconst 0, 1) := by decide +kernel
theorem dX6_badAt_1 : decode cX6_badAt 1 = .ok (.istore_n 1, 1) := by decide +kernel
theorem dX6_badAt_2 : decode cX6_badAt 2 = .ok (.iload_n 1, 1) := by decide +kernel
theorem dX6_badAt_3 : decode cX6_badAt 3 = .ok (.aload_n 0, 1) := by decide +kernel
theorem dX6_badAt_4 : decode cX6_badAt 4 = .ok (.getfield 40, 3) := by decide +kernel
theorem dX6_badAt_7 : decode cX6_badAt 7 = .ok (.invokevirtual 131, 3) := by decide +kernel
theorem dX6_badAt_10 : decode cX6_badAt 10 = .ok (.if_icmp .ge 25, 3) := by decide +kernel
theorem dX6_badAt_13 : decode cX6_badAt 13 = .ok (.aload_n 0, 1) := by decide +kernel
theorem dX6_badAt_14 : decode cX6_badAt 14 = .ok (.getfield 40, 3) := by decide +kernel
theorem dX6_badAt_17 : decode cX6_badAt 17 = .ok (.iload_n 1, 1) := by decide +kernel
theorem dX6_badAt_18 : decode cX6_badAt 18 = .ok (.invokevirtual 113, 3) := by decide +kernel
theorem dX6_badAt_21 : decode cX6_badAt 21 = .ok (.invokevirtual 134, 3) := by decide +kernel
theorem dX6_badAt_24 : decode cX6_badAt 24 = .ok (.ifCond .eq 5, 3) := by decide +kernel
theorem dX6_badAt_27 : decode cX6_badAt 27 = .ok (.iload_n 1, 1) := by decide +kernel
theorem dX6_badAt_28 : decode cX6_badAt 28 = .ok (.ireturn, 1) := by decide +kernel
theorem dX6_badAt_29 : decode cX6_badAt 29 = .ok (.iinc 1 1, 3) := by decide +kernel
theorem dX6_badAt_32 : decode cX6_badAt 32 = .ok (.goto (-30), 3) := by decide +kernel
theorem dX6_badAt_35 : decode cX6_badAt 35 = .ok (.iconst (-1), 1) := by decide +kernel
theorem dX6_badAt_36 : decode cX6_badAt 36 = .ok (.ireturn, 1) := by decide +kernel
theorem dX6_byteAt_0 : decode cX6_byteAt 0 = .ok (.aload_n 0, 1) := by decide +kernel
theorem dX6_byteAt_1 : decode cX6_byteAt 1 = .ok (.iload_n 1, 1) := by decide +kernel
theorem dX6_byteAt_2 : decode cX6_byteAt 2 = .ok (.iload_n 2, 1) := by decide +kernel
theorem dX6_byteAt_3 : decode cX6_byteAt 3 = .ok (.invokevirtual 106, 3) := by decide +kernel
theorem dX6_byteAt_6 : decode cX6_byteAt 6 = .ok (.aload_n 0, 1) := by decide +kernel
theorem dX6_byteAt_7 : decode cX6_byteAt 7 = .ok (.getfield 40, 3) := by decide +kernel
theorem dX6_byteAt_10 : decode cX6_byteAt 10 = .ok (.iload_n 1, 1) := by decide +kernel
theorem dX6_byteAt_11 : decode cX6_byteAt 11 = .ok (.invokevirtual 113, 3) := by decide +kernel
theorem dX6_byteAt_14 : decode cX6_byteAt 14 = .ok (.iload_n 2, 1) := by decide +kernel
theorem dX6_byteAt_15 : decode cX6_byteAt 15 = .ok (.invokevirtual 138, 3) := by decide +kernel
theorem dX6_byteAt_18 : decode cX6_byteAt 18 = .ok (.ireturn, 1) := by decide +kernel
theorem dX6_entry_0 : decode cX6_entry 0 = .ok (.iload_n 1, 1) := by decide +kernel
theorem dX6_entry_1 : decode cX6_entry 1 = .ok (.ifCond .lt 14, 3) := by decide +kernel
theorem dX6_entry_4 : decode cX6_entry 4 = .ok (.iload_n 1, 1) := by decide +kernel
theorem dX6_entry_5 : decode cX6_entry 5 = .ok (.aload_n 0, 1) := by decide +kernel
theorem dX6_entry_6 : decode cX6_entry 6 = .ok (.getfield 40, 3) := by decide +kernel
theorem dX6_entry_9 : decode cX6_entry 9 = .ok (.invokevirtual 141, 3) := by decide +kernel
theorem dX6_entry_12 : decode cX6_entry 12 = .ok (.if_icmp .lt 13, 3) := by decide +kernel
theorem dX6_entry_15 : decode cX6_entry 15 = .ok (.new 125, 3) := by decide +kernel
theorem dX6_entry_18 : decode cX6_entry 18 = .ok (.dup, 1) := by decide +kernel
theorem dX6_entry_19 : decode cX6_entry 19 = .ok (.ldc 144, 2) := by decide +kernel
theorem dX6_entry_21 : decode cX6_entry 21 = .ok (.invokespecial 129, 3) := by decide +kernel
theorem dX6_entry_24 : decode cX6_entry 24 = .ok (.athrow, 1) := by decide +kernel
theorem dX6_entry_25 : decode cX6_entry 25 = .ok (.aload_n 0, 1) := by decide +kernel
theorem dX6_entry_26 : decode cX6_entry 26 = .ok (.getfield 40, 3) := by decide +kernel
theorem dX6_entry_29 : decode cX6_entry 29 = .ok (.iload_n 1, 1) := by decide +kernel
theorem dX6_entry_30 : decode cX6_entry 30 = .ok (.invokevirtual 146, 3) := by decide +kernel
theorem dX6_entry_33 : decode cX6_entry 33 = .ok (.ireturn, 1) := by decide +kernel
theorem dX6_count_0 : decode cX6_count 0 = .ok (.iload_n 1, 1) := by decide +kernel
theorem dX6_count_1 : decode cX6_count 1 = .ok (.tableswitch 91 0 5 #[39, 47, 55, 67, 75, 83], 39) := by decide +kernel
theorem dX6_count_40 : decode cX6_count 40 = .ok (.aload_n 0, 1) := by decide +kernel
theorem dX6_count_41 : decode cX6_count 41 = .ok (.getfield 40, 3) := by decide +kernel
theorem dX6_count_44 : decode cX6_count 44 = .ok (.invokevirtual 149, 3) := by decide +kernel
theorem dX6_count_47 : decode cX6_count 47 = .ok (.ireturn, 1) := by decide +kernel
theorem dX6_count_48 : decode cX6_count 48 = .ok (.aload_n 0, 1) := by decide +kernel
theorem dX6_count_49 : decode cX6_count 49 = .ok (.getfield 40, 3) := by decide +kernel
theorem dX6_count_52 : decode cX6_count 52 = .ok (.invokevirtual 152, 3) := by decide +kernel
theorem dX6_count_55 : decode cX6_count 55 = .ok (.ireturn, 1) := by decide +kernel
theorem dX6_count_56 : decode cX6_count 56 = .ok (.aload_n 0, 1) := by decide +kernel
theorem dX6_count_57 : decode cX6_count 57 = .ok (.invokevirtual 83, 3) := by decide +kernel
theorem dX6_count_60 : decode cX6_count 60 = .ok (.aload_n 0, 1) := by decide +kernel
theorem dX6_count_61 : decode cX6_count 61 = .ok (.getfield 40, 3) := by decide +kernel
theorem dX6_count_64 : decode cX6_count 64 = .ok (.invokevirtual 155, 3) := by decide +kernel
theorem dX6_count_67 : decode cX6_count 67 = .ok (.ireturn, 1) := by decide +kernel
theorem dX6_count_68 : decode cX6_count 68 = .ok (.aload_n 0, 1) := by decide +kernel
theorem dX6_count_69 : decode cX6_count 69 = .ok (.getfield 40, 3) := by decide +kernel
theorem dX6_count_72 : decode cX6_count 72 = .ok (.invokevirtual 93, 3) := by decide +kernel
theorem dX6_count_75 : decode cX6_count 75 = .ok (.ireturn, 1) := by decide +kernel
theorem dX6_count_76 : decode cX6_count 76 = .ok (.aload_n 0, 1) := by decide +kernel
theorem dX6_count_77 : decode cX6_count 77 = .ok (.getfield 10, 3) := by decide +kernel
theorem dX6_count_80 : decode cX6_count 80 = .ok (.invokevirtual 97, 3) := by decide +kernel
theorem dX6_count_83 : decode cX6_count 83 = .ok (.ireturn, 1) := by decide +kernel
theorem dX6_count_84 : decode cX6_count 84 = .ok (.aload_n 0, 1) := by decide +kernel
theorem dX6_count_85 : decode cX6_count 85 = .ok (.getfield 40, 3) := by decide +kernel
theorem dX6_count_88 : decode cX6_count 88 = .ok (.invokevirtual 131, 3) := by decide +kernel
theorem dX6_count_91 : decode cX6_count 91 = .ok (.ireturn, 1) := by decide +kernel
theorem dX6_count_92 : decode cX6_count 92 = .ok (.iconst (-1), 1) := by decide +kernel
theorem dX6_count_93 : decode cX6_count 93 = .ok (.ireturn, 1) := by decide +kernel
theorem dX6_requireSound_0 : decode cX6_requireSound 0 = .ok (.aload_n 0, 1) := by decide +kernel
theorem dX6_requireSound_1 : decode cX6_requireSound 1 = .ok (.getfield 50, 3) := by decide +kernel
theorem dX6_requireSound_4 : decode cX6_requireSound 4 = .ok (.invokevirtual 158, 3) := by decide +kernel
theorem dX6_requireSound_7 : decode cX6_requireSound 7 = .ok (.ifCond .eq 13, 3) := by decide +kernel
theorem dX6_requireSound_10 : decode cX6_requireSound 10 = .ok (.new 161, 3) := by decide +kernel
theorem dX6_requireSound_13 : decode cX6_requireSound 13 = .ok (.dup, 1) := by decide +kernel
theorem dX6_requireSound_14 : decode cX6_requireSound 14 = .ok (.ldc 163, 2) := by decide +kernel
theorem dX6_requireSound_16 : decode cX6_requireSound 16 = .ok (.invokespecial 165, 3) := by decide +kernel
theorem dX6_requireSound_19 : decode cX6_requireSound 19 = .ok (.athrow, 1) := by decide +kernel
theorem dX6_requireSound_20 : decode cX6_requireSound 20 = .ok (.return_, 1) := by decide +kernel
theorem dX6_requireSoundAndFed_0 : decode cX6_requireSoundAndFed 0 = .ok (.aload_n 0, 1) := by decide +kernel
theorem dX6_requireSoundAndFed_1 : decode cX6_requireSoundAndFed 1 = .ok (.invokevirtual 83, 3) := by decide +kernel
theorem dX6_requireSoundAndFed_4 : decode cX6_requireSoundAndFed 4 = .ok (.aload_n 0, 1) := by decide +kernel
theorem dX6_requireSoundAndFed_5 : decode cX6_requireSoundAndFed 5 = .ok (.getfield 19, 3) := by decide +kernel
theorem dX6_requireSoundAndFed_8 : decode cX6_requireSoundAndFed 8 = .ok (.invokevirtual 166, 3) := by decide +kernel
theorem dX6_requireSoundAndFed_11 : decode cX6_requireSoundAndFed 11 = .ok (.ifCond .ne 13, 3) := by decide +kernel
theorem dX6_requireSoundAndFed_14 : decode cX6_requireSoundAndFed 14 = .ok (.new 161, 3) := by decide +kernel
theorem dX6_requireSoundAndFed_17 : decode cX6_requireSoundAndFed 17 = .ok (.dup, 1) := by decide +kernel
theorem dX6_requireSoundAndFed_18 : decode cX6_requireSoundAndFed 18 = .ok (.ldc 167, 2) := by decide +kernel
theorem dX6_requireSoundAndFed_20 : decode cX6_requireSoundAndFed 20 = .ok (.invokespecial 165, 3) := by decide +kernel
theorem dX6_requireSoundAndFed_23 : decode cX6_requireSoundAndFed 23 = .ok (.athrow, 1) := by decide +kernel
theorem dX6_requireSoundAndFed_24 : decode cX6_requireSoundAndFed 24 = .ok (.return_, 1) := by decide +kernel
theorem dX6_requirePageByte_0 : decode cX6_requirePageByte 0 = .ok (.iload_n 1, 1) := by decide +kernel
theorem dX6_requirePageByte_1 : decode cX6_requirePageByte 1 = .ok (.ifCond .lt 24, 3) := by decide +kernel
theorem dX6_requirePageByte_4 : decode cX6_requirePageByte 4 = .ok (.iload_n 1, 1) := by decide +kernel
theorem dX6_requirePageByte_5 : decode cX6_requirePageByte 5 = .ok (.aload_n 0, 1) := by decide +kernel
theorem dX6_requirePageByte_6 : decode cX6_requirePageByte 6 = .ok (.getfield 40, 3) := by decide +kernel
theorem dX6_requirePageByte_9 : decode cX6_requirePageByte 9 = .ok (.invokevirtual 131, 3) := by decide +kernel
theorem dX6_requirePageByte_12 : decode cX6_requirePageByte 12 = .ok (.if_icmp .ge 13, 3) := by decide +kernel
theorem dX6_requirePageByte_15 : decode cX6_requirePageByte 15 = .ok (.iload_n 2, 1) := by decide +kernel
theorem dX6_requirePageByte_16 : decode cX6_requirePageByte 16 = .ok (.ifCond .lt 9, 3) := by decide +kernel
theorem dX6_requirePageByte_19 : decode cX6_requirePageByte 19 = .ok (.iload_n 2, 1) := by decide +kernel
theorem dX6_requirePageByte_20 : decode cX6_requirePageByte 20 = .ok (.bipush 64, 2) := by decide +kernel
theorem dX6_requirePageByte_22 : decode cX6_requirePageByte 22 = .ok (.if_icmp .lt 13, 3) := by decide +kernel
theorem dX6_requirePageByte_25 : decode cX6_requirePageByte 25 = .ok (.new 125, 3) := by decide +kernel
theorem dX6_requirePageByte_28 : decode cX6_requirePageByte 28 = .ok (.dup, 1) := by decide +kernel
theorem dX6_requirePageByte_29 : decode cX6_requirePageByte 29 = .ok (.ldc 169, 2) := by decide +kernel
theorem dX6_requirePageByte_31 : decode cX6_requirePageByte 31 = .ok (.invokespecial 129, 3) := by decide +kernel
theorem dX6_requirePageByte_34 : decode cX6_requirePageByte 34 = .ok (.athrow, 1) := by decide +kernel
theorem dX6_requirePageByte_35 : decode cX6_requirePageByte 35 = .ok (.return_, 1) := by decide +kernel
theorem dX6_requireMask_0 : decode cX6_requireMask 0 = .ok (.iload_n 1, 1) := by decide +kernel
theorem dX6_requireMask_1 : decode cX6_requireMask 1 = .ok (.iconst 1, 1) := by decide +kernel
theorem dX6_requireMask_2 : decode cX6_requireMask 2 = .ok (.if_icmp .lt 10, 3) := by decide +kernel
theorem dX6_requireMask_5 : decode cX6_requireMask 5 = .ok (.iload_n 1, 1) := by decide +kernel
theorem dX6_requireMask_6 : decode cX6_requireMask 6 = .ok (.sipush 255, 3) := by decide +kernel
theorem dX6_requireMask_9 : decode cX6_requireMask 9 = .ok (.if_icmp .le 13, 3) := by decide +kernel
theorem dX6_requireMask_12 : decode cX6_requireMask 12 = .ok (.new 54, 3) := by decide +kernel
theorem dX6_requireMask_15 : decode cX6_requireMask 15 = .ok (.dup, 1) := by decide +kernel
theorem dX6_requireMask_16 : decode cX6_requireMask 16 = .ok (.ldc 171, 2) := by decide +kernel
theorem dX6_requireMask_18 : decode cX6_requireMask 18 = .ok (.invokespecial 58, 3) := by decide +kernel
theorem dX6_requireMask_21 : decode cX6_requireMask 21 = .ok (.athrow, 1) := by decide +kernel
theorem dX6_requireMask_22 : decode cX6_requireMask 22 = .ok (.return_, 1) := by decide +kernel
theorem dX6_act_0 : decode cX6_act 0 = .ok (.aload_n 0, 1) := by decide +kernel
theorem dX6_act_1 : decode cX6_act 1 = .ok (.getfield 10, 3) := by decide +kernel
theorem dX6_act_4 : decode cX6_act 4 = .ok (.aload_n 0, 1) := by decide +kernel
theorem dX6_act_5 : decode cX6_act 5 = .ok (.getfield 19, 3) := by decide +kernel
theorem dX6_act_8 : decode cX6_act 8 = .ok (.invokevirtual 173, 3) := by decide +kernel
theorem dX6_act_11 : decode cX6_act 11 = .ok (.ifCond .ne 6, 3) := by decide +kernel
theorem dX6_act_14 : decode cX6_act 14 = .ok (.bipush (-2), 2) := by decide +kernel
theorem dX6_act_16 : decode cX6_act 16 = .ok (.ireturn, 1) := by decide +kernel
theorem dX6_act_17 : decode cX6_act 17 = .ok (.aload_n 0, 1) := by decide +kernel
theorem dX6_act_18 : decode cX6_act 18 = .ok (.getfield 40, 3) := by decide +kernel
theorem dX6_act_21 : decode cX6_act 21 = .ok (.invokevirtual 93, 3) := by decide +kernel
theorem dX6_act_24 : decode cX6_act 24 = .ok (.istore_n 2, 1) := by decide +kernel
theorem dX6_act_25 : decode cX6_act 25 = .ok (.aload_n 0, 1) := by decide +kernel
theorem dX6_act_26 : decode cX6_act 26 = .ok (.getfield 40, 3) := by decide +kernel
theorem dX6_act_29 : decode cX6_act 29 = .ok (.aload_n 0, 1) := by decide +kernel
theorem dX6_act_30 : decode cX6_act 30 = .ok (.getfield 19, 3) := by decide +kernel
theorem dX6_act_33 : decode cX6_act 33 = .ok (.iload_n 1, 1) := by decide +kernel
theorem dX6_act_34 : decode cX6_act 34 = .ok (.invokevirtual 176, 3) := by decide +kernel
theorem dX6_act_37 : decode cX6_act 37 = .ok (.ifCond .ne 5, 3) := by decide +kernel
theorem dX6_act_40 : decode cX6_act 40 = .ok (.iconst (-1), 1) := by decide +kernel
theorem dX6_act_41 : decode cX6_act 41 = .ok (.ireturn, 1) := by decide +kernel
theorem dX6_act_42 : decode cX6_act 42 = .ok (.aload_n 0, 1) := by decide +kernel
theorem dX6_act_43 : decode cX6_act 43 = .ok (.getfield 10, 3) := by decide +kernel
theorem dX6_act_46 : decode cX6_act 46 = .ok (.aload_n 0, 1) := by decide +kernel
theorem dX6_act_47 : decode cX6_act 47 = .ok (.getfield 19, 3) := by decide +kernel
theorem dX6_act_50 : decode cX6_act 50 = .ok (.iload_n 1, 1) := by decide +kernel
theorem dX6_act_51 : decode cX6_act 51 = .ok (.invokevirtual 180, 3) := by decide +kernel
theorem dX6_act_54 : decode cX6_act 54 = .ok (.iload_n 2, 1) := by decide +kernel
theorem dX6_act_55 : decode cX6_act 55 = .ok (.ireturn, 1) := by decide +kernel
theorem dX6_replay_0 : decode cX6_replay 0 = .ok (.iconst 0, 1) := by decide +kernel
theorem dX6_replay_1 : decode cX6_replay 1 = .ok (.istore_n 1, 1) := by decide +kernel
theorem dX6_replay_2 : decode cX6_replay 2 = .ok (.iconst 0, 1) := by decide +kernel
theorem dX6_replay_3 : decode cX6_replay 3 = .ok (.istore_n 2, 1) := by decide +kernel
theorem dX6_replay_4 : decode cX6_replay 4 = .ok (.iload_n 2, 1) := by decide +kernel
theorem dX6_replay_5 : decode cX6_replay 5 = .ok (.sipush 600, 3) := by decide +kernel
theorem dX6_replay_8 : decode cX6_replay 8 = .ok (.if_icmp .ge 69, 3) := by decide +kernel
theorem dX6_replay_11 : decode cX6_replay 11 = .ok (.aload_n 0, 1) := by decide +kernel
theorem dX6_replay_12 : decode cX6_replay 12 = .ok (.getfield 10, 3) := by decide +kernel
theorem dX6_replay_15 : decode cX6_replay 15 = .ok (.iload_n 1, 1) := by decide +kernel
theorem dX6_replay_16 : decode cX6_replay 16 = .ok (.invokevirtual 184, 3) := by decide +kernel
theorem dX6_replay_19 : decode cX6_replay 19 = .ok (.ifCond .ne 5, 3) := by decide +kernel
theorem dX6_replay_22 : decode cX6_replay 22 = .ok (.iload_n 1, 1) := by decide +kernel
theorem dX6_replay_23 : decode cX6_replay 23 = .ok (.ireturn, 1) := by decide +kernel
theorem dX6_replay_24 : decode cX6_replay 24 = .ok (.aload_n 0, 1) := by decide +kernel
theorem dX6_replay_25 : decode cX6_replay 25 = .ok (.getfield 10, 3) := by decide +kernel
theorem dX6_replay_28 : decode cX6_replay 28 = .ok (.iload_n 1, 1) := by decide +kernel
theorem dX6_replay_29 : decode cX6_replay 29 = .ok (.aload_n 0, 1) := by decide +kernel
theorem dX6_replay_30 : decode cX6_replay 30 = .ok (.getfield 23, 3) := by decide +kernel
theorem dX6_replay_33 : decode cX6_replay 33 = .ok (.invokevirtual 187, 3) := by decide +kernel
theorem dX6_replay_36 : decode cX6_replay 36 = .ok (.aload_n 0, 1) := by decide +kernel
theorem dX6_replay_37 : decode cX6_replay 37 = .ok (.getfield 40, 3) := by decide +kernel
theorem dX6_replay_40 : decode cX6_replay 40 = .ok (.aload_n 0, 1) := by decide +kernel
theorem dX6_replay_41 : decode cX6_replay 41 = .ok (.getfield 23, 3) := by decide +kernel
theorem dX6_replay_44 : decode cX6_replay 44 = .ok (.aload_n 0, 1) := by decide +kernel
theorem dX6_replay_45 : decode cX6_replay 45 = .ok (.getfield 10, 3) := by decide +kernel
theorem dX6_replay_48 : decode cX6_replay 48 = .ok (.iload_n 1, 1) := by decide +kernel
theorem dX6_replay_49 : decode cX6_replay 49 = .ok (.invokevirtual 191, 3) := by decide +kernel
theorem dX6_replay_52 : decode cX6_replay 52 = .ok (.invokevirtual 176, 3) := by decide +kernel
theorem dX6_replay_55 : decode cX6_replay 55 = .ok (.ifCond .ne 5, 3) := by decide +kernel
theorem dX6_replay_58 : decode cX6_replay 58 = .ok (.iload_n 1, 1) := by decide +kernel
theorem dX6_replay_59 : decode cX6_replay 59 = .ok (.ireturn, 1) := by decide +kernel
theorem dX6_replay_60 : decode cX6_replay 60 = .ok (.iload_n 1, 1) := by decide +kernel
theorem dX6_replay_61 : decode cX6_replay 61 = .ok (.aload_n 0, 1) := by decide +kernel
theorem dX6_replay_62 : decode cX6_replay 62 = .ok (.getfield 10, 3) := by decide +kernel
theorem dX6_replay_65 : decode cX6_replay 65 = .ok (.iload_n 1, 1) := by decide +kernel
theorem dX6_replay_66 : decode cX6_replay 66 = .ok (.invokevirtual 194, 3) := by decide +kernel
theorem dX6_replay_69 : decode cX6_replay 69 = .ok (.iadd, 1) := by decide +kernel
theorem dX6_replay_70 : decode cX6_replay 70 = .ok (.istore_n 1, 1) := by decide +kernel
theorem dX6_replay_71 : decode cX6_replay 71 = .ok (.iinc 2 1, 3) := by decide +kernel
theorem dX6_replay_74 : decode cX6_replay 74 = .ok (.goto (-70), 3) := by decide +kernel
theorem dX6_replay_77 : decode cX6_replay 77 = .ok (.iload_n 1, 1) := by decide +kernel
theorem dX6_replay_78 : decode cX6_replay 78 = .ok (.ireturn, 1) := by decide +kernel
theorem dX7_init_0 : decode cX7_init 0 = .ok (.aload_n 0, 1) := by decide +kernel
theorem dX7_init_1 : decode cX7_init 1 = .ok (.invokespecial 1, 3) := by decide +kernel
theorem dX7_init_4 : decode cX7_init 4 = .ok (.aload_n 0, 1) := by decide +kernel
theorem dX7_init_5 : decode cX7_init 5 = .ok (.iconst 3, 1) := by decide +kernel
theorem dX7_init_6 : decode cX7_init 6 = .ok (.newarray .int, 2) := by decide +kernel
theorem dX7_init_8 : decode cX7_init 8 = .ok (.putfield 7, 3) := by decide +kernel
theorem dX7_init_11 : decode cX7_init 11 = .ok (.aload_n 0, 1) := by decide +kernel
theorem dX7_init_12 : decode cX7_init 12 = .ok (.sipush 1200, 3) := by decide +kernel
theorem dX7_init_15 : decode cX7_init 15 = .ok (.newarray .int, 2) := by decide +kernel
theorem dX7_init_17 : decode cX7_init 17 = .ok (.putfield 13, 3) := by decide +kernel
theorem dX7_init_20 : decode cX7_init 20 = .ok (.aload_n 0, 1) := by decide +kernel
theorem dX7_init_21 : decode cX7_init 21 = .ok (.sipush 14400, 3) := by decide +kernel
theorem dX7_init_24 : decode cX7_init 24 = .ok (.newarray .int, 2) := by decide +kernel
theorem dX7_init_26 : decode cX7_init 26 = .ok (.putfield 16, 3) := by decide +kernel
theorem dX7_init_29 : decode cX7_init 29 = .ok (.aload_n 0, 1) := by decide +kernel
theorem dX7_init_30 : decode cX7_init 30 = .ok (.sipush 1200, 3) := by decide +kernel
theorem dX7_init_33 : decode cX7_init 33 = .ok (.newarray .int, 2) := by decide +kernel
theorem dX7_init_35 : decode cX7_init 35 = .ok (.putfield 19, 3) := by decide +kernel
theorem dX7_init_38 : decode cX7_init 38 = .ok (.aload_n 0, 1) := by decide +kernel
theorem dX7_init_39 : decode cX7_init 39 = .ok (.sipush 1200, 3) := by decide +kernel
theorem dX7_init_42 : decode cX7_init 42 = .ok (.newarray .int, 2) := by decide +kernel
theorem dX7_init_44 : decode cX7_init 44 = .ok (.putfield 22, 3) := by decide +kernel
theorem dX7_init_47 : decode cX7_init 47 = .ok (.aload_n 0, 1) := by decide +kernel
theorem dX7_init_48 : decode cX7_init 48 = .ok (.bipush 120, 2) := by decide +kernel
theorem dX7_init_50 : decode cX7_init 50 = .ok (.newarray .int, 2) := by decide +kernel
theorem dX7_init_52 : decode cX7_init 52 = .ok (.putfield 25, 3) := by decide +kernel
theorem dX7_init_55 : decode cX7_init 55 = .ok (.aload_n 0, 1) := by decide +kernel
theorem dX7_init_56 : decode cX7_init 56 = .ok (.bipush 120, 2) := by decide +kernel
theorem dX7_init_58 : decode cX7_init 58 = .ok (.newarray .boolean, 2) := by decide +kernel
theorem dX7_init_60 : decode cX7_init 60 = .ok (.putfield 28, 3) := by decide +kernel
theorem dX7_init_63 : decode cX7_init 63 = .ok (.aload_n 0, 1) := by decide +kernel
theorem dX7_init_64 : decode cX7_init 64 = .ok (.bipush 120, 2) := by decide +kernel
theorem dX7_init_66 : decode cX7_init 66 = .ok (.newarray .int, 2) := by decide +kernel
theorem dX7_init_68 : decode cX7_init 68 = .ok (.putfield 32, 3) := by decide +kernel
theorem dX7_init_71 : decode cX7_init 71 = .ok (.aload_n 0, 1) := by decide +kernel
theorem dX7_init_72 : decode cX7_init 72 = .ok (.sipush 1200, 3) := by decide +kernel
theorem dX7_init_75 : decode cX7_init 75 = .ok (.newarray .int, 2) := by decide +kernel
theorem dX7_init_77 : decode cX7_init 77 = .ok (.putfield 35, 3) := by decide +kernel
theorem dX7_init_80 : decode cX7_init 80 = .ok (.aload_n 0, 1) := by decide +kernel
theorem dX7_init_81 : decode cX7_init 81 = .ok (.iconst 3, 1) := by decide +kernel
theorem dX7_init_82 : decode cX7_init 82 = .ok (.newarray .int, 2) := by decide +kernel
theorem dX7_init_84 : decode cX7_init 84 = .ok (.putfield 38, 3) := by decide +kernel
theorem dX7_init_87 : decode cX7_init 87 = .ok (.aload_n 0, 1) := by decide +kernel
theorem dX7_init_88 : decode cX7_init 88 = .ok (.bipush 96, 2) := by decide +kernel
theorem dX7_init_90 : decode cX7_init 90 = .ok (.newarray .int, 2) := by decide +kernel
theorem dX7_init_92 : decode cX7_init 92 = .ok (.putfield 41, 3) := by decide +kernel
theorem dX7_init_95 : decode cX7_init 95 = .ok (.aload_n 0, 1) := by decide +kernel
theorem dX7_init_96 : decode cX7_init 96 = .ok (.iconst 3, 1) := by decide +kernel
theorem dX7_init_97 : decode cX7_init 97 = .ok (.newarray .int, 2) := by decide +kernel
theorem dX7_init_99 : decode cX7_init 99 = .ok (.putfield 44, 3) := by decide +kernel
theorem dX7_init_102 : decode cX7_init 102 = .ok (.aload_n 0, 1) := by decide +kernel
theorem dX7_init_103 : decode cX7_init 103 = .ok (.sipush 2560, 3) := by decide +kernel
theorem dX7_init_106 : decode cX7_init 106 = .ok (.newarray .int, 2) := by decide +kernel
theorem dX7_init_108 : decode cX7_init 108 = .ok (.putfield 47, 3) := by decide +kernel
theorem dX7_init_111 : decode cX7_init 111 = .ok (.aload_n 0, 1) := by decide +kernel
theorem dX7_init_112 : decode cX7_init 112 = .ok (.sipush 600, 3) := by decide +kernel
theorem dX7_init_115 : decode cX7_init 115 = .ok (.newarray .int, 2) := by decide +kernel
theorem dX7_init_117 : decode cX7_init 117 = .ok (.putfield 50, 3) := by decide +kernel
theorem dX7_init_120 : decode cX7_init 120 = .ok (.aload_n 0, 1) := by decide +kernel
theorem dX7_init_121 : decode cX7_init 121 = .ok (.bipush 12, 2) := by decide +kernel
theorem dX7_init_123 : decode cX7_init 123 = .ok (.newarray .int, 2) := by decide +kernel
theorem dX7_init_125 : decode cX7_init 125 = .ok (.putfield 53, 3) := by decide +kernel
theorem dX7_init_128 : decode cX7_init 128 = .ok (.aload_n 0, 1) := by decide +kernel
theorem dX7_init_129 : decode cX7_init 129 = .ok (.bipush 64, 2) := by decide +kernel
theorem dX7_init_131 : decode cX7_init 131 = .ok (.newarray .int, 2) := by decide +kernel
theorem dX7_init_133 : decode cX7_init 133 = .ok (.putfield 56, 3) := by decide +kernel
theorem dX7_init_136 : decode cX7_init 136 = .ok (.aload_n 0, 1) := by decide +kernel
theorem dX7_init_137 : decode cX7_init 137 = .ok (.iload_n 1, 1) := by decide +kernel
theorem dX7_init_138 : decode cX7_init 138 = .ok (.iconst 1, 1) := by decide +kernel
theorem dX7_init_139 : decode cX7_init 139 = .ok (.if_icmp .ge 7, 3) := by decide +kernel
theorem dX7_init_142 : decode cX7_init 142 = .ok (.iconst 1, 1) := by decide +kernel
theorem dX7_init_143 : decode cX7_init 143 = .ok (.goto 15, 3) := by decide +kernel
theorem dX7_init_146 : decode cX7_init 146 = .ok (.iload_n 1, 1) := by decide +kernel
theorem dX7_init_147 : decode cX7_init 147 = .ok (.bipush 40, 2) := by decide +kernel
theorem dX7_init_149 : decode cX7_init 149 = .ok (.if_icmp .le 8, 3) := by decide +kernel
theorem dX7_init_152 : decode cX7_init 152 = .ok (.bipush 40, 2) := by decide +kernel
theorem dX7_init_154 : decode cX7_init 154 = .ok (.goto 4, 3) := by decide +kernel
theorem dX7_init_157 : decode cX7_init 157 = .ok (.iload_n 1, 1) := by decide +kernel
theorem dX7_init_158 : decode cX7_init 158 = .ok (.putfield 59, 3) := by decide +kernel
theorem dX7_init_161 : decode cX7_init 161 = .ok (.aload_n 0, 1) := by decide +kernel
theorem dX7_init_162 : decode cX7_init 162 = .ok (.getfield 28, 3) := by decide +kernel
theorem dX7_init_165 : decode cX7_init 165 = .ok (.iconst 0, 1) := by decide +kernel
theorem dX7_init_166 : decode cX7_init 166 = .ok (.iconst 1, 1) := by decide +kernel
theorem dX7_init_167 : decode cX7_init 167 = .ok (.bastore, 1) := by decide +kernel
theorem dX7_init_168 : decode cX7_init 168 = .ok (.aload_n 0, 1) := by decide +kernel
theorem dX7_init_169 : decode cX7_init 169 = .ok (.iconst 1, 1) := by decide +kernel
theorem dX7_init_170 : decode cX7_init 170 = .ok (.iconst 0, 1) := by decide +kernel
theorem dX7_init_171 : decode cX7_init 171 = .ok (.invokevirtual 63, 3) := by decide +kernel
theorem dX7_init_174 : decode cX7_init 174 = .ok (.return_, 1) := by decide +kernel
theorem dX7_thrown_0 : decode cX7_thrown 0 = .ok (.aload_n 0, 1) := by decide +kernel
theorem dX7_thrown_1 : decode cX7_thrown 1 = .ok (.getfield 67, 3) := by decide +kernel
theorem dX7_thrown_4 : decode cX7_thrown 4 = .ok (.ireturn, 1) := by decide +kernel
theorem dX7_raise_0 : decode cX7_raise 0 = .ok (.aload_n 0, 1) := by decide +kernel
theorem dX7_raise_1 : decode cX7_raise 1 = .ok (.iload_n 1, 1) := by decide +kernel
theorem dX7_raise_2 : decode cX7_raise 2 = .ok (.putfield 67, 3) := by decide +kernel
theorem dX7_raise_5 : decode cX7_raise 5 = .ok (.iconst 0, 1) := by decide +kernel
theorem dX7_raise_6 : decode cX7_raise 6 = .ok (.ireturn, 1) := by decide +kernel
theorem dX7_in_0 : decode cX7_in 0 = .ok (.iload_n 0, 1) := by decide +kernel
theorem dX7_in_1 : decode cX7_in 1 = .ok (.iload_n 1, 1) := by decide +kernel
theorem dX7_in_2 : decode cX7_in 2 = .ok (.if_icmp .lt 12, 3) := by decide +kernel
theorem dX7_in_5 : decode cX7_in 5 = .ok (.iload_n 0, 1) := by decide +kernel
theorem dX7_in_6 : decode cX7_in 6 = .ok (.iload_n 2, 1) := by decide +kernel
theorem dX7_in_7 : decode cX7_in 7 = .ok (.if_icmp .gt 7, 3) := by decide +kernel
theorem dX7_in_10 : decode cX7_in 10 = .ok (.iconst 1, 1) := by decide +kernel
theorem dX7_in_11 : decode cX7_in 11 = .ok (.goto 4, 3) := by decide +kernel
theorem dX7_in_14 : decode cX7_in 14 = .ok (.iconst 0, 1) := by decide +kernel
theorem dX7_in_15 : decode cX7_in 15 = .ok (.ireturn, 1) := by decide +kernel
theorem dX7_more_0 : decode cX7_more 0 = .ok (.iload_n 0, 1) := by decide +kernel
theorem dX7_more_1 : decode cX7_more 1 = .ok (.iload_n 1, 1) := by decide +kernel
theorem dX7_more_2 : decode cX7_more 2 = .ok (.ixor, 1) := by decide +kernel
theorem dX7_more_3 : decode cX7_more 3 = .ok (.istore_n 2, 1) := by decide +kernel
theorem dX7_more_4 : decode cX7_more 4 = .ok (.iload_n 2, 1) := by decide +kernel
theorem dX7_more_5 : decode cX7_more 5 = .ok (.bipush 11, 2) := by decide +kernel
theorem dX7_more_7 : decode cX7_more 7 = .ok (.ishl, 1) := by decide +kernel
theorem dX7_more_8 : decode cX7_more 8 = .ok (.iload_n 2, 1) := by decide +kernel
theorem dX7_more_9 : decode cX7_more 9 = .ok (.bipush 21, 2) := by decide +kernel
theorem dX7_more_11 : decode cX7_more 11 = .ok (.iushr, 1) := by decide +kernel
theorem dX7_more_12 : decode cX7_more 12 = .ok (.ior, 1) := by decide +kernel
theorem dX7_more_13 : decode cX7_more 13 = .ok (.ldc 70, 2) := by decide +kernel
theorem dX7_more_15 : decode cX7_more 15 = .ok (.imul, 1) := by decide +kernel
theorem dX7_more_16 : decode cX7_more 16 = .ok (.ireturn, 1) := by decide +kernel
theorem dX7_copy_0 : decode cX7_copy 0 = .ok (.aload_n 0, 1) := by decide +kernel
theorem dX7_copy_1 : decode cX7_copy 1 = .ok (.getfield 7, 3) := by decide +kernel
theorem dX7_copy_4 : decode cX7_copy 4 = .ok (.iload_n 1, 1) := by decide +kernel
theorem dX7_copy_5 : decode cX7_copy 5 = .ok (.aload_n 0, 1) := by decide +kernel
theorem dX7_copy_6 : decode cX7_copy 6 = .ok (.getfield 7, 3) := by decide +kernel
theorem dX7_copy_9 : decode cX7_copy 9 = .ok (.iload_n 2, 1) := by decide +kernel
theorem dX7_copy_10 : decode cX7_copy 10 = .ok (.iaload, 1) := by decide +kernel
theorem dX7_copy_11 : decode cX7_copy 11 = .ok (.iastore, 1) := by decide +kernel
theorem dX7_copy_12 : decode cX7_copy 12 = .ok (.aload_n 0, 1) := by decide +kernel
theorem dX7_copy_13 : decode cX7_copy 13 = .ok (.getfield 38, 3) := by decide +kernel
theorem dX7_copy_16 : decode cX7_copy 16 = .ok (.iload_n 1, 1) := by decide +kernel
theorem dX7_copy_17 : decode cX7_copy 17 = .ok (.aload_n 0, 1) := by decide +kernel
theorem dX7_copy_18 : decode cX7_copy 18 = .ok (.getfield 38, 3) := by decide +kernel
theorem dX7_copy_21 : decode cX7_copy 21 = .ok (.iload_n 2, 1) := by decide +kernel
theorem dX7_copy_22 : decode cX7_copy 22 = .ok (.iaload, 1) := by decide +kernel
theorem dX7_copy_23 : decode cX7_copy 23 = .ok (.iastore, 1) := by decide +kernel
theorem dX7_copy_24 : decode cX7_copy 24 = .ok (.aload_n 0, 1) := by decide +kernel
theorem dX7_copy_25 : decode cX7_copy 25 = .ok (.getfield 44, 3) := by decide +kernel
theorem dX7_copy_28 : decode cX7_copy 28 = .ok (.iload_n 1, 1) := by decide +kernel
theorem dX7_copy_29 : decode cX7_copy 29 = .ok (.aload_n 0, 1) := by decide +kernel
theorem dX7_copy_30 : decode cX7_copy 30 = .ok (.getfield 44, 3) := by decide +kernel
theorem dX7_copy_33 : decode cX7_copy 33 = .ok (.iload_n 2, 1) := by decide +kernel
theorem dX7_copy_34 : decode cX7_copy 34 = .ok (.iaload, 1) := by decide +kernel
theorem dX7_copy_35 : decode cX7_copy 35 = .ok (.iastore, 1) := by decide +kernel
theorem dX7_copy_36 : decode cX7_copy 36 = .ok (.iconst 0, 1) := by decide +kernel
theorem dX7_copy_37 : decode cX7_copy 37 = .ok (.istore_n 3, 1) := by decide +kernel
theorem dX7_copy_38 : decode cX7_copy 38 = .ok (.iload_n 3, 1) := by decide +kernel
theorem dX7_copy_39 : decode cX7_copy 39 = .ok (.sipush 400, 3) := by decide +kernel
theorem dX7_copy_42 : decode cX7_copy 42 = .ok (.if_icmp .ge 105, 3) := by decide +kernel
theorem dX7_copy_45 : decode cX7_copy 45 = .ok (.aload_n 0, 1) := by decide +kernel
theorem dX7_copy_46 : decode cX7_copy 46 = .ok (.getfield 13, 3) := by decide +kernel
theorem dX7_copy_49 : decode cX7_copy 49 = .ok (.sipush 400, 3) := by decide +kernel
theorem dX7_copy_52 : decode cX7_copy 52 = .ok (.iload_n 1, 1) := by decide +kernel
theorem dX7_copy_53 : decode cX7_copy 53 = .ok (.imul, 1) := by decide +kernel
theorem dX7_copy_54 : decode cX7_copy 54 = .ok (.iload_n 3, 1) := by decide +kernel
theorem dX7_copy_55 : decode cX7_copy 55 = .ok (.iadd, 1) := by decide +kernel
theorem dX7_copy_56 : decode cX7_copy 56 = .ok (.aload_n 0, 1) := by decide +kernel
theorem dX7_copy_57 : decode cX7_copy 57 = .ok (.getfield 13, 3) := by decide +kernel
theorem dX7_copy_60 : decode cX7_copy 60 = .ok (.sipush 400, 3) := by decide +kernel
theorem dX7_copy_63 : decode cX7_copy 63 = .ok (.iload_n 2, 1) := by decide +kernel
theorem dX7_copy_64 : decode cX7_copy 64 = .ok (.imul, 1) := by decide +kernel
theorem dX7_copy_65 : decode cX7_copy 65 = .ok (.iload_n 3, 1) := by decide +kernel
theorem dX7_copy_66 : decode cX7_copy 66 = .ok (.iadd, 1) := by decide +kernel
theorem dX7_copy_67 : decode cX7_copy 67 = .ok (.iaload, 1) := by decide +kernel
theorem dX7_copy_68 : decode cX7_copy 68 = .ok (.iastore, 1) := by decide +kernel
theorem dX7_copy_69 : decode cX7_copy 69 = .ok (.aload_n 0, 1) := by decide +kernel
theorem dX7_copy_70 : decode cX7_copy 70 = .ok (.getfield 19, 3) := by decide +kernel
theorem dX7_copy_73 : decode cX7_copy 73 = .ok (.sipush 400, 3) := by decide +kernel
theorem dX7_copy_76 : decode cX7_copy 76 = .ok (.iload_n 1, 1) := by decide +kernel
theorem dX7_copy_77 : decode cX7_copy 77 = .ok (.imul, 1) := by decide +kernel
theorem dX7_copy_78 : decode cX7_copy 78 = .ok (.iload_n 3, 1) := by decide +kernel
theorem dX7_copy_79 : decode cX7_copy 79 = .ok (.iadd, 1) := by decide +kernel
theorem dX7_copy_80 : decode cX7_copy 80 = .ok (.aload_n 0, 1) := by decide +kernel
theorem dX7_copy_81 : decode cX7_copy 81 = .ok (.getfield 19, 3) := by decide +kernel
theorem dX7_copy_84 : decode cX7_copy 84 = .ok (.sipush 400, 3) := by decide +kernel
theorem dX7_copy_87 : decode cX7_copy 87 = .ok (.iload_n 2, 1) := by decide +kernel
theorem dX7_copy_88 : decode cX7_copy 88 = .ok (.imul, 1) := by decide +kernel
theorem dX7_copy_89 : decode cX7_copy 89 = .ok (.iload_n 3, 1) := by decide +kernel
theorem dX7_copy_90 : decode cX7_copy 90 = .ok (.iadd, 1) := by decide +kernel
theorem dX7_copy_91 : decode cX7_copy 91 = .ok (.iaload, 1) := by decide +kernel
theorem dX7_copy_92 : decode cX7_copy 92 = .ok (.iastore, 1) := by decide +kernel
theorem dX7_copy_93 : decode cX7_copy 93 = .ok (.aload_n 0, 1) := by decide +kernel
theorem dX7_copy_94 : decode cX7_copy 94 = .ok (.getfield 22, 3) := by decide +kernel
theorem dX7_copy_97 : decode cX7_copy 97 = .ok (.sipush 400, 3) := by decide +kernel
theorem dX7_copy_100 : decode cX7_copy 100 = .ok (.iload_n 1, 1) := by decide +kernel
theorem dX7_copy_101 : decode cX7_copy 101 = .ok (.imul, 1) := by decide +kernel
theorem dX7_copy_102 : decode cX7_copy 102 = .ok (.iload_n 3, 1) := by decide +kernel
theorem dX7_copy_103 : decode cX7_copy 103 = .ok (.iadd, 1) := by decide +kernel
theorem dX7_copy_104 : decode cX7_copy 104 = .ok (.aload_n 0, 1) := by decide +kernel
theorem dX7_copy_105 : decode cX7_copy 105 = .ok (.getfield 22, 3) := by decide +kernel
theorem dX7_copy_108 : decode cX7_copy 108 = .ok (.sipush 400, 3) := by decide +kernel
theorem dX7_copy_111 : decode cX7_copy 111 = .ok (.iload_n 2, 1) := by decide +kernel
theorem dX7_copy_112 : decode cX7_copy 112 = .ok (.imul, 1) := by decide +kernel
theorem dX7_copy_113 : decode cX7_copy 113 = .ok (.iload_n 3, 1) := by decide +kernel
theorem dX7_copy_114 : decode cX7_copy 114 = .ok (.iadd, 1) := by decide +kernel
theorem dX7_copy_115 : decode cX7_copy 115 = .ok (.iaload, 1) := by decide +kernel
theorem dX7_copy_116 : decode cX7_copy 116 = .ok (.iastore, 1) := by decide +kernel
theorem dX7_copy_117 : decode cX7_copy 117 = .ok (.aload_n 0, 1) := by decide +kernel
theorem dX7_copy_118 : decode cX7_copy 118 = .ok (.getfield 35, 3) := by decide +kernel
theorem dX7_copy_121 : decode cX7_copy 121 = .ok (.sipush 400, 3) := by decide +kernel
theorem dX7_copy_124 : decode cX7_copy 124 = .ok (.iload_n 1, 1) := by decide +kernel
theorem dX7_copy_125 : decode cX7_copy 125 = .ok (.imul, 1) := by decide +kernel
theorem dX7_copy_126 : decode cX7_copy 126 = .ok (.iload_n 3, 1) := by decide +kernel
theorem dX7_copy_127 : decode cX7_copy 127 = .ok (.iadd, 1) := by decide +kernel
theorem dX7_copy_128 : decode cX7_copy 128 = .ok (.aload_n 0, 1) := by decide +kernel
theorem dX7_copy_129 : decode cX7_copy 129 = .ok (.getfield 35, 3) := by decide +kernel
theorem dX7_copy_132 : decode cX7_copy 132 = .ok (.sipush 400, 3) := by decide +kernel
theorem dX7_copy_135 : decode cX7_copy 135 = .ok (.iload_n 2, 1) := by decide +kernel
theorem dX7_copy_136 : decode cX7_copy 136 = .ok (.imul, 1) := by decide +kernel
theorem dX7_copy_137 : decode cX7_copy 137 = .ok (.iload_n 3, 1) := by decide +kernel
theorem dX7_copy_138 : decode cX7_copy 138 = .ok (.iadd, 1) := by decide +kernel
theorem dX7_copy_139 : decode cX7_copy 139 = .ok (.iaload, 1) := by decide +kernel
theorem dX7_copy_140 : decode cX7_copy 140 = .ok (.iastore, 1) := by decide +kernel
theorem dX7_copy_141 : decode cX7_copy 141 = .ok (.iinc 3 1, 3) := by decide +kernel
theorem dX7_copy_144 : decode cX7_copy 144 = .ok (.goto (-106), 3) := by decide +kernel
theorem dX7_copy_147 : decode cX7_copy 147 = .ok (.iconst 0, 1) := by decide +kernel
theorem dX7_copy_148 : decode cX7_copy 148 = .ok (.istore_n 3, 1) := by decide +kernel
theorem dX7_copy_149 : decode cX7_copy 149 = .ok (.iload_n 3, 1) := by decide +kernel
theorem dX7_copy_150 : decode cX7_copy 150 = .ok (.sipush 4800, 3) := by decide +kernel
theorem dX7_copy_153 : decode cX7_copy 153 = .ok (.if_icmp .ge 33, 3) := by decide +kernel
theorem dX7_copy_156 : decode cX7_copy 156 = .ok (.aload_n 0, 1) := by decide +kernel
theorem dX7_copy_157 : decode cX7_copy 157 = .ok (.getfield 16, 3) := by decide +kernel
theorem dX7_copy_160 : decode cX7_copy 160 = .ok (.sipush 4800, 3) := by decide +kernel
theorem dX7_copy_163 : decode cX7_copy 163 = .ok (.iload_n 1, 1) := by decide +kernel
theorem dX7_copy_164 : decode cX7_copy 164 = .ok (.imul, 1) := by decide +kernel
theorem dX7_copy_165 : decode cX7_copy 165 = .ok (.iload_n 3, 1) := by decide +kernel
theorem dX7_copy_166 : decode cX7_copy 166 = .ok (.iadd, 1) := by decide +kernel
theorem dX7_copy_167 : decode cX7_copy 167 = .ok (.aload_n 0, 1) := by decide +kernel
theorem dX7_copy_168 : decode cX7_copy 168 = .ok (.getfield 16, 3) := by decide +kernel
theorem dX7_copy_171 : decode cX7_copy 171 = .ok (.sipush 4800, 3) := by decide +kernel
theorem dX7_copy_174 : decode cX7_copy 174 = .ok (.iload_n 2, 1) := by decide +kernel
theorem dX7_copy_175 : decode cX7_copy 175 = .ok (.imul, 1) := by decide +kernel
theorem dX7_copy_176 : decode cX7_copy 176 = .ok (.iload_n 3, 1) := by decide +kernel
theorem dX7_copy_177 : decode cX7_copy 177 = .ok (.iadd, 1) := by decide +kernel
theorem dX7_copy_178 : decode cX7_copy 178 = .ok (.iaload, 1) := by decide +kernel
theorem dX7_copy_179 : decode cX7_copy 179 = .ok (.iastore, 1) := by decide +kernel
theorem dX7_copy_180 : decode cX7_copy 180 = .ok (.iinc 3 1, 3) := by decide +kernel
theorem dX7_copy_183 : decode cX7_copy 183 = .ok (.goto (-34), 3) := by decide +kernel
theorem dX7_copy_186 : decode cX7_copy 186 = .ok (.iconst 0, 1) := by decide +kernel
theorem dX7_copy_187 : decode cX7_copy 187 = .ok (.istore_n 3, 1) := by decide +kernel
theorem dX7_copy_188 : decode cX7_copy 188 = .ok (.iload_n 3, 1) := by decide +kernel
theorem dX7_copy_189 : decode cX7_copy 189 = .ok (.bipush 40, 2) := by decide +kernel
theorem dX7_copy_191 : decode cX7_copy 191 = .ok (.if_icmp .ge 75, 3) := by decide +kernel
theorem dX7_copy_194 : decode cX7_copy 194 = .ok (.aload_n 0, 1) := by decide +kernel
theorem dX7_copy_195 : decode cX7_copy 195 = .ok (.getfield 25, 3) := by decide +kernel
theorem dX7_copy_198 : decode cX7_copy 198 = .ok (.bipush 40, 2) := by decide +kernel
theorem dX7_copy_200 : decode cX7_copy 200 = .ok (.iload_n 1, 1) := by decide +kernel
theorem dX7_copy_201 : decode cX7_copy 201 = .ok (.imul, 1) := by decide +kernel
theorem dX7_copy_202 : decode cX7_copy 202 = .ok (.iload_n 3, 1) := by decide +kernel
theorem dX7_copy_203 : decode cX7_copy 203 = .ok (.iadd, 1) := by decide +kernel
theorem dX7_copy_204 : decode cX7_copy 204 = .ok (.aload_n 0, 1) := by decide +kernel
theorem dX7_copy_205 : decode cX7_copy 205 = .ok (.getfield 25, 3) := by decide +kernel
theorem dX7_copy_208 : decode cX7_copy 208 = .ok (.bipush 40, 2) := by decide +kernel
theorem dX7_copy_210 : decode cX7_copy 210 = .ok (.iload_n 2, 1) := by decide +kernel
theorem dX7_copy_211 : decode cX7_copy 211 = .ok (.imul, 1) := by decide +kernel
theorem dX7_copy_212 : decode cX7_copy 212 = .ok (.iload_n 3, 1) := by decide +kernel
theorem dX7_copy_213 : decode cX7_copy 213 = .ok (.iadd, 1) := by decide +kernel
theorem dX7_copy_214 : decode cX7_copy 214 = .ok (.iaload, 1) := by decide +kernel
theorem dX7_copy_215 : decode cX7_copy 215 = .ok (.iastore, 1) := by decide +kernel
theorem dX7_copy_216 : decode cX7_copy 216 = .ok (.aload_n 0, 1) := by decide +kernel
theorem dX7_copy_217 : decode cX7_copy 217 = .ok (.getfield 28, 3) := by decide +kernel
theorem dX7_copy_220 : decode cX7_copy 220 = .ok (.bipush 40, 2) := by decide +kernel
theorem dX7_copy_222 : decode cX7_copy 222 = .ok (.iload_n 1, 1) := by decide +kernel
theorem dX7_copy_223 : decode cX7_copy 223 = .ok (.imul, 1) := by decide +kernel
theorem dX7_copy_224 : decode cX7_copy 224 = .ok (.iload_n 3, 1) := by decide +kernel
theorem dX7_copy_225 : decode cX7_copy 225 = .ok (.iadd, 1) := by decide +kernel
theorem dX7_copy_226 : decode cX7_copy 226 = .ok (.aload_n 0, 1) := by decide +kernel
theorem dX7_copy_227 : decode cX7_copy 227 = .ok (.getfield 28, 3) := by decide +kernel
theorem dX7_copy_230 : decode cX7_copy 230 = .ok (.bipush 40, 2) := by decide +kernel
theorem dX7_copy_232 : decode cX7_copy 232 = .ok (.iload_n 2, 1) := by decide +kernel
theorem dX7_copy_233 : decode cX7_copy 233 = .ok (.imul, 1) := by decide +kernel
theorem dX7_copy_234 : decode cX7_copy 234 = .ok (.iload_n 3, 1) := by decide +kernel
theorem dX7_copy_235 : decode cX7_copy 235 = .ok (.iadd, 1) := by decide +kernel
theorem dX7_copy_236 : decode cX7_copy 236 = .ok (.baload, 1) := by decide +kernel
theorem dX7_copy_237 : decode cX7_copy 237 = .ok (.bastore, 1) := by decide +kernel
theorem dX7_copy_238 : decode cX7_copy 238 = .ok (.aload_n 0, 1) := by decide +kernel
theorem dX7_copy_239 : decode cX7_copy 239 = .ok (.getfield 32, 3) := by decide +kernel
theorem dX7_copy_242 : decode cX7_copy 242 = .ok (.bipush 40, 2) := by decide +kernel
theorem dX7_copy_244 : decode cX7_copy 244 = .ok (.iload_n 1, 1) := by decide +kernel
theorem dX7_copy_245 : decode cX7_copy 245 = .ok (.imul, 1) := by decide +kernel
theorem dX7_copy_246 : decode cX7_copy 246 = .ok (.iload_n 3, 1) := by decide +kernel
theorem dX7_copy_247 : decode cX7_copy 247 = .ok (.iadd, 1) := by decide +kernel
theorem dX7_copy_248 : decode cX7_copy 248 = .ok (.aload_n 0, 1) := by decide +kernel
theorem dX7_copy_249 : decode cX7_copy 249 = .ok (.getfield 32, 3) := by decide +kernel
theorem dX7_copy_252 : decode cX7_copy 252 = .ok (.bipush 40, 2) := by decide +kernel
theorem dX7_copy_254 : decode cX7_copy 254 = .ok (.iload_n 2, 1) := by decide +kernel
theorem dX7_copy_255 : decode cX7_copy 255 = .ok (.imul, 1) := by decide +kernel
theorem dX7_copy_256 : decode cX7_copy 256 = .ok (.iload_n 3, 1) := by decide +kernel
theorem dX7_copy_257 : decode cX7_copy 257 = .ok (.iadd, 1) := by decide +kernel
theorem dX7_copy_258 : decode cX7_copy 258 = .ok (.iaload, 1) := by decide +kernel
theorem dX7_copy_259 : decode cX7_copy 259 = .ok (.iastore, 1) := by decide +kernel
theorem dX7_copy_260 : decode cX7_copy 260 = .ok (.iinc 3 1, 3) := by decide +kernel
theorem dX7_copy_263 : decode cX7_copy 263 = .ok (.goto (-75), 3) := by decide +kernel
theorem dX7_copy_266 : decode cX7_copy 266 = .ok (.iconst 0, 1) := by decide +kernel
theorem dX7_copy_267 : decode cX7_copy 267 = .ok (.istore_n 3, 1) := by decide +kernel
theorem dX7_copy_268 : decode cX7_copy 268 = .ok (.iload_n 3, 1) := by decide +kernel
theorem dX7_copy_269 : decode cX7_copy 269 = .ok (.bipush 32, 2) := by decide +kernel
theorem dX7_copy_271 : decode cX7_copy 271 = .ok (.if_icmp .ge 31, 3) := by decide +kernel
theorem dX7_copy_274 : decode cX7_copy 274 = .ok (.aload_n 0, 1) := by decide +kernel
theorem dX7_copy_275 : decode cX7_copy 275 = .ok (.getfield 41, 3) := by decide +kernel
theorem dX7_copy_278 : decode cX7_copy 278 = .ok (.bipush 32, 2) := by decide +kernel
theorem dX7_copy_280 : decode cX7_copy 280 = .ok (.iload_n 1, 1) := by decide +kernel
theorem dX7_copy_281 : decode cX7_copy 281 = .ok (.imul, 1) := by decide +kernel
theorem dX7_copy_282 : decode cX7_copy 282 = .ok (.iload_n 3, 1) := by decide +kernel
theorem dX7_copy_283 : decode cX7_copy 283 = .ok (.iadd, 1) := by decide +kernel
theorem dX7_copy_284 : decode cX7_copy 284 = .ok (.aload_n 0, 1) := by decide +kernel
theorem dX7_copy_285 : decode cX7_copy 285 = .ok (.getfield 41, 3) := by decide +kernel
theorem dX7_copy_288 : decode cX7_copy 288 = .ok (.bipush 32, 2) := by decide +kernel
theorem dX7_copy_290 : decode cX7_copy 290 = .ok (.iload_n 2, 1) := by decide +kernel
theorem dX7_copy_291 : decode cX7_copy 291 = .ok (.imul, 1) := by decide +kernel
theorem dX7_copy_292 : decode cX7_copy 292 = .ok (.iload_n 3, 1) := by decide +kernel
